/-! layer 2: the steps of a week, both sides -/
noncomputable def wEnd (w : Nat) (s2 : fSt) : Option (Int32 × fSt) :=
  if (gI s2 9 w 7) = 0 then fBo ((1 : Int32)) (some ((1 : Int32), s2)) else (fBd (f_X5_failHere s2) fun x9 s10 => if x9 = 0 then fBo ((0 : Int32)) (some ((0 : Int32), s10)) else fBo ((1 : Int32)) (some ((1 : Int32), s10)))
theorem rdF_eq (w q : Nat) (st : fSt) : f_X9_readFrom w q st = f_X9_readFrom_L2 w q (wEnd w) fF ((0 : Int32)) st := rfl
def JJ (k p so : Nat) : Prop := k ≤ p ∧ (¬ so = 35 → k < p)
def V5 (V : Nat → Nat) (j K A T C N : Nat) : Nat → Nat := fun x => if x = 219 + 7 * j then K else if x = 220 + 7 * j then A else if x = 221 + 7 * j then T else if x = 222 + 7 * j then C else if x = 223 + 7 * j then N else V x
def V6 (V : Nat → Nat) (j z : Nat) : Nat → Nat := fun x => if x = 225 + 7 * j then z else V x
def stB (q w i j a k : Nat) (s t : fSt) (M : Option (Unit × fSt)) : Prop := ∃ s' t' d e, flR s' t' d e ∧ xV w (fun _ => True) (stD i a) s s' ∧ yV (eW j) t t' ∧ (∀ F, 310 ≤ F + k → f_X9_readFrom_L2 w q (wEnd w) F (nI k) s = some (nI 0, s')) ∧ M = some ((), t')
def stG (n : Nat) (c : Nat → Nat) (q w i j a k : Nat) (V : Nat → Nat) (s t : fSt) (M : Option (Unit × fSt)) : Prop := ∃ s' t' V' i' j' u a' p' so', psR s' t' n c a' p' so' ∧ JJ (k + u) p' so' ∧ (∀ x, x < 219 + 7 * j → V' x = V x) ∧ cel t' V' j j' ∧ j < j' ∧ (∃ m, rBod s' w V' m (3 - a) j j' i i') ∧ wkZ w i' j' a s' t' ∧ xV w (fun _ => True) (stD i a) s s' ∧ yV (eW j) t t' ∧ (∀ F, f_X9_readFrom_L2 w q (wEnd w) (F + u) (nI k) s = f_X9_readFrom_L2 w q (wEnd w) F (nI (k + u)) s') ∧ M = some ((), t')
def bdB (q w i j a k Fm : Nat) (rec : Int32 → fSt → Option (Unit × fSt)) (s t : fSt) : Prop := ∃ s' t' d e, flR s' t' d e ∧ xV w (fun _ => True) (stD i (a + 1)) s s' ∧ yV (eW j) t t' ∧ (∀ F, 310 ≤ F + k → f_X9_readFrom_L2 w q (wEnd w) F (nI k) s = some (nI 0, s')) ∧ ∀ k23, f_X12_readStep_L141 rec (nI a) (nI 1) k23 Fm t = k23 t'
def bdG (n : Nat) (c : Nat → Nat) (q w i j a k Fm : Nat) (rec : Int32 → fSt → Option (Unit × fSt)) (V : Nat → Nat) (s t : fSt) : Prop := ∃ s' t' V' i' j' u a' p', psR s' t' n c a' p' 30 ∧ JJ (k + u) p' 30 ∧ (∀ x, x < 219 + 7 * j → V' x = V x) ∧ cel t' V' j j' ∧ j ≤ j' ∧ (∃ m, rBod s' w V' m (2 - a) j j' i i') ∧ wkZ w i' j' (a + 1) s' t' ∧ xV w (fun _ => True) (stD i (a + 1)) s s' ∧ yV (eW j) t t' ∧ (∀ F, f_X9_readFrom_L2 w q (wEnd w) (F + u) (nI k) s = f_X9_readFrom_L2 w q (wEnd w) F (nI (k + u)) s') ∧ ∀ k23, f_X12_readStep_L141 rec (nI a) (nI 1) k23 Fm t = k23 t'
section
variable {n : Nat} {c : Nat → Nat} {G : Nat → Nat} {w q : Nat}
-- the class's turns
theorem wl_step {s : fSt} {k so : Nat} (hk : k < 300) (hso : gI s 5 0 6 = nI so) (h : ¬ so = 30 ∧ ¬ so = 35 ∧ so < 64) (k3 : fSt → Option (Int32 × fSt)) (F : Nat) : f_X9_readFrom_L2 w q k3 (F + 1) (nI k) s = fBd (f_X9_readStep w q s) fun x s' => if ¬ x = nI 0 then f_X9_readFrom_L2 w q k3 F (nI (k + 1)) s' else some (nI 0, s') := by
  have h3 : ¬ 300 ≤ k := by omega
  obtain ⟨h30, h35, h64⟩ := h
  conv => lhs; unfold f_X9_readFrom_L2
  simp (disch := omega) only [↓fLt_e, fBd_s, ↓fJn_s, fNn_s, fNu_0, fNu_s, fBo_0, fBo_1, fBo_b, i_lit, i_neg1, nI_add, pk_mul, nI_clamp, i_le, i_lt, i_eq, fIx_n, nI_mI, mI_nI, mI_lt, nI_lt_m, mI_le, nI_le_m, xI_0, xI_s, bI_0, bI_1, bI_t, bI_f, n_31, j_bit, j_one, i_and, i_or, Nat.not_lt_zero, Nat.succ_ne_zero, Nat.add_one_ne_zero, Nat.add_one_sub_one, Nat.zero_le, Nat.or_zero, Nat.zero_or, Bool.not_true, Bool.not_false, Bool.true_and, Bool.false_and, Bool.and_true, Bool.and_false, ↓reduceIte, if_true, if_false, not_true_eq_false, not_false_eq_true, true_and, and_true, false_and, and_false, and_self, true_or, or_true, false_or, or_false, Nat.reduceEqDiff, Nat.reduceLT, Nat.reduceLeDiff, Nat.reduceAdd, Nat.reduceMul, Nat.reduceSub, Nat.add_zero, Nat.zero_add, Nat.mul_zero, Nat.zero_mul, ne_eq, Bool.not_eq_true, Bool.not_eq_false, reduceCtorEq, decide_true, decide_false, decide_eq_true_eq, decide_eq_false_iff_not, Bool.false_eq_true, if_pos, if_neg, hso, h3, h30, h35]
theorem wl_endw {s : fSt} {k : Nat} (hk : k < 300) (hso : gI s 5 0 6 = nI 30) (k3 : fSt → Option (Int32 × fSt)) (F : Nat) : f_X9_readFrom_L2 w q k3 (F + 1) (nI k) s = fBd (f_X9_readEnd w s) fun x s' => if ¬ x = nI 0 then f_X9_readFrom_L2 w q k3 F (nI (k + 1)) s' else some (nI 0, s') := by
  have h3 : ¬ 300 ≤ k := by omega
  conv => lhs; unfold f_X9_readFrom_L2
  simp (disch := omega) only [↓fLt_e, fBd_s, ↓fJn_s, fNn_s, fNu_0, fNu_s, fBo_0, fBo_1, fBo_b, i_lit, i_neg1, nI_add, pk_mul, nI_clamp, i_le, i_lt, i_eq, fIx_n, nI_mI, mI_nI, mI_lt, nI_lt_m, mI_le, nI_le_m, xI_0, xI_s, bI_0, bI_1, bI_t, bI_f, n_31, j_bit, j_one, i_and, i_or, Nat.not_lt_zero, Nat.succ_ne_zero, Nat.add_one_ne_zero, Nat.add_one_sub_one, Nat.zero_le, Nat.or_zero, Nat.zero_or, Bool.not_true, Bool.not_false, Bool.true_and, Bool.false_and, Bool.and_true, Bool.and_false, ↓reduceIte, if_true, if_false, not_true_eq_false, not_false_eq_true, true_and, and_true, false_and, and_false, and_self, true_or, or_true, false_or, or_false, Nat.reduceEqDiff, Nat.reduceLT, Nat.reduceLeDiff, Nat.reduceAdd, Nat.reduceMul, Nat.reduceSub, Nat.add_zero, Nat.zero_add, Nat.mul_zero, Nat.zero_mul, ne_eq, Bool.not_eq_true, Bool.not_eq_false, reduceCtorEq, decide_true, decide_false, decide_eq_true_eq, decide_eq_false_iff_not, Bool.false_eq_true, if_pos, if_neg, hso, h3]
theorem wl_35 {s : fSt} {k : Nat} (hk : k ≤ 300) (hso : gI s 5 0 6 = nI 35) (k3 : fSt → Option (Int32 × fSt)) (F : Nat) : f_X9_readFrom_L2 w q k3 (F + 1) (nI k) s = k3 s := by
  conv => lhs; unfold f_X9_readFrom_L2
  by_cases h3 : 300 ≤ k
  · simp (disch := omega) only [↓fLt_e, fBd_s, ↓fJn_s, fNn_s, fNu_0, fNu_s, fBo_0, fBo_1, fBo_b, i_lit, i_neg1, nI_add, pk_mul, nI_clamp, i_le, i_lt, i_eq, fIx_n, nI_mI, mI_nI, mI_lt, nI_lt_m, mI_le, nI_le_m, xI_0, xI_s, bI_0, bI_1, bI_t, bI_f, n_31, j_bit, j_one, i_and, i_or, Nat.not_lt_zero, Nat.succ_ne_zero, Nat.add_one_ne_zero, Nat.add_one_sub_one, Nat.zero_le, Nat.or_zero, Nat.zero_or, Bool.not_true, Bool.not_false, Bool.true_and, Bool.false_and, Bool.and_true, Bool.and_false, ↓reduceIte, if_true, if_false, not_true_eq_false, not_false_eq_true, true_and, and_true, false_and, and_false, and_self, true_or, or_true, false_or, or_false, Nat.reduceEqDiff, Nat.reduceLT, Nat.reduceLeDiff, Nat.reduceAdd, Nat.reduceMul, Nat.reduceSub, Nat.add_zero, Nat.zero_add, Nat.mul_zero, Nat.zero_mul, ne_eq, Bool.not_eq_true, Bool.not_eq_false, reduceCtorEq, decide_true, decide_false, decide_eq_true_eq, decide_eq_false_iff_not, Bool.false_eq_true, if_pos, if_neg, h3]
  · simp (disch := omega) only [↓fLt_e, fBd_s, ↓fJn_s, fNn_s, fNu_0, fNu_s, fBo_0, fBo_1, fBo_b, i_lit, i_neg1, nI_add, pk_mul, nI_clamp, i_le, i_lt, i_eq, fIx_n, nI_mI, mI_nI, mI_lt, nI_lt_m, mI_le, nI_le_m, xI_0, xI_s, bI_0, bI_1, bI_t, bI_f, n_31, j_bit, j_one, i_and, i_or, Nat.not_lt_zero, Nat.succ_ne_zero, Nat.add_one_ne_zero, Nat.add_one_sub_one, Nat.zero_le, Nat.or_zero, Nat.zero_or, Bool.not_true, Bool.not_false, Bool.true_and, Bool.false_and, Bool.and_true, Bool.and_false, ↓reduceIte, if_true, if_false, not_true_eq_false, not_false_eq_true, true_and, and_true, false_and, and_false, and_self, true_or, or_true, false_or, or_false, Nat.reduceEqDiff, Nat.reduceLT, Nat.reduceLeDiff, Nat.reduceAdd, Nat.reduceMul, Nat.reduceSub, Nat.add_zero, Nat.zero_add, Nat.mul_zero, Nat.zero_mul, ne_eq, Bool.not_eq_true, Bool.not_eq_false, reduceCtorEq, decide_true, decide_false, decide_eq_true_eq, decide_eq_false_iff_not, Bool.false_eq_true, if_pos, if_neg, hso, h3]
noncomputable def eSt (w a i m : Nat) (s : fSt) : fSt := sA (sI (sA (sA (sI s 9 w 7 (nI a)) 9 w 4 (upd (gA s 9 w 4) i (nI m))) 9 w 4 (upd (upd (gA s 9 w 4) i (nI m)) m (nI i))) 9 w 0 (nI (m + 1))) 9 w 1 (upd (gA s 9 w 1) m (nI 30))
theorem x_readEnd {s : fSt} {a i m : Nat} (hm : m < 60) (ha : a < 3) (hi : i < 60) (h0 : gI s 9 w 0 = nI m) (h7 : gI s 9 w 7 = nI (a + 1)) (h5 : gA s 9 w 5 a = nI i) : f_X9_readEnd w s = fBd (f_X5_advance (eSt w a i m s)) fun _ s13 => fBd (f_X5_take (nI 59) s13) fun x s => fBo x (some (x, s)) := by
  have i3 := x_isIn (nI (a + 1)) (nI 1) (nI 3) s
  rw [nI_toInt (by omega), nI_toInt (by omega), nI_toInt (by omega), inB_t.mpr (by omega)] at i3
  have e : nI (a + 1) - nI 1 = nI a := by
    rw [nI_sub (by omega)]
    rfl
  unfold f_X9_readEnd eSt
  simp (disch := omega) only [gI_sI, gL_sL, gA_sA, gB_sB, gP_sP, gI_sL, gI_sA, gI_sB, gI_sP, gL_sI, gL_sA, gL_sB, gL_sP, gA_sI, gA_sL, gA_sB, gA_sP, gB_sI, gB_sL, gB_sA, gB_sP, gP_sI, gP_sL, gP_sA, gP_sB, fLt_e, fBd_s, fJn_s, fNn_s, fNu_0, fNu_s, fBo_0, fBo_1, fBo_b, i_lit, i_neg1, nI_add, pk_mul, nI_clamp, i_le, i_lt, i_eq, fIx_n, nI_mI, mI_nI, mI_lt, nI_lt_m, mI_le, nI_le_m, xI_0, xI_s, bI_0, bI_1, bI_t, bI_f, n_31, j_bit, j_one, i_and, i_or, Nat.not_lt_zero, Nat.succ_ne_zero, Nat.add_one_ne_zero, Nat.add_one_sub_one, Nat.zero_le, Nat.or_zero, Nat.zero_or, Bool.not_true, Bool.not_false, Bool.true_and, Bool.false_and, Bool.and_true, Bool.and_false, ↓reduceIte, if_true, if_false, not_true_eq_false, not_false_eq_true, true_and, and_true, false_and, and_false, and_self, true_or, or_true, false_or, or_false, Nat.reduceEqDiff, Nat.reduceLT, Nat.reduceLeDiff, Nat.reduceAdd, Nat.reduceMul, Nat.reduceSub, Nat.add_zero, Nat.zero_add, Nat.mul_zero, Nat.zero_mul, ne_eq, Bool.not_eq_true, Bool.not_eq_false, reduceCtorEq, decide_true, decide_false, decide_eq_true_eq, decide_eq_false_iff_not, Bool.false_eq_true, if_pos, if_neg, h7, i3, h0, hm, e, h5]
theorem SF_fr {i x K A T C N : Nat} {s s' t t' : fSt} (h : SF G w i x s t K A T C N) (hA : ∀ k, 1 ≤ k → k ≤ 3 → gA s' 9 w k i = gA s 9 w k i) (hc : ∀ m, x ≤ m → m ≤ x + 4 → gA t' 12 0 5 m = gA t 12 0 5 m) : SF G w i x s' t' K A T C N := by
  unfold SF at *
  rw [hA 1 (by omega) (by omega), hA 2 (by omega) (by omega), hA 3 (by omega) (by omega), hc x (by omega) (by omega), hc (x + 1) (by omega) (by omega), hc (x + 2) (by omega) (by omega), hc (x + 3) (by omega) (by omega), hc (x + 4) (by omega) (by omega)]
  exact h
theorem cel_1 {V : Nat → Nat} {i j K A T C N z : Nat} {s t : fSt} (h : SF G w i (1939 + 7 * j) s t K A T C N) (hz : gA t 12 0 5 (1945 + 7 * j) = nI z) (g0 : V (219 + 7 * j) = K) (g1 : V (220 + 7 * j) = A) (g2 : V (221 + 7 * j) = T) (g3 : V (222 + 7 * j) = C) (g4 : V (223 + 7 * j) = N) (g6 : V (225 + 7 * j) = z) : cel t V j (j + 1) := by
  intro x h1 h2
  obtain rfl : x = j := by omega
  obtain ⟨⟨c0, c1, c2⟩, -⟩ := h
  rw [g0, g1, g2, g3, g4, g6]
  refine ⟨⟨c0, ?_, hz⟩, fun hk => ⟨?_, fun ht => ⟨?_, ?_⟩⟩⟩
  · rw [show 1940 + 7 * x = 1939 + 7 * x + 1 by omega]; exact c1
  · rw [show 1941 + 7 * x = 1939 + 7 * x + 2 by omega]; exact (c2 hk).1
  · rw [show 1942 + 7 * x = 1939 + 7 * x + 3 by omega]; exact ((c2 hk).2 ht).1
  · rw [show 1943 + 7 * x = 1939 + 7 * x + 4 by omega]; exact ((c2 hk).2 ht).2
theorem V65 {V : Nat → Nat} {j K A T C N z : Nat} : V6 (V5 V j K A T C N) j z (219 + 7 * j) = K ∧ V6 (V5 V j K A T C N) j z (220 + 7 * j) = A ∧ V6 (V5 V j K A T C N) j z (221 + 7 * j) = T ∧ V6 (V5 V j K A T C N) j z (222 + 7 * j) = C ∧ V6 (V5 V j K A T C N) j z (223 + 7 * j) = N ∧ V6 (V5 V j K A T C N) j z (225 + 7 * j) = z ∧ ∀ x, x < 219 + 7 * j → V6 (V5 V j K A T C N) j z x = V x := by
  unfold V6 V5
  refine ⟨?_, ?_, ?_, ?_, ?_, ?_, fun x hx => ?_⟩ <;> simp (disch := omega) only [if_neg, if_true]
-- a whole body
theorem wk_body {a N : Nat} (ha : a < 3) (hn : n ≤ 300) (IH : ∀ (s t : fSt) (V : Nat → Nat) i j a0 p so k, psR s t n c a0 p so → hsR s t q G → wkZ w i j (a + 1) s t → JJ k p so → ¬ so = 30 → ¬ so = 35 → (∀ x, x < 4 → V x = G x) → stB q w i j (a + 1) k s t (f_X12_readStep (N + 1) (nI (a + 1)) t) ∨ stG n c q w i j (a + 1) k V s t (f_X12_readStep (N + 1) (nI (a + 1)) t)) :
    ∀ e (s t : fSt) (V : Nat → Nat) i j a0 p so k Fm, 31 ≤ j + e → psR s t n c a0 p so → hsR s t q G → wkZ w i j (a + 1) s t → JJ k p so → (∀ x, x < 4 → V x = G x) → e + 2 < Fm → bdB q w i j a k Fm (f_X12_readStep (N + 1)) s t ∨ bdG n c q w i j a k Fm (f_X12_readStep (N + 1)) V s t := by
  intro e
  induction e with
  | zero =>
    intro s t V i j a0 p so k Fm he P hs Z J hV hF
    have := Z.2.2.2.1
    omega
  | succ e ih =>
    intro s t V i j a0 p so k Fm he P hs Z J hV hF
    obtain ⟨Fm, rfl⟩ : ∃ F, Fm = F + 2 := ⟨Fm - 2, by omega⟩
    have hso := ps_so P
    have h64 := tok_35 P.2.1
    have hb := P.2.2.2.1
    have hpp := P.2.2.1.2.2.2.2
    have en := ps_end P
    have hne : ¬ nI 1 = (0 : Int32) := by decide
    have hz : ¬ ¬ gI t 12 0 12 = (0 : Int32) := fun g => g hb
    by_cases h30 : so = 30
    · subst h30
      refine Or.inr ⟨s, t, V, i, j, 0, a0, p, P, J, fun _ _ => rfl, fun x h1 h2 => by omega, Nat.le_refl _, ⟨0, rfl, rfl⟩, Z, xV_rf s, yV_rf t, fun F => rfl, fun k23 => ?_⟩
      unfold f_X12_readStep_L141
      rw [if_neg hne, if_neg hz, en, fBd_s, if_pos (by decide)]
    rw [decide_eq_false h30] at en
    have hL : ∀ k23 t', f_X12_readStep (N + 1) (nI (a + 1)) t = some ((), t') → f_X12_readStep_L141 (f_X12_readStep (N + 1)) (nI a) (nI 1) k23 (Fm + 2) t = f_X12_readStep_L141 (f_X12_readStep (N + 1)) (nI a) (nI 1) k23 (Fm + 1) t' := by
      intro k23 t' h
      conv => lhs; unfold f_X12_readStep_L141
      rw [if_neg hne, if_neg hz, en, fBd_s, if_neg (by decide), show ((1 : Int32)) = nI 1 from rfl, nI_add, h, fBd_s]
    by_cases h35 : so = 35
    · obtain ⟨s', t', w1, w2, F, f, g⟩ := hd_wrong (rec := f_X12_readStep N) (a := a + 1) P (by rw [h35]; rfl)
      have h7 : ¬ gI s 9 w 7 = (0 : Int32) := by
        rw [Z.1.2.2]
        show ¬ nI (a + 1) = nI 0
        rw [i_eq _ _ (by omega) (by omega)]
        omega
      refine Or.inl ⟨s', t', _, _, F, xV_x f, yV_y g, fun F hF => ?_, fun k23 => ?_⟩
      · obtain ⟨F, rfl⟩ : ∃ F', F = F' + 1 := ⟨F - 1, by have := J.1; omega⟩
        rw [wl_35 (by have := J.1; omega) (by rw [hso, h35])]
        unfold wEnd
        rw [if_neg h7, w1, fBd_s, if_pos (by decide), show fBo ((0 : Int32)) (some ((0 : Int32), s')) = some (nI 0, s') from fBo_no]
      · rw [hL k23 t' w2]
        exact l141_bad (bad_fl F)
    rcases IH s t V i j a0 p so k P hs Z J h30 h35 hV with ⟨s', t', d, e', F, f, g, hX, hM⟩ | ⟨s1, t1, V1, i1, j1, u1, a1, p1, o1, P1, J1, hV1, hc1, hj1, ⟨m1, hb1⟩, Z1, f1, g1, hX1, hM1⟩
    · exact Or.inl ⟨s', t', d, e', F, f, g, hX, fun k23 => (hL k23 t' hM).trans (l141_bad (bad_fl F))⟩
    · have hs1 := hsR_V hs f1 g1 (fun m h => eW_le h)
      have e23 : 3 - (a + 1) = 2 - a := by omega
      rw [e23] at hb1
      have li := (rBod_lx _ _ _ _ _ _ hb1).2
      have hV4 : ∀ x, x < 4 → V1 x = G x := fun x hx => (hV1 x (by omega)).trans (hV x hx)
      have hD : ∀ k m, stD i1 (a + 1) k m → stD i (a + 1) k m := fun k m h => by unfold stD at *; omega
      have hE : ∀ m, eW j1 m → eW j m := fun m h => by unfold eW at *; omega
      rcases ih s1 t1 V1 i1 j1 a1 p1 o1 (k + u1) (Fm + 1) (by omega) P1 hs1 Z1 J1 hV4 (by omega) with ⟨s', t', d, e', F, f, g, hX, hM⟩ | ⟨s2, t2, V2, i2, j2, u2, a2, p2, P2, J2, hV2, hc2, hj2, ⟨m2, hb2⟩, Z2, f2, g2, hX2, hM2⟩
      · refine Or.inl ⟨s', t', d, e', F, xV_tr f1 (xV_mono f (fun _ h => h) hD), yV_tr g1 (yV_mono g hE), fun F hF => ?_, fun k23 => (hL k23 t1 hM1).trans (hM k23)⟩
        have hu : k + u1 ≤ 300 := by have := J1.1; have := P1.2.2.1.2.2.2.2; omega
        obtain ⟨F, rfl⟩ : ∃ F', F = F' + u1 := ⟨F - u1, by omega⟩
        rw [hX1]
        exact hX F (by omega)
      · obtain ⟨m3, hb3⟩ := rBod_app _ _ _ _ _ _ (rBod_fr (s' := s2) (G' := V2) _ _ _ _ _ _ hb1 (fun k x v1 v2 h1 h2 => f2.2.2.1 _ _ _ _ (fun e => by have := e.2.2; unfold stD at this; omega)) (fun x hx => hV2 x (by omega)) (fun x h1 h2 => hV2 x h2)) _ _ _ hb2
        refine Or.inr ⟨s2, t2, V2, i2, j2, u1 + u2, a2, p2, P2, by rw [← Nat.add_assoc]; exact J2, fun x hx => (hV2 x (by omega)).trans (hV1 x hx), cel_app (cel_fr hc1 (fun m h1 h2 => g2.2.2.1 _ _ _ _ (fun e => by have := e.2.2.2; unfold eW at this; omega)) (fun x h1 h2 => hV2 x h2)) hc2, by omega, ⟨m3, hb3⟩, Z2, xV_tr f1 (xV_mono f2 (fun _ h => h) hD), yV_tr g1 (yV_mono g2 hE), fun F => ?_, fun k23 => (hL k23 t1 hM1).trans (hM2 k23)⟩
        rw [show F + (u1 + u2) = F + u2 + u1 by omega, hX1, hX2, Nat.add_assoc]
end
