/-! layer 2: the head of a step, both sides -/
def stD (i a k m : Nat) : Prop := (1 ≤ k ∧ k ≤ 4 ∧ i ≤ m) ∨ (k = 5 ∧ a ≤ m)
def SF (G : Nat → Nat) (w i x : Nat) (s t : fSt) (K A T C N : Nat) : Prop := (gA t 12 0 5 x = nI K ∧ gA t 12 0 5 (x + 1) = xI A ∧ (K = 5 → gA t 12 0 5 (x + 2) = nI T ∧ (T = 3 → gA t 12 0 5 (x + 3) = nI C ∧ gA t 12 0 5 (x + 4) = nI N))) ∧ ((gA s 9 w 2 i = xI A ∧ ∃ wd, gA s 9 w 1 i = nI wd ∧ okW G wd K T A) ∨ (K = 5 ∧ T = 3 ∧ gA s 9 w 1 i = nI 27 ∧ gA s 9 w 2 i = nI N ∧ gA s 9 w 3 i = nI C ∧ N ≤ 99 ∧ C < 128))
def wkZ (w i j a : Nat) (s t : fSt) : Prop := (gI s 9 w 0 = nI i ∧ gI s 9 w 1 = nI j ∧ gI s 9 w 7 = nI a) ∧ gI t 12 0 24 = nI j ∧ i + a ≤ 2 * j ∧ j ≤ 30 ∧ a ≤ 3
-- a head that fails, a head that goes well
def HB (w i j a : Nat) (s t : fSt) (X : Option (Int32 × fSt)) (M : Option (Unit × fSt)) (Q : Prop) : Prop := ∀ s' t' d e, flR s' t' d e → xV w (fun _ => True) (stD i a) s s' → yV (eW j) t t' → X = some (nI 0, s') → M = some ((), t') → Q
def HG (n : Nat) (c G : Nat → Nat) (rec : Int32 → fSt → Option (Unit × fSt)) (w i j a p : Nat) (s t : fSt) (X : Option (Int32 × fSt)) (M : Option (Unit × fSt)) (Q : Prop) : Prop := ∀ s' t' a' p' so' K b A T C N, psR s' t' n c a' p' so' → (p ≤ a' ∧ (¬ so' = 35 → p < p')) → SF G w i (1939 + 7 * j) s' t' K A T C N → ((b = 1 ∧ (K = 5 ∨ K = 6) ∧ a < 3 ∧ gA s' 9 w 5 a = nI i) ∨ (b = 0 ∧ K ≠ 5 ∧ K ≠ 6)) → wkZ w (i + 1) (j + 1) (a + b) s' t' → xV w (fun _ => True) (stD i a) s s' → yV (eW j) t t' → X = some (nI 1, s') → M = mW6 rec (nI a) (nI b) (nI (1939 + 7 * j)) t' → Q
section
variable {n : Nat} {c : Nat → Nat} {G : Nat → Nat} {rec : Int32 → fSt → Option (Unit × fSt)} {w q i j a : Nat} {s t : fSt} {X : Option (Int32 × fSt)} {M : Option (Unit × fSt)} {Q : Prop}
theorem kW6_0 {s : fSt} {v : Int32} (hi : i < 60) (h0 : gI s 9 w 0 = nI i) (h1 : gI s 9 w 1 = nI j) (hj : j < 60) (h9 : gI s 5 0 9 = v) : kW6 w (nI 0) s = some (nI 1, sI (sI (sA s 9 w 2 (upd (gA s 9 w 2) i v)) 9 w 0 (nI (i + 1))) 9 w 1 (nI (j + 1))) := by
  unfold kW6 kW7
  simp (disch := omega) only [gI_sI, gL_sL, gA_sA, gB_sB, gP_sP, gI_sL, gI_sA, gI_sB, gI_sP, gL_sI, gL_sA, gL_sB, gL_sP, gA_sI, gA_sL, gA_sB, gA_sP, gB_sI, gB_sL, gB_sA, gB_sP, gP_sI, gP_sL, gP_sA, gP_sB, fLt_e, fBd_s, fJn_s, fNn_s, fNu_0, fNu_s, fBo_0, fBo_1, fBo_b, i_lit, i_neg1, nI_add, pk_mul, nI_clamp, i_le, i_lt, i_eq, fIx_n, nI_mI, mI_nI, mI_lt, nI_lt_m, mI_le, nI_le_m, xI_0, xI_s, bI_0, bI_1, bI_t, bI_f, n_31, j_bit, j_one, i_and, i_or, Nat.not_lt_zero, Nat.succ_ne_zero, Nat.add_one_ne_zero, Nat.add_one_sub_one, Nat.zero_le, Nat.or_zero, Nat.zero_or, Bool.not_true, Bool.not_false, Bool.true_and, Bool.false_and, Bool.and_true, Bool.and_false, ↓reduceIte, if_true, if_false, not_true_eq_false, not_false_eq_true, true_and, and_true, false_and, and_false, and_self, true_or, or_true, false_or, or_false, Nat.reduceEqDiff, Nat.reduceLT, Nat.reduceLeDiff, Nat.reduceAdd, Nat.reduceMul, Nat.reduceSub, Nat.add_zero, Nat.zero_add, Nat.mul_zero, Nat.zero_mul, ne_eq, Bool.not_eq_true, Bool.not_eq_false, reduceCtorEq, decide_true, decide_false, decide_eq_true_eq, decide_eq_false_iff_not, Bool.false_eq_true, if_pos, if_neg, h0, h1, h9]
theorem kW6_1 {s : fSt} {v : Int32} (hi : i < 60) (ha : a < 3) (h0 : gI s 9 w 0 = nI i) (h1 : gI s 9 w 1 = nI j) (h7 : gI s 9 w 7 = nI a) (hj : j < 60) (h9 : gI s 5 0 9 = v) : kW6 w (nI 1) s = some (nI 1, sI (sI (sA (sI (sA s 9 w 2 (upd (gA s 9 w 2) i v)) 9 w 7 (nI (a + 1))) 9 w 5 (upd (gA s 9 w 5) a (nI i))) 9 w 0 (nI (i + 1))) 9 w 1 (nI (j + 1))) := by
  unfold kW6 kW7
  simp (disch := omega) only [gI_sI, gL_sL, gA_sA, gB_sB, gP_sP, gI_sL, gI_sA, gI_sB, gI_sP, gL_sI, gL_sA, gL_sB, gL_sP, gA_sI, gA_sL, gA_sB, gA_sP, gB_sI, gB_sL, gB_sA, gB_sP, gP_sI, gP_sL, gP_sA, gP_sB, fLt_e, fBd_s, fJn_s, fNn_s, fNu_0, fNu_s, fBo_0, fBo_1, fBo_b, i_lit, i_neg1, nI_add, pk_mul, nI_clamp, i_le, i_lt, i_eq, fIx_n, nI_mI, mI_nI, mI_lt, nI_lt_m, mI_le, nI_le_m, xI_0, xI_s, bI_0, bI_1, bI_t, bI_f, n_31, j_bit, j_one, i_and, i_or, Nat.not_lt_zero, Nat.succ_ne_zero, Nat.add_one_ne_zero, Nat.add_one_sub_one, Nat.zero_le, Nat.or_zero, Nat.zero_or, Bool.not_true, Bool.not_false, Bool.true_and, Bool.false_and, Bool.and_true, Bool.and_false, ↓reduceIte, if_true, if_false, not_true_eq_false, not_false_eq_true, true_and, and_true, false_and, and_false, and_self, true_or, or_true, false_or, or_false, Nat.reduceEqDiff, Nat.reduceLT, Nat.reduceLeDiff, Nat.reduceAdd, Nat.reduceMul, Nat.reduceSub, Nat.add_zero, Nat.zero_add, Nat.mul_zero, Nat.zero_mul, ne_eq, Bool.not_eq_true, Bool.not_eq_false, reduceCtorEq, decide_true, decide_false, decide_eq_true_eq, decide_eq_false_iff_not, Bool.false_eq_true, if_pos, if_neg, h0, h1, h7, h9]
theorem xV_Af {w : Nat} {I : Nat → Prop} {D : Nat → Nat → Prop} (s : fSt) {k : Nat} (f : Nat → Int32) (hf : ∀ m, ¬ D k m → f m = gA s 9 w k m) : xV w I D s (sA s 9 w k f) := by
  refine ⟨fun _ _ _ _ _ => rfl, fun _ _ _ _ => rfl, fun c j k' m' h1 => ?_, rfl, rfl⟩
  rw [gA_sA]
  by_cases e : c = 9 ∧ j = w ∧ k' = k
  · obtain ⟨rfl, rfl, rfl⟩ := e
    rw [if_pos ⟨rfl, rfl, rfl⟩]
    exact hf _ (fun g => h1 ⟨rfl, rfl, g⟩)
  · rw [if_neg e]
theorem hd_fin {wd K b p p0 : Nat} {R : fSt → Option (Unit × fSt)} {s3 t3 : fSt} (rs : rsO n c G w q i (1939 + 7 * j) wd K p R s3 t3) (hX : X = fBd (kRS w q s3) fun x s1 => if ¬ x = 0 then kW6 w (nI b) s1 else some ((0 : Int32), s1)) (hM : M = fBd (fBd (R t3) fun _ s => mTail s) fun _ s21 => mW6 rec (nI a) (nI b) (nI (1939 + 7 * j)) s21)
    (h0 : gI s3 9 w 0 = nI i) (h1 : gI s3 9 w 1 = nI j) (h7 : gI s3 9 w 7 = nI a) (hA : gA s3 9 w 1 i = nI wd) (h24 : gI t3 12 0 24 = nI (j + 1)) (hij : i + a ≤ 2 * j ∧ j < 30) (f : xV w (fun _ => True) (stD i a) s s3) (g : yV (eW j) t t3) (hp : p0 ≤ p) (hpn : n < 1000)
    (hb : (b = 1 ∧ (K = 5 ∨ K = 6) ∧ a < 3) ∨ (b = 0 ∧ K ≠ 5 ∧ K ≠ 6 ∧ a ≤ 3)) (B : HB w i j a s t X M Q) (g2 : HG n c G rec w i j a p0 s t X M Q) : Q := by
  obtain ⟨s4, t4, f4, g4, e4, h244, h⟩ := rs
  have f5 : xV w (fun _ => True) (stD i a) s s4 := xV_tr f (xV_mono f4 (fun _ h => h.elim) (fun k m h => by unfold rsD at h; unfold stD; omega))
  have g5 : yV (eW j) t t4 := yV_tr g (yV_mono g4 (fun m h => by unfold rsE at h; unfold eW; omega))
  rw [e4, fBd_s] at hM
  rcases h with ⟨d4, F4, a4, p4, o4, P4, m1, m2⟩ | ⟨d4, d, e, F⟩
  · rw [d4, fBd_s, if_pos (by decide)] at hX
    have k0 : gI s4 9 w 0 = nI i := (f4.1 _ _ _ (by omega) (fun e => e.2.2)).trans h0
    have k1 : gI s4 9 w 1 = nI j := (f4.1 _ _ _ (by omega) (fun e => e.2.2)).trans h1
    have k7 : gI s4 9 w 7 = nI a := (f4.1 _ _ _ (by omega) (fun e => e.2.2)).trans h7
    have kA : gA s4 9 w 1 i = nI wd := (f4.2.2.1 _ _ _ _ (fun e => by have := e.2.2.1; omega)).trans hA
    have h24' : gI t4 12 0 24 = nI (j + 1) := h244.trans h24
    have hSF : ∀ s', gA s' 9 w 1 i = nI wd → gA s' 9 w 3 i = gA s4 9 w 3 i → gA s' 9 w 2 i = gI s4 5 0 9 → ∃ A T C N, SF G w i (1939 + 7 * j) s' t4 K A T C N := by
      intro s' u1 u2 u3
      obtain ⟨A, T, C, N, hc, hv⟩ := F4
      refine ⟨A, T, C, N, hc, ?_⟩
      rcases hv with ⟨v1, v2⟩ | ⟨v1, v2, v3, v4, v5, v6⟩
      · exact Or.inl ⟨u3.trans v1, wd, u1, v2⟩
      · exact Or.inr ⟨v2, v3, by rw [u1, v1], u3.trans v4, u2.trans v5, v6⟩
    rcases hb with ⟨rfl, hb, ha⟩ | ⟨rfl, hb, hb2, ha⟩
    · rw [kW6_1 (by omega) ha k0 k1 k7 (by omega) rfl] at hX
      obtain ⟨A, T, C, N, hS⟩ := hSF (sI (sI (sA (sI (sA s4 9 w 2 (upd (gA s4 9 w 2) i (gI s4 5 0 9))) 9 w 7 (nI (a + 1))) 9 w 5 (upd (gA s4 9 w 5) a (nI i))) 9 w 0 (nI (i + 1))) 9 w 1 (nI (j + 1))) (by simp (disch := omega) only [gA_sI, gA_sA, if_neg]; exact kA) (by simp (disch := omega) only [gA_sI, gA_sA, if_neg]) (by simp (disch := omega) only [gA_sI, gA_sA, if_neg, and_self, if_true, upd_at])
      refine g2 _ t4 a4 p4 o4 K 1 A T C N (ps_I9 (ps_I9 (ps_A9 (ps_I9 (ps_A9 P4 w 2 _) w 7 _) w 5 _) w 0 _) w 1 _) ⟨by omega, fun h => by have := m2 h; omega⟩ hS (Or.inl ⟨rfl, hb, ha, ?_⟩) ⟨⟨?_, ?_, ?_⟩, h24', by omega, by omega, by omega⟩ ?_ g5 hX hM
      · simp (disch := omega) only [gA_sI, gA_sA, and_self, if_true, upd_at]
      · simp (disch := omega) only [gI_sI, gL_sL, gA_sA, gB_sB, gP_sP, gI_sL, gI_sA, gI_sB, gI_sP, gL_sI, gL_sA, gL_sB, gL_sP, gA_sI, gA_sL, gA_sB, gA_sP, gB_sI, gB_sL, gB_sA, gB_sP, gP_sI, gP_sL, gP_sA, gP_sB, fLt_e, fBd_s, fJn_s, fNn_s, fNu_0, fNu_s, fBo_0, fBo_1, fBo_b, i_lit, i_neg1, nI_add, pk_mul, nI_clamp, i_le, i_lt, i_eq, fIx_n, nI_mI, mI_nI, mI_lt, nI_lt_m, mI_le, nI_le_m, xI_0, xI_s, bI_0, bI_1, bI_t, bI_f, n_31, j_bit, j_one, i_and, i_or, Nat.not_lt_zero, Nat.succ_ne_zero, Nat.add_one_ne_zero, Nat.add_one_sub_one, Nat.zero_le, Nat.or_zero, Nat.zero_or, Bool.not_true, Bool.not_false, Bool.true_and, Bool.false_and, Bool.and_true, Bool.and_false, ↓reduceIte, if_true, if_false, not_true_eq_false, not_false_eq_true, true_and, and_true, false_and, and_false, and_self, true_or, or_true, false_or, or_false, Nat.reduceEqDiff, Nat.reduceLT, Nat.reduceLeDiff, Nat.reduceAdd, Nat.reduceMul, Nat.reduceSub, Nat.add_zero, Nat.zero_add, Nat.mul_zero, Nat.zero_mul, ne_eq, Bool.not_eq_true, Bool.not_eq_false, reduceCtorEq, decide_true, decide_false, decide_eq_true_eq, decide_eq_false_iff_not, Bool.false_eq_true, if_pos, if_neg]
      · simp (disch := omega) only [gI_sI, gL_sL, gA_sA, gB_sB, gP_sP, gI_sL, gI_sA, gI_sB, gI_sP, gL_sI, gL_sA, gL_sB, gL_sP, gA_sI, gA_sL, gA_sB, gA_sP, gB_sI, gB_sL, gB_sA, gB_sP, gP_sI, gP_sL, gP_sA, gP_sB, fLt_e, fBd_s, fJn_s, fNn_s, fNu_0, fNu_s, fBo_0, fBo_1, fBo_b, i_lit, i_neg1, nI_add, pk_mul, nI_clamp, i_le, i_lt, i_eq, fIx_n, nI_mI, mI_nI, mI_lt, nI_lt_m, mI_le, nI_le_m, xI_0, xI_s, bI_0, bI_1, bI_t, bI_f, n_31, j_bit, j_one, i_and, i_or, Nat.not_lt_zero, Nat.succ_ne_zero, Nat.add_one_ne_zero, Nat.add_one_sub_one, Nat.zero_le, Nat.or_zero, Nat.zero_or, Bool.not_true, Bool.not_false, Bool.true_and, Bool.false_and, Bool.and_true, Bool.and_false, ↓reduceIte, if_true, if_false, not_true_eq_false, not_false_eq_true, true_and, and_true, false_and, and_false, and_self, true_or, or_true, false_or, or_false, Nat.reduceEqDiff, Nat.reduceLT, Nat.reduceLeDiff, Nat.reduceAdd, Nat.reduceMul, Nat.reduceSub, Nat.add_zero, Nat.zero_add, Nat.mul_zero, Nat.zero_mul, ne_eq, Bool.not_eq_true, Bool.not_eq_false, reduceCtorEq, decide_true, decide_false, decide_eq_true_eq, decide_eq_false_iff_not, Bool.false_eq_true, if_pos, if_neg]
      · simp (disch := omega) only [gI_sI, gL_sL, gA_sA, gB_sB, gP_sP, gI_sL, gI_sA, gI_sB, gI_sP, gL_sI, gL_sA, gL_sB, gL_sP, gA_sI, gA_sL, gA_sB, gA_sP, gB_sI, gB_sL, gB_sA, gB_sP, gP_sI, gP_sL, gP_sA, gP_sB, fLt_e, fBd_s, fJn_s, fNn_s, fNu_0, fNu_s, fBo_0, fBo_1, fBo_b, i_lit, i_neg1, nI_add, pk_mul, nI_clamp, i_le, i_lt, i_eq, fIx_n, nI_mI, mI_nI, mI_lt, nI_lt_m, mI_le, nI_le_m, xI_0, xI_s, bI_0, bI_1, bI_t, bI_f, n_31, j_bit, j_one, i_and, i_or, Nat.not_lt_zero, Nat.succ_ne_zero, Nat.add_one_ne_zero, Nat.add_one_sub_one, Nat.zero_le, Nat.or_zero, Nat.zero_or, Bool.not_true, Bool.not_false, Bool.true_and, Bool.false_and, Bool.and_true, Bool.and_false, ↓reduceIte, if_true, if_false, not_true_eq_false, not_false_eq_true, true_and, and_true, false_and, and_false, and_self, true_or, or_true, false_or, or_false, Nat.reduceEqDiff, Nat.reduceLT, Nat.reduceLeDiff, Nat.reduceAdd, Nat.reduceMul, Nat.reduceSub, Nat.add_zero, Nat.zero_add, Nat.mul_zero, Nat.zero_mul, ne_eq, Bool.not_eq_true, Bool.not_eq_false, reduceCtorEq, decide_true, decide_false, decide_eq_true_eq, decide_eq_false_iff_not, Bool.false_eq_true, if_pos, if_neg]
      · exact xV_tr f5 (xV_tr (xV_A (k := 2) (m := i) s4 _ (Or.inl ⟨by omega, by omega, Nat.le_refl _⟩)) (xV_tr (xV_I _ _ trivial) (xV_tr (xV_Af (k := 5) _ _ (fun m hm => by rw [upd_at, if_neg (fun e => hm (Or.inr ⟨rfl, by omega⟩)), gA_sI, gA_sA, if_neg (by omega)])) (xV_tr (xV_I _ _ trivial) (xV_I _ _ trivial)))))
    · rw [kW6_0 (by omega) k0 k1 (by omega) rfl] at hX
      obtain ⟨A, T, C, N, hS⟩ := hSF (sI (sI (sA s4 9 w 2 (upd (gA s4 9 w 2) i (gI s4 5 0 9))) 9 w 0 (nI (i + 1))) 9 w 1 (nI (j + 1))) (by simp (disch := omega) only [gA_sI, gA_sA, if_neg]; exact kA) (by simp (disch := omega) only [gA_sI, gA_sA, if_neg]) (by simp (disch := omega) only [gA_sI, gA_sA, and_self, if_true, upd_at])
      refine g2 _ t4 a4 p4 o4 K 0 A T C N (ps_I9 (ps_I9 (ps_A9 P4 w 2 _) w 0 _) w 1 _) ⟨by omega, fun h => by have := m2 h; omega⟩ hS (Or.inr ⟨rfl, hb, hb2⟩) ⟨⟨?_, ?_, ?_⟩, h24', by omega, by omega, by omega⟩ ?_ g5 hX hM
      · simp (disch := omega) only [gI_sI, gL_sL, gA_sA, gB_sB, gP_sP, gI_sL, gI_sA, gI_sB, gI_sP, gL_sI, gL_sA, gL_sB, gL_sP, gA_sI, gA_sL, gA_sB, gA_sP, gB_sI, gB_sL, gB_sA, gB_sP, gP_sI, gP_sL, gP_sA, gP_sB, fLt_e, fBd_s, fJn_s, fNn_s, fNu_0, fNu_s, fBo_0, fBo_1, fBo_b, i_lit, i_neg1, nI_add, pk_mul, nI_clamp, i_le, i_lt, i_eq, fIx_n, nI_mI, mI_nI, mI_lt, nI_lt_m, mI_le, nI_le_m, xI_0, xI_s, bI_0, bI_1, bI_t, bI_f, n_31, j_bit, j_one, i_and, i_or, Nat.not_lt_zero, Nat.succ_ne_zero, Nat.add_one_ne_zero, Nat.add_one_sub_one, Nat.zero_le, Nat.or_zero, Nat.zero_or, Bool.not_true, Bool.not_false, Bool.true_and, Bool.false_and, Bool.and_true, Bool.and_false, ↓reduceIte, if_true, if_false, not_true_eq_false, not_false_eq_true, true_and, and_true, false_and, and_false, and_self, true_or, or_true, false_or, or_false, Nat.reduceEqDiff, Nat.reduceLT, Nat.reduceLeDiff, Nat.reduceAdd, Nat.reduceMul, Nat.reduceSub, Nat.add_zero, Nat.zero_add, Nat.mul_zero, Nat.zero_mul, ne_eq, Bool.not_eq_true, Bool.not_eq_false, reduceCtorEq, decide_true, decide_false, decide_eq_true_eq, decide_eq_false_iff_not, Bool.false_eq_true, if_pos, if_neg]
      · simp (disch := omega) only [gI_sI, gL_sL, gA_sA, gB_sB, gP_sP, gI_sL, gI_sA, gI_sB, gI_sP, gL_sI, gL_sA, gL_sB, gL_sP, gA_sI, gA_sL, gA_sB, gA_sP, gB_sI, gB_sL, gB_sA, gB_sP, gP_sI, gP_sL, gP_sA, gP_sB, fLt_e, fBd_s, fJn_s, fNn_s, fNu_0, fNu_s, fBo_0, fBo_1, fBo_b, i_lit, i_neg1, nI_add, pk_mul, nI_clamp, i_le, i_lt, i_eq, fIx_n, nI_mI, mI_nI, mI_lt, nI_lt_m, mI_le, nI_le_m, xI_0, xI_s, bI_0, bI_1, bI_t, bI_f, n_31, j_bit, j_one, i_and, i_or, Nat.not_lt_zero, Nat.succ_ne_zero, Nat.add_one_ne_zero, Nat.add_one_sub_one, Nat.zero_le, Nat.or_zero, Nat.zero_or, Bool.not_true, Bool.not_false, Bool.true_and, Bool.false_and, Bool.and_true, Bool.and_false, ↓reduceIte, if_true, if_false, not_true_eq_false, not_false_eq_true, true_and, and_true, false_and, and_false, and_self, true_or, or_true, false_or, or_false, Nat.reduceEqDiff, Nat.reduceLT, Nat.reduceLeDiff, Nat.reduceAdd, Nat.reduceMul, Nat.reduceSub, Nat.add_zero, Nat.zero_add, Nat.mul_zero, Nat.zero_mul, ne_eq, Bool.not_eq_true, Bool.not_eq_false, reduceCtorEq, decide_true, decide_false, decide_eq_true_eq, decide_eq_false_iff_not, Bool.false_eq_true, if_pos, if_neg]
      · simp (disch := omega) only [gI_sI, gI_sA, if_neg]
        exact k7
      · exact xV_tr f5 (xV_tr (xV_A (k := 2) (m := i) s4 _ (Or.inl ⟨by omega, by omega, Nat.le_refl _⟩)) (xV_tr (xV_I _ _ trivial) (xV_I _ _ trivial)))
  · rw [d4, fBd_s, if_neg (by decide)] at hX
    obtain ⟨t5, e5, g6, g7⟩ := bw_6 (rec := rec) (j := j) (by omega) (nI a) (nI b) t4 (bad_fl F)
    rw [e5] at hM
    have F2 : flR s4 t5 d e := by
      unfold flR at *
      rw [g7]
      exact F
    exact B s4 t5 d e F2 f5 (yV_tr g5 g6) hX hM
-- where the word isn't a step's
theorem hd_wrong {a0 p so : Nat} (P : psR s t n c a0 p so) (h : stW so = 0) : ∃ s' t', f_X5_failHere s = some (nI 0, s') ∧ f_X12_readStep_b rec (nI a) t = some ((), t') ∧ flR s' t' (if so = 36 then 1 else 2) a0 ∧ xFr s s' ∧ yFr t t' := by
  obtain ⟨s', t', w1, w2, F, f, g⟩ := ps_wrong P
  refine ⟨s', t', w1, ?_, F, f, g⟩
  have e : f_X12_readStep_b rec (nI a) t = mW1 rec (nI a) mI (nI 0) t := by
    rw [mW_eq, ps_step P, h, fBd_s]
    rfl
  rw [e]
  unfold mW1
  rw [if_neg (by decide), w2, fBd_s, w2_bad (bad_fl F)]
end
