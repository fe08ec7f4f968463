/-! layer 2: the class's spread and gather -/
theorem oTT_zero {G sh a b Wn Cn Pn : Nat → Nat} (h : ∀ p, p < 768 → Wn p = 0) : oTT G sh a b Wn Cn Pn = zs (fun s => a s * Pn s) 12 + zs (fun e => b e * Cn e) 10 := by
  unfold oTT
  have e3 : zs (fun p => Wn p / 16 ^ (p / 64) * cc G sh a (fun s => b (gsl G s)) (p / 64 + 1) (p % 64)) 768 = 0 := by
    apply zs_zero
    intro p hp
    rw [h p hp, Nat.zero_div, Nat.zero_mul]
  show zs (fun s => a s * Pn s) 12 + zs (fun e => b e * Cn e) 10 + zs (fun p => Wn p / 16 ^ (p / 64) * cc G sh a (fun s => b (gsl G s)) (p / 64 + 1) (p % 64)) 768 = _
  rw [e3, Nat.add_zero]
def oEnd (TT : (Nat → Nat) → (Nat → Nat) → Nat) (t : pT) : Prop :=
  ∃ Cn Pn : Nat → Nat, (∀ p, p < 768 → t.1 p = lN 0) ∧ (∀ e, e < 10 → t.2.1 e = lN (Cn e)) ∧ (∀ s, s < 12 → t.2.2.1 s = lN (Pn s)) ∧ ∀ a b, zs (fun s => a s * Pn s) 12 + zs (fun e => b e * Cn e) 10 = TT a b
def spv (G : Nat → Nat) (kp g xn : Nat) (a b : Nat → Nat) : Nat := if gpl G (G 2) g = 0 then 0 else xn / 16 ^ (G 2 - 1) * cc G (gsx G kp) a (fun s => b (gsl G s)) (G 2) g
theorem x_fill (st : fSt) (c i j n : Nat) (a : Int64) (hn : n < 4000) : f_J7_fill_d0a16 c i j n a st = some ((), sB st c i j (fun e => if e < n then a else gB st c i j e)) := by
  obtain ⟨m, e⟩ := lp_run (fun m (z : Int32 × fSt) => f_J7_fill_d0a16_L6 c i j n a (nI n) m z.1 z.2) (fun d => (nI d, sB st c i j (fun e => if e < d then a else gB st c i j e))) n (fun m d hd => by
    show f_J7_fill_d0a16_L6 c i j n a (nI n) (m + 1) (nI d) (sB st c i j (fun e => if e < d then a else gB st c i j e)) = f_J7_fill_d0a16_L6 c i j n a (nI n) m (nI (d + 1)) (sB st c i j (fun e => if e < d + 1 then a else gB st c i j e))
    rw [f_J7_fill_d0a16_L6]
    have e1 : gB (sB st c i j (fun e => if e < d then a else gB st c i j e)) c i j = fun e => if e < d then a else gB st c i j e := by
      simp only [gB_sB, and_self, if_true]
    have e2 : sB (sB st c i j (fun e => if e < d then a else gB st c i j e)) c i j (vp_updL (fun e => if e < d then a else gB st c i j e) d a) = sB st c i j (fun e => if e < d + 1 then a else gB st c i j e) := by
      have e3 : vp_updL (fun e => if e < d then a else gB st c i j e) d a = fun e => if e < d + 1 then a else gB st c i j e := by
        funext e
        rw [updL_at]
        by_cases h : e = d
        · rw [if_pos h, if_pos (by omega)]
        · rw [if_neg h]
          by_cases h2 : e < d
          · rw [if_pos h2, if_pos (by omega)]
          · rw [if_neg h2, if_neg (by omega)]
      rw [e3]
      apply st_ext
      · intro c' i' j'; rfl
      · intro c' i' j'; rfl
      · intro c' i' j'; rfl
      · intro c' i' j'
        simp only [gB_sB]
        by_cases h : c' = c ∧ i' = i ∧ j' = j
        · rw [if_pos h, if_pos h]
        · rw [if_neg h, if_neg h, if_neg h]
      · intro c' i' j'; rfl
    simp (disch := omega) only [fLt_e, fBd_s, fJn_s, fNn_s, fNu_0, fNu_s, fBo_0, fBo_1, fBo_b, i_lit, i_neg1, nI_add, pk_mul, nI_clamp, i_le, i_lt, i_eq, fIx_n, nI_mI, mI_nI, mI_lt, nI_lt_m, mI_le, nI_le_m, xI_0, xI_s, bI_0, bI_1, bI_t, bI_f, n_31, j_bit, j_one, i_and, i_or, Nat.not_lt_zero, Nat.succ_ne_zero, Nat.add_one_ne_zero, Nat.add_one_sub_one, Nat.zero_le, Nat.or_zero, Nat.zero_or, Bool.not_true, Bool.not_false, Bool.true_and, Bool.false_and, Bool.and_true, Bool.and_false, ↓reduceIte, if_true, if_false, not_true_eq_false, not_false_eq_true, true_and, and_true, false_and, and_false, and_self, true_or, or_true, false_or, or_false, Nat.reduceEqDiff, Nat.reduceLT, Nat.reduceLeDiff, Nat.reduceAdd, Nat.reduceMul, Nat.reduceSub, Nat.add_zero, Nat.zero_add, Nat.mul_zero, Nat.zero_mul, ne_eq, Bool.not_eq_true, Bool.not_eq_false, reduceCtorEq, decide_true, decide_false, decide_eq_true_eq, decide_eq_false_iff_not, Bool.false_eq_true, if_pos, if_neg, e1, e2]) (fF_lt (by omega))
  have e0 : sB st c i j (fun e => if e < 0 then a else gB st c i j e) = st := by
    have : (fun e => if e < 0 then a else gB st c i j e) = gB st c i j := by
      funext e
      rw [if_neg (by omega)]
    rw [this]
    apply st_ext
    · intro c' i' j'; rfl
    · intro c' i' j'; rfl
    · intro c' i' j'; rfl
    · intro c' i' j'
      simp only [gB_sB]
      by_cases h : c' = c ∧ i' = i ∧ j' = j
      · rw [if_pos h, h.1, h.2.1, h.2.2]
      · rw [if_neg h]
    · intro c' i' j'; rfl
  refine Eq.trans ?_ (Eq.trans e ?_)
  · show f_J7_fill_d0a16_L6 c i j n a (nI n) fF (nI 0) st = f_J7_fill_d0a16_L6 c i j n a (nI n) fF (nI 0) (sB st c i j (fun e => if e < 0 then a else gB st c i j e))
    rw [e0]
  · show f_J7_fill_d0a16_L6 c i j n a (nI n) (m + 1) (nI n) (sB st c i j (fun e => if e < n then a else gB st c i j e)) = _
    rw [f_J7_fill_d0a16_L6]
    simp (disch := omega) only [fLt_e, fBd_s, fJn_s, fNn_s, fNu_0, fNu_s, fBo_0, fBo_1, fBo_b, i_lit, i_neg1, nI_add, pk_mul, nI_clamp, i_le, i_lt, i_eq, fIx_n, nI_mI, mI_nI, mI_lt, nI_lt_m, mI_le, nI_le_m, xI_0, xI_s, bI_0, bI_1, bI_t, bI_f, n_31, j_bit, j_one, i_and, i_or, Nat.not_lt_zero, Nat.succ_ne_zero, Nat.add_one_ne_zero, Nat.add_one_sub_one, Nat.zero_le, Nat.or_zero, Nat.zero_or, Bool.not_true, Bool.not_false, Bool.true_and, Bool.false_and, Bool.and_true, Bool.and_false, ↓reduceIte, if_true, if_false, not_true_eq_false, not_false_eq_true, true_and, and_true, false_and, and_false, and_self, true_or, or_true, false_or, or_false, Nat.reduceEqDiff, Nat.reduceLT, Nat.reduceLeDiff, Nat.reduceAdd, Nat.reduceMul, Nat.reduceSub, Nat.add_zero, Nat.zero_add, Nat.mul_zero, Nat.zero_mul, ne_eq, Bool.not_eq_true, Bool.not_eq_false, reduceCtorEq, decide_true, decide_false, decide_eq_true_eq, decide_eq_false_iff_not, Bool.false_eq_true, if_pos, if_neg]
section
variable {sc : fSt} {q : Nat} {G : Nat → Nat}
theorem x_spL51 (X : rHou sc 0 q G) (w : gWf G) {k s : Nat} (hk : k < G 3) (hs : s < G 2) (k12 : fSt → Option (Unit × fSt)) {TT : (Nat → Nat) → (Nat → Nat) → Nat} (hTT : TT (fun _ => 0) (fun _ => 1) < 2 ^ 60) :
    ∀ r j n t Wn, j + r = 64 → r < n → oInv G (gsx G (k + 1)) TT Wn t → (∀ p, 64 * (s + 1) ≤ p → p < 768 → Wn p = 0) → (∀ p, 64 * s ≤ p → p < 64 * s + j → Wn p = 0) →
      ∃ t' Wn', f_X4_spread_L51 0 (nI k) (nI s) k12 n (nI j) (oQ sc t) = k12 (oQ sc t') ∧ oInv G (gsx G (k + 1)) TT Wn' t' ∧ t'.2.2.2 = t.2.2.2 ∧ ∀ p, 64 * s ≤ p → p < 768 → Wn' p = 0 := by
  have w1 := w.1
  intro r
  induction r with
  | zero =>
    intro j n t Wn hj hn I h1 h2
    obtain ⟨n, rfl⟩ : ∃ m, n = m + 1 := ⟨n - 1, by omega⟩
    refine ⟨t, Wn, ?_, I, rfl, fun p hp hq => ?_⟩
    · rw [f_X4_spread_L51]
      simp (disch := omega) only [fLt_e, fBd_s, fJn_s, fNn_s, fNu_0, fNu_s, fBo_0, fBo_1, fBo_b, i_lit, i_neg1, nI_add, pk_mul, nI_clamp, i_le, i_lt, i_eq, fIx_n, nI_mI, mI_nI, mI_lt, nI_lt_m, mI_le, nI_le_m, xI_0, xI_s, bI_0, bI_1, bI_t, bI_f, n_31, j_bit, j_one, i_and, i_or, Nat.not_lt_zero, Nat.succ_ne_zero, Nat.add_one_ne_zero, Nat.add_one_sub_one, Nat.zero_le, Nat.or_zero, Nat.zero_or, Bool.not_true, Bool.not_false, Bool.true_and, Bool.false_and, Bool.and_true, Bool.and_false, ↓reduceIte, if_true, if_false, not_true_eq_false, not_false_eq_true, true_and, and_true, false_and, and_false, and_self, true_or, or_true, false_or, or_false, Nat.reduceEqDiff, Nat.reduceLT, Nat.reduceLeDiff, Nat.reduceAdd, Nat.reduceMul, Nat.reduceSub, Nat.add_zero, Nat.zero_add, Nat.mul_zero, Nat.zero_mul, ne_eq, Bool.not_eq_true, Bool.not_eq_false, reduceCtorEq, decide_true, decide_false, decide_eq_true_eq, decide_eq_false_iff_not, Bool.false_eq_true, if_pos, if_neg]
    · by_cases h : 64 * (s + 1) ≤ p
      · exact h1 p h hq
      · exact h2 p hp (by omega)
  | succ r ih =>
    intro j n t Wn hj hn I h1 h2
    obtain ⟨n, rfl⟩ : ∃ m, n = m + 1 := ⟨n - 1, by omega⟩
    have hp0 : s * 64 + j < 768 := by omega
    have hW : t.1 (s * 64 + j) = lN (Wn (s * 64 + j)) := I.choose_spec.choose_spec.1 _ hp0
    have hb : Wn (s * 64 + j) < 2 ^ 60 := by
      obtain ⟨Cn, Pn, i1, i2, i3, i4, i5, i6⟩ := I
      have := i6 (fun _ => 0) (fun _ => 1)
      rw [oTT_one w (gsx_16 w (show k + 1 ≤ G 3 by omega)) i4 i5] at this
      have := zs_part Wn hp0
      omega
    rw [f_X4_spread_L51]
    by_cases h0 : Wn (s * 64 + j) = 0
    · obtain ⟨t', Wn', e, r1, r2, r3⟩ := ih (j + 1) n t Wn (by omega) (by omega) I h1 (fun p hp hq => by
        by_cases hpj : p = s * 64 + j
        · rw [hpj]; exact h0
        · exact h2 p hp (by omega))
      refine ⟨t', Wn', ?_, r1, r2, r3⟩
      rw [h0] at hW
      simp only [lg_eq]
      simp (disch := omega) only [fLt_e, fBd_s, fJn_s, fNn_s, fNu_0, fNu_s, fBo_0, fBo_1, fBo_b, i_lit, i_neg1, nI_add, pk_mul, nI_clamp, i_le, i_lt, i_eq, fIx_n, nI_mI, mI_nI, mI_lt, nI_lt_m, mI_le, nI_le_m, xI_0, xI_s, bI_0, bI_1, bI_t, bI_f, n_31, j_bit, j_one, i_and, i_or, Nat.not_lt_zero, Nat.succ_ne_zero, Nat.add_one_ne_zero, Nat.add_one_sub_one, Nat.zero_le, Nat.or_zero, Nat.zero_or, Bool.not_true, Bool.not_false, Bool.true_and, Bool.false_and, Bool.and_true, Bool.and_false, ↓reduceIte, if_true, if_false, not_true_eq_false, not_false_eq_true, true_and, and_true, false_and, and_false, and_self, true_or, or_true, false_or, or_false, Nat.reduceEqDiff, Nat.reduceLT, Nat.reduceLeDiff, Nat.reduceAdd, Nat.reduceMul, Nat.reduceSub, Nat.add_zero, Nat.zero_add, Nat.mul_zero, Nat.zero_mul, ne_eq, Bool.not_eq_true, Bool.not_eq_false, reduceCtorEq, decide_true, decide_false, decide_eq_true_eq, decide_eq_false_iff_not, Bool.false_eq_true, if_pos, if_neg, l_lit, oQ_rW, hW]
      exact e
    · obtain ⟨t1, W1, e1, I1, f1, f2, f3⟩ := pass_inv X w hk hs (show j < 64 by omega) hTT I
      obtain ⟨t', Wn', e, r1, r2, r3⟩ := ih (j + 1) n t1 W1 (by omega) (by omega) I1 (fun p hp hq => by
        rw [f3 p (by omega) (by omega)]; exact h1 p hp hq) (fun p hp hq => by
        by_cases hpj : p = s * 64 + j
        · rw [hpj]; exact f2
        · rw [f3 p (by omega) hpj]; exact h2 p hp (by omega))
      refine ⟨t', Wn', ?_, r1, by rw [r2, f1], r3⟩
      have hne : ¬ lN (Wn (s * 64 + j)) = lN 0 := lN_ne0 (by omega) (by omega)
      simp only [lg_eq]
      simp (disch := omega) only [fLt_e, fBd_s, fJn_s, fNn_s, fNu_0, fNu_s, fBo_0, fBo_1, fBo_b, i_lit, i_neg1, nI_add, pk_mul, nI_clamp, i_le, i_lt, i_eq, fIx_n, nI_mI, mI_nI, mI_lt, nI_lt_m, mI_le, nI_le_m, xI_0, xI_s, bI_0, bI_1, bI_t, bI_f, n_31, j_bit, j_one, i_and, i_or, Nat.not_lt_zero, Nat.succ_ne_zero, Nat.add_one_ne_zero, Nat.add_one_sub_one, Nat.zero_le, Nat.or_zero, Nat.zero_or, Bool.not_true, Bool.not_false, Bool.true_and, Bool.false_and, Bool.and_true, Bool.and_false, ↓reduceIte, if_true, if_false, not_true_eq_false, not_false_eq_true, true_and, and_true, false_and, and_false, and_self, true_or, or_true, false_or, or_false, Nat.reduceEqDiff, Nat.reduceLT, Nat.reduceLeDiff, Nat.reduceAdd, Nat.reduceMul, Nat.reduceSub, Nat.add_zero, Nat.zero_add, Nat.mul_zero, Nat.zero_mul, ne_eq, Bool.not_eq_true, Bool.not_eq_false, reduceCtorEq, decide_true, decide_false, decide_eq_true_eq, decide_eq_false_iff_not, Bool.false_eq_true, if_pos, if_neg, l_lit, oQ_rW, hW, hne, e1]
      exact e
theorem x_spL43 (X : rHou sc 0 q G) (w : gWf G) {k : Nat} (hk : k < G 3) {TT : (Nat → Nat) → (Nat → Nat) → Nat} (hTT : TT (fun _ => 0) (fun _ => 1) < 2 ^ 60) :
    ∀ s n t Wn, s ≤ G 2 → s < n → oInv G (gsx G (k + 1)) TT Wn t → (∀ p, 64 * s ≤ p → p < 768 → Wn p = 0) →
      ∃ t', f_X4_spread_L43 0 (nI k) n (xI s) (oQ sc t) = some ((), oQ sc t') ∧ oEnd TT t' ∧ t'.2.2.2 = t.2.2.2 := by
  have w1 := w.1
  intro s
  induction s with
  | zero =>
    intro n t Wn hs hn I h1
    obtain ⟨n, rfl⟩ : ∃ m, n = m + 1 := ⟨n - 1, by omega⟩
    refine ⟨t, ?_, ?_, rfl⟩
    · rw [f_X4_spread_L43]
      simp (disch := omega) only [fLt_e, fBd_s, fJn_s, fNn_s, fNu_0, fNu_s, fBo_0, fBo_1, fBo_b, i_lit, i_neg1, nI_add, pk_mul, nI_clamp, fIx_n, Int32.lt_iff_toInt_lt, Int32.le_iff_toInt_le, ← Int32.toInt_inj, nI_toInt, mI_toInt, xI_0, xI_s, bI_t, bI_f, Nat.not_lt_zero, Nat.succ_ne_zero, Nat.add_one_ne_zero, Nat.add_one_sub_one, Nat.zero_le, Nat.or_zero, Nat.zero_or, Bool.not_true, Bool.not_false, Bool.true_and, Bool.false_and, Bool.and_true, Bool.and_false, ↓reduceIte, if_true, if_false, not_true_eq_false, not_false_eq_true, true_and, and_true, false_and, and_false, and_self, true_or, or_true, false_or, or_false, Nat.reduceEqDiff, Nat.reduceLT, Nat.reduceLeDiff, Nat.reduceAdd, Nat.reduceMul, Nat.reduceSub, Nat.add_zero, Nat.zero_add, Nat.mul_zero, Nat.zero_mul, ne_eq, Bool.not_eq_true, Bool.not_eq_false, reduceCtorEq, decide_true, decide_false, decide_eq_true_eq, decide_eq_false_iff_not, Bool.false_eq_true, if_pos, if_neg, Int.reduceNeg, Int.reduceLT]
    · obtain ⟨Cn, Pn, i1, i2, i3, i4, i5, i6⟩ := I
      refine ⟨Cn, Pn, fun p hp => ?_, i2, i3, fun a b => ?_⟩
      · rw [i1 p hp, h1 p (by omega) hp]
      · rw [← i6 a b, oTT_zero (fun p hp => h1 p (by omega) hp)]
  | succ s ih =>
    intro n t Wn hs hn I h1
    obtain ⟨n, rfl⟩ : ∃ m, n = m + 1 := ⟨n - 1, by omega⟩
    rw [f_X4_spread_L43, xI_s]
    obtain ⟨t1, W1, e1, I1, r1, r2⟩ := x_spL51 X w hk (show s < G 2 by omega) (fun s11 => fLt (nI s + (-1 : Int32)) fun (x13 : Int32) => f_X4_spread_L43 0 (nI k) n x13 s11) hTT 64 0 fF t Wn (by omega) (fF_lt (by omega)) I h1 (fun p hp hq => by omega)
    obtain ⟨t', e, r3, r4⟩ := ih n t1 W1 (by omega) (by omega) I1 r2
    refine ⟨t', ?_, r3, by rw [r4, r1]⟩
    have hx : nI s + mI = xI s := by
      cases s with
      | zero => rfl
      | succ s => rw [xI_s]; exact pk_m1 s
    have e2 : ¬ nI s < nI 0 := by simp (disch := omega) only [fLt_e, fBd_s, fJn_s, fNn_s, fNu_0, fNu_s, fBo_0, fBo_1, fBo_b, i_lit, i_neg1, nI_add, pk_mul, nI_clamp, i_le, i_lt, i_eq, fIx_n, nI_mI, mI_nI, mI_lt, nI_lt_m, mI_le, nI_le_m, xI_0, xI_s, bI_0, bI_1, bI_t, bI_f, n_31, j_bit, j_one, i_and, i_or, Nat.not_lt_zero, Nat.succ_ne_zero, Nat.add_one_ne_zero, Nat.add_one_sub_one, Nat.zero_le, Nat.or_zero, Nat.zero_or, Bool.not_true, Bool.not_false, Bool.true_and, Bool.false_and, Bool.and_true, Bool.and_false, ↓reduceIte, if_true, if_false, not_true_eq_false, not_false_eq_true, true_and, and_true, false_and, and_false, and_self, true_or, or_true, false_or, or_false, Nat.reduceEqDiff, Nat.reduceLT, Nat.reduceLeDiff, Nat.reduceAdd, Nat.reduceMul, Nat.reduceSub, Nat.add_zero, Nat.zero_add, Nat.mul_zero, Nat.zero_mul, ne_eq, Bool.not_eq_true, Bool.not_eq_false, reduceCtorEq, decide_true, decide_false, decide_eq_true_eq, decide_eq_false_iff_not, Bool.false_eq_true, if_pos, if_neg]
    simp only [fLt_e, fJn_s, i_lit, i_neg1] at e1 ⊢
    rw [if_neg e2, e1, hx, e]
theorem spv_one (w : gWf G) {k g xn : Nat} (hk : k < G 3) (hd : 16 ^ 11 ∣ xn) : spv G (k + 1) g xn (fun _ => 0) (fun _ => 1) ≤ xn := by
  unfold spv
  have w1 := w.1
  by_cases h0 : gpl G (G 2) g = 0
  · rw [if_pos h0]; omega
  · rw [if_neg h0]
    have h2 : 0 < G 2 := by
      have := gpl_full h0
      omega
    obtain ⟨s, hs⟩ : ∃ s, G 2 = s + 1 := ⟨G 2 - 1, by omega⟩
    rw [hs, Nat.add_sub_cancel]
    rw [cc_one w (gsx_16 w (show k + 1 ≤ G 3 by omega)) _ _ _ (Nat.le_refl _) (by omega)]
    exact Nat.div_mul_le_self _ _
theorem x_spread (X : rHou sc 0 q G) (w : gWf G) {k g xn : Nat} (hk : k < G 3) (hg : g < 64) (hd : 16 ^ 11 ∣ xn) {TT : (Nat → Nat) → (Nat → Nat) → Nat} (hTT : TT (fun _ => 0) (fun _ => 1) + xn < 2 ^ 60) {t : pT} (E : oEnd TT t) :
    ∃ t', f_X4_spread 0 (nI k) (lN xn) (nI g) (oQ sc t) = some ((), oQ sc t') ∧ oEnd (fun a b => TT a b + spv G (k + 1) g xn a b) t' ∧ t'.2.2.2 = t.2.2.2 + lN xn := by
  have w1 := w.1
  have XQ : ∀ t, rHou (oQ sc t) 0 q G := fun _ => X
  have ho : ∀ t, f_X2_opening 0 (nI g) (oQ sc t) = some (xI (gpl G (G 2) g), oQ sc t) := fun t => x_opening (XQ t) w hg
  unfold f_X4_spread
  simp only [fLt_e, oQ_rL, oQ_sL, ho, fBd_s]
  obtain ⟨Cn, Pn, i1, i2, i3, i4⟩ := E
  have h1 := spv_one w (g := g) hk hd
  by_cases h0 : gpl G (G 2) g = 0
  · rw [h0, xI_0]
    refine ⟨(t.1, t.2.1, t.2.2.1, t.2.2.2 + lN xn), ?_, ⟨Cn, Pn, i1, i2, i3, fun a b => ?_⟩, rfl⟩
    · simp (disch := omega) only [fLt_e, fBd_s, fJn_s, fNn_s, fNu_0, fNu_s, fBo_0, fBo_1, fBo_b, i_lit, i_neg1, nI_add, pk_mul, nI_clamp, i_le, i_lt, i_eq, fIx_n, nI_mI, mI_nI, mI_lt, nI_lt_m, mI_le, nI_le_m, xI_0, xI_s, bI_0, bI_1, bI_t, bI_f, n_31, j_bit, j_one, i_and, i_or, Nat.not_lt_zero, Nat.succ_ne_zero, Nat.add_one_ne_zero, Nat.add_one_sub_one, Nat.zero_le, Nat.or_zero, Nat.zero_or, Bool.not_true, Bool.not_false, Bool.true_and, Bool.false_and, Bool.and_true, Bool.and_false, ↓reduceIte, if_true, if_false, not_true_eq_false, not_false_eq_true, true_and, and_true, false_and, and_false, and_self, true_or, or_true, false_or, or_false, Nat.reduceEqDiff, Nat.reduceLT, Nat.reduceLeDiff, Nat.reduceAdd, Nat.reduceMul, Nat.reduceSub, Nat.add_zero, Nat.zero_add, Nat.mul_zero, Nat.zero_mul, ne_eq, Bool.not_eq_true, Bool.not_eq_false, reduceCtorEq, decide_true, decide_false, decide_eq_true_eq, decide_eq_false_iff_not, Bool.false_eq_true, if_pos, if_neg]
    · show _ = TT a b + spv G (k + 1) g xn a b
      unfold spv
      rw [if_pos h0, i4 a b, Nat.add_zero]
  · have hf := gpl_full h0
    rw [hf]
    obtain ⟨s, hs⟩ : ∃ s, G 2 = s + 1 := ⟨G 2 - 1, by omega⟩
    rw [hs, xI_s]
    have hp0 : s * 64 + g < 768 := by omega
    have I : oInv G (gsx G (k + 1)) (fun a b => TT a b + spv G (k + 1) g xn a b) (fun p => if p = s * 64 + g then xn else 0) (vp_updL t.1 (s * 64 + g) (lN xn), t.2.1, t.2.2.1, t.2.2.2 + lN xn) := by
      refine ⟨Cn, Pn, ?_, i2, i3, ?_, ?_, ?_⟩
      · intro p hp
        simp only [updL_at]
        by_cases hpq : p = s * 64 + g
        · rw [if_pos hpq, if_pos hpq]
        · rw [if_neg hpq, if_neg hpq]; exact i1 p hp
      · intro p hp
        simp only
        split
        · rename_i hpq
          rw [hpq, show (s * 64 + g) / 64 = s by omega]
          exact Nat.dvd_trans (Nat.pow_dvd_pow 16 (by omega)) hd
        · exact Nat.dvd_zero _
      · intro p hp hne
        simp only at hne
        by_cases hpq : p = s * 64 + g
        · omega
        · rw [if_neg hpq] at hne; exact absurd rfl hne
      · intro a b
        show _ = TT a b + spv G (k + 1) g xn a b
        unfold spv
        rw [if_neg h0, ← i4 a b, hs, Nat.add_sub_cancel]
        have hz := zs_upd (fun _ => 0) (xn / 16 ^ s * cc G (gsx G (k + 1)) a (fun s => b (gsl G s)) (s + 1) g) hp0
        rw [zs_zero (fun _ _ => rfl), Nat.zero_add, Nat.add_zero] at hz
        unfold oTT
        have hc : zs (fun p => (if p = s * 64 + g then xn else 0) / 16 ^ (p / 64) * cc G (gsx G (k + 1)) a (fun s => b (gsl G s)) (p / 64 + 1) (p % 64)) 768 = zs (fun p => if p = s * 64 + g then xn / 16 ^ s * cc G (gsx G (k + 1)) a (fun s => b (gsl G s)) (s + 1) g else 0) 768 := by
          apply zs_cong
          intro p hp
          by_cases hpq : p = s * 64 + g
          · rw [if_pos hpq, if_pos hpq, hpq, show (s * 64 + g) / 64 = s by omega, show (s * 64 + g) % 64 = g by omega]
          · rw [if_neg hpq, if_neg hpq, Nat.zero_div, Nat.zero_mul]
        show zs (fun s => a s * Pn s) 12 + zs (fun e => b e * Cn e) 10 + zs (fun p => (if p = s * 64 + g then xn else 0) / 16 ^ (p / 64) * cc G (gsx G (k + 1)) a (fun s => b (gsl G s)) (p / 64 + 1) (p % 64)) 768 = _
        rw [hc, hz]
    obtain ⟨t', e, r1, r2⟩ := x_spL43 X w hk (by
      show TT (fun _ => 0) (fun _ => 1) + spv G (k + 1) g xn (fun _ => 0) (fun _ => 1) < 2 ^ 60
      omega) (s + 1) fF _ _ (by omega) (fF_lt (by omega)) I (fun p hp hq => if_neg (by omega))
    refine ⟨t', ?_, r1, by rw [r2]⟩
    rw [xI_s] at e
    simp (disch := omega) only [fLt_e, fBd_s, fJn_s, fNn_s, fNu_0, fNu_s, fBo_0, fBo_1, fBo_b, i_lit, i_neg1, nI_add, pk_mul, nI_clamp, i_le, i_lt, i_eq, fIx_n, nI_mI, mI_nI, mI_lt, nI_lt_m, mI_le, nI_le_m, xI_0, xI_s, bI_0, bI_1, bI_t, bI_f, n_31, j_bit, j_one, i_and, i_or, Nat.not_lt_zero, Nat.succ_ne_zero, Nat.add_one_ne_zero, Nat.add_one_sub_one, Nat.zero_le, Nat.or_zero, Nat.zero_or, Bool.not_true, Bool.not_false, Bool.true_and, Bool.false_and, Bool.and_true, Bool.and_false, ↓reduceIte, if_true, if_false, not_true_eq_false, not_false_eq_true, true_and, and_true, false_and, and_false, and_self, true_or, or_true, false_or, or_false, Nat.reduceEqDiff, Nat.reduceLT, Nat.reduceLeDiff, Nat.reduceAdd, Nat.reduceMul, Nat.reduceSub, Nat.add_zero, Nat.zero_add, Nat.mul_zero, Nat.zero_mul, ne_eq, Bool.not_eq_true, Bool.not_eq_false, reduceCtorEq, decide_true, decide_false, decide_eq_true_eq, decide_eq_false_iff_not, Bool.false_eq_true, if_pos, if_neg, oQ_rW, oQ_sW, e]
theorem oEnd_one {TT : (Nat → Nat) → (Nat → Nat) → Nat} {t : pT} (E : oEnd TT t) : (∀ e, e < 10 → t.2.1 e = lN (TT (fun _ => 0) (fun k => if k = e then 1 else 0))) ∧ (∀ s, s < 12 → t.2.2.1 s = lN (TT (fun k => if k = s then 1 else 0) (fun _ => 0))) := by
  obtain ⟨Cn, Pn, i1, i2, i3, i4⟩ := E
  have hz : ∀ (f : Nat → Nat) (e n : Nat), e < n → zs (fun k => (if k = e then 1 else 0) * f k) n = f e := by
    intro f e n he
    have h := zs_upd (fun _ => 0) (f e) he
    rw [zs_zero (fun _ _ => rfl), Nat.zero_add, Nat.add_zero] at h
    rw [← h]
    apply zs_cong
    intro k hk
    by_cases hke : k = e
    · rw [if_pos hke, if_pos hke, Nat.one_mul, hke]
    · rw [if_neg hke, if_neg hke, Nat.zero_mul]
  refine ⟨fun e he => ?_, fun s hs => ?_⟩
  · rw [i2 e he, ← i4, hz _ _ _ he, zs_zero (fun _ _ => Nat.zero_mul _), Nat.zero_add]
  · rw [i3 s hs, ← i4, hz _ _ _ hs, zs_zero (fun _ _ => Nat.zero_mul _), Nat.add_zero]
theorem spv_mul {kp g m : Nat} {a b : Nat → Nat} (w : gWf G) : spv G kp g (m * fWh) a b = m * spv G kp g fWh a b := by
  unfold spv
  have w1 := w.1
  by_cases h0 : gpl G (G 2) g = 0
  · rw [if_pos h0, if_pos h0, Nat.mul_zero]
  · rw [if_neg h0, if_neg h0, Nat.mul_div_assoc _ (by rw [fWh_16]; exact Nat.pow_dvd_pow 16 (by omega)), Nat.mul_assoc]
theorem ksm_le {kp : Nat} (w : gWf G) {f : Nat → Nat} {b : Nat} (hf : ∀ k, k < G 3 → f (k + 1) ≤ b) : ∀ n, n ≤ G 3 → ksm G kp f n ≤ n * (30 * b) := by
  intro n hn
  apply zs_le
  intro k hk
  have h1 := (w.2.2.2.2.1 k (by omega)).1
  have h2 : mlt G kp k ≤ 30 := by
    unfold mlt
    repeat' split
    all_goals omega
  exact Nat.mul_le_mul h2 (hf k (by omega))
theorem x_gaL24 (X : rHou sc 0 q G) (w : gWf G) {kp g : Nat} (hk : kp ≤ G 3) (hg : g < 64) : ∀ r j n t, j + r = G 3 → r < n → t.2.2.2 = lN (ksm G kp (fun _ => fWh) j) → oEnd (fun a b => ksm G kp (fun κ => spv G κ g fWh a b) j) t →
    ∃ t', f_X4_gather_L24 0 (xI kp) (nI g) n (nI j) (oQ sc t) = some ((), oQ sc t') ∧ t'.2.2.2 = lN (ksm G kp (fun _ => fWh) (G 3)) ∧ oEnd (fun a b => ksm G kp (fun κ => spv G κ g fWh a b) (G 3)) t' := by
  have w1 := w.1
  have hp : ∀ t, gP (oQ sc t) 2 0 0 = q + 1 := fun _ => X.1
  have hn3 : ∀ t, gI (oQ sc t) 7 q 3 = nI (G 3) := fun _ => X.2.1.1.2.2.2
  intro r
  induction r with
  | zero =>
    intro j n t hj hn e1 E
    obtain ⟨n, rfl⟩ : ∃ m, n = m + 1 := ⟨n - 1, by omega⟩
    have hj : j = G 3 := by omega
    subst hj
    refine ⟨t, ?_, e1, E⟩
    rw [f_X4_gather_L24]
    simp (disch := omega) only [fLt_e, fBd_s, fJn_s, fNn_s, fNu_0, fNu_s, fBo_0, fBo_1, fBo_b, i_lit, i_neg1, nI_add, pk_mul, nI_clamp, i_le, i_lt, i_eq, fIx_n, nI_mI, mI_nI, mI_lt, nI_lt_m, mI_le, nI_le_m, xI_0, xI_s, bI_0, bI_1, bI_t, bI_f, n_31, j_bit, j_one, i_and, i_or, Nat.not_lt_zero, Nat.succ_ne_zero, Nat.add_one_ne_zero, Nat.add_one_sub_one, Nat.zero_le, Nat.or_zero, Nat.zero_or, Bool.not_true, Bool.not_false, Bool.true_and, Bool.false_and, Bool.and_true, Bool.and_false, ↓reduceIte, if_true, if_false, not_true_eq_false, not_false_eq_true, true_and, and_true, false_and, and_false, and_self, true_or, or_true, false_or, or_false, Nat.reduceEqDiff, Nat.reduceLT, Nat.reduceLeDiff, Nat.reduceAdd, Nat.reduceMul, Nat.reduceSub, Nat.add_zero, Nat.zero_add, Nat.mul_zero, Nat.zero_mul, ne_eq, Bool.not_eq_true, Bool.not_eq_false, reduceCtorEq, decide_true, decide_false, decide_eq_true_eq, decide_eq_false_iff_not, Bool.false_eq_true, if_pos, if_neg, hp, hn3]
  | succ r ih =>
    intro j n t hj hn e1 E
    obtain ⟨n, rfl⟩ : ∃ m, n = m + 1 := ⟨n - 1, by omega⟩
    have hlot : ∀ t, gA (oQ sc t) 7 q 13 j = nI (G (121 + j)) := fun _ => (X.2.1.2.2.2 j (by omega)).1
    have wl := (w.2.2.2.2.1 j (by omega)).1
    have hTT : ∀ m, m ≤ 30 → ksm G kp (fun κ => spv G κ g fWh (fun _ => 0) (fun _ => 1)) j + m * fWh < 2 ^ 60 := by
      intro m hm
      have h1 := ksm_le (kp := kp) w (f := fun κ => spv G κ g fWh (fun _ => 0) (fun _ => 1)) (b := fWh) (fun k hk => spv_one w hk (by rw [fWh_16]; exact Nat.dvd_refl _)) j (by omega)
      have h2 : m * fWh ≤ 30 * fWh := Nat.mul_le_mul_right _ hm
      have h3 : j * (30 * fWh) ≤ 4 * (30 * fWh) := Nat.mul_le_mul_right _ (by omega)
      unfold fWh at h1 h2 h3 ⊢
      omega
    have step : ∀ m, m ≤ 30 → ∃ t', f_X4_spread 0 (nI j) (lN (m * fWh)) (nI g) (oQ sc t) = some ((), oQ sc t') ∧ oEnd (fun a b => ksm G kp (fun κ => spv G κ g fWh a b) j + m * spv G (j + 1) g fWh a b) t' ∧ t'.2.2.2 = t.2.2.2 + lN (m * fWh) := by
      intro m hm
      obtain ⟨t', h1, h2, h3⟩ := x_spread X w (show j < G 3 by omega) hg (xn := m * fWh) (by rw [← fWh_16]; exact Nat.dvd_mul_left _ _) (hTT m hm) E
      refine ⟨t', h1, ?_, h3⟩
      simp only [spv_mul w] at h2
      exact h2
    rw [f_X4_gather_L24]
    by_cases h0 : kp = 0
    · have hm : mlt G kp j = G (121 + j) := by unfold mlt; rw [if_pos h0]
      obtain ⟨t1, s1, s2, s3⟩ := step (G (121 + j)) (by omega)
      obtain ⟨t', r1, r2, r3⟩ := ih (j + 1) n t1 (by omega) (by omega) (by rw [s3, e1, ksm_s, hm, lN_add]) (by simp only [ksm_s, hm]; exact s2)
      refine ⟨t', ?_, r2, r3⟩
      have ew : lN (G (121 + j)) * lN 17592186044416 = lN (G (121 + j) * fWh) := lN_mul _ _
      subst h0
      simp (disch := omega) only [fLt_e, fBd_s, fJn_s, fNn_s, fNu_0, fNu_s, fBo_0, fBo_1, fBo_b, i_lit, i_neg1, nI_add, pk_mul, nI_clamp, i_le, i_lt, i_eq, fIx_n, nI_mI, mI_nI, mI_lt, nI_lt_m, mI_le, nI_le_m, xI_0, xI_s, bI_0, bI_1, bI_t, bI_f, n_31, j_bit, j_one, i_and, i_or, Nat.not_lt_zero, Nat.succ_ne_zero, Nat.add_one_ne_zero, Nat.add_one_sub_one, Nat.zero_le, Nat.or_zero, Nat.zero_or, Bool.not_true, Bool.not_false, Bool.true_and, Bool.false_and, Bool.and_true, Bool.and_false, ↓reduceIte, if_true, if_false, not_true_eq_false, not_false_eq_true, true_and, and_true, false_and, and_false, and_self, true_or, or_true, false_or, or_false, Nat.reduceEqDiff, Nat.reduceLT, Nat.reduceLeDiff, Nat.reduceAdd, Nat.reduceMul, Nat.reduceSub, Nat.add_zero, Nat.zero_add, Nat.mul_zero, Nat.zero_mul, ne_eq, Bool.not_eq_true, Bool.not_eq_false, reduceCtorEq, decide_true, decide_false, decide_eq_true_eq, decide_eq_false_iff_not, Bool.false_eq_true, if_pos, if_neg, l_lit, nI_l, hp, hn3, hlot, ew, s1]
      exact r1
    · obtain ⟨κ, rfl⟩ : ∃ κ, kp = κ + 1 := ⟨kp - 1, by omega⟩
      by_cases hκ : κ = j
      · subst hκ
        have hm : mlt G (κ + 1) κ = 1 := by unfold mlt; rw [if_neg (by omega), if_pos rfl]
        obtain ⟨t1, s1, s2, s3⟩ := step 1 (by omega)
        obtain ⟨t', r1, r2, r3⟩ := ih (κ + 1) n t1 (by omega) (by omega) (by rw [s3, e1, ksm_s, hm, lN_add]) (by simp only [ksm_s, hm]; exact s2)
        refine ⟨t', ?_, r2, r3⟩
        rw [Nat.one_mul] at s1
        unfold fWh at s1
        simp (disch := omega) only [fLt_e, fBd_s, fJn_s, fNn_s, fNu_0, fNu_s, fBo_0, fBo_1, fBo_b, i_lit, i_neg1, nI_add, pk_mul, nI_clamp, i_le, i_lt, i_eq, fIx_n, nI_mI, mI_nI, mI_lt, nI_lt_m, mI_le, nI_le_m, xI_0, xI_s, bI_0, bI_1, bI_t, bI_f, n_31, j_bit, j_one, i_and, i_or, Nat.not_lt_zero, Nat.succ_ne_zero, Nat.add_one_ne_zero, Nat.add_one_sub_one, Nat.zero_le, Nat.or_zero, Nat.zero_or, Bool.not_true, Bool.not_false, Bool.true_and, Bool.false_and, Bool.and_true, Bool.and_false, ↓reduceIte, if_true, if_false, not_true_eq_false, not_false_eq_true, true_and, and_true, false_and, and_false, and_self, true_or, or_true, false_or, or_false, Nat.reduceEqDiff, Nat.reduceLT, Nat.reduceLeDiff, Nat.reduceAdd, Nat.reduceMul, Nat.reduceSub, Nat.add_zero, Nat.zero_add, Nat.mul_zero, Nat.zero_mul, ne_eq, Bool.not_eq_true, Bool.not_eq_false, reduceCtorEq, decide_true, decide_false, decide_eq_true_eq, decide_eq_false_iff_not, Bool.false_eq_true, if_pos, if_neg, l_lit, hp, hn3, s1]
        exact r1
      · have hm : mlt G (κ + 1) j = 0 := by unfold mlt; rw [if_neg (by omega), if_neg (by omega)]
        obtain ⟨t', r1, r2, r3⟩ := ih (j + 1) n t (by omega) (by omega) (by rw [e1, ksm_s, hm, Nat.zero_mul]; rfl) (by simp only [ksm_s, hm, Nat.zero_mul, Nat.add_zero]; exact E)
        refine ⟨t', ?_, r2, r3⟩
        simp (disch := omega) only [fLt_e, fBd_s, fJn_s, fNn_s, fNu_0, fNu_s, fBo_0, fBo_1, fBo_b, i_lit, i_neg1, nI_add, pk_mul, nI_clamp, i_le, i_lt, i_eq, fIx_n, nI_mI, mI_nI, mI_lt, nI_lt_m, mI_le, nI_le_m, xI_0, xI_s, bI_0, bI_1, bI_t, bI_f, n_31, j_bit, j_one, i_and, i_or, Nat.not_lt_zero, Nat.succ_ne_zero, Nat.add_one_ne_zero, Nat.add_one_sub_one, Nat.zero_le, Nat.or_zero, Nat.zero_or, Bool.not_true, Bool.not_false, Bool.true_and, Bool.false_and, Bool.and_true, Bool.and_false, ↓reduceIte, if_true, if_false, not_true_eq_false, not_false_eq_true, true_and, and_true, false_and, and_false, and_self, true_or, or_true, false_or, or_false, Nat.reduceEqDiff, Nat.reduceLT, Nat.reduceLeDiff, Nat.reduceAdd, Nat.reduceMul, Nat.reduceSub, Nat.add_zero, Nat.zero_add, Nat.mul_zero, Nat.zero_mul, ne_eq, Bool.not_eq_true, Bool.not_eq_false, reduceCtorEq, decide_true, decide_false, decide_eq_true_eq, decide_eq_false_iff_not, Bool.false_eq_true, if_pos, if_neg, hp, hn3]
        exact r1
theorem x_gather (X : rHou sc 0 q G) (w : gWf G) (O : rO sc) {kp g : Nat} (hk : kp ≤ G 3) (hg : g < 64) :
    ∃ t, f_X4_gather 0 (xI kp) (nI g) sc = some ((), oQ sc t) ∧ t.2.2.2 = lN (ksm G kp (fun _ => fWh) (G 3)) ∧ oEnd (fun a b => ksm G kp (fun κ => spv G κ g fWh a b) (G 3)) t := by
  obtain ⟨t', h1, h2, h3⟩ := x_gaL24 X w hk hg (G 3) 0 fF (gB sc 4 0 1, (fun e => if e < 10 then lN 0 else gB sc 4 0 2 e), (fun e => if e < 12 then lN 0 else gB sc 4 0 3 e), lN 0) (by omega) (fF_lt (by have := w.1; omega)) rfl
    ⟨fun _ => 0, fun _ => 0, fun p hp => O p hp, fun e he => if_pos he, fun e he => if_pos he, fun a b => by
      rw [zs_zero (fun _ _ => Nat.mul_zero _), zs_zero (fun _ _ => Nat.mul_zero _)]
      rfl⟩
  refine ⟨t', ?_, h2, h3⟩
  have hse : sB sc 4 0 1 (gB sc 4 0 1) = sc := by
    apply st_ext
    · intro c' i' j'; rfl
    · intro c' i' j'; rfl
    · intro c' i' j'; rfl
    · intro c' i' j'
      simp only [gB_sB]
      by_cases h : c' = 4 ∧ i' = 0 ∧ j' = 1
      · rw [if_pos h, h.1, h.2.1, h.2.2]
      · rw [if_neg h]
    · intro c' i' j'; rfl
  unfold f_X4_gather
  rw [x_fill _ _ _ _ _ _ (by omega), fBd_s, x_fill _ _ _ _ _ _ (by omega), fBd_s, fLt_e, fLt_e]
  unfold oQ at h1 ⊢
  simp only [hse] at h1
  exact h1
end
