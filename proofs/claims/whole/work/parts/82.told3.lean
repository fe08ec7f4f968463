/-! layer 2: a name told before, with what a look ahead finds -/
section
variable {sc sm : fSt} {n : Nat} {c : Nat → Nat} {a p so : Nat}
/-- a name that stands in both lists, or a fault -/
theorem ps_told3 (P : psR sc sm n c a p so) {b o m ci ii ji ni : Nat} (h : 28 * b + o + m ≤ 140 ∧ m ≤ ni ∧ ni ≤ 140) (hN : ∀ k, k < m → gB sc ci ii ji k = gB sm 12 0 7 (28 * b + o + k)) : ∃ sc' sm' r, f_X12_readTold (nI b) (nI o) (nI m) sm = some (r, sm') ∧ xFr sc sc' ∧ yFr sm sm' ∧ ((∃ v, v < m ∧ so = 32 ∧ f_X5_find ci ii ji ni (nI m) (gL sc 5 0 7) sc = some (xI (v + 1), sc) ∧ r = nI v ∧ f_X5_takeName ci ii ji ni (nI m) sc = some (nI 1, sc') ∧ gI sc' 5 0 9 = nI v ∧ ∃ a' p' so', psR sc' sm' n c a' p' so' ∧ (p ≤ a' ∧ (¬ so' = 35 → p < p'))) ∨ ((¬ so = 32 ∨ f_X5_find ci ii ji ni (nI m) (gL sc 5 0 7) sc = some (mI, sc)) ∧ f_X5_takeName ci ii ji ni (nI m) sc = some (nI 0, sc') ∧ ∃ d, flR sc' sm' d a)) := by
  have hso := ps_so P
  have h64 := tok_35 P.2.1
  have hb := P.2.2.2.1
  have hn := ps_name P
  by_cases hs : so = 32
  · rw [decide_eq_true hs] at hn
    have hm := m_named (sm := sm) h.1
    have hx := x_find (st := sc) (c := ci) (i := ii) (j := ji) (n := ni) (m := m) h.2 (gL sc 5 0 7)
    rw [fnd_cg (g := fun k => gB sm 12 0 7 (28 * b + o + k)) _ _ _ (fun j _ hj => hN j (by omega)), ← ps_w P hs] at hx
    have hle := fnd_le (fun k => gB sm 12 0 7 (28 * b + o + k)) (gL sm 12 0 19) m 0
    generalize fnd (fun k => gB sm 12 0 7 (28 * b + o + k)) (gL sm 12 0 19) 0 m = r at hm hx hle
    cases r with
    | zero =>
      obtain ⟨sc', sm', e1, e2, F, f1, f2⟩ := ps_fail P (k := 3) (by omega)
      have hf := F.2.2.2.1
      have hmu := m_must_no (sm := sm') ⟨F.1, F.2.1⟩ F.2.2.2.1 (nI 1)
      refine ⟨sc', sm', mI, ?_, f1, f2, Or.inr ⟨Or.inr (by rw [← ps_w P hs]; exact hx), ?_, _, F⟩⟩
      · unfold f_X12_readTold
        simp (disch := omega) only [↓fLt_e, fBd_s, ↓fJn_s, fNn_s, fNu_0, fNu_s, fBo_0, fBo_1, fBo_b, i_lit, i_neg1, nI_add, pk_mul, nI_clamp, i_le, i_lt, i_eq, fIx_n, nI_mI, mI_nI, mI_lt, nI_lt_m, mI_le, nI_le_m, xI_0, xI_s, bI_0, bI_1, bI_t, bI_f, n_31, j_bit, j_one, i_and, i_or, Nat.not_lt_zero, Nat.succ_ne_zero, Nat.add_one_ne_zero, Nat.add_one_sub_one, Nat.zero_le, Nat.or_zero, Nat.zero_or, Bool.not_true, Bool.not_false, Bool.true_and, Bool.false_and, Bool.and_true, Bool.and_false, ↓reduceIte, if_true, if_false, not_true_eq_false, not_false_eq_true, true_and, and_true, false_and, and_false, and_self, true_or, or_true, false_or, or_false, Nat.reduceEqDiff, Nat.reduceLT, Nat.reduceLeDiff, Nat.reduceAdd, Nat.reduceMul, Nat.reduceSub, Nat.add_zero, Nat.zero_add, Nat.mul_zero, Nat.zero_mul, ne_eq, Bool.not_eq_true, Bool.not_eq_false, reduceCtorEq, decide_true, decide_false, decide_eq_true_eq, decide_eq_false_iff_not, Bool.false_eq_true, if_pos, if_neg, hb, hn, hm, e2, hmu]
      · unfold f_X5_takeName
        rw [← ps_w P hs]
        simp (disch := omega) only [↓fLt_e, fBd_s, ↓fJn_s, fNn_s, fNu_0, fNu_s, fBo_0, fBo_1, fBo_b, i_lit, i_neg1, nI_add, pk_mul, nI_clamp, i_le, i_lt, i_eq, fIx_n, nI_mI, mI_nI, mI_lt, nI_lt_m, mI_le, nI_le_m, xI_0, xI_s, bI_0, bI_1, bI_t, bI_f, n_31, j_bit, j_one, i_and, i_or, Nat.not_lt_zero, Nat.succ_ne_zero, Nat.add_one_ne_zero, Nat.add_one_sub_one, Nat.zero_le, Nat.or_zero, Nat.zero_or, Bool.not_true, Bool.not_false, Bool.true_and, Bool.false_and, Bool.and_true, Bool.and_false, ↓reduceIte, if_true, if_false, not_true_eq_false, not_false_eq_true, true_and, and_true, false_and, and_false, and_self, true_or, or_true, false_or, or_false, Nat.reduceEqDiff, Nat.reduceLT, Nat.reduceLeDiff, Nat.reduceAdd, Nat.reduceMul, Nat.reduceSub, Nat.add_zero, Nat.zero_add, Nat.mul_zero, Nat.zero_mul, ne_eq, Bool.not_eq_true, Bool.not_eq_false, reduceCtorEq, decide_true, decide_false, decide_eq_true_eq, decide_eq_false_iff_not, Bool.false_eq_true, if_pos, if_neg, hso, hs, hx, e1]
    | succ v =>
      obtain ⟨sc', sm', a', p', so', e1, e2, P', f1, f2, m1, m2⟩ := ps_adv (ps_9 P (nI v))
      refine ⟨sc', sm', nI v, ?_, xFr_tr (xFr_I (by omega) (xFr_rf _)) f1, f2, Or.inl ⟨v, by omega, hs, by rw [← ps_w P hs]; exact hx, rfl, ?_, ?_, a', p', so', P', m1⟩⟩
      · unfold f_X12_readTold f_X12_must
        simp (disch := omega) only [↓fLt_e, fBd_s, ↓fJn_s, fNn_s, fNu_0, fNu_s, fBo_0, fBo_1, fBo_b, i_lit, i_neg1, nI_add, pk_mul, nI_clamp, i_le, i_lt, i_eq, fIx_n, nI_mI, mI_nI, mI_lt, nI_lt_m, mI_le, nI_le_m, xI_0, xI_s, bI_0, bI_1, bI_t, bI_f, n_31, j_bit, j_one, i_and, i_or, Nat.not_lt_zero, Nat.succ_ne_zero, Nat.add_one_ne_zero, Nat.add_one_sub_one, Nat.zero_le, Nat.or_zero, Nat.zero_or, Bool.not_true, Bool.not_false, Bool.true_and, Bool.false_and, Bool.and_true, Bool.and_false, ↓reduceIte, if_true, if_false, not_true_eq_false, not_false_eq_true, true_and, and_true, false_and, and_false, and_self, true_or, or_true, false_or, or_false, Nat.reduceEqDiff, Nat.reduceLT, Nat.reduceLeDiff, Nat.reduceAdd, Nat.reduceMul, Nat.reduceSub, Nat.add_zero, Nat.zero_add, Nat.mul_zero, Nat.zero_mul, ne_eq, Bool.not_eq_true, Bool.not_eq_false, reduceCtorEq, decide_true, decide_false, decide_eq_true_eq, decide_eq_false_iff_not, Bool.false_eq_true, if_pos, if_neg, hb, hn, hm, e2]
      · unfold f_X5_takeName
        rw [← ps_w P hs]
        simp (disch := omega) only [↓fLt_e, fBd_s, ↓fJn_s, fNn_s, fNu_0, fNu_s, fBo_0, fBo_1, fBo_b, i_lit, i_neg1, nI_add, pk_mul, nI_clamp, i_le, i_lt, i_eq, fIx_n, nI_mI, mI_nI, mI_lt, nI_lt_m, mI_le, nI_le_m, xI_0, xI_s, bI_0, bI_1, bI_t, bI_f, n_31, j_bit, j_one, i_and, i_or, Nat.not_lt_zero, Nat.succ_ne_zero, Nat.add_one_ne_zero, Nat.add_one_sub_one, Nat.zero_le, Nat.or_zero, Nat.zero_or, Bool.not_true, Bool.not_false, Bool.true_and, Bool.false_and, Bool.and_true, Bool.and_false, ↓reduceIte, if_true, if_false, not_true_eq_false, not_false_eq_true, true_and, and_true, false_and, and_false, and_self, true_or, or_true, false_or, or_false, Nat.reduceEqDiff, Nat.reduceLT, Nat.reduceLeDiff, Nat.reduceAdd, Nat.reduceMul, Nat.reduceSub, Nat.add_zero, Nat.zero_add, Nat.mul_zero, Nat.zero_mul, ne_eq, Bool.not_eq_true, Bool.not_eq_false, reduceCtorEq, decide_true, decide_false, decide_eq_true_eq, decide_eq_false_iff_not, Bool.false_eq_true, if_pos, if_neg, hso, hs, hx, e1]
      · rw [m2, gI_sI, if_pos ⟨rfl, rfl, rfl⟩]
  · rw [decide_eq_false hs] at hn
    obtain ⟨sc', sm', e1, e2, F, f1, f2⟩ := ps_wrong P
    have hf := F.2.2.2.1
    have hmu := m_must_no (sm := sm') ⟨F.1, F.2.1⟩ F.2.2.2.1 (nI 1)
    have h1 := F.1
    have h2 := F.2.1
    have k0 : ¬ nI (if so = 36 then 1 else 2) = nI 0 := by rw [i_eq _ _ (by omega) (by omega)]; omega
    refine ⟨sc', sm', nI 0, ?_, f1, f2, Or.inr ⟨Or.inl hs, ?_, _, F⟩⟩
    · unfold f_X12_readTold
      simp (disch := omega) only [↓fJn_s, i_lit, hb, hn, bI_f, not_true_eq_false, not_false_eq_true, if_true, if_false, e2, fBd_s, hf, k0, ↓fLt_e, hmu]
    · unfold f_X5_takeName
      simp (disch := omega) only [↓fLt_e, fBd_s, ↓fJn_s, fNn_s, fNu_0, fNu_s, fBo_0, fBo_1, fBo_b, i_lit, i_neg1, nI_add, pk_mul, nI_clamp, i_le, i_lt, i_eq, fIx_n, nI_mI, mI_nI, mI_lt, nI_lt_m, mI_le, nI_le_m, xI_0, xI_s, bI_0, bI_1, bI_t, bI_f, n_31, j_bit, j_one, i_and, i_or, Nat.not_lt_zero, Nat.succ_ne_zero, Nat.add_one_ne_zero, Nat.add_one_sub_one, Nat.zero_le, Nat.or_zero, Nat.zero_or, Bool.not_true, Bool.not_false, Bool.true_and, Bool.false_and, Bool.and_true, Bool.and_false, ↓reduceIte, if_true, if_false, not_true_eq_false, not_false_eq_true, true_and, and_true, false_and, and_false, and_self, true_or, or_true, false_or, or_false, Nat.reduceEqDiff, Nat.reduceLT, Nat.reduceLeDiff, Nat.reduceAdd, Nat.reduceMul, Nat.reduceSub, Nat.add_zero, Nat.zero_add, Nat.mul_zero, Nat.zero_mul, ne_eq, Bool.not_eq_true, Bool.not_eq_false, reduceCtorEq, decide_true, decide_false, decide_eq_true_eq, decide_eq_false_iff_not, Bool.false_eq_true, if_pos, if_neg, hso, hs, e1]
end
-- the reference has failed on a long word that the class still stands on
def hfR (sc sm : fSt) (a : Nat) : Prop := a ≤ 900 ∧ gI sc 5 0 6 = nI 33 ∧ gI sc 5 0 4 = nI a ∧ gI sm 12 0 12 = nI 2 ∧ gI sm 12 0 13 = nI a
theorem hf_take {sc sm : fSt} {a k : Nat} (H : hfR sc sm a) (hk : ¬ k = 33 ∧ k < 64) : ∃ sc', f_X5_take (nI k) sc = some (nI 0, sc') ∧ xFr sc sc' ∧ flR sc' sm 2 a := by
  obtain ⟨h1, h2, h3, h4, h5⟩ := H
  refine ⟨sI (sI sc 5 0 10 (nI 2)) 5 0 11 (gI sc 5 0 4), ?_, xFr_I (by omega) (xFr_I (by omega) (xFr_rf _)), by omega, by omega, h1, h4, h5, ?_, ?_⟩
  · have e : ¬ 33 = k := fun e => hk.1 e.symm
    unfold f_X5_take f_X5_failHere
    simp (disch := omega) only [↓fLt_e, fBd_s, ↓fJn_s, fNn_s, fNu_0, fNu_s, fBo_0, fBo_1, fBo_b, i_lit, i_neg1, nI_add, pk_mul, nI_clamp, i_le, i_lt, i_eq, fIx_n, nI_mI, mI_nI, mI_lt, nI_lt_m, mI_le, nI_le_m, xI_0, xI_s, bI_0, bI_1, bI_t, bI_f, n_31, j_bit, j_one, i_and, i_or, Nat.not_lt_zero, Nat.succ_ne_zero, Nat.add_one_ne_zero, Nat.add_one_sub_one, Nat.zero_le, Nat.or_zero, Nat.zero_or, Bool.not_true, Bool.not_false, Bool.true_and, Bool.false_and, Bool.and_true, Bool.and_false, ↓reduceIte, if_true, if_false, not_true_eq_false, not_false_eq_true, true_and, and_true, false_and, and_false, and_self, true_or, or_true, false_or, or_false, Nat.reduceEqDiff, Nat.reduceLT, Nat.reduceLeDiff, Nat.reduceAdd, Nat.reduceMul, Nat.reduceSub, Nat.add_zero, Nat.zero_add, Nat.mul_zero, Nat.zero_mul, ne_eq, Bool.not_eq_true, Bool.not_eq_false, reduceCtorEq, decide_true, decide_false, decide_eq_true_eq, decide_eq_false_iff_not, Bool.false_eq_true, if_pos, if_neg, h2, e, x_fail]
  · simp (disch := omega) only [gI_sI, gL_sL, gA_sA, gB_sB, gP_sP, gI_sL, gI_sA, gI_sB, gI_sP, gL_sI, gL_sA, gL_sB, gL_sP, gA_sI, gA_sL, gA_sB, gA_sP, gB_sI, gB_sL, gB_sA, gB_sP, gP_sI, gP_sL, gP_sA, gP_sB, fLt_e, fBd_s, fJn_s, fNn_s, fNu_0, fNu_s, fBo_0, fBo_1, fBo_b, i_lit, i_neg1, nI_add, pk_mul, nI_clamp, i_le, i_lt, i_eq, fIx_n, nI_mI, mI_nI, mI_lt, nI_lt_m, mI_le, nI_le_m, xI_0, xI_s, bI_0, bI_1, bI_t, bI_f, n_31, j_bit, j_one, i_and, i_or, Nat.not_lt_zero, Nat.succ_ne_zero, Nat.add_one_ne_zero, Nat.add_one_sub_one, Nat.zero_le, Nat.or_zero, Nat.zero_or, Bool.not_true, Bool.not_false, Bool.true_and, Bool.false_and, Bool.and_true, Bool.and_false, ↓reduceIte, if_true, if_false, not_true_eq_false, not_false_eq_true, true_and, and_true, false_and, and_false, and_self, true_or, or_true, false_or, or_false, Nat.reduceEqDiff, Nat.reduceLT, Nat.reduceLeDiff, Nat.reduceAdd, Nat.reduceMul, Nat.reduceSub, Nat.add_zero, Nat.zero_add, Nat.mul_zero, Nat.zero_mul, ne_eq, Bool.not_eq_true, Bool.not_eq_false, reduceCtorEq, decide_true, decide_false, decide_eq_true_eq, decide_eq_false_iff_not, Bool.false_eq_true, if_pos, if_neg]
  · simp (disch := omega) only [gI_sI, gL_sL, gA_sA, gB_sB, gP_sP, gI_sL, gI_sA, gI_sB, gI_sP, gL_sI, gL_sA, gL_sB, gL_sP, gA_sI, gA_sL, gA_sB, gA_sP, gB_sI, gB_sL, gB_sA, gB_sP, gP_sI, gP_sL, gP_sA, gP_sB, fLt_e, fBd_s, fJn_s, fNn_s, fNu_0, fNu_s, fBo_0, fBo_1, fBo_b, i_lit, i_neg1, nI_add, pk_mul, nI_clamp, i_le, i_lt, i_eq, fIx_n, nI_mI, mI_nI, mI_lt, nI_lt_m, mI_le, nI_le_m, xI_0, xI_s, bI_0, bI_1, bI_t, bI_f, n_31, j_bit, j_one, i_and, i_or, Nat.not_lt_zero, Nat.succ_ne_zero, Nat.add_one_ne_zero, Nat.add_one_sub_one, Nat.zero_le, Nat.or_zero, Nat.zero_or, Bool.not_true, Bool.not_false, Bool.true_and, Bool.false_and, Bool.and_true, Bool.and_false, ↓reduceIte, if_true, if_false, not_true_eq_false, not_false_eq_true, true_and, and_true, false_and, and_false, and_self, true_or, or_true, false_or, or_false, Nat.reduceEqDiff, Nat.reduceLT, Nat.reduceLeDiff, Nat.reduceAdd, Nat.reduceMul, Nat.reduceSub, Nat.add_zero, Nat.zero_add, Nat.mul_zero, Nat.zero_mul, ne_eq, Bool.not_eq_true, Bool.not_eq_false, reduceCtorEq, decide_true, decide_false, decide_eq_true_eq, decide_eq_false_iff_not, Bool.false_eq_true, if_pos, if_neg, h3]
