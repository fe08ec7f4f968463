/-! layer 2: a new name -/
-- the counts and names of a stage under reading: class 7 instance q, the reference's block 4
def nmR (sc sm : fSt) (q : Nat) (G : Nat → Nat) : Prop := (G 0 ≤ 6 ∧ G 1 ≤ 6 ∧ G 2 ≤ 12 ∧ G 3 ≤ 4) ∧ (gI sc 7 q 0 = nI (G 0) ∧ gI sc 7 q 1 = nI (G 1) ∧ gI sc 7 q 2 = nI (G 2) ∧ gI sc 7 q 3 = nI (G 3)) ∧ (gA sm 12 0 5 1720 = nI (G 0) ∧ gA sm 12 0 5 1721 = nI (G 1) ∧ gA sm 12 0 5 1722 = nI (G 2) ∧ gA sm 12 0 5 1723 = nI (G 3)) ∧ rNam sc q G (fun k => gB sm 12 0 7 (112 + k))
theorem nmR_fr {sc sm sc' sm' : fSt} {q : Nat} {G : Nat → Nat} (N : nmR sc sm q G) (f : xFr sc sc') (g : yFr sm sm') : nmR sc' sm' q G := by
  obtain ⟨b, ⟨x0, x1, x2, x3⟩, y, m⟩ := N
  refine ⟨b, ⟨?_, ?_, ?_, ?_⟩, by rw [g.2.2.1]; exact y, ?_⟩
  · rw [f.1 _ _ _ (by omega)]; exact x0
  · rw [f.1 _ _ _ (by omega)]; exact x1
  · rw [f.1 _ _ _ (by omega)]; exact x2
  · rw [f.1 _ _ _ (by omega)]; exact x3
  · unfold rNam at *
    rw [f.2.2.2.1, g.2.2.2.1]
    exact m
theorem fnd_mc {sc sm : fSt} {q ji o m ni : Nat} (h : 112 + o + m ≤ 140 ∧ m ≤ ni ∧ ni ≤ 140) (hw : gL sm 12 0 19 = gL sc 5 0 7) (hN : ∀ k, k < m → gB sc 7 q ji k = gB sm 12 0 7 (112 + (o + k))) : ∃ r, r ≤ m ∧ f_X12_named (nI 4) (nI o) (nI m) sm = some (xI r, sm) ∧ f_X5_find 7 q ji ni (nI m) (gL sc 5 0 7) sc = some (xI r, sc) := by
  have hm := m_named (sm := sm) (b := 4) (o := o) (m := m) (by omega)
  have hx := x_find (st := sc) (c := 7) (i := q) (j := ji) (n := ni) (m := m) h.2 (gL sc 5 0 7)
  rw [fnd_cg (g := fun k => gB sm 12 0 7 (28 * 4 + o + k)) _ _ _ (fun j _ hj => (hN j (by omega)).trans (congrArg (gB sm 12 0 7) (by omega))), ← hw] at hx
  rw [hw] at hx
  rw [hw] at hm
  have hle := fnd_le (fun k => gB sm 12 0 7 (28 * 4 + o + k)) (gL sc 5 0 7) m 0
  exact ⟨_, by omega, hm, hx⟩
theorem ps_taken {sc sm : fSt} {q : Nat} {G : Nat → Nat} (hw : gL sm 12 0 19 = gL sc 5 0 7) (N : nmR sc sm q G) : ∃ b, f_X12_isTaken sm = some (bI b, sm) ∧ f_X7_isTaken q (gL sc 5 0 7) sc = some (bI b, sc) := by
  obtain ⟨⟨b0, b1, b2, b3⟩, ⟨x0, x1, x2, x3⟩, ⟨y0, y1, y2, y3⟩, n0, n1, n2, n3⟩ := N
  obtain ⟨r0, h0, e0, d0⟩ := fnd_mc (sc := sc) (sm := sm) (q := q) (ji := 1) (o := 0) (m := G 0) (ni := 6) (by omega) hw (fun k hk => (n0 k hk).trans (congrArg (gB sm 12 0 7) (by omega)))
  obtain ⟨r1, h1, e1, d1⟩ := fnd_mc (sc := sc) (sm := sm) (q := q) (ji := 2) (o := 6) (m := G 1) (ni := 6) (by omega) hw (fun k hk => n1 k hk)
  obtain ⟨r2, h2, e2, d2⟩ := fnd_mc (sc := sc) (sm := sm) (q := q) (ji := 3) (o := 12) (m := G 2) (ni := 12) (by omega) hw (fun k hk => n2 k hk)
  obtain ⟨r3, h3, e3, d3⟩ := fnd_mc (sc := sc) (sm := sm) (q := q) (ji := 4) (o := 24) (m := G 3) (ni := 4) (by omega) hw (fun k hk => n3 k hk)
  unfold f_X12_isTaken f_X7_isTaken
  rw [x0, d0]
  simp (disch := omega) only [↓fLt_e, fBd_s, ↓fJn_s, fNn_s, fNu_0, fNu_s, fBo_0, fBo_1, fBo_b, i_lit, i_neg1, nI_add, pk_mul, nI_clamp, i_le, i_lt, i_eq, fIx_n, nI_mI, mI_nI, mI_lt, nI_lt_m, mI_le, nI_le_m, xI_0, xI_s, bI_0, bI_1, bI_t, bI_f, n_31, j_bit, j_one, i_and, i_or, Nat.not_lt_zero, Nat.succ_ne_zero, Nat.add_one_ne_zero, Nat.add_one_sub_one, Nat.zero_le, Nat.or_zero, Nat.zero_or, Bool.not_true, Bool.not_false, Bool.true_and, Bool.false_and, Bool.and_true, Bool.and_false, ↓reduceIte, if_true, if_false, not_true_eq_false, not_false_eq_true, true_and, and_true, false_and, and_false, and_self, true_or, or_true, false_or, or_false, Nat.reduceEqDiff, Nat.reduceLT, Nat.reduceLeDiff, Nat.reduceAdd, Nat.reduceMul, Nat.reduceSub, Nat.add_zero, Nat.zero_add, Nat.mul_zero, Nat.zero_mul, ne_eq, Bool.not_eq_true, Bool.not_eq_false, reduceCtorEq, decide_true, decide_false, decide_eq_true_eq, decide_eq_false_iff_not, Bool.false_eq_true, if_pos, if_neg, y0, e0]
  cases r0 with
  | succ r0 =>
    refine ⟨true, ?_, ?_⟩
    · simp (disch := omega) only [↓fLt_e, fBd_s, ↓fJn_s, fNn_s, fNu_0, fNu_s, fBo_0, fBo_1, fBo_b, i_lit, i_neg1, nI_add, pk_mul, nI_clamp, i_le, i_lt, i_eq, fIx_n, nI_mI, mI_nI, mI_lt, nI_lt_m, mI_le, nI_le_m, xI_0, xI_s, bI_0, bI_1, bI_t, bI_f, n_31, j_bit, j_one, i_and, i_or, Nat.not_lt_zero, Nat.succ_ne_zero, Nat.add_one_ne_zero, Nat.add_one_sub_one, Nat.zero_le, Nat.or_zero, Nat.zero_or, Bool.not_true, Bool.not_false, Bool.true_and, Bool.false_and, Bool.and_true, Bool.and_false, ↓reduceIte, if_true, if_false, not_true_eq_false, not_false_eq_true, true_and, and_true, false_and, and_false, and_self, true_or, or_true, false_or, or_false, Nat.reduceEqDiff, Nat.reduceLT, Nat.reduceLeDiff, Nat.reduceAdd, Nat.reduceMul, Nat.reduceSub, Nat.add_zero, Nat.zero_add, Nat.mul_zero, Nat.zero_mul, ne_eq, Bool.not_eq_true, Bool.not_eq_false, reduceCtorEq, decide_true, decide_false, decide_eq_true_eq, decide_eq_false_iff_not, Bool.false_eq_true, if_pos, if_neg]
    · simp (disch := omega) only [↓fLt_e, fBd_s, ↓fJn_s, fNn_s, fNu_0, fNu_s, fBo_0, fBo_1, fBo_b, i_lit, i_neg1, nI_add, pk_mul, nI_clamp, i_le, i_lt, i_eq, fIx_n, nI_mI, mI_nI, mI_lt, nI_lt_m, mI_le, nI_le_m, xI_0, xI_s, bI_0, bI_1, bI_t, bI_f, n_31, j_bit, j_one, i_and, i_or, Nat.not_lt_zero, Nat.succ_ne_zero, Nat.add_one_ne_zero, Nat.add_one_sub_one, Nat.zero_le, Nat.or_zero, Nat.zero_or, Bool.not_true, Bool.not_false, Bool.true_and, Bool.false_and, Bool.and_true, Bool.and_false, ↓reduceIte, if_true, if_false, not_true_eq_false, not_false_eq_true, true_and, and_true, false_and, and_false, and_self, true_or, or_true, false_or, or_false, Nat.reduceEqDiff, Nat.reduceLT, Nat.reduceLeDiff, Nat.reduceAdd, Nat.reduceMul, Nat.reduceSub, Nat.add_zero, Nat.zero_add, Nat.mul_zero, Nat.zero_mul, ne_eq, Bool.not_eq_true, Bool.not_eq_false, reduceCtorEq, decide_true, decide_false, decide_eq_true_eq, decide_eq_false_iff_not, Bool.false_eq_true, if_pos, if_neg]
  | zero =>
    simp (disch := omega) only [↓fLt_e, fBd_s, ↓fJn_s, fNn_s, fNu_0, fNu_s, fBo_0, fBo_1, fBo_b, i_lit, i_neg1, nI_add, pk_mul, nI_clamp, i_le, i_lt, i_eq, fIx_n, nI_mI, mI_nI, mI_lt, nI_lt_m, mI_le, nI_le_m, xI_0, xI_s, bI_0, bI_1, bI_t, bI_f, n_31, j_bit, j_one, i_and, i_or, Nat.not_lt_zero, Nat.succ_ne_zero, Nat.add_one_ne_zero, Nat.add_one_sub_one, Nat.zero_le, Nat.or_zero, Nat.zero_or, Bool.not_true, Bool.not_false, Bool.true_and, Bool.false_and, Bool.and_true, Bool.and_false, ↓reduceIte, if_true, if_false, not_true_eq_false, not_false_eq_true, true_and, and_true, false_and, and_false, and_self, true_or, or_true, false_or, or_false, Nat.reduceEqDiff, Nat.reduceLT, Nat.reduceLeDiff, Nat.reduceAdd, Nat.reduceMul, Nat.reduceSub, Nat.add_zero, Nat.zero_add, Nat.mul_zero, Nat.zero_mul, ne_eq, Bool.not_eq_true, Bool.not_eq_false, reduceCtorEq, decide_true, decide_false, decide_eq_true_eq, decide_eq_false_iff_not, Bool.false_eq_true, if_pos, if_neg, y1, e1, x1, d1]
    cases r1 with
    | succ r1 =>
      refine ⟨true, ?_, ?_⟩
      · simp (disch := omega) only [↓fLt_e, fBd_s, ↓fJn_s, fNn_s, fNu_0, fNu_s, fBo_0, fBo_1, fBo_b, i_lit, i_neg1, nI_add, pk_mul, nI_clamp, i_le, i_lt, i_eq, fIx_n, nI_mI, mI_nI, mI_lt, nI_lt_m, mI_le, nI_le_m, xI_0, xI_s, bI_0, bI_1, bI_t, bI_f, n_31, j_bit, j_one, i_and, i_or, Nat.not_lt_zero, Nat.succ_ne_zero, Nat.add_one_ne_zero, Nat.add_one_sub_one, Nat.zero_le, Nat.or_zero, Nat.zero_or, Bool.not_true, Bool.not_false, Bool.true_and, Bool.false_and, Bool.and_true, Bool.and_false, ↓reduceIte, if_true, if_false, not_true_eq_false, not_false_eq_true, true_and, and_true, false_and, and_false, and_self, true_or, or_true, false_or, or_false, Nat.reduceEqDiff, Nat.reduceLT, Nat.reduceLeDiff, Nat.reduceAdd, Nat.reduceMul, Nat.reduceSub, Nat.add_zero, Nat.zero_add, Nat.mul_zero, Nat.zero_mul, ne_eq, Bool.not_eq_true, Bool.not_eq_false, reduceCtorEq, decide_true, decide_false, decide_eq_true_eq, decide_eq_false_iff_not, Bool.false_eq_true, if_pos, if_neg]
      · simp (disch := omega) only [↓fLt_e, fBd_s, ↓fJn_s, fNn_s, fNu_0, fNu_s, fBo_0, fBo_1, fBo_b, i_lit, i_neg1, nI_add, pk_mul, nI_clamp, i_le, i_lt, i_eq, fIx_n, nI_mI, mI_nI, mI_lt, nI_lt_m, mI_le, nI_le_m, xI_0, xI_s, bI_0, bI_1, bI_t, bI_f, n_31, j_bit, j_one, i_and, i_or, Nat.not_lt_zero, Nat.succ_ne_zero, Nat.add_one_ne_zero, Nat.add_one_sub_one, Nat.zero_le, Nat.or_zero, Nat.zero_or, Bool.not_true, Bool.not_false, Bool.true_and, Bool.false_and, Bool.and_true, Bool.and_false, ↓reduceIte, if_true, if_false, not_true_eq_false, not_false_eq_true, true_and, and_true, false_and, and_false, and_self, true_or, or_true, false_or, or_false, Nat.reduceEqDiff, Nat.reduceLT, Nat.reduceLeDiff, Nat.reduceAdd, Nat.reduceMul, Nat.reduceSub, Nat.add_zero, Nat.zero_add, Nat.mul_zero, Nat.zero_mul, ne_eq, Bool.not_eq_true, Bool.not_eq_false, reduceCtorEq, decide_true, decide_false, decide_eq_true_eq, decide_eq_false_iff_not, Bool.false_eq_true, if_pos, if_neg]
    | zero =>
      simp (disch := omega) only [↓fLt_e, fBd_s, ↓fJn_s, fNn_s, fNu_0, fNu_s, fBo_0, fBo_1, fBo_b, i_lit, i_neg1, nI_add, pk_mul, nI_clamp, i_le, i_lt, i_eq, fIx_n, nI_mI, mI_nI, mI_lt, nI_lt_m, mI_le, nI_le_m, xI_0, xI_s, bI_0, bI_1, bI_t, bI_f, n_31, j_bit, j_one, i_and, i_or, Nat.not_lt_zero, Nat.succ_ne_zero, Nat.add_one_ne_zero, Nat.add_one_sub_one, Nat.zero_le, Nat.or_zero, Nat.zero_or, Bool.not_true, Bool.not_false, Bool.true_and, Bool.false_and, Bool.and_true, Bool.and_false, ↓reduceIte, if_true, if_false, not_true_eq_false, not_false_eq_true, true_and, and_true, false_and, and_false, and_self, true_or, or_true, false_or, or_false, Nat.reduceEqDiff, Nat.reduceLT, Nat.reduceLeDiff, Nat.reduceAdd, Nat.reduceMul, Nat.reduceSub, Nat.add_zero, Nat.zero_add, Nat.mul_zero, Nat.zero_mul, ne_eq, Bool.not_eq_true, Bool.not_eq_false, reduceCtorEq, decide_true, decide_false, decide_eq_true_eq, decide_eq_false_iff_not, Bool.false_eq_true, if_pos, if_neg, y2, e2, x2, d2]
      cases r2 with
      | succ r2 =>
        refine ⟨true, ?_, ?_⟩
        · simp (disch := omega) only [↓fLt_e, fBd_s, ↓fJn_s, fNn_s, fNu_0, fNu_s, fBo_0, fBo_1, fBo_b, i_lit, i_neg1, nI_add, pk_mul, nI_clamp, i_le, i_lt, i_eq, fIx_n, nI_mI, mI_nI, mI_lt, nI_lt_m, mI_le, nI_le_m, xI_0, xI_s, bI_0, bI_1, bI_t, bI_f, n_31, j_bit, j_one, i_and, i_or, Nat.not_lt_zero, Nat.succ_ne_zero, Nat.add_one_ne_zero, Nat.add_one_sub_one, Nat.zero_le, Nat.or_zero, Nat.zero_or, Bool.not_true, Bool.not_false, Bool.true_and, Bool.false_and, Bool.and_true, Bool.and_false, ↓reduceIte, if_true, if_false, not_true_eq_false, not_false_eq_true, true_and, and_true, false_and, and_false, and_self, true_or, or_true, false_or, or_false, Nat.reduceEqDiff, Nat.reduceLT, Nat.reduceLeDiff, Nat.reduceAdd, Nat.reduceMul, Nat.reduceSub, Nat.add_zero, Nat.zero_add, Nat.mul_zero, Nat.zero_mul, ne_eq, Bool.not_eq_true, Bool.not_eq_false, reduceCtorEq, decide_true, decide_false, decide_eq_true_eq, decide_eq_false_iff_not, Bool.false_eq_true, if_pos, if_neg]
        · simp (disch := omega) only [↓fLt_e, fBd_s, ↓fJn_s, fNn_s, fNu_0, fNu_s, fBo_0, fBo_1, fBo_b, i_lit, i_neg1, nI_add, pk_mul, nI_clamp, i_le, i_lt, i_eq, fIx_n, nI_mI, mI_nI, mI_lt, nI_lt_m, mI_le, nI_le_m, xI_0, xI_s, bI_0, bI_1, bI_t, bI_f, n_31, j_bit, j_one, i_and, i_or, Nat.not_lt_zero, Nat.succ_ne_zero, Nat.add_one_ne_zero, Nat.add_one_sub_one, Nat.zero_le, Nat.or_zero, Nat.zero_or, Bool.not_true, Bool.not_false, Bool.true_and, Bool.false_and, Bool.and_true, Bool.and_false, ↓reduceIte, if_true, if_false, not_true_eq_false, not_false_eq_true, true_and, and_true, false_and, and_false, and_self, true_or, or_true, false_or, or_false, Nat.reduceEqDiff, Nat.reduceLT, Nat.reduceLeDiff, Nat.reduceAdd, Nat.reduceMul, Nat.reduceSub, Nat.add_zero, Nat.zero_add, Nat.mul_zero, Nat.zero_mul, ne_eq, Bool.not_eq_true, Bool.not_eq_false, reduceCtorEq, decide_true, decide_false, decide_eq_true_eq, decide_eq_false_iff_not, Bool.false_eq_true, if_pos, if_neg]
      | zero =>
        simp (disch := omega) only [↓fLt_e, fBd_s, ↓fJn_s, fNn_s, fNu_0, fNu_s, fBo_0, fBo_1, fBo_b, i_lit, i_neg1, nI_add, pk_mul, nI_clamp, i_le, i_lt, i_eq, fIx_n, nI_mI, mI_nI, mI_lt, nI_lt_m, mI_le, nI_le_m, xI_0, xI_s, bI_0, bI_1, bI_t, bI_f, n_31, j_bit, j_one, i_and, i_or, Nat.not_lt_zero, Nat.succ_ne_zero, Nat.add_one_ne_zero, Nat.add_one_sub_one, Nat.zero_le, Nat.or_zero, Nat.zero_or, Bool.not_true, Bool.not_false, Bool.true_and, Bool.false_and, Bool.and_true, Bool.and_false, ↓reduceIte, if_true, if_false, not_true_eq_false, not_false_eq_true, true_and, and_true, false_and, and_false, and_self, true_or, or_true, false_or, or_false, Nat.reduceEqDiff, Nat.reduceLT, Nat.reduceLeDiff, Nat.reduceAdd, Nat.reduceMul, Nat.reduceSub, Nat.add_zero, Nat.zero_add, Nat.mul_zero, Nat.zero_mul, ne_eq, Bool.not_eq_true, Bool.not_eq_false, reduceCtorEq, decide_true, decide_false, decide_eq_true_eq, decide_eq_false_iff_not, Bool.false_eq_true, if_pos, if_neg, y3, e3, x3, d3]
        cases r3 with
        | succ r3 =>
          refine ⟨true, ?_, ?_⟩
          · simp (disch := omega) only [↓fLt_e, fBd_s, ↓fJn_s, fNn_s, fNu_0, fNu_s, fBo_0, fBo_1, fBo_b, i_lit, i_neg1, nI_add, pk_mul, nI_clamp, i_le, i_lt, i_eq, fIx_n, nI_mI, mI_nI, mI_lt, nI_lt_m, mI_le, nI_le_m, xI_0, xI_s, bI_0, bI_1, bI_t, bI_f, n_31, j_bit, j_one, i_and, i_or, Nat.not_lt_zero, Nat.succ_ne_zero, Nat.add_one_ne_zero, Nat.add_one_sub_one, Nat.zero_le, Nat.or_zero, Nat.zero_or, Bool.not_true, Bool.not_false, Bool.true_and, Bool.false_and, Bool.and_true, Bool.and_false, ↓reduceIte, if_true, if_false, not_true_eq_false, not_false_eq_true, true_and, and_true, false_and, and_false, and_self, true_or, or_true, false_or, or_false, Nat.reduceEqDiff, Nat.reduceLT, Nat.reduceLeDiff, Nat.reduceAdd, Nat.reduceMul, Nat.reduceSub, Nat.add_zero, Nat.zero_add, Nat.mul_zero, Nat.zero_mul, ne_eq, Bool.not_eq_true, Bool.not_eq_false, reduceCtorEq, decide_true, decide_false, decide_eq_true_eq, decide_eq_false_iff_not, Bool.false_eq_true, if_pos, if_neg]
          · simp (disch := omega) only [↓fLt_e, fBd_s, ↓fJn_s, fNn_s, fNu_0, fNu_s, fBo_0, fBo_1, fBo_b, i_lit, i_neg1, nI_add, pk_mul, nI_clamp, i_le, i_lt, i_eq, fIx_n, nI_mI, mI_nI, mI_lt, nI_lt_m, mI_le, nI_le_m, xI_0, xI_s, bI_0, bI_1, bI_t, bI_f, n_31, j_bit, j_one, i_and, i_or, Nat.not_lt_zero, Nat.succ_ne_zero, Nat.add_one_ne_zero, Nat.add_one_sub_one, Nat.zero_le, Nat.or_zero, Nat.zero_or, Bool.not_true, Bool.not_false, Bool.true_and, Bool.false_and, Bool.and_true, Bool.and_false, ↓reduceIte, if_true, if_false, not_true_eq_false, not_false_eq_true, true_and, and_true, false_and, and_false, and_self, true_or, or_true, false_or, or_false, Nat.reduceEqDiff, Nat.reduceLT, Nat.reduceLeDiff, Nat.reduceAdd, Nat.reduceMul, Nat.reduceSub, Nat.add_zero, Nat.zero_add, Nat.mul_zero, Nat.zero_mul, ne_eq, Bool.not_eq_true, Bool.not_eq_false, reduceCtorEq, decide_true, decide_false, decide_eq_true_eq, decide_eq_false_iff_not, Bool.false_eq_true, if_pos, if_neg]
        | zero =>
          refine ⟨false, ?_, ?_⟩
          · simp (disch := omega) only [↓fLt_e, fBd_s, ↓fJn_s, fNn_s, fNu_0, fNu_s, fBo_0, fBo_1, fBo_b, i_lit, i_neg1, nI_add, pk_mul, nI_clamp, i_le, i_lt, i_eq, fIx_n, nI_mI, mI_nI, mI_lt, nI_lt_m, mI_le, nI_le_m, xI_0, xI_s, bI_0, bI_1, bI_t, bI_f, n_31, j_bit, j_one, i_and, i_or, Nat.not_lt_zero, Nat.succ_ne_zero, Nat.add_one_ne_zero, Nat.add_one_sub_one, Nat.zero_le, Nat.or_zero, Nat.zero_or, Bool.not_true, Bool.not_false, Bool.true_and, Bool.false_and, Bool.and_true, Bool.and_false, ↓reduceIte, if_true, if_false, not_true_eq_false, not_false_eq_true, true_and, and_true, false_and, and_false, and_self, true_or, or_true, false_or, or_false, Nat.reduceEqDiff, Nat.reduceLT, Nat.reduceLeDiff, Nat.reduceAdd, Nat.reduceMul, Nat.reduceSub, Nat.add_zero, Nat.zero_add, Nat.mul_zero, Nat.zero_mul, ne_eq, Bool.not_eq_true, Bool.not_eq_false, reduceCtorEq, decide_true, decide_false, decide_eq_true_eq, decide_eq_false_iff_not, Bool.false_eq_true, if_pos, if_neg]
          · simp (disch := omega) only [↓fLt_e, fBd_s, ↓fJn_s, fNn_s, fNu_0, fNu_s, fBo_0, fBo_1, fBo_b, i_lit, i_neg1, nI_add, pk_mul, nI_clamp, i_le, i_lt, i_eq, fIx_n, nI_mI, mI_nI, mI_lt, nI_lt_m, mI_le, nI_le_m, xI_0, xI_s, bI_0, bI_1, bI_t, bI_f, n_31, j_bit, j_one, i_and, i_or, Nat.not_lt_zero, Nat.succ_ne_zero, Nat.add_one_ne_zero, Nat.add_one_sub_one, Nat.zero_le, Nat.or_zero, Nat.zero_or, Bool.not_true, Bool.not_false, Bool.true_and, Bool.false_and, Bool.and_true, Bool.and_false, ↓reduceIte, if_true, if_false, not_true_eq_false, not_false_eq_true, true_and, and_true, false_and, and_false, and_self, true_or, or_true, false_or, or_false, Nat.reduceEqDiff, Nat.reduceLT, Nat.reduceLeDiff, Nat.reduceAdd, Nat.reduceMul, Nat.reduceSub, Nat.add_zero, Nat.zero_add, Nat.mul_zero, Nat.zero_mul, ne_eq, Bool.not_eq_true, Bool.not_eq_false, reduceCtorEq, decide_true, decide_false, decide_eq_true_eq, decide_eq_false_iff_not, Bool.false_eq_true, if_pos, if_neg]
-- what a new name changes
def xFb (s t : fSt) (q jj cnt : Nat) (w : Int64) : Prop := (∀ c j k, ¬ (c = 5 ∧ j = 0 ∧ 4 ≤ k) → gI t c j k = gI s c j k) ∧ (∀ c j k, ¬ (c = 5 ∧ j = 0 ∧ k = 7) → gL t c j k = gL s c j k) ∧ gA t = gA s ∧ (∀ c i j k, gB t c i j k = if c = 7 ∧ i = q ∧ j = jj ∧ k = cnt then w else gB s c i j k) ∧ gP t = gP s
def yFb (s t : fSt) (m : Nat) (w : Int64) : Prop := (∀ c j k, ¬ (c = 12 ∧ j = 0 ∧ 12 ≤ k ∧ k < 19) → gI t c j k = gI s c j k) ∧ (∀ c j k, ¬ (c = 12 ∧ j = 0 ∧ k = 19) → gL t c j k = gL s c j k) ∧ gA t = gA s ∧ (∀ c i j k, gB t c i j k = if c = 12 ∧ i = 0 ∧ j = 7 ∧ k = m then w else gB s c i j k) ∧ gP t = gP s
section
variable {sc sm : fSt} {n : Nat} {c : Nat → Nat} {a p so : Nat}
theorem ps_B (P : psR sc sm n c a p so) (q jj : Nat) (f g : Nat → Int64) : psR (sB sc 7 q jj f) (sB sm 12 0 7 g) n c a p so := by
  obtain ⟨T, q0, ⟨q1, q2, q3, q4, q5, q6⟩, q7, q8, q9⟩ := P
  refine ⟨tpe_e T rfl rfl ?_ rfl rfl, tok_e q0 ⟨rfl, rfl⟩ rfl ⟨rfl, rfl, rfl⟩ rfl, ⟨q1, q2, q3, q4, q5, q6⟩, q7, q8, q9⟩
  rw [gB_sB, if_neg (by omega)]
theorem ps_new (P : psR sc sm n c a p so) {q jj nn o cnt : Nat} {G : Nat → Nat} (N : nmR sc sm q G) (h : cnt < nn ∧ 112 + o + nn ≤ 140) : ∃ sc' sm', f_X12_readNew (nI o) (nI cnt) sm = some ((), sm') ∧ ((f_X7_readNew q 7 q jj nn (nI cnt) sc = some (nI 1, sc') ∧ ∃ w a' p' so', xFb sc sc' q jj cnt w ∧ yFb sm sm' (112 + o + cnt) w ∧ psR sc' sm' n c a' p' so' ∧ (p ≤ a' ∧ (¬ so' = 35 → p < p'))) ∨ (f_X7_readNew q 7 q jj nn (nI cnt) sc = some (nI 0, sc') ∧ xFr sc sc' ∧ yFr sm sm' ∧ ∃ d e, flR sc' sm' d e)) := by
  obtain ⟨s1, t1, a1, p1, o1, e1, d1, P1, f1, g1, m1, -⟩ := ps_adv P
  have N1 := nmR_fr N f1 g1
  have hso := ps_so P1
  have h64 := tok_35 P1.2.1
  have hb := P1.2.2.2.1
  have hn := ps_name P1
  have hlt : nI cnt < Int32.ofNat nn := by
    rw [show Int32.ofNat nn = nI nn from rfl, i_lt _ _ (by omega) (by omega)]
    omega
  unfold f_X7_readNew f_X12_readNew
  rw [if_pos hlt, e1, d1, fBd_s, fBd_s, hn, fBd_s]
  have hpp := P1.2.2.1.2.2.2.2
  have hpq := P.2.2.1.2.2.2.2
  by_cases hs : o1 = 32
  · obtain ⟨b, k1, k2⟩ := ps_taken (ps_w P1 hs) N1
    rw [decide_eq_true hs]
    cases b with
    | true =>
      obtain ⟨s2, t2, e2, d2, F, f2, g2⟩ := ps_fail P1 (k := 3) (by omega)
      have hf := F.2.2.2.1
      refine ⟨s2, t2, ?_, Or.inr ⟨?_, xFr_tr f1 f2, yFr_tr g1 g2, _, _, F⟩⟩
      · simp (disch := omega) only [↓fLt_e, fBd_s, ↓fJn_s, fNn_s, fNu_0, fNu_s, fBo_0, fBo_1, fBo_b, i_lit, i_neg1, nI_add, pk_mul, nI_clamp, i_le, i_lt, i_eq, fIx_n, nI_mI, mI_nI, mI_lt, nI_lt_m, mI_le, nI_le_m, xI_0, xI_s, bI_0, bI_1, bI_t, bI_f, n_31, j_bit, j_one, i_and, i_or, Nat.not_lt_zero, Nat.succ_ne_zero, Nat.add_one_ne_zero, Nat.add_one_sub_one, Nat.zero_le, Nat.or_zero, Nat.zero_or, Bool.not_true, Bool.not_false, Bool.true_and, Bool.false_and, Bool.and_true, Bool.and_false, ↓reduceIte, if_true, if_false, not_true_eq_false, not_false_eq_true, true_and, and_true, false_and, and_false, and_self, true_or, or_true, false_or, or_false, Nat.reduceEqDiff, Nat.reduceLT, Nat.reduceLeDiff, Nat.reduceAdd, Nat.reduceMul, Nat.reduceSub, Nat.add_zero, Nat.zero_add, Nat.mul_zero, Nat.zero_mul, ne_eq, Bool.not_eq_true, Bool.not_eq_false, reduceCtorEq, decide_true, decide_false, decide_eq_true_eq, decide_eq_false_iff_not, Bool.false_eq_true, if_pos, if_neg, hb, k1, d2, hf]
      · simp (disch := omega) only [↓fLt_e, fBd_s, ↓fJn_s, fNn_s, fNu_0, fNu_s, fBo_0, fBo_1, fBo_b, i_lit, i_neg1, nI_add, pk_mul, nI_clamp, i_le, i_lt, i_eq, fIx_n, nI_mI, mI_nI, mI_lt, nI_lt_m, mI_le, nI_le_m, xI_0, xI_s, bI_0, bI_1, bI_t, bI_f, n_31, j_bit, j_one, i_and, i_or, Nat.not_lt_zero, Nat.succ_ne_zero, Nat.add_one_ne_zero, Nat.add_one_sub_one, Nat.zero_le, Nat.or_zero, Nat.zero_or, Bool.not_true, Bool.not_false, Bool.true_and, Bool.false_and, Bool.and_true, Bool.and_false, ↓reduceIte, if_true, if_false, not_true_eq_false, not_false_eq_true, true_and, and_true, false_and, and_false, and_self, true_or, or_true, false_or, or_false, Nat.reduceEqDiff, Nat.reduceLT, Nat.reduceLeDiff, Nat.reduceAdd, Nat.reduceMul, Nat.reduceSub, Nat.add_zero, Nat.zero_add, Nat.mul_zero, Nat.zero_mul, ne_eq, Bool.not_eq_true, Bool.not_eq_false, reduceCtorEq, decide_true, decide_false, decide_eq_true_eq, decide_eq_false_iff_not, Bool.false_eq_true, if_pos, if_neg, hso, hs, k2, e2]
    | false =>
      have hw := ps_w P1 hs
      obtain ⟨s2, t2, a2, p2, o2, e2, d2, P2, f2, g2, m2, -⟩ := ps_adv (ps_B P1 q jj (vp_updL (gB s1 7 q jj) cnt (gL s1 5 0 7)) (vp_updL (gB t1 12 0 7) (112 + o + cnt) (gL s1 5 0 7)))
      refine ⟨s2, t2, ?_, Or.inl ⟨?_, gL s1 5 0 7, a2, p2, o2, ⟨fun c j k hk => ?_, fun c j k hk => ?_, ?_, fun c i j k => ?_, ?_⟩, ⟨fun c j k hk => ?_, fun c j k hk => ?_, ?_, fun c i j k => ?_, ?_⟩, P2, by omega, fun ho => ?_⟩⟩
      · simp (disch := omega) only [↓fLt_e, fBd_s, ↓fJn_s, fNn_s, fNu_0, fNu_s, fBo_0, fBo_1, fBo_b, i_lit, i_neg1, nI_add, pk_mul, nI_clamp, i_le, i_lt, i_eq, fIx_n, nI_mI, mI_nI, mI_lt, nI_lt_m, mI_le, nI_le_m, xI_0, xI_s, bI_0, bI_1, bI_t, bI_f, n_31, j_bit, j_one, i_and, i_or, Nat.not_lt_zero, Nat.succ_ne_zero, Nat.add_one_ne_zero, Nat.add_one_sub_one, Nat.zero_le, Nat.or_zero, Nat.zero_or, Bool.not_true, Bool.not_false, Bool.true_and, Bool.false_and, Bool.and_true, Bool.and_false, ↓reduceIte, if_true, if_false, not_true_eq_false, not_false_eq_true, true_and, and_true, false_and, and_false, and_self, true_or, or_true, false_or, or_false, Nat.reduceEqDiff, Nat.reduceLT, Nat.reduceLeDiff, Nat.reduceAdd, Nat.reduceMul, Nat.reduceSub, Nat.add_zero, Nat.zero_add, Nat.mul_zero, Nat.zero_mul, ne_eq, Bool.not_eq_true, Bool.not_eq_false, reduceCtorEq, decide_true, decide_false, decide_eq_true_eq, decide_eq_false_iff_not, Bool.false_eq_true, if_pos, if_neg, hb, k1, hw, d2]
      · simp (disch := omega) only [↓fLt_e, fBd_s, ↓fJn_s, fNn_s, fNu_0, fNu_s, fBo_0, fBo_1, fBo_b, i_lit, i_neg1, nI_add, pk_mul, nI_clamp, i_le, i_lt, i_eq, fIx_n, nI_mI, mI_nI, mI_lt, nI_lt_m, mI_le, nI_le_m, xI_0, xI_s, bI_0, bI_1, bI_t, bI_f, n_31, j_bit, j_one, i_and, i_or, Nat.not_lt_zero, Nat.succ_ne_zero, Nat.add_one_ne_zero, Nat.add_one_sub_one, Nat.zero_le, Nat.or_zero, Nat.zero_or, Bool.not_true, Bool.not_false, Bool.true_and, Bool.false_and, Bool.and_true, Bool.and_false, ↓reduceIte, if_true, if_false, not_true_eq_false, not_false_eq_true, true_and, and_true, false_and, and_false, and_self, true_or, or_true, false_or, or_false, Nat.reduceEqDiff, Nat.reduceLT, Nat.reduceLeDiff, Nat.reduceAdd, Nat.reduceMul, Nat.reduceSub, Nat.add_zero, Nat.zero_add, Nat.mul_zero, Nat.zero_mul, ne_eq, Bool.not_eq_true, Bool.not_eq_false, reduceCtorEq, decide_true, decide_false, decide_eq_true_eq, decide_eq_false_iff_not, Bool.false_eq_true, if_pos, if_neg, hso, hs, k2, e2]
      · rw [f2.1 c j k hk, gI_sB, f1.1 c j k hk]
      · rw [f2.2.1 c j k hk, gL_sB, f1.2.1 c j k hk]
      · rw [f2.2.2.1, ← f1.2.2.1]
        rfl
      · rw [f2.2.2.2.1, gB_sB, ← f1.2.2.2.1]
        by_cases g : c = 7 ∧ i = q ∧ j = jj
        · obtain ⟨rfl, rfl, rfl⟩ := g
          rw [if_pos ⟨rfl, rfl, rfl⟩, updL_at]
          by_cases hk : k = cnt
          · rw [if_pos hk, if_pos ⟨rfl, rfl, rfl, hk⟩]
          · rw [if_neg hk, if_neg (fun e => hk e.2.2.2)]
        · rw [if_neg g, if_neg (fun e => g ⟨e.1, e.2.1, e.2.2.1⟩)]
      · rw [f2.2.2.2.2, ← f1.2.2.2.2]
        rfl
      · rw [g2.1 c j k hk, gI_sB, g1.1 c j k hk]
      · rw [g2.2.1 c j k hk, gL_sB, g1.2.1 c j k hk]
      · rw [g2.2.2.1, ← g1.2.2.1]
        rfl
      · rw [g2.2.2.2.1, gB_sB, ← g1.2.2.2.1]
        by_cases g : c = 12 ∧ i = 0 ∧ j = 7
        · obtain ⟨rfl, rfl, rfl⟩ := g
          rw [if_pos ⟨rfl, rfl, rfl⟩, updL_at]
          by_cases hk : k = 112 + o + cnt
          · rw [if_pos hk, if_pos ⟨rfl, rfl, rfl, hk⟩]
          · rw [if_neg hk, if_neg (fun e => hk e.2.2.2)]
        · rw [if_neg g, if_neg (fun e => g ⟨e.1, e.2.1, e.2.2.1⟩)]
      · rw [g2.2.2.2.2, ← g1.2.2.2.2]
        rfl
      · have := m2.2 ho
        omega
  · rw [decide_eq_false hs]
    obtain ⟨s2, t2, e2, d2, F, f2, g2⟩ := ps_wrong P1
    have hf := F.2.2.2.1
    have u1 := F.1
    have u2 := F.2.1
    have k0 : ¬ nI (if o1 = 36 then 1 else 2) = nI 0 := by rw [i_eq _ _ (by omega) (by omega)]; omega
    have k1 : ¬ nI (if o1 = 36 then 1 else 2) ≤ nI 0 := by rw [i_le _ _ (by omega) (by omega)]; omega
    refine ⟨s2, t2, ?_, Or.inr ⟨?_, xFr_tr f1 f2, yFr_tr g1 g2, _, _, F⟩⟩
    · simp (disch := omega) only [↓fJn_s, i_lit, bI_f, not_true_eq_false, not_false_eq_true, if_true, if_false, d2, fBd_s, hf, k0, k1]
    · simp (disch := omega) only [↓fLt_e, fBd_s, ↓fJn_s, fNn_s, fNu_0, fNu_s, fBo_0, fBo_1, fBo_b, i_lit, i_neg1, nI_add, pk_mul, nI_clamp, i_le, i_lt, i_eq, fIx_n, nI_mI, mI_nI, mI_lt, nI_lt_m, mI_le, nI_le_m, xI_0, xI_s, bI_0, bI_1, bI_t, bI_f, n_31, j_bit, j_one, i_and, i_or, Nat.not_lt_zero, Nat.succ_ne_zero, Nat.add_one_ne_zero, Nat.add_one_sub_one, Nat.zero_le, Nat.or_zero, Nat.zero_or, Bool.not_true, Bool.not_false, Bool.true_and, Bool.false_and, Bool.and_true, Bool.and_false, ↓reduceIte, if_true, if_false, not_true_eq_false, not_false_eq_true, true_and, and_true, false_and, and_false, and_self, true_or, or_true, false_or, or_false, Nat.reduceEqDiff, Nat.reduceLT, Nat.reduceLeDiff, Nat.reduceAdd, Nat.reduceMul, Nat.reduceSub, Nat.add_zero, Nat.zero_add, Nat.mul_zero, Nat.zero_mul, ne_eq, Bool.not_eq_true, Bool.not_eq_false, reduceCtorEq, decide_true, decide_false, decide_eq_true_eq, decide_eq_false_iff_not, Bool.false_eq_true, if_pos, if_neg, hso, hs, e2]
end
