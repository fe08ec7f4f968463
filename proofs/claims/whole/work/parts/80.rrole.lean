/-! layer 2: reading a role -/
-- an item on both sides: the class's X takes the sign after it, the reference's M leaves it
def itR (n : Nat) (c : Nat → Nat) (q : Nat) (sc sm : fSt) (p : Nat) (X : fSt → Option (Int32 × fSt)) (M : fSt → Option (Unit × fSt)) : Prop :=
  ∃ sc' sm', (fBd (M sm) fun _ s => mTail s) = some ((), sm') ∧ xQ q sc sc' ∧ yQ sm sm' ∧
    ((X sc = some (nI 1, sc') ∧ ∃ G' a' p' so', sgR sc' sm' q G' ∧ psR sc' sm' n c a' p' so' ∧ (p ≤ a' ∧ (¬ so' = 35 → p < p'))) ∨ (X sc = some (nI 0, sc') ∧ ∃ d e, flR sc' sm' d e))
section
variable {sc sm : fSt} {n : Nat} {c : Nat → Nat} {a p so : Nat}
theorem ps_full (P : psR sc sm n c a p so) : f_X12_fail (nI 6) (gI sm 12 0 15) sm = some ((), sI (sI sm 12 0 12 (nI 6)) 12 0 13 (gI sm 12 0 15)) ∧ gI (sI (sI sm 12 0 12 (nI 6)) 12 0 13 (gI sm 12 0 15)) 12 0 12 = nI 6 := by
  refine ⟨m_fail_ok P.2.2.2.1 _ _, ?_⟩
  simp (disch := omega) only [gI_sI, gL_sL, gA_sA, gB_sB, gP_sP, gI_sL, gI_sA, gI_sB, gI_sP, gL_sI, gL_sA, gL_sB, gL_sP, gA_sI, gA_sL, gA_sB, gA_sP, gB_sI, gB_sL, gB_sA, gB_sP, gP_sI, gP_sL, gP_sA, gP_sB, fLt_e, fBd_s, fJn_s, fNn_s, fNu_0, fNu_s, fBo_0, fBo_1, fBo_b, i_lit, i_neg1, nI_add, pk_mul, nI_clamp, i_le, i_lt, i_eq, fIx_n, nI_mI, mI_nI, mI_lt, nI_lt_m, mI_le, nI_le_m, xI_0, xI_s, bI_0, bI_1, bI_t, bI_f, n_31, j_bit, j_one, i_and, i_or, Nat.not_lt_zero, Nat.succ_ne_zero, Nat.add_one_ne_zero, Nat.add_one_sub_one, Nat.zero_le, Nat.or_zero, Nat.zero_or, Bool.not_true, Bool.not_false, Bool.true_and, Bool.false_and, Bool.and_true, Bool.and_false, ↓reduceIte, if_true, if_false, not_true_eq_false, not_false_eq_true, true_and, and_true, false_and, and_false, and_self, true_or, or_true, false_or, or_false, Nat.reduceEqDiff, Nat.reduceLT, Nat.reduceLeDiff, Nat.reduceAdd, Nat.reduceMul, Nat.reduceSub, Nat.add_zero, Nat.zero_add, Nat.mul_zero, Nat.zero_mul, ne_eq, Bool.not_eq_true, Bool.not_eq_false, reduceCtorEq, decide_true, decide_false, decide_eq_true_eq, decide_eq_false_iff_not, Bool.false_eq_true, if_pos, if_neg]
theorem x_newfull {q jj nn m : Nat} (h : nn ≤ m ∧ m < 1000) : f_X7_readNew q 7 q jj nn (nI m) sc = some (nI 0, sI (sI sc 5 0 10 (nI 6)) 5 0 11 (gI sc 5 0 4)) := by
  have hlt : ¬ nI m < Int32.ofNat nn := by
    rw [show Int32.ofNat nn = nI nn from rfl, i_lt _ _ (by omega) (by omega)]
    omega
  unfold f_X7_readNew
  rw [if_neg hlt, show ((6 : Int32)) = nI 6 from rfl, x_fail, fBd_s, fBo_0]
theorem ps_readRole (P : psR sc sm n c a p so) {q : Nat} {G : Nat → Nat} (S : sgR sc sm q G) : itR n c q sc sm p (f_X7_readRole q) f_X12_readRole := by
  have N := nmR_of S
  obtain ⟨⟨b0, -⟩, ⟨x0, -⟩, ⟨y0, -⟩, -⟩ := id N
  have hb := P.2.2.2.1
  have hpq := P.2.2.1.2.2.2.2
  by_cases hG : G 0 = 6
  · obtain ⟨F, f1, g1⟩ := fl_mk P (k := 6) (by omega)
    obtain ⟨e1, e2⟩ := ps_full P
    refine ⟨_, _, ?_, xQ_x f1, yQ_y g1, Or.inr ⟨?_, _, _, F⟩⟩
    · unfold f_X12_readRole
      simp (disch := omega) only [↓fLt_e, fBd_s, ↓fJn_s, fNn_s, fNu_0, fNu_s, fBo_0, fBo_1, fBo_b, i_lit, i_neg1, nI_add, pk_mul, nI_clamp, i_le, i_lt, i_eq, fIx_n, nI_mI, mI_nI, mI_lt, nI_lt_m, mI_le, nI_le_m, xI_0, xI_s, bI_0, bI_1, bI_t, bI_f, n_31, j_bit, j_one, i_and, i_or, Nat.not_lt_zero, Nat.succ_ne_zero, Nat.add_one_ne_zero, Nat.add_one_sub_one, Nat.zero_le, Nat.or_zero, Nat.zero_or, Bool.not_true, Bool.not_false, Bool.true_and, Bool.false_and, Bool.and_true, Bool.and_false, ↓reduceIte, if_true, if_false, not_true_eq_false, not_false_eq_true, true_and, and_true, false_and, and_false, and_self, true_or, or_true, false_or, or_false, Nat.reduceEqDiff, Nat.reduceLT, Nat.reduceLeDiff, Nat.reduceAdd, Nat.reduceMul, Nat.reduceSub, Nat.add_zero, Nat.zero_add, Nat.mul_zero, Nat.zero_mul, ne_eq, Bool.not_eq_true, Bool.not_eq_false, reduceCtorEq, decide_true, decide_false, decide_eq_true_eq, decide_eq_false_iff_not, Bool.false_eq_true, if_pos, if_neg, y0, hG, e1, e2]
      exact mTail_no (k := 6) (by omega) e2
    · unfold f_X7_readRole
      rw [x0, x_newfull (by omega)]
      simp (disch := omega) only [↓fLt_e, fBd_s, ↓fJn_s, fNn_s, fNu_0, fNu_s, fBo_0, fBo_1, fBo_b, i_lit, i_neg1, nI_add, pk_mul, nI_clamp, i_le, i_lt, i_eq, fIx_n, nI_mI, mI_nI, mI_lt, nI_lt_m, mI_le, nI_le_m, xI_0, xI_s, bI_0, bI_1, bI_t, bI_f, n_31, j_bit, j_one, i_and, i_or, Nat.not_lt_zero, Nat.succ_ne_zero, Nat.add_one_ne_zero, Nat.add_one_sub_one, Nat.zero_le, Nat.or_zero, Nat.zero_or, Bool.not_true, Bool.not_false, Bool.true_and, Bool.false_and, Bool.and_true, Bool.and_false, ↓reduceIte, if_true, if_false, not_true_eq_false, not_false_eq_true, true_and, and_true, false_and, and_false, and_self, true_or, or_true, false_or, or_false, Nat.reduceEqDiff, Nat.reduceLT, Nat.reduceLeDiff, Nat.reduceAdd, Nat.reduceMul, Nat.reduceSub, Nat.add_zero, Nat.zero_add, Nat.mul_zero, Nat.zero_mul, ne_eq, Bool.not_eq_true, Bool.not_eq_false, reduceCtorEq, decide_true, decide_false, decide_eq_true_eq, decide_eq_false_iff_not, Bool.false_eq_true, if_pos, if_neg]
  · obtain ⟨s1, t1, e1, h⟩ := ps_new P (jj := 1) (nn := 6) (o := 0) (cnt := G 0) N (by omega)
    rcases h with ⟨d1, w, a1, p1, o1, f1, g1, P1, m1, m2⟩ | ⟨d1, f1, g1, d, e, F⟩
    · have hb1 := P1.2.2.2.1
      have hq1 := P1.2.2.1.2.2.2.2
      have yy : gA t1 12 0 5 1720 = nI (G 0) := by rw [g1.2.2.1]; exact y0
      obtain ⟨s2, t2, e2, f2, g2, h⟩ := ps_tail (ps_A P1 1720 (nI (G 0 + 1)))
      have hm : (fBd (f_X12_readRole sm) fun _ s => mTail s) = some ((), t2) := by
        unfold f_X12_readRole
        simp (disch := omega) only [↓fLt_e, fBd_s, ↓fJn_s, fNn_s, fNu_0, fNu_s, fBo_0, fBo_1, fBo_b, i_lit, i_neg1, nI_add, pk_mul, nI_clamp, i_le, i_lt, i_eq, fIx_n, nI_mI, mI_nI, mI_lt, nI_lt_m, mI_le, nI_le_m, xI_0, xI_s, bI_0, bI_1, bI_t, bI_f, n_31, j_bit, j_one, i_and, i_or, Nat.not_lt_zero, Nat.succ_ne_zero, Nat.add_one_ne_zero, Nat.add_one_sub_one, Nat.zero_le, Nat.or_zero, Nat.zero_or, Bool.not_true, Bool.not_false, Bool.true_and, Bool.false_and, Bool.and_true, Bool.and_false, ↓reduceIte, if_true, if_false, not_true_eq_false, not_false_eq_true, true_and, and_true, false_and, and_false, and_self, true_or, or_true, false_or, or_false, Nat.reduceEqDiff, Nat.reduceLT, Nat.reduceLeDiff, Nat.reduceAdd, Nat.reduceMul, Nat.reduceSub, Nat.add_zero, Nat.zero_add, Nat.mul_zero, Nat.zero_mul, ne_eq, Bool.not_eq_true, Bool.not_eq_false, reduceCtorEq, decide_true, decide_false, decide_eq_true_eq, decide_eq_false_iff_not, Bool.false_eq_true, if_pos, if_neg, y0, hG, hb, e1, hb1, yy]
        exact e2
      have Q1 : xQ q sc s2 := xQ_tr (xQ_b f1) (xQ_x f2)
      have Q2 : yQ sm t2 := yQ_tr (yQ_b (by omega) g1) (yQ_tr (yQ_A t1 (by omega)) (yQ_y g2))
      rcases h with ⟨d2, a2, p2, o2, P2, m3, m4⟩ | ⟨d2, d, e, F⟩
      · have xx : gI s2 7 q 0 = nI (G 0) := by rw [f2.1 _ _ _ (by omega), f1.1 _ _ _ (by omega)]; exact x0
        refine ⟨sI s2 7 q 0 (nI (G 0 + 1)), t2, hm, xQ_tr Q1 (xQ_I s2), Q2, Or.inl ⟨?_, fun k => if k = 0 then G 0 + 1 else G k, a2, p2, o2, ?_, ps_I7 P2 q 0 _, by omega, fun ho => ?_⟩⟩
        · unfold f_X7_readRole
          rw [x0]
          simp (disch := omega) only [↓fLt_e, fBd_s, ↓fJn_s, fNn_s, fNu_0, fNu_s, fBo_0, fBo_1, fBo_b, i_lit, i_neg1, nI_add, pk_mul, nI_clamp, i_le, i_lt, i_eq, fIx_n, nI_mI, mI_nI, mI_lt, nI_lt_m, mI_le, nI_le_m, xI_0, xI_s, bI_0, bI_1, bI_t, bI_f, n_31, j_bit, j_one, i_and, i_or, Nat.not_lt_zero, Nat.succ_ne_zero, Nat.add_one_ne_zero, Nat.add_one_sub_one, Nat.zero_le, Nat.or_zero, Nat.zero_or, Bool.not_true, Bool.not_false, Bool.true_and, Bool.false_and, Bool.and_true, Bool.and_false, ↓reduceIte, if_true, if_false, not_true_eq_false, not_false_eq_true, true_and, and_true, false_and, and_false, and_self, true_or, or_true, false_or, or_false, Nat.reduceEqDiff, Nat.reduceLT, Nat.reduceLeDiff, Nat.reduceAdd, Nat.reduceMul, Nat.reduceSub, Nat.add_zero, Nat.zero_add, Nat.mul_zero, Nat.zero_mul, ne_eq, Bool.not_eq_true, Bool.not_eq_false, reduceCtorEq, decide_true, decide_false, decide_eq_true_eq, decide_eq_false_iff_not, Bool.false_eq_true, if_pos, if_neg, d1, d2, xx]
        · refine stR_role (w := w) S rfl (fun k hk => if_neg (by omega)) (by omega) ?_ (fun k hk => ?_) (fun k => ?_) (fun j k => ?_) ?_ (fun k hk => ?_) (fun k => ?_)
          · rw [gI_sI, if_pos ⟨rfl, rfl, rfl⟩]
          · rw [gI_sI, if_neg (by omega), f2.1 _ _ _ (by omega), f1.1 _ _ _ (by omega)]
          · rw [gA_sI, f2.2.2.1, f1.2.2.1]
          · rw [gB_sI, f2.2.2.2.1, f1.2.2.2.1]
            by_cases g : j = 1 ∧ k = G 0
            · rw [if_pos g, if_pos ⟨rfl, rfl, g.1, g.2⟩]
            · rw [if_neg g, if_neg (fun e => g ⟨e.2.2.1, e.2.2.2⟩)]
          · rw [g2.2.2.1, gA_sA, if_pos ⟨rfl, rfl, rfl⟩, upd_at, if_pos rfl]
          · rw [g2.2.2.1, gA_sA, if_pos ⟨rfl, rfl, rfl⟩, upd_at, if_neg (by omega), g1.2.2.1]
          · rw [g2.2.2.2.1, gB_sA, g1.2.2.2.1]
            by_cases g : k = 112 + G 0
            · rw [if_pos g, if_pos ⟨rfl, rfl, rfl, by omega⟩]
            · rw [if_neg g, if_neg (fun e => g (by omega))]
        · have := m4 ho
          omega
      · refine ⟨s2, t2, hm, Q1, Q2, Or.inr ⟨?_, d, e, F⟩⟩
        unfold f_X7_readRole
        rw [x0]
        simp (disch := omega) only [↓fLt_e, fBd_s, ↓fJn_s, fNn_s, fNu_0, fNu_s, fBo_0, fBo_1, fBo_b, i_lit, i_neg1, nI_add, pk_mul, nI_clamp, i_le, i_lt, i_eq, fIx_n, nI_mI, mI_nI, mI_lt, nI_lt_m, mI_le, nI_le_m, xI_0, xI_s, bI_0, bI_1, bI_t, bI_f, n_31, j_bit, j_one, i_and, i_or, Nat.not_lt_zero, Nat.succ_ne_zero, Nat.add_one_ne_zero, Nat.add_one_sub_one, Nat.zero_le, Nat.or_zero, Nat.zero_or, Bool.not_true, Bool.not_false, Bool.true_and, Bool.false_and, Bool.and_true, Bool.and_false, ↓reduceIte, if_true, if_false, not_true_eq_false, not_false_eq_true, true_and, and_true, false_and, and_false, and_self, true_or, or_true, false_or, or_false, Nat.reduceEqDiff, Nat.reduceLT, Nat.reduceLeDiff, Nat.reduceAdd, Nat.reduceMul, Nat.reduceSub, Nat.add_zero, Nat.zero_add, Nat.mul_zero, Nat.zero_mul, ne_eq, Bool.not_eq_true, Bool.not_eq_false, reduceCtorEq, decide_true, decide_false, decide_eq_true_eq, decide_eq_false_iff_not, Bool.false_eq_true, if_pos, if_neg, d1, d2]
    · have u1 := F.1
      have u2 := F.2.1
      have hf := F.2.2.2.1
      have k0 : ¬ d = 0 := by omega
      refine ⟨s1, t1, ?_, xQ_x f1, yQ_y g1, Or.inr ⟨?_, _, _, F⟩⟩
      · unfold f_X12_readRole
        simp (disch := omega) only [↓fLt_e, fBd_s, ↓fJn_s, fNn_s, fNu_0, fNu_s, fBo_0, fBo_1, fBo_b, i_lit, i_neg1, nI_add, pk_mul, nI_clamp, i_le, i_lt, i_eq, fIx_n, nI_mI, mI_nI, mI_lt, nI_lt_m, mI_le, nI_le_m, xI_0, xI_s, bI_0, bI_1, bI_t, bI_f, n_31, j_bit, j_one, i_and, i_or, Nat.not_lt_zero, Nat.succ_ne_zero, Nat.add_one_ne_zero, Nat.add_one_sub_one, Nat.zero_le, Nat.or_zero, Nat.zero_or, Bool.not_true, Bool.not_false, Bool.true_and, Bool.false_and, Bool.and_true, Bool.and_false, ↓reduceIte, if_true, if_false, not_true_eq_false, not_false_eq_true, true_and, and_true, false_and, and_false, and_self, true_or, or_true, false_or, or_false, Nat.reduceEqDiff, Nat.reduceLT, Nat.reduceLeDiff, Nat.reduceAdd, Nat.reduceMul, Nat.reduceSub, Nat.add_zero, Nat.zero_add, Nat.mul_zero, Nat.zero_mul, ne_eq, Bool.not_eq_true, Bool.not_eq_false, reduceCtorEq, decide_true, decide_false, decide_eq_true_eq, decide_eq_false_iff_not, Bool.false_eq_true, if_pos, if_neg, y0, hG, hb, e1, hf, k0]
        exact mTail_no ⟨u1, u2⟩ hf
      · unfold f_X7_readRole
        rw [x0]
        simp (disch := omega) only [↓fLt_e, fBd_s, ↓fJn_s, fNn_s, fNu_0, fNu_s, fBo_0, fBo_1, fBo_b, i_lit, i_neg1, nI_add, pk_mul, nI_clamp, i_le, i_lt, i_eq, fIx_n, nI_mI, mI_nI, mI_lt, nI_lt_m, mI_le, nI_le_m, xI_0, xI_s, bI_0, bI_1, bI_t, bI_f, n_31, j_bit, j_one, i_and, i_or, Nat.not_lt_zero, Nat.succ_ne_zero, Nat.add_one_ne_zero, Nat.add_one_sub_one, Nat.zero_le, Nat.or_zero, Nat.zero_or, Bool.not_true, Bool.not_false, Bool.true_and, Bool.false_and, Bool.and_true, Bool.and_false, ↓reduceIte, if_true, if_false, not_true_eq_false, not_false_eq_true, true_and, and_true, false_and, and_false, and_self, true_or, or_true, false_or, or_false, Nat.reduceEqDiff, Nat.reduceLT, Nat.reduceLeDiff, Nat.reduceAdd, Nat.reduceMul, Nat.reduceSub, Nat.add_zero, Nat.zero_add, Nat.mul_zero, Nat.zero_mul, ne_eq, Bool.not_eq_true, Bool.not_eq_false, reduceCtorEq, decide_true, decide_false, decide_eq_true_eq, decide_eq_false_iff_not, Bool.false_eq_true, if_pos, if_neg, d1]
end
