/-! layer 2: the call stage -/
theorem lm25 (k7 : fSt → Option (Int32 × fSt)) (t : fSt) : f_X12_stage_L25 k7 fF (nI 0) t = k7 (sA t 12 0 5 (fun p => if 1720 ≤ p ∧ p < 1720 + 430 then nI 0 else gA t 12 0 5 p)) := by
  obtain ⟨m, e⟩ := lp_run (fun m (z : Int32 × fSt) => f_X12_stage_L25 k7 m z.1 z.2) (fun i => (nI i, sA t 12 0 5 (fun p => if 1720 ≤ p ∧ p < 1720 + i then nI 0 else gA t 12 0 5 p))) 430 (fun m i hi => by
    show f_X12_stage_L25 k7 (m + 1) (nI i) (sA t 12 0 5 (fun p => if 1720 ≤ p ∧ p < 1720 + i then nI 0 else gA t 12 0 5 p)) = f_X12_stage_L25 k7 m (nI (i + 1)) (sA t 12 0 5 (fun p => if 1720 ≤ p ∧ p < 1720 + (i + 1) then nI 0 else gA t 12 0 5 p))
    rw [f_X12_stage_L25]
    simp (disch := omega) only [fLt_e, fBd_s, fJn_s, fNn_s, fNu_0, fNu_s, fBo_0, fBo_1, fBo_b, i_lit, i_neg1, nI_add, pk_mul, nI_clamp, i_le, i_lt, i_eq, fIx_n, nI_mI, mI_nI, mI_lt, nI_lt_m, mI_le, nI_le_m, xI_0, xI_s, bI_0, bI_1, bI_t, bI_f, n_31, j_bit, j_one, i_and, i_or, Nat.not_lt_zero, Nat.succ_ne_zero, Nat.add_one_ne_zero, Nat.add_one_sub_one, Nat.zero_le, Nat.or_zero, Nat.zero_or, Bool.not_true, Bool.not_false, Bool.true_and, Bool.false_and, Bool.and_true, Bool.and_false, ↓reduceIte, if_true, if_false, not_true_eq_false, not_false_eq_true, true_and, and_true, false_and, and_false, and_self, true_or, or_true, false_or, or_false, Nat.reduceEqDiff, Nat.reduceLT, Nat.reduceLeDiff, Nat.reduceAdd, Nat.reduceMul, Nat.reduceSub, Nat.add_zero, Nat.zero_add, Nat.mul_zero, Nat.zero_mul, ne_eq, Bool.not_eq_true, Bool.not_eq_false, reduceCtorEq, decide_true, decide_false, decide_eq_true_eq, decide_eq_false_iff_not, Bool.false_eq_true, if_pos, if_neg, gA_same, sA_sA]
    congr 2
    funext p
    rw [upd_at]
    by_cases hp : p = 1720 + i
    · rw [if_pos hp, if_pos (by omega)]
    · rw [if_neg hp]
      by_cases hp2 : 1720 ≤ p ∧ p < 1720 + i
      · rw [if_pos hp2, if_pos (by omega)]
      · rw [if_neg hp2, if_neg (by omega)]) (fF_lt (by omega))
  refine Eq.trans ?_ (Eq.trans e ?_)
  · show _ = f_X12_stage_L25 k7 fF (nI 0) (sA t 12 0 5 (fun p => if 1720 ≤ p ∧ p < 1720 + 0 then nI 0 else gA t 12 0 5 p))
    rw [show (fun p => if 1720 ≤ p ∧ p < 1720 + 0 then nI 0 else gA t 12 0 5 p) = gA t 12 0 5 from funext fun p => if_neg (by omega), sA_self]
  · show f_X12_stage_L25 k7 (m + 1) (nI 430) (sA t 12 0 5 (fun p => if 1720 ≤ p ∧ p < 1720 + 430 then nI 0 else gA t 12 0 5 p)) = _
    rw [f_X12_stage_L25]
    simp (disch := omega) only [fLt_e, fBd_s, fJn_s, fNn_s, fNu_0, fNu_s, fBo_0, fBo_1, fBo_b, i_lit, i_neg1, nI_add, pk_mul, nI_clamp, i_le, i_lt, i_eq, fIx_n, nI_mI, mI_nI, mI_lt, nI_lt_m, mI_le, nI_le_m, xI_0, xI_s, bI_0, bI_1, bI_t, bI_f, n_31, j_bit, j_one, i_and, i_or, Nat.not_lt_zero, Nat.succ_ne_zero, Nat.add_one_ne_zero, Nat.add_one_sub_one, Nat.zero_le, Nat.or_zero, Nat.zero_or, Bool.not_true, Bool.not_false, Bool.true_and, Bool.false_and, Bool.and_true, Bool.and_false, ↓reduceIte, if_true, if_false, not_true_eq_false, not_false_eq_true, true_and, and_true, false_and, and_false, and_self, true_or, or_true, false_or, or_false, Nat.reduceEqDiff, Nat.reduceLT, Nat.reduceLeDiff, Nat.reduceAdd, Nat.reduceMul, Nat.reduceSub, Nat.add_zero, Nat.zero_add, Nat.mul_zero, Nat.zero_mul, ne_eq, Bool.not_eq_true, Bool.not_eq_false, reduceCtorEq, decide_true, decide_false, decide_eq_true_eq, decide_eq_false_iff_not, Bool.false_eq_true, if_pos, if_neg]
theorem lm147 (k14 : fSt → Option (Int32 × fSt)) (t : fSt) : f_X12_stage_L147 k14 fF (nI 0) t = k14 (sA t 12 0 5 (fun p => if p < 430 then gA t 12 0 5 (1720 + p) else gA t 12 0 5 p)) := by
  obtain ⟨m, e⟩ := lp_run (fun m (z : Int32 × fSt) => f_X12_stage_L147 k14 m z.1 z.2) (fun i => (nI i, sA t 12 0 5 (fun p => if p < i then gA t 12 0 5 (1720 + p) else gA t 12 0 5 p))) 430 (fun m i hi => by
    show f_X12_stage_L147 k14 (m + 1) (nI i) (sA t 12 0 5 (fun p => if p < i then gA t 12 0 5 (1720 + p) else gA t 12 0 5 p)) = f_X12_stage_L147 k14 m (nI (i + 1)) (sA t 12 0 5 (fun p => if p < i + 1 then gA t 12 0 5 (1720 + p) else gA t 12 0 5 p))
    rw [f_X12_stage_L147]
    simp (disch := omega) only [fLt_e, fBd_s, fJn_s, fNn_s, fNu_0, fNu_s, fBo_0, fBo_1, fBo_b, i_lit, i_neg1, nI_add, pk_mul, nI_clamp, i_le, i_lt, i_eq, fIx_n, nI_mI, mI_nI, mI_lt, nI_lt_m, mI_le, nI_le_m, xI_0, xI_s, bI_0, bI_1, bI_t, bI_f, n_31, j_bit, j_one, i_and, i_or, Nat.not_lt_zero, Nat.succ_ne_zero, Nat.add_one_ne_zero, Nat.add_one_sub_one, Nat.zero_le, Nat.or_zero, Nat.zero_or, Bool.not_true, Bool.not_false, Bool.true_and, Bool.false_and, Bool.and_true, Bool.and_false, ↓reduceIte, if_true, if_false, not_true_eq_false, not_false_eq_true, true_and, and_true, false_and, and_false, and_self, true_or, or_true, false_or, or_false, Nat.reduceEqDiff, Nat.reduceLT, Nat.reduceLeDiff, Nat.reduceAdd, Nat.reduceMul, Nat.reduceSub, Nat.add_zero, Nat.zero_add, Nat.mul_zero, Nat.zero_mul, ne_eq, Bool.not_eq_true, Bool.not_eq_false, reduceCtorEq, decide_true, decide_false, decide_eq_true_eq, decide_eq_false_iff_not, Bool.false_eq_true, if_pos, if_neg, gA_same, sA_sA]
    congr 2
    funext p
    rw [upd_at]
    by_cases hp : p = i
    · rw [if_pos hp, if_pos (by omega), hp]
    · rw [if_neg hp]
      by_cases hp2 : p < i
      · rw [if_pos hp2, if_pos (by omega)]
      · rw [if_neg hp2, if_neg (by omega)]) (fF_lt (by omega))
  refine Eq.trans ?_ (Eq.trans e ?_)
  · show _ = f_X12_stage_L147 k14 fF (nI 0) (sA t 12 0 5 (fun p => if p < 0 then gA t 12 0 5 (1720 + p) else gA t 12 0 5 p))
    rw [show (fun p => if p < 0 then gA t 12 0 5 (1720 + p) else gA t 12 0 5 p) = gA t 12 0 5 from funext fun p => if_neg (by omega), sA_self]
  · show f_X12_stage_L147 k14 (m + 1) (nI 430) (sA t 12 0 5 (fun p => if p < 430 then gA t 12 0 5 (1720 + p) else gA t 12 0 5 p)) = _
    rw [f_X12_stage_L147]
    simp (disch := omega) only [fLt_e, fBd_s, fJn_s, fNn_s, fNu_0, fNu_s, fBo_0, fBo_1, fBo_b, i_lit, i_neg1, nI_add, pk_mul, nI_clamp, i_le, i_lt, i_eq, fIx_n, nI_mI, mI_nI, mI_lt, nI_lt_m, mI_le, nI_le_m, xI_0, xI_s, bI_0, bI_1, bI_t, bI_f, n_31, j_bit, j_one, i_and, i_or, Nat.not_lt_zero, Nat.succ_ne_zero, Nat.add_one_ne_zero, Nat.add_one_sub_one, Nat.zero_le, Nat.or_zero, Nat.zero_or, Bool.not_true, Bool.not_false, Bool.true_and, Bool.false_and, Bool.and_true, Bool.and_false, ↓reduceIte, if_true, if_false, not_true_eq_false, not_false_eq_true, true_and, and_true, false_and, and_false, and_self, true_or, or_true, false_or, or_false, Nat.reduceEqDiff, Nat.reduceLT, Nat.reduceLeDiff, Nat.reduceAdd, Nat.reduceMul, Nat.reduceSub, Nat.add_zero, Nat.zero_add, Nat.mul_zero, Nat.zero_mul, ne_eq, Bool.not_eq_true, Bool.not_eq_false, reduceCtorEq, decide_true, decide_false, decide_eq_true_eq, decide_eq_false_iff_not, Bool.false_eq_true, if_pos, if_neg]
theorem lm178 (t : fSt) : f_X12_stage_L178 fF (nI 0) t = some (gA t 12 0 5 2, sB t 12 0 7 (fun p => if p < 28 then gB t 12 0 7 (112 + p) else gB t 12 0 7 p)) := by
  obtain ⟨m, e⟩ := lp_run (fun m (z : Int32 × fSt) => f_X12_stage_L178 m z.1 z.2) (fun i => (nI i, sB t 12 0 7 (fun p => if p < i then gB t 12 0 7 (112 + p) else gB t 12 0 7 p))) 28 (fun m i hi => by
    show f_X12_stage_L178 (m + 1) (nI i) (sB t 12 0 7 (fun p => if p < i then gB t 12 0 7 (112 + p) else gB t 12 0 7 p)) = f_X12_stage_L178 m (nI (i + 1)) (sB t 12 0 7 (fun p => if p < i + 1 then gB t 12 0 7 (112 + p) else gB t 12 0 7 p))
    rw [f_X12_stage_L178]
    simp (disch := omega) only [fLt_e, fBd_s, fJn_s, fNn_s, fNu_0, fNu_s, fBo_0, fBo_1, fBo_b, i_lit, i_neg1, nI_add, pk_mul, nI_clamp, i_le, i_lt, i_eq, fIx_n, nI_mI, mI_nI, mI_lt, nI_lt_m, mI_le, nI_le_m, xI_0, xI_s, bI_0, bI_1, bI_t, bI_f, n_31, j_bit, j_one, i_and, i_or, Nat.not_lt_zero, Nat.succ_ne_zero, Nat.add_one_ne_zero, Nat.add_one_sub_one, Nat.zero_le, Nat.or_zero, Nat.zero_or, Bool.not_true, Bool.not_false, Bool.true_and, Bool.false_and, Bool.and_true, Bool.and_false, ↓reduceIte, if_true, if_false, not_true_eq_false, not_false_eq_true, true_and, and_true, false_and, and_false, and_self, true_or, or_true, false_or, or_false, Nat.reduceEqDiff, Nat.reduceLT, Nat.reduceLeDiff, Nat.reduceAdd, Nat.reduceMul, Nat.reduceSub, Nat.add_zero, Nat.zero_add, Nat.mul_zero, Nat.zero_mul, ne_eq, Bool.not_eq_true, Bool.not_eq_false, reduceCtorEq, decide_true, decide_false, decide_eq_true_eq, decide_eq_false_iff_not, Bool.false_eq_true, if_pos, if_neg, gB_same, sB_sB]
    congr 2
    funext p
    rw [updL_at]
    by_cases hp : p = i
    · rw [if_pos hp, if_pos (by omega), hp]
    · rw [if_neg hp]
      by_cases hp2 : p < i
      · rw [if_pos hp2, if_pos (by omega)]
      · rw [if_neg hp2, if_neg (by omega)]) (fF_lt (by omega))
  refine Eq.trans ?_ (Eq.trans e ?_)
  · show _ = f_X12_stage_L178 fF (nI 0) (sB t 12 0 7 (fun p => if p < 0 then gB t 12 0 7 (112 + p) else gB t 12 0 7 p))
    rw [show (fun p => if p < 0 then gB t 12 0 7 (112 + p) else gB t 12 0 7 p) = gB t 12 0 7 from funext fun p => if_neg (by omega)]
    congr 1
    exact (sB_self t 12 0 7).symm
  · show f_X12_stage_L178 (m + 1) (nI 28) (sB t 12 0 7 (fun p => if p < 28 then gB t 12 0 7 (112 + p) else gB t 12 0 7 p)) = _
    rw [f_X12_stage_L178]
    simp (disch := omega) only [fLt_e, fBd_s, fJn_s, fNn_s, fNu_0, fNu_s, fBo_0, fBo_1, fBo_b, i_lit, i_neg1, nI_add, pk_mul, nI_clamp, i_le, i_lt, i_eq, fIx_n, nI_mI, mI_nI, mI_lt, nI_lt_m, mI_le, nI_le_m, xI_0, xI_s, bI_0, bI_1, bI_t, bI_f, n_31, j_bit, j_one, i_and, i_or, Nat.not_lt_zero, Nat.succ_ne_zero, Nat.add_one_ne_zero, Nat.add_one_sub_one, Nat.zero_le, Nat.or_zero, Nat.zero_or, Bool.not_true, Bool.not_false, Bool.true_and, Bool.false_and, Bool.and_true, Bool.and_false, ↓reduceIte, if_true, if_false, not_true_eq_false, not_false_eq_true, true_and, and_true, false_and, and_false, and_self, true_or, or_true, false_or, or_false, Nat.reduceEqDiff, Nat.reduceLT, Nat.reduceLeDiff, Nat.reduceAdd, Nat.reduceMul, Nat.reduceSub, Nat.add_zero, Nat.zero_add, Nat.mul_zero, Nat.zero_mul, ne_eq, Bool.not_eq_true, Bool.not_eq_false, reduceCtorEq, decide_true, decide_false, decide_eq_true_eq, decide_eq_false_iff_not, Bool.false_eq_true, if_pos, if_neg, gA_sB]
theorem m_well {t : fSt} (h : gI t 12 0 12 = nI 0) : f_X12_isWell t = some (nI 1, sI (sI t 12 0 10 (nI 0)) 12 0 11 mI) := by
  unfold f_X12_isWell
  simp (disch := omega) only [gI_sI, gL_sL, gA_sA, gB_sB, gP_sP, gI_sL, gI_sA, gI_sB, gI_sP, gL_sI, gL_sA, gL_sB, gL_sP, gA_sI, gA_sL, gA_sB, gA_sP, gB_sI, gB_sL, gB_sA, gB_sP, gP_sI, gP_sL, gP_sA, gP_sB, fLt_e, fBd_s, fJn_s, fNn_s, fNu_0, fNu_s, fBo_0, fBo_1, fBo_b, i_lit, i_neg1, nI_add, pk_mul, nI_clamp, i_le, i_lt, i_eq, fIx_n, nI_mI, mI_nI, mI_lt, nI_lt_m, mI_le, nI_le_m, xI_0, xI_s, bI_0, bI_1, bI_t, bI_f, n_31, j_bit, j_one, i_and, i_or, Nat.not_lt_zero, Nat.succ_ne_zero, Nat.add_one_ne_zero, Nat.add_one_sub_one, Nat.zero_le, Nat.or_zero, Nat.zero_or, Bool.not_true, Bool.not_false, Bool.true_and, Bool.false_and, Bool.and_true, Bool.and_false, ↓reduceIte, if_true, if_false, not_true_eq_false, not_false_eq_true, true_and, and_true, false_and, and_false, and_self, true_or, or_true, false_or, or_false, Nat.reduceEqDiff, Nat.reduceLT, Nat.reduceLeDiff, Nat.reduceAdd, Nat.reduceMul, Nat.reduceSub, Nat.add_zero, Nat.zero_add, Nat.mul_zero, Nat.zero_mul, ne_eq, Bool.not_eq_true, Bool.not_eq_false, reduceCtorEq, decide_true, decide_false, decide_eq_true_eq, decide_eq_false_iff_not, Bool.false_eq_true, if_pos, if_neg, h]
theorem m_unwell {t : fSt} {k a : Nat} (hk : 1 ≤ k ∧ k ≤ 7) (h : gI t 12 0 12 = nI k) (h2 : gI t 12 0 13 = nI a) : f_X12_isWell t = some (nI 0, sI (sI (sI t 12 0 10 (nI k)) 12 0 11 (nI a)) 12 0 0 (nI 10)) := by
  have k0 : ¬ k = 0 := by omega
  unfold f_X12_isWell f_X12_no
  simp (disch := omega) only [gI_sI, gL_sL, gA_sA, gB_sB, gP_sP, gI_sL, gI_sA, gI_sB, gI_sP, gL_sI, gL_sA, gL_sB, gL_sP, gA_sI, gA_sL, gA_sB, gA_sP, gB_sI, gB_sL, gB_sA, gB_sP, gP_sI, gP_sL, gP_sA, gP_sB, fLt_e, fBd_s, fJn_s, fNn_s, fNu_0, fNu_s, fBo_0, fBo_1, fBo_b, i_lit, i_neg1, nI_add, pk_mul, nI_clamp, i_le, i_lt, i_eq, fIx_n, nI_mI, mI_nI, mI_lt, nI_lt_m, mI_le, nI_le_m, xI_0, xI_s, bI_0, bI_1, bI_t, bI_f, n_31, j_bit, j_one, i_and, i_or, Nat.not_lt_zero, Nat.succ_ne_zero, Nat.add_one_ne_zero, Nat.add_one_sub_one, Nat.zero_le, Nat.or_zero, Nat.zero_or, Bool.not_true, Bool.not_false, Bool.true_and, Bool.false_and, Bool.and_true, Bool.and_false, ↓reduceIte, if_true, if_false, not_true_eq_false, not_false_eq_true, true_and, and_true, false_and, and_false, and_self, true_or, or_true, false_or, or_false, Nat.reduceEqDiff, Nat.reduceLT, Nat.reduceLeDiff, Nat.reduceAdd, Nat.reduceMul, Nat.reduceSub, Nat.add_zero, Nat.zero_add, Nat.mul_zero, Nat.zero_mul, ne_eq, Bool.not_eq_true, Bool.not_eq_false, reduceCtorEq, decide_true, decide_false, decide_eq_true_eq, decide_eq_false_iff_not, Bool.false_eq_true, if_pos, if_neg, h, h2, k0]
theorem RX_Q0 {s s' t t' : fSt} (H : RX s t) (hQ : rQ s' t') (f1 : ∀ c i k, ¬ (c = 11 ∧ (k = 5 ∨ k = 6)) → gI s' c i k = gI s c i k) (f : gL s' = gL s ∧ gA s' = gA s ∧ gB s' = gB s ∧ gP s' = gP s) (g1 : ∀ c i k, ¬ (c = 12 ∧ (k = 10 ∨ k = 11)) → gI t' c i k = gI t c i k) (g : gL t' = gL t ∧ gA t' = gA t ∧ gB t' = gB t) : RX s' t' := by
  obtain ⟨h2, -, h4, h5, h6, h7, h8, h9, n, qq, GG, s1, s2, s3, s4⟩ := H
  obtain ⟨f2, f3, f4, f5⟩ := f
  obtain ⟨g2, g3, g4⟩ := g
  refine ⟨?_, hQ, ?_, ?_, ?_, ?_, ?_, ?_, n, qq, GG, s1, ?_, ?_, fun h hh => ?_⟩
  · unfold rF at *
    rw [f2, g2]; exact h2
  · unfold rT at *
    intro i hi
    rw [f1 _ _ _ (by omega), f1 _ _ _ (by omega), f1 _ _ _ (by omega), f4, g3, g4]
    exact h4 i hi
  · unfold rP at *
    rw [f1 _ _ _ (by omega), f3, f4, g1 _ _ _ (by omega), g3]; exact h5
  · unfold rS at *
    rw [f1 _ _ _ (by omega), f3, g1 _ _ _ (by omega), g3]; exact h6
  · unfold rC at *
    rw [f3, g1 _ _ _ (by omega), g3]; exact h7
  · unfold rW at *
    rw [f1 _ _ _ (by omega), f1 _ _ _ (by omega), f1 _ _ _ (by omega), f1 _ _ _ (by omega), f1 _ _ _ (by omega), f1 _ _ _ (by omega), g1 _ _ _ (by omega), g3]
    exact h8
  · unfold rO at *
    rw [f4]; exact h9
  · rw [f1 _ _ _ (by omega)]; exact s2
  · rw [g1 _ _ _ (by omega)]; exact s3
  · exact rOne_g (by rw [f5]) (by rw [f5]) ⟨f1 _ _ _ (by omega), f1 _ _ _ (by omega)⟩ ⟨f1 _ _ _ (by omega), by rw [f3]⟩ (fun _ => ⟨fun k => f1 _ _ _ (by omega), fun k => by rw [f3], fun k => by rw [f4]⟩) (fun _ _ => ⟨fun k => f1 _ _ _ (by omega), fun k => by rw [f3]⟩) (fun k hk => by rw [g3]) (fun k hk => by rw [g4]) (s4 h hh)
theorem RX_Q {s t : fSt} (H : RX s t) (x y : Int32) : RX (sI (sI s 11 0 5 x) 11 0 6 y) (sI (sI t 12 0 10 x) 12 0 11 y) := by
  refine RX_Q0 H ⟨?_, ?_⟩ (fun c i k h => ?_) ⟨rfl, rfl, rfl, rfl⟩ (fun c i k h => ?_) ⟨rfl, rfl, rfl⟩
  · simp (disch := omega) only [gI_sI, if_neg, if_pos, and_self, if_true]
  · simp (disch := omega) only [gI_sI, if_neg, if_pos, and_self, if_true]
  · simp (disch := omega) only [gI_sI, if_neg]
  · simp (disch := omega) only [gI_sI, if_neg]
-- the class raises a stage
def xRa (s : fSt) (q : Nat) : fSt := sI (sI (sI (sP (sP s 2 0 0 (q + 1)) 2 0 1 0) 2 0 2 (nI 0)) 2 0 3 (nI 0)) 0 0 0 (nI 0)
theorem x_raise (s : fSt) (q : Nat) : f_X2_raise 0 q s = some ((), xRa s q) := rfl
theorem RX_one {s s' t t' : fSt} {q : Nat} {G : Nat → Nat} (H : RX s t) (N : rOne s' t' 0 q G)
    (f : (∀ c i k, ¬ ((c = 2 ∨ c = 0) ∧ i = 0) → gI s' c i k = gI s c i k) ∧ gL s' = gL s ∧ gA s' = gA s ∧ gB s' = gB s ∧ ∀ c i k, ¬ (c = 2 ∧ i = 0) → gP s' c i k = gP s c i k)
    (g : gI t' = gI t ∧ gL t' = gL t ∧ (∀ k, k ≠ 5 → gA t' 12 0 k = gA t 12 0 k) ∧ (∀ m, 430 ≤ m → gA t' 12 0 5 m = gA t 12 0 5 m) ∧ (∀ k, k ≠ 7 → gB t' 12 0 k = gB t 12 0 k) ∧ ∀ m, 28 ≤ m → gB t' 12 0 7 m = gB t 12 0 7 m) : RX s' t' := by
  obtain ⟨h2, h3, h4, h5, h6, h7, h8, h9, n, qq, GG, s1, s2, s3, s4⟩ := H
  obtain ⟨f1, f2, f3, f4, f5⟩ := f
  obtain ⟨g1, g2, g3, g4, g5, g6⟩ := g
  refine ⟨?_, ?_, ?_, ?_, ?_, ?_, ?_, ?_, n, fun h => if h = 0 then q else qq h, fun h => if h = 0 then G else GG h, s1, ?_, ?_, fun h hh => ?_⟩
  · unfold rF at *
    rw [f2, g2]; exact h2
  · unfold rQ at *
    rw [f1 _ _ _ (by omega), f1 _ _ _ (by omega), g1]; exact h3
  · unfold rT at *
    intro i hi
    rw [f1 _ _ _ (by omega), f1 _ _ _ (by omega), f1 _ _ _ (by omega), f4, g3 _ (by omega), g3 _ (by omega), g5 _ (by omega)]
    exact h4 i hi
  · unfold rP at *
    rw [f1 _ _ _ (by omega), f3, f4, g1, g3 _ (by omega)]; exact h5
  · unfold rS at *
    rw [f1 _ _ _ (by omega), f3, g1, g3 _ (by omega)]; exact h6
  · unfold rC at *
    rw [f3, g1, g3 _ (by omega)]; exact h7
  · unfold rW at *
    rw [f1 _ _ _ (by omega), f1 _ _ _ (by omega), f1 _ _ _ (by omega), f1 _ _ _ (by omega), f1 _ _ _ (by omega), f1 _ _ _ (by omega), g1, g3 _ (by omega)]
    exact h8
  · unfold rO at *
    rw [f4]; exact h9
  · rw [f1 _ _ _ (by omega)]; exact s2
  · rw [g1]; exact s3
  · by_cases h0 : h = 0
    · subst h0
      exact N
    · simp only [h0, if_false]
      refine rOne_g (f5 _ _ _ (by omega)) (f5 _ _ _ (by omega)) ⟨f1 _ _ _ (by omega), f1 _ _ _ (by omega)⟩ ⟨f1 _ _ _ (by omega), by rw [f3]⟩ (fun _ => ⟨fun k => f1 _ _ _ (by omega), fun k => by rw [f3], fun k => by rw [f4]⟩) (fun _ _ => ⟨fun k => f1 _ _ _ (by omega), fun k => by rw [f3]⟩) (fun k hk => g4 _ (by omega)) (fun k hk => g6 _ (by omega)) (s4 h hh)
section
variable {sc sm : fSt} {n : Nat} {c : Nat → Nat} {a p so : Nat}
theorem ps_Af (P : psR sc sm n c a p so) (f : Nat → Int32) : psR sc (sA sm 12 0 5 f) n c a p so := by
  obtain ⟨T, q0, ⟨q1, q2, q3, q4, q5, q6⟩, q7, q8, q9⟩ := P
  refine ⟨tpe_e T rfl rfl rfl rfl ?_, q0, ⟨q1, q2, q3, q4, q5, q6⟩, q7, q8, q9⟩
  rw [gA_sA, if_neg (by omega)]
theorem ps_N (P : psR sc sm n c a p so) {d q : Nat} (hd : ¬ d = 5) : psR (fNewO d q sc) sm n c a p so := by
  obtain ⟨T, q0, ⟨q1, q2, q3, q4, q5, q6⟩, q7, q8, q9⟩ := P
  have e : ∀ k, gI (fNewO d q sc) 5 0 k = gI sc 5 0 k := fun k => fNewO_I (by omega)
  have eL : ∀ k, gL (fNewO d q sc) 5 0 k = gL sc 5 0 k := fun k => fNewO_L (by omega)
  exact ⟨tpe_e T (e 3) rfl (fNewO_B (by omega)) (fNewO_A (by omega)) rfl, tok_e q0 ⟨e 6, e 8⟩ (eL 7) ⟨rfl, rfl, rfl⟩ rfl, ⟨(e 4).trans q1, (e 5).trans q2, q3, q4, q5, q6⟩, q7, (e 10).trans q8, (e 11).trans q9⟩
theorem sgR_0 (s t : fSt) (q : Nat) : sgR (fNewO 7 q s) (sA t 12 0 5 (fun p => if 1720 ≤ p ∧ p < 1720 + 430 then nI 0 else gA t 12 0 5 p)) q (fun _ => 0) := by
  have e : ∀ k, k < 430 → gA (sA t 12 0 5 (fun p => if 1720 ≤ p ∧ p < 1720 + 430 then nI 0 else gA t 12 0 5 p)) 12 0 5 (1720 + k) = nI 0 := fun k hk => by
    rw [gA_sA, if_pos ⟨rfl, rfl, rfl⟩, if_pos (by omega)]
  have z : ∀ k, gI (fNewO 7 q s) 7 q k = nI 0 := fun k => fNewO_Is 7 q s k
  refine ⟨⟨⟨by decide, by decide, by decide, by decide⟩, ⟨by decide, by decide, by decide⟩, fun a ha => absurd ha (Nat.not_lt_zero a), fun a ha => absurd ha (Nat.not_lt_zero a), fun a ha => absurd ha (Nat.not_lt_zero a), fun a ha => absurd ha (Nat.not_lt_zero a)⟩, ⟨⟨e 0 (by omega), e 1 (by omega), e 2 (by omega), e 3 (by omega), e 4 (by omega), e 5 (by omega), e 6 (by omega)⟩, fun a ha => absurd ha (Nat.not_lt_zero a), fun a ha => absurd ha (Nat.not_lt_zero a), fun a ha => absurd ha (Nat.not_lt_zero a), fun a ha => absurd ha (Nat.not_lt_zero a), ⟨e 217 (by omega), e 218 (by omega), by decide, fun _ => rfl, by decide⟩, fun a ha => absurd ha (Nat.not_lt_zero a)⟩, ⟨⟨z 0, z 1, z 2, z 3⟩, fun a ha => absurd ha (Nat.not_lt_zero a), fun a ha => absurd ha (Nat.not_lt_zero a), fun a ha => absurd ha (Nat.not_lt_zero a)⟩, ⟨fun a ha => absurd ha (Nat.not_lt_zero a), fun a ha => absurd ha (Nat.not_lt_zero a), fun a ha => absurd ha (Nat.not_lt_zero a), fun a ha => absurd ha (Nat.not_lt_zero a)⟩, rfl, rfl, rfl, rfl, rfl⟩
end
/-- stage -/
theorem call_stage (b : Int32) (n0 : Nat) (sc sm : fSt) (R : RR sc sm) (hp : ∀ i, i < 4 → gP sc 2 i 0 ≤ n0) : ∃ r sc' sm', f_X11_stage n0 b sc = some (r, sc') ∧ f_X12_stage b sm = some (r, sm') ∧ RR sc' sm' := by
  obtain ⟨hA, H⟩ := R
  have H := pro_x H
  have z := pro_0 sm
  unfold f_X11_stage f_X11_stage_1 f_X12_stage
  simp only [fLt_e, pro_eq]
  generalize pro sm = s2 at *
  simp only [i_lit]
  obtain ⟨m, hm9, hx2, hm8, -⟩ := H.2.2.2.1.1
  rw [hx2, x_isIn, nI_toInt (by omega), nI_toInt (by omega), fBd_s]
  by_cases hb : 0 ≤ b.toInt ∧ b.toInt ≤ m
  · rw [inB_t.mpr (by omega), if_pos (by decide)]
    obtain ⟨r, hr, rfl, -⟩ := nI_ofInt (n := m + 1) hb.1 (by omega)
    obtain ⟨s, t, c, a, p, so, e1, e2, P, hp0, f, g, h5, h8, hB⟩ := rd_open (r := r) (lim := 900) (m := m) H.2.2.2.1 ⟨hm8, hm9⟩ (by omega)
    rw [e1, fBd_s, e2, fBd_s, if_pos (by decide)]
    simp only [fJn_s]
    rw [lm25]
    have P1 := ps_Af (ps_N (d := 7) (q := n0) P (by omega)) (fun p => if 1720 ≤ p ∧ p < 1720 + 430 then nI 0 else gA t 12 0 5 p)
    have S1 := sgR_0 s t n0
    have f1 : xH 7 n0 sc (fNewO 7 n0 s) := xH_tr (f 7 n0) (xH_new s)
    have g1 : yH s2 (sA t 12 0 5 (fun p => if 1720 ≤ p ∧ p < 1720 + 430 then nI 0 else gA t 12 0 5 p)) := by
      refine yH_tr g ⟨fun _ _ => rfl, fun _ _ => rfl, fun k hk => ?_, fun k hk => ?_, fun _ _ => rfl, fun _ _ => rfl⟩
      · rw [gA_sA, if_neg (by omega)]
      · rw [gA_sA, if_pos ⟨rfl, rfl, rfl⟩, if_neg (by omega)]
    have h5' : gI (fNewO 7 n0 s) 5 0 2 = nI 0 := (fNewO_I (by omega)).trans h5
    have h8' : gI (sA t 12 0 5 (fun p => if 1720 ≤ p ∧ p < 1720 + 430 then nI 0 else gA t 12 0 5 p)) 12 0 8 = nI 0 := h8
    generalize fNewO 7 n0 s = s1 at *
    generalize sA t 12 0 5 (fun p => if 1720 ≤ p ∧ p < 1720 + 430 then nI 0 else gA t 12 0 5 p) = t1 at *
    have hF : ∃ F, fF = F + 1 ∧ 2000 < F := ⟨fF - 1, by have : 3000 < fF := fF_lt (by omega); omega, by have : 3000 < fF := fF_lt (by omega); omega⟩
    obtain ⟨F, hF, hF2⟩ := hF
    obtain ⟨s3, t3, f3, g3, h⟩ := ps_items (q := n0) (r + 1) s1 t1 (fun _ => 0) a p so 0 F F P1 S1 hp0 (by omega) (by omega) (by omega) (by omega) (Or.inl (by omega)) (by omega)
    have f4 := xH_tr f1 (xH_q f3)
    have g4 := yH_tr g1 (yH_q g3)
    have h53 : gI s3 5 0 2 = nI 0 := (f3.1 _ _ _ (by omega) (by omega)).trans h5'
    have h83 : gI t3 12 0 8 = nI 0 := (g3.1 _ _ _ (by omega)).trans h8'
    have H3 : RX s3 t3 := RX_rd H f4 g4 (Or.inl ⟨rfl, hp⟩) h53 h83 ⟨by rw [f4.1 _ _ _ (by omega) (by omega), g4.1 _ (by omega)]; exact H.2.1.1, by rw [f4.1 _ _ _ (by omega) (by omega), g4.1 _ (by omega)]; exact H.2.1.2⟩
    unfold f_X11_stage_2 f_X7_readFrom
    simp only [fLt_e, fJn_s, i_lit]
    rw [hF]
    rcases h with ⟨G, a', p', S, P', h⟩ | ⟨d, e, Fl, h⟩
    · have hb0 := P'.2.2.2.1
      rw [(h _ (fun s => some (nI 0, s))).1, (h (fun x s => some (x, s)) _).2, fBo_1, fBd_s, m_well hb0, fBd_s, if_pos (by decide), ← hF, lm147, lm178]
      unfold f_X11_keepFault f_X11_answer
      simp only [fLt_e, fBd_s]
      rw [if_pos (by decide), x_raise]
      simp only [fBd_s, i_lit]
      obtain ⟨W, B, T, N, z4, z5, z6, z7, z8⟩ := S
      refine ⟨nI (G 2), _, _, congrArg (fun x => some (x, _)) (show gI _ 7 n0 2 = nI (G 2) from T.1.2.2.1), congrArg (fun x => some (x, _)) (show _ = nI (G 2) from B.1.2.2.1), ?_⟩
      have h0 : gI t3 12 0 0 = 0 := (g4.1 _ (by omega)).trans z
      have HQ := RX_Q H3 (nI 0) mI
      have hx : gI s3 5 0 10 = nI 0 := P'.2.2.2.2.1
      have hy : gI (sI s3 11 0 5 (gI s3 5 0 10)) 5 0 11 = mI := P'.2.2.2.2.2
      rw [hy, hx]
      refine fin_0 (RX_one (q := n0) (G := G) HQ ⟨W, ⟨rfl, T, ⟨by rw [z4]; rfl, by rw [z5]; rfl⟩, by rw [z6]; rfl, fun i hi => by omega⟩, rBlk_cong W (fun k hk => ?_) B, ?_, Or.inl ⟨z7, rfl⟩⟩ ⟨fun c i k hc => ?_, rfl, rfl, rfl, fun c i k hc => ?_⟩ ⟨rfl, rfl, fun k hk => ?_, fun k hk => ?_, fun k hk => ?_, fun k hk => ?_⟩) h0
      · show gA (sA t3 12 0 5 (fun p => if p < 430 then gA t3 12 0 5 (1720 + p) else gA t3 12 0 5 p)) 12 0 5 (430 * 0 + k) = gA t3 12 0 5 (1720 + k)
        rw [gA_sA, if_pos ⟨rfl, rfl, rfl⟩, if_pos (by omega), Nat.mul_zero, Nat.zero_add]
      · have e : ∀ k, k < 28 → (if 28 * 0 + k < 28 then gB t3 12 0 7 (112 + (28 * 0 + k)) else gB t3 12 0 7 (28 * 0 + k)) = gB t3 12 0 7 (112 + k) := fun k hk => by
          rw [if_pos (by omega), Nat.mul_zero, Nat.zero_add]
        obtain ⟨w0, w1, w2, w3⟩ := W.1
        obtain ⟨n1, n2, n3, n4⟩ := N
        exact ⟨fun k hk => (n1 k hk).trans (e _ (by omega)).symm, fun k hk => (n2 k hk).trans (e _ (by omega)).symm, fun k hk => (n3 k hk).trans (e _ (by omega)).symm, fun k hk => (n4 k hk).trans (e _ (by omega)).symm⟩
      · unfold xRa
        simp (disch := omega) only [gI_sI, gI_sP, if_neg]
      · unfold xRa
        simp (disch := omega) only [gP_sI, gP_sP, if_neg]
      · show gA (sA _ 12 0 5 _) 12 0 k = _
        rw [gA_sA, if_neg (by omega)]
        all_goals rfl
      · show gA (sA (sI (sI t3 12 0 10 (nI 0)) 12 0 11 mI) 12 0 5 (fun p => if p < 430 then gA (sI (sI t3 12 0 10 (nI 0)) 12 0 11 mI) 12 0 5 (1720 + p) else gA (sI (sI t3 12 0 10 (nI 0)) 12 0 11 mI) 12 0 5 p)) 12 0 5 k = gA (sI (sI t3 12 0 10 (nI 0)) 12 0 11 mI) 12 0 5 k
        rw [gA_sA, if_pos ⟨rfl, rfl, rfl⟩, if_neg (by omega)]
      · show gB (sB _ 12 0 7 _) 12 0 k = _
        rw [gB_sB, if_neg (by omega)]
        all_goals rfl
      · show gB (sB (sI (sI t3 12 0 10 (nI 0)) 12 0 11 mI) 12 0 7 (fun p => if p < 28 then gB (sI (sI t3 12 0 10 (nI 0)) 12 0 11 mI) 12 0 7 (112 + p) else gB (sI (sI t3 12 0 10 (nI 0)) 12 0 11 mI) 12 0 7 p)) 12 0 7 k = gB (sI (sI t3 12 0 10 (nI 0)) 12 0 11 mI) 12 0 7 k
        rw [gB_sB, if_pos ⟨rfl, rfl, rfl⟩, if_neg (by omega)]
    · obtain ⟨k1, k2, k3, u1, u2, u3, u4⟩ := Fl
      rw [(h _ (fun s => some (nI 0, s))).1, (h (fun x s => some (x, s)) _).2, fBo_0, fBd_s, m_unwell ⟨k1, k2⟩ u1 u2, fBd_s, if_neg (by decide)]
      unfold f_X11_keepFault f_X11_fail
      simp only [fLt_e, fBd_s]
      rw [if_neg (by decide)]
      simp only [fBd_s, i_lit, i_neg1]
      refine ⟨_, _, _, rfl, rfl, ?_⟩
      have hy : gI (sI s3 11 0 5 (gI s3 5 0 10)) 5 0 11 = nI e := u4
      rw [hy, u3]
      exact fin_st (RX_Q H3 (nI d) (nI e)) (nI 10)
  · rw [inB_f.mpr (by omega), if_neg (by decide), rd_shut (lim := 900) ⟨hm8, hm9⟩ (by omega) (by omega), fBd_s, if_neg (by decide)]
    unfold f_X11_fail
    simp only [fLt_e, fBd_s, i_lit, i_neg1]
    exact ⟨_, _, _, rfl, rfl, fin_st H _⟩
