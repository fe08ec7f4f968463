/-! layer 2: the loop over roles, both sides in step -/
def rlO (n : Nat) (c : Nat → Nat) (q : Nat) (G : Nat → Nat) (sc sm : fSt) (p mk t Fx Fm : Nat) : Prop :=
  ∃ sc' sm', xFr sc sc' ∧ yFr sm sm' ∧
    ((∃ mk' a' p' so', mk' < 2 ^ G 0 ∧ psR sc' sm' n c a' p' so' ∧ (p ≤ a' ∧ (¬ so' = 35 → p < p')) ∧ ∀ kx km, f_X7_readRoles_L8 q kx Fx (nI mk) (nI t) sc = kx (nI mk') sc' ∧ f_X12_readRoles_L8 km Fm (nI mk) (nI 1) sm = km (nI mk') sm') ∨
     (∃ r d e, flR sc' sm' d e ∧ ∀ kx km, f_X7_readRoles_L8 q kx Fx (nI mk) (nI t) sc = some (mI, sc') ∧ f_X12_readRoles_L8 km Fm (nI mk) (nI 1) sm = km (nI r) sm') ∨
     (∃ mk' a', mk' < 2 ^ G 0 ∧ hfR sc' sm' a' ∧ ∀ kx km, f_X7_readRoles_L8 q kx Fx (nI mk) (nI t) sc = kx (nI mk') sc' ∧ f_X12_readRoles_L8 km Fm (nI mk) (nI 1) sm = km (nI mk') sm'))
-- the reference's turns
section
variable {sm t1 : fSt} {g0 mk v : Nat}
theorem rl_g1 (hb : gI sm 12 0 12 = nI 0) (y0 : gA sm 12 0 5 1720 = nI g0) (e1 : f_X12_readTold (nI 4) (nI 0) (nI g0) sm = some (nI v, t1)) (hb1 : gI t1 12 0 12 = nI 0) (hv : v < 6) (hmk : mk < 64) (hbit : mk.testBit v = false) (hn : f_X12_isName t1 = some (bI true, t1)) (km : Int32 → fSt → Option (Int32 × fSt)) (F : Nat) : f_X12_readRoles_L8 km (F + 1) (nI mk) (nI 1) sm = f_X12_readRoles_L8 km F (nI (mk ||| 2 ^ v)) (nI 1) t1 := by
  conv => lhs; unfold f_X12_readRoles_L8
  simp (disch := omega) only [↓fLt_e, fBd_s, ↓fJn_s, fNn_s, fNu_0, fNu_s, fBo_0, fBo_1, fBo_b, i_lit, i_neg1, nI_add, pk_mul, nI_clamp, i_le, i_lt, i_eq, fIx_n, nI_mI, mI_nI, mI_lt, nI_lt_m, mI_le, nI_le_m, xI_0, xI_s, bI_0, bI_1, bI_t, bI_f, n_31, j_bit, j_one, i_and, i_or, Nat.not_lt_zero, Nat.succ_ne_zero, Nat.add_one_ne_zero, Nat.add_one_sub_one, Nat.zero_le, Nat.or_zero, Nat.zero_or, Bool.not_true, Bool.not_false, Bool.true_and, Bool.false_and, Bool.and_true, Bool.and_false, ↓reduceIte, if_true, if_false, not_true_eq_false, not_false_eq_true, true_and, and_true, false_and, and_false, and_self, true_or, or_true, false_or, or_false, Nat.reduceEqDiff, Nat.reduceLT, Nat.reduceLeDiff, Nat.reduceAdd, Nat.reduceMul, Nat.reduceSub, Nat.add_zero, Nat.zero_add, Nat.mul_zero, Nat.zero_mul, ne_eq, Bool.not_eq_true, Bool.not_eq_false, reduceCtorEq, decide_true, decide_false, decide_eq_true_eq, decide_eq_false_iff_not, Bool.false_eq_true, if_pos, if_neg, hb, y0, e1, hb1, hbit, hn]
theorem rl_g2 {L : Nat} (hb : gI sm 12 0 12 = nI 0) (y0 : gA sm 12 0 5 1720 = nI g0) (e1 : f_X12_readTold (nI 4) (nI 0) (nI g0) sm = some (nI v, t1)) (hb1 : gI t1 12 0 12 = nI 0) (hv : v < 6) (hmk : mk < 64) (hbit : mk.testBit v = false) (hn : f_X12_isName t1 = some (bI false, t1)) (B1 : gI t1 12 0 14 = nI 1) (B2 : gI t1 12 0 18 = nI L) (hL : 8 < L ∧ L ≤ 900) (km : Int32 → fSt → Option (Int32 × fSt)) (F : Nat) : f_X12_readRoles_L8 km (F + 1) (nI mk) (nI 1) sm = f_X12_readRoles_L8 km F (nI (mk ||| 2 ^ v)) (nI 1) t1 := by
  have L3 : ¬ L ≤ 8 := by omega
  conv => lhs; unfold f_X12_readRoles_L8
  simp (disch := omega) only [↓fLt_e, fBd_s, ↓fJn_s, fNn_s, fNu_0, fNu_s, fBo_0, fBo_1, fBo_b, i_lit, i_neg1, nI_add, pk_mul, nI_clamp, i_le, i_lt, i_eq, fIx_n, nI_mI, mI_nI, mI_lt, nI_lt_m, mI_le, nI_le_m, xI_0, xI_s, bI_0, bI_1, bI_t, bI_f, n_31, j_bit, j_one, i_and, i_or, Nat.not_lt_zero, Nat.succ_ne_zero, Nat.add_one_ne_zero, Nat.add_one_sub_one, Nat.zero_le, Nat.or_zero, Nat.zero_or, Bool.not_true, Bool.not_false, Bool.true_and, Bool.false_and, Bool.and_true, Bool.and_false, ↓reduceIte, if_true, if_false, not_true_eq_false, not_false_eq_true, true_and, and_true, false_and, and_false, and_self, true_or, or_true, false_or, or_false, Nat.reduceEqDiff, Nat.reduceLT, Nat.reduceLeDiff, Nat.reduceAdd, Nat.reduceMul, Nat.reduceSub, Nat.add_zero, Nat.zero_add, Nat.mul_zero, Nat.zero_mul, ne_eq, Bool.not_eq_true, Bool.not_eq_false, reduceCtorEq, decide_true, decide_false, decide_eq_true_eq, decide_eq_false_iff_not, Bool.false_eq_true, if_pos, if_neg, hb, y0, e1, hb1, hbit, hn, B1, B2, L3]
theorem rl_g3 (hb : gI sm 12 0 12 = nI 0) (y0 : gA sm 12 0 5 1720 = nI g0) (e1 : f_X12_readTold (nI 4) (nI 0) (nI g0) sm = some (nI v, t1)) (hb1 : gI t1 12 0 12 = nI 0) (hv : v < 6) (hmk : mk < 64) (hbit : mk.testBit v = false) (hn : f_X12_isName t1 = some (bI false, t1)) (B : ¬ gI t1 12 0 14 = nI 1 ∨ ∃ L, L ≤ 8 ∧ gI t1 12 0 18 = nI L) (km : Int32 → fSt → Option (Int32 × fSt)) (F : Nat) : f_X12_readRoles_L8 km (F + 2) (nI mk) (nI 1) sm = km (nI (mk ||| 2 ^ v)) t1 := by
  have h2 : f_X12_readRoles_L8 km (F + 1) (nI (mk ||| 2 ^ v)) (nI 0) t1 = km (nI (mk ||| 2 ^ v)) t1 := by
    unfold f_X12_readRoles_L8
    simp (disch := omega) only [↓fLt_e, fBd_s, ↓fJn_s, fNn_s, fNu_0, fNu_s, fBo_0, fBo_1, fBo_b, i_lit, i_neg1, nI_add, pk_mul, nI_clamp, i_le, i_lt, i_eq, fIx_n, nI_mI, mI_nI, mI_lt, nI_lt_m, mI_le, nI_le_m, xI_0, xI_s, bI_0, bI_1, bI_t, bI_f, n_31, j_bit, j_one, i_and, i_or, Nat.not_lt_zero, Nat.succ_ne_zero, Nat.add_one_ne_zero, Nat.add_one_sub_one, Nat.zero_le, Nat.or_zero, Nat.zero_or, Bool.not_true, Bool.not_false, Bool.true_and, Bool.false_and, Bool.and_true, Bool.and_false, ↓reduceIte, if_true, if_false, not_true_eq_false, not_false_eq_true, true_and, and_true, false_and, and_false, and_self, true_or, or_true, false_or, or_false, Nat.reduceEqDiff, Nat.reduceLT, Nat.reduceLeDiff, Nat.reduceAdd, Nat.reduceMul, Nat.reduceSub, Nat.add_zero, Nat.zero_add, Nat.mul_zero, Nat.zero_mul, ne_eq, Bool.not_eq_true, Bool.not_eq_false, reduceCtorEq, decide_true, decide_false, decide_eq_true_eq, decide_eq_false_iff_not, Bool.false_eq_true, if_pos, if_neg]
  rw [show F + 2 = (F + 1) + 1 from rfl]
  conv => lhs; unfold f_X12_readRoles_L8
  rcases B with B | ⟨L, l1, l2⟩
  · simp (disch := omega) only [↓fLt_e, fBd_s, ↓fJn_s, fNn_s, fNu_0, fNu_s, fBo_0, fBo_1, fBo_b, i_lit, i_neg1, nI_add, pk_mul, nI_clamp, i_le, i_lt, i_eq, fIx_n, nI_mI, mI_nI, mI_lt, nI_lt_m, mI_le, nI_le_m, xI_0, xI_s, bI_0, bI_1, bI_t, bI_f, n_31, j_bit, j_one, i_and, i_or, Nat.not_lt_zero, Nat.succ_ne_zero, Nat.add_one_ne_zero, Nat.add_one_sub_one, Nat.zero_le, Nat.or_zero, Nat.zero_or, Bool.not_true, Bool.not_false, Bool.true_and, Bool.false_and, Bool.and_true, Bool.and_false, ↓reduceIte, if_true, if_false, not_true_eq_false, not_false_eq_true, true_and, and_true, false_and, and_false, and_self, true_or, or_true, false_or, or_false, Nat.reduceEqDiff, Nat.reduceLT, Nat.reduceLeDiff, Nat.reduceAdd, Nat.reduceMul, Nat.reduceSub, Nat.add_zero, Nat.zero_add, Nat.mul_zero, Nat.zero_mul, ne_eq, Bool.not_eq_true, Bool.not_eq_false, reduceCtorEq, decide_true, decide_false, decide_eq_true_eq, decide_eq_false_iff_not, Bool.false_eq_true, if_pos, if_neg, hb, y0, e1, hb1, hbit, hn, B, h2]
  · simp (disch := omega) only [↓fLt_e, fBd_s, ↓fJn_s, fNn_s, fNu_0, fNu_s, fBo_0, fBo_1, fBo_b, i_lit, i_neg1, nI_add, pk_mul, nI_clamp, i_le, i_lt, i_eq, fIx_n, nI_mI, mI_nI, mI_lt, nI_lt_m, mI_le, nI_le_m, xI_0, xI_s, bI_0, bI_1, bI_t, bI_f, n_31, j_bit, j_one, i_and, i_or, Nat.not_lt_zero, Nat.succ_ne_zero, Nat.add_one_ne_zero, Nat.add_one_sub_one, Nat.zero_le, Nat.or_zero, Nat.zero_or, Bool.not_true, Bool.not_false, Bool.true_and, Bool.false_and, Bool.and_true, Bool.and_false, ↓reduceIte, if_true, if_false, not_true_eq_false, not_false_eq_true, true_and, and_true, false_and, and_false, and_self, true_or, or_true, false_or, or_false, Nat.reduceEqDiff, Nat.reduceLT, Nat.reduceLeDiff, Nat.reduceAdd, Nat.reduceMul, Nat.reduceSub, Nat.add_zero, Nat.zero_add, Nat.mul_zero, Nat.zero_mul, ne_eq, Bool.not_eq_true, Bool.not_eq_false, reduceCtorEq, decide_true, decide_false, decide_eq_true_eq, decide_eq_false_iff_not, Bool.false_eq_true, if_pos, if_neg, hb, y0, e1, hb1, hbit, hn, l1, l2, h2]
    split <;> rfl
theorem rl_dbl {a : Nat} (hb : gI sm 12 0 12 = nI 0) (y0 : gA sm 12 0 5 1720 = nI g0) (q3 : gI sm 12 0 15 = nI a) (e1 : f_X12_readTold (nI 4) (nI 0) (nI g0) sm = some (nI v, t1)) (hb1 : gI t1 12 0 12 = nI 0) (hv : v < 6) (hmk : mk < 64) (hbit : mk.testBit v = true) (km : Int32 → fSt → Option (Int32 × fSt)) (F : Nat) : f_X12_readRoles_L8 km (F + 2) (nI mk) (nI 1) sm = km (nI mk) (sI (sI t1 12 0 12 (nI 5)) 12 0 13 (nI a)) := by
  obtain ⟨b, hn⟩ := an_name (sI (sI t1 12 0 12 (nI 5)) 12 0 13 (nI a))
  have hf : gI (sI (sI t1 12 0 12 (nI 5)) 12 0 13 (nI a)) 12 0 12 = nI 5 := by simp (disch := omega) only [gI_sI, gL_sL, gA_sA, gB_sB, gP_sP, gI_sL, gI_sA, gI_sB, gI_sP, gL_sI, gL_sA, gL_sB, gL_sP, gA_sI, gA_sL, gA_sB, gA_sP, gB_sI, gB_sL, gB_sA, gB_sP, gP_sI, gP_sL, gP_sA, gP_sB, fLt_e, fBd_s, fJn_s, fNn_s, fNu_0, fNu_s, fBo_0, fBo_1, fBo_b, i_lit, i_neg1, nI_add, pk_mul, nI_clamp, i_le, i_lt, i_eq, fIx_n, nI_mI, mI_nI, mI_lt, nI_lt_m, mI_le, nI_le_m, xI_0, xI_s, bI_0, bI_1, bI_t, bI_f, n_31, j_bit, j_one, i_and, i_or, Nat.not_lt_zero, Nat.succ_ne_zero, Nat.add_one_ne_zero, Nat.add_one_sub_one, Nat.zero_le, Nat.or_zero, Nat.zero_or, Bool.not_true, Bool.not_false, Bool.true_and, Bool.false_and, Bool.and_true, Bool.and_false, ↓reduceIte, if_true, if_false, not_true_eq_false, not_false_eq_true, true_and, and_true, false_and, and_false, and_self, true_or, or_true, false_or, or_false, Nat.reduceEqDiff, Nat.reduceLT, Nat.reduceLeDiff, Nat.reduceAdd, Nat.reduceMul, Nat.reduceSub, Nat.add_zero, Nat.zero_add, Nat.mul_zero, Nat.zero_mul, ne_eq, Bool.not_eq_true, Bool.not_eq_false, reduceCtorEq, decide_true, decide_false, decide_eq_true_eq, decide_eq_false_iff_not, Bool.false_eq_true, if_pos, if_neg]
  have hz : mk ||| 0 = mk := Nat.or_zero mk
  have hr := rl_end (k := 5) (by omega) hf km F (nI mk)
  have hm := m_fail_ok hb1 (nI 5) (nI a)
  generalize sI (sI t1 12 0 12 (nI 5)) 12 0 13 (nI a) = t2 at *
  rw [show F + 2 = (F + 1) + 1 from rfl]
  conv => lhs; unfold f_X12_readRoles_L8
  simp (disch := omega) only [↓fLt_e, fBd_s, ↓fJn_s, fNn_s, fNu_0, fNu_s, fBo_0, fBo_1, fBo_b, i_lit, i_neg1, nI_add, pk_mul, nI_clamp, i_le, i_lt, i_eq, fIx_n, nI_mI, mI_nI, mI_lt, nI_lt_m, mI_le, nI_le_m, xI_0, xI_s, bI_0, bI_1, bI_t, bI_f, n_31, j_bit, j_one, i_and, i_or, Nat.not_lt_zero, Nat.succ_ne_zero, Nat.add_one_ne_zero, Nat.add_one_sub_one, Nat.zero_le, Nat.or_zero, Nat.zero_or, Bool.not_true, Bool.not_false, Bool.true_and, Bool.false_and, Bool.and_true, Bool.and_false, ↓reduceIte, if_true, if_false, not_true_eq_false, not_false_eq_true, true_and, and_true, false_and, and_false, and_self, true_or, or_true, false_or, or_false, Nat.reduceEqDiff, Nat.reduceLT, Nat.reduceLeDiff, Nat.reduceAdd, Nat.reduceMul, Nat.reduceSub, Nat.add_zero, Nat.zero_add, Nat.mul_zero, Nat.zero_mul, ne_eq, Bool.not_eq_true, Bool.not_eq_false, reduceCtorEq, decide_true, decide_false, decide_eq_true_eq, decide_eq_false_iff_not, Bool.false_eq_true, if_pos, if_neg, hb, y0, e1, hb1, hbit, q3, hm, hf, hn, hz, hr]
  cases b <;> simp (disch := omega) only [↓fLt_e, fBd_s, ↓fJn_s, fNn_s, fNu_0, fNu_s, fBo_0, fBo_1, fBo_b, i_lit, i_neg1, nI_add, pk_mul, nI_clamp, i_le, i_lt, i_eq, fIx_n, nI_mI, mI_nI, mI_lt, nI_lt_m, mI_le, nI_le_m, xI_0, xI_s, bI_0, bI_1, bI_t, bI_f, n_31, j_bit, j_one, i_and, i_or, Nat.not_lt_zero, Nat.succ_ne_zero, Nat.add_one_ne_zero, Nat.add_one_sub_one, Nat.zero_le, Nat.or_zero, Nat.zero_or, Bool.not_true, Bool.not_false, Bool.true_and, Bool.false_and, Bool.and_true, Bool.and_false, ↓reduceIte, if_true, if_false, not_true_eq_false, not_false_eq_true, true_and, and_true, false_and, and_false, and_self, true_or, or_true, false_or, or_false, Nat.reduceEqDiff, Nat.reduceLT, Nat.reduceLeDiff, Nat.reduceAdd, Nat.reduceMul, Nat.reduceSub, Nat.add_zero, Nat.zero_add, Nat.mul_zero, Nat.zero_mul, ne_eq, Bool.not_eq_true, Bool.not_eq_false, reduceCtorEq, decide_true, decide_false, decide_eq_true_eq, decide_eq_false_iff_not, Bool.false_eq_true, if_pos, if_neg]
  repeat' split
  all_goals rfl
end
-- the class's turns
section
variable {q : Nat} {sc s1 : fSt} {g0 mk v t so : Nat}
theorem rx_g (x0 : gI sc 7 q 0 = nI g0) (hso : gI sc 5 0 6 = nI 32) (pk : f_X5_find 7 q 1 6 (nI g0) (gL sc 5 0 7) sc = some (xI (v + 1), sc)) (e2 : f_X5_takeName 7 q 1 6 (nI g0) sc = some (nI 1, s1)) (ht : t ≤ 6) (hv : v < 6) (hmk : mk < 64) (hbit : mk.testBit v = false) (kx : Int32 → fSt → Option (Int32 × fSt)) (F : Nat) : f_X7_readRoles_L8 q kx (F + 1) (nI mk) (nI t) sc = f_X7_readRoles_L8 q kx F (nI (mk ||| 2 ^ v)) (nI (t + 1)) s1 := by
  have ht6 : ¬ 6 < t := by omega
  conv => lhs; unfold f_X7_readRoles_L8
  simp (disch := omega) only [↓fLt_e, fBd_s, ↓fJn_s, fNn_s, fNu_0, fNu_s, fBo_0, fBo_1, fBo_b, i_lit, i_neg1, nI_add, pk_mul, nI_clamp, i_le, i_lt, i_eq, fIx_n, nI_mI, mI_nI, mI_lt, nI_lt_m, mI_le, nI_le_m, xI_0, xI_s, bI_0, bI_1, bI_t, bI_f, n_31, j_bit, j_one, i_and, i_or, Nat.not_lt_zero, Nat.succ_ne_zero, Nat.add_one_ne_zero, Nat.add_one_sub_one, Nat.zero_le, Nat.or_zero, Nat.zero_or, Bool.not_true, Bool.not_false, Bool.true_and, Bool.false_and, Bool.and_true, Bool.and_false, ↓reduceIte, if_true, if_false, not_true_eq_false, not_false_eq_true, true_and, and_true, false_and, and_false, and_self, true_or, or_true, false_or, or_false, Nat.reduceEqDiff, Nat.reduceLT, Nat.reduceLeDiff, Nat.reduceAdd, Nat.reduceMul, Nat.reduceSub, Nat.add_zero, Nat.zero_add, Nat.mul_zero, Nat.zero_mul, ne_eq, Bool.not_eq_true, Bool.not_eq_false, reduceCtorEq, decide_true, decide_false, decide_eq_true_eq, decide_eq_false_iff_not, Bool.false_eq_true, if_pos, if_neg, x0, pk, hso, ht6, hbit, e2, ite_self]
theorem rx_dbl (x0 : gI sc 7 q 0 = nI g0) (hso : gI sc 5 0 6 = nI 32) (pk : f_X5_find 7 q 1 6 (nI g0) (gL sc 5 0 7) sc = some (xI (v + 1), sc)) (ht : t ≤ 6) (hv : v < 6) (hmk : mk < 64) (hbit : mk.testBit v = true) (kx : Int32 → fSt → Option (Int32 × fSt)) (F : Nat) : f_X7_readRoles_L8 q kx (F + 1) (nI mk) (nI t) sc = some (mI, sI (sI sc 5 0 10 (nI 5)) 5 0 11 (gI sc 5 0 4)) := by
  have ht6 : ¬ 6 < t := by omega
  have hx := x_fail sc (nI 5)
  conv => lhs; unfold f_X7_readRoles_L8
  simp (disch := omega) only [↓fLt_e, fBd_s, ↓fJn_s, fNn_s, fNu_0, fNu_s, fBo_0, fBo_1, fBo_b, i_lit, i_neg1, nI_add, pk_mul, nI_clamp, i_le, i_lt, i_eq, fIx_n, nI_mI, mI_nI, mI_lt, nI_lt_m, mI_le, nI_le_m, xI_0, xI_s, bI_0, bI_1, bI_t, bI_f, n_31, j_bit, j_one, i_and, i_or, Nat.not_lt_zero, Nat.succ_ne_zero, Nat.add_one_ne_zero, Nat.add_one_sub_one, Nat.zero_le, Nat.or_zero, Nat.zero_or, Bool.not_true, Bool.not_false, Bool.true_and, Bool.false_and, Bool.and_true, Bool.and_false, ↓reduceIte, if_true, if_false, not_true_eq_false, not_false_eq_true, true_and, and_true, false_and, and_false, and_self, true_or, or_true, false_or, or_false, Nat.reduceEqDiff, Nat.reduceLT, Nat.reduceLeDiff, Nat.reduceAdd, Nat.reduceMul, Nat.reduceSub, Nat.add_zero, Nat.zero_add, Nat.mul_zero, Nat.zero_mul, ne_eq, Bool.not_eq_true, Bool.not_eq_false, reduceCtorEq, decide_true, decide_false, decide_eq_true_eq, decide_eq_false_iff_not, Bool.false_eq_true, if_pos, if_neg, x0, pk, hso, ht6, hbit, hx, ite_self]
theorem rx_stop (hso : gI sc 5 0 6 = nI so) (h : ¬ so = 32 ∧ so < 64) (ht : 1 ≤ t ∧ t ≤ 6) (kx : Int32 → fSt → Option (Int32 × fSt)) (F : Nat) : f_X7_readRoles_L8 q kx (F + 1) (nI mk) (nI t) sc = kx (nI mk) sc := by
  have ht6 : ¬ 6 < t := by omega
  have ht7 : ¬ t = 0 := by omega
  have h1 := h.1
  conv => lhs; unfold f_X7_readRoles_L8
  simp (disch := omega) only [↓fLt_e, fBd_s, ↓fJn_s, fNn_s, fNu_0, fNu_s, fBo_0, fBo_1, fBo_b, i_lit, i_neg1, nI_add, pk_mul, nI_clamp, i_le, i_lt, i_eq, fIx_n, nI_mI, mI_nI, mI_lt, nI_lt_m, mI_le, nI_le_m, xI_0, xI_s, bI_0, bI_1, bI_t, bI_f, n_31, j_bit, j_one, i_and, i_or, Nat.not_lt_zero, Nat.succ_ne_zero, Nat.add_one_ne_zero, Nat.add_one_sub_one, Nat.zero_le, Nat.or_zero, Nat.zero_or, Bool.not_true, Bool.not_false, Bool.true_and, Bool.false_and, Bool.and_true, Bool.and_false, ↓reduceIte, if_true, if_false, not_true_eq_false, not_false_eq_true, true_and, and_true, false_and, and_false, and_self, true_or, or_true, false_or, or_false, Nat.reduceEqDiff, Nat.reduceLT, Nat.reduceLeDiff, Nat.reduceAdd, Nat.reduceMul, Nat.reduceSub, Nat.add_zero, Nat.zero_add, Nat.mul_zero, Nat.zero_mul, ne_eq, Bool.not_eq_true, Bool.not_eq_false, reduceCtorEq, decide_true, decide_false, decide_eq_true_eq, decide_eq_false_iff_not, Bool.false_eq_true, if_pos, if_neg, hso, h1, ht6, ht7]
theorem rx_bad1 {r : Nat} (x0 : gI sc 7 q 0 = nI g0) (hso : gI sc 5 0 6 = nI so) (h : ¬ so = 32 ∧ so < 64) (hx : f_X5_find 7 q 1 6 (nI g0) (gL sc 5 0 7) sc = some (xI r, sc)) (e2 : f_X5_takeName 7 q 1 6 (nI g0) sc = some (nI 0, s1)) (kx : Int32 → fSt → Option (Int32 × fSt)) (F : Nat) : f_X7_readRoles_L8 q kx (F + 1) (nI mk) (nI 0) sc = some (mI, s1) := by
  have h1 := h.1
  conv => lhs; unfold f_X7_readRoles_L8
  simp (disch := omega) only [↓fLt_e, fBd_s, ↓fJn_s, fNn_s, fNu_0, fNu_s, fBo_0, fBo_1, fBo_b, i_lit, i_neg1, nI_add, pk_mul, nI_clamp, i_le, i_lt, i_eq, fIx_n, nI_mI, mI_nI, mI_lt, nI_lt_m, mI_le, nI_le_m, xI_0, xI_s, bI_0, bI_1, bI_t, bI_f, n_31, j_bit, j_one, i_and, i_or, Nat.not_lt_zero, Nat.succ_ne_zero, Nat.add_one_ne_zero, Nat.add_one_sub_one, Nat.zero_le, Nat.or_zero, Nat.zero_or, Bool.not_true, Bool.not_false, Bool.true_and, Bool.false_and, Bool.and_true, Bool.and_false, ↓reduceIte, if_true, if_false, not_true_eq_false, not_false_eq_true, true_and, and_true, false_and, and_false, and_self, true_or, or_true, false_or, or_false, Nat.reduceEqDiff, Nat.reduceLT, Nat.reduceLeDiff, Nat.reduceAdd, Nat.reduceMul, Nat.reduceSub, Nat.add_zero, Nat.zero_add, Nat.mul_zero, Nat.zero_mul, ne_eq, Bool.not_eq_true, Bool.not_eq_false, reduceCtorEq, decide_true, decide_false, decide_eq_true_eq, decide_eq_false_iff_not, Bool.false_eq_true, if_pos, if_neg, x0, hx, hso, h1, e2]
theorem rx_bad2 (x0 : gI sc 7 q 0 = nI g0) (hso : gI sc 5 0 6 = nI so) (h : t = 0 ∨ so = 32) (h64 : so < 64) (ht : t ≤ 6) (hx : f_X5_find 7 q 1 6 (nI g0) (gL sc 5 0 7) sc = some (mI, sc)) (e2 : f_X5_takeName 7 q 1 6 (nI g0) sc = some (nI 0, s1)) (kx : Int32 → fSt → Option (Int32 × fSt)) (F : Nat) : f_X7_readRoles_L8 q kx (F + 1) (nI mk) (nI t) sc = some (mI, s1) := by
  have ht6 : ¬ 6 < t := by omega
  conv => lhs; unfold f_X7_readRoles_L8
  rcases h with h | h
  · simp (disch := omega) only [↓fLt_e, fBd_s, ↓fJn_s, fNn_s, fNu_0, fNu_s, fBo_0, fBo_1, fBo_b, i_lit, i_neg1, nI_add, pk_mul, nI_clamp, i_le, i_lt, i_eq, fIx_n, nI_mI, mI_nI, mI_lt, nI_lt_m, mI_le, nI_le_m, xI_0, xI_s, bI_0, bI_1, bI_t, bI_f, n_31, j_bit, j_one, i_and, i_or, Nat.not_lt_zero, Nat.succ_ne_zero, Nat.add_one_ne_zero, Nat.add_one_sub_one, Nat.zero_le, Nat.or_zero, Nat.zero_or, Bool.not_true, Bool.not_false, Bool.true_and, Bool.false_and, Bool.and_true, Bool.and_false, ↓reduceIte, if_true, if_false, not_true_eq_false, not_false_eq_true, true_and, and_true, false_and, and_false, and_self, true_or, or_true, false_or, or_false, Nat.reduceEqDiff, Nat.reduceLT, Nat.reduceLeDiff, Nat.reduceAdd, Nat.reduceMul, Nat.reduceSub, Nat.add_zero, Nat.zero_add, Nat.mul_zero, Nat.zero_mul, ne_eq, Bool.not_eq_true, Bool.not_eq_false, reduceCtorEq, decide_true, decide_false, decide_eq_true_eq, decide_eq_false_iff_not, Bool.false_eq_true, if_pos, if_neg, x0, hx, h, e2, ite_self]
  · simp (disch := omega) only [↓fLt_e, fBd_s, ↓fJn_s, fNn_s, fNu_0, fNu_s, fBo_0, fBo_1, fBo_b, i_lit, i_neg1, nI_add, pk_mul, nI_clamp, i_le, i_lt, i_eq, fIx_n, nI_mI, mI_nI, mI_lt, nI_lt_m, mI_le, nI_le_m, xI_0, xI_s, bI_0, bI_1, bI_t, bI_f, n_31, j_bit, j_one, i_and, i_or, Nat.not_lt_zero, Nat.succ_ne_zero, Nat.add_one_ne_zero, Nat.add_one_sub_one, Nat.zero_le, Nat.or_zero, Nat.zero_or, Bool.not_true, Bool.not_false, Bool.true_and, Bool.false_and, Bool.and_true, Bool.and_false, ↓reduceIte, if_true, if_false, not_true_eq_false, not_false_eq_true, true_and, and_true, false_and, and_false, and_self, true_or, or_true, false_or, or_false, Nat.reduceEqDiff, Nat.reduceLT, Nat.reduceLeDiff, Nat.reduceAdd, Nat.reduceMul, Nat.reduceSub, Nat.add_zero, Nat.zero_add, Nat.mul_zero, Nat.zero_mul, ne_eq, Bool.not_eq_true, Bool.not_eq_false, reduceCtorEq, decide_true, decide_false, decide_eq_true_eq, decide_eq_false_iff_not, Bool.false_eq_true, if_pos, if_neg, x0, hx, hso, h, ht6, e2, ite_self]
end
section
variable {n : Nat} {c : Nat → Nat}
theorem ps_33 {sc sm : fSt} {a p so : Nat} (P : psR sc sm n c a p so) (h : so = 33) : gI sm 12 0 14 = nI 1 ∧ ∃ L, (8 < L ∧ L ≤ 900) ∧ gI sm 12 0 18 = nI L := by
  rcases P.2.1 with ⟨h, -⟩ | ⟨h, -⟩ | ⟨h, -⟩ | ⟨h, -⟩ | ⟨h, h2, h3, ⟨L, l1, l2, l3⟩, -⟩ | ⟨h, -⟩
  · omega
  · omega
  · omega
  · omega
  · exact ⟨h3, L, ⟨l1, l2⟩, l3⟩
  · omega
theorem ps_n33 {sc sm : fSt} {a p so : Nat} (P : psR sc sm n c a p so) (h : ¬ so = 33) : ¬ gI sm 12 0 14 = nI 1 ∨ ∃ L, L ≤ 8 ∧ gI sm 12 0 18 = nI L := by
  rcases P.2.1 with ⟨h, h2, h3⟩ | ⟨h, h2, h3⟩ | ⟨h, h2, h3, -⟩ | ⟨h, h2, h3, -⟩ | ⟨h, -⟩ | ⟨h, h2, h3, ⟨L, l1, l2⟩, -⟩
  · exact Or.inl (by rw [h3, i_eq _ _ (by omega) (by omega)]; omega)
  · exact Or.inl (by rw [h3, i_eq _ _ (by omega) (by omega)]; omega)
  · exact Or.inl (by rw [h3, i_eq _ _ (by omega) (by omega)]; omega)
  · exact Or.inl (by rw [h3, i_eq _ _ (by omega) (by omega)]; omega)
  · omega
  · exact Or.inr ⟨L, l1, l2⟩
/-- the reference can't take a long word as a name -/
theorem told_33 {sc sm : fSt} {a p so : Nat} (P : psR sc sm n c a p so) (h : so = 33) (b o m : Int32) : ∃ sm', f_X12_readTold b o m sm = some (nI 0, sm') ∧ yFr sm sm' ∧ gI sm' 12 0 12 = nI 2 ∧ hfR sc sm' a := by
  obtain ⟨s2, t2, w1, w2, F, f2, g2⟩ := ps_wrong P
  have hso := ps_so P
  have hn := ps_name P
  have hb := P.2.2.2.1
  rw [decide_eq_false (by omega)] at hn
  rw [if_neg (by omega)] at F
  have hf := F.2.2.2.1
  have hmu := m_must_no (sm := t2) ⟨F.1, F.2.1⟩ hf (nI 1)
  refine ⟨t2, ?_, g2, hf, F.2.2.1, by rw [hso, h], P.2.2.1.1, hf, F.2.2.2.2.1⟩
  unfold f_X12_readTold
  simp (disch := omega) only [↓fLt_e, fBd_s, ↓fJn_s, fNn_s, fNu_0, fNu_s, fBo_0, fBo_1, fBo_b, i_lit, i_neg1, nI_add, pk_mul, nI_clamp, i_le, i_lt, i_eq, fIx_n, nI_mI, mI_nI, mI_lt, nI_lt_m, mI_le, nI_le_m, xI_0, xI_s, bI_0, bI_1, bI_t, bI_f, n_31, j_bit, j_one, i_and, i_or, Nat.not_lt_zero, Nat.succ_ne_zero, Nat.add_one_ne_zero, Nat.add_one_sub_one, Nat.zero_le, Nat.or_zero, Nat.zero_or, Bool.not_true, Bool.not_false, Bool.true_and, Bool.false_and, Bool.and_true, Bool.and_false, ↓reduceIte, if_true, if_false, not_true_eq_false, not_false_eq_true, true_and, and_true, false_and, and_false, and_self, true_or, or_true, false_or, or_false, Nat.reduceEqDiff, Nat.reduceLT, Nat.reduceLeDiff, Nat.reduceAdd, Nat.reduceMul, Nat.reduceSub, Nat.add_zero, Nat.zero_add, Nat.mul_zero, Nat.zero_mul, ne_eq, Bool.not_eq_true, Bool.not_eq_false, reduceCtorEq, decide_true, decide_false, decide_eq_true_eq, decide_eq_false_iff_not, Bool.false_eq_true, if_pos, if_neg, hb, hn, w2, hf, hmu]
theorem ps_rolesL {q : Nat} {G : Nat → Nat} : ∀ d t mk (sc sm : fSt) a p so Fx Fm, t + d = 7 → psR sc sm n c a p so → nmR sc sm q G → mk < 2 ^ G 0 → pc6 mk = t → (t = 0 ∨ so = 32) → d + 2 < Fx → d + 4 < Fm → rlO n c q G sc sm p mk t Fx Fm := by
  intro d
  induction d with
  | zero =>
    intro t mk sc sm a p so Fx Fm ht P N hm hp hs hFx hFm
    have := pc6_le mk
    omega
  | succ d ih =>
    intro t mk sc sm a p so Fx Fm ht P N hm hp hs hFx hFm
    obtain ⟨Fx, rfl⟩ : ∃ F', Fx = F' + 1 := ⟨Fx - 1, by omega⟩
    obtain ⟨Fm, rfl⟩ : ∃ F', Fm = F' + 3 := ⟨Fm - 3, by omega⟩
    have hb := P.2.2.2.1
    have hso := ps_so P
    have h64 := tok_35 P.2.1
    have hpq := P.2.2.1.2.2.2.2
    obtain ⟨⟨b0, -⟩, ⟨x0, -⟩, ⟨y0, -⟩, n0, -⟩ := id N
    have hmk := p6_31 hm b0
    obtain ⟨s1, t1, r, e1, f1, g1, h⟩ := ps_told3 P (b := 4) (o := 0) (m := G 0) (ci := 7) (ii := q) (ji := 1) (ni := 6) (by omega) (fun k hk => (n0 k hk).trans (congrArg (gB sm 12 0 7) (by omega)))
    have ht6 : t ≤ 6 := by omega
    rcases h with ⟨v, hv, h32, pk, rfl, e2, e9, a1, p1, o1, P1, m1, m2⟩ | ⟨pk, e2, k, F⟩
    · have hb1 := P1.2.2.2.1
      have hn1 := ps_name P1
      have hpq1 := P1.2.2.1.2.2.2.2
      have hso2 : gI sc 5 0 6 = nI 32 := by rw [hso, h32]
      have hv6 : v < 6 := by omega
      by_cases hbit : mk.testBit v = true
      · refine ⟨sI (sI sc 5 0 10 (nI 5)) 5 0 11 (gI sc 5 0 4), sI (sI t1 12 0 12 (nI 5)) 12 0 13 (nI a), xFr_I (by omega) (xFr_I (by omega) (xFr_rf _)), yFr_tr g1 (yFr_I (by omega) (yFr_I (by omega) (yFr_rf _))), Or.inr (Or.inl ⟨mk, 5, a, ?_, fun kx km => ⟨rx_dbl x0 hso2 pk ht6 hv6 hmk hbit kx Fx, rl_dbl hb y0 P.2.2.1.2.2.1 e1 hb1 hv6 hmk hbit km (Fm + 1)⟩⟩)⟩
        have hT := P.1.1
        obtain ⟨q1, -⟩ := P.2.2.1
        refine ⟨by omega, by omega, by omega, ?_, ?_, ?_, ?_⟩
        · simp (disch := omega) only [gI_sI, gL_sL, gA_sA, gB_sB, gP_sP, gI_sL, gI_sA, gI_sB, gI_sP, gL_sI, gL_sA, gL_sB, gL_sP, gA_sI, gA_sL, gA_sB, gA_sP, gB_sI, gB_sL, gB_sA, gB_sP, gP_sI, gP_sL, gP_sA, gP_sB, fLt_e, fBd_s, fJn_s, fNn_s, fNu_0, fNu_s, fBo_0, fBo_1, fBo_b, i_lit, i_neg1, nI_add, pk_mul, nI_clamp, i_le, i_lt, i_eq, fIx_n, nI_mI, mI_nI, mI_lt, nI_lt_m, mI_le, nI_le_m, xI_0, xI_s, bI_0, bI_1, bI_t, bI_f, n_31, j_bit, j_one, i_and, i_or, Nat.not_lt_zero, Nat.succ_ne_zero, Nat.add_one_ne_zero, Nat.add_one_sub_one, Nat.zero_le, Nat.or_zero, Nat.zero_or, Bool.not_true, Bool.not_false, Bool.true_and, Bool.false_and, Bool.and_true, Bool.and_false, ↓reduceIte, if_true, if_false, not_true_eq_false, not_false_eq_true, true_and, and_true, false_and, and_false, and_self, true_or, or_true, false_or, or_false, Nat.reduceEqDiff, Nat.reduceLT, Nat.reduceLeDiff, Nat.reduceAdd, Nat.reduceMul, Nat.reduceSub, Nat.add_zero, Nat.zero_add, Nat.mul_zero, Nat.zero_mul, ne_eq, Bool.not_eq_true, Bool.not_eq_false, reduceCtorEq, decide_true, decide_false, decide_eq_true_eq, decide_eq_false_iff_not, Bool.false_eq_true, if_pos, if_neg]
        · simp (disch := omega) only [gI_sI, gL_sL, gA_sA, gB_sB, gP_sP, gI_sL, gI_sA, gI_sB, gI_sP, gL_sI, gL_sA, gL_sB, gL_sP, gA_sI, gA_sL, gA_sB, gA_sP, gB_sI, gB_sL, gB_sA, gB_sP, gP_sI, gP_sL, gP_sA, gP_sB, fLt_e, fBd_s, fJn_s, fNn_s, fNu_0, fNu_s, fBo_0, fBo_1, fBo_b, i_lit, i_neg1, nI_add, pk_mul, nI_clamp, i_le, i_lt, i_eq, fIx_n, nI_mI, mI_nI, mI_lt, nI_lt_m, mI_le, nI_le_m, xI_0, xI_s, bI_0, bI_1, bI_t, bI_f, n_31, j_bit, j_one, i_and, i_or, Nat.not_lt_zero, Nat.succ_ne_zero, Nat.add_one_ne_zero, Nat.add_one_sub_one, Nat.zero_le, Nat.or_zero, Nat.zero_or, Bool.not_true, Bool.not_false, Bool.true_and, Bool.false_and, Bool.and_true, Bool.and_false, ↓reduceIte, if_true, if_false, not_true_eq_false, not_false_eq_true, true_and, and_true, false_and, and_false, and_self, true_or, or_true, false_or, or_false, Nat.reduceEqDiff, Nat.reduceLT, Nat.reduceLeDiff, Nat.reduceAdd, Nat.reduceMul, Nat.reduceSub, Nat.add_zero, Nat.zero_add, Nat.mul_zero, Nat.zero_mul, ne_eq, Bool.not_eq_true, Bool.not_eq_false, reduceCtorEq, decide_true, decide_false, decide_eq_true_eq, decide_eq_false_iff_not, Bool.false_eq_true, if_pos, if_neg]
        · simp (disch := omega) only [gI_sI, gL_sL, gA_sA, gB_sB, gP_sP, gI_sL, gI_sA, gI_sB, gI_sP, gL_sI, gL_sA, gL_sB, gL_sP, gA_sI, gA_sL, gA_sB, gA_sP, gB_sI, gB_sL, gB_sA, gB_sP, gP_sI, gP_sL, gP_sA, gP_sB, fLt_e, fBd_s, fJn_s, fNn_s, fNu_0, fNu_s, fBo_0, fBo_1, fBo_b, i_lit, i_neg1, nI_add, pk_mul, nI_clamp, i_le, i_lt, i_eq, fIx_n, nI_mI, mI_nI, mI_lt, nI_lt_m, mI_le, nI_le_m, xI_0, xI_s, bI_0, bI_1, bI_t, bI_f, n_31, j_bit, j_one, i_and, i_or, Nat.not_lt_zero, Nat.succ_ne_zero, Nat.add_one_ne_zero, Nat.add_one_sub_one, Nat.zero_le, Nat.or_zero, Nat.zero_or, Bool.not_true, Bool.not_false, Bool.true_and, Bool.false_and, Bool.and_true, Bool.and_false, ↓reduceIte, if_true, if_false, not_true_eq_false, not_false_eq_true, true_and, and_true, false_and, and_false, and_self, true_or, or_true, false_or, or_false, Nat.reduceEqDiff, Nat.reduceLT, Nat.reduceLeDiff, Nat.reduceAdd, Nat.reduceMul, Nat.reduceSub, Nat.add_zero, Nat.zero_add, Nat.mul_zero, Nat.zero_mul, ne_eq, Bool.not_eq_true, Bool.not_eq_false, reduceCtorEq, decide_true, decide_false, decide_eq_true_eq, decide_eq_false_iff_not, Bool.false_eq_true, if_pos, if_neg]
        · simp (disch := omega) only [gI_sI, gL_sL, gA_sA, gB_sB, gP_sP, gI_sL, gI_sA, gI_sB, gI_sP, gL_sI, gL_sA, gL_sB, gL_sP, gA_sI, gA_sL, gA_sB, gA_sP, gB_sI, gB_sL, gB_sA, gB_sP, gP_sI, gP_sL, gP_sA, gP_sB, fLt_e, fBd_s, fJn_s, fNn_s, fNu_0, fNu_s, fBo_0, fBo_1, fBo_b, i_lit, i_neg1, nI_add, pk_mul, nI_clamp, i_le, i_lt, i_eq, fIx_n, nI_mI, mI_nI, mI_lt, nI_lt_m, mI_le, nI_le_m, xI_0, xI_s, bI_0, bI_1, bI_t, bI_f, n_31, j_bit, j_one, i_and, i_or, Nat.not_lt_zero, Nat.succ_ne_zero, Nat.add_one_ne_zero, Nat.add_one_sub_one, Nat.zero_le, Nat.or_zero, Nat.zero_or, Bool.not_true, Bool.not_false, Bool.true_and, Bool.false_and, Bool.and_true, Bool.and_false, ↓reduceIte, if_true, if_false, not_true_eq_false, not_false_eq_true, true_and, and_true, false_and, and_false, and_self, true_or, or_true, false_or, or_false, Nat.reduceEqDiff, Nat.reduceLT, Nat.reduceLeDiff, Nat.reduceAdd, Nat.reduceMul, Nat.reduceSub, Nat.add_zero, Nat.zero_add, Nat.mul_zero, Nat.zero_mul, ne_eq, Bool.not_eq_true, Bool.not_eq_false, reduceCtorEq, decide_true, decide_false, decide_eq_true_eq, decide_eq_false_iff_not, Bool.false_eq_true, if_pos, if_neg, q1]
      · have hbit' : mk.testBit v = false := by simpa using hbit
        have N1 := nmR_fr N f1 g1
        have hm1 := or_pow hm hv
        have hp1 : pc6 (mk ||| 2 ^ v) = t + 1 := by rw [pc6_or mk v (by omega) hbit', hp]
        have hle := pc6_le (mk ||| 2 ^ v)
        have hX := fun kx => rx_g x0 hso2 pk e2 ht6 hv6 hmk hbit' kx Fx
        by_cases ho : o1 = 32
        · rw [decide_eq_true ho] at hn1
          have hM := fun km => rl_g1 hb y0 e1 hb1 hv6 hmk hbit' hn1 km (Fm + 2)
          obtain ⟨s2, t2, f2, g2, h⟩ := ih (t + 1) (mk ||| 2 ^ v) s1 t1 a1 p1 o1 Fx (Fm + 2) (by omega) P1 N1 hm1 hp1 (Or.inr ho) (by omega) (by omega)
          refine ⟨s2, t2, xFr_tr f1 f2, yFr_tr g1 g2, ?_⟩
          rcases h with ⟨mk', a', p', o', u1, u2, u3, u4⟩ | ⟨r, d', e', u1, u2⟩ | ⟨mk', a', u1, u2, u3⟩
          · refine Or.inl ⟨mk', a', p', o', u1, u2, ⟨by omega, fun h => ?_⟩, fun kx km => ⟨(hX kx).trans (u4 kx km).1, (hM km).trans (u4 kx km).2⟩⟩
            have := u3.2 h
            omega
          · exact Or.inr (Or.inl ⟨r, d', e', u1, fun kx km => ⟨(hX kx).trans (u2 kx km).1, (hM km).trans (u2 kx km).2⟩⟩)
          · exact Or.inr (Or.inr ⟨mk', a', u1, u2, fun kx km => ⟨(hX kx).trans (u3 kx km).1, (hM km).trans (u3 kx km).2⟩⟩)
        · obtain ⟨Fx, rfl⟩ : ∃ F', Fx = F' + 1 := ⟨Fx - 1, by omega⟩
          have hso1 := ps_so P1
          have h641 := tok_35 P1.2.1
          rw [decide_eq_false ho] at hn1
          have hX2 := fun kx => (hX kx).trans (rx_stop hso1 ⟨ho, h641⟩ (t := t + 1) (by omega) kx Fx)
          by_cases h33 : o1 = 33
          · obtain ⟨B1, L, hL, B2⟩ := ps_33 P1 h33
            have hM := fun km => rl_g2 hb y0 e1 hb1 hv6 hmk hbit' hn1 B1 B2 hL km (Fm + 2)
            obtain ⟨t2, e3, g2, hf, H⟩ := told_33 P1 h33 (nI 4) (nI 0) (nI (G 0))
            exact ⟨s1, t2, f1, yFr_tr g1 g2, Or.inr (Or.inr ⟨mk ||| 2 ^ v, a1, hm1, H, fun kx km => ⟨hX2 kx, (hM km).trans (rl_fail (a := 0) (r := nI 0) (k := 2) (by omega) hf hb1 N1.2.2.1.1 e3 km Fm)⟩⟩)⟩
          · exact ⟨s1, t1, f1, g1, Or.inl ⟨mk ||| 2 ^ v, a1, p1, o1, hm1, P1, ⟨m1, m2⟩, fun kx km => ⟨hX2 kx, rl_g3 hb y0 e1 hb1 hv6 hmk hbit' hn1 (ps_n33 P1 h33) km (Fm + 1)⟩⟩⟩
    · refine ⟨s1, t1, f1, g1, Or.inr (Or.inl ⟨mk, k, a, F, fun kx km => ⟨?_, rl_fail (a := 0) ⟨F.1, F.2.1⟩ F.2.2.2.1 hb y0 e1 km (Fm + 1)⟩⟩)⟩
      rcases pk with ho | pk
      · have ht0 : t = 0 := by omega
        have hx := x_find (st := sc) (c := 7) (i := q) (j := 1) (n := 6) (m := G 0) (by omega) (gL sc 5 0 7)
        rw [ht0]
        exact rx_bad1 x0 hso ⟨ho, h64⟩ hx e2 kx Fx
      · exact rx_bad2 x0 hso hs h64 ht6 pk e2 kx Fx
end
