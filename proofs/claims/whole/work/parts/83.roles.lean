/-! layer 2: a list of roles on both sides -/
section
variable {n : Nat} {c : Nat → Nat}
theorem or_pow {mk v g : Nat} (h : mk < 2 ^ g) (hv : v < g) : mk ||| 2 ^ v < 2 ^ g := Nat.or_lt_two_pow h (Nat.pow_lt_pow_right (by omega) hv)
theorem p6_31 {mk g : Nat} (h : mk < 2 ^ g) (hg : g ≤ 6) : mk < 64 := Nat.lt_of_lt_of_le h (Nat.pow_le_pow_right (by omega) hg)
/-- after a fault the reference's loop ends -/
theorem rl_end {sm : fSt} {k : Nat} (hk : 1 ≤ k ∧ k ≤ 7) (h : gI sm 12 0 12 = nI k) (km : Int32 → fSt → Option (Int32 × fSt)) (F : Nat) (x y : Int32) : f_X12_readRoles_L8 km (F + 1) x y sm = km x sm := by
  have k0 : ¬ nI k = nI 0 := by rw [i_eq _ _ (by omega) (by omega)]; omega
  unfold f_X12_readRoles_L8
  simp only [i_lit, h, k0, not_false_eq_true, if_true]
  split <;> rfl
/-- a turn that fails: a name that isn't there -/
theorem rl_fail {sm sm' : fSt} {G : Nat → Nat} {k mk a : Nat} {r : Int32} (hk : 1 ≤ k ∧ k ≤ 7) (h : gI sm' 12 0 12 = nI k) (hb : gI sm 12 0 12 = nI 0) (y0 : gA sm 12 0 5 1720 = nI (G 0)) (e : f_X12_readTold (nI 4) (nI 0) (nI (G 0)) sm = some (r, sm')) (km : Int32 → fSt → Option (Int32 × fSt)) (F : Nat) : f_X12_readRoles_L8 km (F + 2) (nI mk) (nI 1) sm = km (nI mk) sm' := by
  have k0 : ¬ k = 0 := by omega
  obtain ⟨b, hn⟩ := an_name sm'
  have hz : mk ||| 0 = mk := Nat.or_zero mk
  rw [show F + 2 = (F + 1) + 1 from rfl]
  unfold f_X12_readRoles_L8
  simp (disch := omega) only [↓fLt_e, fBd_s, ↓fJn_s, fNn_s, fNu_0, fNu_s, fBo_0, fBo_1, fBo_b, i_lit, i_neg1, nI_add, pk_mul, nI_clamp, i_le, i_lt, i_eq, fIx_n, nI_mI, mI_nI, mI_lt, nI_lt_m, mI_le, nI_le_m, xI_0, xI_s, bI_0, bI_1, bI_t, bI_f, n_31, j_bit, j_one, i_and, i_or, Nat.not_lt_zero, Nat.succ_ne_zero, Nat.add_one_ne_zero, Nat.add_one_sub_one, Nat.zero_le, Nat.or_zero, Nat.zero_or, Bool.not_true, Bool.not_false, Bool.true_and, Bool.false_and, Bool.and_true, Bool.and_false, ↓reduceIte, if_true, if_false, not_true_eq_false, not_false_eq_true, true_and, and_true, false_and, and_false, and_self, true_or, or_true, false_or, or_false, Nat.reduceEqDiff, Nat.reduceLT, Nat.reduceLeDiff, Nat.reduceAdd, Nat.reduceMul, Nat.reduceSub, Nat.add_zero, Nat.zero_add, Nat.mul_zero, Nat.zero_mul, ne_eq, Bool.not_eq_true, Bool.not_eq_false, reduceCtorEq, decide_true, decide_false, decide_eq_true_eq, decide_eq_false_iff_not, Bool.false_eq_true, if_pos, if_neg, hb, y0, e, h, k0, hn, hz, rl_end hk h]
  cases b <;> simp (disch := omega) only [↓fLt_e, fBd_s, ↓fJn_s, fNn_s, fNu_0, fNu_s, fBo_0, fBo_1, fBo_b, i_lit, i_neg1, nI_add, pk_mul, nI_clamp, i_le, i_lt, i_eq, fIx_n, nI_mI, mI_nI, mI_lt, nI_lt_m, mI_le, nI_le_m, xI_0, xI_s, bI_0, bI_1, bI_t, bI_f, n_31, j_bit, j_one, i_and, i_or, Nat.not_lt_zero, Nat.succ_ne_zero, Nat.add_one_ne_zero, Nat.add_one_sub_one, Nat.zero_le, Nat.or_zero, Nat.zero_or, Bool.not_true, Bool.not_false, Bool.true_and, Bool.false_and, Bool.and_true, Bool.and_false, ↓reduceIte, if_true, if_false, not_true_eq_false, not_false_eq_true, true_and, and_true, false_and, and_false, and_self, true_or, or_true, false_or, or_false, Nat.reduceEqDiff, Nat.reduceLT, Nat.reduceLeDiff, Nat.reduceAdd, Nat.reduceMul, Nat.reduceSub, Nat.add_zero, Nat.zero_add, Nat.mul_zero, Nat.zero_mul, ne_eq, Bool.not_eq_true, Bool.not_eq_false, reduceCtorEq, decide_true, decide_false, decide_eq_true_eq, decide_eq_false_iff_not, Bool.false_eq_true, if_pos, if_neg]
  repeat' split
  all_goals rfl
end
