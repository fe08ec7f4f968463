/-! layer 2: fractions in lowest terms -/
theorem x_eu (k6 : Int64 → fSt → Option (Int64 × fSt)) (st : fSt) : ∀ k n a b c, b < 2 ^ k → a < 2 ^ 63 → k ≤ 63 → 2 * k + 1 ≤ n → c + 2 * k + 1 ≤ 200 → f_X11_commonDivisor_L9 k6 n (lN a) (lN b) (nI c) st = k6 (lN (Nat.gcd a b)) st := by
  intro k
  induction k with
  | zero =>
    intro n a b c hb ha _ hn hc
    obtain ⟨n, rfl⟩ : ∃ m, n = m + 1 := ⟨n - 1, by omega⟩
    have : b = 0 := by omega
    subst this
    rw [f_X11_commonDivisor_L9]
    simp only [lg_eq]
    simp (disch := omega) only [fLt_e, fBd_s, fJn_s, fNn_s, fNu_0, fNu_s, fBo_0, fBo_1, fBo_b, i_lit, i_neg1, nI_add, pk_mul, nI_clamp, i_le, i_lt, i_eq, fIx_n, nI_mI, mI_nI, mI_lt, nI_lt_m, mI_le, nI_le_m, xI_0, xI_s, bI_0, bI_1, bI_t, bI_f, n_31, j_bit, j_one, i_and, i_or, Nat.not_lt_zero, Nat.succ_ne_zero, Nat.add_one_ne_zero, Nat.add_one_sub_one, Nat.zero_le, Nat.or_zero, Nat.zero_or, Bool.not_true, Bool.not_false, Bool.true_and, Bool.false_and, Bool.and_true, Bool.and_false, ↓reduceIte, if_true, if_false, not_true_eq_false, not_false_eq_true, true_and, and_true, false_and, and_false, and_self, true_or, or_true, false_or, or_false, Nat.reduceEqDiff, Nat.reduceLT, Nat.reduceLeDiff, Nat.reduceAdd, Nat.reduceMul, Nat.reduceSub, Nat.add_zero, Nat.zero_add, Nat.mul_zero, Nat.zero_mul, ne_eq, Bool.not_eq_true, Bool.not_eq_false, reduceCtorEq, decide_true, decide_false, decide_eq_true_eq, decide_eq_false_iff_not, Bool.false_eq_true, if_pos, if_neg, l_lit, Nat.gcd_zero_right]
  | succ k ih =>
    intro n a b c hb ha hk hn hc
    obtain ⟨n, rfl⟩ : ∃ m, n = m + 1 + 1 := ⟨n - 2, by omega⟩
    have hb63 : b < 2 ^ 63 := Nat.lt_of_lt_of_le hb (Nat.pow_le_pow_right (by omega) hk)
    rw [f_X11_commonDivisor_L9]
    simp only [lg_eq]
    by_cases h0 : b = 0
    · subst h0
      simp (disch := omega) only [fLt_e, fBd_s, fJn_s, fNn_s, fNu_0, fNu_s, fBo_0, fBo_1, fBo_b, i_lit, i_neg1, nI_add, pk_mul, nI_clamp, i_le, i_lt, i_eq, fIx_n, nI_mI, mI_nI, mI_lt, nI_lt_m, mI_le, nI_le_m, xI_0, xI_s, bI_0, bI_1, bI_t, bI_f, n_31, j_bit, j_one, i_and, i_or, Nat.not_lt_zero, Nat.succ_ne_zero, Nat.add_one_ne_zero, Nat.add_one_sub_one, Nat.zero_le, Nat.or_zero, Nat.zero_or, Bool.not_true, Bool.not_false, Bool.true_and, Bool.false_and, Bool.and_true, Bool.and_false, ↓reduceIte, if_true, if_false, not_true_eq_false, not_false_eq_true, true_and, and_true, false_and, and_false, and_self, true_or, or_true, false_or, or_false, Nat.reduceEqDiff, Nat.reduceLT, Nat.reduceLeDiff, Nat.reduceAdd, Nat.reduceMul, Nat.reduceSub, Nat.add_zero, Nat.zero_add, Nat.mul_zero, Nat.zero_mul, ne_eq, Bool.not_eq_true, Bool.not_eq_false, reduceCtorEq, decide_true, decide_false, decide_eq_true_eq, decide_eq_false_iff_not, Bool.false_eq_true, if_pos, if_neg, l_lit, Nat.gcd_zero_right]
    · have hne : ¬ lN b = lN 0 := lN_ne0 (by omega) hb63
      have e1 := pk_lRem ha (show 0 < b by omega) hb63
      have hm := Nat.mod_lt a (show 0 < b by omega)
      have hg : Nat.gcd a b = Nat.gcd b (a % b) := by rw [Nat.gcd_comm, Nat.gcd_rec, Nat.gcd_comm]
      rw [hg]
      simp (disch := omega) only [fLt_e, fBd_s, fJn_s, fNn_s, fNu_0, fNu_s, fBo_0, fBo_1, fBo_b, i_lit, i_neg1, nI_add, pk_mul, nI_clamp, i_le, i_lt, i_eq, fIx_n, nI_mI, mI_nI, mI_lt, nI_lt_m, mI_le, nI_le_m, xI_0, xI_s, bI_0, bI_1, bI_t, bI_f, n_31, j_bit, j_one, i_and, i_or, Nat.not_lt_zero, Nat.succ_ne_zero, Nat.add_one_ne_zero, Nat.add_one_sub_one, Nat.zero_le, Nat.or_zero, Nat.zero_or, Bool.not_true, Bool.not_false, Bool.true_and, Bool.false_and, Bool.and_true, Bool.and_false, ↓reduceIte, if_true, if_false, not_true_eq_false, not_false_eq_true, true_and, and_true, false_and, and_false, and_self, true_or, or_true, false_or, or_false, Nat.reduceEqDiff, Nat.reduceLT, Nat.reduceLeDiff, Nat.reduceAdd, Nat.reduceMul, Nat.reduceSub, Nat.add_zero, Nat.zero_add, Nat.mul_zero, Nat.zero_mul, ne_eq, Bool.not_eq_true, Bool.not_eq_false, reduceCtorEq, decide_true, decide_false, decide_eq_true_eq, decide_eq_false_iff_not, Bool.false_eq_true, if_pos, if_neg, l_lit, hne, fNzl_n, e1]
      rw [f_X11_commonDivisor_L9]
      simp only [lg_eq]
      generalize a % b = d at *
      by_cases h1 : d = 0
      · subst h1
        simp (disch := omega) only [fLt_e, fBd_s, fJn_s, fNn_s, fNu_0, fNu_s, fBo_0, fBo_1, fBo_b, i_lit, i_neg1, nI_add, pk_mul, nI_clamp, i_le, i_lt, i_eq, fIx_n, nI_mI, mI_nI, mI_lt, nI_lt_m, mI_le, nI_le_m, xI_0, xI_s, bI_0, bI_1, bI_t, bI_f, n_31, j_bit, j_one, i_and, i_or, Nat.not_lt_zero, Nat.succ_ne_zero, Nat.add_one_ne_zero, Nat.add_one_sub_one, Nat.zero_le, Nat.or_zero, Nat.zero_or, Bool.not_true, Bool.not_false, Bool.true_and, Bool.false_and, Bool.and_true, Bool.and_false, ↓reduceIte, if_true, if_false, not_true_eq_false, not_false_eq_true, true_and, and_true, false_and, and_false, and_self, true_or, or_true, false_or, or_false, Nat.reduceEqDiff, Nat.reduceLT, Nat.reduceLeDiff, Nat.reduceAdd, Nat.reduceMul, Nat.reduceSub, Nat.add_zero, Nat.zero_add, Nat.mul_zero, Nat.zero_mul, ne_eq, Bool.not_eq_true, Bool.not_eq_false, reduceCtorEq, decide_true, decide_false, decide_eq_true_eq, decide_eq_false_iff_not, Bool.false_eq_true, if_pos, if_neg, l_lit, Nat.gcd_zero_right]
      · have hne : ¬ lN d = lN 0 := lN_ne0 (by omega) (by omega)
        have e1 := pk_lRem hb63 (show 0 < d by omega) (by omega)
        have hm2 := Nat.mod_lt b (show 0 < d by omega)
        have h2 : 2 * (b % d) < b := by
          have := Nat.div_add_mod b d
          have h3 : 1 ≤ b / d := Nat.div_pos (by omega) (by omega)
          have h4 : d * 1 ≤ d * (b / d) := Nat.mul_le_mul_left _ h3
          omega
        have hg : Nat.gcd b d = Nat.gcd d (b % d) := by rw [Nat.gcd_comm, Nat.gcd_rec, Nat.gcd_comm]
        rw [hg]
        simp (disch := omega) only [fLt_e, fBd_s, fJn_s, fNn_s, fNu_0, fNu_s, fBo_0, fBo_1, fBo_b, i_lit, i_neg1, nI_add, pk_mul, nI_clamp, i_le, i_lt, i_eq, fIx_n, nI_mI, mI_nI, mI_lt, nI_lt_m, mI_le, nI_le_m, xI_0, xI_s, bI_0, bI_1, bI_t, bI_f, n_31, j_bit, j_one, i_and, i_or, Nat.not_lt_zero, Nat.succ_ne_zero, Nat.add_one_ne_zero, Nat.add_one_sub_one, Nat.zero_le, Nat.or_zero, Nat.zero_or, Bool.not_true, Bool.not_false, Bool.true_and, Bool.false_and, Bool.and_true, Bool.and_false, ↓reduceIte, if_true, if_false, not_true_eq_false, not_false_eq_true, true_and, and_true, false_and, and_false, and_self, true_or, or_true, false_or, or_false, Nat.reduceEqDiff, Nat.reduceLT, Nat.reduceLeDiff, Nat.reduceAdd, Nat.reduceMul, Nat.reduceSub, Nat.add_zero, Nat.zero_add, Nat.mul_zero, Nat.zero_mul, ne_eq, Bool.not_eq_true, Bool.not_eq_false, reduceCtorEq, decide_true, decide_false, decide_eq_true_eq, decide_eq_false_iff_not, Bool.false_eq_true, if_pos, if_neg, l_lit, hne, fNzl_n, e1]
        exact ih n d (b % d) (c + 1 + 1) (by rw [Nat.pow_succ] at hb; omega) (by omega) (by omega) (by omega) (by omega)
theorem x_tell {a b : Nat} (ha : a < 2 ^ 63) (hb : b < 2 ^ 63) (h0 : 0 < b) (st : fSt) : f_X11_tellFraction (lN a) (lN b) st = some (nI 1, sI (sL (sL st 11 0 3 (lN (a / Nat.gcd a b))) 11 0 4 (lN (b / Nat.gcd a b))) 11 0 2 (nI 0)) := by
  have hg : 0 < Nat.gcd a b := Nat.gcd_pos_of_pos_right _ h0
  have hg2 : Nat.gcd a b ≤ b := Nat.gcd_le_right _ h0
  have e := x_eu (fun x4 s5 => some (x4, s5)) st 63 fF a b 0 (by omega) ha (by omega) (by have := fF_lt (n := 200) (by omega); omega) (by omega)
  have d1 : lN a / lN (Nat.gcd a b) = lN (a / Nat.gcd a b) := pk_lDiv ha hg (by omega)
  have d2 : lN b / lN (Nat.gcd a b) = lN (b / Nat.gcd a b) := pk_lDiv hb hg (by omega)
  have l0 : (0 : Int64) = lN 0 := rfl
  unfold f_X11_tellFraction f_X11_commonDivisor
  simp only [fLt_e, fJn_s, i_lit, e, fBd_s]
  generalize Nat.gcd a b = g at *
  have hpos : (0 : Int64).toInt < (lN g).toInt := by rw [l0, pk_lT (by omega), pk_lT (by omega)]; omega
  rw [if_pos (by rw [← i_lit, lg_gt]; exact hpos)]
  simp (disch := omega) only [fLt_e, fBd_s, fJn_s, fNn_s, fNu_0, fNu_s, fBo_0, fBo_1, fBo_b, i_lit, i_neg1, nI_add, pk_mul, nI_clamp, i_le, i_lt, i_eq, fIx_n, nI_mI, mI_nI, mI_lt, nI_lt_m, mI_le, nI_le_m, xI_0, xI_s, bI_0, bI_1, bI_t, bI_f, n_31, j_bit, j_one, i_and, i_or, Nat.not_lt_zero, Nat.succ_ne_zero, Nat.add_one_ne_zero, Nat.add_one_sub_one, Nat.zero_le, Nat.or_zero, Nat.zero_or, Bool.not_true, Bool.not_false, Bool.true_and, Bool.false_and, Bool.and_true, Bool.and_false, ↓reduceIte, if_true, if_false, not_true_eq_false, not_false_eq_true, true_and, and_true, false_and, and_false, and_self, true_or, or_true, false_or, or_false, Nat.reduceEqDiff, Nat.reduceLT, Nat.reduceLeDiff, Nat.reduceAdd, Nat.reduceMul, Nat.reduceSub, Nat.add_zero, Nat.zero_add, Nat.mul_zero, Nat.zero_mul, ne_eq, Bool.not_eq_true, Bool.not_eq_false, reduceCtorEq, decide_true, decide_false, decide_eq_true_eq, decide_eq_false_iff_not, Bool.false_eq_true, if_pos, if_neg, fNzl_n, d1, d2, f_X11_agree]
theorem m_eu (st : fSt) : ∀ k n a b, b < 2 ^ k → a < 2 ^ 63 → k ≤ 63 → 2 * k + 1 ≤ n → f_X12_common_L12 n (lN a) (lN b) st = some (lN (Nat.gcd a b), st) := by
  intro k
  induction k with
  | zero =>
    intro n a b hb ha _ hn
    obtain ⟨n, rfl⟩ : ∃ m, n = m + 1 := ⟨n - 1, by omega⟩
    have : b = 0 := by omega
    subst this
    rw [f_X12_common_L12]
    simp only [lg_eq]
    simp (disch := omega) only [fLt_e, fBd_s, fJn_s, fNn_s, fNu_0, fNu_s, fBo_0, fBo_1, fBo_b, i_lit, i_neg1, nI_add, pk_mul, nI_clamp, i_le, i_lt, i_eq, fIx_n, nI_mI, mI_nI, mI_lt, nI_lt_m, mI_le, nI_le_m, xI_0, xI_s, bI_0, bI_1, bI_t, bI_f, n_31, j_bit, j_one, i_and, i_or, Nat.not_lt_zero, Nat.succ_ne_zero, Nat.add_one_ne_zero, Nat.add_one_sub_one, Nat.zero_le, Nat.or_zero, Nat.zero_or, Bool.not_true, Bool.not_false, Bool.true_and, Bool.false_and, Bool.and_true, Bool.and_false, ↓reduceIte, if_true, if_false, not_true_eq_false, not_false_eq_true, true_and, and_true, false_and, and_false, and_self, true_or, or_true, false_or, or_false, Nat.reduceEqDiff, Nat.reduceLT, Nat.reduceLeDiff, Nat.reduceAdd, Nat.reduceMul, Nat.reduceSub, Nat.add_zero, Nat.zero_add, Nat.mul_zero, Nat.zero_mul, ne_eq, Bool.not_eq_true, Bool.not_eq_false, reduceCtorEq, decide_true, decide_false, decide_eq_true_eq, decide_eq_false_iff_not, Bool.false_eq_true, if_pos, if_neg, l_lit, Nat.gcd_zero_right]
  | succ k ih =>
    intro n a b hb ha hk hn
    obtain ⟨n, rfl⟩ : ∃ m, n = m + 1 + 1 := ⟨n - 2, by omega⟩
    have hb63 : b < 2 ^ 63 := Nat.lt_of_lt_of_le hb (Nat.pow_le_pow_right (by omega) hk)
    rw [f_X12_common_L12]
    simp only [lg_eq]
    by_cases h0 : b = 0
    · subst h0
      simp (disch := omega) only [fLt_e, fBd_s, fJn_s, fNn_s, fNu_0, fNu_s, fBo_0, fBo_1, fBo_b, i_lit, i_neg1, nI_add, pk_mul, nI_clamp, i_le, i_lt, i_eq, fIx_n, nI_mI, mI_nI, mI_lt, nI_lt_m, mI_le, nI_le_m, xI_0, xI_s, bI_0, bI_1, bI_t, bI_f, n_31, j_bit, j_one, i_and, i_or, Nat.not_lt_zero, Nat.succ_ne_zero, Nat.add_one_ne_zero, Nat.add_one_sub_one, Nat.zero_le, Nat.or_zero, Nat.zero_or, Bool.not_true, Bool.not_false, Bool.true_and, Bool.false_and, Bool.and_true, Bool.and_false, ↓reduceIte, if_true, if_false, not_true_eq_false, not_false_eq_true, true_and, and_true, false_and, and_false, and_self, true_or, or_true, false_or, or_false, Nat.reduceEqDiff, Nat.reduceLT, Nat.reduceLeDiff, Nat.reduceAdd, Nat.reduceMul, Nat.reduceSub, Nat.add_zero, Nat.zero_add, Nat.mul_zero, Nat.zero_mul, ne_eq, Bool.not_eq_true, Bool.not_eq_false, reduceCtorEq, decide_true, decide_false, decide_eq_true_eq, decide_eq_false_iff_not, Bool.false_eq_true, if_pos, if_neg, l_lit, Nat.gcd_zero_right]
    · have hne : ¬ lN b = lN 0 := lN_ne0 (by omega) hb63
      have e1 := pk_lRem ha (show 0 < b by omega) hb63
      have hm := Nat.mod_lt a (show 0 < b by omega)
      have hg : Nat.gcd a b = Nat.gcd b (a % b) := by rw [Nat.gcd_comm, Nat.gcd_rec, Nat.gcd_comm]
      rw [hg]
      simp (disch := omega) only [fLt_e, fBd_s, fJn_s, fNn_s, fNu_0, fNu_s, fBo_0, fBo_1, fBo_b, i_lit, i_neg1, nI_add, pk_mul, nI_clamp, i_le, i_lt, i_eq, fIx_n, nI_mI, mI_nI, mI_lt, nI_lt_m, mI_le, nI_le_m, xI_0, xI_s, bI_0, bI_1, bI_t, bI_f, n_31, j_bit, j_one, i_and, i_or, Nat.not_lt_zero, Nat.succ_ne_zero, Nat.add_one_ne_zero, Nat.add_one_sub_one, Nat.zero_le, Nat.or_zero, Nat.zero_or, Bool.not_true, Bool.not_false, Bool.true_and, Bool.false_and, Bool.and_true, Bool.and_false, ↓reduceIte, if_true, if_false, not_true_eq_false, not_false_eq_true, true_and, and_true, false_and, and_false, and_self, true_or, or_true, false_or, or_false, Nat.reduceEqDiff, Nat.reduceLT, Nat.reduceLeDiff, Nat.reduceAdd, Nat.reduceMul, Nat.reduceSub, Nat.add_zero, Nat.zero_add, Nat.mul_zero, Nat.zero_mul, ne_eq, Bool.not_eq_true, Bool.not_eq_false, reduceCtorEq, decide_true, decide_false, decide_eq_true_eq, decide_eq_false_iff_not, Bool.false_eq_true, if_pos, if_neg, l_lit, hne, fNzl_n, e1]
      rw [f_X12_common_L12]
      simp only [lg_eq]
      generalize a % b = d at *
      by_cases h1 : d = 0
      · subst h1
        simp (disch := omega) only [fLt_e, fBd_s, fJn_s, fNn_s, fNu_0, fNu_s, fBo_0, fBo_1, fBo_b, i_lit, i_neg1, nI_add, pk_mul, nI_clamp, i_le, i_lt, i_eq, fIx_n, nI_mI, mI_nI, mI_lt, nI_lt_m, mI_le, nI_le_m, xI_0, xI_s, bI_0, bI_1, bI_t, bI_f, n_31, j_bit, j_one, i_and, i_or, Nat.not_lt_zero, Nat.succ_ne_zero, Nat.add_one_ne_zero, Nat.add_one_sub_one, Nat.zero_le, Nat.or_zero, Nat.zero_or, Bool.not_true, Bool.not_false, Bool.true_and, Bool.false_and, Bool.and_true, Bool.and_false, ↓reduceIte, if_true, if_false, not_true_eq_false, not_false_eq_true, true_and, and_true, false_and, and_false, and_self, true_or, or_true, false_or, or_false, Nat.reduceEqDiff, Nat.reduceLT, Nat.reduceLeDiff, Nat.reduceAdd, Nat.reduceMul, Nat.reduceSub, Nat.add_zero, Nat.zero_add, Nat.mul_zero, Nat.zero_mul, ne_eq, Bool.not_eq_true, Bool.not_eq_false, reduceCtorEq, decide_true, decide_false, decide_eq_true_eq, decide_eq_false_iff_not, Bool.false_eq_true, if_pos, if_neg, l_lit, Nat.gcd_zero_right]
      · have hne : ¬ lN d = lN 0 := lN_ne0 (by omega) (by omega)
        have e1 := pk_lRem hb63 (show 0 < d by omega) (by omega)
        have hm2 := Nat.mod_lt b (show 0 < d by omega)
        have h2 : 2 * (b % d) < b := by
          have := Nat.div_add_mod b d
          have h3 : 1 ≤ b / d := Nat.div_pos (by omega) (by omega)
          have h4 : d * 1 ≤ d * (b / d) := Nat.mul_le_mul_left _ h3
          omega
        have hg : Nat.gcd b d = Nat.gcd d (b % d) := by rw [Nat.gcd_comm, Nat.gcd_rec, Nat.gcd_comm]
        rw [hg]
        simp (disch := omega) only [fLt_e, fBd_s, fJn_s, fNn_s, fNu_0, fNu_s, fBo_0, fBo_1, fBo_b, i_lit, i_neg1, nI_add, pk_mul, nI_clamp, i_le, i_lt, i_eq, fIx_n, nI_mI, mI_nI, mI_lt, nI_lt_m, mI_le, nI_le_m, xI_0, xI_s, bI_0, bI_1, bI_t, bI_f, n_31, j_bit, j_one, i_and, i_or, Nat.not_lt_zero, Nat.succ_ne_zero, Nat.add_one_ne_zero, Nat.add_one_sub_one, Nat.zero_le, Nat.or_zero, Nat.zero_or, Bool.not_true, Bool.not_false, Bool.true_and, Bool.false_and, Bool.and_true, Bool.and_false, ↓reduceIte, if_true, if_false, not_true_eq_false, not_false_eq_true, true_and, and_true, false_and, and_false, and_self, true_or, or_true, false_or, or_false, Nat.reduceEqDiff, Nat.reduceLT, Nat.reduceLeDiff, Nat.reduceAdd, Nat.reduceMul, Nat.reduceSub, Nat.add_zero, Nat.zero_add, Nat.mul_zero, Nat.zero_mul, ne_eq, Bool.not_eq_true, Bool.not_eq_false, reduceCtorEq, decide_true, decide_false, decide_eq_true_eq, decide_eq_false_iff_not, Bool.false_eq_true, if_pos, if_neg, l_lit, hne, fNzl_n, e1]
        exact ih n d (b % d) (by rw [Nat.pow_succ] at hb; omega) (by omega) (by omega) (by omega)
theorem lN_abs {a : Nat} (ha : a < 2 ^ 63) : (if 0 < lN a then lN a else -lN a) = lN a := by
  have l0 : (0 : Int64) = lN 0 := rfl
  by_cases h : a = 0
  · subst h; rfl
  · rw [l0, if_pos ((pk_lLT (by omega) ha).mpr (by omega))]
theorem m_frac {a b : Nat} (ha : a < 2 ^ 63) (hb : b < 2 ^ 63) (h0 : 0 < b) (st : fSt) : f_X12_fraction (lN a) (lN b) st = some (nI 1, sL (sL st 12 0 2 (lN (a / Nat.gcd a b))) 12 0 3 (lN (b / Nat.gcd a b))) := by
  have hg : 0 < Nat.gcd a b := Nat.gcd_pos_of_pos_right _ h0
  have hg2 : Nat.gcd a b ≤ b := Nat.gcd_le_right _ h0
  have e := m_eu st 63 fF a b (by omega) ha (by omega) (by have := fF_lt (n := 200) (by omega); omega)
  have d1 : lN a / lN (Nat.gcd a b) = lN (a / Nat.gcd a b) := pk_lDiv ha hg (by omega)
  have d2 : lN b / lN (Nat.gcd a b) = lN (b / Nat.gcd a b) := pk_lDiv hb hg (by omega)
  unfold f_X12_fraction f_X12_common
  rw [lN_abs ha, lN_abs hb]
  simp only [fLt_e, e, fBd_s]
  generalize Nat.gcd a b = g at *
  simp (disch := omega) only [fLt_e, fBd_s, fJn_s, fNn_s, fNu_0, fNu_s, fBo_0, fBo_1, fBo_b, i_lit, i_neg1, nI_add, pk_mul, nI_clamp, i_le, i_lt, i_eq, fIx_n, nI_mI, mI_nI, mI_lt, nI_lt_m, mI_le, nI_le_m, xI_0, xI_s, bI_0, bI_1, bI_t, bI_f, n_31, j_bit, j_one, i_and, i_or, Nat.not_lt_zero, Nat.succ_ne_zero, Nat.add_one_ne_zero, Nat.add_one_sub_one, Nat.zero_le, Nat.or_zero, Nat.zero_or, Bool.not_true, Bool.not_false, Bool.true_and, Bool.false_and, Bool.and_true, Bool.and_false, ↓reduceIte, if_true, if_false, not_true_eq_false, not_false_eq_true, true_and, and_true, false_and, and_false, and_self, true_or, or_true, false_or, or_false, Nat.reduceEqDiff, Nat.reduceLT, Nat.reduceLeDiff, Nat.reduceAdd, Nat.reduceMul, Nat.reduceSub, Nat.add_zero, Nat.zero_add, Nat.mul_zero, Nat.zero_mul, ne_eq, Bool.not_eq_true, Bool.not_eq_false, reduceCtorEq, decide_true, decide_false, decide_eq_true_eq, decide_eq_false_iff_not, Bool.false_eq_true, if_pos, if_neg, fNzl_n, d1, d2]
/-- the relation when only the longs change -/
theorem RX_L {sc sc' sm sm' : fSt} (x1 : gI sc' = gI sc) (x2 : gA sc' = gA sc) (x3 : gB sc' = gB sc) (x4 : gP sc' = gP sc) (m1 : gI sm' = gI sm) (m2 : gA sm' = gA sm) (m3 : gB sm' = gB sm) (hF : rF sc' sm') (H : RX sc sm) : RX sc' sm' := by
  obtain ⟨h2, h3, h4, h5, h6, h7, h8, h9, n, qq, GG, h10, h11, h12, h13⟩ := H
  refine ⟨hF, ?_, ?_, ?_, ?_, ?_, ?_, ?_, n, qq, GG, h10, ?_, ?_, fun k hk => ?_⟩
  · unfold rQ at *; rw [x1, m1]; exact h3
  · unfold rT at *; simp only [x1, x3, m2, m3]; exact h4
  · unfold rP at *; simp only [x1, x2, x3, m1, m2]; exact h5
  · unfold rS at *; simp only [x1, x2, m1, m2]; exact h6
  · unfold rC at *; simp only [x2, m1, m2]; exact h7
  · unfold rW at *; simp only [x1, m1, m2]; exact h8
  · unfold rO at *; rw [x3]; exact h9
  · rw [x1]; exact h11
  · rw [m1]; exact h12
  · obtain ⟨h1, h2, h3, h4, h5⟩ := h13 k hk
    refine ⟨h1, ?_, ?_, ?_, ?_⟩
    · unfold rHou rStg rBok at *
      simp only [x1, x2, x4]
      exact h2
    · simp only [m2]
      exact h3
    · unfold rNam at *
      simp only [x3, m3]
      exact h4
    · unfold rWk at *
      simp only [x1, x4]
      rcases h5 with h5 | ⟨a, w, m, b1, b2, b3, b4, b5⟩
      · exact Or.inl h5
      · exact Or.inr ⟨a, w, m, b1, b2, b3, b4, rBod_e (fun i k => by rw [x2]) _ _ _ _ _ _ b5⟩
/-- the same fraction told on both sides -/
theorem fin_fr {sc sm : fSt} (H : RX sc sm) (h : gI sm 12 0 0 = 0) (x y : Int64) : RR (sI (sL (sL sc 11 0 3 x) 11 0 4 y) 11 0 2 (nI 0)) (sL (sL sm 12 0 2 x) 12 0 3 y) := by
  have H2 : RX (sL (sL sc 11 0 3 x) 11 0 4 y) (sL (sL sm 12 0 2 x) 12 0 3 y) := RX_L (sc := sc) (sm := sm) rfl rfl rfl rfl rfl rfl rfl ⟨rfl, rfl⟩ H
  exact fin_0 H2 h
