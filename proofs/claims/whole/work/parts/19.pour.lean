/-! layer 2: pour, feed -/
theorem lg_le0 (x y : Int64) : (lg_cmp x y ≤ 0) = (x.toInt ≤ y.toInt) := by
  apply propext
  have h := lg_gt x y
  constructor
  · intro g
    have : ¬ (0 < lg_cmp x y) := Int32.not_lt.mpr g
    rw [h] at this
    omega
  · intro g
    apply Int32.not_lt.mp
    rw [h]
    omega
theorem x_hasPlaces {sc : fSt} {t ma : Nat} (h : gI sc 8 t 3 = nI ma) (hm : ma ≤ 60) (a b : Int32) : f_X8_hasPlaces t a b sc = some (bI (decide (0 ≤ a.toInt ∧ 0 ≤ b.toInt ∧ a.toInt + b.toInt ≤ ma)), sc) := by
  unfold f_X8_hasPlaces
  simp only [h, lg_gt, wd_add, Int32.toInt_toInt64]
  by_cases h1 : a.toInt < 0
  · rw [decide_eq_false (show ¬ (0 ≤ a.toInt ∧ 0 ≤ b.toInt ∧ a.toInt + b.toInt ≤ ma) by omega)]
    simp (disch := omega) only [fLt_e, fBd_s, fJn_s, fNn_s, fNu_0, fNu_s, fBo_0, fBo_1, fBo_b, i_lit, i_neg1, nI_add, pk_mul, nI_clamp, fIx_n, Int32.lt_iff_toInt_lt, Int32.le_iff_toInt_le, ← Int32.toInt_inj, nI_toInt, mI_toInt, xI_0, xI_s, bI_t, bI_f, Nat.not_lt_zero, Nat.succ_ne_zero, Nat.add_one_ne_zero, Nat.add_one_sub_one, Nat.zero_le, Nat.or_zero, Nat.zero_or, Bool.not_true, Bool.not_false, Bool.true_and, Bool.false_and, Bool.and_true, Bool.and_false, ↓reduceIte, if_true, if_false, not_true_eq_false, not_false_eq_true, true_and, and_true, false_and, and_false, and_self, true_or, or_true, false_or, or_false, Nat.reduceEqDiff, Nat.reduceLT, Nat.reduceLeDiff, Nat.reduceAdd, Nat.reduceMul, Nat.reduceSub, Nat.add_zero, Nat.zero_add, Nat.mul_zero, Nat.zero_mul, ne_eq, Bool.not_eq_true, Bool.not_eq_false, reduceCtorEq, decide_true, decide_false, decide_eq_true_eq, decide_eq_false_iff_not, Bool.false_eq_true, if_pos, if_neg]
  · by_cases h2 : b.toInt < 0
    · rw [decide_eq_false (show ¬ (0 ≤ a.toInt ∧ 0 ≤ b.toInt ∧ a.toInt + b.toInt ≤ ma) by omega)]
      simp (disch := omega) only [fLt_e, fBd_s, fJn_s, fNn_s, fNu_0, fNu_s, fBo_0, fBo_1, fBo_b, i_lit, i_neg1, nI_add, pk_mul, nI_clamp, fIx_n, Int32.lt_iff_toInt_lt, Int32.le_iff_toInt_le, ← Int32.toInt_inj, nI_toInt, mI_toInt, xI_0, xI_s, bI_t, bI_f, Nat.not_lt_zero, Nat.succ_ne_zero, Nat.add_one_ne_zero, Nat.add_one_sub_one, Nat.zero_le, Nat.or_zero, Nat.zero_or, Bool.not_true, Bool.not_false, Bool.true_and, Bool.false_and, Bool.and_true, Bool.and_false, ↓reduceIte, if_true, if_false, not_true_eq_false, not_false_eq_true, true_and, and_true, false_and, and_false, and_self, true_or, or_true, false_or, or_false, Nat.reduceEqDiff, Nat.reduceLT, Nat.reduceLeDiff, Nat.reduceAdd, Nat.reduceMul, Nat.reduceSub, Nat.add_zero, Nat.zero_add, Nat.mul_zero, Nat.zero_mul, ne_eq, Bool.not_eq_true, Bool.not_eq_false, reduceCtorEq, decide_true, decide_false, decide_eq_true_eq, decide_eq_false_iff_not, Bool.false_eq_true, if_pos, if_neg]
    · by_cases h3 : a.toInt + b.toInt ≤ ma
      · rw [decide_eq_true (show 0 ≤ a.toInt ∧ 0 ≤ b.toInt ∧ a.toInt + b.toInt ≤ ma by omega)]
        simp (disch := omega) only [fLt_e, fBd_s, fJn_s, fNn_s, fNu_0, fNu_s, fBo_0, fBo_1, fBo_b, i_lit, i_neg1, nI_add, pk_mul, nI_clamp, fIx_n, Int32.lt_iff_toInt_lt, Int32.le_iff_toInt_le, ← Int32.toInt_inj, nI_toInt, mI_toInt, xI_0, xI_s, bI_t, bI_f, Nat.not_lt_zero, Nat.succ_ne_zero, Nat.add_one_ne_zero, Nat.add_one_sub_one, Nat.zero_le, Nat.or_zero, Nat.zero_or, Bool.not_true, Bool.not_false, Bool.true_and, Bool.false_and, Bool.and_true, Bool.and_false, ↓reduceIte, if_true, if_false, not_true_eq_false, not_false_eq_true, true_and, and_true, false_and, and_false, and_self, true_or, or_true, false_or, or_false, Nat.reduceEqDiff, Nat.reduceLT, Nat.reduceLeDiff, Nat.reduceAdd, Nat.reduceMul, Nat.reduceSub, Nat.add_zero, Nat.zero_add, Nat.mul_zero, Nat.zero_mul, ne_eq, Bool.not_eq_true, Bool.not_eq_false, reduceCtorEq, decide_true, decide_false, decide_eq_true_eq, decide_eq_false_iff_not, Bool.false_eq_true, if_pos, if_neg]
      · rw [decide_eq_false (show ¬ (0 ≤ a.toInt ∧ 0 ≤ b.toInt ∧ a.toInt + b.toInt ≤ ma) by omega)]
        simp (disch := omega) only [fLt_e, fBd_s, fJn_s, fNn_s, fNu_0, fNu_s, fBo_0, fBo_1, fBo_b, i_lit, i_neg1, nI_add, pk_mul, nI_clamp, fIx_n, Int32.lt_iff_toInt_lt, Int32.le_iff_toInt_le, ← Int32.toInt_inj, nI_toInt, mI_toInt, xI_0, xI_s, bI_t, bI_f, Nat.not_lt_zero, Nat.succ_ne_zero, Nat.add_one_ne_zero, Nat.add_one_sub_one, Nat.zero_le, Nat.or_zero, Nat.zero_or, Bool.not_true, Bool.not_false, Bool.true_and, Bool.false_and, Bool.and_true, Bool.and_false, ↓reduceIte, if_true, if_false, not_true_eq_false, not_false_eq_true, true_and, and_true, false_and, and_false, and_self, true_or, or_true, false_or, or_false, Nat.reduceEqDiff, Nat.reduceLT, Nat.reduceLeDiff, Nat.reduceAdd, Nat.reduceMul, Nat.reduceSub, Nat.add_zero, Nat.zero_add, Nat.mul_zero, Nat.zero_mul, ne_eq, Bool.not_eq_true, Bool.not_eq_false, reduceCtorEq, decide_true, decide_false, decide_eq_true_eq, decide_eq_false_iff_not, Bool.false_eq_true, if_pos, if_neg]
theorem m_pour_L {t i u j n : Nat} (ht : t < 4) (hu : u < 4) (hi : i + n ≤ 60) (hj : j + n ≤ 60) (x : Int32) (hx : (x = nI 1 ∧ i < j) ∨ (x = nI 0 ∧ j ≤ i)) (st : fSt) :
    ∃ g, f_X12_pour_L158 (nI t) (nI i) (nI u) (nI j) (nI n) x fF (nI 0) st = some (nI 1, sB st 12 0 3 g) ∧ (∀ k, k < n → g (60 * u + j + k) = gB st 12 0 3 (60 * t + i + k)) ∧ ∀ p, (∀ k, k < n → p ≠ 60 * u + j + k) → g p = gB st 12 0 3 p := by
  rcases hx with ⟨rfl, hij⟩ | ⟨rfl, hij⟩
  · obtain ⟨⟨x, s⟩, m, ⟨hx, g, hs, h1, h2⟩, e⟩ := lp_ex (fun m (z : Int32 × fSt) => f_X12_pour_L158 (nI t) (nI i) (nI u) (nI j) (nI n) (nI 1) m z.1 z.2) (fun k z => z.1 = nI k ∧ ∃ g, z.2 = sB st 12 0 3 g ∧ (∀ l, l < n → n - k ≤ l → g (60 * u + j + l) = gB st 12 0 3 (60 * t + i + l)) ∧ ∀ p, (∀ l, l < n → n - k ≤ l → p ≠ 60 * u + j + l) → g p = gB st 12 0 3 p) n (fun k z hk hz => by
      obtain ⟨x, s⟩ := z
      obtain ⟨hx, g, hs, h1, h2⟩ := hz
      simp only at hx hs
      subst hx
      subst hs
      refine ⟨(nI (k + 1), sB st 12 0 3 (vp_updL g (60 * u + j + (n - 1 - k)) (g (60 * t + i + (n - 1 - k))))), ⟨rfl, _, rfl, fun l hl hl2 => ?_, fun p hp => ?_⟩, fun m => ?_⟩
      · rw [updL_at]
        by_cases hj2 : l = n - 1 - k
        · rw [hj2, if_pos rfl]
          exact h2 _ (fun l' h3 h4 => by omega)
        · rw [if_neg (by omega)]; exact h1 l hl (by omega)
      · rw [updL_at, if_neg (hp (n - 1 - k) (by omega) (by omega))]
        exact h2 p (fun l h3 h4 => hp l h3 (by omega))
      · simp only
        rw [f_X12_pour_L158]
        have e1 : nI n - nI 1 - nI k = nI (n - 1 - k) := by rw [pk_sub (by omega), pk_sub (by omega)]
        simp (disch := omega) only [fLt_e, fBd_s, fJn_s, fNn_s, fNu_0, fNu_s, fBo_0, fBo_1, fBo_b, i_lit, i_neg1, nI_add, pk_mul, nI_clamp, i_le, i_lt, i_eq, fIx_n, nI_mI, mI_nI, mI_lt, nI_lt_m, mI_le, nI_le_m, xI_0, xI_s, bI_0, bI_1, bI_t, bI_f, n_31, j_bit, j_one, i_and, i_or, Nat.not_lt_zero, Nat.succ_ne_zero, Nat.add_one_ne_zero, Nat.add_one_sub_one, Nat.zero_le, Nat.or_zero, Nat.zero_or, Bool.not_true, Bool.not_false, Bool.true_and, Bool.false_and, Bool.and_true, Bool.and_false, ↓reduceIte, if_true, if_false, not_true_eq_false, not_false_eq_true, true_and, and_true, false_and, and_false, and_self, true_or, or_true, false_or, or_false, Nat.reduceEqDiff, Nat.reduceLT, Nat.reduceLeDiff, Nat.reduceAdd, Nat.reduceMul, Nat.reduceSub, Nat.add_zero, Nat.zero_add, Nat.mul_zero, Nat.zero_mul, ne_eq, Bool.not_eq_true, Bool.not_eq_false, reduceCtorEq, decide_true, decide_false, decide_eq_true_eq, decide_eq_false_iff_not, Bool.false_eq_true, if_pos, if_neg, gB_same, sB_sB, e1]) (fF_lt (by omega)) (s := (nI 0, st)) ⟨rfl, gB st 12 0 3, (sB_self st 12 0 3).symm, fun l h1 h2 => by omega, fun p _ => rfl⟩
    simp only at hx hs e
    subst hx
    subst hs
    refine ⟨g, ?_, fun k hk => h1 k hk (by omega), fun p hp => h2 p (fun l h3 _ => hp l h3)⟩
    rw [e, f_X12_pour_L158]
    simp (disch := omega) only [fLt_e, fBd_s, fJn_s, fNn_s, fNu_0, fNu_s, fBo_0, fBo_1, fBo_b, i_lit, i_neg1, nI_add, pk_mul, nI_clamp, i_le, i_lt, i_eq, fIx_n, nI_mI, mI_nI, mI_lt, nI_lt_m, mI_le, nI_le_m, xI_0, xI_s, bI_0, bI_1, bI_t, bI_f, n_31, j_bit, j_one, i_and, i_or, Nat.not_lt_zero, Nat.succ_ne_zero, Nat.add_one_ne_zero, Nat.add_one_sub_one, Nat.zero_le, Nat.or_zero, Nat.zero_or, Bool.not_true, Bool.not_false, Bool.true_and, Bool.false_and, Bool.and_true, Bool.and_false, ↓reduceIte, if_true, if_false, not_true_eq_false, not_false_eq_true, true_and, and_true, false_and, and_false, and_self, true_or, or_true, false_or, or_false, Nat.reduceEqDiff, Nat.reduceLT, Nat.reduceLeDiff, Nat.reduceAdd, Nat.reduceMul, Nat.reduceSub, Nat.add_zero, Nat.zero_add, Nat.mul_zero, Nat.zero_mul, ne_eq, Bool.not_eq_true, Bool.not_eq_false, reduceCtorEq, decide_true, decide_false, decide_eq_true_eq, decide_eq_false_iff_not, Bool.false_eq_true, if_pos, if_neg]
  · obtain ⟨⟨x, s⟩, m, ⟨hx, g, hs, h1, h2⟩, e⟩ := lp_ex (fun m (z : Int32 × fSt) => f_X12_pour_L158 (nI t) (nI i) (nI u) (nI j) (nI n) (nI 0) m z.1 z.2) (fun k z => z.1 = nI k ∧ ∃ g, z.2 = sB st 12 0 3 g ∧ (∀ l, l < k → g (60 * u + j + l) = gB st 12 0 3 (60 * t + i + l)) ∧ ∀ p, (∀ l, l < k → p ≠ 60 * u + j + l) → g p = gB st 12 0 3 p) n (fun k z hk hz => by
      obtain ⟨x, s⟩ := z
      obtain ⟨hx, g, hs, h1, h2⟩ := hz
      simp only at hx hs
      subst hx
      subst hs
      refine ⟨(nI (k + 1), sB st 12 0 3 (vp_updL g (60 * u + j + k) (g (60 * t + i + k)))), ⟨rfl, _, rfl, fun l hl => ?_, fun p hp => ?_⟩, fun m => ?_⟩
      · rw [updL_at]
        by_cases hj2 : l = k
        · rw [hj2, if_pos rfl]
          exact h2 _ (fun l' h3 => by omega)
        · rw [if_neg (by omega)]; exact h1 l (by omega)
      · rw [updL_at, if_neg (hp k (by omega))]
        exact h2 p (fun l h3 => hp l (by omega))
      · simp only
        rw [f_X12_pour_L158]
        simp (disch := omega) only [fLt_e, fBd_s, fJn_s, fNn_s, fNu_0, fNu_s, fBo_0, fBo_1, fBo_b, i_lit, i_neg1, nI_add, pk_mul, nI_clamp, i_le, i_lt, i_eq, fIx_n, nI_mI, mI_nI, mI_lt, nI_lt_m, mI_le, nI_le_m, xI_0, xI_s, bI_0, bI_1, bI_t, bI_f, n_31, j_bit, j_one, i_and, i_or, Nat.not_lt_zero, Nat.succ_ne_zero, Nat.add_one_ne_zero, Nat.add_one_sub_one, Nat.zero_le, Nat.or_zero, Nat.zero_or, Bool.not_true, Bool.not_false, Bool.true_and, Bool.false_and, Bool.and_true, Bool.and_false, ↓reduceIte, if_true, if_false, not_true_eq_false, not_false_eq_true, true_and, and_true, false_and, and_false, and_self, true_or, or_true, false_or, or_false, Nat.reduceEqDiff, Nat.reduceLT, Nat.reduceLeDiff, Nat.reduceAdd, Nat.reduceMul, Nat.reduceSub, Nat.add_zero, Nat.zero_add, Nat.mul_zero, Nat.zero_mul, ne_eq, Bool.not_eq_true, Bool.not_eq_false, reduceCtorEq, decide_true, decide_false, decide_eq_true_eq, decide_eq_false_iff_not, Bool.false_eq_true, if_pos, if_neg, gB_same, sB_sB]) (fF_lt (by omega)) (s := (nI 0, st)) ⟨rfl, gB st 12 0 3, (sB_self st 12 0 3).symm, fun l h1 => by omega, fun p _ => rfl⟩
    simp only at hx hs e
    subst hx
    subst hs
    refine ⟨g, ?_, fun k hk => h1 k hk, fun p hp => h2 p hp⟩
    rw [e, f_X12_pour_L158]
    simp (disch := omega) only [fLt_e, fBd_s, fJn_s, fNn_s, fNu_0, fNu_s, fBo_0, fBo_1, fBo_b, i_lit, i_neg1, nI_add, pk_mul, nI_clamp, i_le, i_lt, i_eq, fIx_n, nI_mI, mI_nI, mI_lt, nI_lt_m, mI_le, nI_le_m, xI_0, xI_s, bI_0, bI_1, bI_t, bI_f, n_31, j_bit, j_one, i_and, i_or, Nat.not_lt_zero, Nat.succ_ne_zero, Nat.add_one_ne_zero, Nat.add_one_sub_one, Nat.zero_le, Nat.or_zero, Nat.zero_or, Bool.not_true, Bool.not_false, Bool.true_and, Bool.false_and, Bool.and_true, Bool.and_false, ↓reduceIte, if_true, if_false, not_true_eq_false, not_false_eq_true, true_and, and_true, false_and, and_false, and_self, true_or, or_true, false_or, or_false, Nat.reduceEqDiff, Nat.reduceLT, Nat.reduceLeDiff, Nat.reduceAdd, Nat.reduceMul, Nat.reduceSub, Nat.add_zero, Nat.zero_add, Nat.mul_zero, Nat.zero_mul, ne_eq, Bool.not_eq_true, Bool.not_eq_false, reduceCtorEq, decide_true, decide_false, decide_eq_true_eq, decide_eq_false_iff_not, Bool.false_eq_true, if_pos, if_neg]
theorem rT_at {sc sm : fSt} (hT : rT sc sm) {t : Nat} (ht : t < 4) (h : gI sc 8 t 1 ≠ nI 0) : ∃ so ma, so ≤ 3 ∧ ma ≤ 60 ∧ gI sc 8 t 1 = nI 1 ∧ gI sc 8 t 2 = nI so ∧ gA sm 12 0 1 t = nI so ∧ gI sc 8 t 3 = nI ma ∧ gA sm 12 0 2 t = nI ma ∧ ∀ k, k < ma → gB sc 8 t 1 k = gB sm 12 0 3 (60 * t + k) := by
  rcases hT t ht with ⟨c1, c2⟩ | ⟨c1, so, ma, c2, c3, c4, c5, c6, c7, c8⟩
  · exact absurd c1 h
  · exact ⟨so, ma, c2, c3, c1, c4, c5, c6, c7, c8⟩
theorem call_pour (a b c d e : Int32) : CALL (f_X11_pour a b c d e) (f_X12_pour a b c d e) := by
  intro sc sm ⟨hA, H⟩
  have H := pro_x H
  have z := pro_0 sm
  unfold f_X11_pour f_X12_pour
  simp only [fLt_e, pro_eq, lg_gt, lg_le0, wd_add, Int32.toInt_toInt64]
  generalize pro sm = s2 at *
  have hT := H.2.2.1
  rw [show (4 : Int32) = nI 4 from rfl, x_isBelow _ _ (by omega)]
  simp only [fBd_s, fJn_s]
  have F := fun v => fin_st H v
  by_cases ha : 0 ≤ a.toInt ∧ a.toInt < 4
  · obtain ⟨t, ht, rfl, -⟩ := nI_ofInt (n := 4) ha.1 (by omega)
    rw [inB_t.mpr (show 0 ≤ (nI t).toInt ∧ (nI t).toInt ≤ ((4 : Nat) : Int) - 1 by omega)]
    rw [x_isBelow _ _ (by omega)]
    by_cases hb : 0 ≤ c.toInt ∧ c.toInt < 4
    · obtain ⟨u, hu, rfl, -⟩ := nI_ofInt (n := 4) hb.1 (by omega)
      rw [inB_t.mpr (show 0 ≤ (nI u).toInt ∧ (nI u).toInt ≤ ((4 : Nat) : Int) - 1 by omega)]
      by_cases h1 : gI sc 8 t 1 = nI 0
      · have g1 : gA s2 12 0 2 t = mI := by
          rcases hT t ht with ⟨c1, c2⟩ | ⟨c1, -⟩
          · exact c2
          · rw [h1, i_eq 0 1 (by omega) (by omega)] at c1; omega
        simp (disch := omega) only [fLt_e, fBd_s, fJn_s, fNn_s, fNu_0, fNu_s, fBo_0, fBo_1, fBo_b, i_lit, i_neg1, nI_add, pk_mul, nI_clamp, i_le, i_lt, i_eq, fIx_n, nI_mI, mI_nI, mI_lt, nI_lt_m, mI_le, nI_le_m, xI_0, xI_s, bI_0, bI_1, bI_t, bI_f, n_31, j_bit, j_one, i_and, i_or, Nat.not_lt_zero, Nat.succ_ne_zero, Nat.add_one_ne_zero, Nat.add_one_sub_one, Nat.zero_le, Nat.or_zero, Nat.zero_or, Bool.not_true, Bool.not_false, Bool.true_and, Bool.false_and, Bool.and_true, Bool.and_false, ↓reduceIte, if_true, if_false, not_true_eq_false, not_false_eq_true, true_and, and_true, false_and, and_false, and_self, true_or, or_true, false_or, or_false, Nat.reduceEqDiff, Nat.reduceLT, Nat.reduceLeDiff, Nat.reduceAdd, Nat.reduceMul, Nat.reduceSub, Nat.add_zero, Nat.zero_add, Nat.mul_zero, Nat.zero_mul, ne_eq, Bool.not_eq_true, Bool.not_eq_false, reduceCtorEq, decide_true, decide_false, decide_eq_true_eq, decide_eq_false_iff_not, Bool.false_eq_true, if_pos, if_neg, h1, g1, f_X11_refuse, f_X12_no]
        exact ⟨_, _, _, rfl, rfl, F _⟩
      · obtain ⟨so, ma, c2, c3, c1, c4, c5, c6, c7, c8⟩ := rT_at hT ht h1
        by_cases h2 : gI sc 8 u 1 = nI 0
        · have g1 : gA s2 12 0 2 u = mI := by
            rcases hT u hu with ⟨d1, d2⟩ | ⟨d1, -⟩
            · exact d2
            · rw [h2, i_eq 0 1 (by omega) (by omega)] at d1; omega
          simp (disch := omega) only [fLt_e, fBd_s, fJn_s, fNn_s, fNu_0, fNu_s, fBo_0, fBo_1, fBo_b, i_lit, i_neg1, nI_add, pk_mul, nI_clamp, i_le, i_lt, i_eq, fIx_n, nI_mI, mI_nI, mI_lt, nI_lt_m, mI_le, nI_le_m, xI_0, xI_s, bI_0, bI_1, bI_t, bI_f, n_31, j_bit, j_one, i_and, i_or, Nat.not_lt_zero, Nat.succ_ne_zero, Nat.add_one_ne_zero, Nat.add_one_sub_one, Nat.zero_le, Nat.or_zero, Nat.zero_or, Bool.not_true, Bool.not_false, Bool.true_and, Bool.false_and, Bool.and_true, Bool.and_false, ↓reduceIte, if_true, if_false, not_true_eq_false, not_false_eq_true, true_and, and_true, false_and, and_false, and_self, true_or, or_true, false_or, or_false, Nat.reduceEqDiff, Nat.reduceLT, Nat.reduceLeDiff, Nat.reduceAdd, Nat.reduceMul, Nat.reduceSub, Nat.add_zero, Nat.zero_add, Nat.mul_zero, Nat.zero_mul, ne_eq, Bool.not_eq_true, Bool.not_eq_false, reduceCtorEq, decide_true, decide_false, decide_eq_true_eq, decide_eq_false_iff_not, Bool.false_eq_true, if_pos, if_neg, c1, h2, c7, g1, f_X11_refuse, f_X12_no]
          exact ⟨_, _, _, rfl, rfl, F _⟩
        · obtain ⟨so', ma', d2, d3, d1, d4, d5, d6, d7, d8⟩ := rT_at hT hu h2
          by_cases h3 : so = so'
          · subst h3
            by_cases h4 : 0 ≤ e.toInt
            · by_cases h5 : 0 ≤ b.toInt ∧ 0 ≤ d.toInt ∧ b.toInt + e.toInt ≤ ma ∧ d.toInt + e.toInt ≤ ma'
              · obtain ⟨n, hn, rfl, -⟩ := nI_ofInt (n := 61) h4 (by omega)
                obtain ⟨i, hi, rfl, -⟩ := nI_ofInt (n := 61) h5.1 (by omega)
                obtain ⟨j, hj, rfl, -⟩ := nI_ofInt (n := 61) h5.2.1 (by omega)
                rw [nI_toInt (by omega), nI_toInt (by omega), nI_toInt (by omega)] at h5
                have k1 := x_hasPlaces c6 c3 (nI i) (nI n)
                have k2 := x_hasPlaces d6 d3 (nI j) (nI n)
                rw [decide_eq_true (by rw [nI_toInt (by omega), nI_toInt (by omega)]; omega)] at k1 k2
                have hx : ∃ x : Int32, (if nI j ≤ nI i then nI 0 else nI 1) = x ∧ ((x = nI 1 ∧ i < j) ∨ (x = nI 0 ∧ j ≤ i)) := by
                  refine ⟨_, rfl, ?_⟩
                  by_cases hij : j ≤ i
                  · rw [if_pos (nI_le hij (by omega))]; exact Or.inr ⟨rfl, hij⟩
                  · rw [if_neg (nI_ge (by omega) (by omega))]; exact Or.inl ⟨rfl, by omega⟩
                obtain ⟨x, hx1, hx2⟩ := hx
                obtain ⟨g, e1, e2, e3⟩ := m_pour_L ht hu (show i + n ≤ 60 by omega) (show j + n ≤ 60 by omega) x hx2 s2
                have e1' : (if nI j ≤ nI i then f_X12_pour_L158 (nI t) (nI i) (nI u) (nI j) (nI n) (nI 0) fF (nI 0) s2 else f_X12_pour_L158 (nI t) (nI i) (nI u) (nI j) (nI n) (nI 1) fF (nI 0) s2) = some (nI 1, sB s2 12 0 3 g) := by
                  rw [← e1, ← hx1]
                  split <;> rfl
                have u1 : ¬ (ma : Int) < (i : Int) + n := by omega
                have u2 : (j : Int) + n ≤ (ma' : Int) := by omega
                simp (disch := omega) only [fLt_e, fBd_s, fJn_s, fNn_s, fNu_0, fNu_s, fBo_0, fBo_1, fBo_b, Nat.not_lt_zero, Nat.succ_ne_zero, Nat.add_one_ne_zero, Nat.add_one_sub_one, Nat.zero_le, Nat.or_zero, Nat.zero_or, Bool.not_true, Bool.not_false, Bool.true_and, Bool.false_and, Bool.and_true, Bool.and_false, ↓reduceIte, if_true, if_false, not_true_eq_false, not_false_eq_true, true_and, and_true, false_and, and_false, and_self, true_or, or_true, false_or, or_false, Nat.reduceEqDiff, Nat.reduceLT, Nat.reduceLeDiff, Nat.reduceAdd, Nat.reduceMul, Nat.reduceSub, Nat.add_zero, Nat.zero_add, Nat.mul_zero, Nat.zero_mul, ne_eq, Bool.not_eq_true, Bool.not_eq_false, reduceCtorEq, decide_true, decide_false, decide_eq_true_eq, decide_eq_false_iff_not, Bool.false_eq_true, i_lit, i_neg1, nI_clamp, fIx_n, bI_t, i_eq, nI_nlt, nI_pos, nI_pos', c1, d1, c7, d7, c4, d4, c5, d5, k1, k2, lg_gt, lg_le0, wd_add, nI_toInt, Int32.toInt_toInt64, u1, u2, if_pos, if_neg, nI_ge, fCp_n, f_X11_agree, i_lt, i_le] at e1' ⊢
                simp only [e1']
                refine ⟨_, _, _, rfl, rfl, fin_0 (up_row H hu _ _ (fun so2 ma2 _ _ q1 q2 hh k hk => ?_) (fun k hk => ?_)) z⟩
                · have hma : ma2 = ma' := by
                    rw [d6] at q1
                    exact ((nI_eq (by omega) (by omega)).mp q1).symm
                  subst hma
                  unfold va_cpy
                  by_cases hk2 : j ≤ k ∧ k < j + n
                  · rw [if_pos hk2, c8 _ (by omega)]
                    have := e2 (k - j) (by omega)
                    rw [show 60 * u + j + (k - j) = 60 * u + k by omega] at this
                    rw [this]
                    congr 1
                    omega
                  · rw [if_neg hk2, e3 _ (fun l hl => by omega)]
                    exact hh k hk
                · exact e3 _ (fun l hl => by omega)
              · have k1 := x_hasPlaces c6 c3 b e
                have k2 := x_hasPlaces d6 d3 d e
                by_cases h6 : 0 ≤ b.toInt ∧ 0 ≤ e.toInt ∧ b.toInt + e.toInt ≤ ma
                · rw [decide_eq_true h6] at k1
                  rw [decide_eq_false (by omega)] at k2
                  by_cases h7 : d.toInt < 0
                  · simp (disch := omega) only [fLt_e, fBd_s, fJn_s, fNn_s, fNu_0, fNu_s, fBo_0, fBo_1, fBo_b, i_lit, i_neg1, nI_add, pk_mul, nI_clamp, fIx_n, Int32.lt_iff_toInt_lt, Int32.le_iff_toInt_le, ← Int32.toInt_inj, nI_toInt, mI_toInt, xI_0, xI_s, bI_t, bI_f, Nat.not_lt_zero, Nat.succ_ne_zero, Nat.add_one_ne_zero, Nat.add_one_sub_one, Nat.zero_le, Nat.or_zero, Nat.zero_or, Bool.not_true, Bool.not_false, Bool.true_and, Bool.false_and, Bool.and_true, Bool.and_false, ↓reduceIte, if_true, if_false, not_true_eq_false, not_false_eq_true, true_and, and_true, false_and, and_false, and_self, true_or, or_true, false_or, or_false, Nat.reduceEqDiff, Nat.reduceLT, Nat.reduceLeDiff, Nat.reduceAdd, Nat.reduceMul, Nat.reduceSub, Nat.add_zero, Nat.zero_add, Nat.mul_zero, Nat.zero_mul, ne_eq, Bool.not_eq_true, Bool.not_eq_false, reduceCtorEq, decide_true, decide_false, decide_eq_true_eq, decide_eq_false_iff_not, Bool.false_eq_true, if_pos, if_neg, c1, d1, c7, d7, c4, d4, c5, d5, k1, k2, lg_gt, lg_le0, wd_add, Int32.toInt_toInt64, f_X11_refuse, f_X12_no]
                    exact ⟨_, _, _, rfl, rfl, F _⟩
                  · simp (disch := omega) only [fLt_e, fBd_s, fJn_s, fNn_s, fNu_0, fNu_s, fBo_0, fBo_1, fBo_b, i_lit, i_neg1, nI_add, pk_mul, nI_clamp, fIx_n, Int32.lt_iff_toInt_lt, Int32.le_iff_toInt_le, ← Int32.toInt_inj, nI_toInt, mI_toInt, xI_0, xI_s, bI_t, bI_f, Nat.not_lt_zero, Nat.succ_ne_zero, Nat.add_one_ne_zero, Nat.add_one_sub_one, Nat.zero_le, Nat.or_zero, Nat.zero_or, Bool.not_true, Bool.not_false, Bool.true_and, Bool.false_and, Bool.and_true, Bool.and_false, ↓reduceIte, if_true, if_false, not_true_eq_false, not_false_eq_true, true_and, and_true, false_and, and_false, and_self, true_or, or_true, false_or, or_false, Nat.reduceEqDiff, Nat.reduceLT, Nat.reduceLeDiff, Nat.reduceAdd, Nat.reduceMul, Nat.reduceSub, Nat.add_zero, Nat.zero_add, Nat.mul_zero, Nat.zero_mul, ne_eq, Bool.not_eq_true, Bool.not_eq_false, reduceCtorEq, decide_true, decide_false, decide_eq_true_eq, decide_eq_false_iff_not, Bool.false_eq_true, if_pos, if_neg, c1, d1, c7, d7, c4, d4, c5, d5, k1, k2, lg_gt, lg_le0, wd_add, Int32.toInt_toInt64, f_X11_refuse, f_X12_no]
                    exact ⟨_, _, _, rfl, rfl, F _⟩
                · rw [decide_eq_false h6] at k1
                  by_cases h7 : b.toInt < 0
                  · simp (disch := omega) only [fLt_e, fBd_s, fJn_s, fNn_s, fNu_0, fNu_s, fBo_0, fBo_1, fBo_b, i_lit, i_neg1, nI_add, pk_mul, nI_clamp, fIx_n, Int32.lt_iff_toInt_lt, Int32.le_iff_toInt_le, ← Int32.toInt_inj, nI_toInt, mI_toInt, xI_0, xI_s, bI_t, bI_f, Nat.not_lt_zero, Nat.succ_ne_zero, Nat.add_one_ne_zero, Nat.add_one_sub_one, Nat.zero_le, Nat.or_zero, Nat.zero_or, Bool.not_true, Bool.not_false, Bool.true_and, Bool.false_and, Bool.and_true, Bool.and_false, ↓reduceIte, if_true, if_false, not_true_eq_false, not_false_eq_true, true_and, and_true, false_and, and_false, and_self, true_or, or_true, false_or, or_false, Nat.reduceEqDiff, Nat.reduceLT, Nat.reduceLeDiff, Nat.reduceAdd, Nat.reduceMul, Nat.reduceSub, Nat.add_zero, Nat.zero_add, Nat.mul_zero, Nat.zero_mul, ne_eq, Bool.not_eq_true, Bool.not_eq_false, reduceCtorEq, decide_true, decide_false, decide_eq_true_eq, decide_eq_false_iff_not, Bool.false_eq_true, if_pos, if_neg, c1, d1, c7, d7, c4, d4, c5, d5, k1, k2, lg_gt, lg_le0, wd_add, Int32.toInt_toInt64, f_X11_refuse, f_X12_no]
                    exact ⟨_, _, _, rfl, rfl, F _⟩
                  · by_cases h8 : d.toInt < 0
                    · simp (disch := omega) only [fLt_e, fBd_s, fJn_s, fNn_s, fNu_0, fNu_s, fBo_0, fBo_1, fBo_b, i_lit, i_neg1, nI_add, pk_mul, nI_clamp, fIx_n, Int32.lt_iff_toInt_lt, Int32.le_iff_toInt_le, ← Int32.toInt_inj, nI_toInt, mI_toInt, xI_0, xI_s, bI_t, bI_f, Nat.not_lt_zero, Nat.succ_ne_zero, Nat.add_one_ne_zero, Nat.add_one_sub_one, Nat.zero_le, Nat.or_zero, Nat.zero_or, Bool.not_true, Bool.not_false, Bool.true_and, Bool.false_and, Bool.and_true, Bool.and_false, ↓reduceIte, if_true, if_false, not_true_eq_false, not_false_eq_true, true_and, and_true, false_and, and_false, and_self, true_or, or_true, false_or, or_false, Nat.reduceEqDiff, Nat.reduceLT, Nat.reduceLeDiff, Nat.reduceAdd, Nat.reduceMul, Nat.reduceSub, Nat.add_zero, Nat.zero_add, Nat.mul_zero, Nat.zero_mul, ne_eq, Bool.not_eq_true, Bool.not_eq_false, reduceCtorEq, decide_true, decide_false, decide_eq_true_eq, decide_eq_false_iff_not, Bool.false_eq_true, if_pos, if_neg, c1, d1, c7, d7, c4, d4, c5, d5, k1, k2, lg_gt, lg_le0, wd_add, Int32.toInt_toInt64, f_X11_refuse, f_X12_no]
                      exact ⟨_, _, _, rfl, rfl, F _⟩
                    · simp (disch := omega) only [fLt_e, fBd_s, fJn_s, fNn_s, fNu_0, fNu_s, fBo_0, fBo_1, fBo_b, i_lit, i_neg1, nI_add, pk_mul, nI_clamp, fIx_n, Int32.lt_iff_toInt_lt, Int32.le_iff_toInt_le, ← Int32.toInt_inj, nI_toInt, mI_toInt, xI_0, xI_s, bI_t, bI_f, Nat.not_lt_zero, Nat.succ_ne_zero, Nat.add_one_ne_zero, Nat.add_one_sub_one, Nat.zero_le, Nat.or_zero, Nat.zero_or, Bool.not_true, Bool.not_false, Bool.true_and, Bool.false_and, Bool.and_true, Bool.and_false, ↓reduceIte, if_true, if_false, not_true_eq_false, not_false_eq_true, true_and, and_true, false_and, and_false, and_self, true_or, or_true, false_or, or_false, Nat.reduceEqDiff, Nat.reduceLT, Nat.reduceLeDiff, Nat.reduceAdd, Nat.reduceMul, Nat.reduceSub, Nat.add_zero, Nat.zero_add, Nat.mul_zero, Nat.zero_mul, ne_eq, Bool.not_eq_true, Bool.not_eq_false, reduceCtorEq, decide_true, decide_false, decide_eq_true_eq, decide_eq_false_iff_not, Bool.false_eq_true, if_pos, if_neg, c1, d1, c7, d7, c4, d4, c5, d5, k1, k2, lg_gt, lg_le0, wd_add, Int32.toInt_toInt64, f_X11_refuse, f_X12_no]
                      exact ⟨_, _, _, rfl, rfl, F _⟩
            · simp (disch := omega) only [fLt_e, fBd_s, fJn_s, fNn_s, fNu_0, fNu_s, fBo_0, fBo_1, fBo_b, i_lit, i_neg1, nI_add, pk_mul, nI_clamp, fIx_n, Int32.lt_iff_toInt_lt, Int32.le_iff_toInt_le, ← Int32.toInt_inj, nI_toInt, mI_toInt, xI_0, xI_s, bI_t, bI_f, Nat.not_lt_zero, Nat.succ_ne_zero, Nat.add_one_ne_zero, Nat.add_one_sub_one, Nat.zero_le, Nat.or_zero, Nat.zero_or, Bool.not_true, Bool.not_false, Bool.true_and, Bool.false_and, Bool.and_true, Bool.and_false, ↓reduceIte, if_true, if_false, not_true_eq_false, not_false_eq_true, true_and, and_true, false_and, and_false, and_self, true_or, or_true, false_or, or_false, Nat.reduceEqDiff, Nat.reduceLT, Nat.reduceLeDiff, Nat.reduceAdd, Nat.reduceMul, Nat.reduceSub, Nat.add_zero, Nat.zero_add, Nat.mul_zero, Nat.zero_mul, ne_eq, Bool.not_eq_true, Bool.not_eq_false, reduceCtorEq, decide_true, decide_false, decide_eq_true_eq, decide_eq_false_iff_not, Bool.false_eq_true, if_pos, if_neg, c1, d1, c7, d7, c4, d4, c5, d5, f_X11_refuse, f_X12_no]
              exact ⟨_, _, _, rfl, rfl, F _⟩
          · simp (disch := omega) only [fLt_e, fBd_s, fJn_s, fNn_s, fNu_0, fNu_s, fBo_0, fBo_1, fBo_b, i_lit, i_neg1, nI_add, pk_mul, nI_clamp, fIx_n, Int32.lt_iff_toInt_lt, Int32.le_iff_toInt_le, ← Int32.toInt_inj, nI_toInt, mI_toInt, xI_0, xI_s, bI_t, bI_f, Nat.not_lt_zero, Nat.succ_ne_zero, Nat.add_one_ne_zero, Nat.add_one_sub_one, Nat.zero_le, Nat.or_zero, Nat.zero_or, Bool.not_true, Bool.not_false, Bool.true_and, Bool.false_and, Bool.and_true, Bool.and_false, ↓reduceIte, if_true, if_false, not_true_eq_false, not_false_eq_true, true_and, and_true, false_and, and_false, and_self, true_or, or_true, false_or, or_false, Nat.reduceEqDiff, Nat.reduceLT, Nat.reduceLeDiff, Nat.reduceAdd, Nat.reduceMul, Nat.reduceSub, Nat.add_zero, Nat.zero_add, Nat.mul_zero, Nat.zero_mul, ne_eq, Bool.not_eq_true, Bool.not_eq_false, reduceCtorEq, decide_true, decide_false, decide_eq_true_eq, decide_eq_false_iff_not, Bool.false_eq_true, if_pos, if_neg, c1, d1, c7, d7, c4, d4, c5, d5, f_X11_refuse, f_X12_no]
            exact ⟨_, _, _, rfl, rfl, F _⟩
    · rw [inB_f.mpr (show ¬ (0 ≤ c.toInt ∧ c.toInt ≤ ((4 : Nat) : Int) - 1) by omega)]
      by_cases hb0 : c.toInt < 0
      · simp (disch := omega) only [fLt_e, fBd_s, fJn_s, fNn_s, fNu_0, fNu_s, fBo_0, fBo_1, fBo_b, i_lit, i_neg1, nI_add, pk_mul, nI_clamp, fIx_n, Int32.lt_iff_toInt_lt, Int32.le_iff_toInt_le, ← Int32.toInt_inj, nI_toInt, mI_toInt, xI_0, xI_s, bI_t, bI_f, Nat.not_lt_zero, Nat.succ_ne_zero, Nat.add_one_ne_zero, Nat.add_one_sub_one, Nat.zero_le, Nat.or_zero, Nat.zero_or, Bool.not_true, Bool.not_false, Bool.true_and, Bool.false_and, Bool.and_true, Bool.and_false, ↓reduceIte, if_true, if_false, not_true_eq_false, not_false_eq_true, true_and, and_true, false_and, and_false, and_self, true_or, or_true, false_or, or_false, Nat.reduceEqDiff, Nat.reduceLT, Nat.reduceLeDiff, Nat.reduceAdd, Nat.reduceMul, Nat.reduceSub, Nat.add_zero, Nat.zero_add, Nat.mul_zero, Nat.zero_mul, ne_eq, Bool.not_eq_true, Bool.not_eq_false, reduceCtorEq, decide_true, decide_false, decide_eq_true_eq, decide_eq_false_iff_not, Bool.false_eq_true, if_pos, if_neg, f_X11_refuse, f_X12_no]
        exact ⟨_, _, _, rfl, rfl, F _⟩
      · simp (disch := omega) only [fLt_e, fBd_s, fJn_s, fNn_s, fNu_0, fNu_s, fBo_0, fBo_1, fBo_b, i_lit, i_neg1, nI_add, pk_mul, nI_clamp, fIx_n, Int32.lt_iff_toInt_lt, Int32.le_iff_toInt_le, ← Int32.toInt_inj, nI_toInt, mI_toInt, xI_0, xI_s, bI_t, bI_f, Nat.not_lt_zero, Nat.succ_ne_zero, Nat.add_one_ne_zero, Nat.add_one_sub_one, Nat.zero_le, Nat.or_zero, Nat.zero_or, Bool.not_true, Bool.not_false, Bool.true_and, Bool.false_and, Bool.and_true, Bool.and_false, ↓reduceIte, if_true, if_false, not_true_eq_false, not_false_eq_true, true_and, and_true, false_and, and_false, and_self, true_or, or_true, false_or, or_false, Nat.reduceEqDiff, Nat.reduceLT, Nat.reduceLeDiff, Nat.reduceAdd, Nat.reduceMul, Nat.reduceSub, Nat.add_zero, Nat.zero_add, Nat.mul_zero, Nat.zero_mul, ne_eq, Bool.not_eq_true, Bool.not_eq_false, reduceCtorEq, decide_true, decide_false, decide_eq_true_eq, decide_eq_false_iff_not, Bool.false_eq_true, if_pos, if_neg, f_X11_refuse, f_X12_no]
        exact ⟨_, _, _, rfl, rfl, F _⟩
  · rw [inB_f.mpr (show ¬ (0 ≤ a.toInt ∧ a.toInt ≤ ((4 : Nat) : Int) - 1) by omega)]
    by_cases ha0 : a.toInt < 0
    · simp (disch := omega) only [fLt_e, fBd_s, fJn_s, fNn_s, fNu_0, fNu_s, fBo_0, fBo_1, fBo_b, i_lit, i_neg1, nI_add, pk_mul, nI_clamp, fIx_n, Int32.lt_iff_toInt_lt, Int32.le_iff_toInt_le, ← Int32.toInt_inj, nI_toInt, mI_toInt, xI_0, xI_s, bI_t, bI_f, Nat.not_lt_zero, Nat.succ_ne_zero, Nat.add_one_ne_zero, Nat.add_one_sub_one, Nat.zero_le, Nat.or_zero, Nat.zero_or, Bool.not_true, Bool.not_false, Bool.true_and, Bool.false_and, Bool.and_true, Bool.and_false, ↓reduceIte, if_true, if_false, not_true_eq_false, not_false_eq_true, true_and, and_true, false_and, and_false, and_self, true_or, or_true, false_or, or_false, Nat.reduceEqDiff, Nat.reduceLT, Nat.reduceLeDiff, Nat.reduceAdd, Nat.reduceMul, Nat.reduceSub, Nat.add_zero, Nat.zero_add, Nat.mul_zero, Nat.zero_mul, ne_eq, Bool.not_eq_true, Bool.not_eq_false, reduceCtorEq, decide_true, decide_false, decide_eq_true_eq, decide_eq_false_iff_not, Bool.false_eq_true, if_pos, if_neg, f_X11_refuse, f_X12_no]
      exact ⟨_, _, _, rfl, rfl, F _⟩
    · simp (disch := omega) only [fLt_e, fBd_s, fJn_s, fNn_s, fNu_0, fNu_s, fBo_0, fBo_1, fBo_b, i_lit, i_neg1, nI_add, pk_mul, nI_clamp, fIx_n, Int32.lt_iff_toInt_lt, Int32.le_iff_toInt_le, ← Int32.toInt_inj, nI_toInt, mI_toInt, xI_0, xI_s, bI_t, bI_f, Nat.not_lt_zero, Nat.succ_ne_zero, Nat.add_one_ne_zero, Nat.add_one_sub_one, Nat.zero_le, Nat.or_zero, Nat.zero_or, Bool.not_true, Bool.not_false, Bool.true_and, Bool.false_and, Bool.and_true, Bool.and_false, ↓reduceIte, if_true, if_false, not_true_eq_false, not_false_eq_true, true_and, and_true, false_and, and_false, and_self, true_or, or_true, false_or, or_false, Nat.reduceEqDiff, Nat.reduceLT, Nat.reduceLeDiff, Nat.reduceAdd, Nat.reduceMul, Nat.reduceSub, Nat.add_zero, Nat.zero_add, Nat.mul_zero, Nat.zero_mul, ne_eq, Bool.not_eq_true, Bool.not_eq_false, reduceCtorEq, decide_true, decide_false, decide_eq_true_eq, decide_eq_false_iff_not, Bool.false_eq_true, if_pos, if_neg, f_X11_refuse, f_X12_no]
      exact ⟨_, _, _, rfl, rfl, F _⟩
