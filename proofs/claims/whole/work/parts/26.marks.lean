/-! layer 2: marks, breaths, suspects -/
theorem rBlk_cong {f f' : Nat → Int32} {G : Nat → Nat} (w : gWf G) (h : ∀ k, k < 430 → f' k = f k) (B : rBlk f G) : rBlk f' G := by
  have w1 := w.1
  have w2 := w.2.1
  obtain ⟨b1, b2, b3, b4, b5, b6, b7⟩ := B
  have b30 := b6.2.2.2.2
  refine ⟨?_, fun a ha => ?_, fun s hs => ?_, fun k hk => ?_, fun i hi => ?_, ?_, fun j hj => ?_⟩
  · simp (disch := omega) only [h]; exact b1
  · simp (disch := omega) only [h]; exact b2 a ha
  · simp (disch := omega) only [h]; exact b3 s hs
  · simp (disch := omega) only [h]; exact b4 k hk
  · simp (disch := omega) only [h]; exact b5 i hi
  · simp (disch := omega) only [h]; exact b6
  · simp (disch := omega) only [h]; exact b7 j hj
theorem rOne_t {sc sc' sm sm' : fSt} {h h' q : Nat} {G : Nat → Nat} (p1 : gP sc' 2 h' 0 = gP sc 2 h 0) (p2 : gP sc' 2 h' 1 = gP sc 2 h 1) (p3 : gI sc' 2 h' 2 = gI sc 2 h 2) (p4 : gI sc' 2 h' 3 = gI sc 2 h 3) (p5 : gI sc' 0 h' 0 = gI sc 0 h 0) (p6 : ∀ p, p < 80 → gA sc' 0 h' 1 p = gA sc 0 h 1 p)
    (c : ∀ c, (c = 7 ∨ c = 9) → ∀ i k, gI sc' c i k = gI sc c i k ∧ gA sc' c i k = gA sc c i k ∧ gB sc' c i k = gB sc c i k) (m1 : ∀ k, k < 430 → gA sm' 12 0 5 (430 * h' + k) = gA sm 12 0 5 (430 * h + k)) (m2 : ∀ k, k < 28 → gB sm' 12 0 7 (28 * h' + k) = gB sm 12 0 7 (28 * h + k)) (H : rOne sc sm h q G) : rOne sc' sm' h' q G := by
  have e7 := fun i k => (c 7 (by decide) i k).1
  have e7a := fun i k => (c 7 (by decide) i k).2.1
  have e7b := fun i k => (c 7 (by decide) i k).2.2
  have e9 := fun i k => (c 9 (by decide) i k).1
  have e9a := fun i k => (c 9 (by decide) i k).2.1
  obtain ⟨w, X, B, N, K⟩ := H
  have w1 := w.1
  have w2 := w.2.1
  refine ⟨w, ⟨by rw [p1]; exact X.1, ?_, ⟨by rw [p3]; exact X.2.2.1.1, by rw [p4]; exact X.2.2.1.2⟩, by rw [p5]; exact X.2.2.2.1, fun i hi => ?_⟩, rBlk_cong w m1 B, ?_, ?_⟩
  · have := X.2.1
    unfold rStg at *
    simp only [e7, e7a]
    exact this
  · simp (disch := omega) only [p6]
    exact X.2.2.2.2 i hi
  · obtain ⟨n1, n2, n3, n4⟩ := N
    refine ⟨fun k hk => ?_, fun k hk => ?_, fun k hk => ?_, fun k hk => ?_⟩
    · simp (disch := omega) only [e7b, m2]; exact n1 k hk
    · simp (disch := omega) only [e7b, m2]; exact n2 k hk
    · simp (disch := omega) only [e7b, m2]; exact n3 k hk
    · simp (disch := omega) only [e7b, m2]; exact n4 k hk
  · unfold rWk at *
    rw [p2]
    simp only [e9]
    rcases K with K | ⟨a, x, m, b1, b2, b3, b4, b5⟩
    · exact Or.inl K
    · exact Or.inr ⟨a, x, m, b1, b2, b3, b4, rBod_e e9a _ _ _ _ _ _ b5⟩
def xTk (sc : fSt) (i j : Nat) : fSt := sA (sI (sI (sI (sP (sP sc 2 i 0 (gP sc 2 j 0)) 2 i 1 (gP sc 2 j 1)) 2 i 2 (gI sc 2 j 2)) 2 i 3 (gI sc 2 j 3)) 0 i 0 (gI sc 0 j 0)) 0 i 1 (fun p => if p < 80 then gA sc 0 j 1 p else gA sc 0 i 1 p)
theorem x_takeFrom (sc : fSt) {i j : Nat} (hij : i ≠ j) : f_X2_takeFrom i j sc = some ((), xTk sc i j) := by
  unfold f_X2_takeFrom f_X0_takeFrom xTk
  have hji : ¬ j = i := fun h => hij h.symm
  simp only [fLt_e, i_lit]
  rw [fCp_n (by omega) (by omega) (by omega) (by omega)]
  simp (disch := omega) only [fLt_e, fBd_s, fJn_s, fNn_s, fNu_0, fNu_s, fBo_0, fBo_1, fBo_b, Nat.not_lt_zero, Nat.succ_ne_zero, Nat.add_one_ne_zero, Nat.add_one_sub_one, Nat.zero_le, Nat.or_zero, Nat.zero_or, Bool.not_true, Bool.not_false, Bool.true_and, Bool.false_and, Bool.and_true, Bool.and_false, ↓reduceIte, if_true, if_false, not_true_eq_false, not_false_eq_true, true_and, and_true, false_and, and_false, and_self, true_or, or_true, false_or, or_false, Nat.reduceEqDiff, Nat.reduceLT, Nat.reduceLeDiff, Nat.reduceAdd, Nat.reduceMul, Nat.reduceSub, Nat.add_zero, Nat.zero_add, Nat.mul_zero, Nat.zero_mul, ne_eq, Bool.not_eq_true, Bool.not_eq_false, reduceCtorEq, decide_true, decide_false, decide_eq_true_eq, decide_eq_false_iff_not, Bool.false_eq_true, nI_clamp, gP_sP, gI_sI, gI_sP, gI_sA, gA_sI, gA_sP, gP_sI, hji]
  refine congrArg (fun f => some ((), sA _ 0 i 1 f)) (funext fun p => ?_)
  unfold va_cpy
  by_cases hp : p < 80
  · rw [if_pos (by omega), if_pos hp]; simp
  · rw [if_neg (by omega), if_neg hp]
theorem m_copy {sm : fSt} {a b : Nat} (ha : a ≤ 3) (hb : b ≤ 3) (hab : a ≠ b) : f_X12_copy (nI a) (nI b) sm = some ((), sB (sA sm 12 0 5 (fun p => if 430 * b ≤ p ∧ p < 430 * b + 430 then gA sm 12 0 5 (430 * a + (p - 430 * b)) else gA sm 12 0 5 p)) 12 0 7 (fun p => if 28 * b ≤ p ∧ p < 28 * b + 28 then gB sm 12 0 7 (28 * a + (p - 28 * b)) else gB sm 12 0 7 p)) := by
  have key : ∀ st : fSt, f_X12_copy_L41 (nI a) (nI b) fF (nI 0) st = some ((), sB st 12 0 7 (fun p => if 28 * b ≤ p ∧ p < 28 * b + 28 then gB st 12 0 7 (28 * a + (p - 28 * b)) else gB st 12 0 7 p)) := by
    intro st
    obtain ⟨m, e⟩ := lp_run (fun m (z : Int32 × fSt) => f_X12_copy_L41 (nI a) (nI b) m z.1 z.2) (fun i => (nI i, sB st 12 0 7 (fun p => if 28 * b ≤ p ∧ p < 28 * b + i then gB st 12 0 7 (28 * a + (p - 28 * b)) else gB st 12 0 7 p))) 28 (fun m i hi => by
      show f_X12_copy_L41 (nI a) (nI b) (m + 1) (nI i) (sB st 12 0 7 (fun p => if 28 * b ≤ p ∧ p < 28 * b + i then gB st 12 0 7 (28 * a + (p - 28 * b)) else gB st 12 0 7 p)) = f_X12_copy_L41 (nI a) (nI b) m (nI (i + 1)) (sB st 12 0 7 (fun p => if 28 * b ≤ p ∧ p < 28 * b + (i + 1) then gB st 12 0 7 (28 * a + (p - 28 * b)) else gB st 12 0 7 p))
      rw [f_X12_copy_L41]
      simp (disch := omega) only [fLt_e, fBd_s, fJn_s, fNn_s, fNu_0, fNu_s, fBo_0, fBo_1, fBo_b, i_lit, i_neg1, nI_add, pk_mul, nI_clamp, i_le, i_lt, i_eq, fIx_n, nI_mI, mI_nI, mI_lt, nI_lt_m, mI_le, nI_le_m, xI_0, xI_s, bI_0, bI_1, bI_t, bI_f, n_31, j_bit, j_one, i_and, i_or, Nat.not_lt_zero, Nat.succ_ne_zero, Nat.add_one_ne_zero, Nat.add_one_sub_one, Nat.zero_le, Nat.or_zero, Nat.zero_or, Bool.not_true, Bool.not_false, Bool.true_and, Bool.false_and, Bool.and_true, Bool.and_false, ↓reduceIte, if_true, if_false, not_true_eq_false, not_false_eq_true, true_and, and_true, false_and, and_false, and_self, true_or, or_true, false_or, or_false, Nat.reduceEqDiff, Nat.reduceLT, Nat.reduceLeDiff, Nat.reduceAdd, Nat.reduceMul, Nat.reduceSub, Nat.add_zero, Nat.zero_add, Nat.mul_zero, Nat.zero_mul, ne_eq, Bool.not_eq_true, Bool.not_eq_false, reduceCtorEq, decide_true, decide_false, decide_eq_true_eq, decide_eq_false_iff_not, Bool.false_eq_true, if_pos, if_neg, gB_same, sB_sB]
      congr 2
      funext p
      rw [updL_at]
      by_cases hp : p = 28 * b + i
      · rw [if_pos hp, if_pos (by omega)]
        congr 1
        omega
      · rw [if_neg hp]
        by_cases hp2 : 28 * b ≤ p ∧ p < 28 * b + i
        · rw [if_pos hp2, if_pos (by omega)]
        · rw [if_neg hp2, if_neg (by omega)]) (fF_lt (by omega))
    refine Eq.trans ?_ (Eq.trans e ?_)
    · show _ = f_X12_copy_L41 (nI a) (nI b) fF (nI 0) (sB st 12 0 7 (fun p => if 28 * b ≤ p ∧ p < 28 * b + 0 then gB st 12 0 7 (28 * a + (p - 28 * b)) else gB st 12 0 7 p))
      congr 1
      rw [show (fun p => if 28 * b ≤ p ∧ p < 28 * b + 0 then gB st 12 0 7 (28 * a + (p - 28 * b)) else gB st 12 0 7 p) = gB st 12 0 7 from funext fun p => if_neg (by omega)]
      exact (sB_self st 12 0 7).symm
    · show f_X12_copy_L41 (nI a) (nI b) (m + 1) (nI 28) (sB st 12 0 7 (fun p => if 28 * b ≤ p ∧ p < 28 * b + 28 then gB st 12 0 7 (28 * a + (p - 28 * b)) else gB st 12 0 7 p)) = _
      rw [f_X12_copy_L41]
      simp (disch := omega) only [fLt_e, fBd_s, fJn_s, fNn_s, fNu_0, fNu_s, fBo_0, fBo_1, fBo_b, i_lit, i_neg1, nI_add, pk_mul, nI_clamp, i_le, i_lt, i_eq, fIx_n, nI_mI, mI_nI, mI_lt, nI_lt_m, mI_le, nI_le_m, xI_0, xI_s, bI_0, bI_1, bI_t, bI_f, n_31, j_bit, j_one, i_and, i_or, Nat.not_lt_zero, Nat.succ_ne_zero, Nat.add_one_ne_zero, Nat.add_one_sub_one, Nat.zero_le, Nat.or_zero, Nat.zero_or, Bool.not_true, Bool.not_false, Bool.true_and, Bool.false_and, Bool.and_true, Bool.and_false, ↓reduceIte, if_true, if_false, not_true_eq_false, not_false_eq_true, true_and, and_true, false_and, and_false, and_self, true_or, or_true, false_or, or_false, Nat.reduceEqDiff, Nat.reduceLT, Nat.reduceLeDiff, Nat.reduceAdd, Nat.reduceMul, Nat.reduceSub, Nat.add_zero, Nat.zero_add, Nat.mul_zero, Nat.zero_mul, ne_eq, Bool.not_eq_true, Bool.not_eq_false, reduceCtorEq, decide_true, decide_false, decide_eq_true_eq, decide_eq_false_iff_not, Bool.false_eq_true, if_pos, if_neg]
  unfold f_X12_copy
  simp only [fLt_e, fJn_s, i_lit]
  obtain ⟨m, e⟩ := lp_run (fun m (z : Int32 × fSt) => f_X12_copy_L2 (nI a) (nI b) (fun s2 => f_X12_copy_L41 (nI a) (nI b) fF (nI 0) s2) m z.1 z.2) (fun i => (nI i, sA sm 12 0 5 (fun p => if 430 * b ≤ p ∧ p < 430 * b + i then gA sm 12 0 5 (430 * a + (p - 430 * b)) else gA sm 12 0 5 p))) 430 (fun m i hi => by
    show f_X12_copy_L2 (nI a) (nI b) (fun s2 => f_X12_copy_L41 (nI a) (nI b) fF (nI 0) s2) (m + 1) (nI i) (sA sm 12 0 5 (fun p => if 430 * b ≤ p ∧ p < 430 * b + i then gA sm 12 0 5 (430 * a + (p - 430 * b)) else gA sm 12 0 5 p)) = f_X12_copy_L2 (nI a) (nI b) (fun s2 => f_X12_copy_L41 (nI a) (nI b) fF (nI 0) s2) m (nI (i + 1)) (sA sm 12 0 5 (fun p => if 430 * b ≤ p ∧ p < 430 * b + (i + 1) then gA sm 12 0 5 (430 * a + (p - 430 * b)) else gA sm 12 0 5 p))
    rw [f_X12_copy_L2]
    simp (disch := omega) only [fLt_e, fBd_s, fJn_s, fNn_s, fNu_0, fNu_s, fBo_0, fBo_1, fBo_b, i_lit, i_neg1, nI_add, pk_mul, nI_clamp, i_le, i_lt, i_eq, fIx_n, nI_mI, mI_nI, mI_lt, nI_lt_m, mI_le, nI_le_m, xI_0, xI_s, bI_0, bI_1, bI_t, bI_f, n_31, j_bit, j_one, i_and, i_or, Nat.not_lt_zero, Nat.succ_ne_zero, Nat.add_one_ne_zero, Nat.add_one_sub_one, Nat.zero_le, Nat.or_zero, Nat.zero_or, Bool.not_true, Bool.not_false, Bool.true_and, Bool.false_and, Bool.and_true, Bool.and_false, ↓reduceIte, if_true, if_false, not_true_eq_false, not_false_eq_true, true_and, and_true, false_and, and_false, and_self, true_or, or_true, false_or, or_false, Nat.reduceEqDiff, Nat.reduceLT, Nat.reduceLeDiff, Nat.reduceAdd, Nat.reduceMul, Nat.reduceSub, Nat.add_zero, Nat.zero_add, Nat.mul_zero, Nat.zero_mul, ne_eq, Bool.not_eq_true, Bool.not_eq_false, reduceCtorEq, decide_true, decide_false, decide_eq_true_eq, decide_eq_false_iff_not, Bool.false_eq_true, if_pos, if_neg, gA_same, sA_sA]
    congr 2
    funext p
    rw [upd_at]
    by_cases hp : p = 430 * b + i
    · rw [if_pos hp, if_pos (by omega)]
      congr 1
      omega
    · rw [if_neg hp]
      by_cases hp2 : 430 * b ≤ p ∧ p < 430 * b + i
      · rw [if_pos hp2, if_pos (by omega)]
      · rw [if_neg hp2, if_neg (by omega)]) (fF_lt (by omega))
  refine Eq.trans ?_ (Eq.trans e ?_)
  · show _ = f_X12_copy_L2 (nI a) (nI b) (fun s2 => f_X12_copy_L41 (nI a) (nI b) fF (nI 0) s2) fF (nI 0) (sA sm 12 0 5 (fun p => if 430 * b ≤ p ∧ p < 430 * b + 0 then gA sm 12 0 5 (430 * a + (p - 430 * b)) else gA sm 12 0 5 p))
    rw [show (fun p => if 430 * b ≤ p ∧ p < 430 * b + 0 then gA sm 12 0 5 (430 * a + (p - 430 * b)) else gA sm 12 0 5 p) = gA sm 12 0 5 from funext fun p => if_neg (by omega), sA_self]
  · show f_X12_copy_L2 (nI a) (nI b) (fun s2 => f_X12_copy_L41 (nI a) (nI b) fF (nI 0) s2) (m + 1) (nI 430) (sA sm 12 0 5 (fun p => if 430 * b ≤ p ∧ p < 430 * b + 430 then gA sm 12 0 5 (430 * a + (p - 430 * b)) else gA sm 12 0 5 p)) = _
    rw [f_X12_copy_L2]
    simp (disch := omega) only [fLt_e, fBd_s, fJn_s, fNn_s, fNu_0, fNu_s, fBo_0, fBo_1, fBo_b, i_lit, i_neg1, nI_add, pk_mul, nI_clamp, i_le, i_lt, i_eq, fIx_n, nI_mI, mI_nI, mI_lt, nI_lt_m, mI_le, nI_le_m, xI_0, xI_s, bI_0, bI_1, bI_t, bI_f, n_31, j_bit, j_one, i_and, i_or, Nat.not_lt_zero, Nat.succ_ne_zero, Nat.add_one_ne_zero, Nat.add_one_sub_one, Nat.zero_le, Nat.or_zero, Nat.zero_or, Bool.not_true, Bool.not_false, Bool.true_and, Bool.false_and, Bool.and_true, Bool.and_false, ↓reduceIte, if_true, if_false, not_true_eq_false, not_false_eq_true, true_and, and_true, false_and, and_false, and_self, true_or, or_true, false_or, or_false, Nat.reduceEqDiff, Nat.reduceLT, Nat.reduceLeDiff, Nat.reduceAdd, Nat.reduceMul, Nat.reduceSub, Nat.add_zero, Nat.zero_add, Nat.mul_zero, Nat.zero_mul, ne_eq, Bool.not_eq_true, Bool.not_eq_false, reduceCtorEq, decide_true, decide_false, decide_eq_true_eq, decide_eq_false_iff_not, Bool.false_eq_true, if_pos, if_neg]
    rw [key]
    rfl
theorem call_mark : CALL f_X11_mark f_X12_mark := by
  intro sc sm ⟨hA, H⟩
  have H := pro_x H
  have z := pro_0 sm
  unfold f_X11_mark f_X12_mark
  simp only [fLt_e, pro_eq]
  generalize pro sm = s2 at *
  obtain ⟨h2, h3, h4, h5, h6, h7, h8, h9, n, qq, GG, g1, g2, g3, g4⟩ := H
  have H : RX sc s2 := ⟨h2, h3, h4, h5, h6, h7, h8, h9, n, qq, GG, g1, g2, g3, g4⟩
  rw [g2, show (3 : Int32) = nI 3 from rfl, x_isBelow _ _ (by omega), g3, nI_toInt (by omega)]
  by_cases hn : n < 3
  · rw [inB_t.mpr (by omega)]
    have e1 := x_takeFrom (sI sc 11 0 9 (nI (n + 1))) (show n + 1 ≠ 0 by omega)
    have e2 := m_copy (sm := sI s2 12 0 23 (nI (n + 1))) (a := 0) (b := n + 1) (by omega) (by omega) (by omega)
    have o1 : gI (xTk (sI sc 11 0 9 (nI (n + 1))) (n + 1) 0) 11 0 9 = nI (n + 1) := by
      unfold xTk
      simp only [gI_sA, gI_sI, gI_sP, Nat.reduceEqDiff, false_and, if_false, and_self, if_true]
    simp (disch := omega) only [fLt_e, fBd_s, fJn_s, fNn_s, fNu_0, fNu_s, fBo_0, fBo_1, fBo_b, i_lit, i_neg1, nI_add, pk_mul, nI_clamp, i_le, i_lt, i_eq, fIx_n, nI_mI, mI_nI, mI_lt, nI_lt_m, mI_le, nI_le_m, xI_0, xI_s, bI_0, bI_1, bI_t, bI_f, n_31, j_bit, j_one, i_and, i_or, Nat.not_lt_zero, Nat.succ_ne_zero, Nat.add_one_ne_zero, Nat.add_one_sub_one, Nat.zero_le, Nat.or_zero, Nat.zero_or, Bool.not_true, Bool.not_false, Bool.true_and, Bool.false_and, Bool.and_true, Bool.and_false, ↓reduceIte, if_true, if_false, not_true_eq_false, not_false_eq_true, true_and, and_true, false_and, and_false, and_self, true_or, or_true, false_or, or_false, Nat.reduceEqDiff, Nat.reduceLT, Nat.reduceLeDiff, Nat.reduceAdd, Nat.reduceMul, Nat.reduceSub, Nat.add_zero, Nat.zero_add, Nat.mul_zero, Nat.zero_mul, ne_eq, Bool.not_eq_true, Bool.not_eq_false, reduceCtorEq, decide_true, decide_false, decide_eq_true_eq, decide_eq_false_iff_not, Bool.false_eq_true, if_pos, if_neg, g2, gI_same, e1, e2, o1, f_X11_answer, gI_sB, gI_sA]
    refine ⟨_, _, _, rfl, rfl, RR_of ⟨h2, h3, h4, h5, h6, h7, h8, h9, n + 1, fun h => if h = n + 1 then qq 0 else qq h, fun h => if h = n + 1 then GG 0 else GG h, by omega, ?_, rfl, fun h hh => ?_⟩ (by rw [gI_same]; exact z.symm)⟩
    · show gI (sI (xTk (sI sc 11 0 9 (nI (n + 1))) (n + 1) 0) 11 0 2 (nI 0)) 11 0 9 = _
      rw [gI_sI, if_neg (by omega), o1]
    · by_cases hh2 : h = n + 1
      · subst hh2
        simp only [if_true]
        unfold xTk
        refine rOne_t (h := 0) ?_ ?_ ?_ ?_ ?_ ?_ ?_ (fun k hk => ?_) (fun k hk => ?_) (g4 0 (Nat.zero_le _))
        · simp only [gP_sI, gP_sA, gP_sP, Nat.reduceEqDiff, and_false, and_self, if_false, if_true]
        · simp only [gP_sI, gP_sA, gP_sP, and_self, if_true]
        · simp only [gI_sI, gI_sA, gI_sP, Nat.reduceEqDiff, false_and, and_false, and_self, if_false, if_true]
        · simp only [gI_sI, gI_sA, gI_sP, Nat.reduceEqDiff, false_and, and_false, and_self, if_false, if_true]
        · simp only [gI_sI, gI_sA, gI_sP, Nat.reduceEqDiff, false_and, and_false, and_self, if_false, if_true]
        · intro p hp
          simp only [gA_sI, gA_sA, and_self, if_true]
          rw [if_pos hp]
        · intro c hc i k
          rcases hc with rfl | rfl <;> exact ⟨rfl, rfl, rfl⟩
        · simp only [gA_sB, gA_same, gA_sI]
          rw [if_pos (by omega)]
          rw [show 430 * (n + 1) + k - 430 * (n + 1) = 430 * 0 + k by omega]
        · simp only [gB_same, gB_sA, gB_sI]
          rw [if_pos (by omega)]
          rw [show 28 * (n + 1) + k - 28 * (n + 1) = 28 * 0 + k by omega]
      · simp only [if_neg hh2]
        unfold xTk
        refine rOne_t (h := h) ?_ ?_ ?_ ?_ ?_ ?_ ?_ (fun k hk => ?_) (fun k hk => ?_) (g4 h (by omega))
        · simp only [gP_sI, gP_sA, gP_sP, hh2, false_and, and_false, if_false]
        · simp only [gP_sI, gP_sA, gP_sP, hh2, false_and, and_false, if_false]
        · simp only [gI_sI, gI_sA, gI_sP, hh2, Nat.reduceEqDiff, false_and, and_false, and_self, if_false, if_true]
        · simp only [gI_sI, gI_sA, gI_sP, hh2, Nat.reduceEqDiff, false_and, and_false, and_self, if_false, if_true]
        · simp only [gI_sI, gI_sA, gI_sP, hh2, Nat.reduceEqDiff, false_and, and_false, and_self, if_false, if_true]
        · intro p hp
          simp only [gA_sI, gA_sA, gA_sP, hh2, false_and, and_false, if_false]
        · intro c hc i k
          rcases hc with rfl | rfl <;> exact ⟨rfl, rfl, rfl⟩
        · simp only [gA_sB, gA_same, gA_sI]
          rw [if_neg (by omega)]
        · simp only [gB_same, gB_sA, gB_sI]
          rw [if_neg (by omega)]
  · have hn3 : n = 3 := by omega
    subst hn3
    rw [inB_f.mpr (by omega)]
    simp (disch := omega) only [fLt_e, fBd_s, fJn_s, fNn_s, fNu_0, fNu_s, fBo_0, fBo_1, fBo_b, i_lit, i_neg1, nI_add, pk_mul, nI_clamp, i_le, i_lt, i_eq, fIx_n, nI_mI, mI_nI, mI_lt, nI_lt_m, mI_le, nI_le_m, xI_0, xI_s, bI_0, bI_1, bI_t, bI_f, n_31, j_bit, j_one, i_and, i_or, Nat.not_lt_zero, Nat.succ_ne_zero, Nat.add_one_ne_zero, Nat.add_one_sub_one, Nat.zero_le, Nat.or_zero, Nat.zero_or, Bool.not_true, Bool.not_false, Bool.true_and, Bool.false_and, Bool.and_true, Bool.and_false, ↓reduceIte, if_true, if_false, not_true_eq_false, not_false_eq_true, true_and, and_true, false_and, and_false, and_self, true_or, or_true, false_or, or_false, Nat.reduceEqDiff, Nat.reduceLT, Nat.reduceLeDiff, Nat.reduceAdd, Nat.reduceMul, Nat.reduceSub, Nat.add_zero, Nat.zero_add, Nat.mul_zero, Nat.zero_mul, ne_eq, Bool.not_eq_true, Bool.not_eq_false, reduceCtorEq, decide_true, decide_false, decide_eq_true_eq, decide_eq_false_iff_not, Bool.false_eq_true, if_pos, if_neg, f_X11_fail, f_X12_refuse]
    exact ⟨_, _, _, rfl, rfl, fin_st H _⟩
theorem call_back : CALL f_X11_back f_X12_back := by
  intro sc sm ⟨hA, H⟩
  have H := pro_x H
  have z := pro_0 sm
  unfold f_X11_back f_X12_back
  simp only [fLt_e, pro_eq]
  generalize pro sm = s2 at *
  obtain ⟨h2, h3, h4, h5, h6, h7, h8, h9, n, qq, GG, g1, g2, g3, g4⟩ := H
  have H : RX sc s2 := ⟨h2, h3, h4, h5, h6, h7, h8, h9, n, qq, GG, g1, g2, g3, g4⟩
  have i1 : (1 : Int32).toInt = 1 := rfl
  have i3 : (3 : Int32).toInt = 3 := rfl
  rw [g2, x_isIn, g3, nI_toInt (by omega), i1, i3]
  by_cases hn : 0 < n
  · rw [inB_t.mpr (by omega)]
    have e0 : nI n - nI 1 = nI (n - 1) := pk_sub (by omega)
    have e1 := x_takeFrom (sI sc 11 0 9 (nI (n - 1))) (i := 0) (j := n - 1 + 1) (by omega)
    have e2 := m_copy (sm := s2) (a := n) (b := 0) (by omega) (by omega) (by omega)
    have o1 : gI (xTk (sI sc 11 0 9 (nI (n - 1))) 0 (n - 1 + 1)) 11 0 9 = nI (n - 1) := by
      unfold xTk
      simp only [gI_sA, gI_sI, gI_sP, Nat.reduceEqDiff, false_and, if_false, and_self, if_true]
    simp only [fBd_s, bI_t, i_lit] at e2 ⊢
    simp (disch := omega) only [fLt_e, fBd_s, fJn_s, fNn_s, fNu_0, fNu_s, fBo_0, fBo_1, fBo_b, Nat.not_lt_zero, Nat.succ_ne_zero, Nat.add_one_ne_zero, Nat.add_one_sub_one, Nat.zero_le, Nat.or_zero, Nat.zero_or, Bool.not_true, Bool.not_false, Bool.true_and, Bool.false_and, Bool.and_true, Bool.and_false, ↓reduceIte, if_true, if_false, not_true_eq_false, not_false_eq_true, true_and, and_true, false_and, and_false, and_self, true_or, or_true, false_or, or_false, Nat.reduceEqDiff, Nat.reduceLT, Nat.reduceLeDiff, Nat.reduceAdd, Nat.reduceMul, Nat.reduceSub, Nat.add_zero, Nat.zero_add, Nat.mul_zero, Nat.zero_mul, ne_eq, Bool.not_eq_true, Bool.not_eq_false, reduceCtorEq, decide_true, decide_false, decide_eq_true_eq, decide_eq_false_iff_not, Bool.false_eq_true, i_eq, if_pos, if_neg, nI_clamp, fIx_n, e0, g2, g3, gI_same, e1, e2, o1, f_X11_answer, gI_sB, gI_sA]
    refine ⟨_, _, _, rfl, rfl, RR_of ⟨h2, h3, h4, h5, h6, h7, h8, h9, n - 1, fun h => if h = 0 then qq n else qq h, fun h => if h = 0 then GG n else GG h, by omega, ?_, rfl, fun h hh => ?_⟩ (by rw [gI_same]; exact z.symm)⟩
    · show gI (sI (xTk (sI sc 11 0 9 (nI (n - 1))) 0 (n - 1 + 1)) 11 0 2 (nI 0)) 11 0 9 = _
      rw [gI_sI, if_neg (by omega), o1]
    · have hn1 : n - 1 + 1 = n := by omega
      have hn0 : ¬ n = 0 := by omega
      by_cases hh2 : h = 0
      · subst hh2
        simp only [if_true]
        unfold xTk
        rw [hn1]
        refine rOne_t (h := n) ?_ ?_ ?_ ?_ ?_ ?_ ?_ (fun k hk => ?_) (fun k hk => ?_) (g4 n (Nat.le_refl _))
        · simp only [gP_sI, gP_sA, gP_sP, Nat.reduceEqDiff, and_false, and_self, if_false, if_true]
        · simp only [gP_sI, gP_sA, gP_sP, and_self, if_true]
        · simp only [gI_sI, gI_sA, gI_sP, Nat.reduceEqDiff, false_and, and_false, and_self, if_false, if_true]
        · simp only [gI_sI, gI_sA, gI_sP, Nat.reduceEqDiff, false_and, and_false, and_self, if_false, if_true]
        · simp only [gI_sI, gI_sA, gI_sP, Nat.reduceEqDiff, false_and, and_false, and_self, if_false, if_true]
        · intro p hp
          simp only [gA_sI, gA_sA, and_self, if_true]
          rw [if_pos hp]
        · intro c hc i k
          rcases hc with rfl | rfl <;> exact ⟨rfl, rfl, rfl⟩
        · simp only [gA_sB, gA_same, gA_sI]
          rw [if_pos (by omega)]
          rw [show 430 * n + (430 * 0 + k - 430 * 0) = 430 * n + k by omega]
        · simp only [gB_same, gB_sA, gB_sI]
          rw [if_pos (by omega)]
          rw [show 28 * n + (28 * 0 + k - 28 * 0) = 28 * n + k by omega]
      · simp only [if_neg hh2]
        unfold xTk
        refine rOne_t (h := h) ?_ ?_ ?_ ?_ ?_ ?_ ?_ (fun k hk => ?_) (fun k hk => ?_) (g4 h (by omega))
        · simp only [gP_sI, gP_sA, gP_sP, hh2, false_and, and_false, if_false]
        · simp only [gP_sI, gP_sA, gP_sP, hh2, false_and, and_false, if_false]
        · simp only [gI_sI, gI_sA, gI_sP, hh2, Nat.reduceEqDiff, false_and, and_false, and_self, if_false, if_true]
        · simp only [gI_sI, gI_sA, gI_sP, hh2, Nat.reduceEqDiff, false_and, and_false, and_self, if_false, if_true]
        · simp only [gI_sI, gI_sA, gI_sP, hh2, Nat.reduceEqDiff, false_and, and_false, and_self, if_false, if_true]
        · intro p hp
          simp only [gA_sI, gA_sA, gA_sP, hh2, false_and, and_false, if_false]
        · intro c hc i k
          rcases hc with rfl | rfl <;> exact ⟨rfl, rfl, rfl⟩
        · simp only [gA_sB, gA_same, gA_sI]
          rw [if_neg (by omega)]
        · simp only [gB_same, gB_sA, gB_sI]
          rw [if_neg (by omega)]
  · have hn0 : n = 0 := by omega
    subst hn0
    rw [inB_f.mpr (by omega)]
    simp (disch := omega) only [fLt_e, fBd_s, fJn_s, fNn_s, fNu_0, fNu_s, fBo_0, fBo_1, fBo_b, i_lit, i_neg1, nI_add, pk_mul, nI_clamp, i_le, i_lt, i_eq, fIx_n, nI_mI, mI_nI, mI_lt, nI_lt_m, mI_le, nI_le_m, xI_0, xI_s, bI_0, bI_1, bI_t, bI_f, n_31, j_bit, j_one, i_and, i_or, Nat.not_lt_zero, Nat.succ_ne_zero, Nat.add_one_ne_zero, Nat.add_one_sub_one, Nat.zero_le, Nat.or_zero, Nat.zero_or, Bool.not_true, Bool.not_false, Bool.true_and, Bool.false_and, Bool.and_true, Bool.and_false, ↓reduceIte, if_true, if_false, not_true_eq_false, not_false_eq_true, true_and, and_true, false_and, and_false, and_self, true_or, or_true, false_or, or_false, Nat.reduceEqDiff, Nat.reduceLT, Nat.reduceLeDiff, Nat.reduceAdd, Nat.reduceMul, Nat.reduceSub, Nat.add_zero, Nat.zero_add, Nat.mul_zero, Nat.zero_mul, ne_eq, Bool.not_eq_true, Bool.not_eq_false, reduceCtorEq, decide_true, decide_false, decide_eq_true_eq, decide_eq_false_iff_not, Bool.false_eq_true, if_pos, if_neg, f_X11_fail, f_X12_refuse, g3]
    exact ⟨_, _, _, rfl, rfl, fin_st H _⟩
section
variable {sc sm : fSt} {q : Nat} {G : Nat → Nat}
/-- the lines of a role -/
def glr (G : Nat → Nat) (r : Nat) : Nat := zs (fun s => if (G (37 + s)).testBit r then G (25 + s) else 0) (G 2)
theorem glr_le (w : gWf G) (r : Nat) : glr G r ≤ 240 := by
  have w1 := w.1
  have := zs_le (f := fun s => if (G (37 + s)).testBit r then G (25 + s) else 0) (b := 20) (n := G 2) (fun k hk => by
    have := (w.2.2.2.1 k hk).1.2
    split <;> omega)
  unfold glr
  omega
theorem x_linesOfRole (H : rStg sc q G) (w : gWf G) {r : Nat} (hr : r < 6) : f_X7_linesOfRole q (nI r) sc = some (nI (glr G r), sc) := by
  have h := w.1
  unfold f_X7_linesOfRole
  obtain ⟨m, e⟩ := lp_run (fun m (t : Int32 × Int32) => f_X7_linesOfRole_L4 q (nI r) m t.1 t.2 sc) (fun t => (nI (zs (fun s => if (G (37 + s)).testBit r then G (25 + s) else 0) t), nI t)) (G 2) (fun m t ht => by
    show f_X7_linesOfRole_L4 q (nI r) (m + 1) (nI (zs (fun s => if (G (37 + s)).testBit r then G (25 + s) else 0) t)) (nI t) sc = f_X7_linesOfRole_L4 q (nI r) m (nI (zs (fun s => if (G (37 + s)).testBit r then G (25 + s) else 0) (t + 1))) (nI (t + 1)) sc
    have hp := w_pl w ht
    obtain ⟨c0, c1, -⟩ := H.2.2.1 t ht
    rw [f_X7_linesOfRole_L4, zs_s]
    cases hb : (G (37 + t)).testBit r
    · simp (disch := omega) only [fLt_e, fBd_s, fJn_s, fNn_s, fNu_0, fNu_s, fBo_0, fBo_1, fBo_b, i_lit, i_neg1, nI_add, pk_mul, nI_clamp, i_le, i_lt, i_eq, fIx_n, nI_mI, mI_nI, mI_lt, nI_lt_m, mI_le, nI_le_m, xI_0, xI_s, bI_0, bI_1, bI_t, bI_f, n_31, j_bit, j_one, i_and, i_or, Nat.not_lt_zero, Nat.succ_ne_zero, Nat.add_one_ne_zero, Nat.add_one_sub_one, Nat.zero_le, Nat.or_zero, Nat.zero_or, Bool.not_true, Bool.not_false, Bool.true_and, Bool.false_and, Bool.and_true, Bool.and_false, ↓reduceIte, if_true, if_false, not_true_eq_false, not_false_eq_true, true_and, and_true, false_and, and_false, and_self, true_or, or_true, false_or, or_false, Nat.reduceEqDiff, Nat.reduceLT, Nat.reduceLeDiff, Nat.reduceAdd, Nat.reduceMul, Nat.reduceSub, Nat.add_zero, Nat.zero_add, Nat.mul_zero, Nat.zero_mul, ne_eq, Bool.not_eq_true, Bool.not_eq_false, reduceCtorEq, decide_true, decide_false, decide_eq_true_eq, decide_eq_false_iff_not, Bool.false_eq_true, if_pos, if_neg, H.1.2.2.1, c0, c1, hb]
    · simp (disch := omega) only [fLt_e, fBd_s, fJn_s, fNn_s, fNu_0, fNu_s, fBo_0, fBo_1, fBo_b, i_lit, i_neg1, nI_add, pk_mul, nI_clamp, i_le, i_lt, i_eq, fIx_n, nI_mI, mI_nI, mI_lt, nI_lt_m, mI_le, nI_le_m, xI_0, xI_s, bI_0, bI_1, bI_t, bI_f, n_31, j_bit, j_one, i_and, i_or, Nat.not_lt_zero, Nat.succ_ne_zero, Nat.add_one_ne_zero, Nat.add_one_sub_one, Nat.zero_le, Nat.or_zero, Nat.zero_or, Bool.not_true, Bool.not_false, Bool.true_and, Bool.false_and, Bool.and_true, Bool.and_false, ↓reduceIte, if_true, if_false, not_true_eq_false, not_false_eq_true, true_and, and_true, false_and, and_false, and_self, true_or, or_true, false_or, or_false, Nat.reduceEqDiff, Nat.reduceLT, Nat.reduceLeDiff, Nat.reduceAdd, Nat.reduceMul, Nat.reduceSub, Nat.add_zero, Nat.zero_add, Nat.mul_zero, Nat.zero_mul, ne_eq, Bool.not_eq_true, Bool.not_eq_false, reduceCtorEq, decide_true, decide_false, decide_eq_true_eq, decide_eq_false_iff_not, Bool.false_eq_true, if_pos, if_neg, H.1.2.2.1, c0, c1, hb, Nat.mul_one]) (fF_lt (by omega))
  refine Eq.trans e ?_
  show f_X7_linesOfRole_L4 q (nI r) (m + 1) (nI (zs (fun s => if (G (37 + s)).testBit r then G (25 + s) else 0) (G 2))) (nI (G 2)) sc = _
  rw [f_X7_linesOfRole_L4]
  simp (disch := omega) only [fLt_e, fBd_s, fJn_s, fNn_s, fNu_0, fNu_s, fBo_0, fBo_1, fBo_b, i_lit, i_neg1, nI_add, pk_mul, nI_clamp, i_le, i_lt, i_eq, fIx_n, nI_mI, mI_nI, mI_lt, nI_lt_m, mI_le, nI_le_m, xI_0, xI_s, bI_0, bI_1, bI_t, bI_f, n_31, j_bit, j_one, i_and, i_or, Nat.not_lt_zero, Nat.succ_ne_zero, Nat.add_one_ne_zero, Nat.add_one_sub_one, Nat.zero_le, Nat.or_zero, Nat.zero_or, Bool.not_true, Bool.not_false, Bool.true_and, Bool.false_and, Bool.and_true, Bool.and_false, ↓reduceIte, if_true, if_false, not_true_eq_false, not_false_eq_true, true_and, and_true, false_and, and_false, and_self, true_or, or_true, false_or, or_false, Nat.reduceEqDiff, Nat.reduceLT, Nat.reduceLeDiff, Nat.reduceAdd, Nat.reduceMul, Nat.reduceSub, Nat.add_zero, Nat.zero_add, Nat.mul_zero, Nat.zero_mul, ne_eq, Bool.not_eq_true, Bool.not_eq_false, reduceCtorEq, decide_true, decide_false, decide_eq_true_eq, decide_eq_false_iff_not, Bool.false_eq_true, if_pos, if_neg, H.1.2.2.1]
  rfl
theorem m_breathsFor (B : rBlk (gA sm 12 0 5) G) (w : gWf G) {r : Nat} (hr : r < 6) (n : Nat) : f_X12_breathsFor (nI r) (nI n) sm = some (nI (glr G r * n), sm) := by
  have h := w.1
  unfold f_X12_breathsFor
  obtain ⟨m, e⟩ := lp_run (fun m (t : Int32 × Int32) => f_X12_breathsFor_L5 (nI r) (nI n) m t.1 t.2 sm) (fun t => (nI (zs (fun s => if (G (37 + s)).testBit r then G (25 + s) else 0) t), nI t)) (G 2) (fun m t ht => by
    show f_X12_breathsFor_L5 (nI r) (nI n) (m + 1) (nI (zs (fun s => if (G (37 + s)).testBit r then G (25 + s) else 0) t)) (nI t) sm = f_X12_breathsFor_L5 (nI r) (nI n) m (nI (zs (fun s => if (G (37 + s)).testBit r then G (25 + s) else 0) (t + 1))) (nI (t + 1)) sm
    have hp := w_pl w ht
    obtain ⟨c0, c1, -⟩ := B.2.2.1 t ht
    rw [f_X12_breathsFor_L5, zs_s]
    cases hb : (G (37 + t)).testBit r
    · simp (disch := omega) only [fLt_e, fBd_s, fJn_s, fNn_s, fNu_0, fNu_s, fBo_0, fBo_1, fBo_b, i_lit, i_neg1, nI_add, pk_mul, nI_clamp, i_le, i_lt, i_eq, fIx_n, nI_mI, mI_nI, mI_lt, nI_lt_m, mI_le, nI_le_m, xI_0, xI_s, bI_0, bI_1, bI_t, bI_f, n_31, j_bit, j_one, i_and, i_or, Nat.not_lt_zero, Nat.succ_ne_zero, Nat.add_one_ne_zero, Nat.add_one_sub_one, Nat.zero_le, Nat.or_zero, Nat.zero_or, Bool.not_true, Bool.not_false, Bool.true_and, Bool.false_and, Bool.and_true, Bool.and_false, ↓reduceIte, if_true, if_false, not_true_eq_false, not_false_eq_true, true_and, and_true, false_and, and_false, and_self, true_or, or_true, false_or, or_false, Nat.reduceEqDiff, Nat.reduceLT, Nat.reduceLeDiff, Nat.reduceAdd, Nat.reduceMul, Nat.reduceSub, Nat.add_zero, Nat.zero_add, Nat.mul_zero, Nat.zero_mul, ne_eq, Bool.not_eq_true, Bool.not_eq_false, reduceCtorEq, decide_true, decide_false, decide_eq_true_eq, decide_eq_false_iff_not, Bool.false_eq_true, if_pos, if_neg, B.1.2.2.1, c0, c1, m_has, hb]
    · simp (disch := omega) only [fLt_e, fBd_s, fJn_s, fNn_s, fNu_0, fNu_s, fBo_0, fBo_1, fBo_b, i_lit, i_neg1, nI_add, pk_mul, nI_clamp, i_le, i_lt, i_eq, fIx_n, nI_mI, mI_nI, mI_lt, nI_lt_m, mI_le, nI_le_m, xI_0, xI_s, bI_0, bI_1, bI_t, bI_f, n_31, j_bit, j_one, i_and, i_or, Nat.not_lt_zero, Nat.succ_ne_zero, Nat.add_one_ne_zero, Nat.add_one_sub_one, Nat.zero_le, Nat.or_zero, Nat.zero_or, Bool.not_true, Bool.not_false, Bool.true_and, Bool.false_and, Bool.and_true, Bool.and_false, ↓reduceIte, if_true, if_false, not_true_eq_false, not_false_eq_true, true_and, and_true, false_and, and_false, and_self, true_or, or_true, false_or, or_false, Nat.reduceEqDiff, Nat.reduceLT, Nat.reduceLeDiff, Nat.reduceAdd, Nat.reduceMul, Nat.reduceSub, Nat.add_zero, Nat.zero_add, Nat.mul_zero, Nat.zero_mul, ne_eq, Bool.not_eq_true, Bool.not_eq_false, reduceCtorEq, decide_true, decide_false, decide_eq_true_eq, decide_eq_false_iff_not, Bool.false_eq_true, if_pos, if_neg, B.1.2.2.1, c0, c1, m_has, hb]) (fF_lt (by omega))
  refine Eq.trans e ?_
  show f_X12_breathsFor_L5 (nI r) (nI n) (m + 1) (nI (zs (fun s => if (G (37 + s)).testBit r then G (25 + s) else 0) (G 2))) (nI (G 2)) sm = _
  rw [f_X12_breathsFor_L5]
  simp (disch := omega) only [fLt_e, fBd_s, fJn_s, fNn_s, fNu_0, fNu_s, fBo_0, fBo_1, fBo_b, i_lit, i_neg1, nI_add, pk_mul, nI_clamp, i_le, i_lt, i_eq, fIx_n, nI_mI, mI_nI, mI_lt, nI_lt_m, mI_le, nI_le_m, xI_0, xI_s, bI_0, bI_1, bI_t, bI_f, n_31, j_bit, j_one, i_and, i_or, Nat.not_lt_zero, Nat.succ_ne_zero, Nat.add_one_ne_zero, Nat.add_one_sub_one, Nat.zero_le, Nat.or_zero, Nat.zero_or, Bool.not_true, Bool.not_false, Bool.true_and, Bool.false_and, Bool.and_true, Bool.and_false, ↓reduceIte, if_true, if_false, not_true_eq_false, not_false_eq_true, true_and, and_true, false_and, and_false, and_self, true_or, or_true, false_or, or_false, Nat.reduceEqDiff, Nat.reduceLT, Nat.reduceLeDiff, Nat.reduceAdd, Nat.reduceMul, Nat.reduceSub, Nat.add_zero, Nat.zero_add, Nat.mul_zero, Nat.zero_mul, ne_eq, Bool.not_eq_true, Bool.not_eq_false, reduceCtorEq, decide_true, decide_false, decide_eq_true_eq, decide_eq_false_iff_not, Bool.false_eq_true, if_pos, if_neg, B.1.2.2.1]
  rfl
end
theorem call_breaths (a b : Int32) : CALL (f_X11_breaths a b) (f_X12_breaths a b) := by
  intro sc sm ⟨hA, H⟩
  have H := pro_x H
  have z := pro_0 sm
  unfold f_X11_breaths f_X12_breaths
  simp only [fLt_e, pro_eq]
  generalize pro sm = s2 at *
  have i1 : (1 : Int32).toInt = 1 := rfl
  have i7 : (7 : Int32).toInt = 7 := rfl
  have j1 : (1 : Int64).toInt = 1 := rfl
  have j7 : (7 : Int64).toInt = 7 := rfl
  obtain ⟨q, G, w, X, B, -⟩ := RX_cur H
  have w1 := w.1
  rw [x_hasRole X w, m_isRoleAt B w]
  cases hb : inB a.toInt 0 (G 0 - 1)
  · simp only [fLt_e, fBd_s, fJn_s, fNn_s, fNu_0, fNu_s, fBo_0, fBo_1, fBo_b, i_lit, i_neg1, nI_add, pk_mul, nI_clamp, i_le, i_lt, i_eq, fIx_n, nI_mI, mI_nI, mI_lt, nI_lt_m, mI_le, nI_le_m, xI_0, xI_s, bI_0, bI_1, bI_t, bI_f, n_31, j_bit, j_one, i_and, i_or, Nat.not_lt_zero, Nat.succ_ne_zero, Nat.add_one_ne_zero, Nat.add_one_sub_one, Nat.zero_le, Nat.or_zero, Nat.zero_or, Bool.not_true, Bool.not_false, Bool.true_and, Bool.false_and, Bool.and_true, Bool.and_false, ↓reduceIte, if_true, if_false, not_true_eq_false, not_false_eq_true, true_and, and_true, false_and, and_false, and_self, true_or, or_true, false_or, or_false, Nat.reduceEqDiff, Nat.reduceLT, Nat.reduceLeDiff, Nat.reduceAdd, Nat.reduceMul, Nat.reduceSub, Nat.add_zero, Nat.zero_add, Nat.mul_zero, Nat.zero_mul, ne_eq, Bool.not_eq_true, Bool.not_eq_false, reduceCtorEq, decide_true, decide_false, decide_eq_true_eq, decide_eq_false_iff_not, Bool.false_eq_true, if_pos, if_neg, f_X11_fail, f_X12_refuse]
    exact ⟨_, _, _, rfl, rfl, fin_st H _⟩
  · have hb := inB_t.mp hb
    obtain ⟨r, hr, rfl, -⟩ := nI_ofInt (n := G 0) hb.1 (by omega)
    simp only [fBd_s, x_isIn, m_isIn_c, i1, i7, j1, j7]
    by_cases hc : 1 ≤ b.toInt ∧ b.toInt ≤ 7
    · rw [inB_t.mpr hc]
      obtain ⟨n, hn, rfl, -⟩ := nI_ofInt (a := b) (n := 8) (by omega) (by omega)
      simp (disch := omega) only [fLt_e, fBd_s, fJn_s, fNn_s, fNu_0, fNu_s, fBo_0, fBo_1, fBo_b, i_lit, i_neg1, nI_add, pk_mul, nI_clamp, i_le, i_lt, i_eq, fIx_n, nI_mI, mI_nI, mI_lt, nI_lt_m, mI_le, nI_le_m, xI_0, xI_s, bI_0, bI_1, bI_t, bI_f, n_31, j_bit, j_one, i_and, i_or, Nat.not_lt_zero, Nat.succ_ne_zero, Nat.add_one_ne_zero, Nat.add_one_sub_one, Nat.zero_le, Nat.or_zero, Nat.zero_or, Bool.not_true, Bool.not_false, Bool.true_and, Bool.false_and, Bool.and_true, Bool.and_false, ↓reduceIte, if_true, if_false, not_true_eq_false, not_false_eq_true, true_and, and_true, false_and, and_false, and_self, true_or, or_true, false_or, or_false, Nat.reduceEqDiff, Nat.reduceLT, Nat.reduceLeDiff, Nat.reduceAdd, Nat.reduceMul, Nat.reduceSub, Nat.add_zero, Nat.zero_add, Nat.mul_zero, Nat.zero_mul, ne_eq, Bool.not_eq_true, Bool.not_eq_false, reduceCtorEq, decide_true, decide_false, decide_eq_true_eq, decide_eq_false_iff_not, Bool.false_eq_true, if_pos, if_neg, X.1, x_linesOfRole X.2.1 w (show r < 6 by omega), m_breathsFor B w (show r < 6 by omega), f_X11_answer]
      exact ⟨_, _, _, rfl, rfl, fin_0 H z⟩
    · rw [inB_f.mpr hc]
      simp (disch := omega) only [fLt_e, fBd_s, fJn_s, fNn_s, fNu_0, fNu_s, fBo_0, fBo_1, fBo_b, i_lit, i_neg1, nI_add, pk_mul, nI_clamp, i_le, i_lt, i_eq, fIx_n, nI_mI, mI_nI, mI_lt, nI_lt_m, mI_le, nI_le_m, xI_0, xI_s, bI_0, bI_1, bI_t, bI_f, n_31, j_bit, j_one, i_and, i_or, Nat.not_lt_zero, Nat.succ_ne_zero, Nat.add_one_ne_zero, Nat.add_one_sub_one, Nat.zero_le, Nat.or_zero, Nat.zero_or, Bool.not_true, Bool.not_false, Bool.true_and, Bool.false_and, Bool.and_true, Bool.and_false, ↓reduceIte, if_true, if_false, not_true_eq_false, not_false_eq_true, true_and, and_true, false_and, and_false, and_self, true_or, or_true, false_or, or_false, Nat.reduceEqDiff, Nat.reduceLT, Nat.reduceLeDiff, Nat.reduceAdd, Nat.reduceMul, Nat.reduceSub, Nat.add_zero, Nat.zero_add, Nat.mul_zero, Nat.zero_mul, ne_eq, Bool.not_eq_true, Bool.not_eq_false, reduceCtorEq, decide_true, decide_false, decide_eq_true_eq, decide_eq_false_iff_not, Bool.false_eq_true, if_pos, if_neg, f_X11_fail, f_X12_refuse]
      exact ⟨_, _, _, rfl, rfl, fin_st H _⟩
