/-! layer 2: lot, book, unseen, led, heard, suspects, breaths -/
theorem itr_lok {G : Nat → Nat} {kd : Nat} (w : gWf G) : ∀ n k t, pOk G t → pOk G (itq (lsq G kd) n k t) := itr_inv (pOk G) (fun k t h => by
  unfold lsq
  split
  · exact h
  · rename_i hz
    exact gst_ok w (by omega) h (gda_lt _ _ _) (rnx_lt _))
theorem itr_lseen {G : Nat → Nat} {kd n k : Nat} {t : pSt} (hn : 0 < n) (h : 0 < t.1) : 0 < (itq (lsq G kd) n k t).2.2.1 := by
  obtain ⟨n, rfl⟩ : ∃ m, n = m + 1 := ⟨n - 1, by omega⟩
  have key : ∀ k t, 0 < t.2.2.1 → 0 < (lsq G kd k t).2.2.1 := by
    intro k t h
    unfold lsq
    split
    · exact h
    · exact Nat.lt_of_lt_of_le h Nat.left_le_or
  refine itr_inv (fun t : pSt => 0 < t.2.2.1) key n (k + 1) _ ?_
  show 0 < (lsq G kd k t).2.2.1
  unfold lsq
  rw [if_neg (by omega)]
  show 0 < t.2.2.1 ||| 2 ^ (t.1 - 1)
  exact Nat.lt_of_lt_of_le (Nat.two_pow_pos (t.1 - 1)) Nat.right_le_or
theorem gpl_full {G : Nat → Nat} {g : Nat} (h : ¬ gpl G (G 2) g = 0) : gpl G (G 2) g = G 2 := by
  unfold gpl at h ⊢
  by_cases h0 : G 2 = 0
  · rw [if_pos h0] at h; exact absurd rfl h
  · rw [if_neg h0] at h ⊢
    by_cases h1 : gcan G (G 2 - 1) g = true
    · rw [if_pos h1]
    · rw [if_neg h1] at h; exact absurd rfl h
theorem nI_sub1 (n : Nat) : nI n - nI 1 = xI n := by
  cases n with
  | zero => rfl
  | succ n => exact nI_pred n
section
variable {sc sm : fSt} {q : Nat} {G : Nat → Nat}
/-- a night for a kind: the last state of its play -/
def gln (G : Nat → Nat) (kd r : Nat) : pSt := itq (lsq G kd) 12 0 (G 2, G 5, 0, 0, 0, r)
theorem gln_ok (w : gWf G) (hz : ¬ gpl G (G 2) (G 5) = 0) {kd r : Nat} (hr : r < 65536) : pOk G (gln G kd r) ∧ 0 < (gln G kd r).2.2.1 := by
  have w1 := w.1
  have w2 := w.2.1
  unfold gln
  refine ⟨itr_lok w 12 0 _ ⟨Nat.le_refl _, w2.2.1, by simp, by simp, by simp; omega, by simp; omega⟩, itr_lseen (by omega) ?_⟩
  have := gpl_full hz
  simp only
  omega
theorem x_playFor (X : rHou sc 0 q G) (w : gWf G) (hz : ¬ gpl G (G 2) (G 5) = 0) {i kd r : Nat} (hkd : kd < G 3) (hr : r < 65536) {A : Nat → Int32} (hA : A 6 = nI r) : f_X3_playFor i 0 (nI kd) (oS sc 3 i 0 7 A) = some ((), oS sc 3 i 0 7 (aNi (gln G kd r) (nI kd) (nI (gln G kd r).2.2.2.2.2))) := by
  have w1 := w.1
  have w2 := w.2.1
  unfold gln
  have ho := x_open X w i (nI kd) A
  rw [gpl_full hz, hA] at ho
  have hL := x_lotL X w (i := i) hkd (fun s3 => some ((), s3)) (nI kd) 12 0 (G 2, G 5, 0, 0, 0, r) fF (by omega) ⟨Nat.le_refl _, w2.2.1, by simp, by simp, by simp; omega, by simp; omega⟩ (fF_lt (by omega))
  unfold f_X3_playFor
  simp only [fLt_e, fBd_s, fJn_s, i_lit, ho]
  exact hL
theorem m_playFor (B : rBlk (gA sm 12 0 5) G) (w : gWf G) (hz : ¬ gpl G (G 2) (G 5) = 0) {kd r : Nat} (hkd : kd < G 3) (hr : r < 65536) {A : Nat → Int32} (hA : A 28 = nI r) : ∃ g, f_X12_playFor (nI kd) (oS sm 12 0 25 29 A) = some ((), sA (oS sm 12 0 25 29 (aM (gln G kd r) (nI (gln G kd r).2.2.2.2.2))) 12 0 5 g) ∧ g 6 = nI (min 20 (G 6 + 1)) ∧ (g 137 = nI (gln G kd r).2.2.1 ∧ g 138 = xI (gln G kd r).2.2.2.1 ∧ g 139 = nI kd ∧ g 140 = nI (gln G kd r).2.2.2.2.1) ∧ (∀ p, 141 ≤ p → p < 217 → g p = gA sm 12 0 5 (p - 4)) ∧ ∀ p, p < 6 ∨ (7 ≤ p ∧ p < 137) ∨ 217 ≤ p → g p = gA sm 12 0 5 p := by
  have w1 := w.1
  have w2 := w.2.1
  have hg := gpl_full hz
  unfold gln
  obtain ⟨g, m1, m2⟩ := m_books B w (itq (lsq G kd) 12 0 (G 2, G 5, 0, 0, 0, r)) (nI (itq (lsq G kd) 12 0 (G 2, G 5, 0, 0, 0, r)).2.2.2.2.2) (nI kd)
  refine ⟨g, ?_, m2⟩
  have hra : f_X12_raises (oS sm 12 0 25 29 A) = some ((), oS sm 12 0 25 29 (upd (upd A 25 (nI 0)) 27 (nI 0))) := by
    unfold f_X12_raises
    simp only [fLt_e, i_lit]
    rw [oS_sI (by omega), oS_sI (by omega)]
  have hL := m_lotL B w hkd 12 0 (G 2, G 5, 0, 0, 0, r) fF 0 (upd (upd A 25 (nI 0)) 27 (nI 0)) w1.2.2.1 (by omega) ⟨Nat.le_refl _, w2.2.1, by simp, by simp, by simp; omega, by simp; omega⟩ (by omega) (by simp) (fF_lt (by omega)) rfl rfl hA (fun hh => by simp only at hh; omega)
  unfold f_X12_playFor
  simp (disch := omega) only [fLt_e, fBd_s, fJn_s, fNn_s, fNu_0, fNu_s, fBo_0, fBo_1, fBo_b, i_lit, i_neg1, nI_add, pk_mul, nI_clamp, i_le, i_lt, i_eq, fIx_n, nI_mI, mI_nI, mI_lt, nI_lt_m, mI_le, nI_le_m, xI_0, xI_s, bI_0, bI_1, bI_t, bI_f, n_31, j_bit, j_one, i_and, i_or, Nat.not_lt_zero, Nat.succ_ne_zero, Nat.add_one_ne_zero, Nat.add_one_sub_one, Nat.zero_le, Nat.or_zero, Nat.zero_or, Bool.not_true, Bool.not_false, Bool.true_and, Bool.false_and, Bool.and_true, Bool.and_false, ↓reduceIte, if_true, if_false, not_true_eq_false, not_false_eq_true, true_and, and_true, false_and, and_false, and_self, true_or, or_true, false_or, or_false, Nat.reduceEqDiff, Nat.reduceLT, Nat.reduceLeDiff, Nat.reduceAdd, Nat.reduceMul, Nat.reduceSub, Nat.add_zero, Nat.zero_add, Nat.mul_zero, Nat.zero_mul, ne_eq, Bool.not_eq_true, Bool.not_eq_false, reduceCtorEq, decide_true, decide_false, decide_eq_true_eq, decide_eq_false_iff_not, Bool.false_eq_true, if_pos, if_neg, hra, gA_oS, B.1.2.2.1, nI_sub1]
  simp only [i_lit] at hL
  rw [hL, m1]
  rfl
end
theorem call_lot (a : Int32) : CALL (f_X11_lot a) (f_X12_lot a) := by
  intro sc sm ⟨hA, H⟩
  have H := pro_x H
  have z := pro_0 sm
  unfold f_X11_lot f_X12_lot
  simp only [fLt_e, pro_eq]
  generalize pro sm = s2 at *
  have i0 : (0 : Int32).toInt = 0 := rfl
  have i9 : (9999 : Int32).toInt = 9999 := rfl
  have l9 : (9999 : Int64).toInt = 9999 := rfl
  rw [x_isIn, m_isIn_c, i0, i9, l0i, l9]
  obtain ⟨q, G, w, X, B, -⟩ := RX_cur H
  have w1 := w.1
  have w2 := w.2.1
  by_cases ha : 0 ≤ a.toInt ∧ a.toInt ≤ 9999
  · rw [inB_t.mpr ha]
    obtain ⟨r, hr, rfl, -⟩ := nI_ofInt (n := 10000) ha.1 (by omega)
    by_cases h3 : G 3 = 0
    · simp (disch := omega) only [fLt_e, fBd_s, fJn_s, fNn_s, fNu_0, fNu_s, fBo_0, fBo_1, fBo_b, i_lit, i_neg1, nI_add, pk_mul, nI_clamp, i_le, i_lt, i_eq, fIx_n, nI_mI, mI_nI, mI_lt, nI_lt_m, mI_le, nI_le_m, xI_0, xI_s, bI_0, bI_1, bI_t, bI_f, n_31, j_bit, j_one, i_and, i_or, Nat.not_lt_zero, Nat.succ_ne_zero, Nat.add_one_ne_zero, Nat.add_one_sub_one, Nat.zero_le, Nat.or_zero, Nat.zero_or, Bool.not_true, Bool.not_false, Bool.true_and, Bool.false_and, Bool.and_true, Bool.and_false, ↓reduceIte, if_true, if_false, not_true_eq_false, not_false_eq_true, true_and, and_true, false_and, and_false, and_self, true_or, or_true, false_or, or_false, Nat.reduceEqDiff, Nat.reduceLT, Nat.reduceLeDiff, Nat.reduceAdd, Nat.reduceMul, Nat.reduceSub, Nat.add_zero, Nat.zero_add, Nat.mul_zero, Nat.zero_mul, ne_eq, Bool.not_eq_true, Bool.not_eq_false, reduceCtorEq, decide_true, decide_false, decide_eq_true_eq, decide_eq_false_iff_not, Bool.false_eq_true, if_pos, if_neg, X.1, X.2.1.1.2.2.2, B.1.2.2.2.1, h3, f_X11_fail, f_X12_refuse]
      exact ⟨_, _, _, rfl, rfl, fin_st H _⟩
    · have E6 := x_canOpen X w
      have E7 := m_isDark B w
      by_cases hz : gpl G (G 2) (G 5) = 0
      · simp (disch := omega) only [fLt_e, fBd_s, fJn_s, fNn_s, fNu_0, fNu_s, fBo_0, fBo_1, fBo_b, i_lit, i_neg1, nI_add, pk_mul, nI_clamp, i_le, i_lt, i_eq, fIx_n, nI_mI, mI_nI, mI_lt, nI_lt_m, mI_le, nI_le_m, xI_0, xI_s, bI_0, bI_1, bI_t, bI_f, n_31, j_bit, j_one, i_and, i_or, Nat.not_lt_zero, Nat.succ_ne_zero, Nat.add_one_ne_zero, Nat.add_one_sub_one, Nat.zero_le, Nat.or_zero, Nat.zero_or, Bool.not_true, Bool.not_false, Bool.true_and, Bool.false_and, Bool.and_true, Bool.and_false, ↓reduceIte, if_true, if_false, not_true_eq_false, not_false_eq_true, true_and, and_true, false_and, and_false, and_self, true_or, or_true, false_or, or_false, Nat.reduceEqDiff, Nat.reduceLT, Nat.reduceLeDiff, Nat.reduceAdd, Nat.reduceMul, Nat.reduceSub, Nat.add_zero, Nat.zero_add, Nat.mul_zero, Nat.zero_mul, ne_eq, Bool.not_eq_true, Bool.not_eq_false, reduceCtorEq, decide_true, decide_false, decide_eq_true_eq, decide_eq_false_iff_not, Bool.false_eq_true, if_pos, if_neg, X.1, X.2.1.1.2.2.2, B.1.2.2.2.1, h3, E6, E7, hz, f_X11_fail, f_X12_refuse]
        exact ⟨_, _, _, rfl, rfl, fin_st H _⟩
      · have e1 : f_X3_sow 0 (nI r) sc = some ((), oS sc 3 0 0 7 (upd (gI sc 3 0) 6 (nI r))) := by
          have h : sI sc 3 0 6 (nI r) = sI (oS sc 3 0 0 7 (gI sc 3 0)) 3 0 6 (nI r) := by rw [← oS_0]
          unfold f_X3_sow
          rw [fLt_e, h, oS_sI (by omega)]
        have e2 : sI s2 12 0 28 (nI r) = oS s2 12 0 25 29 (upd (gI s2 12 0) 28 (nI r)) := by
          have h : sI s2 12 0 28 (nI r) = sI (oS s2 12 0 25 29 (gI s2 12 0)) 12 0 28 (nI r) := by rw [← oS_0]
          rw [h, oS_sI (by omega)]
        have e3 := x_drawKind X w (show 0 < G 3 by omega) (i := 0) (r := r) (A := upd (gI sc 3 0) 6 (nI r)) rfl (by omega)
        have e4 := m_drawnKind B w (show 0 < G 3 by omega) (r := r) (A := upd (gI s2 12 0) 28 (nI r)) rfl (by omega)
        have hk : gdk G (G 3 - 1) (rnx r / 8 % glt G) 0 < G 3 := by
          have := gdk_le G (G 3 - 1) (rnx r / 8 % glt G) 0
          omega
        generalize gdk G (G 3 - 1) (rnx r / 8 % glt G) 0 = kd at *
        have e5 := x_playFor X w hz (i := 0) hk (rnx_lt r) (A := upd (upd (gI sc 3 0) 6 (nI r)) 6 (nI (rnx r))) rfl
        obtain ⟨g, m1, m2, m3, m4, m5⟩ := m_playFor B w hz hk (rnx_lt r) (A := upd (upd (gI s2 12 0) 28 (nI r)) 28 (nI (rnx r))) rfl
        obtain ⟨⟨f1, f2, f3, f4, f5, f6⟩, hse⟩ := gln_ok (kd := kd) w hz (rnx_lt r)
        generalize gln G kd (rnx r) = tF at *
        obtain ⟨e, n1, n2, n3⟩ := x_note X w 0 (aNi tF (nI kd) (nI tF.2.2.2.2.2))
        simp (disch := omega) only [fLt_e, fBd_s, fJn_s, fNn_s, fNu_0, fNu_s, fBo_0, fBo_1, fBo_b, i_lit, i_neg1, nI_add, pk_mul, nI_clamp, i_le, i_lt, i_eq, fIx_n, nI_mI, mI_nI, mI_lt, nI_lt_m, mI_le, nI_le_m, xI_0, xI_s, bI_0, bI_1, bI_t, bI_f, n_31, j_bit, j_one, i_and, i_or, Nat.not_lt_zero, Nat.succ_ne_zero, Nat.add_one_ne_zero, Nat.add_one_sub_one, Nat.zero_le, Nat.or_zero, Nat.zero_or, Bool.not_true, Bool.not_false, Bool.true_and, Bool.false_and, Bool.and_true, Bool.and_false, ↓reduceIte, if_true, if_false, not_true_eq_false, not_false_eq_true, true_and, and_true, false_and, and_false, and_self, true_or, or_true, false_or, or_false, Nat.reduceEqDiff, Nat.reduceLT, Nat.reduceLeDiff, Nat.reduceAdd, Nat.reduceMul, Nat.reduceSub, Nat.add_zero, Nat.zero_add, Nat.mul_zero, Nat.zero_mul, ne_eq, Bool.not_eq_true, Bool.not_eq_false, reduceCtorEq, decide_true, decide_false, decide_eq_true_eq, decide_eq_false_iff_not, Bool.false_eq_true, if_pos, if_neg, X.1, X.2.1.1.2.2.2, B.1.2.2.2.1, h3, E6, E7, hz, e1, e2, gP_oS, e3, e4, e5, m1, n1, gI_sI, gI_sA, gI_oS, aNi, f_X11_answer]
        exact ⟨_, _, _, rfl, rfl, fin_0 (up_night H (fun q' G' w' X' _ => min_same X w X' w') (kd := kd + 1) ⟨hse, f3, f4, by omega, by omega⟩ n2 n3 m2 m3 m4 m5) z⟩
  · rw [inB_f.mpr ha]
    simp (disch := omega) only [fLt_e, fBd_s, fJn_s, fNn_s, fNu_0, fNu_s, fBo_0, fBo_1, fBo_b, i_lit, i_neg1, nI_add, pk_mul, nI_clamp, i_le, i_lt, i_eq, fIx_n, nI_mI, mI_nI, mI_lt, nI_lt_m, mI_le, nI_le_m, xI_0, xI_s, bI_0, bI_1, bI_t, bI_f, n_31, j_bit, j_one, i_and, i_or, Nat.not_lt_zero, Nat.succ_ne_zero, Nat.add_one_ne_zero, Nat.add_one_sub_one, Nat.zero_le, Nat.or_zero, Nat.zero_or, Bool.not_true, Bool.not_false, Bool.true_and, Bool.false_and, Bool.and_true, Bool.and_false, ↓reduceIte, if_true, if_false, not_true_eq_false, not_false_eq_true, true_and, and_true, false_and, and_false, and_self, true_or, or_true, false_or, or_false, Nat.reduceEqDiff, Nat.reduceLT, Nat.reduceLeDiff, Nat.reduceAdd, Nat.reduceMul, Nat.reduceSub, Nat.add_zero, Nat.zero_add, Nat.mul_zero, Nat.zero_mul, ne_eq, Bool.not_eq_true, Bool.not_eq_false, reduceCtorEq, decide_true, decide_false, decide_eq_true_eq, decide_eq_false_iff_not, Bool.false_eq_true, if_pos, if_neg, f_X11_fail, f_X12_refuse]
    exact ⟨_, _, _, rfl, rfl, fin_st H _⟩
theorem call_book (a b : Int32) : CALL (f_X11_book a b) (f_X12_book a b) := by
  intro sc sm ⟨hA, H⟩
  have H := pro_x H
  have z := pro_0 sm
  unfold f_X11_book f_X12_book
  simp only [fLt_e, pro_eq]
  generalize pro sm = s2 at *
  have i0 : (0 : Int32).toInt = 0 := rfl
  have i3 : (3 : Int32).toInt = 3 := rfl
  rw [x_isIn, m_isIn_c, i0, i3, l0i, l3i]
  obtain ⟨q, G, w, X, B, -⟩ := RX_cur H
  have w1 := w.1
  have w2 := w.2.1
  have F := fin_0 H z
  by_cases hb : 0 ≤ b.toInt ∧ b.toInt ≤ 3
  · rw [inB_t.mpr hb]
    obtain ⟨j, hj, rfl, -⟩ := nI_ofInt (n := 4) hb.1 (by omega)
    have E1 := x_isBelow a (G 6) (by omega) sc
    have E2 := m_isIn_n a (G 6) (by omega) s2
    by_cases ha : 0 ≤ a.toInt ∧ a.toInt < G 6
    · rw [inB_t.mpr (by omega)] at E1 E2
      obtain ⟨k, hk, rfl, -⟩ := nI_ofInt (n := G 6) ha.1 (by omega)
      obtain ⟨c0, c1, c2, c3⟩ := X.2.2.2.2 k hk
      obtain ⟨b0, b1, b2, b3⟩ := B.2.2.2.2.1 k hk
      simp only [l_lit] at E2
      unfold f_X0_entry
      rcases (show j = 0 ∨ j = 1 ∨ j = 2 ∨ j = 3 by omega) with rfl | rfl | rfl | rfl
      · simp (disch := omega) only [fLt_e, fBd_s, fJn_s, fNn_s, fNu_0, fNu_s, fBo_0, fBo_1, fBo_b, i_lit, i_neg1, nI_add, pk_mul, nI_clamp, i_le, i_lt, i_eq, fIx_n, nI_mI, mI_nI, mI_lt, nI_lt_m, mI_le, nI_le_m, xI_0, xI_s, bI_0, bI_1, bI_t, bI_f, n_31, j_bit, j_one, i_and, i_or, Nat.not_lt_zero, Nat.succ_ne_zero, Nat.add_one_ne_zero, Nat.add_one_sub_one, Nat.zero_le, Nat.or_zero, Nat.zero_or, Bool.not_true, Bool.not_false, Bool.true_and, Bool.false_and, Bool.and_true, Bool.and_false, ↓reduceIte, if_true, if_false, not_true_eq_false, not_false_eq_true, true_and, and_true, false_and, and_false, and_self, true_or, or_true, false_or, or_false, Nat.reduceEqDiff, Nat.reduceLT, Nat.reduceLeDiff, Nat.reduceAdd, Nat.reduceMul, Nat.reduceSub, Nat.add_zero, Nat.zero_add, Nat.mul_zero, Nat.zero_mul, ne_eq, Bool.not_eq_true, Bool.not_eq_false, reduceCtorEq, decide_true, decide_false, decide_eq_true_eq, decide_eq_false_iff_not, Bool.false_eq_true, if_pos, if_neg, l_lit, X.2.2.2.1, B.1.2.2.2.2.2.2, E1, E2, c0, b0, f_X11_answer]
        exact ⟨_, _, _, rfl, rfl, F⟩
      · have e : 137 + 4 * k + 1 = 138 + 4 * k := by omega
        simp (disch := omega) only [fLt_e, fBd_s, fJn_s, fNn_s, fNu_0, fNu_s, fBo_0, fBo_1, fBo_b, i_lit, i_neg1, nI_add, pk_mul, nI_clamp, i_le, i_lt, i_eq, fIx_n, nI_mI, mI_nI, mI_lt, nI_lt_m, mI_le, nI_le_m, xI_0, xI_s, bI_0, bI_1, bI_t, bI_f, n_31, j_bit, j_one, i_and, i_or, Nat.not_lt_zero, Nat.succ_ne_zero, Nat.add_one_ne_zero, Nat.add_one_sub_one, Nat.zero_le, Nat.or_zero, Nat.zero_or, Bool.not_true, Bool.not_false, Bool.true_and, Bool.false_and, Bool.and_true, Bool.and_false, ↓reduceIte, if_true, if_false, not_true_eq_false, not_false_eq_true, true_and, and_true, false_and, and_false, and_self, true_or, or_true, false_or, or_false, Nat.reduceEqDiff, Nat.reduceLT, Nat.reduceLeDiff, Nat.reduceAdd, Nat.reduceMul, Nat.reduceSub, Nat.add_zero, Nat.zero_add, Nat.mul_zero, Nat.zero_mul, ne_eq, Bool.not_eq_true, Bool.not_eq_false, reduceCtorEq, decide_true, decide_false, decide_eq_true_eq, decide_eq_false_iff_not, Bool.false_eq_true, if_pos, if_neg, l_lit, X.2.2.2.1, B.1.2.2.2.2.2.2, E1, E2, c1, e, b1, f_X11_answer]
        exact ⟨_, _, _, rfl, rfl, F⟩
      · have e : 137 + 4 * k + 2 = 139 + 4 * k := by omega
        simp (disch := omega) only [fLt_e, fBd_s, fJn_s, fNn_s, fNu_0, fNu_s, fBo_0, fBo_1, fBo_b, i_lit, i_neg1, nI_add, pk_mul, nI_clamp, i_le, i_lt, i_eq, fIx_n, nI_mI, mI_nI, mI_lt, nI_lt_m, mI_le, nI_le_m, xI_0, xI_s, bI_0, bI_1, bI_t, bI_f, n_31, j_bit, j_one, i_and, i_or, Nat.not_lt_zero, Nat.succ_ne_zero, Nat.add_one_ne_zero, Nat.add_one_sub_one, Nat.zero_le, Nat.or_zero, Nat.zero_or, Bool.not_true, Bool.not_false, Bool.true_and, Bool.false_and, Bool.and_true, Bool.and_false, ↓reduceIte, if_true, if_false, not_true_eq_false, not_false_eq_true, true_and, and_true, false_and, and_false, and_self, true_or, or_true, false_or, or_false, Nat.reduceEqDiff, Nat.reduceLT, Nat.reduceLeDiff, Nat.reduceAdd, Nat.reduceMul, Nat.reduceSub, Nat.add_zero, Nat.zero_add, Nat.mul_zero, Nat.zero_mul, ne_eq, Bool.not_eq_true, Bool.not_eq_false, reduceCtorEq, decide_true, decide_false, decide_eq_true_eq, decide_eq_false_iff_not, Bool.false_eq_true, if_pos, if_neg, l_lit, X.2.2.2.1, B.1.2.2.2.2.2.2, E1, E2, c2, e, b2, f_X11_answer]
        exact ⟨_, _, _, rfl, rfl, F⟩
      · have e : 137 + 4 * k + 3 = 140 + 4 * k := by omega
        simp (disch := omega) only [fLt_e, fBd_s, fJn_s, fNn_s, fNu_0, fNu_s, fBo_0, fBo_1, fBo_b, i_lit, i_neg1, nI_add, pk_mul, nI_clamp, i_le, i_lt, i_eq, fIx_n, nI_mI, mI_nI, mI_lt, nI_lt_m, mI_le, nI_le_m, xI_0, xI_s, bI_0, bI_1, bI_t, bI_f, n_31, j_bit, j_one, i_and, i_or, Nat.not_lt_zero, Nat.succ_ne_zero, Nat.add_one_ne_zero, Nat.add_one_sub_one, Nat.zero_le, Nat.or_zero, Nat.zero_or, Bool.not_true, Bool.not_false, Bool.true_and, Bool.false_and, Bool.and_true, Bool.and_false, ↓reduceIte, if_true, if_false, not_true_eq_false, not_false_eq_true, true_and, and_true, false_and, and_false, and_self, true_or, or_true, false_or, or_false, Nat.reduceEqDiff, Nat.reduceLT, Nat.reduceLeDiff, Nat.reduceAdd, Nat.reduceMul, Nat.reduceSub, Nat.add_zero, Nat.zero_add, Nat.mul_zero, Nat.zero_mul, ne_eq, Bool.not_eq_true, Bool.not_eq_false, reduceCtorEq, decide_true, decide_false, decide_eq_true_eq, decide_eq_false_iff_not, Bool.false_eq_true, if_pos, if_neg, l_lit, X.2.2.2.1, B.1.2.2.2.2.2.2, E1, E2, c3, e, b3, f_X11_answer]
        exact ⟨_, _, _, rfl, rfl, F⟩
    · rw [inB_f.mpr (by omega)] at E1 E2
      simp only [l_lit] at E2
      simp (disch := omega) only [fLt_e, fBd_s, fJn_s, fNn_s, fNu_0, fNu_s, fBo_0, fBo_1, fBo_b, i_lit, i_neg1, nI_add, pk_mul, nI_clamp, i_le, i_lt, i_eq, fIx_n, nI_mI, mI_nI, mI_lt, nI_lt_m, mI_le, nI_le_m, xI_0, xI_s, bI_0, bI_1, bI_t, bI_f, n_31, j_bit, j_one, i_and, i_or, Nat.not_lt_zero, Nat.succ_ne_zero, Nat.add_one_ne_zero, Nat.add_one_sub_one, Nat.zero_le, Nat.or_zero, Nat.zero_or, Bool.not_true, Bool.not_false, Bool.true_and, Bool.false_and, Bool.and_true, Bool.and_false, ↓reduceIte, if_true, if_false, not_true_eq_false, not_false_eq_true, true_and, and_true, false_and, and_false, and_self, true_or, or_true, false_or, or_false, Nat.reduceEqDiff, Nat.reduceLT, Nat.reduceLeDiff, Nat.reduceAdd, Nat.reduceMul, Nat.reduceSub, Nat.add_zero, Nat.zero_add, Nat.mul_zero, Nat.zero_mul, ne_eq, Bool.not_eq_true, Bool.not_eq_false, reduceCtorEq, decide_true, decide_false, decide_eq_true_eq, decide_eq_false_iff_not, Bool.false_eq_true, if_pos, if_neg, l_lit, X.2.2.2.1, B.1.2.2.2.2.2.2, E1, E2, f_X11_fail, f_X12_refuse]
      exact ⟨_, _, _, rfl, rfl, fin_st H _⟩
  · rw [inB_f.mpr hb]
    simp (disch := omega) only [fLt_e, fBd_s, fJn_s, fNn_s, fNu_0, fNu_s, fBo_0, fBo_1, fBo_b, i_lit, i_neg1, nI_add, pk_mul, nI_clamp, i_le, i_lt, i_eq, fIx_n, nI_mI, mI_nI, mI_lt, nI_lt_m, mI_le, nI_le_m, xI_0, xI_s, bI_0, bI_1, bI_t, bI_f, n_31, j_bit, j_one, i_and, i_or, Nat.not_lt_zero, Nat.succ_ne_zero, Nat.add_one_ne_zero, Nat.add_one_sub_one, Nat.zero_le, Nat.or_zero, Nat.zero_or, Bool.not_true, Bool.not_false, Bool.true_and, Bool.false_and, Bool.and_true, Bool.and_false, ↓reduceIte, if_true, if_false, not_true_eq_false, not_false_eq_true, true_and, and_true, false_and, and_false, and_self, true_or, or_true, false_or, or_false, Nat.reduceEqDiff, Nat.reduceLT, Nat.reduceLeDiff, Nat.reduceAdd, Nat.reduceMul, Nat.reduceSub, Nat.add_zero, Nat.zero_add, Nat.mul_zero, Nat.zero_mul, ne_eq, Bool.not_eq_true, Bool.not_eq_false, reduceCtorEq, decide_true, decide_false, decide_eq_true_eq, decide_eq_false_iff_not, Bool.false_eq_true, if_pos, if_neg, f_X11_fail, f_X12_refuse]
    exact ⟨_, _, _, rfl, rfl, fin_st H _⟩
-- sets of nights
def zor (f : Nat → Nat) : Nat → Nat
  | 0 => 0
  | n + 1 => zor f n ||| f n
theorem zor_s (f : Nat → Nat) (n : Nat) : zor f (n + 1) = zor f n ||| f n := rfl
theorem zor_lt {f : Nat → Nat} {b n : Nat} (h : ∀ k, k < n → f k < 2 ^ b) : zor f n < 2 ^ b := by
  induction n with
  | zero => exact Nat.two_pow_pos b
  | succ n ih => exact Nat.or_lt_two_pow (ih (fun k hk => h k (by omega))) (h n (by omega))
theorem zor_bit (f : Nat → Nat) (b : Nat) : ∀ n, (zor f n).testBit b = true ↔ ∃ k, k < n ∧ (f k).testBit b = true := by
  intro n
  induction n with
  | zero => simp [zor]
  | succ n ih =>
    show (zor f n ||| f n).testBit b = true ↔ _
    rw [Nat.testBit_or, Bool.or_eq_true, ih]
    constructor
    · rintro (⟨k, h1, h2⟩ | h)
      · exact ⟨k, by omega, h2⟩
      · exact ⟨n, by omega, h⟩
    · rintro ⟨k, h1, h2⟩
      by_cases hk : k = n
      · subst hk; exact Or.inr h2
      · exact Or.inl ⟨k, by omega, h2⟩
def ndn (a b : Nat) : Nat := a ^^^ (a &&& b)
theorem ndn_bit (a b i : Nat) : (ndn a b).testBit i = (a.testBit i && !b.testBit i) := by
  unfold ndn
  rw [Nat.testBit_xor, Nat.testBit_and]
  cases a.testBit i <;> cases b.testBit i <;> rfl
theorem ndn_or (a b c : Nat) : ndn (ndn a b) c = ndn a (b ||| c) := by
  apply Nat.eq_of_testBit_eq
  intro i
  rw [ndn_bit, ndn_bit, ndn_bit, Nat.testBit_or]
  cases a.testBit i <;> cases b.testBit i <;> cases c.testBit i <;> rfl
theorem ndn_0 (a : Nat) : ndn a 0 = a := by
  apply Nat.eq_of_testBit_eq
  intro i
  rw [ndn_bit, Nat.zero_testBit]
  simp
section
variable {sc sm : fSt} {q : Nat} {G : Nat → Nat}
theorem x_entry (X : rBok sc 0 G) (w : gWf G) {k : Nat} (hk : k < G 6) : f_X0_entry 0 (nI k) (nI 0) sc = some (nI (G (137 + 4 * k)), sc) ∧ f_X0_entry 0 (nI k) (nI 1) sc = some (xI (G (138 + 4 * k)), sc) := by
  have w2 := w.2.1
  obtain ⟨c0, c1, -⟩ := X.2 k hk
  unfold f_X0_entry
  constructor
  · simp (disch := omega) only [fLt_e, fBd_s, fJn_s, fNn_s, fNu_0, fNu_s, fBo_0, fBo_1, fBo_b, i_lit, i_neg1, nI_add, pk_mul, nI_clamp, i_le, i_lt, i_eq, fIx_n, nI_mI, mI_nI, mI_lt, nI_lt_m, mI_le, nI_le_m, xI_0, xI_s, bI_0, bI_1, bI_t, bI_f, n_31, j_bit, j_one, i_and, i_or, Nat.not_lt_zero, Nat.succ_ne_zero, Nat.add_one_ne_zero, Nat.add_one_sub_one, Nat.zero_le, Nat.or_zero, Nat.zero_or, Bool.not_true, Bool.not_false, Bool.true_and, Bool.false_and, Bool.and_true, Bool.and_false, ↓reduceIte, if_true, if_false, not_true_eq_false, not_false_eq_true, true_and, and_true, false_and, and_false, and_self, true_or, or_true, false_or, or_false, Nat.reduceEqDiff, Nat.reduceLT, Nat.reduceLeDiff, Nat.reduceAdd, Nat.reduceMul, Nat.reduceSub, Nat.add_zero, Nat.zero_add, Nat.mul_zero, Nat.zero_mul, ne_eq, Bool.not_eq_true, Bool.not_eq_false, reduceCtorEq, decide_true, decide_false, decide_eq_true_eq, decide_eq_false_iff_not, Bool.false_eq_true, if_pos, if_neg, c0]
  · simp (disch := omega) only [fLt_e, fBd_s, fJn_s, fNn_s, fNu_0, fNu_s, fBo_0, fBo_1, fBo_b, i_lit, i_neg1, nI_add, pk_mul, nI_clamp, i_le, i_lt, i_eq, fIx_n, nI_mI, mI_nI, mI_lt, nI_lt_m, mI_le, nI_le_m, xI_0, xI_s, bI_0, bI_1, bI_t, bI_f, n_31, j_bit, j_one, i_and, i_or, Nat.not_lt_zero, Nat.succ_ne_zero, Nat.add_one_ne_zero, Nat.add_one_sub_one, Nat.zero_le, Nat.or_zero, Nat.zero_or, Bool.not_true, Bool.not_false, Bool.true_and, Bool.false_and, Bool.and_true, Bool.and_false, ↓reduceIte, if_true, if_false, not_true_eq_false, not_false_eq_true, true_and, and_true, false_and, and_false, and_self, true_or, or_true, false_or, or_false, Nat.reduceEqDiff, Nat.reduceLT, Nat.reduceLeDiff, Nat.reduceAdd, Nat.reduceMul, Nat.reduceSub, Nat.add_zero, Nat.zero_add, Nat.mul_zero, Nat.zero_mul, ne_eq, Bool.not_eq_true, Bool.not_eq_false, reduceCtorEq, decide_true, decide_false, decide_eq_true_eq, decide_eq_false_iff_not, Bool.false_eq_true, if_pos, if_neg, c1]
theorem x_seenInAll (X : rBok sc 0 G) (w : gWf G) : f_X0_seenInAll 0 sc = some (nI (zor (fun k => G (137 + 4 * k)) (G 6)), sc) := by
  have w2 := w.2.1
  unfold f_X0_seenInAll
  obtain ⟨m, e⟩ := lp_run (fun m (t : Int32 × Int32) => f_X0_seenInAll_L4 0 m t.1 t.2 sc) (fun t => (nI (zor (fun k => G (137 + 4 * k)) t), nI t)) (G 6) (fun m t ht => by
    show f_X0_seenInAll_L4 0 (m + 1) (nI (zor (fun k => G (137 + 4 * k)) t)) (nI t) sc = f_X0_seenInAll_L4 0 m (nI (zor (fun k => G (137 + 4 * k)) (t + 1))) (nI (t + 1)) sc
    rw [f_X0_seenInAll_L4]
    simp (disch := omega) only [fLt_e, fBd_s, fJn_s, fNn_s, fNu_0, fNu_s, fBo_0, fBo_1, fBo_b, i_lit, i_neg1, nI_add, pk_mul, nI_clamp, i_le, i_lt, i_eq, fIx_n, nI_mI, mI_nI, mI_lt, nI_lt_m, mI_le, nI_le_m, xI_0, xI_s, bI_0, bI_1, bI_t, bI_f, n_31, j_bit, j_one, i_and, i_or, Nat.not_lt_zero, Nat.succ_ne_zero, Nat.add_one_ne_zero, Nat.add_one_sub_one, Nat.zero_le, Nat.or_zero, Nat.zero_or, Bool.not_true, Bool.not_false, Bool.true_and, Bool.false_and, Bool.and_true, Bool.and_false, ↓reduceIte, if_true, if_false, not_true_eq_false, not_false_eq_true, true_and, and_true, false_and, and_false, and_self, true_or, or_true, false_or, or_false, Nat.reduceEqDiff, Nat.reduceLT, Nat.reduceLeDiff, Nat.reduceAdd, Nat.reduceMul, Nat.reduceSub, Nat.add_zero, Nat.zero_add, Nat.mul_zero, Nat.zero_mul, ne_eq, Bool.not_eq_true, Bool.not_eq_false, reduceCtorEq, decide_true, decide_false, decide_eq_true_eq, decide_eq_false_iff_not, Bool.false_eq_true, if_pos, if_neg, X.1, (x_entry X w ht).1, zor_s]) (fF_lt (by omega))
  refine Eq.trans e ?_
  show f_X0_seenInAll_L4 0 (m + 1) (nI (zor (fun k => G (137 + 4 * k)) (G 6))) (nI (G 6)) sc = _
  rw [f_X0_seenInAll_L4]
  simp (disch := omega) only [fLt_e, fBd_s, fJn_s, fNn_s, fNu_0, fNu_s, fBo_0, fBo_1, fBo_b, i_lit, i_neg1, nI_add, pk_mul, nI_clamp, i_le, i_lt, i_eq, fIx_n, nI_mI, mI_nI, mI_lt, nI_lt_m, mI_le, nI_le_m, xI_0, xI_s, bI_0, bI_1, bI_t, bI_f, n_31, j_bit, j_one, i_and, i_or, Nat.not_lt_zero, Nat.succ_ne_zero, Nat.add_one_ne_zero, Nat.add_one_sub_one, Nat.zero_le, Nat.or_zero, Nat.zero_or, Bool.not_true, Bool.not_false, Bool.true_and, Bool.false_and, Bool.and_true, Bool.and_false, ↓reduceIte, if_true, if_false, not_true_eq_false, not_false_eq_true, true_and, and_true, false_and, and_false, and_self, true_or, or_true, false_or, or_false, Nat.reduceEqDiff, Nat.reduceLT, Nat.reduceLeDiff, Nat.reduceAdd, Nat.reduceMul, Nat.reduceSub, Nat.add_zero, Nat.zero_add, Nat.mul_zero, Nat.zero_mul, ne_eq, Bool.not_eq_true, Bool.not_eq_false, reduceCtorEq, decide_true, decide_false, decide_eq_true_eq, decide_eq_false_iff_not, Bool.false_eq_true, if_pos, if_neg, X.1]
theorem x_timesSeen (X : rBok sc 0 G) (w : gWf G) {s : Nat} (hs : s < 12) : f_X0_timesSeen 0 (nI s) sc = some (nI (zs (fun k => ((G (137 + 4 * k)).testBit s).toNat) (G 6)), sc) := by
  have w2 := w.2.1
  unfold f_X0_timesSeen
  obtain ⟨m, e⟩ := lp_run (fun m (t : Int32 × Int32) => f_X0_timesSeen_L4 0 (nI s) m t.1 t.2 sc) (fun t => (nI (zs (fun k => ((G (137 + 4 * k)).testBit s).toNat) t), nI t)) (G 6) (fun m t ht => by
    show f_X0_timesSeen_L4 0 (nI s) (m + 1) (nI (zs (fun k => ((G (137 + 4 * k)).testBit s).toNat) t)) (nI t) sc = f_X0_timesSeen_L4 0 (nI s) m (nI (zs (fun k => ((G (137 + 4 * k)).testBit s).toNat) (t + 1))) (nI (t + 1)) sc
    have hn := (w.2.2.2.2.2 t ht).2.1
    rw [f_X0_timesSeen_L4]
    simp (disch := omega) only [fLt_e, fBd_s, fJn_s, fNn_s, fNu_0, fNu_s, fBo_0, fBo_1, fBo_b, i_lit, i_neg1, nI_add, pk_mul, nI_clamp, i_le, i_lt, i_eq, fIx_n, nI_mI, mI_nI, mI_lt, nI_lt_m, mI_le, nI_le_m, xI_0, xI_s, bI_0, bI_1, bI_t, bI_f, n_31, j_bit, j_one, i_and, i_or, Nat.not_lt_zero, Nat.succ_ne_zero, Nat.add_one_ne_zero, Nat.add_one_sub_one, Nat.zero_le, Nat.or_zero, Nat.zero_or, Bool.not_true, Bool.not_false, Bool.true_and, Bool.false_and, Bool.and_true, Bool.and_false, ↓reduceIte, if_true, if_false, not_true_eq_false, not_false_eq_true, true_and, and_true, false_and, and_false, and_self, true_or, or_true, false_or, or_false, Nat.reduceEqDiff, Nat.reduceLT, Nat.reduceLeDiff, Nat.reduceAdd, Nat.reduceMul, Nat.reduceSub, Nat.add_zero, Nat.zero_add, Nat.mul_zero, Nat.zero_mul, ne_eq, Bool.not_eq_true, Bool.not_eq_false, reduceCtorEq, decide_true, decide_false, decide_eq_true_eq, decide_eq_false_iff_not, Bool.false_eq_true, if_pos, if_neg, X.1, (x_entry X w ht).1, bI, zs_s]) (fF_lt (by omega))
  refine Eq.trans e ?_
  show f_X0_timesSeen_L4 0 (nI s) (m + 1) (nI (zs (fun k => ((G (137 + 4 * k)).testBit s).toNat) (G 6))) (nI (G 6)) sc = _
  rw [f_X0_timesSeen_L4]
  simp (disch := omega) only [fLt_e, fBd_s, fJn_s, fNn_s, fNu_0, fNu_s, fBo_0, fBo_1, fBo_b, i_lit, i_neg1, nI_add, pk_mul, nI_clamp, i_le, i_lt, i_eq, fIx_n, nI_mI, mI_nI, mI_lt, nI_lt_m, mI_le, nI_le_m, xI_0, xI_s, bI_0, bI_1, bI_t, bI_f, n_31, j_bit, j_one, i_and, i_or, Nat.not_lt_zero, Nat.succ_ne_zero, Nat.add_one_ne_zero, Nat.add_one_sub_one, Nat.zero_le, Nat.or_zero, Nat.zero_or, Bool.not_true, Bool.not_false, Bool.true_and, Bool.false_and, Bool.and_true, Bool.and_false, ↓reduceIte, if_true, if_false, not_true_eq_false, not_false_eq_true, true_and, and_true, false_and, and_false, and_self, true_or, or_true, false_or, or_false, Nat.reduceEqDiff, Nat.reduceLT, Nat.reduceLeDiff, Nat.reduceAdd, Nat.reduceMul, Nat.reduceSub, Nat.add_zero, Nat.zero_add, Nat.mul_zero, Nat.zero_mul, ne_eq, Bool.not_eq_true, Bool.not_eq_false, reduceCtorEq, decide_true, decide_false, decide_eq_true_eq, decide_eq_false_iff_not, Bool.false_eq_true, if_pos, if_neg, X.1]
def gsw (G : Nat → Nat) (e k : Nat) : Nat := if G (138 + 4 * k) = e + 1 then G (137 + 4 * k) else 0
theorem x_seenWith (X : rBok sc 0 G) (w : gWf G) {e : Nat} (he : e < 9) : f_X0_seenWith 0 (nI e) sc = some (nI (zor (gsw G e) (G 6)), sc) := by
  have w2 := w.2.1
  unfold f_X0_seenWith
  obtain ⟨m, e⟩ := lp_run (fun m (t : Int32 × Int32) => f_X0_seenWith_L4 0 (nI e) m t.1 t.2 sc) (fun t => (nI (zor (gsw G e) t), nI t)) (G 6) (fun m t ht => by
    show f_X0_seenWith_L4 0 (nI e) (m + 1) (nI (zor (gsw G e) t)) (nI t) sc = f_X0_seenWith_L4 0 (nI e) m (nI (zor (gsw G e) (t + 1))) (nI (t + 1)) sc
    have hn := (w.2.2.2.2.2 t ht).2.2.1
    rw [f_X0_seenWith_L4]
    rw [zor_s]
    have hgs : gsw G e t = if G (138 + 4 * t) = e + 1 then G (137 + 4 * t) else 0 := rfl
    rw [hgs]
    by_cases hq : G (138 + 4 * t) = e + 1
    · simp (disch := omega) only [fLt_e, fBd_s, fJn_s, fNn_s, fNu_0, fNu_s, fBo_0, fBo_1, fBo_b, i_lit, i_neg1, nI_add, pk_mul, nI_clamp, i_le, i_lt, i_eq, fIx_n, nI_mI, mI_nI, mI_lt, nI_lt_m, mI_le, nI_le_m, xI_0, xI_s, bI_0, bI_1, bI_t, bI_f, n_31, j_bit, j_one, i_and, i_or, Nat.not_lt_zero, Nat.succ_ne_zero, Nat.add_one_ne_zero, Nat.add_one_sub_one, Nat.zero_le, Nat.or_zero, Nat.zero_or, Bool.not_true, Bool.not_false, Bool.true_and, Bool.false_and, Bool.and_true, Bool.and_false, ↓reduceIte, if_true, if_false, not_true_eq_false, not_false_eq_true, true_and, and_true, false_and, and_false, and_self, true_or, or_true, false_or, or_false, Nat.reduceEqDiff, Nat.reduceLT, Nat.reduceLeDiff, Nat.reduceAdd, Nat.reduceMul, Nat.reduceSub, Nat.add_zero, Nat.zero_add, Nat.mul_zero, Nat.zero_mul, ne_eq, Bool.not_eq_true, Bool.not_eq_false, reduceCtorEq, decide_true, decide_false, decide_eq_true_eq, decide_eq_false_iff_not, Bool.false_eq_true, if_pos, if_neg, X.1, (x_entry X w ht).1, (x_entry X w ht).2, hq]
    · have hx : ¬ xI (G (138 + 4 * t)) = nI e := by
        rw [← xI_s, xI_eq (by omega) (by omega)]
        exact hq
      simp (disch := omega) only [fLt_e, fBd_s, fJn_s, fNn_s, fNu_0, fNu_s, fBo_0, fBo_1, fBo_b, i_lit, i_neg1, nI_add, pk_mul, nI_clamp, i_le, i_lt, i_eq, fIx_n, nI_mI, mI_nI, mI_lt, nI_lt_m, mI_le, nI_le_m, xI_0, xI_s, bI_0, bI_1, bI_t, bI_f, n_31, j_bit, j_one, i_and, i_or, Nat.not_lt_zero, Nat.succ_ne_zero, Nat.add_one_ne_zero, Nat.add_one_sub_one, Nat.zero_le, Nat.or_zero, Nat.zero_or, Bool.not_true, Bool.not_false, Bool.true_and, Bool.false_and, Bool.and_true, Bool.and_false, ↓reduceIte, if_true, if_false, not_true_eq_false, not_false_eq_true, true_and, and_true, false_and, and_false, and_self, true_or, or_true, false_or, or_false, Nat.reduceEqDiff, Nat.reduceLT, Nat.reduceLeDiff, Nat.reduceAdd, Nat.reduceMul, Nat.reduceSub, Nat.add_zero, Nat.zero_add, Nat.mul_zero, Nat.zero_mul, ne_eq, Bool.not_eq_true, Bool.not_eq_false, reduceCtorEq, decide_true, decide_false, decide_eq_true_eq, decide_eq_false_iff_not, Bool.false_eq_true, if_pos, if_neg, X.1, (x_entry X w ht).1, (x_entry X w ht).2, hx, hq]) (fF_lt (by omega))
  refine Eq.trans e ?_
  show f_X0_seenWith_L4 0 (nI _) (m + 1) (nI (zor (gsw G _) (G 6))) (nI (G 6)) sc = _
  rw [f_X0_seenWith_L4]
  simp (disch := omega) only [fLt_e, fBd_s, fJn_s, fNn_s, fNu_0, fNu_s, fBo_0, fBo_1, fBo_b, i_lit, i_neg1, nI_add, pk_mul, nI_clamp, i_le, i_lt, i_eq, fIx_n, nI_mI, mI_nI, mI_lt, nI_lt_m, mI_le, nI_le_m, xI_0, xI_s, bI_0, bI_1, bI_t, bI_f, n_31, j_bit, j_one, i_and, i_or, Nat.not_lt_zero, Nat.succ_ne_zero, Nat.add_one_ne_zero, Nat.add_one_sub_one, Nat.zero_le, Nat.or_zero, Nat.zero_or, Bool.not_true, Bool.not_false, Bool.true_and, Bool.false_and, Bool.and_true, Bool.and_false, ↓reduceIte, if_true, if_false, not_true_eq_false, not_false_eq_true, true_and, and_true, false_and, and_false, and_self, true_or, or_true, false_or, or_false, Nat.reduceEqDiff, Nat.reduceLT, Nat.reduceLeDiff, Nat.reduceAdd, Nat.reduceMul, Nat.reduceSub, Nat.add_zero, Nat.zero_add, Nat.mul_zero, Nat.zero_mul, ne_eq, Bool.not_eq_true, Bool.not_eq_false, reduceCtorEq, decide_true, decide_false, decide_eq_true_eq, decide_eq_false_iff_not, Bool.false_eq_true, if_pos, if_neg, X.1]
theorem m_unseenL (B : rBlk (gA sm 12 0 5) G) (w : gWf G) (a : Nat) : f_X12_unseen_L23 fF (nI a) (nI 0) sm = some (nI (ndn a (zor (fun k => G (137 + 4 * k)) (G 6))), sm) := by
  have w2 := w.2.1
  obtain ⟨m, e⟩ := lp_run (fun m (t : Int32 × Int32) => f_X12_unseen_L23 m t.1 t.2 sm) (fun t => (nI (ndn a (zor (fun k => G (137 + 4 * k)) t)), nI t)) (G 6) (fun m t ht => by
    show f_X12_unseen_L23 (m + 1) (nI (ndn a (zor (fun k => G (137 + 4 * k)) t))) (nI t) sm = f_X12_unseen_L23 m (nI (ndn a (zor (fun k => G (137 + 4 * k)) (t + 1)))) (nI (t + 1)) sm
    obtain ⟨b0, -⟩ := B.2.2.2.2.1 t ht
    have e1 : ∀ x y, nI x &&& (nI y ^^^ mI) = nI (ndn x y) := i_andn
    rw [f_X12_unseen_L23]
    simp (disch := omega) only [fLt_e, fBd_s, fJn_s, fNn_s, fNu_0, fNu_s, fBo_0, fBo_1, fBo_b, i_lit, i_neg1, nI_add, pk_mul, nI_clamp, i_le, i_lt, i_eq, fIx_n, nI_mI, mI_nI, mI_lt, nI_lt_m, mI_le, nI_le_m, xI_0, xI_s, bI_0, bI_1, bI_t, bI_f, n_31, j_bit, j_one, i_and, i_or, Nat.not_lt_zero, Nat.succ_ne_zero, Nat.add_one_ne_zero, Nat.add_one_sub_one, Nat.zero_le, Nat.or_zero, Nat.zero_or, Bool.not_true, Bool.not_false, Bool.true_and, Bool.false_and, Bool.and_true, Bool.and_false, ↓reduceIte, if_true, if_false, not_true_eq_false, not_false_eq_true, true_and, and_true, false_and, and_false, and_self, true_or, or_true, false_or, or_false, Nat.reduceEqDiff, Nat.reduceLT, Nat.reduceLeDiff, Nat.reduceAdd, Nat.reduceMul, Nat.reduceSub, Nat.add_zero, Nat.zero_add, Nat.mul_zero, Nat.zero_mul, ne_eq, Bool.not_eq_true, Bool.not_eq_false, reduceCtorEq, decide_true, decide_false, decide_eq_true_eq, decide_eq_false_iff_not, Bool.false_eq_true, if_pos, if_neg, B.1.2.2.2.2.2.2, b0, e1, ndn_or, zor_s]) (fF_lt (by omega))
  have e0 : ndn a (zor (fun k => G (137 + 4 * k)) 0) = a := ndn_0 a
  refine Eq.trans ?_ (Eq.trans e ?_)
  · show _ = f_X12_unseen_L23 fF (nI (ndn a (zor (fun k => G (137 + 4 * k)) 0))) (nI 0) sm
    rw [e0]
  · show f_X12_unseen_L23 (m + 1) (nI (ndn a (zor (fun k => G (137 + 4 * k)) (G 6)))) (nI (G 6)) sm = _
    rw [f_X12_unseen_L23]
    simp (disch := omega) only [fLt_e, fBd_s, fJn_s, fNn_s, fNu_0, fNu_s, fBo_0, fBo_1, fBo_b, i_lit, i_neg1, nI_add, pk_mul, nI_clamp, i_le, i_lt, i_eq, fIx_n, nI_mI, mI_nI, mI_lt, nI_lt_m, mI_le, nI_le_m, xI_0, xI_s, bI_0, bI_1, bI_t, bI_f, n_31, j_bit, j_one, i_and, i_or, Nat.not_lt_zero, Nat.succ_ne_zero, Nat.add_one_ne_zero, Nat.add_one_sub_one, Nat.zero_le, Nat.or_zero, Nat.zero_or, Bool.not_true, Bool.not_false, Bool.true_and, Bool.false_and, Bool.and_true, Bool.and_false, ↓reduceIte, if_true, if_false, not_true_eq_false, not_false_eq_true, true_and, and_true, false_and, and_false, and_self, true_or, or_true, false_or, or_false, Nat.reduceEqDiff, Nat.reduceLT, Nat.reduceLeDiff, Nat.reduceAdd, Nat.reduceMul, Nat.reduceSub, Nat.add_zero, Nat.zero_add, Nat.mul_zero, Nat.zero_mul, ne_eq, Bool.not_eq_true, Bool.not_eq_false, reduceCtorEq, decide_true, decide_false, decide_eq_true_eq, decide_eq_false_iff_not, Bool.false_eq_true, if_pos, if_neg, B.1.2.2.2.2.2.2]
theorem all_n {n : Nat} (h : n < 31) : (nI 1 <<< (nI n &&& nI 31)) - nI 1 = nI (2 ^ n - 1) := by
  rw [i_one h]
  exact pk_sub (Nat.two_pow_pos n)
theorem all_n' {n : Nat} (h : n < 31) : nI (2 ^ n) - nI 1 = nI (2 ^ n - 1) := pk_sub (Nat.two_pow_pos n)
end
theorem call_unseen : CALL f_X11_unseen f_X12_unseen := by
  intro sc sm ⟨hA, H⟩
  have H := pro_x H
  have z := pro_0 sm
  unfold f_X11_unseen f_X12_unseen f_X7_allScenes
  simp only [fLt_e, pro_eq]
  generalize pro sm = s2 at *
  obtain ⟨q, G, w, X, B, -⟩ := RX_cur H
  have w1 := w.1
  have e1 : ∀ x y, nI x &&& (nI y ^^^ mI) = nI (ndn x y) := i_andn
  simp (disch := omega) only [fLt_e, fBd_s, fJn_s, fNn_s, fNu_0, fNu_s, fBo_0, fBo_1, fBo_b, i_lit, i_neg1, nI_add, pk_mul, nI_clamp, i_le, i_lt, i_eq, fIx_n, nI_mI, mI_nI, mI_lt, nI_lt_m, mI_le, nI_le_m, xI_0, xI_s, bI_0, bI_1, bI_t, bI_f, n_31, j_bit, j_one, i_and, i_or, Nat.not_lt_zero, Nat.succ_ne_zero, Nat.add_one_ne_zero, Nat.add_one_sub_one, Nat.zero_le, Nat.or_zero, Nat.zero_or, Bool.not_true, Bool.not_false, Bool.true_and, Bool.false_and, Bool.and_true, Bool.and_false, ↓reduceIte, if_true, if_false, not_true_eq_false, not_false_eq_true, true_and, and_true, false_and, and_false, and_self, true_or, or_true, false_or, or_false, Nat.reduceEqDiff, Nat.reduceLT, Nat.reduceLeDiff, Nat.reduceAdd, Nat.reduceMul, Nat.reduceSub, Nat.add_zero, Nat.zero_add, Nat.mul_zero, Nat.zero_mul, ne_eq, Bool.not_eq_true, Bool.not_eq_false, reduceCtorEq, decide_true, decide_false, decide_eq_true_eq, decide_eq_false_iff_not, Bool.false_eq_true, if_pos, if_neg, X.1, X.2.1.1.2.2.1, B.1.2.2.1, all_n', x_seenInAll X.2.2.2 w, m_unseenL B w, e1, f_X11_answer]
  exact ⟨_, _, _, rfl, rfl, fin_0 H z⟩
-- lines
theorem zs_find (f : Nat → Nat) {l : Nat} : ∀ n, l < zs f n → ∃ s, s < n ∧ zs f s ≤ l ∧ l < zs f (s + 1) := by
  intro n
  induction n with
  | zero => intro h; exact absurd h (Nat.not_lt_zero l)
  | succ n ih =>
    intro h
    by_cases hn : l < zs f n
    · obtain ⟨s, a, b, c⟩ := ih hn
      exact ⟨s, by omega, b, c⟩
    · exact ⟨n, by omega, by omega, h⟩
section
variable {sc sm : fSt} {q : Nat} {G : Nat → Nat}
def gln' (G : Nat → Nat) : Nat → Nat := zs (fun s => G (25 + s))
theorem gln'_le (w : gWf G) {s : Nat} (hs : s ≤ G 2) : gln' G s ≤ 240 := by
  have w1 := w.1
  have := zs_le (f := fun s => G (25 + s)) (b := 20) (n := s) (fun k hk => (w.2.2.2.1 k (by omega)).1.2)
  unfold gln'
  omega
theorem x_sceneOfLine_t (H : rStg sc q G) (w : gWf G) {l s : Nat} (hs : s < G 2) (h1 : gln' G s ≤ l) (h2 : l < gln' G (s + 1)) : f_X7_sceneOfLine q (nI l) sc = some (nI s, sc) := by
  have w1 := w.1
  have hb := gln'_le w (show s + 1 ≤ G 2 by omega)
  unfold f_X7_sceneOfLine
  obtain ⟨m, e⟩ := lp_run (fun m (t : Int32 × Int32) => f_X7_sceneOfLine_L4 q (nI l) m t.1 t.2 sc) (fun t => (nI (gln' G t), nI t)) s (fun m t ht => by
    show f_X7_sceneOfLine_L4 q (nI l) (m + 1) (nI (gln' G t)) (nI t) sc = f_X7_sceneOfLine_L4 q (nI l) m (nI (gln' G (t + 1))) (nI (t + 1)) sc
    have hm : gln' G (t + 1) ≤ gln' G s := zs_mono _ ht
    have e1 : gln' G t + G (25 + t) = gln' G (t + 1) := rfl
    rw [f_X7_sceneOfLine_L4]
    simp (disch := omega) only [fLt_e, fBd_s, fJn_s, fNn_s, fNu_0, fNu_s, fBo_0, fBo_1, fBo_b, i_lit, i_neg1, nI_add, pk_mul, nI_clamp, i_le, i_lt, i_eq, fIx_n, nI_mI, mI_nI, mI_lt, nI_lt_m, mI_le, nI_le_m, xI_0, xI_s, bI_0, bI_1, bI_t, bI_f, n_31, j_bit, j_one, i_and, i_or, Nat.not_lt_zero, Nat.succ_ne_zero, Nat.add_one_ne_zero, Nat.add_one_sub_one, Nat.zero_le, Nat.or_zero, Nat.zero_or, Bool.not_true, Bool.not_false, Bool.true_and, Bool.false_and, Bool.and_true, Bool.and_false, ↓reduceIte, if_true, if_false, not_true_eq_false, not_false_eq_true, true_and, and_true, false_and, and_false, and_self, true_or, or_true, false_or, or_false, Nat.reduceEqDiff, Nat.reduceLT, Nat.reduceLeDiff, Nat.reduceAdd, Nat.reduceMul, Nat.reduceSub, Nat.add_zero, Nat.zero_add, Nat.mul_zero, Nat.zero_mul, ne_eq, Bool.not_eq_true, Bool.not_eq_false, reduceCtorEq, decide_true, decide_false, decide_eq_true_eq, decide_eq_false_iff_not, Bool.false_eq_true, if_pos, if_neg, H.1.2.2.1, (H.2.2.1 t (by omega)).1, e1]) (fF_lt (by omega))
  refine Eq.trans e ?_
  show f_X7_sceneOfLine_L4 q (nI l) (m + 1) (nI (gln' G s)) (nI s) sc = _
  have e1 : gln' G s + G (25 + s) = gln' G (s + 1) := rfl
  rw [f_X7_sceneOfLine_L4]
  simp (disch := omega) only [fLt_e, fBd_s, fJn_s, fNn_s, fNu_0, fNu_s, fBo_0, fBo_1, fBo_b, i_lit, i_neg1, nI_add, pk_mul, nI_clamp, i_le, i_lt, i_eq, fIx_n, nI_mI, mI_nI, mI_lt, nI_lt_m, mI_le, nI_le_m, xI_0, xI_s, bI_0, bI_1, bI_t, bI_f, n_31, j_bit, j_one, i_and, i_or, Nat.not_lt_zero, Nat.succ_ne_zero, Nat.add_one_ne_zero, Nat.add_one_sub_one, Nat.zero_le, Nat.or_zero, Nat.zero_or, Bool.not_true, Bool.not_false, Bool.true_and, Bool.false_and, Bool.and_true, Bool.and_false, ↓reduceIte, if_true, if_false, not_true_eq_false, not_false_eq_true, true_and, and_true, false_and, and_false, and_self, true_or, or_true, false_or, or_false, Nat.reduceEqDiff, Nat.reduceLT, Nat.reduceLeDiff, Nat.reduceAdd, Nat.reduceMul, Nat.reduceSub, Nat.add_zero, Nat.zero_add, Nat.mul_zero, Nat.zero_mul, ne_eq, Bool.not_eq_true, Bool.not_eq_false, reduceCtorEq, decide_true, decide_false, decide_eq_true_eq, decide_eq_false_iff_not, Bool.false_eq_true, if_pos, if_neg, H.1.2.2.1, (H.2.2.1 s hs).1, e1]
theorem x_sceneOfLine_f (H : rStg sc q G) (w : gWf G) {a : Int32} (ha : ¬ (0 ≤ a.toInt ∧ a.toInt < gln' G (G 2))) : f_X7_sceneOfLine q a sc = some (mI, sc) := by
  have w1 := w.1
  have hb := gln'_le w (Nat.le_refl (G 2))
  unfold f_X7_sceneOfLine
  obtain ⟨m, e⟩ := lp_run (fun m (t : Int32 × Int32) => f_X7_sceneOfLine_L4 q a m t.1 t.2 sc) (fun t => (nI (gln' G t), nI t)) (G 2) (fun m t ht => by
    show f_X7_sceneOfLine_L4 q a (m + 1) (nI (gln' G t)) (nI t) sc = f_X7_sceneOfLine_L4 q a m (nI (gln' G (t + 1))) (nI (t + 1)) sc
    have hm : gln' G (t + 1) ≤ gln' G (G 2) := zs_mono _ ht
    have e1 : gln' G t + G (25 + t) = gln' G (t + 1) := rfl
    rw [f_X7_sceneOfLine_L4]
    by_cases h0 : a.toInt < 0
    · simp (disch := omega) only [fLt_e, fBd_s, fJn_s, fNn_s, fNu_0, fNu_s, fBo_0, fBo_1, fBo_b, i_lit, i_neg1, nI_add, pk_mul, nI_clamp, fIx_n, Int32.lt_iff_toInt_lt, Int32.le_iff_toInt_le, ← Int32.toInt_inj, nI_toInt, mI_toInt, xI_0, xI_s, bI_t, bI_f, Nat.not_lt_zero, Nat.succ_ne_zero, Nat.add_one_ne_zero, Nat.add_one_sub_one, Nat.zero_le, Nat.or_zero, Nat.zero_or, Bool.not_true, Bool.not_false, Bool.true_and, Bool.false_and, Bool.and_true, Bool.and_false, ↓reduceIte, if_true, if_false, not_true_eq_false, not_false_eq_true, true_and, and_true, false_and, and_false, and_self, true_or, or_true, false_or, or_false, Nat.reduceEqDiff, Nat.reduceLT, Nat.reduceLeDiff, Nat.reduceAdd, Nat.reduceMul, Nat.reduceSub, Nat.add_zero, Nat.zero_add, Nat.mul_zero, Nat.zero_mul, ne_eq, Bool.not_eq_true, Bool.not_eq_false, reduceCtorEq, decide_true, decide_false, decide_eq_true_eq, decide_eq_false_iff_not, Bool.false_eq_true, if_pos, if_neg, H.1.2.2.1, (H.2.2.1 t (by omega)).1, e1]
    · simp (disch := omega) only [fLt_e, fBd_s, fJn_s, fNn_s, fNu_0, fNu_s, fBo_0, fBo_1, fBo_b, i_lit, i_neg1, nI_add, pk_mul, nI_clamp, fIx_n, Int32.lt_iff_toInt_lt, Int32.le_iff_toInt_le, ← Int32.toInt_inj, nI_toInt, mI_toInt, xI_0, xI_s, bI_t, bI_f, Nat.not_lt_zero, Nat.succ_ne_zero, Nat.add_one_ne_zero, Nat.add_one_sub_one, Nat.zero_le, Nat.or_zero, Nat.zero_or, Bool.not_true, Bool.not_false, Bool.true_and, Bool.false_and, Bool.and_true, Bool.and_false, ↓reduceIte, if_true, if_false, not_true_eq_false, not_false_eq_true, true_and, and_true, false_and, and_false, and_self, true_or, or_true, false_or, or_false, Nat.reduceEqDiff, Nat.reduceLT, Nat.reduceLeDiff, Nat.reduceAdd, Nat.reduceMul, Nat.reduceSub, Nat.add_zero, Nat.zero_add, Nat.mul_zero, Nat.zero_mul, ne_eq, Bool.not_eq_true, Bool.not_eq_false, reduceCtorEq, decide_true, decide_false, decide_eq_true_eq, decide_eq_false_iff_not, Bool.false_eq_true, if_pos, if_neg, H.1.2.2.1, (H.2.2.1 t (by omega)).1, e1]) (fF_lt (by omega))
  refine Eq.trans e ?_
  show f_X7_sceneOfLine_L4 q a (m + 1) (nI (gln' G (G 2))) (nI (G 2)) sc = _
  rw [f_X7_sceneOfLine_L4]
  simp (disch := omega) only [fLt_e, fBd_s, fJn_s, fNn_s, fNu_0, fNu_s, fBo_0, fBo_1, fBo_b, i_lit, i_neg1, nI_add, pk_mul, nI_clamp, i_le, i_lt, i_eq, fIx_n, nI_mI, mI_nI, mI_lt, nI_lt_m, mI_le, nI_le_m, xI_0, xI_s, bI_0, bI_1, bI_t, bI_f, n_31, j_bit, j_one, i_and, i_or, Nat.not_lt_zero, Nat.succ_ne_zero, Nat.add_one_ne_zero, Nat.add_one_sub_one, Nat.zero_le, Nat.or_zero, Nat.zero_or, Bool.not_true, Bool.not_false, Bool.true_and, Bool.false_and, Bool.and_true, Bool.and_false, ↓reduceIte, if_true, if_false, not_true_eq_false, not_false_eq_true, true_and, and_true, false_and, and_false, and_self, true_or, or_true, false_or, or_false, Nat.reduceEqDiff, Nat.reduceLT, Nat.reduceLeDiff, Nat.reduceAdd, Nat.reduceMul, Nat.reduceSub, Nat.add_zero, Nat.zero_add, Nat.mul_zero, Nat.zero_mul, ne_eq, Bool.not_eq_true, Bool.not_eq_false, reduceCtorEq, decide_true, decide_false, decide_eq_true_eq, decide_eq_false_iff_not, Bool.false_eq_true, if_pos, if_neg, H.1.2.2.1]
theorem m_sceneOf (B : rBlk (gA sm 12 0 5) G) (w : gWf G) {l s : Nat} (hs : s < G 2) (h1 : gln' G s ≤ l) (h2 : l < gln' G (s + 1)) : f_X12_sceneOf (nI l) sm = some (nI s, sm) := by
  have w1 := w.1
  have hb := gln'_le w (show s + 1 ≤ G 2 by omega)
  unfold f_X12_sceneOf
  obtain ⟨m, e⟩ := lp_run (fun m (t : Int32 × Int32) => f_X12_sceneOf_L4 m t.1 t.2 sm) (fun t => (nI (l - gln' G t), nI t)) s (fun m t ht => by
    show f_X12_sceneOf_L4 (m + 1) (nI (l - gln' G t)) (nI t) sm = f_X12_sceneOf_L4 m (nI (l - gln' G (t + 1))) (nI (t + 1)) sm
    have hm : gln' G (t + 1) ≤ gln' G s := zs_mono _ ht
    have e1 : gln' G t + G (25 + t) = gln' G (t + 1) := rfl
    have e2 : nI (l - gln' G t) - nI (G (25 + t)) = nI (l - gln' G (t + 1)) := by
      rw [pk_sub (by omega)]
      congr 1
      omega
    rw [f_X12_sceneOf_L4]
    simp (disch := omega) only [fLt_e, fBd_s, fJn_s, fNn_s, fNu_0, fNu_s, fBo_0, fBo_1, fBo_b, i_lit, i_neg1, nI_add, pk_mul, nI_clamp, i_le, i_lt, i_eq, fIx_n, nI_mI, mI_nI, mI_lt, nI_lt_m, mI_le, nI_le_m, xI_0, xI_s, bI_0, bI_1, bI_t, bI_f, n_31, j_bit, j_one, i_and, i_or, Nat.not_lt_zero, Nat.succ_ne_zero, Nat.add_one_ne_zero, Nat.add_one_sub_one, Nat.zero_le, Nat.or_zero, Nat.zero_or, Bool.not_true, Bool.not_false, Bool.true_and, Bool.false_and, Bool.and_true, Bool.and_false, ↓reduceIte, if_true, if_false, not_true_eq_false, not_false_eq_true, true_and, and_true, false_and, and_false, and_self, true_or, or_true, false_or, or_false, Nat.reduceEqDiff, Nat.reduceLT, Nat.reduceLeDiff, Nat.reduceAdd, Nat.reduceMul, Nat.reduceSub, Nat.add_zero, Nat.zero_add, Nat.mul_zero, Nat.zero_mul, ne_eq, Bool.not_eq_true, Bool.not_eq_false, reduceCtorEq, decide_true, decide_false, decide_eq_true_eq, decide_eq_false_iff_not, Bool.false_eq_true, if_pos, if_neg, (B.2.2.1 t (by omega)).1, e2]) (fF_lt (by omega))
  refine Eq.trans e ?_
  show f_X12_sceneOf_L4 (m + 1) (nI (l - gln' G s)) (nI s) sm = _
  have e1 : gln' G s + G (25 + s) = gln' G (s + 1) := rfl
  rw [f_X12_sceneOf_L4]
  simp (disch := omega) only [fLt_e, fBd_s, fJn_s, fNn_s, fNu_0, fNu_s, fBo_0, fBo_1, fBo_b, i_lit, i_neg1, nI_add, pk_mul, nI_clamp, i_le, i_lt, i_eq, fIx_n, nI_mI, mI_nI, mI_lt, nI_lt_m, mI_le, nI_le_m, xI_0, xI_s, bI_0, bI_1, bI_t, bI_f, n_31, j_bit, j_one, i_and, i_or, Nat.not_lt_zero, Nat.succ_ne_zero, Nat.add_one_ne_zero, Nat.add_one_sub_one, Nat.zero_le, Nat.or_zero, Nat.zero_or, Bool.not_true, Bool.not_false, Bool.true_and, Bool.false_and, Bool.and_true, Bool.and_false, ↓reduceIte, if_true, if_false, not_true_eq_false, not_false_eq_true, true_and, and_true, false_and, and_false, and_self, true_or, or_true, false_or, or_false, Nat.reduceEqDiff, Nat.reduceLT, Nat.reduceLeDiff, Nat.reduceAdd, Nat.reduceMul, Nat.reduceSub, Nat.add_zero, Nat.zero_add, Nat.mul_zero, Nat.zero_mul, ne_eq, Bool.not_eq_true, Bool.not_eq_false, reduceCtorEq, decide_true, decide_false, decide_eq_true_eq, decide_eq_false_iff_not, Bool.false_eq_true, if_pos, if_neg, (B.2.2.1 s hs).1]
theorem m_heardL (B : rBlk (gA sm 12 0 5) G) (w : gWf G) {s : Nat} (hs : s < 12) : f_X12_heard_L43 (nI s) fF (nI 0) (nI 0) sm = some (nI (zs (fun k => ((G (137 + 4 * k)).testBit s).toNat) (G 6)), sm) := by
  have w2 := w.2.1
  obtain ⟨m, e⟩ := lp_run (fun m (t : Int32 × Int32) => f_X12_heard_L43 (nI s) m t.1 t.2 sm) (fun t => (nI (zs (fun k => ((G (137 + 4 * k)).testBit s).toNat) t), nI t)) (G 6) (fun m t ht => by
    show f_X12_heard_L43 (nI s) (m + 1) (nI (zs (fun k => ((G (137 + 4 * k)).testBit s).toNat) t)) (nI t) sm = f_X12_heard_L43 (nI s) m (nI (zs (fun k => ((G (137 + 4 * k)).testBit s).toNat) (t + 1))) (nI (t + 1)) sm
    have hn := (w.2.2.2.2.2 t ht).2.1
    rw [f_X12_heard_L43, zs_s]
    cases hb : (G (137 + 4 * t)).testBit s
    · simp (disch := omega) only [fLt_e, fBd_s, fJn_s, fNn_s, fNu_0, fNu_s, fBo_0, fBo_1, fBo_b, i_lit, i_neg1, nI_add, pk_mul, nI_clamp, i_le, i_lt, i_eq, fIx_n, nI_mI, mI_nI, mI_lt, nI_lt_m, mI_le, nI_le_m, xI_0, xI_s, bI_0, bI_1, bI_t, bI_f, n_31, j_bit, j_one, i_and, i_or, Nat.not_lt_zero, Nat.succ_ne_zero, Nat.add_one_ne_zero, Nat.add_one_sub_one, Nat.zero_le, Nat.or_zero, Nat.zero_or, Bool.not_true, Bool.not_false, Bool.true_and, Bool.false_and, Bool.and_true, Bool.and_false, ↓reduceIte, if_true, if_false, not_true_eq_false, not_false_eq_true, true_and, and_true, false_and, and_false, and_self, true_or, or_true, false_or, or_false, Nat.reduceEqDiff, Nat.reduceLT, Nat.reduceLeDiff, Nat.reduceAdd, Nat.reduceMul, Nat.reduceSub, Nat.add_zero, Nat.zero_add, Nat.mul_zero, Nat.zero_mul, ne_eq, Bool.not_eq_true, Bool.not_eq_false, reduceCtorEq, decide_true, decide_false, decide_eq_true_eq, decide_eq_false_iff_not, Bool.false_eq_true, if_pos, if_neg, B.1.2.2.2.2.2.2, (B.2.2.2.2.1 t ht).1, m_has, hb, Bool.toNat_false]
    · simp (disch := omega) only [fLt_e, fBd_s, fJn_s, fNn_s, fNu_0, fNu_s, fBo_0, fBo_1, fBo_b, i_lit, i_neg1, nI_add, pk_mul, nI_clamp, i_le, i_lt, i_eq, fIx_n, nI_mI, mI_nI, mI_lt, nI_lt_m, mI_le, nI_le_m, xI_0, xI_s, bI_0, bI_1, bI_t, bI_f, n_31, j_bit, j_one, i_and, i_or, Nat.not_lt_zero, Nat.succ_ne_zero, Nat.add_one_ne_zero, Nat.add_one_sub_one, Nat.zero_le, Nat.or_zero, Nat.zero_or, Bool.not_true, Bool.not_false, Bool.true_and, Bool.false_and, Bool.and_true, Bool.and_false, ↓reduceIte, if_true, if_false, not_true_eq_false, not_false_eq_true, true_and, and_true, false_and, and_false, and_self, true_or, or_true, false_or, or_false, Nat.reduceEqDiff, Nat.reduceLT, Nat.reduceLeDiff, Nat.reduceAdd, Nat.reduceMul, Nat.reduceSub, Nat.add_zero, Nat.zero_add, Nat.mul_zero, Nat.zero_mul, ne_eq, Bool.not_eq_true, Bool.not_eq_false, reduceCtorEq, decide_true, decide_false, decide_eq_true_eq, decide_eq_false_iff_not, Bool.false_eq_true, if_pos, if_neg, B.1.2.2.2.2.2.2, (B.2.2.2.2.1 t ht).1, m_has, hb, Bool.toNat_true]) (fF_lt (by omega))
  refine Eq.trans e ?_
  show f_X12_heard_L43 (nI s) (m + 1) (nI (zs (fun k => ((G (137 + 4 * k)).testBit s).toNat) (G 6))) (nI (G 6)) sm = _
  rw [f_X12_heard_L43]
  simp (disch := omega) only [fLt_e, fBd_s, fJn_s, fNn_s, fNu_0, fNu_s, fBo_0, fBo_1, fBo_b, i_lit, i_neg1, nI_add, pk_mul, nI_clamp, i_le, i_lt, i_eq, fIx_n, nI_mI, mI_nI, mI_lt, nI_lt_m, mI_le, nI_le_m, xI_0, xI_s, bI_0, bI_1, bI_t, bI_f, n_31, j_bit, j_one, i_and, i_or, Nat.not_lt_zero, Nat.succ_ne_zero, Nat.add_one_ne_zero, Nat.add_one_sub_one, Nat.zero_le, Nat.or_zero, Nat.zero_or, Bool.not_true, Bool.not_false, Bool.true_and, Bool.false_and, Bool.and_true, Bool.and_false, ↓reduceIte, if_true, if_false, not_true_eq_false, not_false_eq_true, true_and, and_true, false_and, and_false, and_self, true_or, or_true, false_or, or_false, Nat.reduceEqDiff, Nat.reduceLT, Nat.reduceLeDiff, Nat.reduceAdd, Nat.reduceMul, Nat.reduceSub, Nat.add_zero, Nat.zero_add, Nat.mul_zero, Nat.zero_mul, ne_eq, Bool.not_eq_true, Bool.not_eq_false, reduceCtorEq, decide_true, decide_false, decide_eq_true_eq, decide_eq_false_iff_not, Bool.false_eq_true, if_pos, if_neg, B.1.2.2.2.2.2.2]
end
theorem call_led (a : Int32) : CALL (f_X11_led a) (f_X12_led a) := by
  intro sc sm ⟨hA, H⟩
  have H := pro_x H
  have z := pro_0 sm
  unfold f_X11_led f_X12_led
  simp only [fLt_e, pro_eq]
  generalize pro sm = s2 at *
  obtain ⟨q, G, w, X, B, -⟩ := RX_cur H
  have w1 := w.1
  have hb := gln'_le w (Nat.le_refl (G 2))
  have hl : f_X12_allLines s2 = some (nI (gln' G (G 2)), s2) := m_allLines B w
  have E := m_isIn_n a (gln' G (G 2)) (by omega) s2
  rw [X.1, fNn_s, hl, fBd_s]
  simp only [i_lit, i_neg1]
  rw [E]
  by_cases ha : 0 ≤ a.toInt ∧ a.toInt < gln' G (G 2)
  · rw [inB_t.mpr (by omega)]
    obtain ⟨l, hl2, rfl, -⟩ := nI_ofInt (n := gln' G (G 2)) ha.1 (by omega)
    obtain ⟨s, hs, h1, h2⟩ := zs_find _ _ hl2
    simp (disch := omega) only [fLt_e, fBd_s, fJn_s, fNn_s, fNu_0, fNu_s, fBo_0, fBo_1, fBo_b, i_lit, i_neg1, nI_add, pk_mul, nI_clamp, i_le, i_lt, i_eq, fIx_n, nI_mI, mI_nI, mI_lt, nI_lt_m, mI_le, nI_le_m, xI_0, xI_s, bI_0, bI_1, bI_t, bI_f, n_31, j_bit, j_one, i_and, i_or, Nat.not_lt_zero, Nat.succ_ne_zero, Nat.add_one_ne_zero, Nat.add_one_sub_one, Nat.zero_le, Nat.or_zero, Nat.zero_or, Bool.not_true, Bool.not_false, Bool.true_and, Bool.false_and, Bool.and_true, Bool.and_false, ↓reduceIte, if_true, if_false, not_true_eq_false, not_false_eq_true, true_and, and_true, false_and, and_false, and_self, true_or, or_true, false_or, or_false, Nat.reduceEqDiff, Nat.reduceLT, Nat.reduceLeDiff, Nat.reduceAdd, Nat.reduceMul, Nat.reduceSub, Nat.add_zero, Nat.zero_add, Nat.mul_zero, Nat.zero_mul, ne_eq, Bool.not_eq_true, Bool.not_eq_false, reduceCtorEq, decide_true, decide_false, decide_eq_true_eq, decide_eq_false_iff_not, Bool.false_eq_true, if_pos, if_neg, x_sceneOfLine_t X.2.1 w hs h1 h2, m_sceneOf B w hs h1 h2, f_X11_answer]
    exact ⟨_, _, _, rfl, rfl, fin_0 H z⟩
  · rw [inB_f.mpr (by omega)]
    simp (disch := omega) only [fLt_e, fBd_s, fJn_s, fNn_s, fNu_0, fNu_s, fBo_0, fBo_1, fBo_b, i_lit, i_neg1, nI_add, pk_mul, nI_clamp, i_le, i_lt, i_eq, fIx_n, nI_mI, mI_nI, mI_lt, nI_lt_m, mI_le, nI_le_m, xI_0, xI_s, bI_0, bI_1, bI_t, bI_f, n_31, j_bit, j_one, i_and, i_or, Nat.not_lt_zero, Nat.succ_ne_zero, Nat.add_one_ne_zero, Nat.add_one_sub_one, Nat.zero_le, Nat.or_zero, Nat.zero_or, Bool.not_true, Bool.not_false, Bool.true_and, Bool.false_and, Bool.and_true, Bool.and_false, ↓reduceIte, if_true, if_false, not_true_eq_false, not_false_eq_true, true_and, and_true, false_and, and_false, and_self, true_or, or_true, false_or, or_false, Nat.reduceEqDiff, Nat.reduceLT, Nat.reduceLeDiff, Nat.reduceAdd, Nat.reduceMul, Nat.reduceSub, Nat.add_zero, Nat.zero_add, Nat.mul_zero, Nat.zero_mul, ne_eq, Bool.not_eq_true, Bool.not_eq_false, reduceCtorEq, decide_true, decide_false, decide_eq_true_eq, decide_eq_false_iff_not, Bool.false_eq_true, if_pos, if_neg, x_sceneOfLine_f X.2.1 w ha, f_X11_fail, f_X12_refuse]
    exact ⟨_, _, _, rfl, rfl, fin_st H _⟩
theorem call_heard (a : Int32) : CALL (f_X11_heard a) (f_X12_heard a) := by
  intro sc sm ⟨hA, H⟩
  have H := pro_x H
  have z := pro_0 sm
  unfold f_X11_heard f_X12_heard
  simp only [fLt_e, pro_eq]
  generalize pro sm = s2 at *
  obtain ⟨q, G, w, X, B, -⟩ := RX_cur H
  have w1 := w.1
  have hb := gln'_le w (Nat.le_refl (G 2))
  have hl : f_X12_allLines s2 = some (nI (gln' G (G 2)), s2) := m_allLines B w
  have E := m_isIn_n a (gln' G (G 2)) (by omega) s2
  rw [X.1, fNn_s, hl, fBd_s]
  simp only [i_lit, i_neg1]
  rw [E]
  by_cases ha : 0 ≤ a.toInt ∧ a.toInt < gln' G (G 2)
  · rw [inB_t.mpr (by omega)]
    obtain ⟨l, hl2, rfl, -⟩ := nI_ofInt (n := gln' G (G 2)) ha.1 (by omega)
    obtain ⟨s, hs, h1, h2⟩ := zs_find _ _ hl2
    simp (disch := omega) only [fLt_e, fBd_s, fJn_s, fNn_s, fNu_0, fNu_s, fBo_0, fBo_1, fBo_b, i_lit, i_neg1, nI_add, pk_mul, nI_clamp, i_le, i_lt, i_eq, fIx_n, nI_mI, mI_nI, mI_lt, nI_lt_m, mI_le, nI_le_m, xI_0, xI_s, bI_0, bI_1, bI_t, bI_f, n_31, j_bit, j_one, i_and, i_or, Nat.not_lt_zero, Nat.succ_ne_zero, Nat.add_one_ne_zero, Nat.add_one_sub_one, Nat.zero_le, Nat.or_zero, Nat.zero_or, Bool.not_true, Bool.not_false, Bool.true_and, Bool.false_and, Bool.and_true, Bool.and_false, ↓reduceIte, if_true, if_false, not_true_eq_false, not_false_eq_true, true_and, and_true, false_and, and_false, and_self, true_or, or_true, false_or, or_false, Nat.reduceEqDiff, Nat.reduceLT, Nat.reduceLeDiff, Nat.reduceAdd, Nat.reduceMul, Nat.reduceSub, Nat.add_zero, Nat.zero_add, Nat.mul_zero, Nat.zero_mul, ne_eq, Bool.not_eq_true, Bool.not_eq_false, reduceCtorEq, decide_true, decide_false, decide_eq_true_eq, decide_eq_false_iff_not, Bool.false_eq_true, if_pos, if_neg, x_sceneOfLine_t X.2.1 w hs h1 h2, m_sceneOf B w hs h1 h2, x_timesSeen X.2.2.2 w (show s < 12 by omega), m_heardL B w (show s < 12 by omega), f_X11_answer]
    exact ⟨_, _, _, rfl, rfl, fin_0 H z⟩
  · rw [inB_f.mpr (by omega)]
    simp (disch := omega) only [fLt_e, fBd_s, fJn_s, fNn_s, fNu_0, fNu_s, fBo_0, fBo_1, fBo_b, i_lit, i_neg1, nI_add, pk_mul, nI_clamp, i_le, i_lt, i_eq, fIx_n, nI_mI, mI_nI, mI_lt, nI_lt_m, mI_le, nI_le_m, xI_0, xI_s, bI_0, bI_1, bI_t, bI_f, n_31, j_bit, j_one, i_and, i_or, Nat.not_lt_zero, Nat.succ_ne_zero, Nat.add_one_ne_zero, Nat.add_one_sub_one, Nat.zero_le, Nat.or_zero, Nat.zero_or, Bool.not_true, Bool.not_false, Bool.true_and, Bool.false_and, Bool.and_true, Bool.and_false, ↓reduceIte, if_true, if_false, not_true_eq_false, not_false_eq_true, true_and, and_true, false_and, and_false, and_self, true_or, or_true, false_or, or_false, Nat.reduceEqDiff, Nat.reduceLT, Nat.reduceLeDiff, Nat.reduceAdd, Nat.reduceMul, Nat.reduceSub, Nat.add_zero, Nat.zero_add, Nat.mul_zero, Nat.zero_mul, ne_eq, Bool.not_eq_true, Bool.not_eq_false, reduceCtorEq, decide_true, decide_false, decide_eq_true_eq, decide_eq_false_iff_not, Bool.false_eq_true, if_pos, if_neg, x_sceneOfLine_f X.2.1 w ha, f_X11_fail, f_X12_refuse]
    exact ⟨_, _, _, rfl, rfl, fin_st H _⟩
