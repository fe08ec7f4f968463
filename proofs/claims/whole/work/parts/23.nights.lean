/-! layer 2: the calls of nights and the book -/
theorem itr_pok {G D : Nat → Nat} (w : gWf G) (hD : ∀ k, D k < 4) : ∀ n k t, pOk G t → pOk G (itq (hst G D) n k t) := itr_inv (pOk G) (fun k t h => by
  unfold hst
  split
  · exact h
  · rename_i hz
    exact gst_ok w (by omega) h (hD k) h.2.2.2.2.2)
theorem itr_seen {G D : Nat → Nat} {n k : Nat} {t : pSt} (hn : 0 < n) (h : 0 < t.1) : 0 < (itq (hst G D) n k t).2.2.1 := by
  obtain ⟨n, rfl⟩ : ∃ m, n = m + 1 := ⟨n - 1, by omega⟩
  have key : ∀ k t, 0 < t.2.2.1 → 0 < (hst G D k t).2.2.1 := by
    intro k t h
    unfold hst
    split
    · exact h
    · exact Nat.lt_of_lt_of_le h Nat.left_le_or
  refine itr_inv (fun t : pSt => 0 < t.2.2.1) key n (k + 1) _ ?_
  show 0 < (hst G D k t).2.2.1
  unfold hst
  rw [if_neg (by omega)]
  show 0 < t.2.2.1 ||| 2 ^ (t.1 - 1)
  exact Nat.lt_of_lt_of_le (Nat.two_pow_pos (t.1 - 1)) Nat.right_le_or
theorem min_same {sc : fSt} {q q' : Nat} {G G' : Nat → Nat} (X : rHou sc 0 q G) (w : gWf G) (X' : rHou sc 0 q' G') (w' : gWf G') : min 20 (G 6 + 1) = min 20 (G' 6 + 1) := by
  have h1 := X.2.2.2.1
  have h2 := X'.2.2.2.1
  have a1 := w.2.1.2.2
  have a2 := w'.2.1.2.2
  rw [h1] at h2
  rw [(nI_eq (by omega) (by omega)).mp h2]
theorem cEq_ni (sc : fSt) (i lo hi : Nat) (a : Nat → Int32) : cEq sc (oS sc 3 i lo hi a) := ⟨fun c hc i k => by rcases hc with rfl | rfl | rfl | rfl | rfl <;> exact ⟨rfl, rfl, rfl, rfl, rfl⟩, rfl, rfl, ⟨rfl, rfl, rfl⟩, ⟨rfl, rfl, rfl, rfl, rfl, rfl⟩, rfl, rfl, rfl, rfl, rfl, rfl, rfl⟩
theorem call_night (a b : Int32) : CALL (f_X11_night a b) (f_X12_night a b) := by
  intro sc sm ⟨hA, H⟩
  have H := pro_x H
  have z := pro_0 sm
  unfold f_X11_night f_X12_night
  simp only [fLt_e, pro_eq]
  generalize pro sm = s2 at *
  have i0 : (0 : Int32).toInt = 0 := rfl
  have i12 : (12 : Int32).toInt = 12 := rfl
  have l12 : (12 : Int64).toInt = 12 := rfl
  have hT := H.2.2.1
  rw [show (4 : Int32) = nI 4 from rfl, x_isBelow _ _ (by omega), m_isTray]
  by_cases ha : 0 ≤ a.toInt ∧ a.toInt ≤ 3
  · rw [inB_t.mpr ha, inB_t.mpr (show 0 ≤ a.toInt ∧ a.toInt ≤ ((4 : Nat) : Int) - 1 by omega)]
    obtain ⟨t, ht, rfl, -⟩ := nI_ofInt (n := 4) ha.1 (by omega)
    by_cases h1 : gI sc 8 t 1 = nI 0
    · have g1 : gA s2 12 0 2 t = mI := by
        rcases hT t ht with ⟨c1, c2⟩ | ⟨c1, -⟩
        · exact c2
        · rw [h1, i_eq 0 1 (by omega) (by omega)] at c1; omega
      simp (disch := omega) only [fLt_e, fBd_s, fJn_s, fNn_s, fNu_0, fNu_s, fBo_0, fBo_1, fBo_b, i_lit, i_neg1, nI_add, pk_mul, nI_clamp, i_le, i_lt, i_eq, fIx_n, nI_mI, mI_nI, mI_lt, nI_lt_m, mI_le, nI_le_m, xI_0, xI_s, bI_0, bI_1, bI_t, bI_f, n_31, j_bit, j_one, i_and, i_or, Nat.not_lt_zero, Nat.succ_ne_zero, Nat.add_one_ne_zero, Nat.add_one_sub_one, Nat.zero_le, Nat.or_zero, Nat.zero_or, Bool.not_true, Bool.not_false, Bool.true_and, Bool.false_and, Bool.and_true, Bool.and_false, ↓reduceIte, if_true, if_false, not_true_eq_false, not_false_eq_true, true_and, and_true, false_and, and_false, and_self, true_or, or_true, false_or, or_false, Nat.reduceEqDiff, Nat.reduceLT, Nat.reduceLeDiff, Nat.reduceAdd, Nat.reduceMul, Nat.reduceSub, Nat.add_zero, Nat.zero_add, Nat.mul_zero, Nat.zero_mul, ne_eq, Bool.not_eq_true, Bool.not_eq_false, reduceCtorEq, decide_true, decide_false, decide_eq_true_eq, decide_eq_false_iff_not, Bool.false_eq_true, if_pos, if_neg, h1, g1, f_X11_fail, f_X12_refuse]
      exact ⟨_, _, _, rfl, rfl, fin_st H _⟩
    · obtain ⟨so, ma, c2, c3, c1, c4, c5, c6, c7, c8⟩ := rT_at hT ht h1
      have E1 := x_isIn b 0 12
      have E2 := m_isIn_c b 0 12
      simp only [i0, i12, l0i, l12] at E1 E2
      by_cases hb : 0 ≤ b.toInt ∧ b.toInt ≤ 12
      · obtain ⟨many, hm, rfl, -⟩ := nI_ofInt (n := 13) hb.1 (by omega)
        rw [inB_t.mpr hb] at E1 E2
        have E3 := x_hasPlaces c6 c3 (0 : Int32) (nI many)
        rw [i0, nI_toInt (by omega)] at E3
        by_cases hp : many ≤ ma
        · rw [decide_eq_true (by omega)] at E3
          have hrow : ∀ k, k < many → gB sc 8 t 1 k = gB s2 12 0 3 (60 * t + k) := fun k hk => c8 k (by omega)
          have E4 : f_X8_holdsDeeds t (nI many) sc = some (bI (decide (dOk (gB sc 8 t 1) many)), sc) := by
            have e := x_holdsL (sc := sc) hp c3 c6 (fun s2 => some ((1 : Int32), s2)) (fun s2 => some ((0 : Int32), s2)) many 0 fF (by omega) (fF_lt (by omega))
            unfold f_X8_holdsDeeds
            simp only [fLt_e, fJn_s, i_lit] at e ⊢
            by_cases hd : dOk (gB sc 8 t 1) many
            · rw [e.1 (fun j _ hj => hd j hj), decide_eq_true hd]
              rfl
            · rw [e.2 (fun hh => hd (fun j hj => hh j (Nat.zero_le _) hj)), decide_eq_false hd]
              rfl
          have E5 := fun k9 => m_handC (sm := s2) ht (show many ≤ 12 by omega) k9 many 0 fF (by omega) (fF_lt (by omega))
          obtain ⟨q, G, w, X, B, -⟩ := RX_cur H
          have E6 := x_canOpen X w
          have E7 := m_isDark B w
          simp only [i_lit, i_neg1, l_lit] at E1 E2 E3 E4 E5
          by_cases hd : dOk (gB sc 8 t 1) many
          · rw [decide_eq_true hd] at E4
            have E8 : ∀ k9, f_X12_night_L75 (nI t) (nI many) k9 fF (nI 0) s2 = k9 s2 := fun k9 => (E5 k9).1 (fun j _ hj => by rw [← hrow j hj]; exact hd j hj)
            by_cases hz : gpl G (G 2) (G 5) = 0
            · simp (disch := omega) only [fLt_e, fBd_s, fJn_s, fNn_s, fNu_0, fNu_s, fBo_0, fBo_1, fBo_b, i_lit, i_neg1, nI_add, pk_mul, nI_clamp, i_le, i_lt, i_eq, fIx_n, nI_mI, mI_nI, mI_lt, nI_lt_m, mI_le, nI_le_m, xI_0, xI_s, bI_0, bI_1, bI_t, bI_f, n_31, j_bit, j_one, i_and, i_or, Nat.not_lt_zero, Nat.succ_ne_zero, Nat.add_one_ne_zero, Nat.add_one_sub_one, Nat.zero_le, Nat.or_zero, Nat.zero_or, Bool.not_true, Bool.not_false, Bool.true_and, Bool.false_and, Bool.and_true, Bool.and_false, ↓reduceIte, if_true, if_false, not_true_eq_false, not_false_eq_true, true_and, and_true, false_and, and_false, and_self, true_or, or_true, false_or, or_false, Nat.reduceEqDiff, Nat.reduceLT, Nat.reduceLeDiff, Nat.reduceAdd, Nat.reduceMul, Nat.reduceSub, Nat.add_zero, Nat.zero_add, Nat.mul_zero, Nat.zero_mul, ne_eq, Bool.not_eq_true, Bool.not_eq_false, reduceCtorEq, decide_true, decide_false, decide_eq_true_eq, decide_eq_false_iff_not, Bool.false_eq_true, if_pos, if_neg, l_lit, c1, E1, E2, E3, E4, c7, E8, E6, E7, hz, f_X11_fail, f_X12_refuse]
              exact ⟨_, _, _, rfl, rfl, fin_st H _⟩
            · have w1 := w.1
              have w2 := w.2.1
              have hgp : gpl G (G 2) (G 5) = G 2 := by
                unfold gpl at hz ⊢
                split at hz <;> simp_all
              obtain ⟨D, hD⟩ : ∃ D : Nat → Nat, ∀ k, D k = if k < many then (gB sc 8 t 1 k).toInt.toNat else 0 := ⟨_, fun _ => rfl⟩
              have hD4 : ∀ k, D k < 4 := fun k => by
                rw [hD]
                split
                · rename_i hk
                  have := hd k hk
                  omega
                · omega
              have hDx : ∀ k, k < many → gB sc 8 t 1 k = lN (D k) ∧ D k < 4 := fun k hk => ⟨by
                have := hd k hk
                rw [hD, if_pos hk]
                apply Int64.toInt_inj.mp
                rw [pk_lT (by omega)]
                omega, hD4 k⟩
              have hD0 : ∀ k, many ≤ k → D k = 0 := fun k hk => by rw [hD, if_neg (by omega)]
              have ho := x_open X w 0 mI (gI sc 3 0)
              rw [← oS_0 sc 3 0 0 7, hgp] at ho
              have ok0 : pOk G (G 2, G 5, 0, 0, 0, 0) := ⟨Nat.le_refl _, w2.2.1, by simp, by simp, by simp; omega, by simp⟩
              have hL := x_handL X w (i := 0) (show many ≤ 12 by omega) hDx hD0 (fun s3 => some ((), s3)) mI (gI sc 3 0 6) 12 0 _ fF (by omega) ok0 (fF_lt (by omega))
              have okF := itr_pok w hD4 12 0 _ ok0
              have seF := itr_seen (G := G) (D := D) (n := 12) (k := 0) (t := (G 2, G 5, 0, 0, 0, 0)) (by omega) (by simp only; omega)
              have hM := m_handL B w ht (show many ≤ 12 by omega) (fun k hk => ⟨by rw [← hrow k hk]; exact (hDx k hk).1, hD4 k⟩) hD0 (gI s2 12 0 28) 12 0 (G 2, G 5, 0, 0, 0, 0) fF 0 (upd (upd (gI s2 12 0) 25 (nI 0)) 27 (nI 0)) w1.2.2.1 (by omega) ok0 (by omega) (by simp) (fF_lt (by omega)) rfl rfl rfl (fun hh => by simp only at hh; omega)
              generalize hTF : itq (hst G D) 12 0 (G 2, G 5, 0, 0, 0, 0) = tF at *
              obtain ⟨f1, f2, f3, f4, f5, f6⟩ := okF
              obtain ⟨e, n1, n2, n3⟩ := x_note X w 0 (aNi tF mI (gI sc 3 0 6))
              obtain ⟨g, m1, m2, m3, m4, m5⟩ := m_books B w tF (gI s2 12 0 28) mI
              have P1 : f_X3_playByHand 0 0 t (nI many) sc = some ((), oS sc 3 0 0 7 (aNi tF mI (gI sc 3 0 6))) := by
                unfold f_X3_playByHand
                simp only [fLt_e, fBd_s, fJn_s, i_lit, i_neg1, ho]
                exact hL
              have P2 := m_raises s2
              have e2 : nI (G 2) - nI 1 = xI (G 2) := by
                cases G 2 with
                | zero => rfl
                | succ n => exact nI_pred n
              simp only [i_lit, i_neg1] at hM
              simp (disch := omega) only [fLt_e, fBd_s, fJn_s, fNn_s, fNu_0, fNu_s, fBo_0, fBo_1, fBo_b, i_lit, i_neg1, nI_add, pk_mul, nI_clamp, i_le, i_lt, i_eq, fIx_n, nI_mI, mI_nI, mI_lt, nI_lt_m, mI_le, nI_le_m, xI_0, xI_s, bI_0, bI_1, bI_t, bI_f, n_31, j_bit, j_one, i_and, i_or, Nat.not_lt_zero, Nat.succ_ne_zero, Nat.add_one_ne_zero, Nat.add_one_sub_one, Nat.zero_le, Nat.or_zero, Nat.zero_or, Bool.not_true, Bool.not_false, Bool.true_and, Bool.false_and, Bool.and_true, Bool.and_false, ↓reduceIte, if_true, if_false, not_true_eq_false, not_false_eq_true, true_and, and_true, false_and, and_false, and_self, true_or, or_true, false_or, or_false, Nat.reduceEqDiff, Nat.reduceLT, Nat.reduceLeDiff, Nat.reduceAdd, Nat.reduceMul, Nat.reduceSub, Nat.add_zero, Nat.zero_add, Nat.mul_zero, Nat.zero_mul, ne_eq, Bool.not_eq_true, Bool.not_eq_false, reduceCtorEq, decide_true, decide_false, decide_eq_true_eq, decide_eq_false_iff_not, Bool.false_eq_true, if_pos, if_neg, l_lit, c1, E1, E2, E3, E4, c7, E8, E6, E7, hz, P1, n1, P2, gA_oS, B.1.2.2.1, e2, hM, m1, gI_sI, gI_sA, gI_oS, aNi, aM, f_X11_answer]
              refine ⟨_, _, _, rfl, rfl, fin_0 (up_night H (fun q' G' w' X' _ => min_same X w X' w') (kd := 0) ⟨seF, f3, f4, by omega, by omega⟩ n2 n3 m2 m3 m4 m5) z⟩
          · rw [decide_eq_false hd] at E4
            have E8 : ∀ k9, f_X12_night_L75 (nI t) (nI many) k9 fF (nI 0) s2 = some (mI, sI s2 12 0 0 (nI 5)) := fun k9 => (E5 k9).2 (fun hh => hd (fun j hj => by rw [hrow j hj]; exact hh j (Nat.zero_le _) hj))
            simp (disch := omega) only [fLt_e, fBd_s, fJn_s, fNn_s, fNu_0, fNu_s, fBo_0, fBo_1, fBo_b, i_lit, i_neg1, nI_add, pk_mul, nI_clamp, i_le, i_lt, i_eq, fIx_n, nI_mI, mI_nI, mI_lt, nI_lt_m, mI_le, nI_le_m, xI_0, xI_s, bI_0, bI_1, bI_t, bI_f, n_31, j_bit, j_one, i_and, i_or, Nat.not_lt_zero, Nat.succ_ne_zero, Nat.add_one_ne_zero, Nat.add_one_sub_one, Nat.zero_le, Nat.or_zero, Nat.zero_or, Bool.not_true, Bool.not_false, Bool.true_and, Bool.false_and, Bool.and_true, Bool.and_false, ↓reduceIte, if_true, if_false, not_true_eq_false, not_false_eq_true, true_and, and_true, false_and, and_false, and_self, true_or, or_true, false_or, or_false, Nat.reduceEqDiff, Nat.reduceLT, Nat.reduceLeDiff, Nat.reduceAdd, Nat.reduceMul, Nat.reduceSub, Nat.add_zero, Nat.zero_add, Nat.mul_zero, Nat.zero_mul, ne_eq, Bool.not_eq_true, Bool.not_eq_false, reduceCtorEq, decide_true, decide_false, decide_eq_true_eq, decide_eq_false_iff_not, Bool.false_eq_true, if_pos, if_neg, l_lit, c1, E1, E2, E3, E4, c7, E8, f_X11_fail, f_X12_refuse]
            exact ⟨_, _, _, rfl, rfl, fin_st H _⟩
        · rw [decide_eq_false (by omega)] at E3
          simp only [i_lit, i_neg1, l_lit] at E1 E2 E3
          simp (disch := omega) only [fLt_e, fBd_s, fJn_s, fNn_s, fNu_0, fNu_s, fBo_0, fBo_1, fBo_b, i_lit, i_neg1, nI_add, pk_mul, nI_clamp, i_le, i_lt, i_eq, fIx_n, nI_mI, mI_nI, mI_lt, nI_lt_m, mI_le, nI_le_m, xI_0, xI_s, bI_0, bI_1, bI_t, bI_f, n_31, j_bit, j_one, i_and, i_or, Nat.not_lt_zero, Nat.succ_ne_zero, Nat.add_one_ne_zero, Nat.add_one_sub_one, Nat.zero_le, Nat.or_zero, Nat.zero_or, Bool.not_true, Bool.not_false, Bool.true_and, Bool.false_and, Bool.and_true, Bool.and_false, ↓reduceIte, if_true, if_false, not_true_eq_false, not_false_eq_true, true_and, and_true, false_and, and_false, and_self, true_or, or_true, false_or, or_false, Nat.reduceEqDiff, Nat.reduceLT, Nat.reduceLeDiff, Nat.reduceAdd, Nat.reduceMul, Nat.reduceSub, Nat.add_zero, Nat.zero_add, Nat.mul_zero, Nat.zero_mul, ne_eq, Bool.not_eq_true, Bool.not_eq_false, reduceCtorEq, decide_true, decide_false, decide_eq_true_eq, decide_eq_false_iff_not, Bool.false_eq_true, if_pos, if_neg, l_lit, c1, E1, E2, E3, c7, f_X11_fail, f_X12_refuse]
          exact ⟨_, _, _, rfl, rfl, fin_st H _⟩
      · rw [inB_f.mpr hb] at E1 E2
        simp only [i_lit, i_neg1, l_lit] at E1 E2
        simp (disch := omega) only [fLt_e, fBd_s, fJn_s, fNn_s, fNu_0, fNu_s, fBo_0, fBo_1, fBo_b, i_lit, i_neg1, nI_add, pk_mul, nI_clamp, i_le, i_lt, i_eq, fIx_n, nI_mI, mI_nI, mI_lt, nI_lt_m, mI_le, nI_le_m, xI_0, xI_s, bI_0, bI_1, bI_t, bI_f, n_31, j_bit, j_one, i_and, i_or, Nat.not_lt_zero, Nat.succ_ne_zero, Nat.add_one_ne_zero, Nat.add_one_sub_one, Nat.zero_le, Nat.or_zero, Nat.zero_or, Bool.not_true, Bool.not_false, Bool.true_and, Bool.false_and, Bool.and_true, Bool.and_false, ↓reduceIte, if_true, if_false, not_true_eq_false, not_false_eq_true, true_and, and_true, false_and, and_false, and_self, true_or, or_true, false_or, or_false, Nat.reduceEqDiff, Nat.reduceLT, Nat.reduceLeDiff, Nat.reduceAdd, Nat.reduceMul, Nat.reduceSub, Nat.add_zero, Nat.zero_add, Nat.mul_zero, Nat.zero_mul, ne_eq, Bool.not_eq_true, Bool.not_eq_false, reduceCtorEq, decide_true, decide_false, decide_eq_true_eq, decide_eq_false_iff_not, Bool.false_eq_true, if_pos, if_neg, l_lit, c1, E1, E2, c7, f_X11_fail, f_X12_refuse]
        exact ⟨_, _, _, rfl, rfl, fin_st H _⟩
  · rw [inB_f.mpr ha, inB_f.mpr (show ¬ (0 ≤ a.toInt ∧ a.toInt ≤ ((4 : Nat) : Int) - 1) by omega)]
    simp (disch := omega) only [fLt_e, fBd_s, fJn_s, fNn_s, fNu_0, fNu_s, fBo_0, fBo_1, fBo_b, i_lit, i_neg1, nI_add, pk_mul, nI_clamp, i_le, i_lt, i_eq, fIx_n, nI_mI, mI_nI, mI_lt, nI_lt_m, mI_le, nI_le_m, xI_0, xI_s, bI_0, bI_1, bI_t, bI_f, n_31, j_bit, j_one, i_and, i_or, Nat.not_lt_zero, Nat.succ_ne_zero, Nat.add_one_ne_zero, Nat.add_one_sub_one, Nat.zero_le, Nat.or_zero, Nat.zero_or, Bool.not_true, Bool.not_false, Bool.true_and, Bool.false_and, Bool.and_true, Bool.and_false, ↓reduceIte, if_true, if_false, not_true_eq_false, not_false_eq_true, true_and, and_true, false_and, and_false, and_self, true_or, or_true, false_or, or_false, Nat.reduceEqDiff, Nat.reduceLT, Nat.reduceLeDiff, Nat.reduceAdd, Nat.reduceMul, Nat.reduceSub, Nat.add_zero, Nat.zero_add, Nat.mul_zero, Nat.zero_mul, ne_eq, Bool.not_eq_true, Bool.not_eq_false, reduceCtorEq, decide_true, decide_false, decide_eq_true_eq, decide_eq_false_iff_not, Bool.false_eq_true, if_pos, if_neg, f_X11_fail, f_X12_refuse]
    exact ⟨_, _, _, rfl, rfl, fin_st H _⟩
