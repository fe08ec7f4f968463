/-! layer 2: trays, tape, scenes, kinds, what was told -/
theorem rOne_w {sc sc' sm sm' : fSt} (h : ∀ c, (c = 0 ∨ c = 2 ∨ c = 7 ∨ c = 9) → ∀ i k, gI sc' c i k = gI sc c i k ∧ gA sc' c i k = gA sc c i k ∧ gB sc' c i k = gB sc c i k ∧ gP sc' c i k = gP sc c i k) (ea : gA sm' 12 0 5 = gA sm 12 0 5) (eb : gB sm' 12 0 7 = gB sm 12 0 7) {k q : Nat} {G : Nat → Nat} (H : rOne sc sm k q G) : rOne sc' sm' k q G := by
  have e2 := fun i k => (h 2 (by decide) i k).1
  have e2p := fun i k => (h 2 (by decide) i k).2.2.2
  have e0 := fun i k => (h 0 (by decide) i k).1
  have e0a := fun i k => (h 0 (by decide) i k).2.1
  have e7 := fun i k => (h 7 (by decide) i k).1
  have e7a := fun i k => (h 7 (by decide) i k).2.1
  have e7b := fun i k => (h 7 (by decide) i k).2.2.1
  have e9 := fun i k => (h 9 (by decide) i k).1
  have e9a := fun i k => (h 9 (by decide) i k).2.1
  obtain ⟨h1, h2, h3, h4, h5⟩ := H
  refine ⟨h1, ?_, ?_, ?_, ?_⟩
  · unfold rHou rStg rBok at *
    simp only [e2, e2p, e0, e0a, e7, e7a]
    exact h2
  · simp only [ea]
    exact h3
  · unfold rNam at *
    simp only [e7b, eb]
    exact h4
  · unfold rWk at *
    simp only [e2p, e9]
    rcases h5 with h5 | ⟨a, w, m, b1, b2, b3, b4, b5⟩
    · exact Or.inl h5
    · exact Or.inr ⟨a, w, m, b1, b2, b3, b4, rBod_e e9a _ _ _ _ _ _ b5⟩
theorem rH_w {sc sc' sm sm' : fSt} (h : ∀ c, (c = 0 ∨ c = 2 ∨ c = 7 ∨ c = 9) → ∀ i k, gI sc' c i k = gI sc c i k ∧ gA sc' c i k = gA sc c i k ∧ gB sc' c i k = gB sc c i k ∧ gP sc' c i k = gP sc c i k) (e1 : gI sc' 11 0 9 = gI sc 11 0 9) (e2 : gI sm' 12 0 23 = gI sm 12 0 23) (ea : gA sm' 12 0 5 = gA sm 12 0 5) (eb : gB sm' 12 0 7 = gB sm 12 0 7) (H : rH sc sm) : rH sc' sm' := by
  obtain ⟨n, qq, GG, h10, h11, h12, h13⟩ := H
  exact ⟨n, qq, GG, h10, by rw [e1]; exact h11, by rw [e2]; exact h12, fun k hk => rOne_w h ea eb (h13 k hk)⟩
-- trays
theorem m_tray_L {t ma : Nat} (ht : t < 4) (hm : ma ≤ 60) (st : fSt) : ∃ g, f_X12_tray_L74 (nI t) (nI ma) fF 0 st = some (nI 1, sB st 12 0 3 g) ∧ (∀ k, k < ma → g (60 * t + k) = 0) ∧ ∀ k, k < 60 * t ∨ 60 * t + ma ≤ k → g k = gB st 12 0 3 k := by
  obtain ⟨⟨x, s⟩, m, ⟨hx, g, hs, h1, h2⟩, e⟩ := lp_ex (fun m (z : Int32 × fSt) => f_X12_tray_L74 (nI t) (nI ma) m z.1 z.2) (fun k z => z.1 = nI k ∧ ∃ g, z.2 = sB st 12 0 3 g ∧ (∀ j, j < k → g (60 * t + j) = 0) ∧ ∀ j, j < 60 * t ∨ 60 * t + k ≤ j → g j = gB st 12 0 3 j) ma (fun k z hk hz => by
    obtain ⟨x, s⟩ := z
    obtain ⟨hx, g, hs, h1, h2⟩ := hz
    simp only at hx hs
    subst hx
    subst hs
    refine ⟨(nI (k + 1), sB st 12 0 3 (vp_updL g (60 * t + k) 0)), ⟨rfl, _, rfl, fun j hj => ?_, fun j hj => ?_⟩, fun m => ?_⟩
    · rw [updL_at]
      by_cases hj2 : j = k
      · rw [hj2, if_pos rfl]
      · rw [if_neg (by omega)]; exact h1 j (by omega)
    · rw [updL_at, if_neg (by omega)]
      exact h2 j (by omega)
    · simp only
      rw [f_X12_tray_L74]
      simp (disch := omega) only [fLt_e, fBd_s, fJn_s, fNn_s, fNu_0, fNu_s, fBo_0, fBo_1, fBo_b, i_lit, i_neg1, nI_add, pk_mul, nI_clamp, i_le, i_lt, i_eq, fIx_n, nI_mI, mI_nI, mI_lt, nI_lt_m, mI_le, nI_le_m, xI_0, xI_s, bI_0, bI_1, bI_t, bI_f, n_31, j_bit, j_one, i_and, i_or, Nat.not_lt_zero, Nat.succ_ne_zero, Nat.add_one_ne_zero, Nat.add_one_sub_one, Nat.zero_le, Nat.or_zero, Nat.zero_or, Bool.not_true, Bool.not_false, Bool.true_and, Bool.false_and, Bool.and_true, Bool.and_false, ↓reduceIte, if_true, if_false, not_true_eq_false, not_false_eq_true, true_and, and_true, false_and, and_false, and_self, true_or, or_true, false_or, or_false, Nat.reduceEqDiff, Nat.reduceLT, Nat.reduceLeDiff, Nat.reduceAdd, Nat.reduceMul, Nat.reduceSub, Nat.add_zero, Nat.zero_add, Nat.mul_zero, Nat.zero_mul, ne_eq, Bool.not_eq_true, Bool.not_eq_false, reduceCtorEq, decide_true, decide_false, decide_eq_true_eq, decide_eq_false_iff_not, Bool.false_eq_true, if_pos, if_neg, gB_same, sB_sB, l_lit]) (fF_lt (by omega)) (s := ((0 : Int32), st)) ⟨rfl, gB st 12 0 3, (sB_self st 12 0 3).symm, fun j hj => absurd hj (Nat.not_lt_zero j), fun j _ => rfl⟩
  simp only at hx hs e
  subst hx
  subst hs
  refine ⟨g, ?_, h1, h2⟩
  rw [e, f_X12_tray_L74]
  simp (disch := omega) only [fLt_e, fBd_s, fJn_s, fNn_s, fNu_0, fNu_s, fBo_0, fBo_1, fBo_b, i_lit, i_neg1, nI_add, pk_mul, nI_clamp, i_le, i_lt, i_eq, fIx_n, nI_mI, mI_nI, mI_lt, nI_lt_m, mI_le, nI_le_m, xI_0, xI_s, bI_0, bI_1, bI_t, bI_f, n_31, j_bit, j_one, i_and, i_or, Nat.not_lt_zero, Nat.succ_ne_zero, Nat.add_one_ne_zero, Nat.add_one_sub_one, Nat.zero_le, Nat.or_zero, Nat.zero_or, Bool.not_true, Bool.not_false, Bool.true_and, Bool.false_and, Bool.and_true, Bool.and_false, ↓reduceIte, if_true, if_false, not_true_eq_false, not_false_eq_true, true_and, and_true, false_and, and_false, and_self, true_or, or_true, false_or, or_false, Nat.reduceEqDiff, Nat.reduceLT, Nat.reduceLeDiff, Nat.reduceAdd, Nat.reduceMul, Nat.reduceSub, Nat.add_zero, Nat.zero_add, Nat.mul_zero, Nat.zero_mul, ne_eq, Bool.not_eq_true, Bool.not_eq_false, reduceCtorEq, decide_true, decide_false, decide_eq_true_eq, decide_eq_false_iff_not, Bool.false_eq_true, if_pos, if_neg]
theorem call_tray (a b c : Int32) : CALL (f_X11_tray a b c) (f_X12_tray a b c) := by
  intro sc sm ⟨hA, H⟩
  have H := pro_x H
  have z := pro_0 sm
  unfold f_X11_tray f_X12_tray
  simp only [fLt_e, pro_eq]
  generalize pro sm = s2 at *
  have i0 : (0 : Int32).toInt = 0 := rfl
  have i3 : (3 : Int32).toInt = 3 := rfl
  rw [show (4 : Int32) = nI 4 from rfl, x_isBelow _ _ (by omega)]
  simp only [fBd_s, fJn_s, x_isIn, i0, i3]
  have F := fun v => fin_st H v
  by_cases ha : 0 ≤ a.toInt ∧ a.toInt < 4
  · obtain ⟨t, ht, rfl, -⟩ := nI_ofInt (n := 4) ha.1 (by omega)
    rw [inB_t.mpr (show 0 ≤ (nI t).toInt ∧ (nI t).toInt ≤ ((4 : Nat) : Int) - 1 by omega)]
    by_cases hb : 0 ≤ b.toInt ∧ b.toInt ≤ 3
    · obtain ⟨so, hso, rfl, -⟩ := nI_ofInt (n := 4) hb.1 (by omega)
      rw [inB_t.mpr hb]
      by_cases hc : c.toInt ≤ 60
      · by_cases hc0 : 0 ≤ c.toInt
        · obtain ⟨ma, hma, rfl, -⟩ := nI_ofInt (n := 61) hc0 (by omega)
          obtain ⟨g, e, g1, g2⟩ := m_tray_L ht (show ma ≤ 60 by omega) (sA (sA s2 12 0 1 (upd (gA s2 12 0 1) t (nI so))) 12 0 2 (upd (gA s2 12 0 2) t (nI ma)))
          rw [show (0 : Int32) = nI 0 from rfl] at e
          simp (disch := omega) only [fLt_e, fBd_s, fJn_s, fNn_s, fNu_0, fNu_s, fBo_0, fBo_1, fBo_b, i_lit, i_neg1, nI_add, pk_mul, nI_clamp, i_le, i_lt, i_eq, fIx_n, nI_mI, mI_nI, mI_lt, nI_lt_m, mI_le, nI_le_m, xI_0, xI_s, bI_0, bI_1, bI_t, bI_f, n_31, j_bit, j_one, i_and, i_or, Nat.not_lt_zero, Nat.succ_ne_zero, Nat.add_one_ne_zero, Nat.add_one_sub_one, Nat.zero_le, Nat.or_zero, Nat.zero_or, Bool.not_true, Bool.not_false, Bool.true_and, Bool.false_and, Bool.and_true, Bool.and_false, ↓reduceIte, if_true, if_false, not_true_eq_false, not_false_eq_true, true_and, and_true, false_and, and_false, and_self, true_or, or_true, false_or, or_false, Nat.reduceEqDiff, Nat.reduceLT, Nat.reduceLeDiff, Nat.reduceAdd, Nat.reduceMul, Nat.reduceSub, Nat.add_zero, Nat.zero_add, Nat.mul_zero, Nat.zero_mul, ne_eq, Bool.not_eq_true, Bool.not_eq_false, reduceCtorEq, decide_true, decide_false, decide_eq_true_eq, decide_eq_false_iff_not, Bool.false_eq_true, if_pos, if_neg, f_X8_layOut, p_fillL, l_lit, gA_sA, e, f_X11_agree]
          refine ⟨_, _, _, rfl, rfl, ?_⟩
          obtain ⟨h2, h3, h4, h5, h6, h7, h8, h9, h10⟩ := H
          refine RR_of ⟨h2, h3, ?_, h5, h6, h7, h8, h9, ?_⟩ z.symm
          · intro t' ht'
            by_cases htt : t' = t
            · subst htt
              refine Or.inr ⟨?_, so, ma, by omega, by omega, ?_, ?_, ?_, ?_, fun k hk => ?_⟩
              · simp [gI_sI, gI_sB]
              · simp [gI_sI, gI_sB]
              · simp [gA_sA, gA_sB, upd_at]
              · simp [gI_sI, gI_sB]
              · simp [gA_sA, gA_sB, upd_at]
              · rw [gB_same, g1 k hk]
                simp only [gB_sI, gB_same]
                rw [if_pos (by omega)]
                rfl
            · have hT := h4 t' ht'
              simp only [gI_sI, gI_sB, gB_sI, gB_sB, gA_sB, gA_sA, upd_at, htt, false_and, and_false, if_false, Nat.reduceEqDiff, true_and, and_self, if_true]
              rcases hT with hT | ⟨b1, so', ma', b2, b3, b4, b5, b6, b7, b8⟩
              · exact Or.inl hT
              · refine Or.inr ⟨b1, so', ma', b2, b3, b4, b5, b6, b7, fun k hk => ?_⟩
                rw [g2 _ (by omega)]
                exact b8 k hk
          · refine rH_w (fun c hc i k => ?_) ?_ ?_ ?_ ?_ h10
            · rcases hc with rfl | rfl | rfl | rfl <;> exact ⟨rfl, rfl, rfl, rfl⟩
            all_goals rfl
        · simp (disch := omega) only [fLt_e, fBd_s, fJn_s, fNn_s, fNu_0, fNu_s, fBo_0, fBo_1, fBo_b, i_lit, i_neg1, nI_add, pk_mul, nI_clamp, fIx_n, Int32.lt_iff_toInt_lt, Int32.le_iff_toInt_le, ← Int32.toInt_inj, nI_toInt, mI_toInt, xI_0, xI_s, bI_t, bI_f, Nat.not_lt_zero, Nat.succ_ne_zero, Nat.add_one_ne_zero, Nat.add_one_sub_one, Nat.zero_le, Nat.or_zero, Nat.zero_or, Bool.not_true, Bool.not_false, Bool.true_and, Bool.false_and, Bool.and_true, Bool.and_false, ↓reduceIte, if_true, if_false, not_true_eq_false, not_false_eq_true, true_and, and_true, false_and, and_false, and_self, true_or, or_true, false_or, or_false, Nat.reduceEqDiff, Nat.reduceLT, Nat.reduceLeDiff, Nat.reduceAdd, Nat.reduceMul, Nat.reduceSub, Nat.add_zero, Nat.zero_add, Nat.mul_zero, Nat.zero_mul, ne_eq, Bool.not_eq_true, Bool.not_eq_false, reduceCtorEq, decide_true, decide_false, decide_eq_true_eq, decide_eq_false_iff_not, Bool.false_eq_true, if_pos, if_neg, f_X11_refuse, f_X12_no]
          exact ⟨_, _, _, rfl, rfl, F _⟩
      · simp (disch := omega) only [fLt_e, fBd_s, fJn_s, fNn_s, fNu_0, fNu_s, fBo_0, fBo_1, fBo_b, i_lit, i_neg1, nI_add, pk_mul, nI_clamp, fIx_n, Int32.lt_iff_toInt_lt, Int32.le_iff_toInt_le, ← Int32.toInt_inj, nI_toInt, mI_toInt, xI_0, xI_s, bI_t, bI_f, Nat.not_lt_zero, Nat.succ_ne_zero, Nat.add_one_ne_zero, Nat.add_one_sub_one, Nat.zero_le, Nat.or_zero, Nat.zero_or, Bool.not_true, Bool.not_false, Bool.true_and, Bool.false_and, Bool.and_true, Bool.and_false, ↓reduceIte, if_true, if_false, not_true_eq_false, not_false_eq_true, true_and, and_true, false_and, and_false, and_self, true_or, or_true, false_or, or_false, Nat.reduceEqDiff, Nat.reduceLT, Nat.reduceLeDiff, Nat.reduceAdd, Nat.reduceMul, Nat.reduceSub, Nat.add_zero, Nat.zero_add, Nat.mul_zero, Nat.zero_mul, ne_eq, Bool.not_eq_true, Bool.not_eq_false, reduceCtorEq, decide_true, decide_false, decide_eq_true_eq, decide_eq_false_iff_not, Bool.false_eq_true, if_pos, if_neg, f_X11_refuse, f_X12_no]
        exact ⟨_, _, _, rfl, rfl, F _⟩
    · rw [inB_f.mpr hb]
      by_cases hb0 : b.toInt < 0
      · simp (disch := omega) only [fLt_e, fBd_s, fJn_s, fNn_s, fNu_0, fNu_s, fBo_0, fBo_1, fBo_b, i_lit, i_neg1, nI_add, pk_mul, nI_clamp, fIx_n, Int32.lt_iff_toInt_lt, Int32.le_iff_toInt_le, ← Int32.toInt_inj, nI_toInt, mI_toInt, xI_0, xI_s, bI_t, bI_f, Nat.not_lt_zero, Nat.succ_ne_zero, Nat.add_one_ne_zero, Nat.add_one_sub_one, Nat.zero_le, Nat.or_zero, Nat.zero_or, Bool.not_true, Bool.not_false, Bool.true_and, Bool.false_and, Bool.and_true, Bool.and_false, ↓reduceIte, if_true, if_false, not_true_eq_false, not_false_eq_true, true_and, and_true, false_and, and_false, and_self, true_or, or_true, false_or, or_false, Nat.reduceEqDiff, Nat.reduceLT, Nat.reduceLeDiff, Nat.reduceAdd, Nat.reduceMul, Nat.reduceSub, Nat.add_zero, Nat.zero_add, Nat.mul_zero, Nat.zero_mul, ne_eq, Bool.not_eq_true, Bool.not_eq_false, reduceCtorEq, decide_true, decide_false, decide_eq_true_eq, decide_eq_false_iff_not, Bool.false_eq_true, if_pos, if_neg, f_X11_refuse, f_X12_no]
        exact ⟨_, _, _, rfl, rfl, F _⟩
      · simp (disch := omega) only [fLt_e, fBd_s, fJn_s, fNn_s, fNu_0, fNu_s, fBo_0, fBo_1, fBo_b, i_lit, i_neg1, nI_add, pk_mul, nI_clamp, fIx_n, Int32.lt_iff_toInt_lt, Int32.le_iff_toInt_le, ← Int32.toInt_inj, nI_toInt, mI_toInt, xI_0, xI_s, bI_t, bI_f, Nat.not_lt_zero, Nat.succ_ne_zero, Nat.add_one_ne_zero, Nat.add_one_sub_one, Nat.zero_le, Nat.or_zero, Nat.zero_or, Bool.not_true, Bool.not_false, Bool.true_and, Bool.false_and, Bool.and_true, Bool.and_false, ↓reduceIte, if_true, if_false, not_true_eq_false, not_false_eq_true, true_and, and_true, false_and, and_false, and_self, true_or, or_true, false_or, or_false, Nat.reduceEqDiff, Nat.reduceLT, Nat.reduceLeDiff, Nat.reduceAdd, Nat.reduceMul, Nat.reduceSub, Nat.add_zero, Nat.zero_add, Nat.mul_zero, Nat.zero_mul, ne_eq, Bool.not_eq_true, Bool.not_eq_false, reduceCtorEq, decide_true, decide_false, decide_eq_true_eq, decide_eq_false_iff_not, Bool.false_eq_true, if_pos, if_neg, f_X11_refuse, f_X12_no]
        exact ⟨_, _, _, rfl, rfl, F _⟩
  · rw [inB_f.mpr (show ¬ (0 ≤ a.toInt ∧ a.toInt ≤ ((4 : Nat) : Int) - 1) by omega)]
    by_cases ha0 : a.toInt < 0
    · simp (disch := omega) only [fLt_e, fBd_s, fJn_s, fNn_s, fNu_0, fNu_s, fBo_0, fBo_1, fBo_b, i_lit, i_neg1, nI_add, pk_mul, nI_clamp, fIx_n, Int32.lt_iff_toInt_lt, Int32.le_iff_toInt_le, ← Int32.toInt_inj, nI_toInt, mI_toInt, xI_0, xI_s, bI_t, bI_f, Nat.not_lt_zero, Nat.succ_ne_zero, Nat.add_one_ne_zero, Nat.add_one_sub_one, Nat.zero_le, Nat.or_zero, Nat.zero_or, Bool.not_true, Bool.not_false, Bool.true_and, Bool.false_and, Bool.and_true, Bool.and_false, ↓reduceIte, if_true, if_false, not_true_eq_false, not_false_eq_true, true_and, and_true, false_and, and_false, and_self, true_or, or_true, false_or, or_false, Nat.reduceEqDiff, Nat.reduceLT, Nat.reduceLeDiff, Nat.reduceAdd, Nat.reduceMul, Nat.reduceSub, Nat.add_zero, Nat.zero_add, Nat.mul_zero, Nat.zero_mul, ne_eq, Bool.not_eq_true, Bool.not_eq_false, reduceCtorEq, decide_true, decide_false, decide_eq_true_eq, decide_eq_false_iff_not, Bool.false_eq_true, if_pos, if_neg, f_X11_refuse, f_X12_no]
      exact ⟨_, _, _, rfl, rfl, F _⟩
    · simp (disch := omega) only [fLt_e, fBd_s, fJn_s, fNn_s, fNu_0, fNu_s, fBo_0, fBo_1, fBo_b, i_lit, i_neg1, nI_add, pk_mul, nI_clamp, fIx_n, Int32.lt_iff_toInt_lt, Int32.le_iff_toInt_le, ← Int32.toInt_inj, nI_toInt, mI_toInt, xI_0, xI_s, bI_t, bI_f, Nat.not_lt_zero, Nat.succ_ne_zero, Nat.add_one_ne_zero, Nat.add_one_sub_one, Nat.zero_le, Nat.or_zero, Nat.zero_or, Bool.not_true, Bool.not_false, Bool.true_and, Bool.false_and, Bool.and_true, Bool.and_false, ↓reduceIte, if_true, if_false, not_true_eq_false, not_false_eq_true, true_and, and_true, false_and, and_false, and_self, true_or, or_true, false_or, or_false, Nat.reduceEqDiff, Nat.reduceLT, Nat.reduceLeDiff, Nat.reduceAdd, Nat.reduceMul, Nat.reduceSub, Nat.add_zero, Nat.zero_add, Nat.mul_zero, Nat.zero_mul, ne_eq, Bool.not_eq_true, Bool.not_eq_false, reduceCtorEq, decide_true, decide_false, decide_eq_true_eq, decide_eq_false_iff_not, Bool.false_eq_true, if_pos, if_neg, f_X11_refuse, f_X12_no]
      exact ⟨_, _, _, rfl, rfl, F _⟩
-- where a number lies
/-- why there is no such place: as both sides tell it -/
theorem why_place {sc sm : fSt} (hT : rT sc sm) (a b : Int32) : ∃ v, f_X11_whyNoPlace a b sc = some (nI v, sc) ∧ f_X12_placed a b sm = some (nI v, sm) ∧ v ≤ 4 ∧ (v = 0 → ∃ t p so ma, t < 4 ∧ a = nI t ∧ p < ma ∧ b = nI p ∧ so ≤ 3 ∧ ma ≤ 60 ∧ gI sc 8 t 1 = nI 1 ∧ gI sc 8 t 2 = nI so ∧ gA sm 12 0 1 t = nI so ∧ gI sc 8 t 3 = nI ma ∧ gA sm 12 0 2 t = nI ma ∧ ∀ k, k < ma → gB sc 8 t 1 k = gB sm 12 0 3 (60 * t + k)) := by
  unfold f_X11_whyNoPlace f_X12_placed f_X12_trayed
  rw [show (4 : Int32) = nI 4 from rfl, x_isBelow _ _ (by omega)]
  by_cases ha : 0 ≤ a.toInt ∧ a.toInt < 4
  · obtain ⟨t, ht, rfl, -⟩ := nI_ofInt (n := 4) ha.1 (by omega)
    rw [inB_t.mpr (show 0 ≤ (nI t).toInt ∧ (nI t).toInt ≤ ((4 : Nat) : Int) - 1 by omega)]
    rcases hT t ht with ⟨c1, c2⟩ | ⟨c1, so, ma, c2, c3, c4, c5, c6, c7, c8⟩
    · refine ⟨3, ?_, ?_, by omega, by omega⟩
      · simp (disch := omega) only [fLt_e, fBd_s, fJn_s, fNn_s, fNu_0, fNu_s, fBo_0, fBo_1, fBo_b, i_lit, i_neg1, nI_add, pk_mul, nI_clamp, i_le, i_lt, i_eq, fIx_n, nI_mI, mI_nI, mI_lt, nI_lt_m, mI_le, nI_le_m, xI_0, xI_s, bI_0, bI_1, bI_t, bI_f, n_31, j_bit, j_one, i_and, i_or, Nat.not_lt_zero, Nat.succ_ne_zero, Nat.add_one_ne_zero, Nat.add_one_sub_one, Nat.zero_le, Nat.or_zero, Nat.zero_or, Bool.not_true, Bool.not_false, Bool.true_and, Bool.false_and, Bool.and_true, Bool.and_false, ↓reduceIte, if_true, if_false, not_true_eq_false, not_false_eq_true, true_and, and_true, false_and, and_false, and_self, true_or, or_true, false_or, or_false, Nat.reduceEqDiff, Nat.reduceLT, Nat.reduceLeDiff, Nat.reduceAdd, Nat.reduceMul, Nat.reduceSub, Nat.add_zero, Nat.zero_add, Nat.mul_zero, Nat.zero_mul, ne_eq, Bool.not_eq_true, Bool.not_eq_false, reduceCtorEq, decide_true, decide_false, decide_eq_true_eq, decide_eq_false_iff_not, Bool.false_eq_true, if_pos, if_neg, c1]
      · simp (disch := omega) only [fLt_e, fBd_s, fJn_s, fNn_s, fNu_0, fNu_s, fBo_0, fBo_1, fBo_b, i_lit, i_neg1, nI_add, pk_mul, nI_clamp, i_le, i_lt, i_eq, fIx_n, nI_mI, mI_nI, mI_lt, nI_lt_m, mI_le, nI_le_m, xI_0, xI_s, bI_0, bI_1, bI_t, bI_f, n_31, j_bit, j_one, i_and, i_or, Nat.not_lt_zero, Nat.succ_ne_zero, Nat.add_one_ne_zero, Nat.add_one_sub_one, Nat.zero_le, Nat.or_zero, Nat.zero_or, Bool.not_true, Bool.not_false, Bool.true_and, Bool.false_and, Bool.and_true, Bool.and_false, ↓reduceIte, if_true, if_false, not_true_eq_false, not_false_eq_true, true_and, and_true, false_and, and_false, and_self, true_or, or_true, false_or, or_false, Nat.reduceEqDiff, Nat.reduceLT, Nat.reduceLeDiff, Nat.reduceAdd, Nat.reduceMul, Nat.reduceSub, Nat.add_zero, Nat.zero_add, Nat.mul_zero, Nat.zero_mul, ne_eq, Bool.not_eq_true, Bool.not_eq_false, reduceCtorEq, decide_true, decide_false, decide_eq_true_eq, decide_eq_false_iff_not, Bool.false_eq_true, if_pos, if_neg, c2]
    · by_cases hb : 0 ≤ b.toInt ∧ b.toInt < ma
      · obtain ⟨p, hp, rfl, -⟩ := nI_ofInt (n := ma) hb.1 (by omega)
        refine ⟨0, ?_, ?_, by omega, fun _ => ⟨t, p, so, ma, ht, rfl, hp, rfl, c2, c3, c1, c4, c5, c6, c7, c8⟩⟩
        · simp (disch := omega) only [fLt_e, fBd_s, fJn_s, fNn_s, fNu_0, fNu_s, fBo_0, fBo_1, fBo_b, i_lit, i_neg1, nI_add, pk_mul, nI_clamp, i_le, i_lt, i_eq, fIx_n, nI_mI, mI_nI, mI_lt, nI_lt_m, mI_le, nI_le_m, xI_0, xI_s, bI_0, bI_1, bI_t, bI_f, n_31, j_bit, j_one, i_and, i_or, Nat.not_lt_zero, Nat.succ_ne_zero, Nat.add_one_ne_zero, Nat.add_one_sub_one, Nat.zero_le, Nat.or_zero, Nat.zero_or, Bool.not_true, Bool.not_false, Bool.true_and, Bool.false_and, Bool.and_true, Bool.and_false, ↓reduceIte, if_true, if_false, not_true_eq_false, not_false_eq_true, true_and, and_true, false_and, and_false, and_self, true_or, or_true, false_or, or_false, Nat.reduceEqDiff, Nat.reduceLT, Nat.reduceLeDiff, Nat.reduceAdd, Nat.reduceMul, Nat.reduceSub, Nat.add_zero, Nat.zero_add, Nat.mul_zero, Nat.zero_mul, ne_eq, Bool.not_eq_true, Bool.not_eq_false, reduceCtorEq, decide_true, decide_false, decide_eq_true_eq, decide_eq_false_iff_not, Bool.false_eq_true, if_pos, if_neg, c1, c6, x_isBelow, inB_t.mpr (show 0 ≤ (nI p).toInt ∧ (nI p).toInt ≤ ((ma : Nat) : Int) - 1 by omega)]
        · simp (disch := omega) only [fLt_e, fBd_s, fJn_s, fNn_s, fNu_0, fNu_s, fBo_0, fBo_1, fBo_b, i_lit, i_neg1, nI_add, pk_mul, nI_clamp, i_le, i_lt, i_eq, fIx_n, nI_mI, mI_nI, mI_lt, nI_lt_m, mI_le, nI_le_m, xI_0, xI_s, bI_0, bI_1, bI_t, bI_f, n_31, j_bit, j_one, i_and, i_or, Nat.not_lt_zero, Nat.succ_ne_zero, Nat.add_one_ne_zero, Nat.add_one_sub_one, Nat.zero_le, Nat.or_zero, Nat.zero_or, Bool.not_true, Bool.not_false, Bool.true_and, Bool.false_and, Bool.and_true, Bool.and_false, ↓reduceIte, if_true, if_false, not_true_eq_false, not_false_eq_true, true_and, and_true, false_and, and_false, and_self, true_or, or_true, false_or, or_false, Nat.reduceEqDiff, Nat.reduceLT, Nat.reduceLeDiff, Nat.reduceAdd, Nat.reduceMul, Nat.reduceSub, Nat.add_zero, Nat.zero_add, Nat.mul_zero, Nat.zero_mul, ne_eq, Bool.not_eq_true, Bool.not_eq_false, reduceCtorEq, decide_true, decide_false, decide_eq_true_eq, decide_eq_false_iff_not, Bool.false_eq_true, if_pos, if_neg, c7]
      · refine ⟨4, ?_, ?_, by omega, by omega⟩
        · simp (disch := omega) only [fLt_e, fBd_s, fJn_s, fNn_s, fNu_0, fNu_s, fBo_0, fBo_1, fBo_b, i_lit, i_neg1, nI_add, pk_mul, nI_clamp, i_le, i_lt, i_eq, fIx_n, nI_mI, mI_nI, mI_lt, nI_lt_m, mI_le, nI_le_m, xI_0, xI_s, bI_0, bI_1, bI_t, bI_f, n_31, j_bit, j_one, i_and, i_or, Nat.not_lt_zero, Nat.succ_ne_zero, Nat.add_one_ne_zero, Nat.add_one_sub_one, Nat.zero_le, Nat.or_zero, Nat.zero_or, Bool.not_true, Bool.not_false, Bool.true_and, Bool.false_and, Bool.and_true, Bool.and_false, ↓reduceIte, if_true, if_false, not_true_eq_false, not_false_eq_true, true_and, and_true, false_and, and_false, and_self, true_or, or_true, false_or, or_false, Nat.reduceEqDiff, Nat.reduceLT, Nat.reduceLeDiff, Nat.reduceAdd, Nat.reduceMul, Nat.reduceSub, Nat.add_zero, Nat.zero_add, Nat.mul_zero, Nat.zero_mul, ne_eq, Bool.not_eq_true, Bool.not_eq_false, reduceCtorEq, decide_true, decide_false, decide_eq_true_eq, decide_eq_false_iff_not, Bool.false_eq_true, if_pos, if_neg, c1, c6, x_isBelow, inB_f.mpr (show ¬ (0 ≤ b.toInt ∧ b.toInt ≤ ((ma : Nat) : Int) - 1) by omega)]
        · by_cases hb0 : b.toInt < 0
          · simp (disch := omega) only [fLt_e, fBd_s, fJn_s, fNn_s, fNu_0, fNu_s, fBo_0, fBo_1, fBo_b, i_lit, i_neg1, nI_add, pk_mul, nI_clamp, fIx_n, Int32.lt_iff_toInt_lt, Int32.le_iff_toInt_le, ← Int32.toInt_inj, nI_toInt, mI_toInt, xI_0, xI_s, bI_t, bI_f, Nat.not_lt_zero, Nat.succ_ne_zero, Nat.add_one_ne_zero, Nat.add_one_sub_one, Nat.zero_le, Nat.or_zero, Nat.zero_or, Bool.not_true, Bool.not_false, Bool.true_and, Bool.false_and, Bool.and_true, Bool.and_false, ↓reduceIte, if_true, if_false, not_true_eq_false, not_false_eq_true, true_and, and_true, false_and, and_false, and_self, true_or, or_true, false_or, or_false, Nat.reduceEqDiff, Nat.reduceLT, Nat.reduceLeDiff, Nat.reduceAdd, Nat.reduceMul, Nat.reduceSub, Nat.add_zero, Nat.zero_add, Nat.mul_zero, Nat.zero_mul, ne_eq, Bool.not_eq_true, Bool.not_eq_false, reduceCtorEq, decide_true, decide_false, decide_eq_true_eq, decide_eq_false_iff_not, Bool.false_eq_true, if_pos, if_neg, c7]
          · simp (disch := omega) only [fLt_e, fBd_s, fJn_s, fNn_s, fNu_0, fNu_s, fBo_0, fBo_1, fBo_b, i_lit, i_neg1, nI_add, pk_mul, nI_clamp, fIx_n, Int32.lt_iff_toInt_lt, Int32.le_iff_toInt_le, ← Int32.toInt_inj, nI_toInt, mI_toInt, xI_0, xI_s, bI_t, bI_f, Nat.not_lt_zero, Nat.succ_ne_zero, Nat.add_one_ne_zero, Nat.add_one_sub_one, Nat.zero_le, Nat.or_zero, Nat.zero_or, Bool.not_true, Bool.not_false, Bool.true_and, Bool.false_and, Bool.and_true, Bool.and_false, ↓reduceIte, if_true, if_false, not_true_eq_false, not_false_eq_true, true_and, and_true, false_and, and_false, and_self, true_or, or_true, false_or, or_false, Nat.reduceEqDiff, Nat.reduceLT, Nat.reduceLeDiff, Nat.reduceAdd, Nat.reduceMul, Nat.reduceSub, Nat.add_zero, Nat.zero_add, Nat.mul_zero, Nat.zero_mul, ne_eq, Bool.not_eq_true, Bool.not_eq_false, reduceCtorEq, decide_true, decide_false, decide_eq_true_eq, decide_eq_false_iff_not, Bool.false_eq_true, if_pos, if_neg, c7]
  · rw [inB_f.mpr (show ¬ (0 ≤ a.toInt ∧ a.toInt ≤ ((4 : Nat) : Int) - 1) by omega)]
    refine ⟨1, ?_, ?_, by omega, by omega⟩
    · simp only [fLt_e, fBd_s, fJn_s, fNn_s, fNu_0, fNu_s, fBo_0, fBo_1, fBo_b, i_lit, i_neg1, nI_add, pk_mul, nI_clamp, i_le, i_lt, i_eq, fIx_n, nI_mI, mI_nI, mI_lt, nI_lt_m, mI_le, nI_le_m, xI_0, xI_s, bI_0, bI_1, bI_t, bI_f, n_31, j_bit, j_one, i_and, i_or, Nat.not_lt_zero, Nat.succ_ne_zero, Nat.add_one_ne_zero, Nat.add_one_sub_one, Nat.zero_le, Nat.or_zero, Nat.zero_or, Bool.not_true, Bool.not_false, Bool.true_and, Bool.false_and, Bool.and_true, Bool.and_false, ↓reduceIte, if_true, if_false, not_true_eq_false, not_false_eq_true, true_and, and_true, false_and, and_false, and_self, true_or, or_true, false_or, or_false, Nat.reduceEqDiff, Nat.reduceLT, Nat.reduceLeDiff, Nat.reduceAdd, Nat.reduceMul, Nat.reduceSub, Nat.add_zero, Nat.zero_add, Nat.mul_zero, Nat.zero_mul, ne_eq, Bool.not_eq_true, Bool.not_eq_false, reduceCtorEq, decide_true, decide_false, decide_eq_true_eq, decide_eq_false_iff_not, Bool.false_eq_true, if_pos, if_neg]
    · by_cases ha0 : a.toInt < 0
      · simp (disch := omega) only [fLt_e, fBd_s, fJn_s, fNn_s, fNu_0, fNu_s, fBo_0, fBo_1, fBo_b, i_lit, i_neg1, nI_add, pk_mul, nI_clamp, fIx_n, Int32.lt_iff_toInt_lt, Int32.le_iff_toInt_le, ← Int32.toInt_inj, nI_toInt, mI_toInt, xI_0, xI_s, bI_t, bI_f, Nat.not_lt_zero, Nat.succ_ne_zero, Nat.add_one_ne_zero, Nat.add_one_sub_one, Nat.zero_le, Nat.or_zero, Nat.zero_or, Bool.not_true, Bool.not_false, Bool.true_and, Bool.false_and, Bool.and_true, Bool.and_false, ↓reduceIte, if_true, if_false, not_true_eq_false, not_false_eq_true, true_and, and_true, false_and, and_false, and_self, true_or, or_true, false_or, or_false, Nat.reduceEqDiff, Nat.reduceLT, Nat.reduceLeDiff, Nat.reduceAdd, Nat.reduceMul, Nat.reduceSub, Nat.add_zero, Nat.zero_add, Nat.mul_zero, Nat.zero_mul, ne_eq, Bool.not_eq_true, Bool.not_eq_false, reduceCtorEq, decide_true, decide_false, decide_eq_true_eq, decide_eq_false_iff_not, Bool.false_eq_true, if_pos, if_neg]
      · simp (disch := omega) only [fLt_e, fBd_s, fJn_s, fNn_s, fNu_0, fNu_s, fBo_0, fBo_1, fBo_b, i_lit, i_neg1, nI_add, pk_mul, nI_clamp, fIx_n, Int32.lt_iff_toInt_lt, Int32.le_iff_toInt_le, ← Int32.toInt_inj, nI_toInt, mI_toInt, xI_0, xI_s, bI_t, bI_f, Nat.not_lt_zero, Nat.succ_ne_zero, Nat.add_one_ne_zero, Nat.add_one_sub_one, Nat.zero_le, Nat.or_zero, Nat.zero_or, Bool.not_true, Bool.not_false, Bool.true_and, Bool.false_and, Bool.and_true, Bool.and_false, ↓reduceIte, if_true, if_false, not_true_eq_false, not_false_eq_true, true_and, and_true, false_and, and_false, and_self, true_or, or_true, false_or, or_false, Nat.reduceEqDiff, Nat.reduceLT, Nat.reduceLeDiff, Nat.reduceAdd, Nat.reduceMul, Nat.reduceSub, Nat.add_zero, Nat.zero_add, Nat.mul_zero, Nat.zero_mul, ne_eq, Bool.not_eq_true, Bool.not_eq_false, reduceCtorEq, decide_true, decide_false, decide_eq_true_eq, decide_eq_false_iff_not, Bool.false_eq_true, if_pos, if_neg]
theorem mEq_pro (sm : fSt) (v : Int32) : mEq sm (sI (sI sm 12 0 1 0) 12 0 0 v) := ⟨⟨rfl, rfl, rfl, rfl, rfl, rfl, rfl⟩, ⟨rfl, rfl⟩, ⟨rfl, rfl, rfl, rfl, rfl, rfl, rfl⟩, rfl, rfl⟩
theorem fin_v {sc sm : fSt} (H : RX sc sm) (v : Int32) : RR (sI sc 11 0 2 v) (sI (sI sm 12 0 1 0) 12 0 0 v) := RR_of (RX_e (cEq_st _ _) (mEq_pro _ _) H) (by rw [gI_same, gI_same])
theorem call_read (a b : Int32) : CALL (f_X11_read a b) (f_X12_read a b) := by
  intro sc sm ⟨hA, H⟩
  have hT : rT sc (sI sm 12 0 1 0) := H.2.2.1
  obtain ⟨v, e1, e2, hv, h0⟩ := why_place hT a b
  unfold f_X11_read f_X12_read
  rw [fLt_e, e2, e1]
  simp only [fBd_s, fLt_e, fJn_s, gI_same]
  by_cases hz : v = 0
  · subst hz
    obtain ⟨t, p, so, ma, ht, rfl, hp, rfl, -, hm, -, -, -, -, -, g⟩ := h0 rfl
    simp (disch := omega) only [fLt_e, fBd_s, fJn_s, fNn_s, fNu_0, fNu_s, fBo_0, fBo_1, fBo_b, i_lit, i_neg1, nI_add, pk_mul, nI_clamp, i_le, i_lt, i_eq, fIx_n, nI_mI, mI_nI, mI_lt, nI_lt_m, mI_le, nI_le_m, xI_0, xI_s, bI_0, bI_1, bI_t, bI_f, n_31, j_bit, j_one, i_and, i_or, Nat.not_lt_zero, Nat.succ_ne_zero, Nat.add_one_ne_zero, Nat.add_one_sub_one, Nat.zero_le, Nat.or_zero, Nat.zero_or, Bool.not_true, Bool.not_false, Bool.true_and, Bool.false_and, Bool.and_true, Bool.and_false, ↓reduceIte, if_true, if_false, not_true_eq_false, not_false_eq_true, true_and, and_true, false_and, and_false, and_self, true_or, or_true, false_or, or_false, Nat.reduceEqDiff, Nat.reduceLT, Nat.reduceLeDiff, Nat.reduceAdd, Nat.reduceMul, Nat.reduceSub, Nat.add_zero, Nat.zero_add, Nat.mul_zero, Nat.zero_mul, ne_eq, Bool.not_eq_true, Bool.not_eq_false, reduceCtorEq, decide_true, decide_false, decide_eq_true_eq, decide_eq_false_iff_not, Bool.false_eq_true, if_pos, if_neg]
    refine ⟨_, _, _, ?_, rfl, fin_v H _⟩
    simp only [gB_sI]
    rw [g p hp]
    rfl
  · simp (disch := omega) only [fLt_e, fBd_s, fJn_s, fNn_s, fNu_0, fNu_s, fBo_0, fBo_1, fBo_b, i_lit, i_neg1, nI_add, pk_mul, nI_clamp, i_le, i_lt, i_eq, fIx_n, nI_mI, mI_nI, mI_lt, nI_lt_m, mI_le, nI_le_m, xI_0, xI_s, bI_0, bI_1, bI_t, bI_f, n_31, j_bit, j_one, i_and, i_or, Nat.not_lt_zero, Nat.succ_ne_zero, Nat.add_one_ne_zero, Nat.add_one_sub_one, Nat.zero_le, Nat.or_zero, Nat.zero_or, Bool.not_true, Bool.not_false, Bool.true_and, Bool.false_and, Bool.and_true, Bool.and_false, ↓reduceIte, if_true, if_false, not_true_eq_false, not_false_eq_true, true_and, and_true, false_and, and_false, and_self, true_or, or_true, false_or, or_false, Nat.reduceEqDiff, Nat.reduceLT, Nat.reduceLeDiff, Nat.reduceAdd, Nat.reduceMul, Nat.reduceSub, Nat.add_zero, Nat.zero_add, Nat.mul_zero, Nat.zero_mul, ne_eq, Bool.not_eq_true, Bool.not_eq_false, reduceCtorEq, decide_true, decide_false, decide_eq_true_eq, decide_eq_false_iff_not, Bool.false_eq_true, if_pos, if_neg, f_X11_fail]
    exact ⟨_, _, _, rfl, rfl, fin_v H _⟩
theorem x_cut {sc : fSt} {t so : Nat} (h : gI sc 8 t 2 = nI so) (hs : so ≤ 3) (v : Int64) (sm : fSt) : ∃ x, f_X8_cut t v sc = some (x, sc) ∧ f_X12_cut (nI so) v sm = some (x, sm) := by
  unfold f_X8_cut f_X12_cut
  rw [h]
  rcases (show so = 0 ∨ so = 1 ∨ so = 2 ∨ so = 3 by omega) with rfl | rfl | rfl | rfl
  · exact ⟨_, rfl, rfl⟩
  · exact ⟨_, rfl, rfl⟩
  · exact ⟨_, rfl, rfl⟩
  · exact ⟨_, rfl, rfl⟩
/-- one tray's row of numbers is another one -/
theorem up_row {sc sm : fSt} (H : RX sc sm) {t : Nat} (ht : t < 4) (f g : Nat → Int64) (hfg : ∀ so ma, so ≤ 3 → ma ≤ 60 → gI sc 8 t 3 = nI ma → gA sm 12 0 2 t = nI ma → (∀ k, k < ma → gB sc 8 t 1 k = gB sm 12 0 3 (60 * t + k)) → ∀ k, k < ma → f k = g (60 * t + k)) (hg : ∀ k, k < 60 * t ∨ 60 * t + 60 ≤ k → g k = gB sm 12 0 3 k) : RX (sB sc 8 t 1 f) (sB sm 12 0 3 g) := by
  obtain ⟨h2, h3, h4, h5, h6, h7, h8, h9, h10⟩ := H
  refine ⟨h2, h3, ?_, h5, h6, h7, h8, h9, ?_⟩
  · intro t' ht'
    have hT := h4 t' ht'
    simp only [gI_sB, gA_sB, gB_sB]
    rcases hT with hT | ⟨b1, so', ma', b2, b3, b4, b5, b6, b7, b8⟩
    · exact Or.inl hT
    · refine Or.inr ⟨b1, so', ma', b2, b3, b4, b5, b6, b7, fun k hk => ?_⟩
      by_cases htt : t' = t
      · subst htt
        simp only [and_self, if_true]
        exact hfg so' ma' b2 b3 b6 b7 b8 k hk
      · simp only [htt, false_and, and_false, if_false, and_self, if_true]
        rw [hg _ (by omega)]
        exact b8 k hk
  · refine rH_w (fun c hc i k => ?_) ?_ ?_ ?_ ?_ h10
    · rcases hc with rfl | rfl | rfl | rfl <;> exact ⟨rfl, rfl, rfl, rfl⟩
    all_goals rfl
theorem call_write (a b : Int32) (v : Int64) : CALL (f_X11_write a b v) (f_X12_write a b v) := by
  intro sc sm ⟨hA, H⟩
  have hT : rT sc (sI sm 12 0 1 0) := H.2.2.1
  obtain ⟨y, e1, e2, hy, h0⟩ := why_place hT a b
  unfold f_X11_write f_X12_write
  rw [fLt_e, e2, e1]
  simp only [fBd_s, fLt_e, fJn_s, gI_same]
  by_cases hz : y = 0
  · subst hz
    obtain ⟨t, p, so, ma, ht, rfl, hp, rfl, hso, hm, -, c4, c5, c6, c7, g⟩ := h0 rfl
    have H' : RX sc (sI (sI sm 12 0 1 0) 12 0 0 (nI 0)) := RX_e (cEq_rf _) (mEq_pro _ _) H
    have c5' : gA (sI (sI sm 12 0 1 0) 12 0 0 (nI 0)) 12 0 1 t = nI so := c5
    have c7' : gA (sI (sI sm 12 0 1 0) 12 0 0 (nI 0)) 12 0 2 t = nI ma := c7
    have z : gI (sI (sI sm 12 0 1 0) 12 0 0 (nI 0)) 12 0 0 = 0 := rfl
    generalize sI (sI sm 12 0 1 0) 12 0 0 (nI 0) = s2 at *
    obtain ⟨x, f1, f2⟩ := x_cut c4 hso v s2
    simp (disch := omega) only [fLt_e, fBd_s, fJn_s, fNn_s, fNu_0, fNu_s, fBo_0, fBo_1, fBo_b, i_lit, i_neg1, nI_add, pk_mul, nI_clamp, i_le, i_lt, i_eq, fIx_n, nI_mI, mI_nI, mI_lt, nI_lt_m, mI_le, nI_le_m, xI_0, xI_s, bI_0, bI_1, bI_t, bI_f, n_31, j_bit, j_one, i_and, i_or, Nat.not_lt_zero, Nat.succ_ne_zero, Nat.add_one_ne_zero, Nat.add_one_sub_one, Nat.zero_le, Nat.or_zero, Nat.zero_or, Bool.not_true, Bool.not_false, Bool.true_and, Bool.false_and, Bool.and_true, Bool.and_false, ↓reduceIte, if_true, if_false, not_true_eq_false, not_false_eq_true, true_and, and_true, false_and, and_false, and_self, true_or, or_true, false_or, or_false, Nat.reduceEqDiff, Nat.reduceLT, Nat.reduceLeDiff, Nat.reduceAdd, Nat.reduceMul, Nat.reduceSub, Nat.add_zero, Nat.zero_add, Nat.mul_zero, Nat.zero_mul, ne_eq, Bool.not_eq_true, Bool.not_eq_false, reduceCtorEq, decide_true, decide_false, decide_eq_true_eq, decide_eq_false_iff_not, Bool.false_eq_true, if_pos, if_neg, f_X8_put, f1, f2, c5', f_X11_agree]
    refine ⟨_, _, _, rfl, rfl, fin_0 (up_row H' ht _ _ (fun so' ma' _ _ _ _ hh k hk => ?_) (fun k hk => ?_)) z⟩
    · simp only [updL_at]
      by_cases hkp : k = p
      · subst hkp
        rw [if_pos rfl, if_pos rfl]
      · rw [if_neg hkp, if_neg (by omega)]
        exact hh k hk
    · rw [updL_at, if_neg (by omega)]
  · simp (disch := omega) only [fLt_e, fBd_s, fJn_s, fNn_s, fNu_0, fNu_s, fBo_0, fBo_1, fBo_b, i_lit, i_neg1, nI_add, pk_mul, nI_clamp, i_le, i_lt, i_eq, fIx_n, nI_mI, mI_nI, mI_lt, nI_lt_m, mI_le, nI_le_m, xI_0, xI_s, bI_0, bI_1, bI_t, bI_f, n_31, j_bit, j_one, i_and, i_or, Nat.not_lt_zero, Nat.succ_ne_zero, Nat.add_one_ne_zero, Nat.add_one_sub_one, Nat.zero_le, Nat.or_zero, Nat.zero_or, Bool.not_true, Bool.not_false, Bool.true_and, Bool.false_and, Bool.and_true, Bool.and_false, ↓reduceIte, if_true, if_false, not_true_eq_false, not_false_eq_true, true_and, and_true, false_and, and_false, and_self, true_or, or_true, false_or, or_false, Nat.reduceEqDiff, Nat.reduceLT, Nat.reduceLeDiff, Nat.reduceAdd, Nat.reduceMul, Nat.reduceSub, Nat.add_zero, Nat.zero_add, Nat.mul_zero, Nat.zero_mul, ne_eq, Bool.not_eq_true, Bool.not_eq_false, reduceCtorEq, decide_true, decide_false, decide_eq_true_eq, decide_eq_false_iff_not, Bool.false_eq_true, if_pos, if_neg, f_X11_refuse]
    exact ⟨_, _, _, rfl, rfl, fin_v H _⟩
