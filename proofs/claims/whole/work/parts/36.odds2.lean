/-! layer 2: odds, seen, who, mean -/
theorem lsum_le {f g : Nat → Nat → Nat} (h : ∀ s se, f s se ≤ g s se) : ∀ L, lsum f L ≤ lsum g L := by
  intro L
  induction L with
  | nil => exact Nat.le_refl _
  | cons c L ih =>
    rw [lsum_cons, lsum_cons]
    exact Nat.add_le_add (Nat.mul_le_mul_left _ (h _ _)) ih
theorem lsum_mul (b : Nat) : ∀ L, lsum (fun _ _ => b) L = b * lsum (fun _ _ => 1) L := by
  intro L
  induction L with
  | nil => rfl
  | cons c L ih =>
    rw [lsum_cons, lsum_cons, ih, Nat.mul_add, Nat.mul_one, Nat.mul_comm]
theorem asum_0 (a : Nat → Nat) : asum a 0 = 0 := zs_zero (fun k _ => by rw [Nat.zero_testBit]; rfl)
theorem asum_z (se : Nat) : asum (fun _ => 0) se = 0 := zs_zero (fun k _ => by split <;> rfl)
theorem asum_1 (se : Nat) {k : Nat} (hk : k < 12) : asum (fun j => if j = k then 1 else 0) se = if se.testBit k then 1 else 0 := by
  unfold asum
  have h := zs_upd (fun _ => 0) (if se.testBit k then 1 else 0) hk
  rw [zs_zero (fun _ _ => rfl), Nat.zero_add, Nat.add_zero] at h
  rw [← h]
  apply zs_cong
  intro j hj
  dsimp only
  by_cases hjk : j = k
  · rw [if_pos hjk, if_pos hjk, hjk]
  · rw [if_neg hjk, if_neg hjk]
    split <;> rfl
theorem asum_b (G : Nat → Nat) (hG : G 2 ≤ 12) (se : Nat) : asum (fun k => if k < G 2 then gbr G k else 0) se = zs (fun k => if se.testBit k then gbr G k else 0) (G 2) := by
  unfold asum
  obtain ⟨m, hm⟩ : ∃ m, 12 = G 2 + m := ⟨12 - G 2, by omega⟩
  rw [hm]
  clear hm
  induction m with
  | zero =>
    apply zs_cong
    intro k hk
    rw [Nat.add_zero] at hk
    dsimp only
    rw [if_pos hk]
  | succ m ih =>
    have hz : (if se.testBit (G 2 + m) = true then (fun k => if k < G 2 then gbr G k else 0) (G 2 + m) else 0) = 0 := by
      split
      · exact if_neg (by omega)
      · rfl
    rw [← Nat.add_assoc, zs_s, ih, hz, Nat.add_zero]
section
variable {G : Nat → Nat}
theorem cu_spv (w : gWf G) {kp : Nat} (hk : kp ≤ G 3) (a b : Nat → Nat) : lsum (fun s se => asum a se + b (gsl G s)) (gCu G kp) = spv G kp (G 5) fWh a b := by
  have w1 := w.1
  unfold gCu spv
  by_cases h0 : gpl G (G 2) (G 5) = 0
  · rw [if_pos h0, if_pos h0]; rfl
  · rw [if_neg h0, if_neg h0]
    have h1 := gpl_full h0
    have h2 : 0 < G 2 := by
      cases hg : G 2 with
      | zero =>
        rw [hg] at h0
        exact absurd (by unfold gpl; rw [if_pos rfl]) h0
      | succ n => omega
    have h := lsum_gLn (a := a) (b := fun s => b (gsl G s)) w (gsx_16 w hk) 14 (G 2 - 1) (G 5) 0 fWh (by omega) (by omega) (by rw [fWh_16]; exact Nat.pow_dvd_pow 16 (by omega)) (fun k _ => Nat.zero_testBit k)
    rw [h, asum_0, Nat.mul_zero, Nat.zero_add, show G 2 - 1 + 1 = G 2 by omega]
theorem cu_one (w : gWf G) {kp : Nat} (hk : kp ≤ G 3) : lsum (fun _ _ => 1) (gCu G kp) ≤ fWh := by
  have w1 := w.1
  have h := cu_spv w hk (fun _ => 0) (fun _ => 1)
  simp only [asum_z, Nat.zero_add] at h
  rw [h]
  unfold spv
  by_cases h0 : gpl G (G 2) (G 5) = 0
  · rw [if_pos h0]; omega
  · rw [if_neg h0]
    have h2 : 0 < G 2 := by
      cases hg : G 2 with
      | zero =>
        rw [hg] at h0
        exact absurd (by unfold gpl; rw [if_pos rfl]) h0
      | succ n => omega
    obtain ⟨s, hs⟩ : ∃ s, G 2 = s + 1 := ⟨G 2 - 1, by omega⟩
    rw [hs, Nat.add_sub_cancel, cc_one w (gsx_16 w hk) _ _ _ (Nat.le_refl _) (by omega)]
    exact Nat.div_mul_le_self _ _
theorem vE_spv (w : gWf G) {kp : Nat} (hk : kp ≤ G 3) (e : Nat) : vE G e kp = spv G kp (G 5) fWh (fun _ => 0) (fun k => if k = e then 1 else 0) := by
  rw [← cu_spv w hk]
  unfold vE
  simp only [asum_z, Nat.zero_add]
theorem vS_spv (w : gWf G) {kp : Nat} (hk : kp ≤ G 3) {k : Nat} (hk2 : k < 12) : vS G k kp = spv G kp (G 5) fWh (fun j => if j = k then 1 else 0) (fun _ => 0) := by
  rw [← cu_spv w hk]
  unfold vS
  simp only [asum_1 _ hk2, Nat.add_zero]
theorem vB_spv (w : gWf G) {kp : Nat} (hk : kp ≤ G 3) : vB G kp = spv G kp (G 5) fWh (fun k => if k < G 2 then gbr G k else 0) (fun _ => 0) := by
  rw [← cu_spv w hk]
  unfold vB
  simp only [asum_b G w.1.2.2.1, Nat.add_zero]
theorem vE_le (w : gWf G) {kp : Nat} (hk : kp ≤ G 3) (e : Nat) : vE G e kp ≤ fWh := Nat.le_trans (lsum_le (fun s se => by split <;> omega) _) (cu_one w hk)
theorem vS_le (w : gWf G) {kp : Nat} (hk : kp ≤ G 3) (k : Nat) : vS G k kp ≤ fWh := Nat.le_trans (lsum_le (fun s se => by split <;> omega) _) (cu_one w hk)
theorem vB_le (w : gWf G) {kp : Nat} (hk : kp ≤ G 3) : vB G kp ≤ 2880 * fWh := by
  refine Nat.le_trans (lsum_le (g := fun _ _ => 2880) (fun s se => ?_) _) ?_
  · have w1 := w.1
    have := zs_le (f := fun k => if se.testBit k then gbr G k else 0) (b := 240) (n := G 2) (fun k hk => by
      have := gbr_le w hk
      split <;> omega)
    omega
  · rw [lsum_mul]
    exact Nat.mul_le_mul_left _ (cu_one w hk)
theorem ksm_pos (w : gWf G) {kp : Nat} (hk : kp ≤ G 3) (h : 0 < kp ∨ 0 < G 3) : 0 < ksm G kp (fun _ => fWh) (G 3) := by
  unfold ksm
  have key : ∀ k, k < G 3 → 0 < mlt G kp k → 0 < zs (fun k => mlt G kp k * fWh) (G 3) := by
    intro k hk hm
    refine Nat.lt_of_lt_of_le ?_ (zs_part _ hk)
    exact Nat.mul_pos hm (by unfold fWh; omega)
  by_cases h0 : kp = 0
  · have h3 : 0 < G 3 := by omega
    have := (w.2.2.2.2.1 0 h3).1
    refine key 0 h3 ?_
    unfold mlt
    rw [if_pos h0]
    omega
  · refine key (kp - 1) (by omega) ?_
    unfold mlt
    rw [if_neg h0, if_pos (by omega)]
    omega
theorem ksm_cong {kp : Nat} {f g : Nat → Nat} {n : Nat} (h : ∀ k, k < n → f (k + 1) = g (k + 1)) : ksm G kp f n = ksm G kp g n := zs_cong (fun k hk => by rw [h k hk])
theorem mEq_UQ (sm : fSt) (t : qT) (u : uT) : mEq sm (gU (gQ sm t) u) := ⟨⟨rfl, rfl, rfl, rfl, rfl, rfl, rfl⟩, ⟨rfl, rfl⟩, ⟨rfl, rfl, rfl, rfl, rfl, rfl, rfl⟩, rfl, rfl⟩
theorem cEq_oQ (sc : fSt) (t : pT) : cEq sc (oQ sc (gB sc 4 0 1, t.2)) := ⟨fun c hc i k => by rcases hc with rfl | rfl | rfl | rfl | rfl <;> exact ⟨rfl, rfl, rfl, rfl, rfl⟩, rfl, rfl, ⟨rfl, rfl, rfl⟩, ⟨rfl, rfl, rfl, rfl, rfl, rfl⟩, rfl, rfl, rfl, rfl, rfl, rfl, rfl⟩
end
section
variable {sc sm : fSt} {q : Nat} {G : Nat → Nat}
theorem RX_W {sc sc' sm : fSt} (x1 : gI sc' = gI sc) (x2 : gA sc' = gA sc) (x3 : ∀ c i k, ¬ c = 4 → gB sc' c i k = gB sc c i k) (x4 : gP sc' = gP sc) (hF : rF sc' sm) (hO : rO sc') (H : RX sc sm) : RX sc' sm := by
  obtain ⟨h2, h3, h4, h5, h6, h7, h8, h9, n, qq, GG, h10, h11, h12, h13⟩ := H
  refine ⟨hF, ?_, ?_, ?_, ?_, ?_, ?_, hO, n, qq, GG, h10, ?_, h12, fun k hk => ?_⟩
  · unfold rQ at *; rw [x1]; exact h3
  · unfold rT at *; simp only [x1, x3 8 _ _ (by omega)]; exact h4
  · unfold rP at *; simp only [x1, x2, x3 5 _ _ (by omega)]; exact h5
  · unfold rS at *; simp only [x1, x2]; exact h6
  · unfold rC at *; simp only [x2]; exact h7
  · unfold rW at *; simp only [x1]; exact h8
  · rw [x1]; exact h11
  · obtain ⟨h1, h2, h3, h4, h5⟩ := h13 k hk
    refine ⟨h1, ?_, h3, ?_, ?_⟩
    · unfold rHou rStg rBok at *
      simp only [x1, x2, x4]
      exact h2
    · unfold rNam at *
      simp only [x3 7 _ _ (by omega)]
      exact h4
    · unfold rWk at *
      simp only [x1, x4]
      rcases h5 with h5 | ⟨a, w, m, b1, b2, b3, b4, b5⟩
      · exact Or.inl h5
      · exact Or.inr ⟨a, w, m, b1, b2, b3, b4, rBod_e (fun i k => by rw [x2]) _ _ _ _ _ _ b5⟩
theorem RX_oQ (H : RX sc sm) {t : pT} (h : ∀ p, p < 768 → t.1 p = lN 0) : RX (oQ sc t) sm := by
  have ex : ∀ c i k, ¬ c = 4 → gB (oQ sc t) c i k = gB sc c i k := by
    intro c i k hc
    simp only [oQ, gB_sB, gB_sL, hc, false_and, if_false]
  exact RX_W (sc := sc) rfl rfl ex rfl H.1 h H
theorem odds_core (H : RX sc sm) (X : rHou sc 0 q G) (B : rBlk (gA sm 12 0 5) G) (w : gWf G) {kp : Nat} (hk : kp ≤ G 3) :
    ∃ (t : pT) (tq : qT) (u : uT) (Pn : Nat → Nat), f_X4_gather 0 (xI kp) (nI (G 5)) sc = some ((), oQ sc t) ∧ f_X12_sums (xI kp) sm = some ((), gU (gQ sm tq) u) ∧ RX (oQ sc t) (gU (gQ sm tq) u) ∧
      (t.2.2.2 = lN (ksm G kp (fun _ => fWh) (G 3)) ∧ u.2.2.2 = lN (ksm G kp (fun _ => fWh) (G 3))) ∧
      (∀ e, e < 10 → t.2.1 e = lN (ksm G kp (vE G e) (G 3)) ∧ u.1 e = lN (ksm G kp (vE G e) (G 3))) ∧
      (∀ s, s < G 2 → t.2.2.1 s = lN (ksm G kp (vS G s) (G 3)) ∧ u.2.1 s = lN (ksm G kp (vS G s) (G 3))) ∧
      u.2.2.1 = lN (ksm G kp (vB G) (G 3)) ∧
      (∀ s, s < 12 → t.2.2.1 s = lN (Pn s)) ∧ zs (fun s => (if s < G 2 then gbr G s else 0) * Pn s) 12 = ksm G kp (vB G) (G 3) := by
  have w1 := w.1
  have w2 := w.2.1
  obtain ⟨t, g1, g2, g3⟩ := x_gather X w H.2.2.2.2.2.2.2.1 hk w2.2.1
  obtain ⟨tq, u, s1, s2, s3, s4, s5⟩ := m_sums B w hk
  obtain ⟨o1, o2⟩ := oEnd_one g3
  obtain ⟨Cn, Pn, i1, i2, i3, i4⟩ := g3
  refine ⟨t, tq, u, Pn, g1, s1, RX_e (cEq_rf _) (mEq_UQ sm tq u) (RX_oQ H i1), ⟨g2, s5⟩, fun e he => ⟨?_, s2 e he⟩, fun s hs => ⟨?_, s3 s hs⟩, s4, i3, ?_⟩
  · rw [o1 e he]
    exact congrArg lN (ksm_cong (fun k hk => (vE_spv w (by omega) e).symm))
  · rw [o2 s (by omega)]
    exact congrArg lN (ksm_cong (fun k hk => (vS_spv w (by omega) (by omega)).symm))
  · have := i4 (fun k => if k < G 2 then gbr G k else 0) (fun _ => 0)
    rw [zs_zero (fun _ _ => Nat.zero_mul _), Nat.add_zero] at this
    rw [this]
    exact ksm_cong (fun k hk => (vB_spv w (by omega)).symm)
theorem ksm_b1 (w : gWf G) {kp : Nat} {f : Nat → Nat} (hf : ∀ k, k < G 3 → f (k + 1) ≤ fWh) : ksm G kp f (G 3) < 2 ^ 51 := by
  have w1 := w.1
  have h := ksm_le (kp := kp) w hf (G 3) (Nat.le_refl _)
  have h3 : G 3 * (30 * fWh) ≤ 4 * (30 * fWh) := Nat.mul_le_mul_right _ (by omega)
  unfold fWh at h h3
  omega
theorem ksm_b2 (w : gWf G) {kp : Nat} : ksm G kp (vB G) (G 3) < 2 ^ 63 := by
  have w1 := w.1
  have h := ksm_le (kp := kp) w (fun k hk => vB_le w (show k + 1 ≤ G 3 by omega)) (G 3) (Nat.le_refl _)
  have h3 : G 3 * (30 * (2880 * fWh)) ≤ 4 * (30 * (2880 * fWh)) := Nat.mul_le_mul_right _ (by omega)
  unfold fWh at h h3
  omega
theorem x_kol_t (X : rHou sc 0 q G) (w : gWf G) {kp : Nat} (hk : kp ≤ G 3) : f_X11_isKindOrLot (xI kp) sc = some (nI 1, sc) := by
  have w1 := w.1
  unfold f_X11_isKindOrLot
  cases kp with
  | zero => simp (disch := omega) only [fLt_e, fBd_s, fJn_s, fNn_s, fNu_0, fNu_s, fBo_0, fBo_1, fBo_b, i_lit, i_neg1, nI_add, pk_mul, nI_clamp, i_le, i_lt, i_eq, fIx_n, nI_mI, mI_nI, mI_lt, nI_lt_m, mI_le, nI_le_m, xI_0, xI_s, bI_0, bI_1, bI_t, bI_f, n_31, j_bit, j_one, i_and, i_or, Nat.not_lt_zero, Nat.succ_ne_zero, Nat.add_one_ne_zero, Nat.add_one_sub_one, Nat.zero_le, Nat.or_zero, Nat.zero_or, Bool.not_true, Bool.not_false, Bool.true_and, Bool.false_and, Bool.and_true, Bool.and_false, ↓reduceIte, if_true, if_false, not_true_eq_false, not_false_eq_true, true_and, and_true, false_and, and_false, and_self, true_or, or_true, false_or, or_false, Nat.reduceEqDiff, Nat.reduceLT, Nat.reduceLeDiff, Nat.reduceAdd, Nat.reduceMul, Nat.reduceSub, Nat.add_zero, Nat.zero_add, Nat.mul_zero, Nat.zero_mul, ne_eq, Bool.not_eq_true, Bool.not_eq_false, reduceCtorEq, decide_true, decide_false, decide_eq_true_eq, decide_eq_false_iff_not, Bool.false_eq_true, if_pos, if_neg]
  | succ k =>
    have h := x_hasKind X w (nI k)
    rw [inB_t.mpr (by rw [nI_toInt (by omega)]; omega)] at h
    simp (disch := omega) only [fLt_e, fBd_s, fJn_s, fNn_s, fNu_0, fNu_s, fBo_0, fBo_1, fBo_b, i_lit, i_neg1, nI_add, pk_mul, nI_clamp, i_le, i_lt, i_eq, fIx_n, nI_mI, mI_nI, mI_lt, nI_lt_m, mI_le, nI_le_m, xI_0, xI_s, bI_0, bI_1, bI_t, bI_f, n_31, j_bit, j_one, i_and, i_or, Nat.not_lt_zero, Nat.succ_ne_zero, Nat.add_one_ne_zero, Nat.add_one_sub_one, Nat.zero_le, Nat.or_zero, Nat.zero_or, Bool.not_true, Bool.not_false, Bool.true_and, Bool.false_and, Bool.and_true, Bool.and_false, ↓reduceIte, if_true, if_false, not_true_eq_false, not_false_eq_true, true_and, and_true, false_and, and_false, and_self, true_or, or_true, false_or, or_false, Nat.reduceEqDiff, Nat.reduceLT, Nat.reduceLeDiff, Nat.reduceAdd, Nat.reduceMul, Nat.reduceSub, Nat.add_zero, Nat.zero_add, Nat.mul_zero, Nat.zero_mul, ne_eq, Bool.not_eq_true, Bool.not_eq_false, reduceCtorEq, decide_true, decide_false, decide_eq_true_eq, decide_eq_false_iff_not, Bool.false_eq_true, if_pos, if_neg, h]
theorem x_kol_f (X : rHou sc 0 q G) (w : gWf G) {a : Int32} (h1 : ¬ a = mI) (h2 : ¬ (0 ≤ a.toInt ∧ a.toInt < G 3)) : f_X11_isKindOrLot a sc = some (nI 0, sc) := by
  have w1 := w.1
  have h := x_hasKind X w a
  rw [inB_f.mpr (by omega)] at h
  unfold f_X11_isKindOrLot
  simp (disch := omega) only [fLt_e, fBd_s, fJn_s, fNn_s, fNu_0, fNu_s, fBo_0, fBo_1, fBo_b, Nat.not_lt_zero, Nat.succ_ne_zero, Nat.add_one_ne_zero, Nat.add_one_sub_one, Nat.zero_le, Nat.or_zero, Nat.zero_or, Bool.not_true, Bool.not_false, Bool.true_and, Bool.false_and, Bool.and_true, Bool.and_false, ↓reduceIte, if_true, if_false, not_true_eq_false, not_false_eq_true, true_and, and_true, false_and, and_false, and_self, true_or, or_true, false_or, or_false, Nat.reduceEqDiff, Nat.reduceLT, Nat.reduceLeDiff, Nat.reduceAdd, Nat.reduceMul, Nat.reduceSub, Nat.add_zero, Nat.zero_add, Nat.mul_zero, Nat.zero_mul, ne_eq, Bool.not_eq_true, Bool.not_eq_false, reduceCtorEq, decide_true, decide_false, decide_eq_true_eq, decide_eq_false_iff_not, Bool.false_eq_true, i_lit, i_neg1, bI_f, h1, h]
theorem m_kol_t (B : rBlk (gA sm 12 0 5) G) (w : gWf G) {kp : Nat} (hk : kp ≤ G 3) : f_X12_isKindOrLot (xI kp) sm = some (nI 1, sm) := by
  have w1 := w.1
  unfold f_X12_isKindOrLot
  cases kp with
  | zero => simp (disch := omega) only [fLt_e, fBd_s, fJn_s, fNn_s, fNu_0, fNu_s, fBo_0, fBo_1, fBo_b, i_lit, i_neg1, nI_add, pk_mul, nI_clamp, i_le, i_lt, i_eq, fIx_n, nI_mI, mI_nI, mI_lt, nI_lt_m, mI_le, nI_le_m, xI_0, xI_s, bI_0, bI_1, bI_t, bI_f, n_31, j_bit, j_one, i_and, i_or, Nat.not_lt_zero, Nat.succ_ne_zero, Nat.add_one_ne_zero, Nat.add_one_sub_one, Nat.zero_le, Nat.or_zero, Nat.zero_or, Bool.not_true, Bool.not_false, Bool.true_and, Bool.false_and, Bool.and_true, Bool.and_false, ↓reduceIte, if_true, if_false, not_true_eq_false, not_false_eq_true, true_and, and_true, false_and, and_false, and_self, true_or, or_true, false_or, or_false, Nat.reduceEqDiff, Nat.reduceLT, Nat.reduceLeDiff, Nat.reduceAdd, Nat.reduceMul, Nat.reduceSub, Nat.add_zero, Nat.zero_add, Nat.mul_zero, Nat.zero_mul, ne_eq, Bool.not_eq_true, Bool.not_eq_false, reduceCtorEq, decide_true, decide_false, decide_eq_true_eq, decide_eq_false_iff_not, Bool.false_eq_true, if_pos, if_neg]
  | succ k =>
    have h := m_isKindAt B w (nI k)
    rw [inB_t.mpr (by rw [nI_toInt (by omega)]; omega)] at h
    simp (disch := omega) only [fLt_e, fBd_s, fJn_s, fNn_s, fNu_0, fNu_s, fBo_0, fBo_1, fBo_b, i_lit, i_neg1, nI_add, pk_mul, nI_clamp, i_le, i_lt, i_eq, fIx_n, nI_mI, mI_nI, mI_lt, nI_lt_m, mI_le, nI_le_m, xI_0, xI_s, bI_0, bI_1, bI_t, bI_f, n_31, j_bit, j_one, i_and, i_or, Nat.not_lt_zero, Nat.succ_ne_zero, Nat.add_one_ne_zero, Nat.add_one_sub_one, Nat.zero_le, Nat.or_zero, Nat.zero_or, Bool.not_true, Bool.not_false, Bool.true_and, Bool.false_and, Bool.and_true, Bool.and_false, ↓reduceIte, if_true, if_false, not_true_eq_false, not_false_eq_true, true_and, and_true, false_and, and_false, and_self, true_or, or_true, false_or, or_false, Nat.reduceEqDiff, Nat.reduceLT, Nat.reduceLeDiff, Nat.reduceAdd, Nat.reduceMul, Nat.reduceSub, Nat.add_zero, Nat.zero_add, Nat.mul_zero, Nat.zero_mul, ne_eq, Bool.not_eq_true, Bool.not_eq_false, reduceCtorEq, decide_true, decide_false, decide_eq_true_eq, decide_eq_false_iff_not, Bool.false_eq_true, if_pos, if_neg, h]
theorem m_kol_f (B : rBlk (gA sm 12 0 5) G) (w : gWf G) {a : Int32} (h1 : ¬ a = mI) (h2 : ¬ (0 ≤ a.toInt ∧ a.toInt < G 3)) : f_X12_isKindOrLot a sm = some (nI 0, sm) := by
  have w1 := w.1
  have h := m_isKindAt B w a
  rw [inB_f.mpr (by omega)] at h
  unfold f_X12_isKindOrLot
  simp (disch := omega) only [fLt_e, fBd_s, fJn_s, fNn_s, fNu_0, fNu_s, fBo_0, fBo_1, fBo_b, Nat.not_lt_zero, Nat.succ_ne_zero, Nat.add_one_ne_zero, Nat.add_one_sub_one, Nat.zero_le, Nat.or_zero, Nat.zero_or, Bool.not_true, Bool.not_false, Bool.true_and, Bool.false_and, Bool.and_true, Bool.and_false, ↓reduceIte, if_true, if_false, not_true_eq_false, not_false_eq_true, true_and, and_true, false_and, and_false, and_self, true_or, or_true, false_or, or_false, Nat.reduceEqDiff, Nat.reduceLT, Nat.reduceLeDiff, Nat.reduceAdd, Nat.reduceMul, Nat.reduceSub, Nat.add_zero, Nat.zero_add, Nat.mul_zero, Nat.zero_mul, ne_eq, Bool.not_eq_true, Bool.not_eq_false, reduceCtorEq, decide_true, decide_false, decide_eq_true_eq, decide_eq_false_iff_not, Bool.false_eq_true, i_lit, i_neg1, bI_f, h1, h]
def gwhy (G : Nat → Nat) (kp : Nat) : Nat := if kp = 0 ∧ G 3 = 0 then 8 else if gpl G (G 2) (G 5) = 0 then 9 else 0
theorem x_why (X : rHou sc 0 q G) (w : gWf G) {kp : Nat} (hk : kp ≤ G 3) : f_X11_whyNoOdds (xI kp) sc = some (nI (gwhy G kp), sc) := by
  have w1 := w.1
  have hn3 : gI sc 7 q 3 = nI (G 3) := X.2.1.1.2.2.2
  have h := x_canOpen X w
  unfold f_X11_whyNoOdds gwhy
  cases kp with
  | zero =>
    by_cases h3 : G 3 = 0
    · simp (disch := omega) only [fLt_e, fBd_s, fJn_s, fNn_s, fNu_0, fNu_s, fBo_0, fBo_1, fBo_b, i_lit, i_neg1, nI_add, pk_mul, nI_clamp, i_le, i_lt, i_eq, fIx_n, nI_mI, mI_nI, mI_lt, nI_lt_m, mI_le, nI_le_m, xI_0, xI_s, bI_0, bI_1, bI_t, bI_f, n_31, j_bit, j_one, i_and, i_or, Nat.not_lt_zero, Nat.succ_ne_zero, Nat.add_one_ne_zero, Nat.add_one_sub_one, Nat.zero_le, Nat.or_zero, Nat.zero_or, Bool.not_true, Bool.not_false, Bool.true_and, Bool.false_and, Bool.and_true, Bool.and_false, ↓reduceIte, if_true, if_false, not_true_eq_false, not_false_eq_true, true_and, and_true, false_and, and_false, and_self, true_or, or_true, false_or, or_false, Nat.reduceEqDiff, Nat.reduceLT, Nat.reduceLeDiff, Nat.reduceAdd, Nat.reduceMul, Nat.reduceSub, Nat.add_zero, Nat.zero_add, Nat.mul_zero, Nat.zero_mul, ne_eq, Bool.not_eq_true, Bool.not_eq_false, reduceCtorEq, decide_true, decide_false, decide_eq_true_eq, decide_eq_false_iff_not, Bool.false_eq_true, if_pos, if_neg, X.1, hn3, h3]
    · by_cases h5 : gpl G (G 2) (G 5) = 0
      · simp (disch := omega) only [fLt_e, fBd_s, fJn_s, fNn_s, fNu_0, fNu_s, fBo_0, fBo_1, fBo_b, i_lit, i_neg1, nI_add, pk_mul, nI_clamp, i_le, i_lt, i_eq, fIx_n, nI_mI, mI_nI, mI_lt, nI_lt_m, mI_le, nI_le_m, xI_0, xI_s, bI_0, bI_1, bI_t, bI_f, n_31, j_bit, j_one, i_and, i_or, Nat.not_lt_zero, Nat.succ_ne_zero, Nat.add_one_ne_zero, Nat.add_one_sub_one, Nat.zero_le, Nat.or_zero, Nat.zero_or, Bool.not_true, Bool.not_false, Bool.true_and, Bool.false_and, Bool.and_true, Bool.and_false, ↓reduceIte, if_true, if_false, not_true_eq_false, not_false_eq_true, true_and, and_true, false_and, and_false, and_self, true_or, or_true, false_or, or_false, Nat.reduceEqDiff, Nat.reduceLT, Nat.reduceLeDiff, Nat.reduceAdd, Nat.reduceMul, Nat.reduceSub, Nat.add_zero, Nat.zero_add, Nat.mul_zero, Nat.zero_mul, ne_eq, Bool.not_eq_true, Bool.not_eq_false, reduceCtorEq, decide_true, decide_false, decide_eq_true_eq, decide_eq_false_iff_not, Bool.false_eq_true, if_pos, if_neg, X.1, hn3, h3, h, h5]
      · simp (disch := omega) only [fLt_e, fBd_s, fJn_s, fNn_s, fNu_0, fNu_s, fBo_0, fBo_1, fBo_b, i_lit, i_neg1, nI_add, pk_mul, nI_clamp, i_le, i_lt, i_eq, fIx_n, nI_mI, mI_nI, mI_lt, nI_lt_m, mI_le, nI_le_m, xI_0, xI_s, bI_0, bI_1, bI_t, bI_f, n_31, j_bit, j_one, i_and, i_or, Nat.not_lt_zero, Nat.succ_ne_zero, Nat.add_one_ne_zero, Nat.add_one_sub_one, Nat.zero_le, Nat.or_zero, Nat.zero_or, Bool.not_true, Bool.not_false, Bool.true_and, Bool.false_and, Bool.and_true, Bool.and_false, ↓reduceIte, if_true, if_false, not_true_eq_false, not_false_eq_true, true_and, and_true, false_and, and_false, and_self, true_or, or_true, false_or, or_false, Nat.reduceEqDiff, Nat.reduceLT, Nat.reduceLeDiff, Nat.reduceAdd, Nat.reduceMul, Nat.reduceSub, Nat.add_zero, Nat.zero_add, Nat.mul_zero, Nat.zero_mul, ne_eq, Bool.not_eq_true, Bool.not_eq_false, reduceCtorEq, decide_true, decide_false, decide_eq_true_eq, decide_eq_false_iff_not, Bool.false_eq_true, if_pos, if_neg, X.1, hn3, h3, h, h5]
  | succ k =>
    by_cases h5 : gpl G (G 2) (G 5) = 0
    · simp (disch := omega) only [fLt_e, fBd_s, fJn_s, fNn_s, fNu_0, fNu_s, fBo_0, fBo_1, fBo_b, i_lit, i_neg1, nI_add, pk_mul, nI_clamp, i_le, i_lt, i_eq, fIx_n, nI_mI, mI_nI, mI_lt, nI_lt_m, mI_le, nI_le_m, xI_0, xI_s, bI_0, bI_1, bI_t, bI_f, n_31, j_bit, j_one, i_and, i_or, Nat.not_lt_zero, Nat.succ_ne_zero, Nat.add_one_ne_zero, Nat.add_one_sub_one, Nat.zero_le, Nat.or_zero, Nat.zero_or, Bool.not_true, Bool.not_false, Bool.true_and, Bool.false_and, Bool.and_true, Bool.and_false, ↓reduceIte, if_true, if_false, not_true_eq_false, not_false_eq_true, true_and, and_true, false_and, and_false, and_self, true_or, or_true, false_or, or_false, Nat.reduceEqDiff, Nat.reduceLT, Nat.reduceLeDiff, Nat.reduceAdd, Nat.reduceMul, Nat.reduceSub, Nat.add_zero, Nat.zero_add, Nat.mul_zero, Nat.zero_mul, ne_eq, Bool.not_eq_true, Bool.not_eq_false, reduceCtorEq, decide_true, decide_false, decide_eq_true_eq, decide_eq_false_iff_not, Bool.false_eq_true, if_pos, if_neg, h, h5]
    · simp (disch := omega) only [fLt_e, fBd_s, fJn_s, fNn_s, fNu_0, fNu_s, fBo_0, fBo_1, fBo_b, i_lit, i_neg1, nI_add, pk_mul, nI_clamp, i_le, i_lt, i_eq, fIx_n, nI_mI, mI_nI, mI_lt, nI_lt_m, mI_le, nI_le_m, xI_0, xI_s, bI_0, bI_1, bI_t, bI_f, n_31, j_bit, j_one, i_and, i_or, Nat.not_lt_zero, Nat.succ_ne_zero, Nat.add_one_ne_zero, Nat.add_one_sub_one, Nat.zero_le, Nat.or_zero, Nat.zero_or, Bool.not_true, Bool.not_false, Bool.true_and, Bool.false_and, Bool.and_true, Bool.and_false, ↓reduceIte, if_true, if_false, not_true_eq_false, not_false_eq_true, true_and, and_true, false_and, and_false, and_self, true_or, or_true, false_or, or_false, Nat.reduceEqDiff, Nat.reduceLT, Nat.reduceLeDiff, Nat.reduceAdd, Nat.reduceMul, Nat.reduceSub, Nat.add_zero, Nat.zero_add, Nat.mul_zero, Nat.zero_mul, ne_eq, Bool.not_eq_true, Bool.not_eq_false, reduceCtorEq, decide_true, decide_false, decide_eq_true_eq, decide_eq_false_iff_not, Bool.false_eq_true, if_pos, if_neg, h, h5]
theorem m_why (B : rBlk (gA sm 12 0 5) G) (w : gWf G) {kp : Nat} (hk : kp ≤ G 3) : f_X12_whyNoOdds (xI kp) sm = some (nI (gwhy G kp), sm) := by
  have w1 := w.1
  have hn3 := B.1.2.2.2.1
  have h := m_isDark B w
  unfold f_X12_whyNoOdds gwhy
  cases kp with
  | zero =>
    by_cases h3 : G 3 = 0
    · simp (disch := omega) only [fLt_e, fBd_s, fJn_s, fNn_s, fNu_0, fNu_s, fBo_0, fBo_1, fBo_b, i_lit, i_neg1, nI_add, pk_mul, nI_clamp, i_le, i_lt, i_eq, fIx_n, nI_mI, mI_nI, mI_lt, nI_lt_m, mI_le, nI_le_m, xI_0, xI_s, bI_0, bI_1, bI_t, bI_f, n_31, j_bit, j_one, i_and, i_or, Nat.not_lt_zero, Nat.succ_ne_zero, Nat.add_one_ne_zero, Nat.add_one_sub_one, Nat.zero_le, Nat.or_zero, Nat.zero_or, Bool.not_true, Bool.not_false, Bool.true_and, Bool.false_and, Bool.and_true, Bool.and_false, ↓reduceIte, if_true, if_false, not_true_eq_false, not_false_eq_true, true_and, and_true, false_and, and_false, and_self, true_or, or_true, false_or, or_false, Nat.reduceEqDiff, Nat.reduceLT, Nat.reduceLeDiff, Nat.reduceAdd, Nat.reduceMul, Nat.reduceSub, Nat.add_zero, Nat.zero_add, Nat.mul_zero, Nat.zero_mul, ne_eq, Bool.not_eq_true, Bool.not_eq_false, reduceCtorEq, decide_true, decide_false, decide_eq_true_eq, decide_eq_false_iff_not, Bool.false_eq_true, if_pos, if_neg, hn3, h3]
    · by_cases h5 : gpl G (G 2) (G 5) = 0
      · simp (disch := omega) only [fLt_e, fBd_s, fJn_s, fNn_s, fNu_0, fNu_s, fBo_0, fBo_1, fBo_b, i_lit, i_neg1, nI_add, pk_mul, nI_clamp, i_le, i_lt, i_eq, fIx_n, nI_mI, mI_nI, mI_lt, nI_lt_m, mI_le, nI_le_m, xI_0, xI_s, bI_0, bI_1, bI_t, bI_f, n_31, j_bit, j_one, i_and, i_or, Nat.not_lt_zero, Nat.succ_ne_zero, Nat.add_one_ne_zero, Nat.add_one_sub_one, Nat.zero_le, Nat.or_zero, Nat.zero_or, Bool.not_true, Bool.not_false, Bool.true_and, Bool.false_and, Bool.and_true, Bool.and_false, ↓reduceIte, if_true, if_false, not_true_eq_false, not_false_eq_true, true_and, and_true, false_and, and_false, and_self, true_or, or_true, false_or, or_false, Nat.reduceEqDiff, Nat.reduceLT, Nat.reduceLeDiff, Nat.reduceAdd, Nat.reduceMul, Nat.reduceSub, Nat.add_zero, Nat.zero_add, Nat.mul_zero, Nat.zero_mul, ne_eq, Bool.not_eq_true, Bool.not_eq_false, reduceCtorEq, decide_true, decide_false, decide_eq_true_eq, decide_eq_false_iff_not, Bool.false_eq_true, if_pos, if_neg, hn3, h3, h, h5]
      · simp (disch := omega) only [fLt_e, fBd_s, fJn_s, fNn_s, fNu_0, fNu_s, fBo_0, fBo_1, fBo_b, i_lit, i_neg1, nI_add, pk_mul, nI_clamp, i_le, i_lt, i_eq, fIx_n, nI_mI, mI_nI, mI_lt, nI_lt_m, mI_le, nI_le_m, xI_0, xI_s, bI_0, bI_1, bI_t, bI_f, n_31, j_bit, j_one, i_and, i_or, Nat.not_lt_zero, Nat.succ_ne_zero, Nat.add_one_ne_zero, Nat.add_one_sub_one, Nat.zero_le, Nat.or_zero, Nat.zero_or, Bool.not_true, Bool.not_false, Bool.true_and, Bool.false_and, Bool.and_true, Bool.and_false, ↓reduceIte, if_true, if_false, not_true_eq_false, not_false_eq_true, true_and, and_true, false_and, and_false, and_self, true_or, or_true, false_or, or_false, Nat.reduceEqDiff, Nat.reduceLT, Nat.reduceLeDiff, Nat.reduceAdd, Nat.reduceMul, Nat.reduceSub, Nat.add_zero, Nat.zero_add, Nat.mul_zero, Nat.zero_mul, ne_eq, Bool.not_eq_true, Bool.not_eq_false, reduceCtorEq, decide_true, decide_false, decide_eq_true_eq, decide_eq_false_iff_not, Bool.false_eq_true, if_pos, if_neg, hn3, h3, h, h5]
  | succ k =>
    by_cases h5 : gpl G (G 2) (G 5) = 0
    · simp (disch := omega) only [fLt_e, fBd_s, fJn_s, fNn_s, fNu_0, fNu_s, fBo_0, fBo_1, fBo_b, i_lit, i_neg1, nI_add, pk_mul, nI_clamp, i_le, i_lt, i_eq, fIx_n, nI_mI, mI_nI, mI_lt, nI_lt_m, mI_le, nI_le_m, xI_0, xI_s, bI_0, bI_1, bI_t, bI_f, n_31, j_bit, j_one, i_and, i_or, Nat.not_lt_zero, Nat.succ_ne_zero, Nat.add_one_ne_zero, Nat.add_one_sub_one, Nat.zero_le, Nat.or_zero, Nat.zero_or, Bool.not_true, Bool.not_false, Bool.true_and, Bool.false_and, Bool.and_true, Bool.and_false, ↓reduceIte, if_true, if_false, not_true_eq_false, not_false_eq_true, true_and, and_true, false_and, and_false, and_self, true_or, or_true, false_or, or_false, Nat.reduceEqDiff, Nat.reduceLT, Nat.reduceLeDiff, Nat.reduceAdd, Nat.reduceMul, Nat.reduceSub, Nat.add_zero, Nat.zero_add, Nat.mul_zero, Nat.zero_mul, ne_eq, Bool.not_eq_true, Bool.not_eq_false, reduceCtorEq, decide_true, decide_false, decide_eq_true_eq, decide_eq_false_iff_not, Bool.false_eq_true, if_pos, if_neg, h, h5]
    · simp (disch := omega) only [fLt_e, fBd_s, fJn_s, fNn_s, fNu_0, fNu_s, fBo_0, fBo_1, fBo_b, i_lit, i_neg1, nI_add, pk_mul, nI_clamp, i_le, i_lt, i_eq, fIx_n, nI_mI, mI_nI, mI_lt, nI_lt_m, mI_le, nI_le_m, xI_0, xI_s, bI_0, bI_1, bI_t, bI_f, n_31, j_bit, j_one, i_and, i_or, Nat.not_lt_zero, Nat.succ_ne_zero, Nat.add_one_ne_zero, Nat.add_one_sub_one, Nat.zero_le, Nat.or_zero, Nat.zero_or, Bool.not_true, Bool.not_false, Bool.true_and, Bool.false_and, Bool.and_true, Bool.and_false, ↓reduceIte, if_true, if_false, not_true_eq_false, not_false_eq_true, true_and, and_true, false_and, and_false, and_self, true_or, or_true, false_or, or_false, Nat.reduceEqDiff, Nat.reduceLT, Nat.reduceLeDiff, Nat.reduceAdd, Nat.reduceMul, Nat.reduceSub, Nat.add_zero, Nat.zero_add, Nat.mul_zero, Nat.zero_mul, ne_eq, Bool.not_eq_true, Bool.not_eq_false, reduceCtorEq, decide_true, decide_false, decide_eq_true_eq, decide_eq_false_iff_not, Bool.false_eq_true, if_pos, if_neg, h, h5]
end
/-- a kind, a lot, or neither -/
theorem kol_cases (a : Int32) {n : Nat} (hn : n ≤ 4) : (∃ kp, kp ≤ n ∧ a = xI kp) ∨ (¬ a = mI ∧ ¬ (0 ≤ a.toInt ∧ a.toInt < n)) := by
  by_cases h : a = mI
  · exact Or.inl ⟨0, by omega, h⟩
  · by_cases h2 : 0 ≤ a.toInt ∧ a.toInt < n
    · obtain ⟨k, hk, rfl, -⟩ := nI_ofInt (n := n) h2.1 (by omega)
      exact Or.inl ⟨k + 1, by omega, rfl⟩
    · exact Or.inr ⟨h, h2⟩
