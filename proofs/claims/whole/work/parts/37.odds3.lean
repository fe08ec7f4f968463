/-! layer 2: the calls odds, seen, who, mean -/
theorem gwhy_le (G : Nat → Nat) (kp : Nat) : gwhy G kp ≤ 9 := by
  unfold gwhy
  repeat' split
  all_goals omega
theorem gwhy_0 {G : Nat → Nat} {kp : Nat} (h : gwhy G kp = 0) : 0 < kp ∨ 0 < G 3 := by
  unfold gwhy at h
  by_cases h1 : kp = 0 ∧ G 3 = 0
  · rw [if_pos h1] at h; omega
  · omega
theorem ksm_T {G : Nat → Nat} (w : gWf G) {kp : Nat} : ksm G kp (fun _ => fWh) (G 3) < 2 ^ 63 := Nat.lt_trans (ksm_b1 w (fun _ _ => Nat.le_refl _)) (by omega)
theorem call_odds (a b : Int32) : CALL (f_X11_odds a b) (f_X12_odds a b) := by
  intro sc sm ⟨hA, H⟩
  have H := pro_x H
  have z := pro_0 sm
  unfold f_X11_odds f_X12_odds
  simp only [fLt_e, pro_eq]
  generalize pro sm = s2 at *
  obtain ⟨q, G, w, X, B, -⟩ := RX_cur H
  have w1 := w.1
  rcases kol_cases b (n := G 3) (by omega) with ⟨kp, hk, rfl⟩ | ⟨hb1, hb2⟩
  · have i1 : ∀ st, f_X11_isIn a (nI 0) (nI 9) st = some (bI (inB a.toInt 0 9), st) := fun st => x_isIn a 0 9 st
    have i2 : ∀ st, f_X12_isIn a.toInt64 0 9 st = some (bI (inB a.toInt 0 9), st) := fun st => m_isIn_c a 0 9 st
    by_cases ha : 0 ≤ a.toInt ∧ a.toInt < 10
    · rw [inB_t.mpr (by omega)] at i1 i2
      obtain ⟨e, he, rfl, -⟩ := nI_ofInt (n := 10) ha.1 (by omega)
      have hw := gwhy_le G kp
      have x1 := x_why X w hk
      have m1 := m_why B w hk
      by_cases h0 : gwhy G kp = 0
      · rw [h0] at x1 m1
        have H0 : RX sc (sI s2 12 0 0 (nI 0)) := RX_e (cEq_rf _) (mEq_st _ _) H
        obtain ⟨t, tq, u, Pn, g1, g2, HR, ⟨g3, g4⟩, g5, g6, g7, g8⟩ := odds_core H0 X B w hk
        obtain ⟨g5, g5'⟩ := g5 e he
        have hE : ksm G kp (vE G e) (G 3) < 2 ^ 63 := Nat.lt_trans (ksm_b1 w (fun k hk => vE_le w (by omega) e)) (by omega)
        have hT := ksm_pos w hk (gwhy_0 h0)
        have hT2 := ksm_T (kp := kp) w
        simp (disch := omega) only [fLt_e, fBd_s, fJn_s, fNn_s, fNu_0, fNu_s, fBo_0, fBo_1, fBo_b, i_lit, i_neg1, nI_add, pk_mul, nI_clamp, i_le, i_lt, i_eq, fIx_n, nI_mI, mI_nI, mI_lt, nI_lt_m, mI_le, nI_le_m, xI_0, xI_s, bI_0, bI_1, bI_t, bI_f, n_31, j_bit, j_one, i_and, i_or, Nat.not_lt_zero, Nat.succ_ne_zero, Nat.add_one_ne_zero, Nat.add_one_sub_one, Nat.zero_le, Nat.or_zero, Nat.zero_or, Bool.not_true, Bool.not_false, Bool.true_and, Bool.false_and, Bool.and_true, Bool.and_false, ↓reduceIte, if_true, if_false, not_true_eq_false, not_false_eq_true, true_and, and_true, false_and, and_false, and_self, true_or, or_true, false_or, or_false, Nat.reduceEqDiff, Nat.reduceLT, Nat.reduceLeDiff, Nat.reduceAdd, Nat.reduceMul, Nat.reduceSub, Nat.add_zero, Nat.zero_add, Nat.mul_zero, Nat.zero_mul, ne_eq, Bool.not_eq_true, Bool.not_eq_false, reduceCtorEq, decide_true, decide_false, decide_eq_true_eq, decide_eq_false_iff_not, Bool.false_eq_true, if_pos, if_neg, x_kol_t X w hk, m_kol_t B w hk, i1, i2, x1, m1, gI_same, X.2.2.1.2, g1, g2, oQ_rC, oQ_rL, gU_rE, gU_rW, g3, g4, g5, g5', x_tell hE hT2 hT, m_frac hE hT2 hT]
        exact ⟨_, _, _, rfl, rfl, fin_fr HR rfl _ _⟩
      · simp (disch := omega) only [fLt_e, fBd_s, fJn_s, fNn_s, fNu_0, fNu_s, fBo_0, fBo_1, fBo_b, i_lit, i_neg1, nI_add, pk_mul, nI_clamp, i_le, i_lt, i_eq, fIx_n, nI_mI, mI_nI, mI_lt, nI_lt_m, mI_le, nI_le_m, xI_0, xI_s, bI_0, bI_1, bI_t, bI_f, n_31, j_bit, j_one, i_and, i_or, Nat.not_lt_zero, Nat.succ_ne_zero, Nat.add_one_ne_zero, Nat.add_one_sub_one, Nat.zero_le, Nat.or_zero, Nat.zero_or, Bool.not_true, Bool.not_false, Bool.true_and, Bool.false_and, Bool.and_true, Bool.and_false, ↓reduceIte, if_true, if_false, not_true_eq_false, not_false_eq_true, true_and, and_true, false_and, and_false, and_self, true_or, or_true, false_or, or_false, Nat.reduceEqDiff, Nat.reduceLT, Nat.reduceLeDiff, Nat.reduceAdd, Nat.reduceMul, Nat.reduceSub, Nat.add_zero, Nat.zero_add, Nat.mul_zero, Nat.zero_mul, ne_eq, Bool.not_eq_true, Bool.not_eq_false, reduceCtorEq, decide_true, decide_false, decide_eq_true_eq, decide_eq_false_iff_not, Bool.false_eq_true, if_pos, if_neg, x_kol_t X w hk, m_kol_t B w hk, i1, i2, x1, m1, gI_same, f_X11_refuse]
        exact ⟨_, _, _, rfl, rfl, fin_st H _⟩
    · rw [inB_f.mpr (by omega)] at i1 i2
      simp (disch := omega) only [fLt_e, fBd_s, fJn_s, fNn_s, fNu_0, fNu_s, fBo_0, fBo_1, fBo_b, i_lit, i_neg1, nI_add, pk_mul, nI_clamp, i_le, i_lt, i_eq, fIx_n, nI_mI, mI_nI, mI_lt, nI_lt_m, mI_le, nI_le_m, xI_0, xI_s, bI_0, bI_1, bI_t, bI_f, n_31, j_bit, j_one, i_and, i_or, Nat.not_lt_zero, Nat.succ_ne_zero, Nat.add_one_ne_zero, Nat.add_one_sub_one, Nat.zero_le, Nat.or_zero, Nat.zero_or, Bool.not_true, Bool.not_false, Bool.true_and, Bool.false_and, Bool.and_true, Bool.and_false, ↓reduceIte, if_true, if_false, not_true_eq_false, not_false_eq_true, true_and, and_true, false_and, and_false, and_self, true_or, or_true, false_or, or_false, Nat.reduceEqDiff, Nat.reduceLT, Nat.reduceLeDiff, Nat.reduceAdd, Nat.reduceMul, Nat.reduceSub, Nat.add_zero, Nat.zero_add, Nat.mul_zero, Nat.zero_mul, ne_eq, Bool.not_eq_true, Bool.not_eq_false, reduceCtorEq, decide_true, decide_false, decide_eq_true_eq, decide_eq_false_iff_not, Bool.false_eq_true, if_pos, if_neg, x_kol_t X w hk, m_kol_t B w hk, i1, i2, f_X11_refuse, f_X12_no]
      exact ⟨_, _, _, rfl, rfl, fin_st H _⟩
  · simp (disch := omega) only [fLt_e, fBd_s, fJn_s, fNn_s, fNu_0, fNu_s, fBo_0, fBo_1, fBo_b, i_lit, i_neg1, nI_add, pk_mul, nI_clamp, i_le, i_lt, i_eq, fIx_n, nI_mI, mI_nI, mI_lt, nI_lt_m, mI_le, nI_le_m, xI_0, xI_s, bI_0, bI_1, bI_t, bI_f, n_31, j_bit, j_one, i_and, i_or, Nat.not_lt_zero, Nat.succ_ne_zero, Nat.add_one_ne_zero, Nat.add_one_sub_one, Nat.zero_le, Nat.or_zero, Nat.zero_or, Bool.not_true, Bool.not_false, Bool.true_and, Bool.false_and, Bool.and_true, Bool.and_false, ↓reduceIte, if_true, if_false, not_true_eq_false, not_false_eq_true, true_and, and_true, false_and, and_false, and_self, true_or, or_true, false_or, or_false, Nat.reduceEqDiff, Nat.reduceLT, Nat.reduceLeDiff, Nat.reduceAdd, Nat.reduceMul, Nat.reduceSub, Nat.add_zero, Nat.zero_add, Nat.mul_zero, Nat.zero_mul, ne_eq, Bool.not_eq_true, Bool.not_eq_false, reduceCtorEq, decide_true, decide_false, decide_eq_true_eq, decide_eq_false_iff_not, Bool.false_eq_true, if_pos, if_neg, x_kol_f X w hb1 hb2, m_kol_f B w hb1 hb2, f_X11_refuse, f_X12_no]
    exact ⟨_, _, _, rfl, rfl, fin_st H _⟩
theorem call_seen (a b : Int32) : CALL (f_X11_seen a b) (f_X12_seen a b) := by
  intro sc sm ⟨hA, H⟩
  have H := pro_x H
  have z := pro_0 sm
  unfold f_X11_seen f_X12_seen
  simp only [fLt_e, pro_eq]
  generalize pro sm = s2 at *
  obtain ⟨q, G, w, X, B, -⟩ := RX_cur H
  have w1 := w.1
  have i1 := x_hasScene X w a
  have i2 := m_isSceneAt B w a
  by_cases ha : 0 ≤ a.toInt ∧ a.toInt < G 2
  · rw [inB_t.mpr (by omega)] at i1 i2
    obtain ⟨e, he, rfl, -⟩ := nI_ofInt (n := G 2) ha.1 (by omega)
    rcases kol_cases b (n := G 3) (by omega) with ⟨kp, hk, rfl⟩ | ⟨hb1, hb2⟩
    · have hw := gwhy_le G kp
      have x1 := x_why X w hk
      have m1 := m_why B w hk
      by_cases h0 : gwhy G kp = 0
      · rw [h0] at x1 m1
        have H0 : RX sc (sI s2 12 0 0 (nI 0)) := RX_e (cEq_rf _) (mEq_st _ _) H
        obtain ⟨t, tq, u, Pn, g1, g2, HR, ⟨g3, g4⟩, g5, g6, g7, g8⟩ := odds_core H0 X B w hk
        obtain ⟨g6, g6'⟩ := g6 e he
        have hE : ksm G kp (vS G e) (G 3) < 2 ^ 63 := Nat.lt_trans (ksm_b1 w (fun k hk => vS_le w (by omega) e)) (by omega)
        have hT := ksm_pos w hk (gwhy_0 h0)
        have hT2 := ksm_T (kp := kp) w
        simp (disch := omega) only [fLt_e, fBd_s, fJn_s, fNn_s, fNu_0, fNu_s, fBo_0, fBo_1, fBo_b, i_lit, i_neg1, nI_add, pk_mul, nI_clamp, i_le, i_lt, i_eq, fIx_n, nI_mI, mI_nI, mI_lt, nI_lt_m, mI_le, nI_le_m, xI_0, xI_s, bI_0, bI_1, bI_t, bI_f, n_31, j_bit, j_one, i_and, i_or, Nat.not_lt_zero, Nat.succ_ne_zero, Nat.add_one_ne_zero, Nat.add_one_sub_one, Nat.zero_le, Nat.or_zero, Nat.zero_or, Bool.not_true, Bool.not_false, Bool.true_and, Bool.false_and, Bool.and_true, Bool.and_false, ↓reduceIte, if_true, if_false, not_true_eq_false, not_false_eq_true, true_and, and_true, false_and, and_false, and_self, true_or, or_true, false_or, or_false, Nat.reduceEqDiff, Nat.reduceLT, Nat.reduceLeDiff, Nat.reduceAdd, Nat.reduceMul, Nat.reduceSub, Nat.add_zero, Nat.zero_add, Nat.mul_zero, Nat.zero_mul, ne_eq, Bool.not_eq_true, Bool.not_eq_false, reduceCtorEq, decide_true, decide_false, decide_eq_true_eq, decide_eq_false_iff_not, Bool.false_eq_true, if_pos, if_neg, x_kol_t X w hk, m_kol_t B w hk, i1, i2, x1, m1, gI_same, X.2.2.1.2, g1, g2, oQ_rP, oQ_rL, gU_rS, gU_rW, g3, g4, g6, g6', x_tell hE hT2 hT, m_frac hE hT2 hT]
        exact ⟨_, _, _, rfl, rfl, fin_fr HR rfl _ _⟩
      · simp (disch := omega) only [fLt_e, fBd_s, fJn_s, fNn_s, fNu_0, fNu_s, fBo_0, fBo_1, fBo_b, i_lit, i_neg1, nI_add, pk_mul, nI_clamp, i_le, i_lt, i_eq, fIx_n, nI_mI, mI_nI, mI_lt, nI_lt_m, mI_le, nI_le_m, xI_0, xI_s, bI_0, bI_1, bI_t, bI_f, n_31, j_bit, j_one, i_and, i_or, Nat.not_lt_zero, Nat.succ_ne_zero, Nat.add_one_ne_zero, Nat.add_one_sub_one, Nat.zero_le, Nat.or_zero, Nat.zero_or, Bool.not_true, Bool.not_false, Bool.true_and, Bool.false_and, Bool.and_true, Bool.and_false, ↓reduceIte, if_true, if_false, not_true_eq_false, not_false_eq_true, true_and, and_true, false_and, and_false, and_self, true_or, or_true, false_or, or_false, Nat.reduceEqDiff, Nat.reduceLT, Nat.reduceLeDiff, Nat.reduceAdd, Nat.reduceMul, Nat.reduceSub, Nat.add_zero, Nat.zero_add, Nat.mul_zero, Nat.zero_mul, ne_eq, Bool.not_eq_true, Bool.not_eq_false, reduceCtorEq, decide_true, decide_false, decide_eq_true_eq, decide_eq_false_iff_not, Bool.false_eq_true, if_pos, if_neg, x_kol_t X w hk, m_kol_t B w hk, i1, i2, x1, m1, gI_same, f_X11_refuse]
        exact ⟨_, _, _, rfl, rfl, fin_st H _⟩
    · simp (disch := omega) only [fLt_e, fBd_s, fJn_s, fNn_s, fNu_0, fNu_s, fBo_0, fBo_1, fBo_b, i_lit, i_neg1, nI_add, pk_mul, nI_clamp, i_le, i_lt, i_eq, fIx_n, nI_mI, mI_nI, mI_lt, nI_lt_m, mI_le, nI_le_m, xI_0, xI_s, bI_0, bI_1, bI_t, bI_f, n_31, j_bit, j_one, i_and, i_or, Nat.not_lt_zero, Nat.succ_ne_zero, Nat.add_one_ne_zero, Nat.add_one_sub_one, Nat.zero_le, Nat.or_zero, Nat.zero_or, Bool.not_true, Bool.not_false, Bool.true_and, Bool.false_and, Bool.and_true, Bool.and_false, ↓reduceIte, if_true, if_false, not_true_eq_false, not_false_eq_true, true_and, and_true, false_and, and_false, and_self, true_or, or_true, false_or, or_false, Nat.reduceEqDiff, Nat.reduceLT, Nat.reduceLeDiff, Nat.reduceAdd, Nat.reduceMul, Nat.reduceSub, Nat.add_zero, Nat.zero_add, Nat.mul_zero, Nat.zero_mul, ne_eq, Bool.not_eq_true, Bool.not_eq_false, reduceCtorEq, decide_true, decide_false, decide_eq_true_eq, decide_eq_false_iff_not, Bool.false_eq_true, if_pos, if_neg, i1, i2, x_kol_f X w hb1 hb2, m_kol_f B w hb1 hb2, f_X11_refuse, f_X12_no]
      exact ⟨_, _, _, rfl, rfl, fin_st H _⟩
  · rw [inB_f.mpr (by omega)] at i1 i2
    simp (disch := omega) only [fLt_e, fBd_s, fJn_s, fNn_s, fNu_0, fNu_s, fBo_0, fBo_1, fBo_b, i_lit, i_neg1, nI_add, pk_mul, nI_clamp, i_le, i_lt, i_eq, fIx_n, nI_mI, mI_nI, mI_lt, nI_lt_m, mI_le, nI_le_m, xI_0, xI_s, bI_0, bI_1, bI_t, bI_f, n_31, j_bit, j_one, i_and, i_or, Nat.not_lt_zero, Nat.succ_ne_zero, Nat.add_one_ne_zero, Nat.add_one_sub_one, Nat.zero_le, Nat.or_zero, Nat.zero_or, Bool.not_true, Bool.not_false, Bool.true_and, Bool.false_and, Bool.and_true, Bool.and_false, ↓reduceIte, if_true, if_false, not_true_eq_false, not_false_eq_true, true_and, and_true, false_and, and_false, and_self, true_or, or_true, false_or, or_false, Nat.reduceEqDiff, Nat.reduceLT, Nat.reduceLeDiff, Nat.reduceAdd, Nat.reduceMul, Nat.reduceSub, Nat.add_zero, Nat.zero_add, Nat.mul_zero, Nat.zero_mul, ne_eq, Bool.not_eq_true, Bool.not_eq_false, reduceCtorEq, decide_true, decide_false, decide_eq_true_eq, decide_eq_false_iff_not, Bool.false_eq_true, if_pos, if_neg, i1, i2, f_X11_refuse, f_X12_no]
    exact ⟨_, _, _, rfl, rfl, fin_st H _⟩
theorem x_brAll {sc : fSt} {q : Nat} {G : Nat → Nat} (X : rHou sc 0 q G) (w : gWf G) {Pn : Nat → Nat} (h : ∀ s, s < 12 → gB sc 4 0 3 s = lN (Pn s)) : f_X4_breathsInAll q sc = some (lN (zs (fun s => (if s < G 2 then gbr G s else 0) * Pn s) 12), sc) := by
  have w1 := w.1
  have hn : gI sc 7 q 2 = nI (G 2) := X.2.1.1.2.2.1
  obtain ⟨m, e⟩ := lp_run (fun m (z : Int64 × Int32) => f_X4_breathsInAll_L5 q m z.1 z.2 sc) (fun s => (lN (zs (fun s => Pn s * gbr G s) s), nI s)) (G 2) (fun m s hs => by
    show f_X4_breathsInAll_L5 q (m + 1) (lN (zs (fun s => Pn s * gbr G s) s)) (nI s) sc = f_X4_breathsInAll_L5 q m (lN (zs (fun s => Pn s * gbr G s) (s + 1))) (nI (s + 1)) sc
    have hbr := x_breathsOfScene X.2.1 w hs
    have hb := gbr_le w hs
    rw [f_X4_breathsInAll_L5, zs_s]
    simp (disch := omega) only [fLt_e, fBd_s, fJn_s, fNn_s, fNu_0, fNu_s, fBo_0, fBo_1, fBo_b, i_lit, i_neg1, nI_add, pk_mul, nI_clamp, i_le, i_lt, i_eq, fIx_n, nI_mI, mI_nI, mI_lt, nI_lt_m, mI_le, nI_le_m, xI_0, xI_s, bI_0, bI_1, bI_t, bI_f, n_31, j_bit, j_one, i_and, i_or, Nat.not_lt_zero, Nat.succ_ne_zero, Nat.add_one_ne_zero, Nat.add_one_sub_one, Nat.zero_le, Nat.or_zero, Nat.zero_or, Bool.not_true, Bool.not_false, Bool.true_and, Bool.false_and, Bool.and_true, Bool.and_false, ↓reduceIte, if_true, if_false, not_true_eq_false, not_false_eq_true, true_and, and_true, false_and, and_false, and_self, true_or, or_true, false_or, or_false, Nat.reduceEqDiff, Nat.reduceLT, Nat.reduceLeDiff, Nat.reduceAdd, Nat.reduceMul, Nat.reduceSub, Nat.add_zero, Nat.zero_add, Nat.mul_zero, Nat.zero_mul, ne_eq, Bool.not_eq_true, Bool.not_eq_false, reduceCtorEq, decide_true, decide_false, decide_eq_true_eq, decide_eq_false_iff_not, Bool.false_eq_true, if_pos, if_neg, hn, h s (by omega), hbr, nI_l, lN_mul, lN_add]) (fF_lt (by omega))
  have e2 : zs (fun s => (if s < G 2 then gbr G s else 0) * Pn s) 12 = zs (fun s => Pn s * gbr G s) (G 2) := by
    obtain ⟨m, hm⟩ : ∃ m, 12 = G 2 + m := ⟨12 - G 2, by omega⟩
    rw [hm]
    clear hm
    induction m with
    | zero =>
      apply zs_cong
      intro k hk
      rw [Nat.add_zero] at hk
      rw [if_pos hk, Nat.mul_comm]
    | succ m ih =>
      have hz : (if G 2 + m < G 2 then gbr G (G 2 + m) else 0) * Pn (G 2 + m) = 0 := by rw [if_neg (by omega), Nat.zero_mul]
      rw [← Nat.add_assoc, zs_s, ih, hz, Nat.add_zero]
  rw [e2]
  unfold f_X4_breathsInAll
  refine Eq.trans ?_ (Eq.trans e ?_)
  · rfl
  · show f_X4_breathsInAll_L5 q (m + 1) (lN (zs (fun s => Pn s * gbr G s) (G 2))) (nI (G 2)) sc = _
    rw [f_X4_breathsInAll_L5]
    simp (disch := omega) only [fLt_e, fBd_s, fJn_s, fNn_s, fNu_0, fNu_s, fBo_0, fBo_1, fBo_b, i_lit, i_neg1, nI_add, pk_mul, nI_clamp, i_le, i_lt, i_eq, fIx_n, nI_mI, mI_nI, mI_lt, nI_lt_m, mI_le, nI_le_m, xI_0, xI_s, bI_0, bI_1, bI_t, bI_f, n_31, j_bit, j_one, i_and, i_or, Nat.not_lt_zero, Nat.succ_ne_zero, Nat.add_one_ne_zero, Nat.add_one_sub_one, Nat.zero_le, Nat.or_zero, Nat.zero_or, Bool.not_true, Bool.not_false, Bool.true_and, Bool.false_and, Bool.and_true, Bool.and_false, ↓reduceIte, if_true, if_false, not_true_eq_false, not_false_eq_true, true_and, and_true, false_and, and_false, and_self, true_or, or_true, false_or, or_false, Nat.reduceEqDiff, Nat.reduceLT, Nat.reduceLeDiff, Nat.reduceAdd, Nat.reduceMul, Nat.reduceSub, Nat.add_zero, Nat.zero_add, Nat.mul_zero, Nat.zero_mul, ne_eq, Bool.not_eq_true, Bool.not_eq_false, reduceCtorEq, decide_true, decide_false, decide_eq_true_eq, decide_eq_false_iff_not, Bool.false_eq_true, if_pos, if_neg, hn]
theorem call_mean (b : Int32) : CALL (f_X11_mean b) (f_X12_mean b) := by
  intro sc sm ⟨hA, H⟩
  have H := pro_x H
  have z := pro_0 sm
  unfold f_X11_mean f_X12_mean
  simp only [fLt_e, pro_eq]
  generalize pro sm = s2 at *
  obtain ⟨q, G, w, X, B, -⟩ := RX_cur H
  have w1 := w.1
  rcases kol_cases b (n := G 3) (by omega) with ⟨kp, hk, rfl⟩ | ⟨hb1, hb2⟩
  · have hw := gwhy_le G kp
    have x1 := x_why X w hk
    have m1 := m_why B w hk
    by_cases h0 : gwhy G kp = 0
    · rw [h0] at x1 m1
      have H0 : RX sc (sI s2 12 0 0 (nI 0)) := RX_e (cEq_rf _) (mEq_st _ _) H
      obtain ⟨t, tq, u, Pn, g1, g2, HR, ⟨g3, g4⟩, g5, g6, g7, g8, g9⟩ := odds_core H0 X B w hk
      have hE := ksm_b2 (kp := kp) w
      have hT := ksm_pos w hk (gwhy_0 h0)
      have hT2 := ksm_T (kp := kp) w
      have hp : gP (oQ sc t) 2 0 0 = q + 1 := X.1
      have hb := x_brAll (sc := oQ sc t) (Pn := Pn) X w g8
      rw [g9] at hb
      simp (disch := omega) only [fLt_e, fBd_s, fJn_s, fNn_s, fNu_0, fNu_s, fBo_0, fBo_1, fBo_b, i_lit, i_neg1, nI_add, pk_mul, nI_clamp, i_le, i_lt, i_eq, fIx_n, nI_mI, mI_nI, mI_lt, nI_lt_m, mI_le, nI_le_m, xI_0, xI_s, bI_0, bI_1, bI_t, bI_f, n_31, j_bit, j_one, i_and, i_or, Nat.not_lt_zero, Nat.succ_ne_zero, Nat.add_one_ne_zero, Nat.add_one_sub_one, Nat.zero_le, Nat.or_zero, Nat.zero_or, Bool.not_true, Bool.not_false, Bool.true_and, Bool.false_and, Bool.and_true, Bool.and_false, ↓reduceIte, if_true, if_false, not_true_eq_false, not_false_eq_true, true_and, and_true, false_and, and_false, and_self, true_or, or_true, false_or, or_false, Nat.reduceEqDiff, Nat.reduceLT, Nat.reduceLeDiff, Nat.reduceAdd, Nat.reduceMul, Nat.reduceSub, Nat.add_zero, Nat.zero_add, Nat.mul_zero, Nat.zero_mul, ne_eq, Bool.not_eq_true, Bool.not_eq_false, reduceCtorEq, decide_true, decide_false, decide_eq_true_eq, decide_eq_false_iff_not, Bool.false_eq_true, if_pos, if_neg, x_kol_t X w hk, m_kol_t B w hk, x1, m1, gI_same, X.2.2.1.2, g1, g2, hp, hb, oQ_rL, gU_rB, gU_rW, g3, g4, g7, x_tell hE hT2 hT, m_frac hE hT2 hT]
      exact ⟨_, _, _, rfl, rfl, fin_fr HR rfl _ _⟩
    · simp (disch := omega) only [fLt_e, fBd_s, fJn_s, fNn_s, fNu_0, fNu_s, fBo_0, fBo_1, fBo_b, i_lit, i_neg1, nI_add, pk_mul, nI_clamp, i_le, i_lt, i_eq, fIx_n, nI_mI, mI_nI, mI_lt, nI_lt_m, mI_le, nI_le_m, xI_0, xI_s, bI_0, bI_1, bI_t, bI_f, n_31, j_bit, j_one, i_and, i_or, Nat.not_lt_zero, Nat.succ_ne_zero, Nat.add_one_ne_zero, Nat.add_one_sub_one, Nat.zero_le, Nat.or_zero, Nat.zero_or, Bool.not_true, Bool.not_false, Bool.true_and, Bool.false_and, Bool.and_true, Bool.and_false, ↓reduceIte, if_true, if_false, not_true_eq_false, not_false_eq_true, true_and, and_true, false_and, and_false, and_self, true_or, or_true, false_or, or_false, Nat.reduceEqDiff, Nat.reduceLT, Nat.reduceLeDiff, Nat.reduceAdd, Nat.reduceMul, Nat.reduceSub, Nat.add_zero, Nat.zero_add, Nat.mul_zero, Nat.zero_mul, ne_eq, Bool.not_eq_true, Bool.not_eq_false, reduceCtorEq, decide_true, decide_false, decide_eq_true_eq, decide_eq_false_iff_not, Bool.false_eq_true, if_pos, if_neg, x_kol_t X w hk, m_kol_t B w hk, x1, m1, gI_same, f_X11_refuse]
      exact ⟨_, _, _, rfl, rfl, fin_st H _⟩
  · simp (disch := omega) only [fLt_e, fBd_s, fJn_s, fNn_s, fNu_0, fNu_s, fBo_0, fBo_1, fBo_b, i_lit, i_neg1, nI_add, pk_mul, nI_clamp, i_le, i_lt, i_eq, fIx_n, nI_mI, mI_nI, mI_lt, nI_lt_m, mI_le, nI_le_m, xI_0, xI_s, bI_0, bI_1, bI_t, bI_f, n_31, j_bit, j_one, i_and, i_or, Nat.not_lt_zero, Nat.succ_ne_zero, Nat.add_one_ne_zero, Nat.add_one_sub_one, Nat.zero_le, Nat.or_zero, Nat.zero_or, Bool.not_true, Bool.not_false, Bool.true_and, Bool.false_and, Bool.and_true, Bool.and_false, ↓reduceIte, if_true, if_false, not_true_eq_false, not_false_eq_true, true_and, and_true, false_and, and_false, and_self, true_or, or_true, false_or, or_false, Nat.reduceEqDiff, Nat.reduceLT, Nat.reduceLeDiff, Nat.reduceAdd, Nat.reduceMul, Nat.reduceSub, Nat.add_zero, Nat.zero_add, Nat.mul_zero, Nat.zero_mul, ne_eq, Bool.not_eq_true, Bool.not_eq_false, reduceCtorEq, decide_true, decide_false, decide_eq_true_eq, decide_eq_false_iff_not, Bool.false_eq_true, if_pos, if_neg, x_kol_f X w hb1 hb2, m_kol_f B w hb1 hb2, f_X11_refuse, f_X12_no]
    exact ⟨_, _, _, rfl, rfl, fin_st H _⟩
theorem call_who (a b : Int32) : CALL (f_X11_who a b) (f_X12_who a b) := by
  intro sc sm ⟨hA, H⟩
  have H := pro_x H
  have z := pro_0 sm
  unfold f_X11_who f_X12_who
  simp only [fLt_e, pro_eq]
  generalize pro sm = s2 at *
  obtain ⟨q, G, w, X, B, -⟩ := RX_cur H
  have w1 := w.1
  have i1 := x_hasKind X w a
  have i2 := m_isKindAt B w a
  by_cases ha : 0 ≤ a.toInt ∧ a.toInt < G 3
  · rw [inB_t.mpr (by omega)] at i1 i2
    obtain ⟨k, hk, rfl, -⟩ := nI_ofInt (n := G 3) ha.1 (by omega)
    have i3 : ∀ st, f_X11_isIn b (nI 0) (nI 9) st = some (bI (inB b.toInt 0 9), st) := fun st => x_isIn b 0 9 st
    have i4 : ∀ st, f_X12_isIn b.toInt64 (lN 0) (lN 9) st = some (bI (inB b.toInt 0 9), st) := fun st => m_isIn_c b 0 9 st
    by_cases hb : 0 ≤ b.toInt ∧ b.toInt < 10
    · rw [inB_t.mpr (by omega)] at i3 i4
      obtain ⟨e, he, rfl, -⟩ := nI_ofInt (n := 10) hb.1 (by omega)
      rw [nI_l (by omega)] at i4
      obtain ⟨t, tq, u, Pn, g1, g2, HR, ⟨g3, g4⟩, g5, g6, g7, g8⟩ := odds_core H X B w (show 0 ≤ G 3 by omega)
      obtain ⟨g5, g5'⟩ := g5 e he
      have hE : ksm G 0 (vE G e) (G 3) < 2 ^ 51 := ksm_b1 w (fun k hk => vE_le w (by omega) e)
      rw [xI_0] at g1 g2
      by_cases h0 : ksm G 0 (vE G e) (G 3) = 0
      · rw [h0] at g5 g5'
        simp only [lg_eq]
        simp (disch := omega) only [fLt_e, fBd_s, fJn_s, fNn_s, fNu_0, fNu_s, fBo_0, fBo_1, fBo_b, i_lit, i_neg1, nI_add, pk_mul, nI_clamp, i_le, i_lt, i_eq, fIx_n, nI_mI, mI_nI, mI_lt, nI_lt_m, mI_le, nI_le_m, xI_0, xI_s, bI_0, bI_1, bI_t, bI_f, n_31, j_bit, j_one, i_and, i_or, Nat.not_lt_zero, Nat.succ_ne_zero, Nat.add_one_ne_zero, Nat.add_one_sub_one, Nat.zero_le, Nat.or_zero, Nat.zero_or, Bool.not_true, Bool.not_false, Bool.true_and, Bool.false_and, Bool.and_true, Bool.and_false, ↓reduceIte, if_true, if_false, not_true_eq_false, not_false_eq_true, true_and, and_true, false_and, and_false, and_self, true_or, or_true, false_or, or_false, Nat.reduceEqDiff, Nat.reduceLT, Nat.reduceLeDiff, Nat.reduceAdd, Nat.reduceMul, Nat.reduceSub, Nat.add_zero, Nat.zero_add, Nat.mul_zero, Nat.zero_mul, ne_eq, Bool.not_eq_true, Bool.not_eq_false, reduceCtorEq, decide_true, decide_false, decide_eq_true_eq, decide_eq_false_iff_not, Bool.false_eq_true, if_pos, if_neg, l_lit, nI_l, i1, i2, i3, i4, X.2.2.1.2, g1, g2, oQ_rC, gU_rE, g5, g5', f_X11_refuse, f_X12_no]
        exact ⟨_, _, _, rfl, rfl, fin_st HR _⟩
      · have hne : ¬ lN (ksm G 0 (vE G e) (G 3)) = lN 0 := lN_ne0 (by omega) (by omega)
        obtain ⟨t1, tq1, u1, Pn1, k1, k2, HR1, ⟨k3, k4⟩, k5, k6, k7, k8⟩ := odds_core HR X B w (show k + 1 ≤ G 3 by omega)
        obtain ⟨k5, k5'⟩ := k5 e he
        have hE1 : ksm G (k + 1) (vE G e) (G 3) < 2 ^ 51 := ksm_b1 w (fun k hk => vE_le w (by omega) e)
        have hp : gP (oQ (oQ sc t) t1) 2 0 0 = q + 1 := X.1
        have hl : gA (oQ (oQ sc t) t1) 7 q 13 k = nI (G (121 + k)) := (X.2.1.2.2.2 k hk).1
        have hl2 : gA (gU (gQ (gU (gQ s2 tq) u) tq1) u1) 12 0 5 (121 + k) = nI (G (121 + k)) := (B.2.2.2.1 k hk).1
        have wl := (w.2.2.2.2.1 k hk).1
        have h5 : gI (oQ sc t) 2 0 3 = nI (G 5) := X.2.2.1.2
        have hm1 : lN (ksm G (k + 1) (vE G e) (G 3)) * lN (G (121 + k)) = lN (ksm G (k + 1) (vE G e) (G 3) * G (121 + k)) := lN_mul _ _
        have hm2 : lN (G (121 + k)) * lN (ksm G (k + 1) (vE G e) (G 3)) = lN (ksm G (k + 1) (vE G e) (G 3) * G (121 + k)) := by rw [lN_mul, Nat.mul_comm]
        have hlt : ksm G (k + 1) (vE G e) (G 3) * G (121 + k) < 2 ^ 63 := by
          have := Nat.mul_le_mul (show ksm G (k + 1) (vE G e) (G 3) ≤ 2 ^ 51 by omega) (show G (121 + k) ≤ 30 by omega)
          omega
        have hx := x_tell hlt (show ksm G 0 (vE G e) (G 3) < 2 ^ 63 by omega) (by omega)
        have hy := m_frac hlt (show ksm G 0 (vE G e) (G 3) < 2 ^ 63 by omega) (by omega)
        rw [xI_s] at k1 k2
        simp only [lg_eq]
        simp (disch := omega) only [fLt_e, fBd_s, fJn_s, fNn_s, fNu_0, fNu_s, fBo_0, fBo_1, fBo_b, i_lit, i_neg1, nI_add, pk_mul, nI_clamp, i_le, i_lt, i_eq, fIx_n, nI_mI, mI_nI, mI_lt, nI_lt_m, mI_le, nI_le_m, xI_0, xI_s, bI_0, bI_1, bI_t, bI_f, n_31, j_bit, j_one, i_and, i_or, Nat.not_lt_zero, Nat.succ_ne_zero, Nat.add_one_ne_zero, Nat.add_one_sub_one, Nat.zero_le, Nat.or_zero, Nat.zero_or, Bool.not_true, Bool.not_false, Bool.true_and, Bool.false_and, Bool.and_true, Bool.and_false, ↓reduceIte, if_true, if_false, not_true_eq_false, not_false_eq_true, true_and, and_true, false_and, and_false, and_self, true_or, or_true, false_or, or_false, Nat.reduceEqDiff, Nat.reduceLT, Nat.reduceLeDiff, Nat.reduceAdd, Nat.reduceMul, Nat.reduceSub, Nat.add_zero, Nat.zero_add, Nat.mul_zero, Nat.zero_mul, ne_eq, Bool.not_eq_true, Bool.not_eq_false, reduceCtorEq, decide_true, decide_false, decide_eq_true_eq, decide_eq_false_iff_not, Bool.false_eq_true, if_pos, if_neg, l_lit, i1, i2, i3, i4, X.2.2.1.2, g1, g2, oQ_rC, gU_rE, g5, g5', hne, h5, k1, k2, hp, hl, hl2, k5, k5', nI_l, hm1, hm2, hx, hy]
        exact ⟨_, _, _, rfl, rfl, fin_fr HR1 z _ _⟩
    · rw [inB_f.mpr (by omega)] at i3 i4
      simp (disch := omega) only [fLt_e, fBd_s, fJn_s, fNn_s, fNu_0, fNu_s, fBo_0, fBo_1, fBo_b, i_lit, i_neg1, nI_add, pk_mul, nI_clamp, i_le, i_lt, i_eq, fIx_n, nI_mI, mI_nI, mI_lt, nI_lt_m, mI_le, nI_le_m, xI_0, xI_s, bI_0, bI_1, bI_t, bI_f, n_31, j_bit, j_one, i_and, i_or, Nat.not_lt_zero, Nat.succ_ne_zero, Nat.add_one_ne_zero, Nat.add_one_sub_one, Nat.zero_le, Nat.or_zero, Nat.zero_or, Bool.not_true, Bool.not_false, Bool.true_and, Bool.false_and, Bool.and_true, Bool.and_false, ↓reduceIte, if_true, if_false, not_true_eq_false, not_false_eq_true, true_and, and_true, false_and, and_false, and_self, true_or, or_true, false_or, or_false, Nat.reduceEqDiff, Nat.reduceLT, Nat.reduceLeDiff, Nat.reduceAdd, Nat.reduceMul, Nat.reduceSub, Nat.add_zero, Nat.zero_add, Nat.mul_zero, Nat.zero_mul, ne_eq, Bool.not_eq_true, Bool.not_eq_false, reduceCtorEq, decide_true, decide_false, decide_eq_true_eq, decide_eq_false_iff_not, Bool.false_eq_true, if_pos, if_neg, l_lit, i1, i2, i3, i4, f_X11_refuse, f_X12_no]
      exact ⟨_, _, _, rfl, rfl, fin_st H _⟩
  · rw [inB_f.mpr (by omega)] at i1 i2
    simp (disch := omega) only [fLt_e, fBd_s, fJn_s, fNn_s, fNu_0, fNu_s, fBo_0, fBo_1, fBo_b, i_lit, i_neg1, nI_add, pk_mul, nI_clamp, i_le, i_lt, i_eq, fIx_n, nI_mI, mI_nI, mI_lt, nI_lt_m, mI_le, nI_le_m, xI_0, xI_s, bI_0, bI_1, bI_t, bI_f, n_31, j_bit, j_one, i_and, i_or, Nat.not_lt_zero, Nat.succ_ne_zero, Nat.add_one_ne_zero, Nat.add_one_sub_one, Nat.zero_le, Nat.or_zero, Nat.zero_or, Bool.not_true, Bool.not_false, Bool.true_and, Bool.false_and, Bool.and_true, Bool.and_false, ↓reduceIte, if_true, if_false, not_true_eq_false, not_false_eq_true, true_and, and_true, false_and, and_false, and_self, true_or, or_true, false_or, or_false, Nat.reduceEqDiff, Nat.reduceLT, Nat.reduceLeDiff, Nat.reduceAdd, Nat.reduceMul, Nat.reduceSub, Nat.add_zero, Nat.zero_add, Nat.mul_zero, Nat.zero_mul, ne_eq, Bool.not_eq_true, Bool.not_eq_false, reduceCtorEq, decide_true, decide_false, decide_eq_true_eq, decide_eq_false_iff_not, Bool.false_eq_true, if_pos, if_neg, i1, i2, f_X11_refuse, f_X12_no]
    exact ⟨_, _, _, rfl, rfl, fin_st H _⟩
