/-! layer 2: the call death, its loops -/
theorem x_dL63 {sc sm : fSt} {q : Nat} {G : Nat → Nat} (H : RX sc sm) (X : rHou sc 0 q G) (w : gWf G) {e : Nat} (he : e < 10) (k12 : Int64 → Int32 → fSt → Option (Int32 × fSt)) :
    ∃ sc', RX sc' sm ∧ f_X11_death_L63 (nI e) (lN (dV G e (G 5))) k12 fF (lN 0) mI (nI 0) sc = k12 (lN (dB G e (G 0)).2) (xI (dB G e (G 0)).1) sc' := by
  have w1 := w.1
  have w2 := w.2.1
  obtain ⟨⟨v, ρ, i, s⟩, m, ⟨h1, h2, h3, h4, h5⟩, er⟩ := lp_ex (fun m (z : Int64 × Int32 × Int32 × fSt) => f_X11_death_L63 (nI e) (lN (dV G e (G 5))) k12 m z.1 z.2.1 z.2.2.1 z.2.2.2) (fun r z => z.1 = lN (dB G e r).2 ∧ z.2.1 = xI (dB G e r).1 ∧ z.2.2.1 = nI r ∧ RX z.2.2.2 sm ∧ rHou z.2.2.2 0 q G) (G 0) (fun r z hr P => by
    obtain ⟨v, ρ, i, s⟩ := z
    obtain ⟨h1, h2, h3, h4, h5⟩ := P
    simp only at h1 h2 h3 h4 h5
    subst h1 h2 h3
    have hob := or_bit w2.2.1 (show r < 6 by omega)
    obtain ⟨t, g1, g2, g3⟩ := x_gather h5 w h4.2.2.2.2.2.2.2.1 (kp := 0) (by omega) hob
    have gC : t.2.1 e = lN (dV G e (G 5 ||| 2 ^ r)) := (oEnd_one g3).1 e he
    obtain ⟨Cn, Pn, i1, -⟩ := g3
    obtain ⟨hb1, hb2⟩ := dB_lt w e r (by omega)
    have hd1 := dV_lt w hob e
    have hd2 := dV_lt w w2.2.1 e
    have hds := ds_lt hd1 hd2
    have hab := lN_ds (show dV G e (G 5 ||| 2 ^ r) < 2 ^ 62 by omega) (show dV G e (G 5) < 2 ^ 62 by omega)
    have hn : gI s 7 q 0 = nI (G 0) := h5.2.1.1.1
    have h50 : gI s 2 0 3 = nI (G 5) := h5.2.2.1.2
    refine ⟨(lN (dB G e (r + 1)).2, xI (dB G e (r + 1)).1, nI (r + 1), oQ s t), ⟨rfl, rfl, rfl, RX_oQ h4 i1, h5⟩, fun m => ?_⟩
    rw [xI_0] at g1
    show f_X11_death_L63 (nI e) (lN (dV G e (G 5))) k12 (m + 1) (lN (dB G e r).2) (xI (dB G e r).1) (nI r) s = f_X11_death_L63 (nI e) (lN (dV G e (G 5))) k12 m (lN (dB G e (r + 1)).2) (xI (dB G e (r + 1)).1) (nI (r + 1)) (oQ s t)
    rw [f_X11_death_L63, dB_s]
    simp only [lg_le0]
    simp (disch := omega) only [fLt_e, fBd_s, fJn_s, fNn_s, fNu_0, fNu_s, fBo_0, fBo_1, fBo_b, i_lit, i_neg1, nI_add, pk_mul, nI_clamp, i_le, i_lt, i_eq, fIx_n, nI_mI, mI_nI, mI_lt, nI_lt_m, mI_le, nI_le_m, xI_0, xI_s, bI_0, bI_1, bI_t, bI_f, n_31, j_bit, j_one, i_and, i_or, Nat.not_lt_zero, Nat.succ_ne_zero, Nat.add_one_ne_zero, Nat.add_one_sub_one, Nat.zero_le, Nat.or_zero, Nat.zero_or, Bool.not_true, Bool.not_false, Bool.true_and, Bool.false_and, Bool.and_true, Bool.and_false, ↓reduceIte, if_true, if_false, not_true_eq_false, not_false_eq_true, true_and, and_true, false_and, and_false, and_self, true_or, or_true, false_or, or_false, Nat.reduceEqDiff, Nat.reduceLT, Nat.reduceLeDiff, Nat.reduceAdd, Nat.reduceMul, Nat.reduceSub, Nat.add_zero, Nat.zero_add, Nat.mul_zero, Nat.zero_mul, ne_eq, Bool.not_eq_true, Bool.not_eq_false, reduceCtorEq, decide_true, decide_false, decide_eq_true_eq, decide_eq_false_iff_not, Bool.false_eq_true, if_pos, if_neg, h5.1, hn, h50, g1, oQ_rC, gC, hab, pk_lT]
    by_cases hlt : (dB G e r).2 < ds (dV G e (G 5 ||| 2 ^ r)) (dV G e (G 5))
    · rw [if_neg (by omega), if_pos hlt]
      rfl
    · rw [if_pos (by omega), if_neg hlt]) (fF_lt (by omega)) (s := (lN 0, mI, nI 0, sc)) ⟨rfl, rfl, rfl, H, X⟩
  simp only at h1 h2 h3 h4 h5 er
  subst h1 h2 h3
  refine ⟨s, h4, ?_⟩
  rw [er, f_X11_death_L63]
  have hn : gI s 7 q 0 = nI (G 0) := h5.2.1.1.1
  simp (disch := omega) only [fLt_e, fBd_s, fJn_s, fNn_s, fNu_0, fNu_s, fBo_0, fBo_1, fBo_b, i_lit, i_neg1, nI_add, pk_mul, nI_clamp, i_le, i_lt, i_eq, fIx_n, nI_mI, mI_nI, mI_lt, nI_lt_m, mI_le, nI_le_m, xI_0, xI_s, bI_0, bI_1, bI_t, bI_f, n_31, j_bit, j_one, i_and, i_or, Nat.not_lt_zero, Nat.succ_ne_zero, Nat.add_one_ne_zero, Nat.add_one_sub_one, Nat.zero_le, Nat.or_zero, Nat.zero_or, Bool.not_true, Bool.not_false, Bool.true_and, Bool.false_and, Bool.and_true, Bool.and_false, ↓reduceIte, if_true, if_false, not_true_eq_false, not_false_eq_true, true_and, and_true, false_and, and_false, and_self, true_or, or_true, false_or, or_false, Nat.reduceEqDiff, Nat.reduceLT, Nat.reduceLeDiff, Nat.reduceAdd, Nat.reduceMul, Nat.reduceSub, Nat.add_zero, Nat.zero_add, Nat.mul_zero, Nat.zero_mul, ne_eq, Bool.not_eq_true, Bool.not_eq_false, reduceCtorEq, decide_true, decide_false, decide_eq_true_eq, decide_eq_false_iff_not, Bool.false_eq_true, if_pos, if_neg, h5.1, hn]
theorem m_dL55 {sm : fSt} {G : Nat → Nat} (z0 : gI sm 12 0 0 = 0) (B : rBlk (gA sm 12 0 5) G) (w : gWf G) {e : Nat} (he : e < 10) (k14 : Int32 → Int64 → fSt → Option (Int32 × fSt)) :
    ∃ sm', (∀ c, RX c sm → RX c sm') ∧ gI sm' 12 0 0 = 0 ∧ f_X12_death_L55 (nI e) (lN (dV G e (G 5))) k14 fF mI (lN 0) (nI 0) sm = k14 (xI (dB G e (G 0)).1) (lN (dB G e (G 0)).2) sm' := by
  have w1 := w.1
  have w2 := w.2.1
  obtain ⟨⟨ρ, v, i, s⟩, m, ⟨h1, h2, h3, h4, h5, h6⟩, er⟩ := lp_ex (fun m (z : Int32 × Int64 × Int32 × fSt) => f_X12_death_L55 (nI e) (lN (dV G e (G 5))) k14 m z.1 z.2.1 z.2.2.1 z.2.2.2) (fun r z => z.1 = xI (dB G e r).1 ∧ z.2.1 = lN (dB G e r).2 ∧ z.2.2.1 = nI r ∧ (∀ c, RX c sm → RX c z.2.2.2) ∧ gA z.2.2.2 12 0 5 = gA sm 12 0 5 ∧ gI z.2.2.2 12 0 0 = 0) (G 0) (fun r z hr P => by
    obtain ⟨ρ, v, i, s⟩ := z
    obtain ⟨h1, h2, h3, h4, h5, h6⟩ := P
    simp only at h1 h2 h3 h4 h5 h6
    subst h1 h2 h3
    have B' : rBlk (gA s 12 0 5) G := by rw [h5]; exact B
    have hn := B'.1.1
    have h50 := B'.1.2.2.2.2.2.1
    have hhas := m_has (a := G 5) (k := r) (by omega) (by omega) s
    show ∃ s' : Int32 × Int64 × Int32 × fSt, _ ∧ ∀ m, f_X12_death_L55 (nI e) (lN (dV G e (G 5))) k14 (m + 1) (xI (dB G e r).1) (lN (dB G e r).2) (nI r) s = f_X12_death_L55 (nI e) (lN (dV G e (G 5))) k14 m s'.1 s'.2.1 s'.2.2.1 s'.2.2.2
    by_cases hbit : (G 5).testBit r = true
    · refine ⟨(xI (dB G e (r + 1)).1, lN (dB G e (r + 1)).2, nI (r + 1), s), ⟨rfl, rfl, rfl, h4, h5, h6⟩, fun m => ?_⟩
      rw [hbit] at hhas
      have hor := or_self hbit
      have hz : dB G e (r + 1) = dB G e r := by
        rw [dB_s, hor]
        exact if_neg (by unfold ds; omega)
      rw [hz, f_X12_death_L55]
      simp (disch := omega) only [fLt_e, fBd_s, fJn_s, fNn_s, fNu_0, fNu_s, fBo_0, fBo_1, fBo_b, i_lit, i_neg1, nI_add, pk_mul, nI_clamp, i_le, i_lt, i_eq, fIx_n, nI_mI, mI_nI, mI_lt, nI_lt_m, mI_le, nI_le_m, xI_0, xI_s, bI_0, bI_1, bI_t, bI_f, n_31, j_bit, j_one, i_and, i_or, Nat.not_lt_zero, Nat.succ_ne_zero, Nat.add_one_ne_zero, Nat.add_one_sub_one, Nat.zero_le, Nat.or_zero, Nat.zero_or, Bool.not_true, Bool.not_false, Bool.true_and, Bool.false_and, Bool.and_true, Bool.and_false, ↓reduceIte, if_true, if_false, not_true_eq_false, not_false_eq_true, true_and, and_true, false_and, and_false, and_self, true_or, or_true, false_or, or_false, Nat.reduceEqDiff, Nat.reduceLT, Nat.reduceLeDiff, Nat.reduceAdd, Nat.reduceMul, Nat.reduceSub, Nat.add_zero, Nat.zero_add, Nat.mul_zero, Nat.zero_mul, ne_eq, Bool.not_eq_true, Bool.not_eq_false, reduceCtorEq, decide_true, decide_false, decide_eq_true_eq, decide_eq_false_iff_not, Bool.false_eq_true, if_pos, if_neg, hn, h50, hhas]
    · have hbit : (G 5).testBit r = false := by simpa using hbit
      rw [hbit] at hhas
      have hob := or_bit w2.2.1 (show r < 6 by omega)
      have w' := gG_wf w hob
      have B1 : rBlk (gA (sA s 12 0 5 (upd (gA s 12 0 5) 5 (nI (G 5 ||| 2 ^ r)))) 12 0 5) (gG G (G 5 ||| 2 ^ r)) := gG_blk B'
      obtain ⟨t, u, s1, s2, -⟩ := m_sums B1 w' (kp := 0) (by omega)
      have gC : u.1 e = lN (dV G e (G 5 ||| 2 ^ r)) := by rw [s2 e he, dV_eq w hob]
      obtain ⟨hb1, hb2⟩ := dB_lt w e r (by omega)
      have hd1 := dV_lt w hob e
      have hd2 := dV_lt w w2.2.1 e
      have hds := ds_lt hd1 hd2
      have hab := lN_ds (show dV G e (G 5 ||| 2 ^ r) < 2 ^ 62 by omega) (show dV G e (G 5) < 2 ^ 62 by omega)
      have hbk := or_back hbit
      have hupd : upd (upd (gA s 12 0 5) 5 (nI (G 5 ||| 2 ^ r))) 5 (nI (G 5)) = gA s 12 0 5 := by
        funext i
        simp only [upd_at]
        by_cases hi : i = 5
        · rw [if_pos hi, hi, h50]
        · rw [if_neg hi, if_neg hi]
      have hg5 : gA (gU (gQ (sA s 12 0 5 (upd (gA s 12 0 5) 5 (nI (G 5 ||| 2 ^ r)))) t) u) 12 0 5 = upd (gA s 12 0 5) 5 (nI (G 5 ||| 2 ^ r)) := rfl
      have hg55 : upd (gA s 12 0 5) 5 (nI (G 5 ||| 2 ^ r)) 5 = nI (G 5 ||| 2 ^ r) := rfl
      have hgB : gB (sA (gU (gQ (sA s 12 0 5 (upd (gA s 12 0 5) 5 (nI (G 5 ||| 2 ^ r)))) t) u) 12 0 5 (gA s 12 0 5)) 12 0 12 = u.1 := rfl
      refine ⟨(xI (dB G e (r + 1)).1, lN (dB G e (r + 1)).2, nI (r + 1), sA (gU (gQ (sA s 12 0 5 (upd (gA s 12 0 5) 5 (nI (G 5 ||| 2 ^ r)))) t) u) 12 0 5 (gA s 12 0 5)), ⟨rfl, rfl, rfl, fun c hc => RX_e (cEq_rf c) ⟨⟨rfl, rfl, rfl, rfl, rfl, rfl, rfl⟩, ⟨rfl, rfl⟩, ⟨rfl, rfl, rfl, rfl, rfl, rfl, rfl⟩, rfl, rfl⟩ (h4 c hc), h5, h6⟩, fun m => ?_⟩
      rw [xI_0] at s1
      rw [f_X12_death_L55, dB_s]
      simp only [lg_gt]
      simp (disch := omega) only [fLt_e, fBd_s, fJn_s, fNn_s, fNu_0, fNu_s, fBo_0, fBo_1, fBo_b, i_lit, i_neg1, nI_add, pk_mul, nI_clamp, i_le, i_lt, i_eq, fIx_n, nI_mI, mI_nI, mI_lt, nI_lt_m, mI_le, nI_le_m, xI_0, xI_s, bI_0, bI_1, bI_t, bI_f, n_31, j_bit, j_one, i_and, i_or, Nat.not_lt_zero, Nat.succ_ne_zero, Nat.add_one_ne_zero, Nat.add_one_sub_one, Nat.zero_le, Nat.or_zero, Nat.zero_or, Bool.not_true, Bool.not_false, Bool.true_and, Bool.false_and, Bool.and_true, Bool.and_false, ↓reduceIte, if_true, if_false, not_true_eq_false, not_false_eq_true, true_and, and_true, false_and, and_false, and_self, true_or, or_true, false_or, or_false, Nat.reduceEqDiff, Nat.reduceLT, Nat.reduceLeDiff, Nat.reduceAdd, Nat.reduceMul, Nat.reduceSub, Nat.add_zero, Nat.zero_add, Nat.mul_zero, Nat.zero_mul, ne_eq, Bool.not_eq_true, Bool.not_eq_false, reduceCtorEq, decide_true, decide_false, decide_eq_true_eq, decide_eq_false_iff_not, Bool.false_eq_true, if_pos, if_neg, hn, h50, hhas, s1, hg5, hg55, i_andn, hbk, hupd, hgB, gC, hab, pk_lT]
      by_cases hlt : (dB G e r).2 < ds (dV G e (G 5 ||| 2 ^ r)) (dV G e (G 5))
      · rw [if_pos (by omega), if_pos hlt]
        rfl
      · rw [if_neg (by omega), if_neg hlt]) (fF_lt (by omega)) (s := (mI, lN 0, nI 0, sm)) ⟨rfl, rfl, rfl, fun c hc => hc, rfl, z0⟩
  simp only at h1 h2 h3 h4 h5 h6 er
  subst h1 h2 h3
  refine ⟨s, h4, h6, ?_⟩
  rw [er, f_X12_death_L55]
  have hn : gA s 12 0 5 0 = nI (G 0) := by rw [h5]; exact B.1.1
  simp (disch := omega) only [fLt_e, fBd_s, fJn_s, fNn_s, fNu_0, fNu_s, fBo_0, fBo_1, fBo_b, i_lit, i_neg1, nI_add, pk_mul, nI_clamp, i_le, i_lt, i_eq, fIx_n, nI_mI, mI_nI, mI_lt, nI_lt_m, mI_le, nI_le_m, xI_0, xI_s, bI_0, bI_1, bI_t, bI_f, n_31, j_bit, j_one, i_and, i_or, Nat.not_lt_zero, Nat.succ_ne_zero, Nat.add_one_ne_zero, Nat.add_one_sub_one, Nat.zero_le, Nat.or_zero, Nat.zero_or, Bool.not_true, Bool.not_false, Bool.true_and, Bool.false_and, Bool.and_true, Bool.and_false, ↓reduceIte, if_true, if_false, not_true_eq_false, not_false_eq_true, true_and, and_true, false_and, and_false, and_self, true_or, or_true, false_or, or_false, Nat.reduceEqDiff, Nat.reduceLT, Nat.reduceLeDiff, Nat.reduceAdd, Nat.reduceMul, Nat.reduceSub, Nat.add_zero, Nat.zero_add, Nat.mul_zero, Nat.zero_mul, ne_eq, Bool.not_eq_true, Bool.not_eq_false, reduceCtorEq, decide_true, decide_false, decide_eq_true_eq, decide_eq_false_iff_not, Bool.false_eq_true, if_pos, if_neg, hn]
theorem call_death (a : Int32) : CALL (f_X11_death a) (f_X12_death a) := by
  intro sc sm ⟨hA, H⟩
  have H := pro_x H
  have z := pro_0 sm
  unfold f_X11_death f_X12_death
  simp only [fLt_e, pro_eq]
  generalize pro sm = s2 at *
  obtain ⟨q, G, w, X, B, -⟩ := RX_cur H
  have w1 := w.1
  have w2 := w.2.1
  have i3 : ∀ st, f_X11_isIn a (nI 0) (nI 9) st = some (bI (inB a.toInt 0 9), st) := fun st => x_isIn a 0 9 st
  have i4 : ∀ st, f_X12_isIn a.toInt64 (lN 0) (lN 9) st = some (bI (inB a.toInt 0 9), st) := fun st => m_isIn_c a 0 9 st
  by_cases hb : 0 ≤ a.toInt ∧ a.toInt < 10
  · rw [inB_t.mpr (by omega)] at i3 i4
    obtain ⟨e, he, rfl, -⟩ := nI_ofInt (n := 10) hb.1 (by omega)
    rw [nI_l (by omega)] at i4
    obtain ⟨t, tq, u, Pn, g1, g2, HR, ⟨g3, g4⟩, g5, g6, g7, g8⟩ := odds_core H X B w (show 0 ≤ G 3 by omega)
    obtain ⟨g5, g5'⟩ := g5 e he
    have hV : ksm G 0 (vE G e) (G 3) = dV G e (G 5) := by
      unfold dV
      exact ksm_cong (fun k hk => vE_spv w (by omega) e)
    rw [hV] at g5 g5'
    rw [xI_0] at g1 g2
    obtain ⟨hb1, hb2⟩ := dB_lt w e (G 0) (by omega)
    obtain ⟨sc', HR1, e1⟩ := x_dL63 HR X w he (fun x9 x10 s11 => if ¬x10 = mI then fBd (f_X11_tellFraction x9 (lN (ksm G 0 (fun _ => fWh) (G 3))) s11) fun x13 s14 => fBd (f_X11_answer x10 s14) fun x15 s16 => some (x15, s16) else fBd (f_X11_fail (nI 8) s11) fun x17 s18 => some (x17, s18))
    obtain ⟨sm', HR2, z', e2⟩ := m_dL55 (sm := gU (gQ s2 tq) u) z B w he (fun x11 x12 s13 => if nI 0 ≤ x11 then fBd (f_X12_fraction x12 (lN (ksm G 0 (fun _ => fWh) (G 3))) s13) fun x15 s16 => some (x11, s16) else fBd (f_X12_refuse (nI 8) s13) fun x17 s18 => some (x17, s18))
    have HR3 := HR2 _ HR1
    simp (disch := omega) only [fLt_e, fBd_s, fJn_s, fNn_s, fNu_0, fNu_s, fBo_0, fBo_1, fBo_b, i_lit, i_neg1, nI_add, pk_mul, nI_clamp, i_le, i_lt, i_eq, fIx_n, nI_mI, mI_nI, mI_lt, nI_lt_m, mI_le, nI_le_m, xI_0, xI_s, bI_0, bI_1, bI_t, bI_f, n_31, j_bit, j_one, i_and, i_or, Nat.not_lt_zero, Nat.succ_ne_zero, Nat.add_one_ne_zero, Nat.add_one_sub_one, Nat.zero_le, Nat.or_zero, Nat.zero_or, Bool.not_true, Bool.not_false, Bool.true_and, Bool.false_and, Bool.and_true, Bool.and_false, ↓reduceIte, if_true, if_false, not_true_eq_false, not_false_eq_true, true_and, and_true, false_and, and_false, and_self, true_or, or_true, false_or, or_false, Nat.reduceEqDiff, Nat.reduceLT, Nat.reduceLeDiff, Nat.reduceAdd, Nat.reduceMul, Nat.reduceSub, Nat.add_zero, Nat.zero_add, Nat.mul_zero, Nat.zero_mul, ne_eq, Bool.not_eq_true, Bool.not_eq_false, reduceCtorEq, decide_true, decide_false, decide_eq_true_eq, decide_eq_false_iff_not, Bool.false_eq_true, if_pos, if_neg, l_lit, nI_l, i3, i4, X.2.2.1.2, g1, g2, oQ_rC, oQ_rL, gU_rE, gU_rW, g3, g4, g5, g5'] at e1 e2 ⊢
    rw [e1, e2]
    clear e1 e2
    cases hρ : (dB G e (G 0)).1 with
    | zero =>
      simp (disch := omega) only [fLt_e, fBd_s, fJn_s, fNn_s, fNu_0, fNu_s, fBo_0, fBo_1, fBo_b, i_lit, i_neg1, nI_add, pk_mul, nI_clamp, i_le, i_lt, i_eq, fIx_n, nI_mI, mI_nI, mI_lt, nI_lt_m, mI_le, nI_le_m, xI_0, xI_s, bI_0, bI_1, bI_t, bI_f, n_31, j_bit, j_one, i_and, i_or, Nat.not_lt_zero, Nat.succ_ne_zero, Nat.add_one_ne_zero, Nat.add_one_sub_one, Nat.zero_le, Nat.or_zero, Nat.zero_or, Bool.not_true, Bool.not_false, Bool.true_and, Bool.false_and, Bool.and_true, Bool.and_false, ↓reduceIte, if_true, if_false, not_true_eq_false, not_false_eq_true, true_and, and_true, false_and, and_false, and_self, true_or, or_true, false_or, or_false, Nat.reduceEqDiff, Nat.reduceLT, Nat.reduceLeDiff, Nat.reduceAdd, Nat.reduceMul, Nat.reduceSub, Nat.add_zero, Nat.zero_add, Nat.mul_zero, Nat.zero_mul, ne_eq, Bool.not_eq_true, Bool.not_eq_false, reduceCtorEq, decide_true, decide_false, decide_eq_true_eq, decide_eq_false_iff_not, Bool.false_eq_true, if_pos, if_neg, f_X11_fail, f_X12_refuse]
      exact ⟨_, _, _, rfl, rfl, fin_st HR3 _⟩
    | succ r =>
      have h3 : 0 < G 3 := by
        cases h3 : G 3 with
        | zero => rw [dB_0 h3] at hρ; omega
        | succ n => omega
      have hT := ksm_pos w (show 0 ≤ G 3 by omega) (Or.inr h3)
      have hT2 := ksm_T (kp := 0) w
      have hv : (dB G e (G 0)).2 < 2 ^ 63 := by omega
      simp (disch := omega) only [fLt_e, fBd_s, fJn_s, fNn_s, fNu_0, fNu_s, fBo_0, fBo_1, fBo_b, i_lit, i_neg1, nI_add, pk_mul, nI_clamp, i_le, i_lt, i_eq, fIx_n, nI_mI, mI_nI, mI_lt, nI_lt_m, mI_le, nI_le_m, xI_0, xI_s, bI_0, bI_1, bI_t, bI_f, n_31, j_bit, j_one, i_and, i_or, Nat.not_lt_zero, Nat.succ_ne_zero, Nat.add_one_ne_zero, Nat.add_one_sub_one, Nat.zero_le, Nat.or_zero, Nat.zero_or, Bool.not_true, Bool.not_false, Bool.true_and, Bool.false_and, Bool.and_true, Bool.and_false, ↓reduceIte, if_true, if_false, not_true_eq_false, not_false_eq_true, true_and, and_true, false_and, and_false, and_self, true_or, or_true, false_or, or_false, Nat.reduceEqDiff, Nat.reduceLT, Nat.reduceLeDiff, Nat.reduceAdd, Nat.reduceMul, Nat.reduceSub, Nat.add_zero, Nat.zero_add, Nat.mul_zero, Nat.zero_mul, ne_eq, Bool.not_eq_true, Bool.not_eq_false, reduceCtorEq, decide_true, decide_false, decide_eq_true_eq, decide_eq_false_iff_not, Bool.false_eq_true, if_pos, if_neg, x_tell hv hT2 hT, m_frac hv hT2 hT, f_X11_answer]
      refine ⟨_, _, _, rfl, rfl, ?_⟩
      have HF := fin_fr HR3 z' (lN ((dB G e (G 0)).2 / (dB G e (G 0)).2.gcd (ksm G 0 (fun _ => fWh) (G 3)))) (lN (ksm G 0 (fun _ => fWh) (G 3) / (dB G e (G 0)).2.gcd (ksm G 0 (fun _ => fWh) (G 3))))
      have hII : ∀ st : fSt, sI (sI st 11 0 2 (nI 0)) 11 0 2 (nI 0) = sI st 11 0 2 (nI 0) := by
        intro st
        apply st_ext
        · intro c i k
          simp only [gI_sI]
          split <;> rfl
        · intro c i k; rfl
        · intro c i k; rfl
        · intro c i k; rfl
        · intro c i k; rfl
      rw [hII]
      exact HF
  · rw [inB_f.mpr (by omega)] at i3 i4
    simp (disch := omega) only [fLt_e, fBd_s, fJn_s, fNn_s, fNu_0, fNu_s, fBo_0, fBo_1, fBo_b, i_lit, i_neg1, nI_add, pk_mul, nI_clamp, i_le, i_lt, i_eq, fIx_n, nI_mI, mI_nI, mI_lt, nI_lt_m, mI_le, nI_le_m, xI_0, xI_s, bI_0, bI_1, bI_t, bI_f, n_31, j_bit, j_one, i_and, i_or, Nat.not_lt_zero, Nat.succ_ne_zero, Nat.add_one_ne_zero, Nat.add_one_sub_one, Nat.zero_le, Nat.or_zero, Nat.zero_or, Bool.not_true, Bool.not_false, Bool.true_and, Bool.false_and, Bool.and_true, Bool.and_false, ↓reduceIte, if_true, if_false, not_true_eq_false, not_false_eq_true, true_and, and_true, false_and, and_false, and_self, true_or, or_true, false_or, or_false, Nat.reduceEqDiff, Nat.reduceLT, Nat.reduceLeDiff, Nat.reduceAdd, Nat.reduceMul, Nat.reduceSub, Nat.add_zero, Nat.zero_add, Nat.mul_zero, Nat.zero_mul, ne_eq, Bool.not_eq_true, Bool.not_eq_false, reduceCtorEq, decide_true, decide_false, decide_eq_true_eq, decide_eq_false_iff_not, Bool.false_eq_true, if_pos, if_neg, l_lit, i3, i4, f_X11_fail, f_X12_refuse]
    exact ⟨_, _, _, rfl, rfl, fin_st H _⟩
