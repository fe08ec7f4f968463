/-! layer 2: one step of a week -/
theorem rBlk_45 {f : Nat → Int32} {G : Nat → Nat} {c v : Nat} (hc : c = 4 ∨ c = 5) (w : gWf G) (B : rBlk f G) : rBlk (upd f c (nI v)) (fun k => if k = c then v else G k) := by
  obtain ⟨b1, b2, b3, b4, b5, b6, b7⟩ := B
  have w1 := w.1
  obtain ⟨c0, c1, c2, c3, c4, c5, c6⟩ := b1
  rcases hc with rfl | rfl
  · refine ⟨⟨c0, c1, c2, c3, rfl, c5, c6⟩, fun a ha => ?_, fun s hs => ?_, fun k hk => ?_, fun i hi => ?_, b6, fun j hj => ?_⟩
    · have ha : a < G 1 := ha
      simp (disch := omega) only [upd_at, if_neg]; exact b2 a ha
    · have hs : s < G 2 := hs
      simp (disch := omega) only [upd_at, if_neg]; exact b3 s hs
    · have hk : k < G 3 := hk
      simp (disch := omega) only [upd_at, if_neg]; exact b4 k hk
    · have hi : i < G 6 := hi
      simp (disch := omega) only [upd_at, if_neg]; exact b5 i hi
    · have hj : j < G 218 := hj
      simp (disch := omega) only [upd_at, if_neg]; exact b7 j hj
  · refine ⟨⟨c0, c1, c2, c3, c4, rfl, c6⟩, fun a ha => ?_, fun s hs => ?_, fun k hk => ?_, fun i hi => ?_, b6, fun j hj => ?_⟩
    · have ha : a < G 1 := ha
      simp (disch := omega) only [upd_at, if_neg]; exact b2 a ha
    · have hs : s < G 2 := hs
      simp (disch := omega) only [upd_at, if_neg]; exact b3 s hs
    · have hk : k < G 3 := hk
      simp (disch := omega) only [upd_at, if_neg]; exact b4 k hk
    · have hi : i < G 6 := hi
      simp (disch := omega) only [upd_at, if_neg]; exact b5 i hi
    · have hj : j < G 218 := hj
      simp (disch := omega) only [upd_at, if_neg]; exact b7 j hj
section
variable {i : Nat} {no : Bool} {G0 : Nat → Nat} {q : Nat} {sc sm : fSt} {sg : Nat}
/-- the relation reads these cells alone -/
theorem wkR_e {sc' sm' : fSt} {sg' : Nat} (W : wkR i no G0 q sc sm sg) (h : cFr i no sc sc') (h2 : gI sc' 2 0 2 = gI sc 2 0 2 ∧ gI sc' 2 0 3 = gI sc 2 0 3 ∧ gI sc' 0 0 0 = gI sc 0 0 0 ∧ gA sc' 0 0 1 = gA sc 0 0 1) (h5 : gA sm' 12 0 5 = gA sm 12 0 5) (hs : gI sc' 3 (i + 1) 6 = gI sc 3 (i + 1) 6 ∧ gI sm' 12 0 28 = gI sm 12 0 28)
    (hc : ∀ k, ¬ k = 6 → gI sc' 10 i k = gI sc 10 i k) (hm : ∀ k, 59 ≤ k → k < 65 → gI sm' 12 0 k = gI sm 12 0 k) (hg : gI sc' 10 i 6 = nI sg' ∧ gI sm' 12 0 58 = nI sg') : wkR i no G0 q sc' sm' sg' := by
  obtain ⟨Gc, Gm, r, se, en, l, ⟨wc, wm, X, B, hag, hno, hG0⟩, ⟨r1, r2, r3⟩, n2, ⟨s1, s2⟩, ⟨e1, e2, e3⟩, ⟨g1, g2, g3⟩, ⟨l1, l2, l3⟩, p1, p2, p3⟩ := W
  refine ⟨Gc, Gm, r, se, en, l, ⟨wc, wm, rHou_x h wc (fun k _ => rfl) X (by rw [h2.1, h2.2.1]; exact X.2.2.1) ?_, by rw [h5]; exact B, hag, hno, hG0⟩, ⟨by rw [hs.1]; exact r1, by rw [hs.2]; exact r2, r3⟩, by rw [hc 2 (by omega)]; exact n2, hg, ⟨by rw [hc 7 (by omega)]; exact e1, by rw [hm 60 (by omega) (by omega)]; exact e2, e3⟩, ⟨by rw [hc 5 (by omega)]; exact g1, by rw [hm 61 (by omega) (by omega)]; exact g2, g3⟩, ⟨by rw [hc 10 (by omega)]; exact l1, by rw [hm 64 (by omega) (by omega)]; exact l2, l3⟩, by rw [hc 4 (by omega), hm 59 (by omega) (by omega)]; exact p1, by rw [hc 8 (by omega), hm 62 (by omega) (by omega)]; exact p2, by rw [hc 9 (by omega), hm 63 (by omega) (by omega)]; exact p3⟩
  have hb := X.2.2.2
  unfold rBok at *
  rw [h2.2.2.1, h2.2.2.2]
  exact hb
theorem wk_inc (W : wkR i no G0 q sc sm sg) : wkR i no G0 q (sI sc 10 i 6 (nI (sg + 1))) (sI sm 12 0 58 (nI (sg + 1))) (sg + 1) := by
  refine wkR_e W (cFr_I (Or.inl ⟨rfl, rfl⟩) (cFr_rf i no sc)) ⟨rfl, rfl, rfl, rfl⟩ rfl ⟨?_, rfl⟩ (fun k hk => ?_) (fun k h1 h2 => ?_) ⟨gI_same _ _ _ _ _, gI_same _ _ _ _ _⟩
  · rw [gI_sI, if_neg (by omega)]
  · rw [gI_sI, if_neg (by omega)]
  · rw [gI_sI, if_neg (by omega)]
theorem wk_set {c v : Nat} (hc : c = 4 ∨ c = 5) (hv : (c = 4 → v < 4096) ∧ (c = 5 → v < 64)) (W : wkR i no G0 q sc sm sg) : wkR i no G0 q (sI sc 2 0 (c - 2) (nI v)) (sA sm 12 0 5 (upd (gA sm 12 0 5) c (nI v))) sg := by
  obtain ⟨Gc, Gm, r, se, en, l, ⟨wc, wm, X, B, hag, hno, hG0⟩, ⟨r1, r2, r3⟩, n2, ⟨s1, s2⟩, ⟨e1, e2, e3⟩, ⟨g1, g2, g3⟩, ⟨l1, l2, l3⟩, p1, p2, p3⟩ := W
  have hwf : ∀ {G : Nat → Nat}, gWf G → gWf (fun k => if k = c then v else G k) := by
    intro G w
    rcases hc with rfl | rfl
    · exact gWf_4 w (hv.1 rfl)
    · exact gWf_5 w (hv.2 rfl)
  have hfr : cFr i no sc (sI sc 2 0 (c - 2) (nI v)) := cFr_I (Or.inr (Or.inr (Or.inl ⟨rfl, rfl, by omega⟩))) (cFr_rf i no sc)
  refine ⟨fun k => if k = c then v else Gc k, fun k => if k = c then v else Gm k, r, se, en, l, ⟨hwf wc, hwf wm, ?_, ?_, ?_, ?_, ?_⟩, ⟨r1, r2, r3⟩, n2, ⟨s1, s2⟩, ⟨e1, e2, e3⟩, ⟨g1, g2, g3⟩, ⟨l1, l2, l3⟩, p1, p2, p3⟩
  · refine rHou_x hfr wc (fun k hk => if_neg (by omega)) X ?_ ?_
    · rcases hc with rfl | rfl
      · exact ⟨rfl, X.2.2.1.2⟩
      · exact ⟨X.2.2.1.1, rfl⟩
    · have hb := X.2.2.2
      rcases hc with rfl | rfl
      · refine ⟨hb.1, fun j hj => ?_⟩
        have hj : j < Gc 6 := hj
        simp (disch := omega) only [if_neg]
        exact hb.2 j hj
      · refine ⟨hb.1, fun j hj => ?_⟩
        have hj : j < Gc 6 := hj
        simp (disch := omega) only [if_neg]
        exact hb.2 j hj
  · rw [gA_same]
    exact rBlk_45 hc wm B
  · intro k hk
    show (if k = c then v else Gc k) = (if k = c then v else Gm k)
    split
    · rfl
    · exact hag k hk
  · intro h
    rw [hno h]
  · intro k hk
    show (if k = c then v else Gm k) = G0 k
    rw [if_neg (by omega)]
    exact hG0 k hk
theorem xs_play {w at' a : Nat} {sc' : fSt} (hat : at' < 60) (hw : gA sc 9 w 1 at' = nI 19) (ha : gA sc 9 w 2 at' = xI a) (s1 : gI sc 10 i 6 = nI sg) (c1 : f_X10_playNight i 0 (xI a) (sI sc 10 i 6 (nI (sg + 1))) = some ((), sc')) : f_X10_doStep i 0 w (nI at') sc = some (nI (at' + 1), sc') := by
  have hr9 : ∀ k, gA (sI sc 10 i 6 (nI (sg + 1))) 9 w k = gA sc 9 w k := fun k => rfl
  unfold f_X10_doStep
  simp (disch := omega) only [↓fLt_e, fBd_s, ↓fJn_s, fNn_s, fNu_0, fNu_s, fBo_0, fBo_1, fBo_b, i_lit, i_neg1, nI_add, pk_mul, nI_clamp, i_le, i_lt, i_eq, fIx_n, nI_mI, mI_nI, mI_lt, nI_lt_m, mI_le, nI_le_m, xI_0, xI_s, bI_0, bI_1, bI_t, bI_f, n_31, j_bit, j_one, i_and, i_or, Nat.not_lt_zero, Nat.succ_ne_zero, Nat.add_one_ne_zero, Nat.add_one_sub_one, Nat.zero_le, Nat.or_zero, Nat.zero_or, Bool.not_true, Bool.not_false, Bool.true_and, Bool.false_and, Bool.and_true, Bool.and_false, ↓reduceIte, if_true, if_false, not_true_eq_false, not_false_eq_true, true_and, and_true, false_and, and_false, and_self, true_or, or_true, false_or, or_false, Nat.reduceEqDiff, Nat.reduceLT, Nat.reduceLeDiff, Nat.reduceAdd, Nat.reduceMul, Nat.reduceSub, Nat.add_zero, Nat.zero_add, Nat.mul_zero, Nat.zero_mul, ne_eq, Bool.not_eq_true, Bool.not_eq_false, reduceCtorEq, decide_true, decide_false, decide_eq_true_eq, decide_eq_false_iff_not, Bool.false_eq_true, if_pos, if_neg, hr9, ha, hw, s1, c1]
theorem xs_bar {w at' s x : Nat} {b : Bool} (hat : at' < 60) (hs : s < 31) (hw : gA sc 9 w 1 at' = nI (if b then 20 else 21)) (ha : gA sc 9 w 2 at' = nI s) (s1 : gI sc 10 i 6 = nI sg) (h2 : gI (sI sc 10 i 6 (nI (sg + 1))) 2 0 2 = nI x) : f_X10_doStep i 0 w (nI at') sc = some (nI (at' + 1), sI (sI sc 10 i 6 (nI (sg + 1))) 2 0 2 (nI (gbit (decide (¬ bI b = 0)) x s))) := by
  have hr9 : ∀ k, gA (sI sc 10 i 6 (nI (sg + 1))) 9 w k = gA sc 9 w k := fun k => rfl
  unfold f_X10_doStep
  cases b with
  | true =>
    have hsb := x_setBarred (nI 1) hs h2
    have hw : gA sc 9 w 1 at' = nI 20 := hw
    simp (disch := omega) only [↓fLt_e, fBd_s, ↓fJn_s, fNn_s, fNu_0, fNu_s, fBo_0, fBo_1, fBo_b, i_lit, i_neg1, nI_add, pk_mul, nI_clamp, i_le, i_lt, i_eq, fIx_n, nI_mI, mI_nI, mI_lt, nI_lt_m, mI_le, nI_le_m, xI_0, xI_s, bI_0, bI_1, bI_t, bI_f, n_31, j_bit, j_one, i_and, i_or, Nat.not_lt_zero, Nat.succ_ne_zero, Nat.add_one_ne_zero, Nat.add_one_sub_one, Nat.zero_le, Nat.or_zero, Nat.zero_or, Bool.not_true, Bool.not_false, Bool.true_and, Bool.false_and, Bool.and_true, Bool.and_false, ↓reduceIte, if_true, if_false, not_true_eq_false, not_false_eq_true, true_and, and_true, false_and, and_false, and_self, true_or, or_true, false_or, or_false, Nat.reduceEqDiff, Nat.reduceLT, Nat.reduceLeDiff, Nat.reduceAdd, Nat.reduceMul, Nat.reduceSub, Nat.add_zero, Nat.zero_add, Nat.mul_zero, Nat.zero_mul, ne_eq, Bool.not_eq_true, Bool.not_eq_false, reduceCtorEq, decide_true, decide_false, decide_eq_true_eq, decide_eq_false_iff_not, Bool.false_eq_true, if_pos, if_neg, hr9, ha, hw, s1, hsb]
  | false =>
    have hsb := x_setBarred (nI 0) hs h2
    have hw : gA sc 9 w 1 at' = nI 21 := hw
    simp (disch := omega) only [↓fLt_e, fBd_s, ↓fJn_s, fNn_s, fNu_0, fNu_s, fBo_0, fBo_1, fBo_b, i_lit, i_neg1, nI_add, pk_mul, nI_clamp, i_le, i_lt, i_eq, fIx_n, nI_mI, mI_nI, mI_lt, nI_lt_m, mI_le, nI_le_m, xI_0, xI_s, bI_0, bI_1, bI_t, bI_f, n_31, j_bit, j_one, i_and, i_or, Nat.not_lt_zero, Nat.succ_ne_zero, Nat.add_one_ne_zero, Nat.add_one_sub_one, Nat.zero_le, Nat.or_zero, Nat.zero_or, Bool.not_true, Bool.not_false, Bool.true_and, Bool.false_and, Bool.and_true, Bool.and_false, ↓reduceIte, if_true, if_false, not_true_eq_false, not_false_eq_true, true_and, and_true, false_and, and_false, and_self, true_or, or_true, false_or, or_false, Nat.reduceEqDiff, Nat.reduceLT, Nat.reduceLeDiff, Nat.reduceAdd, Nat.reduceMul, Nat.reduceSub, Nat.add_zero, Nat.zero_add, Nat.mul_zero, Nat.zero_mul, ne_eq, Bool.not_eq_true, Bool.not_eq_false, reduceCtorEq, decide_true, decide_false, decide_eq_true_eq, decide_eq_false_iff_not, Bool.false_eq_true, if_pos, if_neg, hr9, ha, hw, s1, hsb]
theorem xs_dead {w at' s x : Nat} {b : Bool} (hat : at' < 60) (hs : s < 31) (hw : gA sc 9 w 1 at' = nI (if b then 22 else 23)) (ha : gA sc 9 w 2 at' = nI s) (s1 : gI sc 10 i 6 = nI sg) (h2 : gI (sI sc 10 i 6 (nI (sg + 1))) 2 0 3 = nI x) : f_X10_doStep i 0 w (nI at') sc = some (nI (at' + 1), sI (sI sc 10 i 6 (nI (sg + 1))) 2 0 3 (nI (gbit (decide (¬ bI b = 0)) x s))) := by
  have hr9 : ∀ k, gA (sI sc 10 i 6 (nI (sg + 1))) 9 w k = gA sc 9 w k := fun k => rfl
  unfold f_X10_doStep
  cases b with
  | true =>
    have hsb := x_setDead (nI 1) hs h2
    have hw : gA sc 9 w 1 at' = nI 22 := hw
    simp (disch := omega) only [↓fLt_e, fBd_s, ↓fJn_s, fNn_s, fNu_0, fNu_s, fBo_0, fBo_1, fBo_b, i_lit, i_neg1, nI_add, pk_mul, nI_clamp, i_le, i_lt, i_eq, fIx_n, nI_mI, mI_nI, mI_lt, nI_lt_m, mI_le, nI_le_m, xI_0, xI_s, bI_0, bI_1, bI_t, bI_f, n_31, j_bit, j_one, i_and, i_or, Nat.not_lt_zero, Nat.succ_ne_zero, Nat.add_one_ne_zero, Nat.add_one_sub_one, Nat.zero_le, Nat.or_zero, Nat.zero_or, Bool.not_true, Bool.not_false, Bool.true_and, Bool.false_and, Bool.and_true, Bool.and_false, ↓reduceIte, if_true, if_false, not_true_eq_false, not_false_eq_true, true_and, and_true, false_and, and_false, and_self, true_or, or_true, false_or, or_false, Nat.reduceEqDiff, Nat.reduceLT, Nat.reduceLeDiff, Nat.reduceAdd, Nat.reduceMul, Nat.reduceSub, Nat.add_zero, Nat.zero_add, Nat.mul_zero, Nat.zero_mul, ne_eq, Bool.not_eq_true, Bool.not_eq_false, reduceCtorEq, decide_true, decide_false, decide_eq_true_eq, decide_eq_false_iff_not, Bool.false_eq_true, if_pos, if_neg, hr9, ha, hw, s1, hsb]
  | false =>
    have hsb := x_setDead (nI 0) hs h2
    have hw : gA sc 9 w 1 at' = nI 23 := hw
    simp (disch := omega) only [↓fLt_e, fBd_s, ↓fJn_s, fNn_s, fNu_0, fNu_s, fBo_0, fBo_1, fBo_b, i_lit, i_neg1, nI_add, pk_mul, nI_clamp, i_le, i_lt, i_eq, fIx_n, nI_mI, mI_nI, mI_lt, nI_lt_m, mI_le, nI_le_m, xI_0, xI_s, bI_0, bI_1, bI_t, bI_f, n_31, j_bit, j_one, i_and, i_or, Nat.not_lt_zero, Nat.succ_ne_zero, Nat.add_one_ne_zero, Nat.add_one_sub_one, Nat.zero_le, Nat.or_zero, Nat.zero_or, Bool.not_true, Bool.not_false, Bool.true_and, Bool.false_and, Bool.and_true, Bool.and_false, ↓reduceIte, if_true, if_false, not_true_eq_false, not_false_eq_true, true_and, and_true, false_and, and_false, and_self, true_or, or_true, false_or, or_false, Nat.reduceEqDiff, Nat.reduceLT, Nat.reduceLeDiff, Nat.reduceAdd, Nat.reduceMul, Nat.reduceSub, Nat.add_zero, Nat.zero_add, Nat.mul_zero, Nat.zero_mul, ne_eq, Bool.not_eq_true, Bool.not_eq_false, reduceCtorEq, decide_true, decide_false, decide_eq_true_eq, decide_eq_false_iff_not, Bool.false_eq_true, if_pos, if_neg, hr9, ha, hw, s1, hsb]
theorem ms_play {j a : Nat} {sm' : fSt} (hj : j < 30) (hsg : sg < 200) (k0 : gA sm 12 0 5 (219 + 7 * j) = nI 0) (k1 : gA sm 12 0 5 (220 + 7 * j) = xI a) (s2 : gI sm 12 0 58 = nI sg) (c2 : f_X12_plays2 (xI a) (sI sm 12 0 58 (nI (sg + 1))) = some ((), sm')) (rec : Int32 → Int32 → fSt → Option (Unit × fSt)) : f_X12_doOne rec (nI j) sm = some ((), sm') := by
  have hx2 : nI 219 + nI 7 * nI j = nI (219 + 7 * j) := by rw [pk_mul, nI_add]
  have hx3 : nI (219 + 7 * j) + nI 1 = nI (220 + 7 * j) := by rw [nI_add]; congr 1; omega
  have hm5 : gA (sI sm 12 0 58 (nI (sg + 1))) 12 0 5 = gA sm 12 0 5 := rfl
  unfold f_X12_doOne
  simp (disch := omega) only [↓fLt_e, fBd_s, ↓fJn_s, fNn_s, fNu_0, fNu_s, fBo_0, fBo_1, fBo_b, i_lit, i_neg1, nI_add, pk_mul, nI_clamp, i_le, i_lt, i_eq, fIx_n, nI_mI, mI_nI, mI_lt, nI_lt_m, mI_le, nI_le_m, xI_0, xI_s, bI_0, bI_1, bI_t, bI_f, n_31, j_bit, j_one, i_and, i_or, Nat.not_lt_zero, Nat.succ_ne_zero, Nat.add_one_ne_zero, Nat.add_one_sub_one, Nat.zero_le, Nat.or_zero, Nat.zero_or, Bool.not_true, Bool.not_false, Bool.true_and, Bool.false_and, Bool.and_true, Bool.and_false, ↓reduceIte, if_true, if_false, not_true_eq_false, not_false_eq_true, true_and, and_true, false_and, and_false, and_self, true_or, or_true, false_or, or_false, Nat.reduceEqDiff, Nat.reduceLT, Nat.reduceLeDiff, Nat.reduceAdd, Nat.reduceMul, Nat.reduceSub, Nat.add_zero, Nat.zero_add, Nat.mul_zero, Nat.zero_mul, ne_eq, Bool.not_eq_true, Bool.not_eq_false, reduceCtorEq, decide_true, decide_false, decide_eq_true_eq, decide_eq_false_iff_not, Bool.false_eq_true, if_pos, if_neg, s2, hx2, hx3, hm5, k0, k1, c2]
theorem ms_bar {j s x : Nat} {b : Bool} (hj : j < 30) (hs : s < 31) (hsg : sg < 200) (k0 : gA sm 12 0 5 (219 + 7 * j) = nI (if b then 1 else 2)) (k1 : gA sm 12 0 5 (220 + 7 * j) = nI s) (c4 : gA sm 12 0 5 4 = nI x) (s2 : gI sm 12 0 58 = nI sg) (rec : Int32 → Int32 → fSt → Option (Unit × fSt)) : f_X12_doOne rec (nI j) sm = some ((), sA (sI sm 12 0 58 (nI (sg + 1))) 12 0 5 (upd (gA sm 12 0 5) 4 (nI (gbit (decide (¬ bI b = 0)) x s)))) := by
  have hx2 : nI 219 + nI 7 * nI j = nI (219 + 7 * j) := by rw [pk_mul, nI_add]
  have hx3 : nI (219 + 7 * j) + nI 1 = nI (220 + 7 * j) := by rw [nI_add]; congr 1; omega
  have hm5 : gA (sI sm 12 0 58 (nI (sg + 1))) 12 0 5 = gA sm 12 0 5 := rfl
  unfold f_X12_doOne
  cases b with
  | true =>
    have hwi := m_with (x := x) (nI 1) hs (sI sm 12 0 58 (nI (sg + 1)))
    have k0 : gA sm 12 0 5 (219 + 7 * j) = nI 1 := k0
    simp (disch := omega) only [↓fLt_e, fBd_s, ↓fJn_s, fNn_s, fNu_0, fNu_s, fBo_0, fBo_1, fBo_b, i_lit, i_neg1, nI_add, pk_mul, nI_clamp, i_le, i_lt, i_eq, fIx_n, nI_mI, mI_nI, mI_lt, nI_lt_m, mI_le, nI_le_m, xI_0, xI_s, bI_0, bI_1, bI_t, bI_f, n_31, j_bit, j_one, i_and, i_or, Nat.not_lt_zero, Nat.succ_ne_zero, Nat.add_one_ne_zero, Nat.add_one_sub_one, Nat.zero_le, Nat.or_zero, Nat.zero_or, Bool.not_true, Bool.not_false, Bool.true_and, Bool.false_and, Bool.and_true, Bool.and_false, ↓reduceIte, if_true, if_false, not_true_eq_false, not_false_eq_true, true_and, and_true, false_and, and_false, and_self, true_or, or_true, false_or, or_false, Nat.reduceEqDiff, Nat.reduceLT, Nat.reduceLeDiff, Nat.reduceAdd, Nat.reduceMul, Nat.reduceSub, Nat.add_zero, Nat.zero_add, Nat.mul_zero, Nat.zero_mul, ne_eq, Bool.not_eq_true, Bool.not_eq_false, reduceCtorEq, decide_true, decide_false, decide_eq_true_eq, decide_eq_false_iff_not, Bool.false_eq_true, if_pos, if_neg, s2, hx2, hx3, hm5, k0, k1, c4, hwi]
  | false =>
    have hwi := m_with (x := x) (nI 0) hs (sI sm 12 0 58 (nI (sg + 1)))
    have k0 : gA sm 12 0 5 (219 + 7 * j) = nI 2 := k0
    simp (disch := omega) only [↓fLt_e, fBd_s, ↓fJn_s, fNn_s, fNu_0, fNu_s, fBo_0, fBo_1, fBo_b, i_lit, i_neg1, nI_add, pk_mul, nI_clamp, i_le, i_lt, i_eq, fIx_n, nI_mI, mI_nI, mI_lt, nI_lt_m, mI_le, nI_le_m, xI_0, xI_s, bI_0, bI_1, bI_t, bI_f, n_31, j_bit, j_one, i_and, i_or, Nat.not_lt_zero, Nat.succ_ne_zero, Nat.add_one_ne_zero, Nat.add_one_sub_one, Nat.zero_le, Nat.or_zero, Nat.zero_or, Bool.not_true, Bool.not_false, Bool.true_and, Bool.false_and, Bool.and_true, Bool.and_false, ↓reduceIte, if_true, if_false, not_true_eq_false, not_false_eq_true, true_and, and_true, false_and, and_false, and_self, true_or, or_true, false_or, or_false, Nat.reduceEqDiff, Nat.reduceLT, Nat.reduceLeDiff, Nat.reduceAdd, Nat.reduceMul, Nat.reduceSub, Nat.add_zero, Nat.zero_add, Nat.mul_zero, Nat.zero_mul, ne_eq, Bool.not_eq_true, Bool.not_eq_false, reduceCtorEq, decide_true, decide_false, decide_eq_true_eq, decide_eq_false_iff_not, Bool.false_eq_true, if_pos, if_neg, s2, hx2, hx3, hm5, k0, k1, c4, hwi]
theorem ms_dead {j s x : Nat} {b : Bool} (hj : j < 30) (hs : s < 31) (hsg : sg < 200) (k0 : gA sm 12 0 5 (219 + 7 * j) = nI (if b then 3 else 4)) (k1 : gA sm 12 0 5 (220 + 7 * j) = nI s) (c4 : gA sm 12 0 5 5 = nI x) (s2 : gI sm 12 0 58 = nI sg) (rec : Int32 → Int32 → fSt → Option (Unit × fSt)) : f_X12_doOne rec (nI j) sm = some ((), sA (sI sm 12 0 58 (nI (sg + 1))) 12 0 5 (upd (gA sm 12 0 5) 5 (nI (gbit (decide (¬ bI b = 0)) x s)))) := by
  have hx2 : nI 219 + nI 7 * nI j = nI (219 + 7 * j) := by rw [pk_mul, nI_add]
  have hx3 : nI (219 + 7 * j) + nI 1 = nI (220 + 7 * j) := by rw [nI_add]; congr 1; omega
  have hm5 : gA (sI sm 12 0 58 (nI (sg + 1))) 12 0 5 = gA sm 12 0 5 := rfl
  unfold f_X12_doOne
  cases b with
  | true =>
    have hwi := m_with (x := x) (nI 1) hs (sI sm 12 0 58 (nI (sg + 1)))
    have k0 : gA sm 12 0 5 (219 + 7 * j) = nI 3 := k0
    simp (disch := omega) only [↓fLt_e, fBd_s, ↓fJn_s, fNn_s, fNu_0, fNu_s, fBo_0, fBo_1, fBo_b, i_lit, i_neg1, nI_add, pk_mul, nI_clamp, i_le, i_lt, i_eq, fIx_n, nI_mI, mI_nI, mI_lt, nI_lt_m, mI_le, nI_le_m, xI_0, xI_s, bI_0, bI_1, bI_t, bI_f, n_31, j_bit, j_one, i_and, i_or, Nat.not_lt_zero, Nat.succ_ne_zero, Nat.add_one_ne_zero, Nat.add_one_sub_one, Nat.zero_le, Nat.or_zero, Nat.zero_or, Bool.not_true, Bool.not_false, Bool.true_and, Bool.false_and, Bool.and_true, Bool.and_false, ↓reduceIte, if_true, if_false, not_true_eq_false, not_false_eq_true, true_and, and_true, false_and, and_false, and_self, true_or, or_true, false_or, or_false, Nat.reduceEqDiff, Nat.reduceLT, Nat.reduceLeDiff, Nat.reduceAdd, Nat.reduceMul, Nat.reduceSub, Nat.add_zero, Nat.zero_add, Nat.mul_zero, Nat.zero_mul, ne_eq, Bool.not_eq_true, Bool.not_eq_false, reduceCtorEq, decide_true, decide_false, decide_eq_true_eq, decide_eq_false_iff_not, Bool.false_eq_true, if_pos, if_neg, s2, hx2, hx3, hm5, k0, k1, c4, hwi]
  | false =>
    have hwi := m_with (x := x) (nI 0) hs (sI sm 12 0 58 (nI (sg + 1)))
    have k0 : gA sm 12 0 5 (219 + 7 * j) = nI 4 := k0
    simp (disch := omega) only [↓fLt_e, fBd_s, ↓fJn_s, fNn_s, fNu_0, fNu_s, fBo_0, fBo_1, fBo_b, i_lit, i_neg1, nI_add, pk_mul, nI_clamp, i_le, i_lt, i_eq, fIx_n, nI_mI, mI_nI, mI_lt, nI_lt_m, mI_le, nI_le_m, xI_0, xI_s, bI_0, bI_1, bI_t, bI_f, n_31, j_bit, j_one, i_and, i_or, Nat.not_lt_zero, Nat.succ_ne_zero, Nat.add_one_ne_zero, Nat.add_one_sub_one, Nat.zero_le, Nat.or_zero, Nat.zero_or, Bool.not_true, Bool.not_false, Bool.true_and, Bool.false_and, Bool.and_true, Bool.and_false, ↓reduceIte, if_true, if_false, not_true_eq_false, not_false_eq_true, true_and, and_true, false_and, and_false, and_self, true_or, or_true, false_or, or_false, Nat.reduceEqDiff, Nat.reduceLT, Nat.reduceLeDiff, Nat.reduceAdd, Nat.reduceMul, Nat.reduceSub, Nat.add_zero, Nat.zero_add, Nat.mul_zero, Nat.zero_mul, ne_eq, Bool.not_eq_true, Bool.not_eq_false, reduceCtorEq, decide_true, decide_false, decide_eq_true_eq, decide_eq_false_iff_not, Bool.false_eq_true, if_pos, if_neg, s2, hx2, hx3, hm5, k0, k1, c4, hwi]
/-- a step that is no block and no stop -/
theorem stp_simple (W : wkR i no G0 q sc sm sg) {w j at' : Nat} (hS : rStp sc w G0 j at') (hj : j < G0 218) (hat : at' < 60) (hsg : sg < 200) (h5 : ¬ G0 (219 + 7 * j) = 5) (h6 : ¬ G0 (219 + 7 * j) = 6) (h7 : ¬ G0 (219 + 7 * j) = 7) :
    ∃ sc' sm', f_X10_doStep i 0 w (nI at') sc = some (nI (at' + 1), sc') ∧ (∀ rec, f_X12_doOne rec (nI j) sm = some ((), sm')) ∧ wkR i no G0 q sc' sm' (sg + 1) ∧ cFr i no sc sc' ∧ mFr sm sm' ∧ gA sc' 10 i 1 = gA sc 10 i 1 ∧ gI sm' 12 0 57 = gI sm 12 0 57 := by
  have W1 := wk_inc W
  have W0 := W
  obtain ⟨Gc, Gm, r, se, en, l, ⟨wc, wm, X, B, hag, hno, hG0⟩, ⟨r1, r2, r3⟩, n2, ⟨s1, s2⟩, ⟨e1, e2, e3⟩, ⟨g1, g2, g3⟩, ⟨l1, l2, l3⟩, p1, p2, p3⟩ := W0
  have w1 := wm.1
  have w2 := wm.2.1
  have w2c := wc.2.1
  have g00 := hG0 0 (by omega)
  have g02 := hG0 2 (by omega)
  have g03 := hG0 3 (by omega)
  have hj30 : G0 218 ≤ 30 := by
    have := B.2.2.2.2.2.1.2.2.2.2
    rw [hG0 218 (by omega)] at this
    exact this
  have hcell := B.2.2.2.2.2.2 j (by rw [hG0 218 (by omega)]; exact hj)
  rw [hG0 (219 + 7 * j) (by omega), hG0 (220 + 7 * j) (by omega)] at hcell
  obtain ⟨k0, k1, -⟩ := hcell
  have hx2 : nI 219 + nI 7 * nI j = nI (219 + 7 * j) := by rw [pk_mul, nI_add]
  have hx3 : nI (219 + 7 * j) + nI 1 = nI (220 + 7 * j) := by rw [nI_add]; congr 1; omega
  have hfc : cFr i no sc (sI sc 10 i 6 (nI (sg + 1))) := cFr_I (Or.inl ⟨rfl, rfl⟩) (cFr_rf i no sc)
  have hfm : mFr sm (sI sm 12 0 58 (nI (sg + 1))) := mFr_I (by omega) (mFr_rf sm)
  have hr9 : ∀ k, gA (sI sc 10 i 6 (nI (sg + 1))) 9 w k = gA sc 9 w k := fun k => rfl
  have hm5 : gA (sI sm 12 0 58 (nI (sg + 1))) 12 0 5 = gA sm 12 0 5 := rfl
  have c4 : gA sm 12 0 5 4 = nI (Gm 4) := B.1.2.2.2.2.1
  have c5 : gA sm 12 0 5 5 = nI (Gm 5) := B.1.2.2.2.2.2.1
  have x4 : gI (sI sc 10 i 6 (nI (sg + 1))) 2 0 2 = nI (Gm 4) := by rw [← hag 4 (by omega)]; exact X.2.2.1.1
  have x5 : gI (sI sc 10 i 6 (nI (sg + 1))) 2 0 3 = nI (Gm 5) := by rw [← hag 5 (by omega)]; exact X.2.2.1.2
  unfold rStp at hS
  dsimp only at hS
  rcases hS with ⟨ha, hk⟩ | ⟨hk, -⟩
  · rcases hk with ⟨hk, hw, hb⟩ | ⟨hk, hw, hb⟩ | ⟨hk, hw, hb⟩ | ⟨hk, hw, hb⟩ | ⟨hk, hw, hb⟩ | ⟨hk, hw, hb⟩ | ⟨hk, hw⟩
    · rw [hk] at k0
      obtain ⟨sc', sm', c1, c2, c3, c6, c7, c8, c9⟩ := play_step W1 hb
      exact ⟨sc', sm', xs_play hat hw ha s1 c1, fun rec => ms_play (by omega) hsg k0 k1 s2 c2 rec, c3, cFr_tr hfc c6, mFr_tr hfm c7, c8, by rw [c9, gI_sI, if_neg (by omega)]⟩
    · rw [hk] at k0
      obtain ⟨s, hs⟩ : ∃ s, G0 (220 + 7 * j) = s + 1 := ⟨G0 (220 + 7 * j) - 1, by omega⟩
      rw [hs] at ha k1 hb
      have hgl := gbit_lt (b := decide (¬ bI true = 0)) (show Gm 4 < 2 ^ 12 from w2.1) (show s < 12 by omega)
      exact ⟨_, _, xs_bar (b := true) hat (by omega) hw ha s1 x4, fun rec => ms_bar (b := true) (by omega) (by omega) hsg k0 k1 c4 s2 rec, wk_set (c := 4) (Or.inl rfl) ⟨fun _ => hgl, fun h => absurd h (by decide)⟩ W1, cFr_I (Or.inr (Or.inr (Or.inl ⟨rfl, rfl, Or.inl rfl⟩))) hfc, mFr_A (fun p hp => by rw [upd_at, if_neg (by omega), hm5]) hfm, rfl, rfl⟩
    · rw [hk] at k0
      obtain ⟨s, hs⟩ : ∃ s, G0 (220 + 7 * j) = s + 1 := ⟨G0 (220 + 7 * j) - 1, by omega⟩
      rw [hs] at ha k1 hb
      have hgl := gbit_lt (b := decide (¬ bI false = 0)) (show Gm 4 < 2 ^ 12 from w2.1) (show s < 12 by omega)
      exact ⟨_, _, xs_bar (b := false) hat (by omega) hw ha s1 x4, fun rec => ms_bar (b := false) (by omega) (by omega) hsg k0 k1 c4 s2 rec, wk_set (c := 4) (Or.inl rfl) ⟨fun _ => hgl, fun h => absurd h (by decide)⟩ W1, cFr_I (Or.inr (Or.inr (Or.inl ⟨rfl, rfl, Or.inl rfl⟩))) hfc, mFr_A (fun p hp => by rw [upd_at, if_neg (by omega), hm5]) hfm, rfl, rfl⟩
    · rw [hk] at k0
      obtain ⟨s, hs⟩ : ∃ s, G0 (220 + 7 * j) = s + 1 := ⟨G0 (220 + 7 * j) - 1, by omega⟩
      rw [hs] at ha k1 hb
      have hgl := gbit_lt (b := decide (¬ bI true = 0)) (show Gm 5 < 2 ^ 6 from w2.2.1) (show s < 6 by omega)
      exact ⟨_, _, xs_dead (b := true) hat (by omega) hw ha s1 x5, fun rec => ms_dead (b := true) (by omega) (by omega) hsg k0 k1 c5 s2 rec, wk_set (c := 5) (Or.inr rfl) ⟨fun h => absurd h (by decide), fun _ => hgl⟩ W1, cFr_I (Or.inr (Or.inr (Or.inl ⟨rfl, rfl, Or.inr rfl⟩))) hfc, mFr_A (fun p hp => by rw [upd_at, if_neg (by omega), hm5]) hfm, rfl, rfl⟩
    · rw [hk] at k0
      obtain ⟨s, hs⟩ : ∃ s, G0 (220 + 7 * j) = s + 1 := ⟨G0 (220 + 7 * j) - 1, by omega⟩
      rw [hs] at ha k1 hb
      have hgl := gbit_lt (b := decide (¬ bI false = 0)) (show Gm 5 < 2 ^ 6 from w2.2.1) (show s < 6 by omega)
      exact ⟨_, _, xs_dead (b := false) hat (by omega) hw ha s1 x5, fun rec => ms_dead (b := false) (by omega) (by omega) hsg k0 k1 c5 s2 rec, wk_set (c := 5) (Or.inr rfl) ⟨fun h => absurd h (by decide), fun _ => hgl⟩ W1, cFr_I (Or.inr (Or.inr (Or.inl ⟨rfl, rfl, Or.inr rfl⟩))) hfc, mFr_A (fun p hp => by rw [upd_at, if_neg (by omega), hm5]) hfm, rfl, rfl⟩
    · exact absurd hk h6
    · exact absurd hk h7
  · exact absurd hk h5
theorem stp_stop (W : wkR i no G0 q sc sm sg) {w j at' : Nat} (hS : rStp sc w G0 j at') (hj : j < G0 218) (hat : at' < 60) (hsg : sg < 200) (h7 : G0 (219 + 7 * j) = 7) :
    f_X10_doStep i 0 w (nI at') sc = some (gI sc 9 w 0, sI sc 10 i 6 (nI (sg + 1))) ∧ ∀ rec, f_X12_doOne rec (nI j) sm = some ((), sI (sI sm 12 0 58 (nI (sg + 1))) 12 0 57 (nI 1)) := by
  obtain ⟨Gc, Gm, r, se, en, l, ⟨wc, wm, X, B, hag, hno, hG0⟩, ⟨r1, r2, r3⟩, n2, ⟨s1, s2⟩, ⟨e1, e2, e3⟩, ⟨g1, g2, g3⟩, ⟨l1, l2, l3⟩, p1, p2, p3⟩ := W
  have hj30 : G0 218 ≤ 30 := by
    have := B.2.2.2.2.2.1.2.2.2.2
    rw [hG0 218 (by omega)] at this
    exact this
  have hcell := B.2.2.2.2.2.2 j (by rw [hG0 218 (by omega)]; exact hj)
  rw [hG0 (219 + 7 * j) (by omega), hG0 (220 + 7 * j) (by omega)] at hcell
  obtain ⟨k0, k1, -⟩ := hcell
  rw [h7] at k0
  have hx2 : nI 219 + nI 7 * nI j = nI (219 + 7 * j) := by rw [pk_mul, nI_add]
  have hr9 : ∀ k, gA (sI sc 10 i 6 (nI (sg + 1))) 9 w k = gA sc 9 w k := fun k => rfl
  have hi9 : gI (sI sc 10 i 6 (nI (sg + 1))) 9 w 0 = gI sc 9 w 0 := by rw [gI_sI, if_neg (by omega)]
  have hm5 : gA (sI sm 12 0 58 (nI (sg + 1))) 12 0 5 = gA sm 12 0 5 := rfl
  have hw : gA sc 9 w 1 at' = nI 31 := by
    unfold rStp at hS
    dsimp only at hS
    rcases hS with ⟨ha, hk⟩ | ⟨hk, -⟩
    · rcases hk with ⟨hk, -⟩ | ⟨hk, -⟩ | ⟨hk, -⟩ | ⟨hk, -⟩ | ⟨hk, -⟩ | ⟨hk, -⟩ | ⟨hk, hw⟩
      all_goals first | exact hw | omega
    · omega
  refine ⟨?_, fun rec => ?_⟩
  · unfold f_X10_doStep
    simp (disch := omega) only [↓fLt_e, fBd_s, ↓fJn_s, fNn_s, fNu_0, fNu_s, fBo_0, fBo_1, fBo_b, i_lit, i_neg1, nI_add, pk_mul, nI_clamp, i_le, i_lt, i_eq, fIx_n, nI_mI, mI_nI, mI_lt, nI_lt_m, mI_le, nI_le_m, xI_0, xI_s, bI_0, bI_1, bI_t, bI_f, n_31, j_bit, j_one, i_and, i_or, Nat.not_lt_zero, Nat.succ_ne_zero, Nat.add_one_ne_zero, Nat.add_one_sub_one, Nat.zero_le, Nat.or_zero, Nat.zero_or, Bool.not_true, Bool.not_false, Bool.true_and, Bool.false_and, Bool.and_true, Bool.and_false, ↓reduceIte, if_true, if_false, not_true_eq_false, not_false_eq_true, true_and, and_true, false_and, and_false, and_self, true_or, or_true, false_or, or_false, Nat.reduceEqDiff, Nat.reduceLT, Nat.reduceLeDiff, Nat.reduceAdd, Nat.reduceMul, Nat.reduceSub, Nat.add_zero, Nat.zero_add, Nat.mul_zero, Nat.zero_mul, ne_eq, Bool.not_eq_true, Bool.not_eq_false, reduceCtorEq, decide_true, decide_false, decide_eq_true_eq, decide_eq_false_iff_not, Bool.false_eq_true, if_pos, if_neg, hr9, hw, s1, hi9]
  · unfold f_X12_doOne
    simp (disch := omega) only [↓fLt_e, fBd_s, ↓fJn_s, fNn_s, fNu_0, fNu_s, fBo_0, fBo_1, fBo_b, i_lit, i_neg1, nI_add, pk_mul, nI_clamp, i_le, i_lt, i_eq, fIx_n, nI_mI, mI_nI, mI_lt, nI_lt_m, mI_le, nI_le_m, xI_0, xI_s, bI_0, bI_1, bI_t, bI_f, n_31, j_bit, j_one, i_and, i_or, Nat.not_lt_zero, Nat.succ_ne_zero, Nat.add_one_ne_zero, Nat.add_one_sub_one, Nat.zero_le, Nat.or_zero, Nat.zero_or, Bool.not_true, Bool.not_false, Bool.true_and, Bool.false_and, Bool.and_true, Bool.and_false, ↓reduceIte, if_true, if_false, not_true_eq_false, not_false_eq_true, true_and, and_true, false_and, and_false, and_self, true_or, or_true, false_or, or_false, Nat.reduceEqDiff, Nat.reduceLT, Nat.reduceLeDiff, Nat.reduceAdd, Nat.reduceMul, Nat.reduceSub, Nat.add_zero, Nat.zero_add, Nat.mul_zero, Nat.zero_mul, ne_eq, Bool.not_eq_true, Bool.not_eq_false, reduceCtorEq, decide_true, decide_false, decide_eq_true_eq, decide_eq_false_iff_not, Bool.false_eq_true, if_pos, if_neg, s2, hx2, hm5, k0]
theorem stp_loop (W : wkR i no G0 q sc sm sg) {w j at' : Nat} (hS : rStp sc w G0 j at') (hj : j < G0 218) (hat : at' < 60) (hsg : sg < 200) (h6 : G0 (219 + 7 * j) = 6) :
    ∃ c, 1 ≤ c ∧ c ≤ 99 ∧ gA sc 9 w 1 at' = nI 29 ∧ gA sm 12 0 5 (220 + 7 * j) = nI c ∧ gA sm 12 0 5 (225 + 7 * j) = nI (G0 (225 + 7 * j)) ∧ f_X10_doStep i 0 w (nI at') sc = some (nI (at' + 1), sA (sI sc 10 i 6 (nI (sg + 1))) 10 i 1 (upd (gA sc 10 i 1) at' (nI c))) ∧ ∀ rec, f_X12_doOne rec (nI j) sm = f_X12_doOne_L194 rec (nI j) (nI (219 + 7 * j)) (fun s26 => some ((), s26)) fF (nI 0) (sI sm 12 0 58 (nI (sg + 1))) := by
  obtain ⟨Gc, Gm, r, se, en, l, ⟨wc, wm, X, B, hag, hno, hG0⟩, ⟨r1, r2, r3⟩, n2, ⟨s1, s2⟩, ⟨e1, e2, e3⟩, ⟨g1, g2, g3⟩, ⟨l1, l2, l3⟩, p1, p2, p3⟩ := W
  have hj30 : G0 218 ≤ 30 := by
    have := B.2.2.2.2.2.1.2.2.2.2
    rw [hG0 218 (by omega)] at this
    exact this
  have hcell := B.2.2.2.2.2.2 j (by rw [hG0 218 (by omega)]; exact hj)
  rw [hG0 (219 + 7 * j) (by omega), hG0 (220 + 7 * j) (by omega), hG0 (225 + 7 * j) (by omega)] at hcell
  obtain ⟨k0, k1, k5, -⟩ := hcell
  rw [h6] at k0
  have hx2 : nI 219 + nI 7 * nI j = nI (219 + 7 * j) := by rw [pk_mul, nI_add]
  have hr9 : ∀ k, gA (sI sc 10 i 6 (nI (sg + 1))) 9 w k = gA sc 9 w k := fun k => rfl
  have hr1 : gA (sI sc 10 i 6 (nI (sg + 1))) 10 i 1 = gA sc 10 i 1 := rfl
  have hm5 : gA (sI sm 12 0 58 (nI (sg + 1))) 12 0 5 = gA sm 12 0 5 := rfl
  have hw : gA sc 9 w 1 at' = nI 29 ∧ gA sc 9 w 2 at' = xI (G0 (220 + 7 * j)) ∧ 1 < G0 (220 + 7 * j) ∧ G0 (220 + 7 * j) ≤ 100 := by
    unfold rStp at hS
    dsimp only at hS
    rcases hS with ⟨ha, hk⟩ | ⟨hk, -⟩
    · rcases hk with ⟨hk, -⟩ | ⟨hk, -⟩ | ⟨hk, -⟩ | ⟨hk, -⟩ | ⟨hk, -⟩ | ⟨hk, h1, h2, h3⟩ | ⟨hk, -⟩
      all_goals first | exact ⟨h1, ha, h2, h3⟩ | omega
    · omega
  obtain ⟨hw, ha, hb1, hb2⟩ := hw
  obtain ⟨c, hc⟩ : ∃ c, G0 (220 + 7 * j) = c + 1 := ⟨G0 (220 + 7 * j) - 1, by omega⟩
  rw [hc] at ha k1
  refine ⟨c, by omega, by omega, hw, k1, k5, ?_, fun rec => ?_⟩
  · unfold f_X10_doStep
    simp (disch := omega) only [↓fLt_e, fBd_s, ↓fJn_s, fNn_s, fNu_0, fNu_s, fBo_0, fBo_1, fBo_b, i_lit, i_neg1, nI_add, pk_mul, nI_clamp, i_le, i_lt, i_eq, fIx_n, nI_mI, mI_nI, mI_lt, nI_lt_m, mI_le, nI_le_m, xI_0, xI_s, bI_0, bI_1, bI_t, bI_f, n_31, j_bit, j_one, i_and, i_or, Nat.not_lt_zero, Nat.succ_ne_zero, Nat.add_one_ne_zero, Nat.add_one_sub_one, Nat.zero_le, Nat.or_zero, Nat.zero_or, Bool.not_true, Bool.not_false, Bool.true_and, Bool.false_and, Bool.and_true, Bool.and_false, ↓reduceIte, if_true, if_false, not_true_eq_false, not_false_eq_true, true_and, and_true, false_and, and_false, and_self, true_or, or_true, false_or, or_false, Nat.reduceEqDiff, Nat.reduceLT, Nat.reduceLeDiff, Nat.reduceAdd, Nat.reduceMul, Nat.reduceSub, Nat.add_zero, Nat.zero_add, Nat.mul_zero, Nat.zero_mul, ne_eq, Bool.not_eq_true, Bool.not_eq_false, reduceCtorEq, decide_true, decide_false, decide_eq_true_eq, decide_eq_false_iff_not, Bool.false_eq_true, if_pos, if_neg, hr9, hr1, hw, ha, s1]
  · unfold f_X12_doOne
    simp (disch := omega) only [↓fLt_e, fBd_s, ↓fJn_s, fNn_s, fNu_0, fNu_s, fBo_0, fBo_1, fBo_b, i_lit, i_neg1, nI_add, pk_mul, nI_clamp, i_le, i_lt, i_eq, fIx_n, nI_mI, mI_nI, mI_lt, nI_lt_m, mI_le, nI_le_m, xI_0, xI_s, bI_0, bI_1, bI_t, bI_f, n_31, j_bit, j_one, i_and, i_or, Nat.not_lt_zero, Nat.succ_ne_zero, Nat.add_one_ne_zero, Nat.add_one_sub_one, Nat.zero_le, Nat.or_zero, Nat.zero_or, Bool.not_true, Bool.not_false, Bool.true_and, Bool.false_and, Bool.and_true, Bool.and_false, ↓reduceIte, if_true, if_false, not_true_eq_false, not_false_eq_true, true_and, and_true, false_and, and_false, and_self, true_or, or_true, false_or, or_false, Nat.reduceEqDiff, Nat.reduceLT, Nat.reduceLeDiff, Nat.reduceAdd, Nat.reduceMul, Nat.reduceSub, Nat.add_zero, Nat.zero_add, Nat.mul_zero, Nat.zero_mul, ne_eq, Bool.not_eq_true, Bool.not_eq_false, reduceCtorEq, decide_true, decide_false, decide_eq_true_eq, decide_eq_false_iff_not, Bool.false_eq_true, if_pos, if_neg, s2, hx2, hm5, k0]
theorem stp_when (W : wkR i no G0 q sc sm sg) {w j at' : Nat} (hS : rStp sc w G0 j at') (hj : j < G0 218) (hat : at' < 60) (hsg : sg < 200) (h5 : G0 (219 + 7 * j) = 5) :
    ∃ b : Bool, ¬ gA sc 9 w 1 at' = nI 29 ∧ ¬ gA sc 9 w 1 at' = nI 30 ∧ f_X10_doStep i 0 w (nI at') sc = some (if b then nI (at' + 1) else gA sc 9 w 4 at' + nI 1, sI sc 10 i 6 (nI (sg + 1))) ∧ ∀ rec, f_X12_doOne rec (nI j) sm = if b then (fBd (rec (nI (j + 1)) (nI (G0 (225 + 7 * j))) (sI sm 12 0 58 (nI (sg + 1)))) fun _ s35 => some ((), s35)) else some ((), sI sm 12 0 58 (nI (sg + 1))) := by
  obtain ⟨Gc, Gm, r, se, en, l, ⟨wc, wm, X, B, hag, hno, hG0⟩, ⟨r1, r2, r3⟩, n2, ⟨s1, s2⟩, ⟨e1, e2, e3⟩, ⟨g1, g2, g3⟩, ⟨l1, l2, l3⟩, p1, p2, p3⟩ := W
  have w1 := wm.1
  have w2 := wm.2.1
  have g00 := hG0 0 (by omega)
  have g02 := hG0 2 (by omega)
  have hj30 : G0 218 ≤ 30 := by
    have := B.2.2.2.2.2.1.2.2.2.2
    rw [hG0 218 (by omega)] at this
    exact this
  have hcell := B.2.2.2.2.2.2 j (by rw [hG0 218 (by omega)]; exact hj)
  rw [hG0 (219 + 7 * j) (by omega), hG0 (220 + 7 * j) (by omega), hG0 (225 + 7 * j) (by omega), hG0 (221 + 7 * j) (by omega), hG0 (222 + 7 * j) (by omega), hG0 (223 + 7 * j) (by omega)] at hcell
  obtain ⟨k0, k1, k5, kk⟩ := hcell
  obtain ⟨k6, kk2⟩ := kk h5
  rw [h5] at k0
  have hx2 : nI 219 + nI 7 * nI j = nI (219 + 7 * j) := by rw [pk_mul, nI_add]
  have hx3 : nI (219 + 7 * j) + nI 1 = nI (220 + 7 * j) := by rw [nI_add]; congr 1; omega
  have hx4 : nI (219 + 7 * j) + nI 2 = nI (221 + 7 * j) := by rw [nI_add]; congr 1; omega
  have hx5 : nI (219 + 7 * j) + nI 3 = nI (222 + 7 * j) := by rw [nI_add]; congr 1; omega
  have hx6 : nI (219 + 7 * j) + nI 4 = nI (223 + 7 * j) := by rw [nI_add]; congr 1; omega
  have hx7 : nI (219 + 7 * j) + nI 6 = nI (225 + 7 * j) := by rw [nI_add]; congr 1; omega
  have hr9 : ∀ k, gA (sI sc 10 i 6 (nI (sg + 1))) 9 w k = gA sc 9 w k := fun k => rfl
  have hm5 : gA (sI sm 12 0 58 (nI (sg + 1))) 12 0 5 = gA sm 12 0 5 := rfl
  -- what the test says on both sides
  have hso : ∃ b : Bool, (∃ v, gA sc 9 w 1 at' = nI v ∧ (v = 25 ∨ v = 26 ∨ v = 27 ∨ v = 28)) ∧ f_X10_holds i 0 w (nI at') (sI sc 10 i 6 (nI (sg + 1))) = some (bI b, sI sc 10 i 6 (nI (sg + 1))) ∧ f_X12_isSo (nI (219 + 7 * j)) (sI sm 12 0 58 (nI (sg + 1))) = some (bI b, sI sm 12 0 58 (nI (sg + 1))) := by
    have q7 : gI (sI sc 10 i 6 (nI (sg + 1))) 10 i 7 = nI se := by rw [gI_sI, if_neg (by omega)]; exact e1
    have q10 : gI (sI sc 10 i 6 (nI (sg + 1))) 10 i 10 = xI l := by rw [gI_sI, if_neg (by omega)]; exact l1
    have q4 : gI (sI sc 10 i 6 (nI (sg + 1))) 10 i 4 = gI sm 12 0 59 := by rw [gI_sI, if_neg (by omega)]; exact p1
    have q60 : gI (sI sm 12 0 58 (nI (sg + 1))) 12 0 60 = nI se := e2
    have q64 : gI (sI sm 12 0 58 (nI (sg + 1))) 12 0 64 = xI l := l2
    have q59 : gI (sI sm 12 0 58 (nI (sg + 1))) 12 0 59 = gI sm 12 0 59 := rfl
    have x5 : gI (sI sc 10 i 6 (nI (sg + 1))) 2 0 3 = nI (Gm 5) := by rw [← hag 5 (by omega)]; exact X.2.2.1.2
    have c5 : gA sm 12 0 5 5 = nI (Gm 5) := B.1.2.2.2.2.2.1
    unfold rStp at hS
    dsimp only at hS
    rcases hS with ⟨ha, hk⟩ | ⟨-, hk⟩
    · rcases hk with ⟨hk, -⟩ | ⟨hk, -⟩ | ⟨hk, -⟩ | ⟨hk, -⟩ | ⟨hk, -⟩ | ⟨hk, -⟩ | ⟨hk, -⟩ <;> omega
    · rcases hk with ⟨ht, ha, hw, hb1, hb2⟩ | ⟨ht, ha, hw, hb1, hb2⟩ | ⟨ht, ha, hw, hb1, hb2⟩ | ⟨ht, hw, ha, hcp, hb1, hb2⟩
      · rw [ht] at k6
        obtain ⟨s, hs⟩ : ∃ s, G0 (220 + 7 * j) = s + 1 := ⟨G0 (220 + 7 * j) - 1, by omega⟩
        rw [hs] at ha k1 hb2
        refine ⟨se.testBit s, ⟨25, hw, by omega⟩, ?_, ?_⟩
        · unfold f_X10_holds
          cases hbit : se.testBit s <;> simp (disch := omega) only [↓fLt_e, fBd_s, ↓fJn_s, fNn_s, fNu_0, fNu_s, fBo_0, fBo_1, fBo_b, i_lit, i_neg1, nI_add, pk_mul, nI_clamp, i_le, i_lt, i_eq, fIx_n, nI_mI, mI_nI, mI_lt, nI_lt_m, mI_le, nI_le_m, xI_0, xI_s, bI_0, bI_1, bI_t, bI_f, n_31, j_bit, j_one, i_and, i_or, Nat.not_lt_zero, Nat.succ_ne_zero, Nat.add_one_ne_zero, Nat.add_one_sub_one, Nat.zero_le, Nat.or_zero, Nat.zero_or, Bool.not_true, Bool.not_false, Bool.true_and, Bool.false_and, Bool.and_true, Bool.and_false, ↓reduceIte, if_true, if_false, not_true_eq_false, not_false_eq_true, true_and, and_true, false_and, and_false, and_self, true_or, or_true, false_or, or_false, Nat.reduceEqDiff, Nat.reduceLT, Nat.reduceLeDiff, Nat.reduceAdd, Nat.reduceMul, Nat.reduceSub, Nat.add_zero, Nat.zero_add, Nat.mul_zero, Nat.zero_mul, ne_eq, Bool.not_eq_true, Bool.not_eq_false, reduceCtorEq, decide_true, decide_false, decide_eq_true_eq, decide_eq_false_iff_not, Bool.false_eq_true, if_pos, if_neg, hr9, ha, hw, q7, hbit]
        · unfold f_X12_isSo
          simp (disch := omega) only [↓fLt_e, fBd_s, ↓fJn_s, fNn_s, fNu_0, fNu_s, fBo_0, fBo_1, fBo_b, i_lit, i_neg1, nI_add, pk_mul, nI_clamp, i_le, i_lt, i_eq, fIx_n, nI_mI, mI_nI, mI_lt, nI_lt_m, mI_le, nI_le_m, xI_0, xI_s, bI_0, bI_1, bI_t, bI_f, n_31, j_bit, j_one, i_and, i_or, Nat.not_lt_zero, Nat.succ_ne_zero, Nat.add_one_ne_zero, Nat.add_one_sub_one, Nat.zero_le, Nat.or_zero, Nat.zero_or, Bool.not_true, Bool.not_false, Bool.true_and, Bool.false_and, Bool.and_true, Bool.and_false, ↓reduceIte, if_true, if_false, not_true_eq_false, not_false_eq_true, true_and, and_true, false_and, and_false, and_self, true_or, or_true, false_or, or_false, Nat.reduceEqDiff, Nat.reduceLT, Nat.reduceLeDiff, Nat.reduceAdd, Nat.reduceMul, Nat.reduceSub, Nat.add_zero, Nat.zero_add, Nat.mul_zero, Nat.zero_mul, ne_eq, Bool.not_eq_true, Bool.not_eq_false, reduceCtorEq, decide_true, decide_false, decide_eq_true_eq, decide_eq_false_iff_not, Bool.false_eq_true, if_pos, if_neg, hx4, hx3, hm5, k6, k1, q60, m_has]
      · rw [ht] at k6
        obtain ⟨s, hs⟩ : ∃ s, G0 (220 + 7 * j) = s + 1 := ⟨G0 (220 + 7 * j) - 1, by omega⟩
        rw [hs] at ha k1 hb2
        refine ⟨(Gm 5).testBit s, ⟨26, hw, by omega⟩, ?_, ?_⟩
        · unfold f_X10_holds
          cases hbit : (Gm 5).testBit s <;> simp (disch := omega) only [↓fLt_e, fBd_s, ↓fJn_s, fNn_s, fNu_0, fNu_s, fBo_0, fBo_1, fBo_b, i_lit, i_neg1, nI_add, pk_mul, nI_clamp, i_le, i_lt, i_eq, fIx_n, nI_mI, mI_nI, mI_lt, nI_lt_m, mI_le, nI_le_m, xI_0, xI_s, bI_0, bI_1, bI_t, bI_f, n_31, j_bit, j_one, i_and, i_or, Nat.not_lt_zero, Nat.succ_ne_zero, Nat.add_one_ne_zero, Nat.add_one_sub_one, Nat.zero_le, Nat.or_zero, Nat.zero_or, Bool.not_true, Bool.not_false, Bool.true_and, Bool.false_and, Bool.and_true, Bool.and_false, ↓reduceIte, if_true, if_false, not_true_eq_false, not_false_eq_true, true_and, and_true, false_and, and_false, and_self, true_or, or_true, false_or, or_false, Nat.reduceEqDiff, Nat.reduceLT, Nat.reduceLeDiff, Nat.reduceAdd, Nat.reduceMul, Nat.reduceSub, Nat.add_zero, Nat.zero_add, Nat.mul_zero, Nat.zero_mul, ne_eq, Bool.not_eq_true, Bool.not_eq_false, reduceCtorEq, decide_true, decide_false, decide_eq_true_eq, decide_eq_false_iff_not, Bool.false_eq_true, if_pos, if_neg, hr9, ha, hw, x5, hbit]
        · unfold f_X12_isSo
          simp (disch := omega) only [↓fLt_e, fBd_s, ↓fJn_s, fNn_s, fNu_0, fNu_s, fBo_0, fBo_1, fBo_b, i_lit, i_neg1, nI_add, pk_mul, nI_clamp, i_le, i_lt, i_eq, fIx_n, nI_mI, mI_nI, mI_lt, nI_lt_m, mI_le, nI_le_m, xI_0, xI_s, bI_0, bI_1, bI_t, bI_f, n_31, j_bit, j_one, i_and, i_or, Nat.not_lt_zero, Nat.succ_ne_zero, Nat.add_one_ne_zero, Nat.add_one_sub_one, Nat.zero_le, Nat.or_zero, Nat.zero_or, Bool.not_true, Bool.not_false, Bool.true_and, Bool.false_and, Bool.and_true, Bool.and_false, ↓reduceIte, if_true, if_false, not_true_eq_false, not_false_eq_true, true_and, and_true, false_and, and_false, and_self, true_or, or_true, false_or, or_false, Nat.reduceEqDiff, Nat.reduceLT, Nat.reduceLeDiff, Nat.reduceAdd, Nat.reduceMul, Nat.reduceSub, Nat.add_zero, Nat.zero_add, Nat.mul_zero, Nat.zero_mul, ne_eq, Bool.not_eq_true, Bool.not_eq_false, reduceCtorEq, decide_true, decide_false, decide_eq_true_eq, decide_eq_false_iff_not, Bool.false_eq_true, if_pos, if_neg, hx4, hx3, hm5, k6, k1, c5, m_has]
      · rw [ht] at k6
        refine ⟨decide (xI l = xI (G0 (220 + 7 * j))), ⟨28, hw, by omega⟩, ?_, ?_⟩
        · unfold f_X10_holds
          by_cases hl : xI l = xI (G0 (220 + 7 * j))
          · simp (disch := omega) only [↓fLt_e, fBd_s, ↓fJn_s, fNn_s, fNu_0, fNu_s, fBo_0, fBo_1, fBo_b, i_lit, i_neg1, nI_add, pk_mul, nI_clamp, i_le, i_lt, i_eq, fIx_n, nI_mI, mI_nI, mI_lt, nI_lt_m, mI_le, nI_le_m, xI_0, xI_s, bI_0, bI_1, bI_t, bI_f, n_31, j_bit, j_one, i_and, i_or, Nat.not_lt_zero, Nat.succ_ne_zero, Nat.add_one_ne_zero, Nat.add_one_sub_one, Nat.zero_le, Nat.or_zero, Nat.zero_or, Bool.not_true, Bool.not_false, Bool.true_and, Bool.false_and, Bool.and_true, Bool.and_false, ↓reduceIte, if_true, if_false, not_true_eq_false, not_false_eq_true, true_and, and_true, false_and, and_false, and_self, true_or, or_true, false_or, or_false, Nat.reduceEqDiff, Nat.reduceLT, Nat.reduceLeDiff, Nat.reduceAdd, Nat.reduceMul, Nat.reduceSub, Nat.add_zero, Nat.zero_add, Nat.mul_zero, Nat.zero_mul, ne_eq, Bool.not_eq_true, Bool.not_eq_false, reduceCtorEq, decide_true, decide_false, decide_eq_true_eq, decide_eq_false_iff_not, Bool.false_eq_true, if_pos, if_neg, hr9, ha, hw, q10, hl]
          · simp (disch := omega) only [↓fLt_e, fBd_s, ↓fJn_s, fNn_s, fNu_0, fNu_s, fBo_0, fBo_1, fBo_b, i_lit, i_neg1, nI_add, pk_mul, nI_clamp, i_le, i_lt, i_eq, fIx_n, nI_mI, mI_nI, mI_lt, nI_lt_m, mI_le, nI_le_m, xI_0, xI_s, bI_0, bI_1, bI_t, bI_f, n_31, j_bit, j_one, i_and, i_or, Nat.not_lt_zero, Nat.succ_ne_zero, Nat.add_one_ne_zero, Nat.add_one_sub_one, Nat.zero_le, Nat.or_zero, Nat.zero_or, Bool.not_true, Bool.not_false, Bool.true_and, Bool.false_and, Bool.and_true, Bool.and_false, ↓reduceIte, if_true, if_false, not_true_eq_false, not_false_eq_true, true_and, and_true, false_and, and_false, and_self, true_or, or_true, false_or, or_false, Nat.reduceEqDiff, Nat.reduceLT, Nat.reduceLeDiff, Nat.reduceAdd, Nat.reduceMul, Nat.reduceSub, Nat.add_zero, Nat.zero_add, Nat.mul_zero, Nat.zero_mul, ne_eq, Bool.not_eq_true, Bool.not_eq_false, reduceCtorEq, decide_true, decide_false, decide_eq_true_eq, decide_eq_false_iff_not, Bool.false_eq_true, if_pos, if_neg, hr9, ha, hw, q10, hl]
        · unfold f_X12_isSo
          by_cases hl : xI l = xI (G0 (220 + 7 * j))
          · simp (disch := omega) only [↓fLt_e, fBd_s, ↓fJn_s, fNn_s, fNu_0, fNu_s, fBo_0, fBo_1, fBo_b, i_lit, i_neg1, nI_add, pk_mul, nI_clamp, i_le, i_lt, i_eq, fIx_n, nI_mI, mI_nI, mI_lt, nI_lt_m, mI_le, nI_le_m, xI_0, xI_s, bI_0, bI_1, bI_t, bI_f, n_31, j_bit, j_one, i_and, i_or, Nat.not_lt_zero, Nat.succ_ne_zero, Nat.add_one_ne_zero, Nat.add_one_sub_one, Nat.zero_le, Nat.or_zero, Nat.zero_or, Bool.not_true, Bool.not_false, Bool.true_and, Bool.false_and, Bool.and_true, Bool.and_false, ↓reduceIte, if_true, if_false, not_true_eq_false, not_false_eq_true, true_and, and_true, false_and, and_false, and_self, true_or, or_true, false_or, or_false, Nat.reduceEqDiff, Nat.reduceLT, Nat.reduceLeDiff, Nat.reduceAdd, Nat.reduceMul, Nat.reduceSub, Nat.add_zero, Nat.zero_add, Nat.mul_zero, Nat.zero_mul, ne_eq, Bool.not_eq_true, Bool.not_eq_false, reduceCtorEq, decide_true, decide_false, decide_eq_true_eq, decide_eq_false_iff_not, Bool.false_eq_true, if_pos, if_neg, hx4, hx3, hm5, k6, k1, q64, hl]
          · simp (disch := omega) only [↓fLt_e, fBd_s, ↓fJn_s, fNn_s, fNu_0, fNu_s, fBo_0, fBo_1, fBo_b, i_lit, i_neg1, nI_add, pk_mul, nI_clamp, i_le, i_lt, i_eq, fIx_n, nI_mI, mI_nI, mI_lt, nI_lt_m, mI_le, nI_le_m, xI_0, xI_s, bI_0, bI_1, bI_t, bI_f, n_31, j_bit, j_one, i_and, i_or, Nat.not_lt_zero, Nat.succ_ne_zero, Nat.add_one_ne_zero, Nat.add_one_sub_one, Nat.zero_le, Nat.or_zero, Nat.zero_or, Bool.not_true, Bool.not_false, Bool.true_and, Bool.false_and, Bool.and_true, Bool.and_false, ↓reduceIte, if_true, if_false, not_true_eq_false, not_false_eq_true, true_and, and_true, false_and, and_false, and_self, true_or, or_true, false_or, or_false, Nat.reduceEqDiff, Nat.reduceLT, Nat.reduceLeDiff, Nat.reduceAdd, Nat.reduceMul, Nat.reduceSub, Nat.add_zero, Nat.zero_add, Nat.mul_zero, Nat.zero_mul, ne_eq, Bool.not_eq_true, Bool.not_eq_false, reduceCtorEq, decide_true, decide_false, decide_eq_true_eq, decide_eq_false_iff_not, Bool.false_eq_true, if_pos, if_neg, hx4, hx3, hm5, k6, k1, q64, hl]
      · rw [ht] at k6
        obtain ⟨k7, k8⟩ := kk2 ht
        clear kk kk2
        generalize gI sm 12 0 59 = nn at *
        generalize G0 (222 + 7 * j) = cp at *
        generalize G0 (223 + 7 * j) = nu at *
        refine ⟨if cp = 60 then decide (nn < nI nu) else if cp = 62 then decide (nI nu < nn) else decide (nn = nI nu), ⟨27, hw, by omega⟩, ?_, ?_⟩
        · unfold f_X10_holds f_X10_compares
          by_cases h60 : cp = 60
          · subst h60
            by_cases hl : nn < nI nu
            · have hl2 : ¬ nI nu ≤ nn := by rw [Int32.le_iff_toInt_le]; rw [Int32.lt_iff_toInt_lt] at hl; omega
              simp (disch := omega) only [↓fLt_e, fBd_s, ↓fJn_s, fNn_s, fNu_0, fNu_s, fBo_0, fBo_1, fBo_b, Nat.not_lt_zero, Nat.succ_ne_zero, Nat.add_one_ne_zero, Nat.add_one_sub_one, Nat.zero_le, Nat.or_zero, Nat.zero_or, Bool.not_true, Bool.not_false, Bool.true_and, Bool.false_and, Bool.and_true, Bool.and_false, ↓reduceIte, if_true, if_false, not_true_eq_false, not_false_eq_true, true_and, and_true, false_and, and_false, and_self, true_or, or_true, false_or, or_false, Nat.reduceEqDiff, Nat.reduceLT, Nat.reduceLeDiff, Nat.reduceAdd, Nat.reduceMul, Nat.reduceSub, Nat.add_zero, Nat.zero_add, Nat.mul_zero, Nat.zero_mul, ne_eq, Bool.not_eq_true, Bool.not_eq_false, reduceCtorEq, decide_true, decide_false, decide_eq_true_eq, decide_eq_false_iff_not, Bool.false_eq_true, i_lit, nI_clamp, fIx_n, i_eq, hr9, ha, hw, hcp, q4, hl, hl2, bI_0, bI_t, bI_f]
            · have hl2 : nI nu ≤ nn := by rw [Int32.le_iff_toInt_le]; rw [Int32.lt_iff_toInt_lt] at hl; omega
              simp (disch := omega) only [↓fLt_e, fBd_s, ↓fJn_s, fNn_s, fNu_0, fNu_s, fBo_0, fBo_1, fBo_b, Nat.not_lt_zero, Nat.succ_ne_zero, Nat.add_one_ne_zero, Nat.add_one_sub_one, Nat.zero_le, Nat.or_zero, Nat.zero_or, Bool.not_true, Bool.not_false, Bool.true_and, Bool.false_and, Bool.and_true, Bool.and_false, ↓reduceIte, if_true, if_false, not_true_eq_false, not_false_eq_true, true_and, and_true, false_and, and_false, and_self, true_or, or_true, false_or, or_false, Nat.reduceEqDiff, Nat.reduceLT, Nat.reduceLeDiff, Nat.reduceAdd, Nat.reduceMul, Nat.reduceSub, Nat.add_zero, Nat.zero_add, Nat.mul_zero, Nat.zero_mul, ne_eq, Bool.not_eq_true, Bool.not_eq_false, reduceCtorEq, decide_true, decide_false, decide_eq_true_eq, decide_eq_false_iff_not, Bool.false_eq_true, i_lit, nI_clamp, fIx_n, i_eq, hr9, ha, hw, hcp, q4, hl, hl2, bI_0, bI_t, bI_f]
          · by_cases h62 : cp = 62
            · subst h62
              by_cases hl : nI nu < nn
              · have hl2 : ¬ nn ≤ nI nu := by rw [Int32.le_iff_toInt_le]; rw [Int32.lt_iff_toInt_lt] at hl; omega
                simp (disch := omega) only [↓fLt_e, fBd_s, ↓fJn_s, fNn_s, fNu_0, fNu_s, fBo_0, fBo_1, fBo_b, Nat.not_lt_zero, Nat.succ_ne_zero, Nat.add_one_ne_zero, Nat.add_one_sub_one, Nat.zero_le, Nat.or_zero, Nat.zero_or, Bool.not_true, Bool.not_false, Bool.true_and, Bool.false_and, Bool.and_true, Bool.and_false, ↓reduceIte, if_true, if_false, not_true_eq_false, not_false_eq_true, true_and, and_true, false_and, and_false, and_self, true_or, or_true, false_or, or_false, Nat.reduceEqDiff, Nat.reduceLT, Nat.reduceLeDiff, Nat.reduceAdd, Nat.reduceMul, Nat.reduceSub, Nat.add_zero, Nat.zero_add, Nat.mul_zero, Nat.zero_mul, ne_eq, Bool.not_eq_true, Bool.not_eq_false, reduceCtorEq, decide_true, decide_false, decide_eq_true_eq, decide_eq_false_iff_not, Bool.false_eq_true, i_lit, nI_clamp, fIx_n, i_eq, hr9, ha, hw, hcp, q4, hl, hl2, bI_0, bI_t, bI_f]
              · have hl2 : nn ≤ nI nu := by rw [Int32.le_iff_toInt_le]; rw [Int32.lt_iff_toInt_lt] at hl; omega
                simp (disch := omega) only [↓fLt_e, fBd_s, ↓fJn_s, fNn_s, fNu_0, fNu_s, fBo_0, fBo_1, fBo_b, Nat.not_lt_zero, Nat.succ_ne_zero, Nat.add_one_ne_zero, Nat.add_one_sub_one, Nat.zero_le, Nat.or_zero, Nat.zero_or, Bool.not_true, Bool.not_false, Bool.true_and, Bool.false_and, Bool.and_true, Bool.and_false, ↓reduceIte, if_true, if_false, not_true_eq_false, not_false_eq_true, true_and, and_true, false_and, and_false, and_self, true_or, or_true, false_or, or_false, Nat.reduceEqDiff, Nat.reduceLT, Nat.reduceLeDiff, Nat.reduceAdd, Nat.reduceMul, Nat.reduceSub, Nat.add_zero, Nat.zero_add, Nat.mul_zero, Nat.zero_mul, ne_eq, Bool.not_eq_true, Bool.not_eq_false, reduceCtorEq, decide_true, decide_false, decide_eq_true_eq, decide_eq_false_iff_not, Bool.false_eq_true, i_lit, nI_clamp, fIx_n, i_eq, hr9, ha, hw, hcp, q4, hl, hl2, bI_0, bI_t, bI_f]
            · by_cases hl : nn = nI nu
              · simp (disch := omega) only [↓fLt_e, fBd_s, ↓fJn_s, fNn_s, fNu_0, fNu_s, fBo_0, fBo_1, fBo_b, Nat.not_lt_zero, Nat.succ_ne_zero, Nat.add_one_ne_zero, Nat.add_one_sub_one, Nat.zero_le, Nat.or_zero, Nat.zero_or, Bool.not_true, Bool.not_false, Bool.true_and, Bool.false_and, Bool.and_true, Bool.and_false, ↓reduceIte, if_true, if_false, not_true_eq_false, not_false_eq_true, true_and, and_true, false_and, and_false, and_self, true_or, or_true, false_or, or_false, Nat.reduceEqDiff, Nat.reduceLT, Nat.reduceLeDiff, Nat.reduceAdd, Nat.reduceMul, Nat.reduceSub, Nat.add_zero, Nat.zero_add, Nat.mul_zero, Nat.zero_mul, ne_eq, Bool.not_eq_true, Bool.not_eq_false, reduceCtorEq, decide_true, decide_false, decide_eq_true_eq, decide_eq_false_iff_not, Bool.false_eq_true, i_lit, nI_clamp, fIx_n, i_eq, hr9, ha, hw, hcp, q4, h60, h62, hl, bI_0, bI_t, bI_f]
              · simp (disch := omega) only [↓fLt_e, fBd_s, ↓fJn_s, fNn_s, fNu_0, fNu_s, fBo_0, fBo_1, fBo_b, Nat.not_lt_zero, Nat.succ_ne_zero, Nat.add_one_ne_zero, Nat.add_one_sub_one, Nat.zero_le, Nat.or_zero, Nat.zero_or, Bool.not_true, Bool.not_false, Bool.true_and, Bool.false_and, Bool.and_true, Bool.and_false, ↓reduceIte, if_true, if_false, not_true_eq_false, not_false_eq_true, true_and, and_true, false_and, and_false, and_self, true_or, or_true, false_or, or_false, Nat.reduceEqDiff, Nat.reduceLT, Nat.reduceLeDiff, Nat.reduceAdd, Nat.reduceMul, Nat.reduceSub, Nat.add_zero, Nat.zero_add, Nat.mul_zero, Nat.zero_mul, ne_eq, Bool.not_eq_true, Bool.not_eq_false, reduceCtorEq, decide_true, decide_false, decide_eq_true_eq, decide_eq_false_iff_not, Bool.false_eq_true, i_lit, nI_clamp, fIx_n, i_eq, hr9, ha, hw, hcp, q4, h60, h62, hl, bI_0, bI_t, bI_f]
        · unfold f_X12_isSo
          by_cases h60 : cp = 60
          · subst h60
            by_cases hl : nn < nI nu
            · have hl2 : ¬ nI nu ≤ nn := by rw [Int32.le_iff_toInt_le]; rw [Int32.lt_iff_toInt_lt] at hl; omega
              simp (disch := omega) only [↓fLt_e, fBd_s, ↓fJn_s, fNn_s, fNu_0, fNu_s, fBo_0, fBo_1, fBo_b, Nat.not_lt_zero, Nat.succ_ne_zero, Nat.add_one_ne_zero, Nat.add_one_sub_one, Nat.zero_le, Nat.or_zero, Nat.zero_or, Bool.not_true, Bool.not_false, Bool.true_and, Bool.false_and, Bool.and_true, Bool.and_false, ↓reduceIte, if_true, if_false, not_true_eq_false, not_false_eq_true, true_and, and_true, false_and, and_false, and_self, true_or, or_true, false_or, or_false, Nat.reduceEqDiff, Nat.reduceLT, Nat.reduceLeDiff, Nat.reduceAdd, Nat.reduceMul, Nat.reduceSub, Nat.add_zero, Nat.zero_add, Nat.mul_zero, Nat.zero_mul, ne_eq, Bool.not_eq_true, Bool.not_eq_false, reduceCtorEq, decide_true, decide_false, decide_eq_true_eq, decide_eq_false_iff_not, Bool.false_eq_true, i_lit, nI_clamp, fIx_n, i_eq, hx4, hx5, hx6, hm5, k6, k7, k8, q59, hl, hl2, bI_0, bI_t, bI_f]
            · have hl2 : nI nu ≤ nn := by rw [Int32.le_iff_toInt_le]; rw [Int32.lt_iff_toInt_lt] at hl; omega
              simp (disch := omega) only [↓fLt_e, fBd_s, ↓fJn_s, fNn_s, fNu_0, fNu_s, fBo_0, fBo_1, fBo_b, Nat.not_lt_zero, Nat.succ_ne_zero, Nat.add_one_ne_zero, Nat.add_one_sub_one, Nat.zero_le, Nat.or_zero, Nat.zero_or, Bool.not_true, Bool.not_false, Bool.true_and, Bool.false_and, Bool.and_true, Bool.and_false, ↓reduceIte, if_true, if_false, not_true_eq_false, not_false_eq_true, true_and, and_true, false_and, and_false, and_self, true_or, or_true, false_or, or_false, Nat.reduceEqDiff, Nat.reduceLT, Nat.reduceLeDiff, Nat.reduceAdd, Nat.reduceMul, Nat.reduceSub, Nat.add_zero, Nat.zero_add, Nat.mul_zero, Nat.zero_mul, ne_eq, Bool.not_eq_true, Bool.not_eq_false, reduceCtorEq, decide_true, decide_false, decide_eq_true_eq, decide_eq_false_iff_not, Bool.false_eq_true, i_lit, nI_clamp, fIx_n, i_eq, hx4, hx5, hx6, hm5, k6, k7, k8, q59, hl, hl2, bI_0, bI_t, bI_f]
          · by_cases h62 : cp = 62
            · subst h62
              by_cases hl : nI nu < nn
              · have hl2 : ¬ nn ≤ nI nu := by rw [Int32.le_iff_toInt_le]; rw [Int32.lt_iff_toInt_lt] at hl; omega
                simp (disch := omega) only [↓fLt_e, fBd_s, ↓fJn_s, fNn_s, fNu_0, fNu_s, fBo_0, fBo_1, fBo_b, Nat.not_lt_zero, Nat.succ_ne_zero, Nat.add_one_ne_zero, Nat.add_one_sub_one, Nat.zero_le, Nat.or_zero, Nat.zero_or, Bool.not_true, Bool.not_false, Bool.true_and, Bool.false_and, Bool.and_true, Bool.and_false, ↓reduceIte, if_true, if_false, not_true_eq_false, not_false_eq_true, true_and, and_true, false_and, and_false, and_self, true_or, or_true, false_or, or_false, Nat.reduceEqDiff, Nat.reduceLT, Nat.reduceLeDiff, Nat.reduceAdd, Nat.reduceMul, Nat.reduceSub, Nat.add_zero, Nat.zero_add, Nat.mul_zero, Nat.zero_mul, ne_eq, Bool.not_eq_true, Bool.not_eq_false, reduceCtorEq, decide_true, decide_false, decide_eq_true_eq, decide_eq_false_iff_not, Bool.false_eq_true, i_lit, nI_clamp, fIx_n, i_eq, hx4, hx5, hx6, hm5, k6, k7, k8, q59, hl, hl2, bI_0, bI_t, bI_f]
              · have hl2 : nn ≤ nI nu := by rw [Int32.le_iff_toInt_le]; rw [Int32.lt_iff_toInt_lt] at hl; omega
                simp (disch := omega) only [↓fLt_e, fBd_s, ↓fJn_s, fNn_s, fNu_0, fNu_s, fBo_0, fBo_1, fBo_b, Nat.not_lt_zero, Nat.succ_ne_zero, Nat.add_one_ne_zero, Nat.add_one_sub_one, Nat.zero_le, Nat.or_zero, Nat.zero_or, Bool.not_true, Bool.not_false, Bool.true_and, Bool.false_and, Bool.and_true, Bool.and_false, ↓reduceIte, if_true, if_false, not_true_eq_false, not_false_eq_true, true_and, and_true, false_and, and_false, and_self, true_or, or_true, false_or, or_false, Nat.reduceEqDiff, Nat.reduceLT, Nat.reduceLeDiff, Nat.reduceAdd, Nat.reduceMul, Nat.reduceSub, Nat.add_zero, Nat.zero_add, Nat.mul_zero, Nat.zero_mul, ne_eq, Bool.not_eq_true, Bool.not_eq_false, reduceCtorEq, decide_true, decide_false, decide_eq_true_eq, decide_eq_false_iff_not, Bool.false_eq_true, i_lit, nI_clamp, fIx_n, i_eq, hx4, hx5, hx6, hm5, k6, k7, k8, q59, hl, hl2, bI_0, bI_t, bI_f]
            · by_cases hl : nn = nI nu
              · simp (disch := omega) only [↓fLt_e, fBd_s, ↓fJn_s, fNn_s, fNu_0, fNu_s, fBo_0, fBo_1, fBo_b, Nat.not_lt_zero, Nat.succ_ne_zero, Nat.add_one_ne_zero, Nat.add_one_sub_one, Nat.zero_le, Nat.or_zero, Nat.zero_or, Bool.not_true, Bool.not_false, Bool.true_and, Bool.false_and, Bool.and_true, Bool.and_false, ↓reduceIte, if_true, if_false, not_true_eq_false, not_false_eq_true, true_and, and_true, false_and, and_false, and_self, true_or, or_true, false_or, or_false, Nat.reduceEqDiff, Nat.reduceLT, Nat.reduceLeDiff, Nat.reduceAdd, Nat.reduceMul, Nat.reduceSub, Nat.add_zero, Nat.zero_add, Nat.mul_zero, Nat.zero_mul, ne_eq, Bool.not_eq_true, Bool.not_eq_false, reduceCtorEq, decide_true, decide_false, decide_eq_true_eq, decide_eq_false_iff_not, Bool.false_eq_true, i_lit, nI_clamp, fIx_n, i_eq, hx4, hx5, hx6, hm5, k6, k7, k8, q59, h60, h62, hl, bI_0, bI_t, bI_f]
              · simp (disch := omega) only [↓fLt_e, fBd_s, ↓fJn_s, fNn_s, fNu_0, fNu_s, fBo_0, fBo_1, fBo_b, Nat.not_lt_zero, Nat.succ_ne_zero, Nat.add_one_ne_zero, Nat.add_one_sub_one, Nat.zero_le, Nat.or_zero, Nat.zero_or, Bool.not_true, Bool.not_false, Bool.true_and, Bool.false_and, Bool.and_true, Bool.and_false, ↓reduceIte, if_true, if_false, not_true_eq_false, not_false_eq_true, true_and, and_true, false_and, and_false, and_self, true_or, or_true, false_or, or_false, Nat.reduceEqDiff, Nat.reduceLT, Nat.reduceLeDiff, Nat.reduceAdd, Nat.reduceMul, Nat.reduceSub, Nat.add_zero, Nat.zero_add, Nat.mul_zero, Nat.zero_mul, ne_eq, Bool.not_eq_true, Bool.not_eq_false, reduceCtorEq, decide_true, decide_false, decide_eq_true_eq, decide_eq_false_iff_not, Bool.false_eq_true, i_lit, nI_clamp, fIx_n, i_eq, hx4, hx5, hx6, hm5, k6, k7, k8, q59, h60, h62, hl, bI_0, bI_t, bI_f]
  obtain ⟨b, ⟨v, hv, hv2⟩, hh, hi⟩ := hso
  refine ⟨b, by rw [hv, i_eq _ _ (by omega) (by omega)]; omega, by rw [hv, i_eq _ _ (by omega) (by omega)]; omega, ?_, fun rec => ?_⟩
  · unfold f_X10_doStep
    rcases hv2 with rfl | rfl | rfl | rfl <;> cases b <;> simp (disch := omega) only [↓fLt_e, fBd_s, ↓fJn_s, fNn_s, fNu_0, fNu_s, fBo_0, fBo_1, fBo_b, i_lit, i_neg1, nI_add, pk_mul, nI_clamp, i_le, i_lt, i_eq, fIx_n, nI_mI, mI_nI, mI_lt, nI_lt_m, mI_le, nI_le_m, xI_0, xI_s, bI_0, bI_1, bI_t, bI_f, n_31, j_bit, j_one, i_and, i_or, Nat.not_lt_zero, Nat.succ_ne_zero, Nat.add_one_ne_zero, Nat.add_one_sub_one, Nat.zero_le, Nat.or_zero, Nat.zero_or, Bool.not_true, Bool.not_false, Bool.true_and, Bool.false_and, Bool.and_true, Bool.and_false, ↓reduceIte, if_true, if_false, not_true_eq_false, not_false_eq_true, true_and, and_true, false_and, and_false, and_self, true_or, or_true, false_or, or_false, Nat.reduceEqDiff, Nat.reduceLT, Nat.reduceLeDiff, Nat.reduceAdd, Nat.reduceMul, Nat.reduceSub, Nat.add_zero, Nat.zero_add, Nat.mul_zero, Nat.zero_mul, ne_eq, Bool.not_eq_true, Bool.not_eq_false, reduceCtorEq, decide_true, decide_false, decide_eq_true_eq, decide_eq_false_iff_not, Bool.false_eq_true, if_pos, if_neg, hr9, hv, s1, hh]
  · unfold f_X12_doOne
    cases b
    · simp (disch := omega) only [↓fLt_e, fBd_s, ↓fJn_s, fNn_s, fNu_0, fNu_s, fBo_0, fBo_1, fBo_b, i_lit, i_neg1, nI_add, pk_mul, nI_clamp, i_le, i_lt, i_eq, fIx_n, nI_mI, mI_nI, mI_lt, nI_lt_m, mI_le, nI_le_m, xI_0, xI_s, bI_0, bI_1, bI_t, bI_f, n_31, j_bit, j_one, i_and, i_or, Nat.not_lt_zero, Nat.succ_ne_zero, Nat.add_one_ne_zero, Nat.add_one_sub_one, Nat.zero_le, Nat.or_zero, Nat.zero_or, Bool.not_true, Bool.not_false, Bool.true_and, Bool.false_and, Bool.and_true, Bool.and_false, ↓reduceIte, if_true, if_false, not_true_eq_false, not_false_eq_true, true_and, and_true, false_and, and_false, and_self, true_or, or_true, false_or, or_false, Nat.reduceEqDiff, Nat.reduceLT, Nat.reduceLeDiff, Nat.reduceAdd, Nat.reduceMul, Nat.reduceSub, Nat.add_zero, Nat.zero_add, Nat.mul_zero, Nat.zero_mul, ne_eq, Bool.not_eq_true, Bool.not_eq_false, reduceCtorEq, decide_true, decide_false, decide_eq_true_eq, decide_eq_false_iff_not, Bool.false_eq_true, if_pos, if_neg, s2, hx2, hx7, hm5, k0, k5, hi]
    · simp (disch := omega) only [↓fLt_e, fBd_s, ↓fJn_s, fNn_s, fNu_0, fNu_s, fBo_0, fBo_1, fBo_b, i_lit, i_neg1, nI_add, pk_mul, nI_clamp, i_le, i_lt, i_eq, fIx_n, nI_mI, mI_nI, mI_lt, nI_lt_m, mI_le, nI_le_m, xI_0, xI_s, bI_0, bI_1, bI_t, bI_f, n_31, j_bit, j_one, i_and, i_or, Nat.not_lt_zero, Nat.succ_ne_zero, Nat.add_one_ne_zero, Nat.add_one_sub_one, Nat.zero_le, Nat.or_zero, Nat.zero_or, Bool.not_true, Bool.not_false, Bool.true_and, Bool.false_and, Bool.and_true, Bool.and_false, ↓reduceIte, if_true, if_false, not_true_eq_false, not_false_eq_true, true_and, and_true, false_and, and_false, and_self, true_or, or_true, false_or, or_false, Nat.reduceEqDiff, Nat.reduceLT, Nat.reduceLeDiff, Nat.reduceAdd, Nat.reduceMul, Nat.reduceSub, Nat.add_zero, Nat.zero_add, Nat.mul_zero, Nat.zero_mul, ne_eq, Bool.not_eq_true, Bool.not_eq_false, reduceCtorEq, decide_true, decide_false, decide_eq_true_eq, decide_eq_false_iff_not, Bool.false_eq_true, if_pos, if_neg, s2, hx2, hx7, hm5, k0, k5, hi]
end
