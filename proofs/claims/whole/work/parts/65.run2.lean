/-! layer 2: the steps of a week -/
def wkR (i : Nat) (no : Bool) (G0 : Nat → Nat) (q : Nat) (sc sm : fSt) (sg : Nat) : Prop := ∃ (Gc Gm : Nat → Nat) (r se en l : Nat),
  (gWf Gc ∧ gWf Gm ∧ rHou sc 0 q Gc ∧ rBlk (gA sm 12 0 5) Gm ∧ agB Gc Gm ∧ (no = true → Gc = Gm) ∧ ∀ k, k < 4 ∨ (7 ≤ k ∧ k < 137) ∨ 217 ≤ k → Gm k = G0 k) ∧
  (gI sc 3 (i + 1) 6 = nI r ∧ gI sm 12 0 28 = nI r ∧ r < 65536) ∧ gI sc 10 i 2 = bI no ∧ (gI sc 10 i 6 = nI sg ∧ gI sm 12 0 58 = nI sg) ∧
  (gI sc 10 i 7 = nI se ∧ gI sm 12 0 60 = nI se ∧ se < 4096) ∧ (gI sc 10 i 5 = nI en ∧ gI sm 12 0 61 = nI en ∧ en < 1024) ∧ (gI sc 10 i 10 = xI l ∧ gI sm 12 0 64 = xI l ∧ l ≤ 10) ∧
  (gI sc 10 i 4 = gI sm 12 0 59 ∧ gI sc 10 i 8 = gI sm 12 0 62 ∧ gI sc 10 i 9 = gI sm 12 0 63)
def nwG (G : Nat → Nat) (t : pSt) (kd : Nat) : Nat → Nat := fun k => if k = 6 then min 20 (G 6 + 1) else if k = 137 then t.2.2.1 else if k = 138 then t.2.2.2.1 else if k = 139 then kd else if k = 140 then t.2.2.2.2.1 else if 141 ≤ k ∧ k < 217 then G (k - 4) else G k
section
variable {G : Nat → Nat} {t : pSt} {kd : Nat}
theorem nwG_o {k : Nat} (h : k < 6 ∨ (7 ≤ k ∧ k < 137) ∨ 217 ≤ k) : nwG G t kd k = G k := by
  unfold nwG
  simp (disch := omega) only [if_neg]
theorem nwG_wf (w : gWf G) (ht : 0 < t.2.2.1 ∧ t.2.2.1 < 4096 ∧ t.2.2.2.1 ≤ 9 ∧ kd ≤ 4 ∧ t.2.2.2.2.1 < 1048576) : gWf (nwG G t kd) := by
  obtain ⟨w1, ⟨w2, w3, w4⟩, w5, w6, w7, w8⟩ := w
  unfold gWf
  rw [nwG_o (k := 0) (by omega), nwG_o (k := 1) (by omega), nwG_o (k := 2) (by omega), nwG_o (k := 3) (by omega), nwG_o (k := 4) (by omega), nwG_o (k := 5) (by omega)]
  have h6 : nwG G t kd 6 = min 20 (G 6 + 1) := rfl
  refine ⟨w1, ⟨w2, w3, by rw [h6]; omega⟩, fun a ha => ?_, fun s hs => ?_, fun k hk => ?_, fun i hi => ?_⟩
  · simp (disch := omega) only [nwG_o]; exact w5 a ha
  · simp (disch := omega) only [nwG_o]; exact w6 s hs
  · simp (disch := omega) only [nwG_o]; exact w7 k hk
  · rw [h6] at hi
    unfold nwG
    cases i with
    | zero => simp only [Nat.mul_zero, Nat.add_zero, Nat.reduceEqDiff, if_false, if_true]; exact ht
    | succ i =>
      have := w8 i (by omega)
      simp (disch := omega) only [if_neg, if_pos]
      rw [show 137 + 4 * (i + 1) - 4 = 137 + 4 * i by omega, show 138 + 4 * (i + 1) - 4 = 138 + 4 * i by omega, show 139 + 4 * (i + 1) - 4 = 139 + 4 * i by omega, show 140 + 4 * (i + 1) - 4 = 140 + 4 * i by omega]
      exact this
theorem nwG_blk {f g : Nat → Int32} (w : gWf G) (B : rBlk f G) (hg : g 6 = nI (min 20 (G 6 + 1))) (hg1 : g 137 = nI t.2.2.1 ∧ g 138 = xI t.2.2.2.1 ∧ g 139 = xI kd ∧ g 140 = nI t.2.2.2.2.1) (hg2 : ∀ p, 141 ≤ p → p < 217 → g p = f (p - 4)) (hg3 : ∀ p, p < 6 ∨ (7 ≤ p ∧ p < 137) ∨ 217 ≤ p → g p = f p) : rBlk g (nwG G t kd) := by
  have w1 := w.1
  have h6 : nwG G t kd 6 = min 20 (G 6 + 1) := rfl
  obtain ⟨b1, b2, b3, b4, b5, b6, b7⟩ := B
  unfold rBlk
  rw [nwG_o (k := 0) (by omega), nwG_o (k := 1) (by omega), nwG_o (k := 2) (by omega), nwG_o (k := 3) (by omega), nwG_o (k := 4) (by omega), nwG_o (k := 5) (by omega), nwG_o (k := 217) (by omega), nwG_o (k := 218) (by omega), h6]
  rw [hg3 0 (by omega), hg3 1 (by omega), hg3 2 (by omega), hg3 3 (by omega), hg3 4 (by omega), hg3 5 (by omega), hg3 217 (by omega), hg3 218 (by omega)]
  refine ⟨⟨b1.1, b1.2.1, b1.2.2.1, b1.2.2.2.1, b1.2.2.2.2.1, b1.2.2.2.2.2.1, hg⟩, fun a ha => ?_, fun s hs => ?_, fun k hk => ?_, fun i hi => ?_, b6, fun j hj => ?_⟩
  · simp (disch := omega) only [nwG_o, hg3]; exact b2 a ha
  · simp (disch := omega) only [nwG_o, hg3]; exact b3 s hs
  · simp (disch := omega) only [nwG_o, hg3]; exact b4 k hk
  · unfold nwG
    cases i with
    | zero => simp only [Nat.mul_zero, Nat.add_zero, Nat.reduceEqDiff, if_false, if_true]; exact hg1
    | succ i =>
      have := b5 i (by omega)
      simp (disch := omega) only [if_neg, if_pos]
      rw [hg2 _ (by omega) (by omega), hg2 _ (by omega) (by omega), hg2 _ (by omega) (by omega), hg2 _ (by omega) (by omega)]
      rw [show 137 + 4 * (i + 1) - 4 = 137 + 4 * i by omega, show 138 + 4 * (i + 1) - 4 = 138 + 4 * i by omega, show 139 + 4 * (i + 1) - 4 = 139 + 4 * i by omega, show 140 + 4 * (i + 1) - 4 = 140 + 4 * i by omega]
      exact this
  · simp (disch := omega) only [nwG_o, hg3]; exact b7 j hj
theorem nwG_bok {sc sc' : fSt} (w : gWf G) (hb : rBok sc 0 G) (h0 : gI sc' 0 0 0 = nI (min 20 (G 6 + 1))) (he : gA sc' 0 0 1 0 = nI t.2.2.1 ∧ gA sc' 0 0 1 1 = xI t.2.2.2.1 ∧ gA sc' 0 0 1 2 = xI kd ∧ gA sc' 0 0 1 3 = nI t.2.2.2.2.1) (he2 : ∀ p, 4 ≤ p → p < 80 → gA sc' 0 0 1 p = gA sc 0 0 1 (p - 4)) : rBok sc' 0 (nwG G t kd) := by
  have h6 : nwG G t kd 6 = min 20 (G 6 + 1) := rfl
  unfold rBok
  rw [h6]
  refine ⟨h0, fun i hi => ?_⟩
  unfold nwG
  cases i with
  | zero => simp only [Nat.zero_mul, Nat.zero_add, Nat.mul_zero, Nat.add_zero, Nat.reduceEqDiff, if_false, if_true]; exact he
  | succ i =>
    have := hb.2 i (by omega)
    simp (disch := omega) only [if_neg, if_pos]
    rw [he2 _ (by omega) (by omega), he2 _ (by omega) (by omega), he2 _ (by omega) (by omega), he2 _ (by omega) (by omega)]
    rw [show 137 + 4 * (i + 1) - 4 = 137 + 4 * i by omega, show 138 + 4 * (i + 1) - 4 = 138 + 4 * i by omega, show 139 + 4 * (i + 1) - 4 = 139 + 4 * i by omega, show 140 + 4 * (i + 1) - 4 = 140 + 4 * i by omega]
    rw [show (i + 1) * 4 - 4 = i * 4 by omega, show (i + 1) * 4 + 1 - 4 = i * 4 + 1 by omega, show (i + 1) * 4 + 2 - 4 = i * 4 + 2 by omega, show (i + 1) * 4 + 3 - 4 = i * 4 + 3 by omega]
    exact this
end
theorem rHou_x {i : Nat} {no : Bool} {sc sc' : fSt} {q : Nat} {G G' : Nat → Nat} (h : cFr i no sc sc') (w : gWf G) (hG : ∀ k, k < 4 ∨ (7 ≤ k ∧ k < 137) ∨ 217 ≤ k → G' k = G k) (X : rHou sc 0 q G) (h2 : gI sc' 2 0 2 = nI (G' 4) ∧ gI sc' 2 0 3 = nI (G' 5)) (hb : rBok sc' 0 G') : rHou sc' 0 q G' := by
  have e7 := fun k => (h.1 7 q k (by unfold cFc; omega)).1
  have e7a := fun k => (h.1 7 q k (by unfold cFc; omega)).2.2.1
  refine ⟨by rw [h.2]; exact X.1, ?_, h2, hb⟩
  have := rStg_G w hG X.2.1
  unfold rStg at *
  simp only [e7, e7a]
  exact this
theorem rBok_x {i : Nat} {sc sc' : fSt} {G : Nat → Nat} (h : cFr i false sc sc') (hb : rBok sc 0 G) : rBok sc' 0 G := by
  have e0 := (h.1 0 0 0 (by unfold cFc; simp)).1
  have e1 := (h.1 0 0 1 (by unfold cFc; simp)).2.2.1
  unfold rBok at *
  rw [e0, e1]
  exact hb
theorem agB_rf (G : Nat → Nat) : agB G G := fun _ _ => rfl
theorem or_1024 {en l : Nat} (h : en < 1024) (hl : l ≤ 10) (h1 : 1 ≤ l) : en ||| 2 ^ (l - 1) < 1024 := Nat.or_lt_two_pow (n := 10) h (Nat.pow_lt_pow_right (by omega) (by omega))
theorem play_step {i : Nat} {no : Bool} {G0 : Nat → Nat} {q : Nat} {sc sm : fSt} {sg : Nat} (W : wkR i no G0 q sc sm sg) {a : Nat} (ha : a ≤ G0 3) : ∃ sc' sm', f_X10_playNight i 0 (xI a) sc = some ((), sc') ∧ f_X12_plays2 (xI a) sm = some ((), sm') ∧ wkR i no G0 q sc' sm' sg ∧ cFr i no sc sc' ∧ mFr sm sm' ∧ gA sc' 10 i 1 = gA sc 10 i 1 ∧ gI sm' 12 0 57 = gI sm 12 0 57 := by
  obtain ⟨Gc, Gm, r, se, en, l, ⟨wc, wm, X, B, hag, hno, hG0⟩, ⟨r1, r2, r3⟩, n2, ⟨s1, s2⟩, ⟨e1, e2, e3⟩, ⟨g1, g2, g3⟩, ⟨l1, l2, l3⟩, p1, p2, p3⟩ := W
  have w1 := wc.1
  have hc3 : Gc 3 = Gm 3 := hag 3 (by omega)
  have hm3 : Gm 3 = G0 3 := hG0 3 (by omega)
  have hgp := gpl_ag hag wc
  have x1 := x_canOpen X wc
  have m1 := m_isDark B wm
  have hk3 : gI sc 7 q 3 = nI (Gc 3) := X.2.1.1.2.2.2
  have hg3 : gA sm 12 0 5 3 = nI (Gm 3) := B.1.2.2.2.1
  -- a night that can't be
  have hmiss : f_X10_playNight i 0 (xI a) sc = some ((), sI sc 10 i 9 (gI sc 10 i 9 + nI 1)) → f_X12_plays2 (xI a) sm = some ((), sI sm 12 0 63 (gI sm 12 0 63 + nI 1)) → ∃ sc' sm', f_X10_playNight i 0 (xI a) sc = some ((), sc') ∧ f_X12_plays2 (xI a) sm = some ((), sm') ∧ wkR i no G0 q sc' sm' sg ∧ cFr i no sc sc' ∧ mFr sm sm' ∧ gA sc' 10 i 1 = gA sc 10 i 1 ∧ gI sm' 12 0 57 = gI sm 12 0 57 := by
    intro h1 h2
    refine ⟨_, _, h1, h2, ⟨Gc, Gm, r, se, en, l, ⟨wc, wm, X, B, hag, hno, hG0⟩, ⟨r1, r2, r3⟩, ?_, ⟨?_, s2⟩, ⟨?_, e2, e3⟩, ⟨?_, g2, g3⟩, ⟨?_, l2, l3⟩, ?_, ?_, ?_⟩, cFr_I (Or.inl ⟨rfl, rfl⟩) (cFr_rf i no sc), mFr_I (by omega) (mFr_rf sm), rfl, rfl⟩
    · rw [gI_sI, if_neg (by omega)]; exact n2
    · rw [gI_sI, if_neg (by omega)]; exact s1
    · rw [gI_sI, if_neg (by omega)]; exact e1
    · rw [gI_sI, if_neg (by omega)]; exact g1
    · rw [gI_sI, if_neg (by omega)]; exact l1
    · rw [gI_sI, if_neg (by omega)]; exact p1
    · rw [gI_sI, if_neg (by omega)]; exact p2
    · rw [gI_same, gI_same, p3]
  by_cases hz : gpl Gc (Gc 2) (Gc 5) = 0
  · rw [decide_eq_false (by simp [hz])] at x1
    rw [← hgp, decide_eq_true hz] at m1
    refine hmiss ?_ ?_
    · unfold f_X10_playNight
      simp (disch := omega) only [fLt_e, fBd_s, fJn_s, fNn_s, fNu_0, fNu_s, fBo_0, fBo_1, fBo_b, i_lit, i_neg1, nI_add, pk_mul, nI_clamp, i_le, i_lt, i_eq, fIx_n, nI_mI, mI_nI, mI_lt, nI_lt_m, mI_le, nI_le_m, xI_0, xI_s, bI_0, bI_1, bI_t, bI_f, n_31, j_bit, j_one, i_and, i_or, Nat.not_lt_zero, Nat.succ_ne_zero, Nat.add_one_ne_zero, Nat.add_one_sub_one, Nat.zero_le, Nat.or_zero, Nat.zero_or, Bool.not_true, Bool.not_false, Bool.true_and, Bool.false_and, Bool.and_true, Bool.and_false, ↓reduceIte, if_true, if_false, not_true_eq_false, not_false_eq_true, true_and, and_true, false_and, and_false, and_self, true_or, or_true, false_or, or_false, Nat.reduceEqDiff, Nat.reduceLT, Nat.reduceLeDiff, Nat.reduceAdd, Nat.reduceMul, Nat.reduceSub, Nat.add_zero, Nat.zero_add, Nat.mul_zero, Nat.zero_mul, ne_eq, Bool.not_eq_true, Bool.not_eq_false, reduceCtorEq, decide_true, decide_false, decide_eq_true_eq, decide_eq_false_iff_not, Bool.false_eq_true, if_pos, if_neg, x1]
    · unfold f_X12_plays2
      simp (disch := omega) only [fLt_e, fBd_s, fJn_s, fNn_s, fNu_0, fNu_s, fBo_0, fBo_1, fBo_b, i_lit, i_neg1, nI_add, pk_mul, nI_clamp, i_le, i_lt, i_eq, fIx_n, nI_mI, mI_nI, mI_lt, nI_lt_m, mI_le, nI_le_m, xI_0, xI_s, bI_0, bI_1, bI_t, bI_f, n_31, j_bit, j_one, i_and, i_or, Nat.not_lt_zero, Nat.succ_ne_zero, Nat.add_one_ne_zero, Nat.add_one_sub_one, Nat.zero_le, Nat.or_zero, Nat.zero_or, Bool.not_true, Bool.not_false, Bool.true_and, Bool.false_and, Bool.and_true, Bool.and_false, ↓reduceIte, if_true, if_false, not_true_eq_false, not_false_eq_true, true_and, and_true, false_and, and_false, and_self, true_or, or_true, false_or, or_false, Nat.reduceEqDiff, Nat.reduceLT, Nat.reduceLeDiff, Nat.reduceAdd, Nat.reduceMul, Nat.reduceSub, Nat.add_zero, Nat.zero_add, Nat.mul_zero, Nat.zero_mul, ne_eq, Bool.not_eq_true, Bool.not_eq_false, reduceCtorEq, decide_true, decide_false, decide_eq_true_eq, decide_eq_false_iff_not, Bool.false_eq_true, if_pos, if_neg, m1]
  · by_cases h3 : Gc 3 = 0
    · rw [decide_eq_true hz] at x1
      rw [← hgp, decide_eq_false hz] at m1
      have ha0 : a = 0 := by omega
      subst ha0
      have h3' : Gm 3 = 0 := by omega
      refine hmiss ?_ ?_
      · unfold f_X10_playNight
        simp (disch := omega) only [fLt_e, fBd_s, fJn_s, fNn_s, fNu_0, fNu_s, fBo_0, fBo_1, fBo_b, i_lit, i_neg1, nI_add, pk_mul, nI_clamp, i_le, i_lt, i_eq, fIx_n, nI_mI, mI_nI, mI_lt, nI_lt_m, mI_le, nI_le_m, xI_0, xI_s, bI_0, bI_1, bI_t, bI_f, n_31, j_bit, j_one, i_and, i_or, Nat.not_lt_zero, Nat.succ_ne_zero, Nat.add_one_ne_zero, Nat.add_one_sub_one, Nat.zero_le, Nat.or_zero, Nat.zero_or, Bool.not_true, Bool.not_false, Bool.true_and, Bool.false_and, Bool.and_true, Bool.and_false, ↓reduceIte, if_true, if_false, not_true_eq_false, not_false_eq_true, true_and, and_true, false_and, and_false, and_self, true_or, or_true, false_or, or_false, Nat.reduceEqDiff, Nat.reduceLT, Nat.reduceLeDiff, Nat.reduceAdd, Nat.reduceMul, Nat.reduceSub, Nat.add_zero, Nat.zero_add, Nat.mul_zero, Nat.zero_mul, ne_eq, Bool.not_eq_true, Bool.not_eq_false, reduceCtorEq, decide_true, decide_false, decide_eq_true_eq, decide_eq_false_iff_not, Bool.false_eq_true, if_pos, if_neg, x1, X.1, hk3, h3]
      · unfold f_X12_plays2
        simp (disch := omega) only [fLt_e, fBd_s, fJn_s, fNn_s, fNu_0, fNu_s, fBo_0, fBo_1, fBo_b, i_lit, i_neg1, nI_add, pk_mul, nI_clamp, i_le, i_lt, i_eq, fIx_n, nI_mI, mI_nI, mI_lt, nI_lt_m, mI_le, nI_le_m, xI_0, xI_s, bI_0, bI_1, bI_t, bI_f, n_31, j_bit, j_one, i_and, i_or, Nat.not_lt_zero, Nat.succ_ne_zero, Nat.add_one_ne_zero, Nat.add_one_sub_one, Nat.zero_le, Nat.or_zero, Nat.zero_or, Bool.not_true, Bool.not_false, Bool.true_and, Bool.false_and, Bool.and_true, Bool.and_false, ↓reduceIte, if_true, if_false, not_true_eq_false, not_false_eq_true, true_and, and_true, false_and, and_false, and_self, true_or, or_true, false_or, or_false, Nat.reduceEqDiff, Nat.reduceLT, Nat.reduceLeDiff, Nat.reduceAdd, Nat.reduceMul, Nat.reduceSub, Nat.add_zero, Nat.zero_add, Nat.mul_zero, Nat.zero_mul, ne_eq, Bool.not_eq_true, Bool.not_eq_false, reduceCtorEq, decide_true, decide_false, decide_eq_true_eq, decide_eq_false_iff_not, Bool.false_eq_true, if_pos, if_neg, m1, hg3, h3']
    · have hzm : ¬ gpl Gm (Gm 2) (Gm 5) = 0 := by rw [← hgp]; exact hz
      obtain ⟨sc', c1, c2, ⟨d1, d2, d3, d4, d5, d6, d7, d8, d9⟩, ⟨c3, c4, -⟩, c5⟩ := x_playNight X wc hz (by omega) (i := i) (a := a) (by omega) r1 r3 n2 e1 g1
      obtain ⟨sm', g, a1, a2, ⟨b1, b2, b3, b4, b5, b6, b7, b8, b9⟩, a3, a4, a5, a6, a7⟩ := m_plays2 B wm hzm (by omega) (a := a) (by omega) r2 r3 e2 g2
      have htf := tFn_ag hag wc (a := a) (r := r) (by omega) (by omega) r3
      have hkd := kdr_ag hag wc a r
      obtain ⟨⟨f1, f2, f3, f4, f5, f6⟩, hse⟩ := tFn_ok wc hz (a := a) (r := r) (by omega) (by omega) r3
      have hkok := (kdr_ok wc (a := a) (r := r) (by omega) (by omega) r3).1
      rw [← htf] at b1 b4 b5 b6 b8 a5
      rw [← hkd] at a5
      generalize tFn Gc a r = T at *
      generalize kdr Gc a r = K at *
      have hTk : 0 < T.2.2.1 ∧ T.2.2.1 < 4096 ∧ T.2.2.2.1 ≤ 9 ∧ K.1 + 1 ≤ 4 ∧ T.2.2.2.2.1 < 1048576 := ⟨hse, f3, f4, by omega, by omega⟩
      have hlt : ltn T.2.2.2.1 ≤ 10 ∧ 1 ≤ ltn T.2.2.2.1 := by
        unfold ltn
        split <;> omega
      have hnm := nwG_wf wm hTk
      have hbm := nwG_blk (t := T) (kd := K.1 + 1) wm B a4 a5 a6 a7
      have hnw : ∀ {G : Nat → Nat} k, (k < 6 ∨ (7 ≤ k ∧ k < 137) ∨ 217 ≤ k) → nwG G T (K.1 + 1) k = G k := fun k hk => nwG_o hk
      cases hno2 : no with
      | true =>
        subst hno2
        have hGG := hno rfl
        subst hGG
        obtain ⟨c6, c7, c8⟩ := c5 rfl
        refine ⟨sc', sm', c1, a1, ⟨nwG Gc T (K.1 + 1), nwG Gc T (K.1 + 1), T.2.2.2.2.2, se ||| T.2.2.1, en ||| 2 ^ (ltn T.2.2.2.1 - 1), ltn T.2.2.2.1, ⟨hnm, hnm, ?_, by rw [a3]; exact hbm, agB_rf _, fun _ => rfl, fun k hk => ?_⟩, ⟨d1, b1, f6⟩, d2, ⟨by rw [d3]; exact s1, by rw [b3]; exact s2⟩, ⟨d4, b4, or_4096 e3 f3⟩, ⟨d5, b5, or_1024 g3 hlt.1 hlt.2⟩, ⟨d6, b6, hlt.1⟩, by rw [d7, b7, p1], by rw [d8, b8, p2], by rw [d9, b9, p3]⟩, c2, a2, c3, b2⟩
        · refine rHou_x c2 wc (fun k hk => hnw k (by omega)) X ?_ (nwG_bok wc X.2.2.2 c6 c7 c8)
          rw [hnw 4 (by omega), hnw 5 (by omega), c4, c4]
          exact X.2.2.1
        · rw [hnw k (by omega)]
          exact hG0 k hk
      | false =>
        subst hno2
        refine ⟨sc', sm', c1, a1, ⟨Gc, nwG Gm T (K.1 + 1), T.2.2.2.2.2, se ||| T.2.2.1, en ||| 2 ^ (ltn T.2.2.2.1 - 1), ltn T.2.2.2.1, ⟨wc, hnm, ?_, by rw [a3]; exact hbm, fun k hk => ?_, fun h => absurd h (by decide), fun k hk => ?_⟩, ⟨d1, b1, f6⟩, d2, ⟨by rw [d3]; exact s1, by rw [b3]; exact s2⟩, ⟨d4, b4, or_4096 e3 f3⟩, ⟨d5, b5, or_1024 g3 hlt.1 hlt.2⟩, ⟨d6, b6, hlt.1⟩, by rw [d7, b7, p1], by rw [d8, b8, p2], by rw [d9, b9, p3]⟩, c2, a2, c3, b2⟩
        · refine rHou_x c2 wc (fun k _ => rfl) X ?_ (rBok_x c2 X.2.2.2)
          rw [c4, c4]
          exact X.2.2.1
        · rw [hnw k hk]
          exact hag k hk
        · rw [hnw k (by omega)]
          exact hG0 k hk
