/-! layer 2: the call often -/
section
variable {sm : fSt} {F5 F6 : Nat → Int32}
theorem m_ofL76 (k15 : fSt → Option (Int32 × fSt)) (st : fSt) : f_X12_often_L76 k15 fF (nI 0) st = k15 (sA st 12 0 6 (fun k => if k < 217 then gA st 12 0 5 k else gA st 12 0 6 k)) := by
  obtain ⟨m, e⟩ := lp_run (fun m (z : Int32 × fSt) => f_X12_often_L76 k15 m z.1 z.2) (fun t => (nI t, sA st 12 0 6 (fun k => if k < t then gA st 12 0 5 k else gA st 12 0 6 k))) 217 (fun m t ht => by
    show f_X12_often_L76 k15 (m + 1) (nI t) (sA st 12 0 6 (fun k => if k < t then gA st 12 0 5 k else gA st 12 0 6 k)) = f_X12_often_L76 k15 m (nI (t + 1)) (sA st 12 0 6 (fun k => if k < t + 1 then gA st 12 0 5 k else gA st 12 0 6 k))
    have hup : upd (fun k => if k < t then gA st 12 0 5 k else gA st 12 0 6 k) t (gA st 12 0 5 t) = fun k => if k < t + 1 then gA st 12 0 5 k else gA st 12 0 6 k := by
      funext k
      rw [upd_at]
      by_cases h : k = t
      · have h3 : k < t + 1 := by omega
        rw [if_pos h, if_pos h3, h]
      · rw [if_neg h]
        by_cases h2 : k < t
        · have h3 : k < t + 1 := by omega
          rw [if_pos h2, if_pos h3]
        · have h3 : ¬ k < t + 1 := by omega
          rw [if_neg h2, if_neg h3]
    have r5 : ∀ F, gA (sA st 12 0 6 F) 12 0 5 = gA st 12 0 5 := fun F => rfl
    have r6 : ∀ F, gA (sA st 12 0 6 F) 12 0 6 = F := fun F => rfl
    rw [f_X12_often_L76]
    simp (disch := omega) only [↓fLt_e, fBd_s, ↓fJn_s, fNn_s, fNu_0, fNu_s, fBo_0, fBo_1, fBo_b, i_lit, i_neg1, nI_add, pk_mul, nI_clamp, i_le, i_lt, i_eq, fIx_n, nI_mI, mI_nI, mI_lt, nI_lt_m, mI_le, nI_le_m, xI_0, xI_s, bI_0, bI_1, bI_t, bI_f, n_31, j_bit, j_one, i_and, i_or, Nat.not_lt_zero, Nat.succ_ne_zero, Nat.add_one_ne_zero, Nat.add_one_sub_one, Nat.zero_le, Nat.or_zero, Nat.zero_or, Bool.not_true, Bool.not_false, Bool.true_and, Bool.false_and, Bool.and_true, Bool.and_false, ↓reduceIte, if_true, if_false, not_true_eq_false, not_false_eq_true, true_and, and_true, false_and, and_false, and_self, true_or, or_true, false_or, or_false, Nat.reduceEqDiff, Nat.reduceLT, Nat.reduceLeDiff, Nat.reduceAdd, Nat.reduceMul, Nat.reduceSub, Nat.add_zero, Nat.zero_add, Nat.mul_zero, Nat.zero_mul, ne_eq, Bool.not_eq_true, Bool.not_eq_false, reduceCtorEq, decide_true, decide_false, decide_eq_true_eq, decide_eq_false_iff_not, Bool.false_eq_true, if_pos, if_neg, r5, r6, sA_sA, hup]) (fF_lt (by omega))
  refine Eq.trans ?_ (Eq.trans e ?_)
  · have : (fun k => if k < 0 then gA st 12 0 5 k else gA st 12 0 6 k) = gA st 12 0 6 := by
      funext k
      rw [if_neg (Nat.not_lt_zero k)]
    show f_X12_often_L76 k15 fF (nI 0) st = f_X12_often_L76 k15 fF (nI 0) (sA st 12 0 6 (fun k => if k < 0 then gA st 12 0 5 k else gA st 12 0 6 k))
    rw [this, sA_self]
  · show f_X12_often_L76 k15 (m + 1) (nI 217) (sA st 12 0 6 (fun k => if k < 217 then gA st 12 0 5 k else gA st 12 0 6 k)) = _
    rw [f_X12_often_L76]
    simp (disch := omega) only [↓fLt_e, fBd_s, ↓fJn_s, fNn_s, fNu_0, fNu_s, fBo_0, fBo_1, fBo_b, i_lit, i_neg1, nI_add, pk_mul, nI_clamp, i_le, i_lt, i_eq, fIx_n, nI_mI, mI_nI, mI_lt, nI_lt_m, mI_le, nI_le_m, xI_0, xI_s, bI_0, bI_1, bI_t, bI_f, n_31, j_bit, j_one, i_and, i_or, Nat.not_lt_zero, Nat.succ_ne_zero, Nat.add_one_ne_zero, Nat.add_one_sub_one, Nat.zero_le, Nat.or_zero, Nat.zero_or, Bool.not_true, Bool.not_false, Bool.true_and, Bool.false_and, Bool.and_true, Bool.and_false, ↓reduceIte, if_true, if_false, not_true_eq_false, not_false_eq_true, true_and, and_true, false_and, and_false, and_self, true_or, or_true, false_or, or_false, Nat.reduceEqDiff, Nat.reduceLT, Nat.reduceLeDiff, Nat.reduceAdd, Nat.reduceMul, Nat.reduceSub, Nat.add_zero, Nat.zero_add, Nat.mul_zero, Nat.zero_mul, ne_eq, Bool.not_eq_true, Bool.not_eq_false, reduceCtorEq, decide_true, decide_false, decide_eq_true_eq, decide_eq_false_iff_not, Bool.false_eq_true, if_pos, if_neg]
theorem m_ofL148 (k33 : fSt → Option (Int32 × fSt)) (st : fSt) : f_X12_often_L148 k33 fF (nI 0) st = k33 (sA st 12 0 5 (fun k => if k < 217 then gA st 12 0 6 k else gA st 12 0 5 k)) := by
  obtain ⟨m, e⟩ := lp_run (fun m (z : Int32 × fSt) => f_X12_often_L148 k33 m z.1 z.2) (fun t => (nI t, sA st 12 0 5 (fun k => if k < t then gA st 12 0 6 k else gA st 12 0 5 k))) 217 (fun m t ht => by
    show f_X12_often_L148 k33 (m + 1) (nI t) (sA st 12 0 5 (fun k => if k < t then gA st 12 0 6 k else gA st 12 0 5 k)) = f_X12_often_L148 k33 m (nI (t + 1)) (sA st 12 0 5 (fun k => if k < t + 1 then gA st 12 0 6 k else gA st 12 0 5 k))
    have hup : upd (fun k => if k < t then gA st 12 0 6 k else gA st 12 0 5 k) t (gA st 12 0 6 t) = fun k => if k < t + 1 then gA st 12 0 6 k else gA st 12 0 5 k := by
      funext k
      rw [upd_at]
      by_cases h : k = t
      · have h3 : k < t + 1 := by omega
        rw [if_pos h, if_pos h3, h]
      · rw [if_neg h]
        by_cases h2 : k < t
        · have h3 : k < t + 1 := by omega
          rw [if_pos h2, if_pos h3]
        · have h3 : ¬ k < t + 1 := by omega
          rw [if_neg h2, if_neg h3]
    have r5 : ∀ F, gA (sA st 12 0 5 F) 12 0 6 = gA st 12 0 6 := fun F => rfl
    have r6 : ∀ F, gA (sA st 12 0 5 F) 12 0 5 = F := fun F => rfl
    rw [f_X12_often_L148]
    simp (disch := omega) only [↓fLt_e, fBd_s, ↓fJn_s, fNn_s, fNu_0, fNu_s, fBo_0, fBo_1, fBo_b, i_lit, i_neg1, nI_add, pk_mul, nI_clamp, i_le, i_lt, i_eq, fIx_n, nI_mI, mI_nI, mI_lt, nI_lt_m, mI_le, nI_le_m, xI_0, xI_s, bI_0, bI_1, bI_t, bI_f, n_31, j_bit, j_one, i_and, i_or, Nat.not_lt_zero, Nat.succ_ne_zero, Nat.add_one_ne_zero, Nat.add_one_sub_one, Nat.zero_le, Nat.or_zero, Nat.zero_or, Bool.not_true, Bool.not_false, Bool.true_and, Bool.false_and, Bool.and_true, Bool.and_false, ↓reduceIte, if_true, if_false, not_true_eq_false, not_false_eq_true, true_and, and_true, false_and, and_false, and_self, true_or, or_true, false_or, or_false, Nat.reduceEqDiff, Nat.reduceLT, Nat.reduceLeDiff, Nat.reduceAdd, Nat.reduceMul, Nat.reduceSub, Nat.add_zero, Nat.zero_add, Nat.mul_zero, Nat.zero_mul, ne_eq, Bool.not_eq_true, Bool.not_eq_false, reduceCtorEq, decide_true, decide_false, decide_eq_true_eq, decide_eq_false_iff_not, Bool.false_eq_true, if_pos, if_neg, r5, r6, sA_sA, hup]) (fF_lt (by omega))
  refine Eq.trans ?_ (Eq.trans e ?_)
  · have : (fun k => if k < 0 then gA st 12 0 6 k else gA st 12 0 5 k) = gA st 12 0 5 := by
      funext k
      rw [if_neg (Nat.not_lt_zero k)]
    show f_X12_often_L148 k33 fF (nI 0) st = f_X12_often_L148 k33 fF (nI 0) (sA st 12 0 5 (fun k => if k < 0 then gA st 12 0 6 k else gA st 12 0 5 k))
    rw [this, sA_self]
  · show f_X12_often_L148 k33 (m + 1) (nI 217) (sA st 12 0 5 (fun k => if k < 217 then gA st 12 0 6 k else gA st 12 0 5 k)) = _
    rw [f_X12_often_L148]
    simp (disch := omega) only [↓fLt_e, fBd_s, ↓fJn_s, fNn_s, fNu_0, fNu_s, fBo_0, fBo_1, fBo_b, i_lit, i_neg1, nI_add, pk_mul, nI_clamp, i_le, i_lt, i_eq, fIx_n, nI_mI, mI_nI, mI_lt, nI_lt_m, mI_le, nI_le_m, xI_0, xI_s, bI_0, bI_1, bI_t, bI_f, n_31, j_bit, j_one, i_and, i_or, Nat.not_lt_zero, Nat.succ_ne_zero, Nat.add_one_ne_zero, Nat.add_one_sub_one, Nat.zero_le, Nat.or_zero, Nat.zero_or, Bool.not_true, Bool.not_false, Bool.true_and, Bool.false_and, Bool.and_true, Bool.and_false, ↓reduceIte, if_true, if_false, not_true_eq_false, not_false_eq_true, true_and, and_true, false_and, and_false, and_self, true_or, or_true, false_or, or_false, Nat.reduceEqDiff, Nat.reduceLT, Nat.reduceLeDiff, Nat.reduceAdd, Nat.reduceMul, Nat.reduceSub, Nat.add_zero, Nat.zero_add, Nat.mul_zero, Nat.zero_mul, ne_eq, Bool.not_eq_true, Bool.not_eq_false, reduceCtorEq, decide_true, decide_false, decide_eq_true_eq, decide_eq_false_iff_not, Bool.false_eq_true, if_pos, if_neg]
end
def ofR (sc sm s t : fSt) (G : Nat → Nat) : Prop := cFr 1 false sc s ∧ (gI s 2 0 2 = nI (G 4) ∧ gI s 2 0 3 = nI (G 5)) ∧
  (∀ c j k, ¬ (c = 12 ∧ j = 0 ∧ (k = 5 ∨ k = 6 ∨ (25 ≤ k ∧ k < 29) ∨ (57 ≤ k ∧ k < 65))) → gI t c j k = gI sm c j k ∧ gL t c j k = gL sm c j k ∧ gA t c j k = gA sm c j k ∧ gB t c j k = gB sm c j k ∧ gP t c j k = gP sm c j k) ∧
  gA t 12 0 5 = gA sm 12 0 5 ∧ ∀ k, k < 217 → gA t 12 0 6 k = gA sm 12 0 5 k
theorem of_step {q : Nat} {sc sm s t : fSt} {G : Nat → Nat} {wk M e seed : Nat} (X : rHou sc 0 q G) (w : gWf G) (B : rBlk (gA sm 12 0 5) G) (k2 : gP sc 2 0 1 = wk + 1) (k3 : gI sc 9 wk 0 = nI M) (k4 : M ≤ 60) (k6 : rBod sc wk G 31 3 0 (G 218) 0 M) (hs : seed < 65536) (R : ofR sc sm s t G) :
    ∃ s' t' en, en < 1024 ∧ f_X10_go 1 0 (nI seed) (nI 0) s = some ((), s') ∧ gI s' 10 1 5 = nI en ∧ (∃ t1, f_X12_weeks (nI seed) t = some ((), t1) ∧ gI t1 12 0 61 = nI en ∧ sA t1 12 0 5 (fun k => if k < 217 then gA t1 12 0 6 k else gA t1 12 0 5 k) = t') ∧ ofR sc sm s' t' G := by
  obtain ⟨hc, ⟨h4, h5⟩, hm, hm5, hm6⟩ := R
  have hX : rHou s 0 q G := rHou_x hc w (fun k _ => rfl) X ⟨h4, h5⟩ (rBok_x hc X.2.2.2)
  have hB : rBlk (gA t 12 0 5) G := by rw [hm5]; exact B
  obtain ⟨s', t1, sg, e1, e2, W, hc2, hm2, h3, ⟨g4, g5⟩, -⟩ := run_all (i := 1) (no := false) hX w w hB (agB_rf G) (fun _ => rfl) (by rw [hc.2]; exact k2) (by rw [cFr_90 hc]; exact k3) k4 (rBod_e (sc := sc) (sc' := s) (fun j k => cFr_9a hc j k) 31 3 0 (G 218) 0 M k6) hs
  obtain ⟨Gc, Gm, r, se, en, l, -, -, -, -, -, ⟨n1, n2, n3⟩, -⟩ := W
  refine ⟨s', _, en, n3, e1, n1, ⟨t1, e2, n2, rfl⟩, cFr_tr hc hc2, ⟨g4, g5⟩, fun c j k hk => ?_, ?_, fun k hk => ?_⟩
  · obtain ⟨a1, a2, a3, a4, a5⟩ := hm c j k hk
    obtain ⟨b1, b2, b3, b4, b5⟩ := hm2.1 c j k (fun hh => hk ⟨hh.1, hh.2.1, by
      have := hh.2.2
      omega⟩)
    refine ⟨by rw [← a1, ← b1]; rfl, by rw [← a2, ← b2]; rfl, ?_, by rw [← a4, ← b4]; rfl, by rw [← a5, ← b5]; rfl⟩
    rw [gA_sA, if_neg (fun hh => hk ⟨hh.1, hh.2.1, Or.inl hh.2.2⟩), b3, a3]
  · have h6 : gA t1 12 0 6 = gA t 12 0 6 := (hm2.1 12 0 6 (by unfold mFc; omega)).2.2.1
    rw [gA_same]
    funext k
    by_cases hk : k < 217
    · rw [if_pos hk, h6]
      exact hm6 k hk
    · rw [if_neg hk, hm2.2 k (by omega), hm5]
  · have h6 : gA t1 12 0 6 = gA t 12 0 6 := (hm2.1 12 0 6 (by unfold mFc; omega)).2.2.1
    show gA t1 12 0 6 k = _
    rw [h6]
    exact hm6 k hk
theorem of_loop {q : Nat} {sc sm : fSt} {G : Nat → Nat} {wk M e seed many : Nat} (X : rHou sc 0 q G) (w : gWf G) (B : rBlk (gA sm 12 0 5) G) (k2 : gP sc 2 0 1 = wk + 1) (k3 : gI sc 9 wk 0 = nI M) (k4 : M ≤ 60) (k6 : rBod sc wk G 31 3 0 (G 218) 0 M) (he : e ≤ 9) (hs : seed < 10000) (hm1 : 1 ≤ many) (hm20 : many ≤ 20) : ∀ r k n s t m1 m2, k + r = many → n ≤ k → r < m1 → r < m2 → ofR sc sm s t G →
    ∃ s' t' n', n' ≤ many ∧ ofR sc sm s' t' G ∧ f_X11_often_L77 (nI e) (nI seed) (nI many) m1 (nI n) (nI k) s = (fBd (f_X11_tellFraction (nI n').toInt64 (nI many).toInt64 s') fun x20 s21 => fBo x20 (some (x20, s21))) ∧ f_X12_often_L110 (nI e) (nI seed) (nI many) m2 (nI n) (nI k) t = (fBd (f_X12_fraction (nI n').toInt64 (nI many).toInt64 t') fun x22 s23 => fBo x22 (some (x22, s23))) := by
  intro r
  induction r with
  | zero =>
    intro k n s t m1 m2 hk hn h1 h2 R
    obtain ⟨m1, rfl⟩ : ∃ j, m1 = j + 1 := ⟨m1 - 1, by omega⟩
    obtain ⟨m2, rfl⟩ : ∃ j, m2 = j + 1 := ⟨m2 - 1, by omega⟩
    have hkm : k = many := by omega
    subst hkm
    refine ⟨s, t, n, by omega, R, ?_, ?_⟩
    · rw [f_X11_often_L77]
      have hle : nI k ≤ nI k := by rw [i_le _ _ (by omega) (by omega)]; exact Nat.le_refl _
      rw [if_pos hle]
    · rw [f_X12_often_L110]
      have hle : nI k ≤ nI k := by rw [i_le _ _ (by omega) (by omega)]; exact Nat.le_refl _
      rw [if_pos hle]
  | succ r ih =>
    intro k n s t m1 m2 hk hn h1 h2 R
    obtain ⟨m1, rfl⟩ : ∃ j, m1 = j + 1 := ⟨m1 - 1, by omega⟩
    obtain ⟨m2, rfl⟩ : ∃ j, m2 = j + 1 := ⟨m2 - 1, by omega⟩
    obtain ⟨s1, t2, en, hen, e1, e2, ⟨t1, e3, e4, e5⟩, R'⟩ := of_step (seed := seed + k) (e := e) X w B k2 k3 k4 k6 (by omega) R
    have hb : (en.testBit e).toNat ≤ 1 := by cases en.testBit e <;> decide
    obtain ⟨s', t', n', g1, g2, g3, g4⟩ := ih (k + 1) (n + (en.testBit e).toNat) s1 t2 m1 m2 (by omega) (by omega) (by omega) (by omega) R'
    refine ⟨s', t', n', g1, g2, ?_, ?_⟩
    · rw [← g3, f_X11_often_L77]
      have hle : ¬ nI many ≤ nI k := by rw [i_le _ _ (by omega) (by omega)]; omega
      have hbit : (nI en >>> (nI e &&& nI 31)) &&& nI 1 = nI (en.testBit e).toNat := i_bit (by omega) (by omega)
      have e1 : f_X10_go 1 0 (nI (seed + k)) 0 s = some ((), s1) := e1
      rw [if_neg hle, nI_add, e1, fBd_s, e2]
      simp only [fLt_e, i_lit]
      rw [hbit, nI_add, nI_add]
    · rw [← g4, f_X12_often_L110]
      have hle : ¬ nI many ≤ nI k := by rw [i_le _ _ (by omega) (by omega)]; omega
      have hhas := m_has (a := en) (k := e) (by omega) (by omega) t1
      have h148 := fun k33 => m_ofL148 k33 t1
      rw [if_neg hle, nI_add, e3, fBd_s, e4, hhas, fBd_s]
      cases hbt : en.testBit e with
      | true =>
        simp (disch := omega) only [↓fLt_e, fBd_s, ↓fJn_s, fNn_s, fNu_0, fNu_s, fBo_0, fBo_1, fBo_b, i_lit, i_neg1, nI_add, pk_mul, nI_clamp, i_le, i_lt, i_eq, fIx_n, nI_mI, mI_nI, mI_lt, nI_lt_m, mI_le, nI_le_m, xI_0, xI_s, bI_0, bI_1, bI_t, bI_f, n_31, j_bit, j_one, i_and, i_or, Nat.not_lt_zero, Nat.succ_ne_zero, Nat.add_one_ne_zero, Nat.add_one_sub_one, Nat.zero_le, Nat.or_zero, Nat.zero_or, Bool.not_true, Bool.not_false, Bool.true_and, Bool.false_and, Bool.and_true, Bool.and_false, ↓reduceIte, if_true, if_false, not_true_eq_false, not_false_eq_true, true_and, and_true, false_and, and_false, and_self, true_or, or_true, false_or, or_false, Nat.reduceEqDiff, Nat.reduceLT, Nat.reduceLeDiff, Nat.reduceAdd, Nat.reduceMul, Nat.reduceSub, Nat.add_zero, Nat.zero_add, Nat.mul_zero, Nat.zero_mul, ne_eq, Bool.not_eq_true, Bool.not_eq_false, reduceCtorEq, decide_true, decide_false, decide_eq_true_eq, decide_eq_false_iff_not, Bool.false_eq_true, if_pos, if_neg, h148, Bool.toNat_true]
        rw [e5]
      | false =>
        simp (disch := omega) only [↓fLt_e, fBd_s, ↓fJn_s, fNn_s, fNu_0, fNu_s, fBo_0, fBo_1, fBo_b, i_lit, i_neg1, nI_add, pk_mul, nI_clamp, i_le, i_lt, i_eq, fIx_n, nI_mI, mI_nI, mI_lt, nI_lt_m, mI_le, nI_le_m, xI_0, xI_s, bI_0, bI_1, bI_t, bI_f, n_31, j_bit, j_one, i_and, i_or, Nat.not_lt_zero, Nat.succ_ne_zero, Nat.add_one_ne_zero, Nat.add_one_sub_one, Nat.zero_le, Nat.or_zero, Nat.zero_or, Bool.not_true, Bool.not_false, Bool.true_and, Bool.false_and, Bool.and_true, Bool.and_false, ↓reduceIte, if_true, if_false, not_true_eq_false, not_false_eq_true, true_and, and_true, false_and, and_false, and_self, true_or, or_true, false_or, or_false, Nat.reduceEqDiff, Nat.reduceLT, Nat.reduceLeDiff, Nat.reduceAdd, Nat.reduceMul, Nat.reduceSub, Nat.add_zero, Nat.zero_add, Nat.mul_zero, Nat.zero_mul, ne_eq, Bool.not_eq_true, Bool.not_eq_false, reduceCtorEq, decide_true, decide_false, decide_eq_true_eq, decide_eq_false_iff_not, Bool.false_eq_true, if_pos, if_neg, h148, Bool.toNat_false]
        rw [e5]
theorem rOne_k2 {sc sc' sm sm' : fSt} (h : ∀ c, (c = 0 ∨ c = 7 ∨ c = 8 ∨ c = 9) → ∀ i k, gI sc' c i k = gI sc c i k ∧ gL sc' c i k = gL sc c i k ∧ gA sc' c i k = gA sc c i k ∧ gB sc' c i k = gB sc c i k ∧ gP sc' c i k = gP sc c i k) (h2 : ∀ i k, gI sc' 2 i k = gI sc 2 i k ∧ gP sc' 2 i k = gP sc 2 i k) (ea : gA sm' 12 0 5 = gA sm 12 0 5) (eb : gB sm' 12 0 7 = gB sm 12 0 7) {k q : Nat} {G : Nat → Nat} (H : rOne sc sm k q G) : rOne sc' sm' k q G := by
  have e2 := fun i k => (h2 i k).1
  have e2p := fun i k => (h2 i k).2
  have e0 := fun i k => (h 0 (by decide) i k).1
  have e0a := fun i k => (h 0 (by decide) i k).2.2.1
  have e7 := fun i k => (h 7 (by decide) i k).1
  have e7a := fun i k => (h 7 (by decide) i k).2.2.1
  have e7b := fun i k => (h 7 (by decide) i k).2.2.2.1
  have e9 := fun i k => (h 9 (by decide) i k).1
  have e9a := fun i k => (h 9 (by decide) i k).2.2.1
  obtain ⟨h1, h2, h3, h4, h5⟩ := H
  refine ⟨h1, ?_, ?_, ?_, ?_⟩
  · unfold rHou rStg rBok at *
    simp only [e2, e2p, e0, e0a, e7, e7a]
    exact h2
  · simp only [ea]
    exact h3
  · unfold rNam at *
    simp only [e7b, eb]
    exact h4
  · unfold rWk at *
    simp only [e2p, e9]
    rcases h5 with h5 | ⟨a, w, m, b1, b2, b3, b4, b5⟩
    · exact Or.inl h5
    · exact Or.inr ⟨a, w, m, b1, b2, b3, b4, rBod_e e9a _ _ _ _ _ _ b5⟩
theorem RX_mk2 {sc sc' sm sm' : fSt} (h : ∀ c, (c = 0 ∨ c = 7 ∨ c = 8 ∨ c = 9) → ∀ i k, gI sc' c i k = gI sc c i k ∧ gL sc' c i k = gL sc c i k ∧ gA sc' c i k = gA sc c i k ∧ gB sc' c i k = gB sc c i k ∧ gP sc' c i k = gP sc c i k) (h2 : ∀ i k, gI sc' 2 i k = gI sc 2 i k ∧ gP sc' 2 i k = gP sc 2 i k)
    (x9 : gI sc' 11 0 9 = gI sc 11 0 9) (g : gI sm' 12 0 23 = gI sm 12 0 23 ∧ gA sm' 12 0 1 = gA sm 12 0 1 ∧ gA sm' 12 0 2 = gA sm 12 0 2 ∧ gA sm' 12 0 5 = gA sm 12 0 5 ∧ gB sm' 12 0 3 = gB sm 12 0 3 ∧ gB sm' 12 0 7 = gB sm 12 0 7)
    (H : RX sc sm) (hF : rF sc' sm') (hQ : rQ sc' sm') (hP : rP sc' sm') (hS : rS sc' sm') (hC : rC sc' sm') (hW : rW sc' sm') (hO : rO sc') : RX sc' sm' := by
  obtain ⟨-, -, h4, -, -, -, -, -, n, qq, GG, s1, s2, s3, s4⟩ := H
  obtain ⟨g1, g2, g3, g4, g5, g6⟩ := g
  refine ⟨hF, hQ, ?_, hP, hS, hC, hW, hO, n, qq, GG, s1, by rw [x9]; exact s2, by rw [g1]; exact s3, fun k hk => rOne_k2 h h2 g4 g6 (s4 k hk)⟩
  have e8 := fun i k => (h 8 (by decide) i k).1
  have e8b := fun i k => (h 8 (by decide) i k).2.2.2.1
  unfold rT at *
  simp only [e8, e8b, g2, g3, g5]
  exact h4
theorem call_often (a b c : Int32) : CALL (f_X11_often a b c) (f_X12_often a b c) := by
  intro sc sm ⟨hA, H⟩
  have H := pro_x H
  have z := pro_0 sm
  unfold f_X11_often f_X12_often
  simp only [fLt_e, pro_eq]
  generalize pro sm = s2 at *
  obtain ⟨q, G, w, X, B, N, K⟩ := RX_cur H
  have w1 := w.1
  have i1 : ∀ st, f_X11_isIn a (nI 0) (nI 9) st = some (bI (inB a.toInt 0 9), st) := fun st => x_isIn a 0 9 st
  have j1 : ∀ st, f_X12_isIn a.toInt64 0 9 st = some (bI (inB a.toInt 0 9), st) := fun st => m_isIn_c a 0 9 st
  have i2 : ∀ st, f_X11_isIn b (nI 0) (nI 9999) st = some (bI (inB b.toInt 0 9999), st) := fun st => x_isIn b 0 9999 st
  have i3 : ∀ st, f_X11_isIn c (nI 1) (nI 20) st = some (bI (inB c.toInt 1 20), st) := fun st => x_isIn c 1 20 st
  have j3 : ∀ st, f_X12_isIn c.toInt64 1 20 st = some (bI (inB c.toInt 1 20), st) := fun st => m_isIn_c c 1 20 st
  have h217 : gA s2 12 0 5 217 = nI (G 217) := B.2.2.2.2.2.1.1
  have j2 : 1 ≤ c.toInt ∧ c.toInt ≤ 20 → ∀ st, f_X12_isIn b.toInt64 0 (nI 10000 - c).toInt64 st = some (bI (inB b.toInt 0 (10000 - c.toInt)), st) := by
    intro hc st
    obtain ⟨cn, h1, rfl, h2⟩ := nI_ofInt (a := c) (n := 21) (by omega) (by omega)
    have e1 : (nI 10000 - nI cn).toInt = 10000 - (cn : Int) := nI_subI (by omega) (by omega)
    rw [m_isIn, Int32.toInt_toInt64, Int32.toInt_toInt64, e1, nI_toInt (by omega)]
    rfl
  by_cases ha : 0 ≤ a.toInt ∧ a.toInt ≤ 9
  · rw [inB_t.mpr (by omega)] at i1 j1
    by_cases hc : 1 ≤ c.toInt ∧ c.toInt ≤ 20
    · rw [inB_t.mpr (by omega)] at i3 j3
      have j2 := j2 hc
      by_cases hb : 0 ≤ b.toInt ∧ b.toInt ≤ 9999
      · rw [inB_t.mpr (by omega)] at i2
        obtain ⟨e, he, rfl, -⟩ := nI_ofInt (a := a) (n := 10) ha.1 (by omega)
        obtain ⟨seed, hseed, rfl, -⟩ := nI_ofInt (a := b) (n := 10000) hb.1 (by omega)
        obtain ⟨many, hmany, rfl, -⟩ := nI_ofInt (a := c) (n := 21) (by omega) (by omega)
        rw [nI_toInt (by omega)] at hc
        have hsm : nI seed + nI many - nI 1 = nI (seed + many - 1) := by rw [nI_add, nI_sub (by omega)]
        by_cases hsum : seed + many ≤ 10000
        · rw [inB_t.mpr (by rw [nI_toInt (by omega), nI_toInt (by omega)]; omega)] at j2
          have hle : seed + many - 1 ≤ 9999 := by omega
          rcases K with ⟨k1, k2⟩ | ⟨k1, wk, M, k2, k3, k4, k5, k6⟩
          · rw [k1] at h217
            have hle' : nI seed + nI many - nI 1 ≤ nI 9999 := by rw [hsm, i_le _ _ (by omega) (by omega)]; exact hle
            refine ⟨nI 0, sI sc 11 0 2 (nI 8), sI s2 12 0 0 (nI 8), ?_, ?_, fin_st H _⟩
            · simp (disch := omega) only [↓fLt_e, fBd_s, ↓fJn_s, fNn_s, fNu_0, fNu_s, fBo_0, fBo_1, fBo_b, Nat.not_lt_zero, Nat.succ_ne_zero, Nat.add_one_ne_zero, Nat.add_one_sub_one, Nat.zero_le, Nat.or_zero, Nat.zero_or, Bool.not_true, Bool.not_false, Bool.true_and, Bool.false_and, Bool.and_true, Bool.and_false, ↓reduceIte, if_true, if_false, not_true_eq_false, not_false_eq_true, true_and, and_true, false_and, and_false, and_self, true_or, or_true, false_or, or_false, Nat.reduceEqDiff, Nat.reduceLT, Nat.reduceLeDiff, Nat.reduceAdd, Nat.reduceMul, Nat.reduceSub, Nat.add_zero, Nat.zero_add, Nat.mul_zero, Nat.zero_mul, ne_eq, Bool.not_eq_true, Bool.not_eq_false, reduceCtorEq, decide_true, decide_false, decide_eq_true_eq, decide_eq_false_iff_not, Bool.false_eq_true, i_lit, bI_0, bI_1, bI_t, bI_f, i_eq, i1, i2, i3, k2, f_X11_refuse]
              rw [if_pos hle']
            · simp (disch := omega) only [↓fLt_e, fBd_s, ↓fJn_s, fNn_s, fNu_0, fNu_s, fBo_0, fBo_1, fBo_b, i_lit, i_neg1, nI_add, pk_mul, nI_clamp, i_le, i_lt, i_eq, fIx_n, nI_mI, mI_nI, mI_lt, nI_lt_m, mI_le, nI_le_m, xI_0, xI_s, bI_0, bI_1, bI_t, bI_f, n_31, j_bit, j_one, i_and, i_or, Nat.not_lt_zero, Nat.succ_ne_zero, Nat.add_one_ne_zero, Nat.add_one_sub_one, Nat.zero_le, Nat.or_zero, Nat.zero_or, Bool.not_true, Bool.not_false, Bool.true_and, Bool.false_and, Bool.and_true, Bool.and_false, ↓reduceIte, if_true, if_false, not_true_eq_false, not_false_eq_true, true_and, and_true, false_and, and_false, and_self, true_or, or_true, false_or, or_false, Nat.reduceEqDiff, Nat.reduceLT, Nat.reduceLeDiff, Nat.reduceAdd, Nat.reduceMul, Nat.reduceSub, Nat.add_zero, Nat.zero_add, Nat.mul_zero, Nat.zero_mul, ne_eq, Bool.not_eq_true, Bool.not_eq_false, reduceCtorEq, decide_true, decide_false, decide_eq_true_eq, decide_eq_false_iff_not, Bool.false_eq_true, if_pos, if_neg, j1, j2, j3, h217, f_X12_no]
          · rw [k1] at h217
            have R0 : ofR sc s2 sc (sA s2 12 0 6 (fun k => if k < 217 then gA s2 12 0 5 k else gA s2 12 0 6 k)) G := by
              refine ⟨cFr_rf 1 false sc, X.2.2.1, fun c' j k hk => ⟨rfl, rfl, ?_, rfl, rfl⟩, rfl, fun k hk => ?_⟩
              · rw [gA_sA, if_neg (fun hh => hk ⟨hh.1, hh.2.1, Or.inr (Or.inl hh.2.2)⟩)]
              · rw [gA_same, if_pos hk]
            obtain ⟨s', t', n', g1, g2, g3, g4⟩ := of_loop (e := e) (seed := seed) (many := many) X w B k2 k3 k4 k6 (by omega) hseed (by omega) (by omega) many 0 0 sc (sA s2 12 0 6 (fun k => if k < 217 then gA s2 12 0 5 k else gA s2 12 0 6 k)) fF fF (by omega) (by omega) (fF_lt (by omega)) (fF_lt (by omega)) R0
            have h76 := fun k15 => m_ofL76 k15 s2
            have hle' : nI seed + nI many - nI 1 ≤ nI 9999 := by rw [hsm, i_le _ _ (by omega) (by omega)]; exact hle
            have hxt := x_tell (a := n') (b := many) (by omega) (by omega) (by omega) s'
            have hmf := m_frac (a := n') (b := many) (by omega) (by omega) (by omega) t'
            rw [nI_l (by omega), nI_l (by omega), hxt] at g3
            rw [nI_l (by omega), nI_l (by omega), hmf] at g4
            have f2 := fun j k => g2.1.1 2 j k
            have hRX : RX s' t' := by
              obtain ⟨hc1, ⟨hc4, hc5⟩, hm, hm5, hm6⟩ := g2
              refine RX_mk2 (sc := sc) (sm := s2) (fun c' hc' j k => ?_) (fun j k => ?_) (hc1.1 11 0 9 (by unfold cFc; simp)).1 ⟨(hm 12 0 23 (by omega)).1, (hm 12 0 1 (by omega)).2.2.1, (hm 12 0 2 (by omega)).2.2.1, hm5, (hm 12 0 3 (by omega)).2.2.2.1, (hm 12 0 7 (by omega)).2.2.2.1⟩ H ?_ ?_ ?_ ?_ ?_ ?_ ?_
              · have h : ¬ cFc 1 false c' j k := by
                  unfold cFc
                  rcases hc' with rfl | rfl | rfl | rfl <;> simp
                have h := hc1.1 c' j k h
                exact ⟨h.1, h.2.1, h.2.2.1, h.2.2.2, hc1.2 _ _ _⟩
              · refine ⟨?_, hc1.2 _ _ _⟩
                by_cases hjk : j = 0 ∧ (k = 2 ∨ k = 3)
                · obtain ⟨rfl, hk⟩ := hjk
                  rcases hk with rfl | rfl
                  · rw [hc4]; exact X.2.2.1.1.symm
                  · rw [hc5]; exact X.2.2.1.2.symm
                · exact (hc1.1 2 j k (by unfold cFc; omega)).1
              · have h := H.1
                unfold rF at *
                rw [(hc1.1 11 0 3 (by unfold cFc; simp)).2.1, (hc1.1 11 0 4 (by unfold cFc; simp)).2.1, (hm 12 0 2 (by omega)).2.1, (hm 12 0 3 (by omega)).2.1]
                exact h
              · have h := H.2.1
                unfold rQ at *
                rw [(hc1.1 11 0 5 (by unfold cFc; simp)).1, (hc1.1 11 0 6 (by unfold cFc; simp)).1, (hm 12 0 10 (by omega)).1, (hm 12 0 11 (by omega)).1]
                exact h
              · have h := H.2.2.2.1
                unfold rP at *
                rw [(hc1.1 5 0 2 (by unfold cFc; simp)).1, (hc1.1 5 0 1 (by unfold cFc; simp)).2.2.1, (hc1.1 5 0 2 (by unfold cFc; simp)).2.2.2, (hm 12 0 8 (by omega)).1, (hm 12 0 4 (by omega)).2.2.1]
                exact h
              · have h := H.2.2.2.2.1
                unfold rS at *
                rw [(hc1.1 11 0 17 (by unfold cFc; simp)).1, (hc1.1 11 0 3 (by unfold cFc; simp)).2.2.1, (hm 12 0 46 (by omega)).1, (hm 12 0 16 (by omega)).2.2.1]
                exact h
              · have h := H.2.2.2.2.2.1
                unfold rC at *
                rw [(hc1.1 1 0 1 (by unfold cFc; simp)).2.2.1, (hm 12 0 54 (by omega)).1, (hm 12 0 20 (by omega)).2.2.1]
                exact h
              · have h := H.2.2.2.2.2.2.1
                have hw := fun k => (hc1.1 10 0 k (by unfold cFc; simp)).1
                unfold rW at *
                simp only [hw, (hm 12 0 56 (by omega)).1, (hm 12 0 22 (by omega)).2.2.1]
                exact h
              · have h := H.2.2.2.2.2.2.2.1
                unfold rO at *
                rw [(hc1.1 4 0 1 (by unfold cFc; simp)).2.2.2]
                exact h
            have hz : gI t' 12 0 0 = 0 := by rw [(g2.2.2.1 12 0 0 (by omega)).1]; exact z
            refine ⟨nI 1, _, _, ?_, ?_, fin_fr hRX hz (lN (n' / Nat.gcd n' many)) (lN (many / Nat.gcd n' many))⟩
            · simp (disch := omega) only [↓fLt_e, fBd_s, ↓fJn_s, fNn_s, fNu_0, fNu_s, fBo_0, fBo_1, fBo_b, Nat.not_lt_zero, Nat.succ_ne_zero, Nat.add_one_ne_zero, Nat.add_one_sub_one, Nat.zero_le, Nat.or_zero, Nat.zero_or, Bool.not_true, Bool.not_false, Bool.true_and, Bool.false_and, Bool.and_true, Bool.and_false, ↓reduceIte, if_true, if_false, not_true_eq_false, not_false_eq_true, true_and, and_true, false_and, and_false, and_self, true_or, or_true, false_or, or_false, Nat.reduceEqDiff, Nat.reduceLT, Nat.reduceLeDiff, Nat.reduceAdd, Nat.reduceMul, Nat.reduceSub, Nat.add_zero, Nat.zero_add, Nat.mul_zero, Nat.zero_mul, ne_eq, Bool.not_eq_true, Bool.not_eq_false, reduceCtorEq, decide_true, decide_false, decide_eq_true_eq, decide_eq_false_iff_not, Bool.false_eq_true, i_lit, bI_0, bI_1, bI_t, bI_f, i_eq, i1, i2, i3, k2]
              rw [if_pos hle', g3]
              simp only [fBd_s, fBo_1]
            · simp (disch := omega) only [↓fLt_e, fBd_s, ↓fJn_s, fNn_s, fNu_0, fNu_s, fBo_0, fBo_1, fBo_b, i_lit, i_neg1, nI_add, pk_mul, nI_clamp, i_le, i_lt, i_eq, fIx_n, nI_mI, mI_nI, mI_lt, nI_lt_m, mI_le, nI_le_m, xI_0, xI_s, bI_0, bI_1, bI_t, bI_f, n_31, j_bit, j_one, i_and, i_or, Nat.not_lt_zero, Nat.succ_ne_zero, Nat.add_one_ne_zero, Nat.add_one_sub_one, Nat.zero_le, Nat.or_zero, Nat.zero_or, Bool.not_true, Bool.not_false, Bool.true_and, Bool.false_and, Bool.and_true, Bool.and_false, ↓reduceIte, if_true, if_false, not_true_eq_false, not_false_eq_true, true_and, and_true, false_and, and_false, and_self, true_or, or_true, false_or, or_false, Nat.reduceEqDiff, Nat.reduceLT, Nat.reduceLeDiff, Nat.reduceAdd, Nat.reduceMul, Nat.reduceSub, Nat.add_zero, Nat.zero_add, Nat.mul_zero, Nat.zero_mul, ne_eq, Bool.not_eq_true, Bool.not_eq_false, reduceCtorEq, decide_true, decide_false, decide_eq_true_eq, decide_eq_false_iff_not, Bool.false_eq_true, if_pos, if_neg, j1, j2, j3, h217, h76]
              rw [g4]
              simp only [fBd_s, fBo_1]
        · rw [inB_f.mpr (by rw [nI_toInt (by omega), nI_toInt (by omega)]; omega)] at j2
          have hle' : ¬ nI seed + nI many - nI 1 ≤ nI 9999 := by rw [hsm, i_le _ _ (by omega) (by omega)]; omega
          refine ⟨nI 0, sI sc 11 0 2 (nI 5), sI s2 12 0 0 (nI 5), ?_, ?_, fin_st H _⟩
          · simp (disch := omega) only [↓fLt_e, fBd_s, ↓fJn_s, fNn_s, fNu_0, fNu_s, fBo_0, fBo_1, fBo_b, Nat.not_lt_zero, Nat.succ_ne_zero, Nat.add_one_ne_zero, Nat.add_one_sub_one, Nat.zero_le, Nat.or_zero, Nat.zero_or, Bool.not_true, Bool.not_false, Bool.true_and, Bool.false_and, Bool.and_true, Bool.and_false, ↓reduceIte, if_true, if_false, not_true_eq_false, not_false_eq_true, true_and, and_true, false_and, and_false, and_self, true_or, or_true, false_or, or_false, Nat.reduceEqDiff, Nat.reduceLT, Nat.reduceLeDiff, Nat.reduceAdd, Nat.reduceMul, Nat.reduceSub, Nat.add_zero, Nat.zero_add, Nat.mul_zero, Nat.zero_mul, ne_eq, Bool.not_eq_true, Bool.not_eq_false, reduceCtorEq, decide_true, decide_false, decide_eq_true_eq, decide_eq_false_iff_not, Bool.false_eq_true, i_lit, bI_0, bI_1, bI_t, bI_f, i_eq, i1, i2, i3, f_X11_refuse]
            rw [if_neg hle']
          · simp (disch := omega) only [↓fLt_e, fBd_s, ↓fJn_s, fNn_s, fNu_0, fNu_s, fBo_0, fBo_1, fBo_b, i_lit, i_neg1, nI_add, pk_mul, nI_clamp, i_le, i_lt, i_eq, fIx_n, nI_mI, mI_nI, mI_lt, nI_lt_m, mI_le, nI_le_m, xI_0, xI_s, bI_0, bI_1, bI_t, bI_f, n_31, j_bit, j_one, i_and, i_or, Nat.not_lt_zero, Nat.succ_ne_zero, Nat.add_one_ne_zero, Nat.add_one_sub_one, Nat.zero_le, Nat.or_zero, Nat.zero_or, Bool.not_true, Bool.not_false, Bool.true_and, Bool.false_and, Bool.and_true, Bool.and_false, ↓reduceIte, if_true, if_false, not_true_eq_false, not_false_eq_true, true_and, and_true, false_and, and_false, and_self, true_or, or_true, false_or, or_false, Nat.reduceEqDiff, Nat.reduceLT, Nat.reduceLeDiff, Nat.reduceAdd, Nat.reduceMul, Nat.reduceSub, Nat.add_zero, Nat.zero_add, Nat.mul_zero, Nat.zero_mul, ne_eq, Bool.not_eq_true, Bool.not_eq_false, reduceCtorEq, decide_true, decide_false, decide_eq_true_eq, decide_eq_false_iff_not, Bool.false_eq_true, if_pos, if_neg, j1, j2, j3, f_X12_no]
      · rw [inB_f.mpr (by omega)] at i2
        rw [inB_f.mpr (by omega)] at j2
        refine ⟨nI 0, sI sc 11 0 2 (nI 5), sI s2 12 0 0 (nI 5), ?_, ?_, fin_st H _⟩
        · simp (disch := omega) only [↓fLt_e, fBd_s, ↓fJn_s, fNn_s, fNu_0, fNu_s, fBo_0, fBo_1, fBo_b, i_lit, i_neg1, nI_add, pk_mul, nI_clamp, i_le, i_lt, i_eq, fIx_n, nI_mI, mI_nI, mI_lt, nI_lt_m, mI_le, nI_le_m, xI_0, xI_s, bI_0, bI_1, bI_t, bI_f, n_31, j_bit, j_one, i_and, i_or, Nat.not_lt_zero, Nat.succ_ne_zero, Nat.add_one_ne_zero, Nat.add_one_sub_one, Nat.zero_le, Nat.or_zero, Nat.zero_or, Bool.not_true, Bool.not_false, Bool.true_and, Bool.false_and, Bool.and_true, Bool.and_false, ↓reduceIte, if_true, if_false, not_true_eq_false, not_false_eq_true, true_and, and_true, false_and, and_false, and_self, true_or, or_true, false_or, or_false, Nat.reduceEqDiff, Nat.reduceLT, Nat.reduceLeDiff, Nat.reduceAdd, Nat.reduceMul, Nat.reduceSub, Nat.add_zero, Nat.zero_add, Nat.mul_zero, Nat.zero_mul, ne_eq, Bool.not_eq_true, Bool.not_eq_false, reduceCtorEq, decide_true, decide_false, decide_eq_true_eq, decide_eq_false_iff_not, Bool.false_eq_true, if_pos, if_neg, i1, i2, i3, f_X11_refuse]
        · simp (disch := omega) only [↓fLt_e, fBd_s, ↓fJn_s, fNn_s, fNu_0, fNu_s, fBo_0, fBo_1, fBo_b, i_lit, i_neg1, nI_add, pk_mul, nI_clamp, i_le, i_lt, i_eq, fIx_n, nI_mI, mI_nI, mI_lt, nI_lt_m, mI_le, nI_le_m, xI_0, xI_s, bI_0, bI_1, bI_t, bI_f, n_31, j_bit, j_one, i_and, i_or, Nat.not_lt_zero, Nat.succ_ne_zero, Nat.add_one_ne_zero, Nat.add_one_sub_one, Nat.zero_le, Nat.or_zero, Nat.zero_or, Bool.not_true, Bool.not_false, Bool.true_and, Bool.false_and, Bool.and_true, Bool.and_false, ↓reduceIte, if_true, if_false, not_true_eq_false, not_false_eq_true, true_and, and_true, false_and, and_false, and_self, true_or, or_true, false_or, or_false, Nat.reduceEqDiff, Nat.reduceLT, Nat.reduceLeDiff, Nat.reduceAdd, Nat.reduceMul, Nat.reduceSub, Nat.add_zero, Nat.zero_add, Nat.mul_zero, Nat.zero_mul, ne_eq, Bool.not_eq_true, Bool.not_eq_false, reduceCtorEq, decide_true, decide_false, decide_eq_true_eq, decide_eq_false_iff_not, Bool.false_eq_true, if_pos, if_neg, j1, j2, j3, f_X12_no]
    · rw [inB_f.mpr (by omega)] at i3 j3
      refine ⟨nI 0, sI sc 11 0 2 (nI 5), sI s2 12 0 0 (nI 5), ?_, ?_, fin_st H _⟩
      · cases hi2 : inB b.toInt 0 9999 with
        | true =>
          rw [hi2] at i2
          simp (disch := omega) only [↓fLt_e, fBd_s, ↓fJn_s, fNn_s, fNu_0, fNu_s, fBo_0, fBo_1, fBo_b, i_lit, i_neg1, nI_add, pk_mul, nI_clamp, i_le, i_lt, i_eq, fIx_n, nI_mI, mI_nI, mI_lt, nI_lt_m, mI_le, nI_le_m, xI_0, xI_s, bI_0, bI_1, bI_t, bI_f, n_31, j_bit, j_one, i_and, i_or, Nat.not_lt_zero, Nat.succ_ne_zero, Nat.add_one_ne_zero, Nat.add_one_sub_one, Nat.zero_le, Nat.or_zero, Nat.zero_or, Bool.not_true, Bool.not_false, Bool.true_and, Bool.false_and, Bool.and_true, Bool.and_false, ↓reduceIte, if_true, if_false, not_true_eq_false, not_false_eq_true, true_and, and_true, false_and, and_false, and_self, true_or, or_true, false_or, or_false, Nat.reduceEqDiff, Nat.reduceLT, Nat.reduceLeDiff, Nat.reduceAdd, Nat.reduceMul, Nat.reduceSub, Nat.add_zero, Nat.zero_add, Nat.mul_zero, Nat.zero_mul, ne_eq, Bool.not_eq_true, Bool.not_eq_false, reduceCtorEq, decide_true, decide_false, decide_eq_true_eq, decide_eq_false_iff_not, Bool.false_eq_true, if_pos, if_neg, i1, i2, i3, f_X11_refuse]
        | false =>
          rw [hi2] at i2
          simp (disch := omega) only [↓fLt_e, fBd_s, ↓fJn_s, fNn_s, fNu_0, fNu_s, fBo_0, fBo_1, fBo_b, i_lit, i_neg1, nI_add, pk_mul, nI_clamp, i_le, i_lt, i_eq, fIx_n, nI_mI, mI_nI, mI_lt, nI_lt_m, mI_le, nI_le_m, xI_0, xI_s, bI_0, bI_1, bI_t, bI_f, n_31, j_bit, j_one, i_and, i_or, Nat.not_lt_zero, Nat.succ_ne_zero, Nat.add_one_ne_zero, Nat.add_one_sub_one, Nat.zero_le, Nat.or_zero, Nat.zero_or, Bool.not_true, Bool.not_false, Bool.true_and, Bool.false_and, Bool.and_true, Bool.and_false, ↓reduceIte, if_true, if_false, not_true_eq_false, not_false_eq_true, true_and, and_true, false_and, and_false, and_self, true_or, or_true, false_or, or_false, Nat.reduceEqDiff, Nat.reduceLT, Nat.reduceLeDiff, Nat.reduceAdd, Nat.reduceMul, Nat.reduceSub, Nat.add_zero, Nat.zero_add, Nat.mul_zero, Nat.zero_mul, ne_eq, Bool.not_eq_true, Bool.not_eq_false, reduceCtorEq, decide_true, decide_false, decide_eq_true_eq, decide_eq_false_iff_not, Bool.false_eq_true, if_pos, if_neg, i1, i2, i3, f_X11_refuse]
      · simp (disch := omega) only [↓fLt_e, fBd_s, ↓fJn_s, fNn_s, fNu_0, fNu_s, fBo_0, fBo_1, fBo_b, i_lit, i_neg1, nI_add, pk_mul, nI_clamp, i_le, i_lt, i_eq, fIx_n, nI_mI, mI_nI, mI_lt, nI_lt_m, mI_le, nI_le_m, xI_0, xI_s, bI_0, bI_1, bI_t, bI_f, n_31, j_bit, j_one, i_and, i_or, Nat.not_lt_zero, Nat.succ_ne_zero, Nat.add_one_ne_zero, Nat.add_one_sub_one, Nat.zero_le, Nat.or_zero, Nat.zero_or, Bool.not_true, Bool.not_false, Bool.true_and, Bool.false_and, Bool.and_true, Bool.and_false, ↓reduceIte, if_true, if_false, not_true_eq_false, not_false_eq_true, true_and, and_true, false_and, and_false, and_self, true_or, or_true, false_or, or_false, Nat.reduceEqDiff, Nat.reduceLT, Nat.reduceLeDiff, Nat.reduceAdd, Nat.reduceMul, Nat.reduceSub, Nat.add_zero, Nat.zero_add, Nat.mul_zero, Nat.zero_mul, ne_eq, Bool.not_eq_true, Bool.not_eq_false, reduceCtorEq, decide_true, decide_false, decide_eq_true_eq, decide_eq_false_iff_not, Bool.false_eq_true, if_pos, if_neg, j1, j3, f_X12_no]
  · rw [inB_f.mpr (by omega)] at i1 j1
    refine ⟨nI 0, sI sc 11 0 2 (nI 5), sI s2 12 0 0 (nI 5), ?_, ?_, fin_st H _⟩
    · simp (disch := omega) only [↓fLt_e, fBd_s, ↓fJn_s, fNn_s, fNu_0, fNu_s, fBo_0, fBo_1, fBo_b, i_lit, i_neg1, nI_add, pk_mul, nI_clamp, i_le, i_lt, i_eq, fIx_n, nI_mI, mI_nI, mI_lt, nI_lt_m, mI_le, nI_le_m, xI_0, xI_s, bI_0, bI_1, bI_t, bI_f, n_31, j_bit, j_one, i_and, i_or, Nat.not_lt_zero, Nat.succ_ne_zero, Nat.add_one_ne_zero, Nat.add_one_sub_one, Nat.zero_le, Nat.or_zero, Nat.zero_or, Bool.not_true, Bool.not_false, Bool.true_and, Bool.false_and, Bool.and_true, Bool.and_false, ↓reduceIte, if_true, if_false, not_true_eq_false, not_false_eq_true, true_and, and_true, false_and, and_false, and_self, true_or, or_true, false_or, or_false, Nat.reduceEqDiff, Nat.reduceLT, Nat.reduceLeDiff, Nat.reduceAdd, Nat.reduceMul, Nat.reduceSub, Nat.add_zero, Nat.zero_add, Nat.mul_zero, Nat.zero_mul, ne_eq, Bool.not_eq_true, Bool.not_eq_false, reduceCtorEq, decide_true, decide_false, decide_eq_true_eq, decide_eq_false_iff_not, Bool.false_eq_true, if_pos, if_neg, i1, f_X11_refuse]
    · simp (disch := omega) only [↓fLt_e, fBd_s, ↓fJn_s, fNn_s, fNu_0, fNu_s, fBo_0, fBo_1, fBo_b, i_lit, i_neg1, nI_add, pk_mul, nI_clamp, i_le, i_lt, i_eq, fIx_n, nI_mI, mI_nI, mI_lt, nI_lt_m, mI_le, nI_le_m, xI_0, xI_s, bI_0, bI_1, bI_t, bI_f, n_31, j_bit, j_one, i_and, i_or, Nat.not_lt_zero, Nat.succ_ne_zero, Nat.add_one_ne_zero, Nat.add_one_sub_one, Nat.zero_le, Nat.or_zero, Nat.zero_or, Bool.not_true, Bool.not_false, Bool.true_and, Bool.false_and, Bool.and_true, Bool.and_false, ↓reduceIte, if_true, if_false, not_true_eq_false, not_false_eq_true, true_and, and_true, false_and, and_false, and_self, true_or, or_true, false_or, or_false, Nat.reduceEqDiff, Nat.reduceLT, Nat.reduceLeDiff, Nat.reduceAdd, Nat.reduceMul, Nat.reduceSub, Nat.add_zero, Nat.zero_add, Nat.mul_zero, Nat.zero_mul, ne_eq, Bool.not_eq_true, Bool.not_eq_false, reduceCtorEq, decide_true, decide_false, decide_eq_true_eq, decide_eq_false_iff_not, Bool.false_eq_true, if_pos, if_neg, j1, f_X12_no]
