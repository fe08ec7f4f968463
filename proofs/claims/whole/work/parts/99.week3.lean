/-! layer 2: the rest of a step, word by word -/
section
variable {n : Nat} {c : Nat → Nat} {G : Nat → Nat} {w q i x wd K : Nat} {R : fSt → Option (Unit × fSt)} {s t t1 : fSt} {a p so : Nat}
theorem rs_told {jj o m ni : Nat} (P1 : psR s t1 n c a p so) (hm : 28 * 0 + o + m ≤ 140 ∧ m ≤ ni ∧ ni ≤ 140) (hN : ∀ k, k < m → gB s 7 q jj k = gB t1 12 0 7 (28 * 0 + o + k))
    (hX1 : ∀ s', f_X5_takeName 7 q jj ni (nI m) s = some (nI 1, s') → f_X9_readRest w q s = some (nI 1, s')) (hX0 : ∀ s', f_X5_takeName 7 q jj ni (nI m) s = some (nI 0, s') → f_X9_readRest w q s = some (nI 0, s'))
    (hM : R t = fBd (f_X12_readTold (nI 0) (nI o) (nI m) t1) fun r s => some ((), wA s (x + 1) r)) (g : yV (rsE x) t t1) (h24 : gI t1 12 0 24 = gI t 12 0 24)
    (hF : ∀ v s' t', v < m → gI s' 5 0 9 = nI v → gA t' 12 0 5 (x + 1) = nI v → (∀ k, k ≠ x + 1 → gA t' 12 0 5 k = gA t1 12 0 5 k) → FF G w i x wd K s' t') : rsO n c G w q i x wd K p R s t := by
  obtain ⟨s2, t2, r, e2, f2, g2, h⟩ := ps_told P1 hm hN
  have hpp := P1.2.2.1.2.2.2.2
  rw [e2, fBd_s] at hM
  have g3 : yV (rsE x) t (wA t2 (x + 1) r) := yV_tr g (yV_tr (yV_y g2) (yV_A t2 r ⟨by omega, by omega⟩))
  have h3 : gI (wA t2 (x + 1) r) 12 0 24 = gI t 12 0 24 := (g2.1 _ _ _ (by omega)).trans h24
  rcases h with ⟨v, hv, -, rfl, d2, h9, a2, p2, o2, P2, m1, -⟩ | ⟨d2, d, F⟩
  · have hpp2 := P2.2.2.1.2.2.2.2
    exact rs_ok (hX1 _ d2) hM (ps_wA P2 _ _) (by omega) (xV_x f2) g3 h3 (hF v _ _ hv h9 (wA_at _ _ _) (fun k hk => (wA_ne _ hk).trans (by rw [g2.2.2.1])))
  · exact rs_no (hX0 _ d2) hM (show flR s2 (wA t2 (x + 1) r) d a from F) (xV_x f2) g3 h3
theorem rs_cnt {lo hi : Nat} (P1 : psR s t1 n c a p so) (hl : lo < 10000 ∧ hi < 10000) (hX : f_X9_readRest w q s = fBd (f_X5_takeNumber (nI lo) (nI hi) s) fun x s => fBo x (some (x, s)))
    (hM : R t = fBd (f_X12_count (nI lo) (nI hi) t1) fun r s => some ((), wA s (x + 1) r)) (g : yV (rsE x) t t1) (h24 : gI t1 12 0 24 = gI t 12 0 24)
    (hF : ∀ v s' t', lo ≤ v ∧ v ≤ hi → gI s' 5 0 9 = nI v → gA t' 12 0 5 (x + 1) = nI v → (∀ k, k ≠ x + 1 → gA t' 12 0 5 k = gA t1 12 0 5 k) → FF G w i x wd K s' t') : rsO n c G w q i x wd K p R s t := by
  obtain ⟨s2, t2, r, e2, f2, g2, h⟩ := ps_count P1 hl
  have hpp := P1.2.2.1.2.2.2.2
  rw [e2, fBd_s] at hM
  have g3 : yV (rsE x) t (wA t2 (x + 1) (nI r)) := yV_tr g (yV_tr (yV_y g2) (yV_A t2 (nI r) ⟨by omega, by omega⟩))
  have h3 : gI (wA t2 (x + 1) (nI r)) 12 0 24 = gI t 12 0 24 := (g2.1 _ _ _ (by omega)).trans h24
  rcases h with ⟨h1, h2, d2, h9, a2, p2, o2, P2, m1, -⟩ | ⟨d2, -, d, F⟩
  · have hpp2 := P2.2.2.1.2.2.2.2
    exact rs_ok (by rw [hX, d2, fBd_s, fBo_ye]) hM (ps_wA P2 _ _) (by omega) (xV_x f2) g3 h3 (hF r _ _ ⟨h1, h2⟩ h9 (wA_at _ _ _) (fun k hk => (wA_ne _ hk).trans (by rw [g2.2.2.1])))
  · exact rs_no (by rw [hX, d2, fBd_s, fBo_no]) hM (show flR s2 (wA t2 (x + 1) (nI r)) d a from F) (xV_x f2) g3 h3
theorem ps_t1 (P : psR s t n c a p so) : (gI t 12 0 14 = nI 1) ↔ so ≤ 33 := by
  rcases P.2.1 with ⟨h, h2, h3⟩ | ⟨h, h2, h3⟩ | ⟨h, h2, h3, -⟩ | ⟨h, h2, h3, -⟩ | ⟨h, h2, h3, -⟩ | ⟨h, h2, h3, -⟩ <;> rw [h3, i_eq _ _ (by omega) (by omega)] <;> omega
theorem m_must_0 (hb : gI t 12 0 12 = nI 0) : f_X12_must (nI 0) t = f_X12_wrong t := by
  unfold f_X12_must
  simp (disch := omega) only [↓fLt_e, fBd_s, ↓fJn_s, fNn_s, fNu_0, fNu_s, fBo_0, fBo_1, fBo_b, i_lit, i_neg1, nI_add, pk_mul, nI_clamp, i_le, i_lt, i_eq, fIx_n, nI_mI, mI_nI, mI_lt, nI_lt_m, mI_le, nI_le_m, xI_0, xI_s, bI_0, bI_1, bI_t, bI_f, n_31, j_bit, j_one, i_and, i_or, Nat.not_lt_zero, Nat.succ_ne_zero, Nat.add_one_ne_zero, Nat.add_one_sub_one, Nat.zero_le, Nat.or_zero, Nat.zero_or, Bool.not_true, Bool.not_false, Bool.true_and, Bool.false_and, Bool.and_true, Bool.and_false, ↓reduceIte, if_true, if_false, not_true_eq_false, not_false_eq_true, true_and, and_true, false_and, and_false, and_self, true_or, or_true, false_or, or_false, Nat.reduceEqDiff, Nat.reduceLT, Nat.reduceLeDiff, Nat.reduceAdd, Nat.reduceMul, Nat.reduceSub, Nat.add_zero, Nat.zero_add, Nat.mul_zero, Nat.zero_mul, ne_eq, Bool.not_eq_true, Bool.not_eq_false, reduceCtorEq, decide_true, decide_false, decide_eq_true_eq, decide_eq_false_iff_not, Bool.false_eq_true, if_pos, if_neg, hb]
  generalize f_X12_wrong t = o
  cases o <;> rfl
theorem m_must_1 (hb : gI t 12 0 12 = nI 0) : f_X12_must (nI 1) t = f_X12_next t := by
  unfold f_X12_must
  simp (disch := omega) only [↓fLt_e, fBd_s, ↓fJn_s, fNn_s, fNu_0, fNu_s, fBo_0, fBo_1, fBo_b, i_lit, i_neg1, nI_add, pk_mul, nI_clamp, i_le, i_lt, i_eq, fIx_n, nI_mI, mI_nI, mI_lt, nI_lt_m, mI_le, nI_le_m, xI_0, xI_s, bI_0, bI_1, bI_t, bI_f, n_31, j_bit, j_one, i_and, i_or, Nat.not_lt_zero, Nat.succ_ne_zero, Nat.add_one_ne_zero, Nat.add_one_sub_one, Nat.zero_le, Nat.or_zero, Nat.zero_or, Bool.not_true, Bool.not_false, Bool.true_and, Bool.false_and, Bool.and_true, Bool.and_false, ↓reduceIte, if_true, if_false, not_true_eq_false, not_false_eq_true, true_and, and_true, false_and, and_false, and_self, true_or, or_true, false_or, or_false, Nat.reduceEqDiff, Nat.reduceLT, Nat.reduceLeDiff, Nat.reduceAdd, Nat.reduceMul, Nat.reduceSub, Nat.add_zero, Nat.zero_add, Nat.mul_zero, Nat.zero_mul, ne_eq, Bool.not_eq_true, Bool.not_eq_false, reduceCtorEq, decide_true, decide_false, decide_eq_true_eq, decide_eq_false_iff_not, Bool.false_eq_true, if_pos, if_neg, hb]
  generalize f_X12_next t = o
  cases o <;> rfl
theorem m_sign_v (k : Int32) (t : fSt) : f_X12_isSign k t = some (bI (decide (gI t 12 0 14 = nI 3) && decide (gI t 12 0 17 = k)), t) := by
  unfold f_X12_isSign
  simp only [↓fJn_s, i_lit]
  by_cases h : gI t 12 0 14 = nI 3
  · by_cases g : gI t 12 0 17 = k
    · simp (disch := omega) only [↓fLt_e, fBd_s, ↓fJn_s, fNn_s, fNu_0, fNu_s, fBo_0, fBo_1, fBo_b, i_lit, i_neg1, nI_add, pk_mul, nI_clamp, i_le, i_lt, i_eq, fIx_n, nI_mI, mI_nI, mI_lt, nI_lt_m, mI_le, nI_le_m, xI_0, xI_s, bI_0, bI_1, bI_t, bI_f, n_31, j_bit, j_one, i_and, i_or, Nat.not_lt_zero, Nat.succ_ne_zero, Nat.add_one_ne_zero, Nat.add_one_sub_one, Nat.zero_le, Nat.or_zero, Nat.zero_or, Bool.not_true, Bool.not_false, Bool.true_and, Bool.false_and, Bool.and_true, Bool.and_false, ↓reduceIte, if_true, if_false, not_true_eq_false, not_false_eq_true, true_and, and_true, false_and, and_false, and_self, true_or, or_true, false_or, or_false, Nat.reduceEqDiff, Nat.reduceLT, Nat.reduceLeDiff, Nat.reduceAdd, Nat.reduceMul, Nat.reduceSub, Nat.add_zero, Nat.zero_add, Nat.mul_zero, Nat.zero_mul, ne_eq, Bool.not_eq_true, Bool.not_eq_false, reduceCtorEq, decide_true, decide_false, decide_eq_true_eq, decide_eq_false_iff_not, Bool.false_eq_true, if_pos, if_neg, h, g]
    · simp (disch := omega) only [↓fLt_e, fBd_s, ↓fJn_s, fNn_s, fNu_0, fNu_s, fBo_0, fBo_1, fBo_b, i_lit, i_neg1, nI_add, pk_mul, nI_clamp, i_le, i_lt, i_eq, fIx_n, nI_mI, mI_nI, mI_lt, nI_lt_m, mI_le, nI_le_m, xI_0, xI_s, bI_0, bI_1, bI_t, bI_f, n_31, j_bit, j_one, i_and, i_or, Nat.not_lt_zero, Nat.succ_ne_zero, Nat.add_one_ne_zero, Nat.add_one_sub_one, Nat.zero_le, Nat.or_zero, Nat.zero_or, Bool.not_true, Bool.not_false, Bool.true_and, Bool.false_and, Bool.and_true, Bool.and_false, ↓reduceIte, if_true, if_false, not_true_eq_false, not_false_eq_true, true_and, and_true, false_and, and_false, and_self, true_or, or_true, false_or, or_false, Nat.reduceEqDiff, Nat.reduceLT, Nat.reduceLeDiff, Nat.reduceAdd, Nat.reduceMul, Nat.reduceSub, Nat.add_zero, Nat.zero_add, Nat.mul_zero, Nat.zero_mul, ne_eq, Bool.not_eq_true, Bool.not_eq_false, reduceCtorEq, decide_true, decide_false, decide_eq_true_eq, decide_eq_false_iff_not, Bool.false_eq_true, if_pos, if_neg, h, g]
  · simp (disch := omega) only [↓fLt_e, fBd_s, ↓fJn_s, fNn_s, fNu_0, fNu_s, fBo_0, fBo_1, fBo_b, i_lit, i_neg1, nI_add, pk_mul, nI_clamp, i_le, i_lt, i_eq, fIx_n, nI_mI, mI_nI, mI_lt, nI_lt_m, mI_le, nI_le_m, xI_0, xI_s, bI_0, bI_1, bI_t, bI_f, n_31, j_bit, j_one, i_and, i_or, Nat.not_lt_zero, Nat.succ_ne_zero, Nat.add_one_ne_zero, Nat.add_one_sub_one, Nat.zero_le, Nat.or_zero, Nat.zero_or, Bool.not_true, Bool.not_false, Bool.true_and, Bool.false_and, Bool.and_true, Bool.and_false, ↓reduceIte, if_true, if_false, not_true_eq_false, not_false_eq_true, true_and, and_true, false_and, and_false, and_self, true_or, or_true, false_or, or_false, Nat.reduceEqDiff, Nat.reduceLT, Nat.reduceLeDiff, Nat.reduceAdd, Nat.reduceMul, Nat.reduceSub, Nat.add_zero, Nat.zero_add, Nat.mul_zero, Nat.zero_mul, ne_eq, Bool.not_eq_true, Bool.not_eq_false, reduceCtorEq, decide_true, decide_false, decide_eq_true_eq, decide_eq_false_iff_not, Bool.false_eq_true, if_pos, if_neg, h]
theorem sign_e (P : psR s t n c a p so) {k : Nat} (hk : 59 ≤ k ∧ k ≤ 62) (t' : fSt) (h : gI t' = gI t) : f_X12_isSign (nI k) t' = some (bI (decide (so = k)), t') := by
  have e := ps_sign P hk
  rw [m_sign_v] at e ⊢
  rw [h]
  have := (Prod.mk.inj (Option.some.inj e)).1
  rw [this]
-- the words
theorem rs_plain (P : psR s t n c a p so) (hs : hsR s t q G) (hi : i < 60) (h0 : gI s 9 w 0 = nI i) (hA : gA s 9 w 1 i = nI wd) (hx : 1939 ≤ x ∧ x < 2144) (hK : gA t 12 0 5 x = nI K) (h9 : gI s 5 0 9 = mI)
    (hw : (wd = 19 ∧ K = 0) ∨ (wd = 20 ∧ K = 1) ∨ (wd = 21 ∧ K = 2) ∨ (wd = 22 ∧ K = 3) ∨ (wd = 23 ∧ K = 4) ∨ (wd = 29 ∧ K = 6) ∨ (wd = 31 ∧ K = 7)) : rsO n c G w q i x wd K p (f_X12_readRest (nI x)) s t := by
  obtain ⟨⟨b0, b2, b3⟩, ⟨x0, x2, x3⟩, ⟨y0, y2, y3⟩, n0, n2, n3⟩ := hs
  have P1 : psR s (wA t (x + 1) mI) n c a p so := ps_wA P _ _
  have g1 : yV (rsE x) t (wA t (x + 1) mI) := yV_A t mI ⟨by omega, by omega⟩
  have c0 : gA (wA t (x + 1) mI) 12 0 5 0 = nI (G 0) := (wA_ne _ (by omega)).trans y0
  have c2 : gA (wA t (x + 1) mI) 12 0 5 2 = nI (G 2) := (wA_ne _ (by omega)).trans y2
  have c3 : gA (wA t (x + 1) mI) 12 0 5 3 = nI (G 3) := (wA_ne _ (by omega)).trans y3
  have cK : gA (wA t (x + 1) mI) 12 0 5 x = nI K := (wA_ne _ (by omega)).trans hK
  have N0 : ∀ k, k < G 0 → gB s 7 q 1 k = gB (wA t (x + 1) mI) 12 0 7 (28 * 0 + 0 + k) := fun k hk => (n0 k hk).trans (congrArg (gB t 12 0 7) (by omega))
  have N2 : ∀ k, k < G 2 → gB s 7 q 3 k = gB (wA t (x + 1) mI) 12 0 7 (28 * 0 + 12 + k) := fun k hk => (n2 k hk).trans (congrArg (gB t 12 0 7) (by omega))
  have N3 : ∀ k, k < G 3 → gB s 7 q 4 k = gB (wA t (x + 1) mI) 12 0 7 (28 * 0 + 24 + k) := fun k hk => (n3 k hk).trans (congrArg (gB t 12 0 7) (by omega))
  -- what a number or name read makes of it
  have fin : ∀ v (s' t' : fSt), gI s' 5 0 9 = nI v → gA t' 12 0 5 (x + 1) = nI v → (∀ k, k ≠ x + 1 → gA t' 12 0 5 k = gA (wA t (x + 1) mI) 12 0 5 k) → K ≠ 5 → okW G wd K 0 (v + 1) → FF G w i x wd K s' t' := fun v s' t' u1 u2 u3 u4 u5 => ⟨v + 1, 0, 0, 0, ⟨(u3 _ (by omega)).trans cK, u2, fun h => absurd h u4⟩, Or.inl ⟨u1, u5⟩⟩
  have fin0 : ∀ (s' t' : fSt), gI s' 5 0 9 = mI → gA t' 12 0 5 (x + 1) = mI → gA t' 12 0 5 x = nI K → K ≠ 5 → okW G wd K 0 0 → FF G w i x wd K s' t' := fun s' t' u1 u2 u3 u4 u5 => ⟨0, 0, 0, 0, ⟨u3, u2, fun h => absurd h u4⟩, Or.inl ⟨u1, u5⟩⟩
  rcases hw with ⟨rfl, rfl⟩ | ⟨rfl, rfl⟩ | ⟨rfl, rfl⟩ | ⟨rfl, rfl⟩ | ⟨rfl, rfl⟩ | ⟨rfl, rfl⟩ | ⟨rfl, rfl⟩
  · -- play
    have hm := mr_0 hx hK
    have hxx := kx_19 (q := q) hi h0 hA
    have hso := ps_so P
    have h64 := tok_35 P.2.1
    have ht := ps_t1 P
    have hq : (nI so = nI 59) = (so = 59) := i_eq _ _ (by omega) (by omega)
    rw [hso, x3] at hxx
    rw [c3] at hm
    by_cases h59 : so = 59
    · rw [if_pos (hq.mpr h59)] at hxx
      rw [if_pos (fun g => by have := ht.mp g; omega)] at hm
      exact rs_ok hxx hm P1 (Nat.le_refl _) (xV_rf s) g1 rfl (fin0 _ _ h9 (wA_at _ _ _) cK (by omega) (Or.inl ⟨rfl, rfl, by omega⟩))
    · rw [if_neg (fun g => h59 (hq.mp g))] at hxx
      by_cases h33 : so ≤ 33
      · rw [if_neg (fun g => g (ht.mpr h33))] at hm
        refine rs_told (jj := 4) (o := 24) (m := G 3) (ni := 4) P1 (by omega) N3 (fun s' e => ?_) (fun s' e => ?_) hm g1 rfl (fun v s' t' hv u1 u2 u3 => fin v s' t' u1 u2 u3 (by omega) (Or.inl ⟨rfl, rfl, by omega⟩))
        · rw [hxx, e, fBd_s, if_neg (by decide)]
        · rw [hxx, e, fBd_s, if_pos rfl]
      · rw [if_pos (fun g => by have := ht.mp g; omega)] at hm
        obtain ⟨s2, t2, w1, w2, F, f2, g2⟩ := ps_wrong P1
        have hs32 : ¬ so = 32 := by omega
        have hk : f_X5_takeName 7 q 4 4 (nI (G 3)) s = some (nI 0, s2) := by
          unfold f_X5_takeName
          simp (disch := omega) only [↓fLt_e, fBd_s, ↓fJn_s, fNn_s, fNu_0, fNu_s, fBo_0, fBo_1, fBo_b, i_lit, i_neg1, nI_add, pk_mul, nI_clamp, i_le, i_lt, i_eq, fIx_n, nI_mI, mI_nI, mI_lt, nI_lt_m, mI_le, nI_le_m, xI_0, xI_s, bI_0, bI_1, bI_t, bI_f, n_31, j_bit, j_one, i_and, i_or, Nat.not_lt_zero, Nat.succ_ne_zero, Nat.add_one_ne_zero, Nat.add_one_sub_one, Nat.zero_le, Nat.or_zero, Nat.zero_or, Bool.not_true, Bool.not_false, Bool.true_and, Bool.false_and, Bool.and_true, Bool.and_false, ↓reduceIte, if_true, if_false, not_true_eq_false, not_false_eq_true, true_and, and_true, false_and, and_false, and_self, true_or, or_true, false_or, or_false, Nat.reduceEqDiff, Nat.reduceLT, Nat.reduceLeDiff, Nat.reduceAdd, Nat.reduceMul, Nat.reduceSub, Nat.add_zero, Nat.zero_add, Nat.mul_zero, Nat.zero_mul, ne_eq, Bool.not_eq_true, Bool.not_eq_false, reduceCtorEq, decide_true, decide_false, decide_eq_true_eq, decide_eq_false_iff_not, Bool.false_eq_true, if_pos, if_neg, hso, hs32, w1]
        rw [hk, fBd_s, if_pos rfl] at hxx
        refine ⟨s2, t2, xV_x f2, yV_tr g1 (yV_y g2), ?_, (g2.1 _ _ _ (by omega)), Or.inr ⟨?_, _, _, F⟩⟩
        · rw [hm, fBd_s]
          unfold mTail
          rw [ps_sign P1 (by omega), decide_eq_false h59, fBd_s, show bI false = nI 0 from rfl, m_must_0 P1.2.2.2.1, w2]
        · unfold kRS
          rw [hxx, fBd_s, if_pos (by decide)]
          rfl
  · have hxx := kx_sc (q := q) hi h0 hA (by omega)
    have hm := mr_sc hx hK (by omega)
    rw [x2] at hxx
    rw [c2] at hm
    exact rs_told (jj := 3) (o := 12) (m := G 2) (ni := 12) P1 (by omega) N2 (fun s' e => by rw [hxx, e, fBd_s, fBo_ye]) (fun s' e => by rw [hxx, e, fBd_s, fBo_no]) hm g1 rfl (fun v s' t' hv u1 u2 u3 => fin v s' t' u1 u2 u3 (by omega) (by unfold okW; omega))
  · have hxx := kx_sc (q := q) hi h0 hA (by omega)
    have hm := mr_sc hx hK (by omega)
    rw [x2] at hxx
    rw [c2] at hm
    exact rs_told (jj := 3) (o := 12) (m := G 2) (ni := 12) P1 (by omega) N2 (fun s' e => by rw [hxx, e, fBd_s, fBo_ye]) (fun s' e => by rw [hxx, e, fBd_s, fBo_no]) hm g1 rfl (fun v s' t' hv u1 u2 u3 => fin v s' t' u1 u2 u3 (by omega) (by unfold okW; omega))
  · have hxx := kx_ro (q := q) hi h0 hA (by omega)
    have hm := mr_ro hx hK (by omega)
    rw [x0] at hxx
    rw [c0] at hm
    exact rs_told (jj := 1) (o := 0) (m := G 0) (ni := 6) P1 (by omega) N0 (fun s' e => by rw [hxx, e, fBd_s, fBo_ye]) (fun s' e => by rw [hxx, e, fBd_s, fBo_no]) hm g1 rfl (fun v s' t' hv u1 u2 u3 => fin v s' t' u1 u2 u3 (by omega) (by unfold okW; omega))
  · have hxx := kx_ro (q := q) hi h0 hA (by omega)
    have hm := mr_ro hx hK (by omega)
    rw [x0] at hxx
    rw [c0] at hm
    exact rs_told (jj := 1) (o := 0) (m := G 0) (ni := 6) P1 (by omega) N0 (fun s' e => by rw [hxx, e, fBd_s, fBo_ye]) (fun s' e => by rw [hxx, e, fBd_s, fBo_no]) hm g1 rfl (fun v s' t' hv u1 u2 u3 => fin v s' t' u1 u2 u3 (by omega) (by unfold okW; omega))
  · exact rs_cnt (lo := 1) (hi := 99) P1 (by omega) (kx_29 hi h0 hA) (mr_6 hx hK) g1 rfl (fun v s' t' hv u1 u2 u3 => fin v s' t' u1 u2 u3 (by omega) (by unfold okW; omega))
  · exact rs_ok (kx_31 hi h0 hA) (mr_7 hx hK) P1 (Nat.le_refl _) (xV_rf s) g1 rfl (fin0 _ _ h9 (wA_at _ _ _) cK (by omega) (by unfold okW; omega))
-- the tests
theorem rs_test {T : Nat} (P : psR s t n c a p so) (hs : hsR s t q G) (hi : i < 60) (h0 : gI s 9 w 0 = nI i) (hA : gA s 9 w 1 i = nI wd) (hx : 1939 ≤ x ∧ x < 2144) (hK : gA t 12 0 5 x = nI 5) (hc1 : gA t 12 0 5 (x + 1) = mI)
    (hw : (wd = 25 ∧ T = 0) ∨ (wd = 26 ∧ T = 1) ∨ (wd = 28 ∧ T = 2) ∨ (wd = 27 ∧ T = 3)) : rsO n c G w q i x wd 5 p (mQ (nI x) (nI T)) s t := by
  obtain ⟨⟨b0, b2, b3⟩, ⟨x0, x2, x3⟩, ⟨y0, y2, y3⟩, n0, n2, n3⟩ := hs
  have P1 : psR s (wA t (x + 2) (nI T)) n c a p so := ps_wA P _ _
  have g1 : yV (rsE x) t (wA t (x + 2) (nI T)) := yV_A t _ ⟨by omega, by omega⟩
  have c0 : gA (wA t (x + 2) (nI T)) 12 0 5 0 = nI (G 0) := (wA_ne _ (by omega)).trans y0
  have c2 : gA (wA t (x + 2) (nI T)) 12 0 5 2 = nI (G 2) := (wA_ne _ (by omega)).trans y2
  have cK : gA (wA t (x + 2) (nI T)) 12 0 5 x = nI 5 := (wA_ne _ (by omega)).trans hK
  have cT : gA (wA t (x + 2) (nI T)) 12 0 5 (x + 2) = nI T := wA_at _ _ _
  have N0 : ∀ k, k < G 0 → gB s 7 q 1 k = gB (wA t (x + 2) (nI T)) 12 0 7 (28 * 0 + 0 + k) := fun k hk => (n0 k hk).trans (congrArg (gB t 12 0 7) (by omega))
  have N2 : ∀ k, k < G 2 → gB s 7 q 3 k = gB (wA t (x + 2) (nI T)) 12 0 7 (28 * 0 + 12 + k) := fun k hk => (n2 k hk).trans (congrArg (gB t 12 0 7) (by omega))
  have fin : ∀ v (s' t' : fSt), gI s' 5 0 9 = nI v → gA t' 12 0 5 (x + 1) = nI v → (∀ k, k ≠ x + 1 → gA t' 12 0 5 k = gA (wA t (x + 2) (nI T)) 12 0 5 k) → T ≠ 3 → okW G wd 5 T (v + 1) → FF G w i x wd 5 s' t' := fun v s' t' u1 u2 u3 u4 u5 => ⟨v + 1, T, 0, 0, ⟨(u3 _ (by omega)).trans cK, u2, fun _ => ⟨(u3 _ (by omega)).trans cT, fun h => absurd h u4⟩⟩, Or.inl ⟨u1, u5⟩⟩
  rcases hw with ⟨rfl, rfl⟩ | ⟨rfl, rfl⟩ | ⟨rfl, rfl⟩ | ⟨rfl, rfl⟩
  · have hxx := kx_sc (q := q) hi h0 hA (by omega)
    have hm := mq_0 (t := t) hx
    rw [x2] at hxx
    rw [c2] at hm
    exact rs_told (jj := 3) (o := 12) (m := G 2) (ni := 12) P1 (by omega) N2 (fun s' e => by rw [hxx, e, fBd_s, fBo_ye]) (fun s' e => by rw [hxx, e, fBd_s, fBo_no]) hm g1 rfl (fun v s' t' hv u1 u2 u3 => fin v s' t' u1 u2 u3 (by omega) (by unfold okW; omega))
  · have hxx := kx_ro (q := q) hi h0 hA (by omega)
    have hm := mq_1 (t := t) hx
    rw [x0] at hxx
    rw [c0] at hm
    exact rs_told (jj := 1) (o := 0) (m := G 0) (ni := 6) P1 (by omega) N0 (fun s' e => by rw [hxx, e, fBd_s, fBo_ye]) (fun s' e => by rw [hxx, e, fBd_s, fBo_no]) hm g1 rfl (fun v s' t' hv u1 u2 u3 => fin v s' t' u1 u2 u3 (by omega) (by unfold okW; omega))
  · exact rs_cnt (lo := 0) (hi := 9) P1 (by omega) (kx_28 hi h0 hA) (mq_2 hx) g1 rfl (fun v s' t' hv u1 u2 u3 => fin v s' t' u1 u2 u3 (by omega) (by unfold okW; omega))
  · have hxx := kx_27 (q := q) hi h0 hA
    have hso := ps_so P
    have h64 := tok_35 P.2.1
    have hm := mq_3 (t := t) hx rfl (fun s h => sign_e P (k := 60) (by omega) s h) (fun s h => sign_e P (k := 62) (by omega) s h) (fun s h => sign_e P (k := 61) (by omega) s h)
    generalize hv : (if gI t 12 0 14 = nI 3 then gI t 12 0 17 else nI 0) = v at hm
    have P2 : psR s (wA (wA t (x + 2) (nI 3)) (x + 3) v) n c a p so := ps_wA P1 _ _
    have g2 : yV (rsE x) t (wA (wA t (x + 2) (nI 3)) (x + 3) v) := yV_tr g1 (yV_A _ _ ⟨by omega, by omega⟩)
    have hb := P2.2.2.2.1
    unfold mQ3 at hm
    by_cases hc : so = 60 ∨ so = 62 ∨ so = 61
    · have hb1 : (decide (so = 60) || decide (so = 62) || decide (so = 61)) = true := by
        rcases hc with h | h | h
        · rw [decide_eq_true h]; rfl
        · rw [decide_eq_true h, Bool.or_true]; rfl
        · rw [decide_eq_true h, Bool.or_true]
      have hv2 : v = nI so := by
        rw [← hv]
        rcases P.2.1 with ⟨h, -⟩ | ⟨h, -⟩ | ⟨h, -⟩ | ⟨h, h2, h3, h4⟩ | ⟨h, -⟩ | ⟨h, -⟩
        · omega
        · omega
        · omega
        · rw [if_pos h3, h4]
        · omega
        · omega
      subst hv2
      obtain ⟨s2, t2, a2, p2, o2, e2, d2, P3, f2, g3, m1, -⟩ := ps_adv (ps_A9 P2 w 3 (upd (gA s 9 w 3) i (nI so)))
      have hcmp : f_X9_readCompare w s = some (nI 1, s2) := by
        unfold f_X9_readCompare
        rcases hc with h | h | h
        · simp (disch := omega) only [↓fLt_e, fBd_s, ↓fJn_s, fNn_s, fNu_0, fNu_s, fBo_0, fBo_1, fBo_b, i_lit, i_neg1, nI_add, pk_mul, nI_clamp, i_le, i_lt, i_eq, fIx_n, nI_mI, mI_nI, mI_lt, nI_lt_m, mI_le, nI_le_m, xI_0, xI_s, bI_0, bI_1, bI_t, bI_f, n_31, j_bit, j_one, i_and, i_or, Nat.not_lt_zero, Nat.succ_ne_zero, Nat.add_one_ne_zero, Nat.add_one_sub_one, Nat.zero_le, Nat.or_zero, Nat.zero_or, Bool.not_true, Bool.not_false, Bool.true_and, Bool.false_and, Bool.and_true, Bool.and_false, ↓reduceIte, if_true, if_false, not_true_eq_false, not_false_eq_true, true_and, and_true, false_and, and_false, and_self, true_or, or_true, false_or, or_false, Nat.reduceEqDiff, Nat.reduceLT, Nat.reduceLeDiff, Nat.reduceAdd, Nat.reduceMul, Nat.reduceSub, Nat.add_zero, Nat.zero_add, Nat.mul_zero, Nat.zero_mul, ne_eq, Bool.not_eq_true, Bool.not_eq_false, reduceCtorEq, decide_true, decide_false, decide_eq_true_eq, decide_eq_false_iff_not, Bool.false_eq_true, if_pos, if_neg, hso, h, h0]
          rw [h] at e2
          rw [e2, fBd_s]
        · simp (disch := omega) only [↓fLt_e, fBd_s, ↓fJn_s, fNn_s, fNu_0, fNu_s, fBo_0, fBo_1, fBo_b, i_lit, i_neg1, nI_add, pk_mul, nI_clamp, i_le, i_lt, i_eq, fIx_n, nI_mI, mI_nI, mI_lt, nI_lt_m, mI_le, nI_le_m, xI_0, xI_s, bI_0, bI_1, bI_t, bI_f, n_31, j_bit, j_one, i_and, i_or, Nat.not_lt_zero, Nat.succ_ne_zero, Nat.add_one_ne_zero, Nat.add_one_sub_one, Nat.zero_le, Nat.or_zero, Nat.zero_or, Bool.not_true, Bool.not_false, Bool.true_and, Bool.false_and, Bool.and_true, Bool.and_false, ↓reduceIte, if_true, if_false, not_true_eq_false, not_false_eq_true, true_and, and_true, false_and, and_false, and_self, true_or, or_true, false_or, or_false, Nat.reduceEqDiff, Nat.reduceLT, Nat.reduceLeDiff, Nat.reduceAdd, Nat.reduceMul, Nat.reduceSub, Nat.add_zero, Nat.zero_add, Nat.mul_zero, Nat.zero_mul, ne_eq, Bool.not_eq_true, Bool.not_eq_false, reduceCtorEq, decide_true, decide_false, decide_eq_true_eq, decide_eq_false_iff_not, Bool.false_eq_true, if_pos, if_neg, hso, h, h0]
          rw [h] at e2
          rw [e2, fBd_s]
        · simp (disch := omega) only [↓fLt_e, fBd_s, ↓fJn_s, fNn_s, fNu_0, fNu_s, fBo_0, fBo_1, fBo_b, i_lit, i_neg1, nI_add, pk_mul, nI_clamp, i_le, i_lt, i_eq, fIx_n, nI_mI, mI_nI, mI_lt, nI_lt_m, mI_le, nI_le_m, xI_0, xI_s, bI_0, bI_1, bI_t, bI_f, n_31, j_bit, j_one, i_and, i_or, Nat.not_lt_zero, Nat.succ_ne_zero, Nat.add_one_ne_zero, Nat.add_one_sub_one, Nat.zero_le, Nat.or_zero, Nat.zero_or, Bool.not_true, Bool.not_false, Bool.true_and, Bool.false_and, Bool.and_true, Bool.and_false, ↓reduceIte, if_true, if_false, not_true_eq_false, not_false_eq_true, true_and, and_true, false_and, and_false, and_self, true_or, or_true, false_or, or_false, Nat.reduceEqDiff, Nat.reduceLT, Nat.reduceLeDiff, Nat.reduceAdd, Nat.reduceMul, Nat.reduceSub, Nat.add_zero, Nat.zero_add, Nat.mul_zero, Nat.zero_mul, ne_eq, Bool.not_eq_true, Bool.not_eq_false, reduceCtorEq, decide_true, decide_false, decide_eq_true_eq, decide_eq_false_iff_not, Bool.false_eq_true, if_pos, if_neg, hso, h, h0]
          rw [h] at e2
          rw [e2, fBd_s]
      rw [hcmp, fBd_s, if_neg (by decide)] at hxx
      rw [hb1, show bI true = nI 1 from rfl, m_must_1 hb, d2, fBd_s] at hm
      have hp3 := P3.2.2.1.2.2.2.2
      obtain ⟨s3, t3, r, e3, f3, g4, h⟩ := ps_count P3 (lo := 0) (hi := 99) (by omega)
      rw [e3, fBd_s] at hm
      have U : xV w (fun _ => False) (rsD i) s s3 := xV_tr (xV_A s (nI so) ⟨rfl, rfl⟩) (xV_tr (xV_x f2) (xV_x f3))
      have V : yV (rsE x) t (wA t3 (x + 4) (nI r)) := yV_tr g2 (yV_tr (yV_y g3) (yV_tr (yV_y g4) (yV_A t3 _ ⟨by omega, by omega⟩)))
      have h24 : gI (wA t3 (x + 4) (nI r)) 12 0 24 = gI t 12 0 24 := (g4.1 _ _ _ (by omega)).trans (g3.1 _ _ _ (by omega))
      have hcell : ∀ k, k ≠ x + 4 → gA (wA t3 (x + 4) (nI r)) 12 0 5 k = gA (wA (wA t (x + 2) (nI 3)) (x + 3) (nI so)) 12 0 5 k := fun k hk => (wA_ne _ hk).trans (by rw [g4.2.2.1, g3.2.2.1])
      rcases h with ⟨-, hr, d3, h9, a3, p3, o3, P4, m3, -⟩ | ⟨d3, -, d, F⟩
      · have hp4 := P4.2.2.1.2.2.2.2
        rw [d3, fBd_s, if_neg (by decide)] at hxx
        refine rs_ok hxx hm (ps_wA P4 _ _) (by omega) U V h24 ⟨0, 3, so, r, ⟨?_, ?_, fun _ => ⟨?_, fun _ => ⟨?_, wA_at _ _ _⟩⟩⟩, Or.inr ⟨rfl, rfl, rfl, h9, ?_, hr, by omega⟩⟩
        · rw [hcell _ (by omega), wA_ne _ (by omega)]; exact cK
        · rw [hcell _ (by omega), wA_ne _ (by omega), wA_ne _ (by omega)]; exact hc1
        · rw [hcell _ (by omega), wA_ne _ (by omega)]; exact cT
        · rw [hcell _ (by omega), wA_at]
        · rw [f3.2.2.1, f2.2.2.1, gA_sA, if_pos ⟨rfl, rfl, rfl⟩, upd_at, if_pos rfl]
      · rw [d3, fBd_s, if_pos rfl] at hxx
        exact rs_no hxx hm (show flR s3 (wA t3 (x + 4) (nI r)) d a2 from F) U V h24
    · have hb1 : (decide (so = 60) || decide (so = 62) || decide (so = 61)) = false := by
        rw [decide_eq_false (by omega), decide_eq_false (by omega), decide_eq_false (by omega)]; rfl
      obtain ⟨s2, t2, w1, w2, F, f2, g3⟩ := ps_wrong P2
      have n60 : ¬ so = 60 := by omega
      have n61 : ¬ so = 61 := by omega
      have n62 : ¬ so = 62 := by omega
      have hcmp : f_X9_readCompare w s = some (nI 0, s2) := by
        unfold f_X9_readCompare
        simp (disch := omega) only [↓fLt_e, fBd_s, ↓fJn_s, fNn_s, fNu_0, fNu_s, fBo_0, fBo_1, fBo_b, i_lit, i_neg1, nI_add, pk_mul, nI_clamp, i_le, i_lt, i_eq, fIx_n, nI_mI, mI_nI, mI_lt, nI_lt_m, mI_le, nI_le_m, xI_0, xI_s, bI_0, bI_1, bI_t, bI_f, n_31, j_bit, j_one, i_and, i_or, Nat.not_lt_zero, Nat.succ_ne_zero, Nat.add_one_ne_zero, Nat.add_one_sub_one, Nat.zero_le, Nat.or_zero, Nat.zero_or, Bool.not_true, Bool.not_false, Bool.true_and, Bool.false_and, Bool.and_true, Bool.and_false, ↓reduceIte, if_true, if_false, not_true_eq_false, not_false_eq_true, true_and, and_true, false_and, and_false, and_self, true_or, or_true, false_or, or_false, Nat.reduceEqDiff, Nat.reduceLT, Nat.reduceLeDiff, Nat.reduceAdd, Nat.reduceMul, Nat.reduceSub, Nat.add_zero, Nat.zero_add, Nat.mul_zero, Nat.zero_mul, ne_eq, Bool.not_eq_true, Bool.not_eq_false, reduceCtorEq, decide_true, decide_false, decide_eq_true_eq, decide_eq_false_iff_not, Bool.false_eq_true, if_pos, if_neg, hso, n60, n61, n62, w1]
      rw [hcmp, fBd_s, if_pos rfl] at hxx
      rw [hb1, show bI false = nI 0 from rfl, m_must_0 hb, w2, fBd_s, no_count ⟨F.1, F.2.1⟩ F.2.2.2.1, fBd_s] at hm
      exact rs_no hxx hm (show flR s2 (wA t2 (x + 4) (nI 0)) _ _ from F) (xV_x f2) (yV_tr g2 (yV_tr (yV_y g3) (yV_A t2 _ ⟨by omega, by omega⟩))) (g3.1 _ _ _ (by omega))
end
