/-! layer 2: reading a scene, step by step -/
def xC (m k i : Nat) : Prop := (i = m ∧ (k = 8 ∨ k = 9 ∨ k = 10 ∨ k = 12 ∨ k = 23)) ∨ (k = 11 ∧ m * 4 ≤ i ∧ i < m * 4 + 4)
def cX (i : Nat) : Nat := if i < 3 then 8 + i else if i < 7 then 11 else 12
def cJ (m i : Nat) : Nat := if i < 3 then m else if i < 7 then m * 4 + (i - 3) else m
def cE (i v : Nat) : Int32 := if i < 2 then nI v else xI v
def okV (G : Nat → Nat) (i v : Nat) : Prop := (i = 0 → 1 ≤ v ∧ v ≤ 20) ∧ (i = 1 → v < 2 ^ G 0) ∧ (i = 2 → v ≤ 9) ∧ (3 ≤ i ∧ i < 7 → v ≤ G 2) ∧ (i = 7 → v ≤ 6)
-- the first j cells of a scene are read
def scS (q : Nat) (G : Nat → Nat) (sc sm : fSt) (j : Nat) (s t : fSt) : Prop := xS q (xC (G 2)) sc s ∧ yS (dS (G 2)) (eS (G 2)) sm t ∧ gB s 7 q 3 (G 2) = gB t 12 0 7 (124 + G 2) ∧ ∃ V : Nat → Nat, ∀ i, i < j → okV G i (V i) ∧ gA s 7 q (cX i) (cJ (G 2) i) = cE i (V i) ∧ gA t 12 0 5 (1745 + 12 * i + G 2) = cE i (V i)
theorem cX_ne {m i j : Nat} (hj : j < 8) (h : i < j) : ¬ (cX i = cX j ∧ cJ m i = cJ m j) := by
  unfold cX cJ
  split <;> split <;> (try split) <;> (try split) <;> omega
theorem xS_mono {q : Nat} {D D2 : Nat → Nat → Prop} {s t : fSt} (h : xS q D s t) (hD : ∀ k i, D k i → D2 k i) : xS q D2 s t := ⟨h.1, h.2.1, fun c j k m hk => h.2.2.1 c j k m (fun e => hk ⟨e.1, e.2.1, hD _ _ e.2.2⟩), fun c j k m hk => h.2.2.2.1 c j k m (fun e => hk ⟨e.1, e.2.1, hD _ _ e.2.2⟩), h.2.2.2.2⟩
theorem yS_mono {D D2 E E2 : Nat → Prop} {s t : fSt} (h : yS D E s t) (hD : ∀ i, D i → D2 i) (hE : ∀ i, E i → E2 i) : yS D2 E2 s t := ⟨h.1, h.2.1, fun c j k m hk => h.2.2.1 c j k m (fun e => hk ⟨e.1, e.2.1, e.2.2.1, hD _ e.2.2.2⟩), fun c j k m hk => h.2.2.2.1 c j k m (fun e => hk ⟨e.1, e.2.1, e.2.2.1, hE _ e.2.2.2⟩), h.2.2.2.2⟩
section
variable {q : Nat} {G : Nat → Nat} {sc sm s t s' t' : fSt} {j : Nat}
theorem scS_step {v : Nat} (hj : j < 8) (Z : scS q G sc sm j s t) (f : xS q (fun k i => k = cX j ∧ i = cJ (G 2) j) s s') (g : yS (fun i => i = 1745 + 12 * j + G 2) (fun _ => False) t t') (hv : okV G j v) (hx : gA s' 7 q (cX j) (cJ (G 2) j) = cE j v) (hy : gA t' 12 0 5 (1745 + 12 * j + G 2) = cE j v) (hm : G 2 < 12) : scS q G sc sm (j + 1) s' t' := by
  obtain ⟨u1, u2, u3, V, hV⟩ := Z
  refine ⟨xS_tr u1 (xS_mono f (fun k i h => ?_)), yS_tr u2 (yS_mono g (fun i h => ⟨j, hj, h⟩) (fun i h => h.elim)), ?_, fun i => if i = j then v else V i, fun i hi => ?_⟩
  · obtain ⟨h1, h2⟩ := h
    unfold cX at h1
    unfold cJ at h2
    unfold xC
    by_cases g1 : j < 3
    · rw [if_pos g1] at h1 h2
      omega
    · rw [if_neg g1] at h1 h2
      by_cases g2 : j < 7
      · rw [if_pos g2] at h1 h2
        omega
      · rw [if_neg g2] at h1 h2
        omega
  · rw [f.2.2.2.1 _ _ _ _ (fun e => ?_), g.2.2.2.1 _ _ _ _ (fun e => e.2.2.2)]
    · exact u3
    · have h := e.2.2.1
      unfold cX at h
      split at h
      · omega
      · split at h <;> omega
  · by_cases h : i = j
    · subst h
      simp only [if_true]
      exact ⟨hv, hx, hy⟩
    · simp only [h, if_false]
      obtain ⟨k1, k2, k3⟩ := hV i (by omega)
      refine ⟨k1, ?_, ?_⟩
      · rw [f.2.2.1 _ _ _ _ (fun e => cX_ne (m := G 2) hj (by omega : i < j) e.2.2)]
        exact k2
      · rw [g.2.2.1 _ _ _ _ (fun e => by have := e.2.2.2; omega)]
        exact k3
theorem scS_fr (Z : scS q G sc sm j s t) (f : xFr s s') (g : yFr t t') : scS q G sc sm j s' t' := by
  obtain ⟨u1, u2, u3, V, hV⟩ := Z
  refine ⟨xS_tr u1 (xS_x f), yS_tr u2 (yS_y g), ?_, V, ?_⟩
  · rw [f.2.2.2.1, g.2.2.2.1]; exact u3
  · rw [f.2.2.1, g.2.2.1]; exact hV
theorem scS_wA {i : Nat} {v : Int32} (hi : j ≤ i ∧ i < 8) (hm : G 2 < 12) (Z : scS q G sc sm j s t) : scS q G sc sm j s (wA t (1745 + 12 * i + G 2) v) := by
  obtain ⟨u1, u2, u3, V, hV⟩ := Z
  refine ⟨u1, yS_tr u2 (yS_A t v ⟨i, hi.2, rfl⟩), u3, V, fun k hk => ?_⟩
  obtain ⟨k1, k2, k3⟩ := hV k hk
  refine ⟨k1, k2, ?_⟩
  unfold wA
  rw [gA_sA, if_pos ⟨rfl, rfl, rfl⟩, upd_at, if_neg (by omega)]
  exact k3
theorem scS_nm (S : sgR sc sm q G) (hm : G 2 < 12) (Z : scS q G sc sm j s t) : nmR s t q G := by
  have N := nmR_of S
  obtain ⟨⟨b0, b1, b2, b3⟩, -⟩ := id N
  exact nmR_S N Z.1 Z.2.1 (fun m => by unfold xC; omega) (fun m h => by unfold eS at h; omega) (fun m h => by obtain ⟨j, h1, h2⟩ := h; omega)
end
section
variable {n : Nat} {c : Nat → Nat} {s t : fSt} {a p so q : Nat} {G : Nat → Nat}
theorem m_way_0 (h : gI t 12 0 12 = nI 0) : f_X12_readWay (nI 0) t = some (mI, t) := by
  unfold f_X12_readWay
  simp (disch := omega) only [↓fLt_e, fBd_s, ↓fJn_s, fNn_s, fNu_0, fNu_s, fBo_0, fBo_1, fBo_b, i_lit, i_neg1, nI_add, pk_mul, nI_clamp, i_le, i_lt, i_eq, fIx_n, nI_mI, mI_nI, mI_lt, nI_lt_m, mI_le, nI_le_m, xI_0, xI_s, bI_0, bI_1, bI_t, bI_f, n_31, j_bit, j_one, i_and, i_or, Nat.not_lt_zero, Nat.succ_ne_zero, Nat.add_one_ne_zero, Nat.add_one_sub_one, Nat.zero_le, Nat.or_zero, Nat.zero_or, Bool.not_true, Bool.not_false, Bool.true_and, Bool.false_and, Bool.and_true, Bool.and_false, ↓reduceIte, if_true, if_false, not_true_eq_false, not_false_eq_true, true_and, and_true, false_and, and_false, and_self, true_or, or_true, false_or, or_false, Nat.reduceEqDiff, Nat.reduceLT, Nat.reduceLeDiff, Nat.reduceAdd, Nat.reduceMul, Nat.reduceSub, Nat.add_zero, Nat.zero_add, Nat.mul_zero, Nat.zero_mul, ne_eq, Bool.not_eq_true, Bool.not_eq_false, reduceCtorEq, decide_true, decide_false, decide_eq_true_eq, decide_eq_false_iff_not, Bool.false_eq_true, if_pos, if_neg, h]
theorem zA_at (q : Nat) (s : fSt) (k m : Nat) (v : Int32) : gA (zA q s k m v) 7 q k m = v := by
  unfold zA
  rw [gA_sA, if_pos ⟨rfl, rfl, rfl⟩, upd_at, if_pos rfl]
theorem wA_at (s : fSt) (m : Nat) (v : Int32) : gA (wA s m v) 12 0 5 m = v := by
  unfold wA
  rw [gA_sA, if_pos ⟨rfl, rfl, rfl⟩, upd_at, if_pos rfl]
theorem st_way (P : psR s t n c a p so) (N : nmR s t q G) (hm : G 2 < 12) {k : Nat} (hk : k < 4) {w : fSt → Option (Int32 × fSt)} (hw : w t = some (bI (decide (so = 9 + k)), t)) (K : Int32 → fSt → Option (Unit × fSt)) : ∃ s' t' r, xS q (fun k' i => k' = 11 ∧ i = G 2 * 4 + k) s s' ∧ yFr t t' ∧ (fBd (w t) fun x t1 => fBd (f_X12_readWay x t1) fun x2 t2 => K x2 t2) = K r t' ∧ ((f_X7_readWay q (nI k) s = some (nI 1, s') ∧ ∃ v, v ≤ G 2 ∧ r = xI v ∧ gA s' 7 q 11 (G 2 * 4 + k) = xI v ∧ ∃ a' p' so', psR s' t' n c a' p' so' ∧ p ≤ p') ∨ (f_X7_readWay q (nI k) s = some (nI 0, s') ∧ ∃ d e, flR s' t' d e)) := by
  have hso := ps_so P
  have h64 := tok_35 P.2.1
  have hb := P.2.2.2.1
  have x2 := N.2.1.2.2.1
  by_cases h : so = 9 + k
  · rw [decide_eq_true h] at hw
    obtain ⟨s2, t2, a2, p2, o2, e2, d2, P2, f2, g2, m1, -⟩ := ps_adv (ps_A7 P q 11 (upd (gA s 7 q 11) (G 2 * 4 + k) mI))
    have N1 : nmR (sA s 7 q 11 (upd (gA s 7 q 11) (G 2 * 4 + k) mI)) t q G := N
    have N2 := nmR_fr N1 f2 g2
    obtain ⟨-, ⟨-, -, xx, -⟩, ⟨-, -, yy, -⟩, -, -, nn, -⟩ := id N2
    have hb2 := P2.2.2.2.1
    have hp := P2.2.2.1.2.2.2.2
    obtain ⟨s3, t3, r, e3, f3, g3, h3⟩ := ps_told P2 (b := 4) (o := 12) (m := G 2) (ci := 7) (ii := q) (ji := 3) (ni := 12) (by omega) (fun k hk => (nn k hk).trans (congrArg (gB t2 12 0 7) (by omega)))
    have hM : (fBd (w t) fun x t1 => fBd (f_X12_readWay x t1) fun x2 t2 => K x2 t2) = K r t3 := by
      rw [hw, fBd_s]
      unfold f_X12_readWay
      simp (disch := omega) only [↓fLt_e, fBd_s, ↓fJn_s, fNn_s, fNu_0, fNu_s, fBo_0, fBo_1, fBo_b, i_lit, i_neg1, nI_add, pk_mul, nI_clamp, i_le, i_lt, i_eq, fIx_n, nI_mI, mI_nI, mI_lt, nI_lt_m, mI_le, nI_le_m, xI_0, xI_s, bI_0, bI_1, bI_t, bI_f, n_31, j_bit, j_one, i_and, i_or, Nat.not_lt_zero, Nat.succ_ne_zero, Nat.add_one_ne_zero, Nat.add_one_sub_one, Nat.zero_le, Nat.or_zero, Nat.zero_or, Bool.not_true, Bool.not_false, Bool.true_and, Bool.false_and, Bool.and_true, Bool.and_false, ↓reduceIte, if_true, if_false, not_true_eq_false, not_false_eq_true, true_and, and_true, false_and, and_false, and_self, true_or, or_true, false_or, or_false, Nat.reduceEqDiff, Nat.reduceLT, Nat.reduceLeDiff, Nat.reduceAdd, Nat.reduceMul, Nat.reduceSub, Nat.add_zero, Nat.zero_add, Nat.mul_zero, Nat.zero_mul, ne_eq, Bool.not_eq_true, Bool.not_eq_false, reduceCtorEq, decide_true, decide_false, decide_eq_true_eq, decide_eq_false_iff_not, Bool.false_eq_true, if_pos, if_neg, hb, d2, yy, e3]
    have U : xS q (fun k' i => k' = 11 ∧ i = G 2 * 4 + k) s s3 := xS_tr (xS_A s mI ⟨rfl, rfl⟩) (xS_tr (xS_x f2) (xS_x f3))
    rcases h3 with ⟨v, hv, -, hr, d3, h9, a3, p3, o3, P3, m3, m4⟩ | ⟨d3, d, F⟩
    · have x3 : gI s3 7 q 2 = nI (G 2) := by rw [f3.1 _ _ _ (by omega)]; exact xx
      have hp3 := P3.2.2.1.2.2.2.2
      refine ⟨zA q s3 11 (G 2 * 4 + k) (nI v), t3, r, xS_tr U (xS_A s3 _ ⟨rfl, rfl⟩), yFr_tr g2 g3, hM, Or.inl ⟨?_, v + 1, by omega, hr, zA_at _ _ _ _ _, a3, p3, o3, ps_A7 P3 q 11 _, by omega⟩⟩
      unfold f_X7_readWay zA
      simp (disch := omega) only [↓fLt_e, fBd_s, ↓fJn_s, fNn_s, fNu_0, fNu_s, fBo_0, fBo_1, fBo_b, i_lit, i_neg1, nI_add, pk_mul, nI_clamp, i_le, i_lt, i_eq, fIx_n, nI_mI, mI_nI, mI_lt, nI_lt_m, mI_le, nI_le_m, xI_0, xI_s, bI_0, bI_1, bI_t, bI_f, n_31, j_bit, j_one, i_and, i_or, Nat.not_lt_zero, Nat.succ_ne_zero, Nat.add_one_ne_zero, Nat.add_one_sub_one, Nat.zero_le, Nat.or_zero, Nat.zero_or, Bool.not_true, Bool.not_false, Bool.true_and, Bool.false_and, Bool.and_true, Bool.and_false, ↓reduceIte, if_true, if_false, not_true_eq_false, not_false_eq_true, true_and, and_true, false_and, and_false, and_self, true_or, or_true, false_or, or_false, Nat.reduceEqDiff, Nat.reduceLT, Nat.reduceLeDiff, Nat.reduceAdd, Nat.reduceMul, Nat.reduceSub, Nat.add_zero, Nat.zero_add, Nat.mul_zero, Nat.zero_mul, ne_eq, Bool.not_eq_true, Bool.not_eq_false, reduceCtorEq, decide_true, decide_false, decide_eq_true_eq, decide_eq_false_iff_not, Bool.false_eq_true, if_pos, if_neg, x2, hso, h, gI_sA, e2, xx, d3, x3, h9]
    · refine ⟨s3, t3, r, U, yFr_tr g2 g3, hM, Or.inr ⟨?_, d, a2, F⟩⟩
      unfold f_X7_readWay
      simp (disch := omega) only [↓fLt_e, fBd_s, ↓fJn_s, fNn_s, fNu_0, fNu_s, fBo_0, fBo_1, fBo_b, i_lit, i_neg1, nI_add, pk_mul, nI_clamp, i_le, i_lt, i_eq, fIx_n, nI_mI, mI_nI, mI_lt, nI_lt_m, mI_le, nI_le_m, xI_0, xI_s, bI_0, bI_1, bI_t, bI_f, n_31, j_bit, j_one, i_and, i_or, Nat.not_lt_zero, Nat.succ_ne_zero, Nat.add_one_ne_zero, Nat.add_one_sub_one, Nat.zero_le, Nat.or_zero, Nat.zero_or, Bool.not_true, Bool.not_false, Bool.true_and, Bool.false_and, Bool.and_true, Bool.and_false, ↓reduceIte, if_true, if_false, not_true_eq_false, not_false_eq_true, true_and, and_true, false_and, and_false, and_self, true_or, or_true, false_or, or_false, Nat.reduceEqDiff, Nat.reduceLT, Nat.reduceLeDiff, Nat.reduceAdd, Nat.reduceMul, Nat.reduceSub, Nat.add_zero, Nat.zero_add, Nat.mul_zero, Nat.zero_mul, ne_eq, Bool.not_eq_true, Bool.not_eq_false, reduceCtorEq, decide_true, decide_false, decide_eq_true_eq, decide_eq_false_iff_not, Bool.false_eq_true, if_pos, if_neg, x2, hso, h, gI_sA, e2, xx, d3]
  · rw [decide_eq_false h] at hw
    refine ⟨zA q s 11 (G 2 * 4 + k) mI, t, mI, xS_A s mI ⟨rfl, rfl⟩, yFr_rf t, ?_, Or.inl ⟨x_way_no hm x2 hk hso ⟨h, h64⟩, 0, by omega, rfl, zA_at _ _ _ _ _, a, p, so, ps_A7 P q 11 _, Nat.le_refl _⟩⟩
    rw [hw, fBd_s]
    have e := m_way_0 hb
    rw [show bI false = nI 0 from rfl, e, fBd_s]
theorem st_end (P : psR s t n c a p so) (x2 : gI s 7 q 2 = nI (G 2)) (hm : G 2 < 12) (hy : gA t 12 0 5 (1769 + G 2) = mI) (K : fSt → Option (Unit × fSt)) : ∃ s' t', xS q (fun k' i => k' = 10 ∧ i = G 2) s s' ∧ yS (fun i => i = 1769 + G 2) (fun _ => False) t t' ∧ (fBd (f_X12_isEnds t) fun x s1 => if x = nI 0 then K s1 else fBd (f_X12_next s1) fun _ s2 => fBd (f_X12_count (nI 0) (nI 8) s2) fun x3 s3 => K (wA s3 (1769 + G 2) x3)) = K t' ∧ ((f_X7_readEnding q s = some (nI 1, s') ∧ ∃ v, v ≤ 9 ∧ gA s' 7 q 10 (G 2) = xI v ∧ gA t' 12 0 5 (1769 + G 2) = xI v ∧ ∃ a' p' so', psR s' t' n c a' p' so' ∧ p ≤ p') ∨ (f_X7_readEnding q s = some (nI 0, s') ∧ ∃ d e, flR s' t' d e)) := by
  have hso := ps_so P
  have h64 := tok_35 P.2.1
  have hb := P.2.2.2.1
  rw [ps_ends P, fBd_s]
  by_cases h : so = 8
  · rw [decide_eq_true h, if_neg (by decide)]
    obtain ⟨s2, t2, a2, p2, o2, e2, d2, P2, f2, g2, m1, -⟩ := ps_adv (ps_A7 P q 10 (upd (gA s 7 q 10) (G 2) mI))
    have hp := P2.2.2.1.2.2.2.2
    obtain ⟨s3, t3, r, e3, f3, g3, h3⟩ := ps_count P2 (lo := 0) (hi := 8) (by omega)
    have U : xS q (fun k' i => k' = 10 ∧ i = G 2) s s3 := xS_tr (xS_A s mI ⟨rfl, rfl⟩) (xS_tr (xS_x f2) (xS_x f3))
    have V : yS (fun i => i = 1769 + G 2) (fun _ => False) t (wA t3 (1769 + G 2) (nI r)) := yS_tr (yS_y g2) (yS_tr (yS_y g3) (yS_A t3 _ rfl))
    rw [d2, fBd_s, e3, fBd_s]
    rcases h3 with ⟨-, hr, d3, h9, a3, p3, o3, P3, m3, m4⟩ | ⟨d3, r0, d, F⟩
    · have x3 : gI s3 7 q 2 = nI (G 2) := (U.1 _ _ _ (by omega)).trans x2
      have hp3 := P3.2.2.1.2.2.2.2
      refine ⟨zA q s3 10 (G 2) (nI r), _, xS_tr U (xS_A s3 _ ⟨rfl, rfl⟩), V, rfl, Or.inl ⟨?_, r + 1, by omega, zA_at _ _ _ _ _, wA_at _ _ _, a3, p3, o3, ps_A (ps_A7 P3 q 10 _) _ _, by omega⟩⟩
      unfold f_X7_readEnding zA
      simp (disch := omega) only [↓fLt_e, fBd_s, ↓fJn_s, fNn_s, fNu_0, fNu_s, fBo_0, fBo_1, fBo_b, i_lit, i_neg1, nI_add, pk_mul, nI_clamp, i_le, i_lt, i_eq, fIx_n, nI_mI, mI_nI, mI_lt, nI_lt_m, mI_le, nI_le_m, xI_0, xI_s, bI_0, bI_1, bI_t, bI_f, n_31, j_bit, j_one, i_and, i_or, Nat.not_lt_zero, Nat.succ_ne_zero, Nat.add_one_ne_zero, Nat.add_one_sub_one, Nat.zero_le, Nat.or_zero, Nat.zero_or, Bool.not_true, Bool.not_false, Bool.true_and, Bool.false_and, Bool.and_true, Bool.and_false, ↓reduceIte, if_true, if_false, not_true_eq_false, not_false_eq_true, true_and, and_true, false_and, and_false, and_self, true_or, or_true, false_or, or_false, Nat.reduceEqDiff, Nat.reduceLT, Nat.reduceLeDiff, Nat.reduceAdd, Nat.reduceMul, Nat.reduceSub, Nat.add_zero, Nat.zero_add, Nat.mul_zero, Nat.zero_mul, ne_eq, Bool.not_eq_true, Bool.not_eq_false, reduceCtorEq, decide_true, decide_false, decide_eq_true_eq, decide_eq_false_iff_not, Bool.false_eq_true, if_pos, if_neg, x2, hso, h, gI_sA, e2, d3, x3, h9]
    · have F2 : flR s3 (wA t3 (1769 + G 2) (nI r)) d a2 := F
      refine ⟨s3, _, U, V, rfl, Or.inr ⟨?_, d, a2, F2⟩⟩
      unfold f_X7_readEnding
      simp (disch := omega) only [↓fLt_e, fBd_s, ↓fJn_s, fNn_s, fNu_0, fNu_s, fBo_0, fBo_1, fBo_b, i_lit, i_neg1, nI_add, pk_mul, nI_clamp, i_le, i_lt, i_eq, fIx_n, nI_mI, mI_nI, mI_lt, nI_lt_m, mI_le, nI_le_m, xI_0, xI_s, bI_0, bI_1, bI_t, bI_f, n_31, j_bit, j_one, i_and, i_or, Nat.not_lt_zero, Nat.succ_ne_zero, Nat.add_one_ne_zero, Nat.add_one_sub_one, Nat.zero_le, Nat.or_zero, Nat.zero_or, Bool.not_true, Bool.not_false, Bool.true_and, Bool.false_and, Bool.and_true, Bool.and_false, ↓reduceIte, if_true, if_false, not_true_eq_false, not_false_eq_true, true_and, and_true, false_and, and_false, and_self, true_or, or_true, false_or, or_false, Nat.reduceEqDiff, Nat.reduceLT, Nat.reduceLeDiff, Nat.reduceAdd, Nat.reduceMul, Nat.reduceSub, Nat.add_zero, Nat.zero_add, Nat.mul_zero, Nat.zero_mul, ne_eq, Bool.not_eq_true, Bool.not_eq_false, reduceCtorEq, decide_true, decide_false, decide_eq_true_eq, decide_eq_false_iff_not, Bool.false_eq_true, if_pos, if_neg, x2, hso, h, gI_sA, e2, d3]
  · rw [decide_eq_false h, if_pos (by decide)]
    exact ⟨zA q s 10 (G 2) mI, t, xS_A s mI ⟨rfl, rfl⟩, yS_rf t, rfl, Or.inl ⟨x_end_no hm x2 hso ⟨h, h64⟩, 0, by omega, zA_at _ _ _ _ _, hy, a, p, so, ps_A7 P q 10 _, Nat.le_refl _⟩⟩
theorem st_vic (P : psR s t n c a p so) (N : nmR s t q G) (hm : G 2 < 12) (hy : gA t 12 0 5 (1829 + G 2) = mI) (K : fSt → Option (Unit × fSt)) : ∃ s' t', xS q (fun k' i => k' = 12 ∧ i = G 2) s s' ∧ yS (fun i => i = 1829 + G 2) (fun _ => False) t t' ∧ (fBd (f_X12_isKills t) fun x s1 => if x = nI 0 then K s1 else fBd (f_X12_next s1) fun _ s2 => fBd (f_X12_readTold (nI 4) (nI 0) (gA s2 12 0 5 1720) s2) fun x3 s3 => K (wA s3 (1829 + G 2) x3)) = K t' ∧ ((f_X7_readVictim q s = some (nI 1, s') ∧ ∃ v, v ≤ 6 ∧ gA s' 7 q 12 (G 2) = xI v ∧ gA t' 12 0 5 (1829 + G 2) = xI v ∧ ∃ a' p' so', psR s' t' n c a' p' so' ∧ p ≤ p') ∨ (f_X7_readVictim q s = some (nI 0, s') ∧ ∃ d e, flR s' t' d e)) := by
  have hso := ps_so P
  have h64 := tok_35 P.2.1
  have hb := P.2.2.2.1
  have x2 := N.2.1.2.2.1
  have b0 := N.1.1
  rw [ps_kills P, fBd_s]
  by_cases h : so = 13
  · rw [decide_eq_true h, if_neg (by decide)]
    obtain ⟨s2, t2, a2, p2, o2, e2, d2, P2, f2, g2, m1, -⟩ := ps_adv (ps_A7 P q 12 (upd (gA s 7 q 12) (G 2) mI))
    have N1 : nmR (sA s 7 q 12 (upd (gA s 7 q 12) (G 2) mI)) t q G := N
    have N2 := nmR_fr N1 f2 g2
    obtain ⟨-, ⟨xx, -, xx2, -⟩, ⟨yy, -⟩, nn, -⟩ := id N2
    have hp := P2.2.2.1.2.2.2.2
    obtain ⟨s3, t3, r, e3, f3, g3, h3⟩ := ps_told P2 (b := 4) (o := 0) (m := G 0) (ci := 7) (ii := q) (ji := 1) (ni := 6) (by omega) (fun k hk => (nn k hk).trans (congrArg (gB t2 12 0 7) (by omega)))
    have U : xS q (fun k' i => k' = 12 ∧ i = G 2) s s3 := xS_tr (xS_A s mI ⟨rfl, rfl⟩) (xS_tr (xS_x f2) (xS_x f3))
    have V : yS (fun i => i = 1829 + G 2) (fun _ => False) t (wA t3 (1829 + G 2) r) := yS_tr (yS_y g2) (yS_tr (yS_y g3) (yS_A t3 _ rfl))
    rw [d2, fBd_s, yy, e3, fBd_s]
    rcases h3 with ⟨v, hv, -, hr, d3, h9, a3, p3, o3, P3, m3, m4⟩ | ⟨d3, d, F⟩
    · have x3 : gI s3 7 q 2 = nI (G 2) := (U.1 _ _ _ (by omega)).trans x2
      have hp3 := P3.2.2.1.2.2.2.2
      refine ⟨zA q s3 12 (G 2) (nI v), _, xS_tr U (xS_A s3 _ ⟨rfl, rfl⟩), V, rfl, Or.inl ⟨?_, v + 1, by omega, zA_at _ _ _ _ _, (wA_at _ _ _).trans hr, a3, p3, o3, ps_A (ps_A7 P3 q 12 _) _ _, by omega⟩⟩
      unfold f_X7_readVictim zA
      simp (disch := omega) only [↓fLt_e, fBd_s, ↓fJn_s, fNn_s, fNu_0, fNu_s, fBo_0, fBo_1, fBo_b, i_lit, i_neg1, nI_add, pk_mul, nI_clamp, i_le, i_lt, i_eq, fIx_n, nI_mI, mI_nI, mI_lt, nI_lt_m, mI_le, nI_le_m, xI_0, xI_s, bI_0, bI_1, bI_t, bI_f, n_31, j_bit, j_one, i_and, i_or, Nat.not_lt_zero, Nat.succ_ne_zero, Nat.add_one_ne_zero, Nat.add_one_sub_one, Nat.zero_le, Nat.or_zero, Nat.zero_or, Bool.not_true, Bool.not_false, Bool.true_and, Bool.false_and, Bool.and_true, Bool.and_false, ↓reduceIte, if_true, if_false, not_true_eq_false, not_false_eq_true, true_and, and_true, false_and, and_false, and_self, true_or, or_true, false_or, or_false, Nat.reduceEqDiff, Nat.reduceLT, Nat.reduceLeDiff, Nat.reduceAdd, Nat.reduceMul, Nat.reduceSub, Nat.add_zero, Nat.zero_add, Nat.mul_zero, Nat.zero_mul, ne_eq, Bool.not_eq_true, Bool.not_eq_false, reduceCtorEq, decide_true, decide_false, decide_eq_true_eq, decide_eq_false_iff_not, Bool.false_eq_true, if_pos, if_neg, x2, hso, h, gI_sA, e2, xx, d3, x3, h9]
    · have F2 : flR s3 (wA t3 (1829 + G 2) r) d a2 := F
      refine ⟨s3, _, U, V, rfl, Or.inr ⟨?_, d, a2, F2⟩⟩
      unfold f_X7_readVictim
      simp (disch := omega) only [↓fLt_e, fBd_s, ↓fJn_s, fNn_s, fNu_0, fNu_s, fBo_0, fBo_1, fBo_b, i_lit, i_neg1, nI_add, pk_mul, nI_clamp, i_le, i_lt, i_eq, fIx_n, nI_mI, mI_nI, mI_lt, nI_lt_m, mI_le, nI_le_m, xI_0, xI_s, bI_0, bI_1, bI_t, bI_f, n_31, j_bit, j_one, i_and, i_or, Nat.not_lt_zero, Nat.succ_ne_zero, Nat.add_one_ne_zero, Nat.add_one_sub_one, Nat.zero_le, Nat.or_zero, Nat.zero_or, Bool.not_true, Bool.not_false, Bool.true_and, Bool.false_and, Bool.and_true, Bool.and_false, ↓reduceIte, if_true, if_false, not_true_eq_false, not_false_eq_true, true_and, and_true, false_and, and_false, and_self, true_or, or_true, false_or, or_false, Nat.reduceEqDiff, Nat.reduceLT, Nat.reduceLeDiff, Nat.reduceAdd, Nat.reduceMul, Nat.reduceSub, Nat.add_zero, Nat.zero_add, Nat.mul_zero, Nat.zero_mul, ne_eq, Bool.not_eq_true, Bool.not_eq_false, reduceCtorEq, decide_true, decide_false, decide_eq_true_eq, decide_eq_false_iff_not, Bool.false_eq_true, if_pos, if_neg, x2, hso, h, gI_sA, e2, xx, d3]
  · rw [decide_eq_false h, if_pos (by decide)]
    exact ⟨zA q s 12 (G 2) mI, t, xS_A s mI ⟨rfl, rfl⟩, yS_rf t, rfl, Or.inl ⟨x_vic_no hm x2 hso ⟨h, h64⟩, 0, by omega, zA_at _ _ _ _ _, hy, a, p, so, ps_A7 P q 12 _, Nat.le_refl _⟩⟩
end
