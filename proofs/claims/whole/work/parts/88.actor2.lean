/-! layer 2: reading an actor, both sides -/
section
variable {m q : Nat} {s s0 : fSt}
theorem kA2_k (hm : m < 6) {v : Int32} (h1 : gI s 7 q 1 = nI m) (h9 : gI s 5 0 9 = v) : (fIx (gI s 7 q 1) 6 <| fLt (sA s 7 q 5 (upd (gA s 7 q 5) (gI s 7 q 1).toNatClampNeg (gI s 5 0 9))) fun s9 => kA3 q s9) = kA3 q (sA s 7 q 5 (upd (gA s 7 q 5) m v)) := by
  simp (disch := omega) only [↓fLt_e, h1, h9, nI_clamp, fIx_n]
theorem kA4_k (hm : m < 6) {v : Int32} (h1 : gI s 7 q 1 = nI m) (h9 : gI s 5 0 9 = v) : (fIx (gI s 7 q 1) 6 <| fLt (sA s 7 q 6 (upd (gA s 7 q 6) (gI s 7 q 1).toNatClampNeg (gI s 5 0 9))) fun s9 => kA5 q s9) = kA5 q (sA s 7 q 6 (upd (gA s 7 q 6) m v)) := by
  simp (disch := omega) only [↓fLt_e, h1, h9, nI_clamp, fIx_n]
theorem kA6_no (hm : m < 6) (h0 : gI s0 7 q 1 = nI m) (h1 : gI s 7 q 1 = nI m) : kA6 q s0 mI s = some (nI 0, sA s 7 q 7 (upd (gA s 7 q 7) m mI)) := by
  unfold kA6
  simp (disch := omega) only [↓fLt_e, h0, h1, nI_clamp, fIx_n, gI_sA, gA_sA, upd_at, and_self, if_true, i_lit, i_neg1]
theorem kA6_ok (hm : m < 6) {mk : Nat} (hmk : mk < 64) (h0 : gI s0 7 q 1 = nI m) (h1 : gI s 7 q 1 = nI m) : kA6 q s0 (nI mk) s = fBd (f_X5_take (nI 59) (sA s 7 q 7 (upd (gA s 7 q 7) m (nI mk)))) fun x s24 => if ¬ x = nI 0 then some (nI 1, sI s24 7 q 1 (gI s24 7 q 1 + nI 1)) else some (nI 0, s24) := by
  unfold kA6
  simp (disch := omega) only [↓fLt_e, h0, h1, nI_clamp, fIx_n, gI_sA, gA_sA, upd_at, and_self, if_true, i_lit, i_neg1, nI_mI, if_false, false_and, and_false]
end
section
variable {sc sm : fSt} {n : Nat} {c : Nat → Nat} {q : Nat} {G : Nat → Nat} {X : fSt → Option (Int32 × fSt)} {M : fSt → Option (Unit × fSt)}
theorem act_fin {s t s0 : fSt} {a p so p0 v1 v2 mk : Nat} (S : sgR sc sm q G) (hm : G 1 < 6) (U : xS q (xA (G 1)) sc s) (V : yS (dA (G 1)) (eA (G 1)) sm t) (P : psR s t n c a p so) (hv : v1 ≤ 99 ∧ v2 ≤ 999) (hmk : mk < 2 ^ G 0) (X5 : gA s 7 q 5 (G 1) = nI v1) (X6 : gA s 7 q 6 (G 1) = nI v2) (Y5 : gA t 12 0 5 (1727 + G 1) = nI v1) (Y6 : gA t 12 0 5 (1733 + G 1) = nI v2) (hn : gB s 7 q 2 (G 1) = gB t 12 0 7 (118 + G 1)) (h0 : gI s0 7 q 1 = nI (G 1)) (hX : X sc = kA6 q s0 (nI mk) s) (hM : M sm = mA6 (nI (G 1)) (nI mk) t) (hp : p0 ≤ p) : itR n c q sc sm p0 X M := by
  have N := nmR_of S
  obtain ⟨⟨b0, b1, b2, b3⟩, ⟨x0, x1, -⟩, ⟨y0, y1, -⟩, -⟩ := id N
  have hmk6 := p6_31 hmk b0
  have hx1 : gI s 7 q 1 = nI (G 1) := (U.1 _ _ _ (by omega)).trans x1
  have hy1 : gA t 12 0 5 1721 = nI (G 1) := (V.2.2.1 _ _ _ _ (fun e => by have := e.2.2.2; unfold dA at this; omega)).trans y1
  rw [kA6_ok hm hmk6 h0 hx1] at hX
  rw [mA6_ok hm P.2.2.2.1 hy1] at hM
  have P1 := ps_A (ps_A (ps_A7 P q 7 (upd (gA s 7 q 7) (G 1) (nI mk))) (1739 + G 1) (nI mk)) 1721 (nI (G 1 + 1))
  have U1 : xS q (xA (G 1)) sc (sA s 7 q 7 (upd (gA s 7 q 7) (G 1) (nI mk))) := xS_tr U (xS_A s (nI mk) ⟨rfl, Or.inr (Or.inr (Or.inl rfl))⟩)
  have V1 : yS (dA (G 1)) (eA (G 1)) sm (sA t 12 0 5 (upd (gA t 12 0 5) (1739 + G 1) (nI mk))) := yS_tr V (yS_A t (nI mk) (Or.inr (Or.inr rfl)))
  have Y7 : gA (sA t 12 0 5 (upd (gA t 12 0 5) (1739 + G 1) (nI mk))) 12 0 5 (1739 + G 1) = nI mk := by rw [gA_sA, if_pos ⟨rfl, rfl, rfl⟩, upd_at, if_pos rfl]
  have Y5' : gA (sA t 12 0 5 (upd (gA t 12 0 5) (1739 + G 1) (nI mk))) 12 0 5 (1727 + G 1) = nI v1 := by rw [gA_sA, if_pos ⟨rfl, rfl, rfl⟩, upd_at, if_neg (by omega)]; exact Y5
  have Y6' : gA (sA t 12 0 5 (upd (gA t 12 0 5) (1739 + G 1) (nI mk))) 12 0 5 (1733 + G 1) = nI v2 := by rw [gA_sA, if_pos ⟨rfl, rfl, rfl⟩, upd_at, if_neg (by omega)]; exact Y6
  have hn' : gB (sA s 7 q 7 (upd (gA s 7 q 7) (G 1) (nI mk))) 7 q 2 (G 1) = gB (sA t 12 0 5 (upd (gA t 12 0 5) (1739 + G 1) (nI mk))) 12 0 7 (118 + G 1) := hn
  have X7 : gA (sA s 7 q 7 (upd (gA s 7 q 7) (G 1) (nI mk))) 7 q 7 (G 1) = nI mk := by rw [gA_sA, if_pos ⟨rfl, rfl, rfl⟩, upd_at, if_pos rfl]
  have X5' : gA (sA s 7 q 7 (upd (gA s 7 q 7) (G 1) (nI mk))) 7 q 5 (G 1) = nI v1 := by rw [gA_sA, if_neg (by omega)]; exact X5
  have X6' : gA (sA s 7 q 7 (upd (gA s 7 q 7) (G 1) (nI mk))) 7 q 6 (G 1) = nI v2 := by rw [gA_sA, if_neg (by omega)]; exact X6
  generalize sA s 7 q 7 (upd (gA s 7 q 7) (G 1) (nI mk)) = s1 at *
  generalize sA t 12 0 5 (upd (gA t 12 0 5) (1739 + G 1) (nI mk)) = t1 at *
  obtain ⟨s2, t2, e2, f2, g2, h⟩ := ps_tail P1
  have U2 : xS q (xA (G 1)) sc s2 := xS_tr U1 (xS_x f2)
  have hM2 : (fBd (M sm) fun _ s => mTail s) = some ((), t2) := by rw [hM, fBd_s, e2]
  have Q2 : yQ sm t2 := yQ_tr (yQ_S V1 (fun i h => by unfold dA at h; omega) (fun i h => by unfold eA at h; omega)) (yQ_tr (yQ_A t1 (by omega)) (yQ_y g2))
  rcases h with ⟨d2, a2, p2, o2, P2, m3, m4⟩ | ⟨d2, d, e, F⟩
  · have xx : gI s2 7 q 1 = nI (G 1) := (U2.1 _ _ _ (by omega)).trans x1
    refine ⟨sI s2 7 q 1 (nI (G 1 + 1)), t2, hM2, xQ_tr (xQ_S U2) (xQ_I s2), Q2, Or.inl ⟨?_, fun k => if k = 1 then G 1 + 1 else if k = 7 + G 1 then v1 else if k = 13 + G 1 then v2 else if k = 19 + G 1 then mk else G k, a2, p2, o2, ?_, ps_I7 P2 q 1 _, by omega, fun ho => ?_⟩⟩
    · rw [hX, d2, fBd_s, if_pos (by decide), xx, nI_add]
    · have hA : ∀ k, k ≠ 1721 → gA t2 12 0 5 k = gA t1 12 0 5 k := fun k hk => by rw [g2.2.2.1, gA_sA, if_pos ⟨rfl, rfl, rfl⟩, upd_at, if_neg hk]
      have hA1 : gA t2 12 0 5 1721 = nI (G 1 + 1) := by rw [g2.2.2.1, gA_sA, if_pos ⟨rfl, rfl, rfl⟩, upd_at, if_pos rfl]
      refine stR_act (v1 := v1) (v2 := v2) (v3 := mk) S hm ⟨hv.1, hv.2, hmk6⟩ rfl ?_ ?_ ?_ (fun k hk => ?_) ?_ (fun k hk => ?_) (fun k i hk => ?_) (fun k i hk => ?_) ?_ ?_ ?_ hA1 (fun k hk => ?_) (fun i hi => ?_) ?_ ?_ ?_ ?_
      · show (if 7 + G 1 = 1 then G 1 + 1 else if 7 + G 1 = 7 + G 1 then v1 else _) = v1
        rw [if_neg (by omega), if_pos rfl]
      · show (if 13 + G 1 = 1 then G 1 + 1 else if 13 + G 1 = 7 + G 1 then v1 else if 13 + G 1 = 13 + G 1 then v2 else _) = v2
        rw [if_neg (by omega), if_neg (by omega), if_pos rfl]
      · show (if 19 + G 1 = 1 then G 1 + 1 else if 19 + G 1 = 7 + G 1 then v1 else if 19 + G 1 = 13 + G 1 then v2 else if 19 + G 1 = 19 + G 1 then mk else _) = mk
        rw [if_neg (by omega), if_neg (by omega), if_neg (by omega), if_pos rfl]
      · show (if k = 1 then G 1 + 1 else if k = 7 + G 1 then v1 else if k = 13 + G 1 then v2 else if k = 19 + G 1 then mk else G k) = G k
        rw [if_neg (by omega), if_neg (by omega), if_neg (by omega), if_neg (by omega)]
      · rw [gI_sI, if_pos ⟨rfl, rfl, rfl⟩]
      · rw [gI_sI, if_neg (by omega)]
        exact U2.1 _ _ _ (by omega)
      · rw [gA_sI]
        exact U2.2.2.1 _ _ _ _ (fun e => by have := e.2.2; unfold xA at this; omega)
      · rw [gB_sI]
        exact U2.2.2.2.1 _ _ _ _ (fun e => by have := e.2.2; unfold xA at this; omega)
      · rw [gA_sI, f2.2.2.1]; exact X5'
      · rw [gA_sI, f2.2.2.1]; exact X6'
      · rw [gA_sI, f2.2.2.1]; exact X7
      · rw [hA _ (by omega)]
        exact V1.2.2.1 _ _ _ _ (fun e => by have := e.2.2.2; unfold dA at this; omega)
      · rw [g2.2.2.2.1, gB_sA]
        exact V1.2.2.2.1 _ _ _ _ (fun e => by have := e.2.2.2; unfold eA at this; omega)
      · rw [← Nat.add_assoc, hA _ (by omega)]; exact Y5'
      · rw [← Nat.add_assoc, hA _ (by omega)]; exact Y6'
      · rw [← Nat.add_assoc, hA _ (by omega)]; exact Y7
      · rw [gB_sI, f2.2.2.2.1, g2.2.2.2.1, gB_sA]; exact hn'
    · have := m4 ho
      have hpp := P.2.2.1.2.2.2.2
      omega
  · refine ⟨s2, t2, hM2, xQ_S U2, Q2, Or.inr ⟨?_, d, e, F⟩⟩
    rw [hX, d2, fBd_s, if_neg (by decide)]
theorem ps_readActor {a p so : Nat} (P : psR sc sm n c a p so) (S : sgR sc sm q G) : itR n c q sc sm p (f_X7_readActor q) f_X12_readActor := by
  have N := nmR_of S
  obtain ⟨⟨b0, b1, b2, b3⟩, ⟨x0, x1, -⟩, ⟨y0, y1, -⟩, -⟩ := id N
  have hb := P.2.2.2.1
  by_cases hG : G 1 = 6
  · obtain ⟨F, f1, g1⟩ := fl_mk P (k := 6) (by omega)
    obtain ⟨e1, e2⟩ := ps_full P
    refine ⟨_, _, ?_, xQ_x f1, yQ_y g1, Or.inr ⟨?_, _, _, F⟩⟩
    · rw [mA_eq]
      simp (disch := omega) only [↓fLt_e, fBd_s, ↓fJn_s, fNn_s, fNu_0, fNu_s, fBo_0, fBo_1, fBo_b, i_lit, i_neg1, nI_add, pk_mul, nI_clamp, i_le, i_lt, i_eq, fIx_n, nI_mI, mI_nI, mI_lt, nI_lt_m, mI_le, nI_le_m, xI_0, xI_s, bI_0, bI_1, bI_t, bI_f, n_31, j_bit, j_one, i_and, i_or, Nat.not_lt_zero, Nat.succ_ne_zero, Nat.add_one_ne_zero, Nat.add_one_sub_one, Nat.zero_le, Nat.or_zero, Nat.zero_or, Bool.not_true, Bool.not_false, Bool.true_and, Bool.false_and, Bool.and_true, Bool.and_false, ↓reduceIte, if_true, if_false, not_true_eq_false, not_false_eq_true, true_and, and_true, false_and, and_false, and_self, true_or, or_true, false_or, or_false, Nat.reduceEqDiff, Nat.reduceLT, Nat.reduceLeDiff, Nat.reduceAdd, Nat.reduceMul, Nat.reduceSub, Nat.add_zero, Nat.zero_add, Nat.mul_zero, Nat.zero_mul, ne_eq, Bool.not_eq_true, Bool.not_eq_false, reduceCtorEq, decide_true, decide_false, decide_eq_true_eq, decide_eq_false_iff_not, Bool.false_eq_true, if_pos, if_neg, y1, hG, e1, e2]
      exact mTail_no (k := 6) (by omega) e2
    · rw [kA_eq, x1, x_newfull (by omega)]
      rfl
  have hm : G 1 < 6 := by omega
  have hdA : ∀ i, dA (G 1) i → 1720 ≤ i := fun i h => by unfold dA at h; omega
  have hdA2 : ∀ i, dA (G 1) i → 1724 ≤ i := fun i h => by unfold dA at h; omega
  have heA : ∀ i, eA (G 1) i → 112 ≤ i := fun i h => by unfold eA at h; omega
  have hM : f_X12_readActor sm = fBd (f_X12_readNew (nI 6) (nI (G 1)) sm) fun _ s4 => mA1 (nI (G 1)) s4 := by
    rw [mA_eq]
    simp (disch := omega) only [↓fLt_e, fBd_s, ↓fJn_s, fNn_s, fNu_0, fNu_s, fBo_0, fBo_1, fBo_b, i_lit, i_neg1, nI_add, pk_mul, nI_clamp, i_le, i_lt, i_eq, fIx_n, nI_mI, mI_nI, mI_lt, nI_lt_m, mI_le, nI_le_m, xI_0, xI_s, bI_0, bI_1, bI_t, bI_f, n_31, j_bit, j_one, i_and, i_or, Nat.not_lt_zero, Nat.succ_ne_zero, Nat.add_one_ne_zero, Nat.add_one_sub_one, Nat.zero_le, Nat.or_zero, Nat.zero_or, Bool.not_true, Bool.not_false, Bool.true_and, Bool.false_and, Bool.and_true, Bool.and_false, ↓reduceIte, if_true, if_false, not_true_eq_false, not_false_eq_true, true_and, and_true, false_and, and_false, and_self, true_or, or_true, false_or, or_false, Nat.reduceEqDiff, Nat.reduceLT, Nat.reduceLeDiff, Nat.reduceAdd, Nat.reduceMul, Nat.reduceSub, Nat.add_zero, Nat.zero_add, Nat.mul_zero, Nat.zero_mul, ne_eq, Bool.not_eq_true, Bool.not_eq_false, reduceCtorEq, decide_true, decide_false, decide_eq_true_eq, decide_eq_false_iff_not, Bool.false_eq_true, if_pos, if_neg, y1, hG, hb]
  have hX : f_X7_readActor q sc = fBd (f_X7_readNew q 7 q 2 6 (nI (G 1)) sc) fun x1 s2 => if x1 = 0 then some ((0 : Int32), s2) else kA1 q s2 := by rw [kA_eq, x1]
  obtain ⟨s1, t1, e1, h⟩ := ps_new P (jj := 2) (nn := 6) (o := 6) (cnt := G 1) N (by omega)
  rw [e1, fBd_s] at hM
  rcases h with ⟨d1, w, a1, p1, o1, f1, g1, P1, m1, m2⟩ | ⟨d1, f1, g1, d, e, F⟩
  rotate_left
  · refine it_bad (s' := s1) (t' := t1) ?_ F hM (mA1_B hm) (xQ_x f1) (yQ_y g1) hdA heA
    rw [hX, d1]
    rfl
  rw [d1, fBd_s, if_neg (by decide)] at hX
  have hp1 := P1.2.2.1.2.2.2.2
  have U1 : xS q (xA (G 1)) sc s1 := xS_b f1 ⟨rfl, Or.inr (Or.inr (Or.inr rfl))⟩
  have V1 : yS (dA (G 1)) (eA (G 1)) sm t1 := yS_b g1 rfl
  have n1 : gB s1 7 q 2 (G 1) = gB t1 12 0 7 (118 + G 1) := by rw [f1.2.2.2.1, g1.2.2.2.1, if_pos ⟨rfl, rfl, rfl, rfl⟩, if_pos ⟨rfl, rfl, rfl, rfl⟩]
  clear f1 g1 d1 e1
  -- pay
  obtain ⟨s2, t2, f2, g2, e2, h⟩ := st_take P1 (k := 2) (by omega) f_X12_isPay (ps_pay P1) (kA2 q) (mA2 (nI (G 1)))
  have hM := hM.trans e2
  have U2 := xS_tr U1 (xS_x f2)
  have V2 := yS_tr V1 (yS_y g2)
  have n2 : gB s2 7 q 2 (G 1) = gB t2 12 0 7 (118 + G 1) := by rw [f2.2.2.2.1, g2.2.2.2.1]; exact n1
  rcases h with ⟨d2, a2, p2, o2, P2, m3, m4⟩ | ⟨d2, d, e, F⟩
  rotate_left
  · exact it_bad (hX.trans d2) F hM (mA2_B hm) (xQ_S U2) (yQ_S V2 hdA heA) hdA heA
  have hX := hX.trans d2
  have hp2 := P2.2.2.1.2.2.2.2
  clear f2 g2 d2 e2 n1 U1 V1
  have hM := hM.trans (congrFun (mA2_e hm) t2)
  obtain ⟨s3, t3, r1, f3, g3, e3, h⟩ := st_count P2 (lo := 0) (hi := 99) (by omega) (fun s8 => fIx (gI s8 7 q 1) 6 <| fLt (sA s8 7 q 5 (upd (gA s8 7 q 5) (gI s8 7 q 1).toNatClampNeg (gI s8 5 0 9))) fun s9 => kA3 q s9) (fun x s1 => mA3 (nI (G 1)) (sA s1 12 0 5 (upd (gA s1 12 0 5) (1727 + G 1) x)))
  have hM := hM.trans e3
  have U3 := xS_tr U2 (xS_x f3)
  have V3 := yS_tr V2 (yS_y g3)
  have n3 : gB s3 7 q 2 (G 1) = gB t3 12 0 7 (118 + G 1) := by rw [f3.2.2.2.1, g3.2.2.2.1]; exact n2
  rcases h with ⟨d3, hr1, h9, a3, p3, o3, P3, m5, m6⟩ | ⟨d3, r0, d, e, F⟩
  rotate_left
  · exact it_bad (K := fun s1 => mA3 (nI (G 1)) (sA s1 12 0 5 (upd (gA s1 12 0 5) (1727 + G 1) (nI r1)))) (hX.trans d3) F hM (mB_set (Or.inl rfl) (mA3_B hm)) (xQ_S U3) (yQ_S V3 hdA heA) hdA heA
  have hX := (hX.trans d3).trans (kA2_k hm ((U3.1 _ _ _ (by omega)).trans x1) h9)
  have hp3 := P3.2.2.1.2.2.2.2
  have P4 := ps_A (ps_A7 P3 q 5 (upd (gA s3 7 q 5) (G 1) (nI r1))) (1727 + G 1) (nI r1)
  have U4 : xS q (xA (G 1)) sc (sA s3 7 q 5 (upd (gA s3 7 q 5) (G 1) (nI r1))) := xS_tr U3 (xS_A s3 _ ⟨rfl, Or.inl rfl⟩)
  have V4 : yS (dA (G 1)) (eA (G 1)) sm (sA t3 12 0 5 (upd (gA t3 12 0 5) (1727 + G 1) (nI r1))) := yS_tr V3 (yS_A t3 _ (Or.inl rfl))
  have n4 : gB (sA s3 7 q 5 (upd (gA s3 7 q 5) (G 1) (nI r1))) 7 q 2 (G 1) = gB (sA t3 12 0 5 (upd (gA t3 12 0 5) (1727 + G 1) (nI r1))) 12 0 7 (118 + G 1) := n3
  have X4 : gA (sA s3 7 q 5 (upd (gA s3 7 q 5) (G 1) (nI r1))) 7 q 5 (G 1) = nI r1 := by rw [gA_sA, if_pos ⟨rfl, rfl, rfl⟩, upd_at, if_pos rfl]
  have Y4 : gA (sA t3 12 0 5 (upd (gA t3 12 0 5) (1727 + G 1) (nI r1))) 12 0 5 (1727 + G 1) = nI r1 := by rw [gA_sA, if_pos ⟨rfl, rfl, rfl⟩, upd_at, if_pos rfl]
  clear d3 e3 f3 g3 n2 n3 U2 V2 U3 V3 P2 P3 h9
  generalize sA s3 7 q 5 (upd (gA s3 7 q 5) (G 1) (nI r1)) = s4 at *
  generalize sA t3 12 0 5 (upd (gA t3 12 0 5) (1727 + G 1) (nI r1)) = t4 at *
  -- breath
  obtain ⟨s5, t5, f5, g5, e5, h⟩ := st_take P4 (k := 3) (by omega) f_X12_isBreath (ps_breath P4) (kA4 q) (mA4 (nI (G 1)))
  have hM := hM.trans e5
  have U5 := xS_tr U4 (xS_x f5)
  have V5 := yS_tr V4 (yS_y g5)
  have n5 : gB s5 7 q 2 (G 1) = gB t5 12 0 7 (118 + G 1) := by rw [f5.2.2.2.1, g5.2.2.2.1]; exact n4
  have X5 : gA s5 7 q 5 (G 1) = nI r1 := by rw [f5.2.2.1]; exact X4
  have Y5 : gA t5 12 0 5 (1727 + G 1) = nI r1 := by rw [g5.2.2.1]; exact Y4
  rcases h with ⟨d5, a5, p5, o5, P5, m7, m8⟩ | ⟨d5, d, e, F⟩
  rotate_left
  · exact it_bad (hX.trans d5) F hM (mA4_B hm) (xQ_S U5) (yQ_S V5 hdA heA) hdA heA
  have hX := hX.trans d5
  have hp5 := P5.2.2.1.2.2.2.2
  clear f5 g5 d5 e5 n4 X4 Y4 U4 V4 P4
  have hM := hM.trans (congrFun (mA4_e hm) t5)
  obtain ⟨s6, t6, r2, f6, g6, e6, h⟩ := st_count P5 (lo := 0) (hi := 999) (by omega) (fun s8 => fIx (gI s8 7 q 1) 6 <| fLt (sA s8 7 q 6 (upd (gA s8 7 q 6) (gI s8 7 q 1).toNatClampNeg (gI s8 5 0 9))) fun s9 => kA5 q s9) (fun x s1 => mA5 (nI (G 1)) (sA s1 12 0 5 (upd (gA s1 12 0 5) (1733 + G 1) x)))
  have hM := hM.trans e6
  have U6 := xS_tr U5 (xS_x f6)
  have V6 := yS_tr V5 (yS_y g6)
  have n6 : gB s6 7 q 2 (G 1) = gB t6 12 0 7 (118 + G 1) := by rw [f6.2.2.2.1, g6.2.2.2.1]; exact n5
  have X6 : gA s6 7 q 5 (G 1) = nI r1 := by rw [f6.2.2.1]; exact X5
  have Y6 : gA t6 12 0 5 (1727 + G 1) = nI r1 := by rw [g6.2.2.1]; exact Y5
  rcases h with ⟨d6, hr2, h9, a6, p6, o6, P6, m9, m10⟩ | ⟨d6, r0, d, e, F⟩
  rotate_left
  · exact it_bad (K := fun s1 => mA5 (nI (G 1)) (sA s1 12 0 5 (upd (gA s1 12 0 5) (1733 + G 1) (nI r2)))) (hX.trans d6) F hM (mB_set (Or.inr (Or.inl rfl)) (mA5_B hm)) (xQ_S U6) (yQ_S V6 hdA heA) hdA heA
  have hX := (hX.trans d6).trans (kA4_k hm ((U6.1 _ _ _ (by omega)).trans x1) h9)
  have hp6 := P6.2.2.1.2.2.2.2
  have P7 := ps_A (ps_A7 P6 q 6 (upd (gA s6 7 q 6) (G 1) (nI r2))) (1733 + G 1) (nI r2)
  have U7 : xS q (xA (G 1)) sc (sA s6 7 q 6 (upd (gA s6 7 q 6) (G 1) (nI r2))) := xS_tr U6 (xS_A s6 _ ⟨rfl, Or.inr (Or.inl rfl)⟩)
  have V7 : yS (dA (G 1)) (eA (G 1)) sm (sA t6 12 0 5 (upd (gA t6 12 0 5) (1733 + G 1) (nI r2))) := yS_tr V6 (yS_A t6 _ (Or.inr (Or.inl rfl)))
  have n7 : gB (sA s6 7 q 6 (upd (gA s6 7 q 6) (G 1) (nI r2))) 7 q 2 (G 1) = gB (sA t6 12 0 5 (upd (gA t6 12 0 5) (1733 + G 1) (nI r2))) 12 0 7 (118 + G 1) := n6
  have X7 : gA (sA s6 7 q 6 (upd (gA s6 7 q 6) (G 1) (nI r2))) 7 q 5 (G 1) = nI r1 := by rw [gA_sA, if_neg (by omega)]; exact X6
  have Y7 : gA (sA t6 12 0 5 (upd (gA t6 12 0 5) (1733 + G 1) (nI r2))) 12 0 5 (1727 + G 1) = nI r1 := by rw [gA_sA, if_pos ⟨rfl, rfl, rfl⟩, upd_at, if_neg (by omega)]; exact Y6
  have X8 : gA (sA s6 7 q 6 (upd (gA s6 7 q 6) (G 1) (nI r2))) 7 q 6 (G 1) = nI r2 := by rw [gA_sA, if_pos ⟨rfl, rfl, rfl⟩, upd_at, if_pos rfl]
  have Y8 : gA (sA t6 12 0 5 (upd (gA t6 12 0 5) (1733 + G 1) (nI r2))) 12 0 5 (1733 + G 1) = nI r2 := by rw [gA_sA, if_pos ⟨rfl, rfl, rfl⟩, upd_at, if_pos rfl]
  clear d6 e6 f6 g6 n5 n6 U5 V5 U6 V6 P5 P6 h9 X5 X6 Y5 Y6
  generalize sA s6 7 q 6 (upd (gA s6 7 q 6) (G 1) (nI r2)) = s7 at *
  generalize sA t6 12 0 5 (upd (gA t6 12 0 5) (1733 + G 1) (nI r2)) = t7 at *
  -- not
  have hx7 : gI s7 7 q 1 = nI (G 1) := (U7.1 _ _ _ (by omega)).trans x1
  have hso := ps_so P7
  have h64 := tok_35 P7.2.1
  have hp7 := P7.2.2.1.2.2.2.2
  rw [mA5_e, P7.2.2.2.1, if_neg (fun g => g rfl), ps_not P7, fBd_s] at hM
  unfold kA5 at hX
  rw [hso, show ((4 : Int32)) = nI 4 from rfl] at hX
  have hq : (nI o6 = nI 4) = (o6 = 4) := i_eq _ _ (by omega) (by omega)
  by_cases h4 : o6 = 4
  · rw [if_neg (fun g => g (hq.mpr h4))] at hX
    rw [decide_eq_true h4, if_neg (by decide)] at hM
    have N7 : nmR s7 t7 q G := nmR_S N U7 V7 (fun m => by unfold xA; omega) (fun m h => by unfold eA at h; omega) hdA2
    obtain ⟨s8, t8, f8, g8, h⟩ := ps_roles P7 N7
    have U8 := xS_tr U7 (xS_x f8)
    have V8 := yS_tr V7 (yS_y g8)
    have hx8 : gI s8 7 q 1 = nI (G 1) := (U8.1 _ _ _ (by omega)).trans x1
    rcases h with ⟨mk, a8, p8, o8, hmk, P8, m11, k1, k2⟩ | ⟨r, d, e, F, k1, k2⟩ | ⟨mk, a8, hmk, H, k1, k2⟩
    · rw [k1, fBd_s] at hX
      rw [k2, fBd_s] at hM
      have hp8 := P8.2.2.1.2.2.2.2
      exact act_fin S hm U8 V8 P8 ⟨hr1.2, hr2.2⟩ hmk (by rw [f8.2.2.1]; exact X7) (by rw [f8.2.2.1]; exact X8) (by rw [g8.2.2.1]; exact Y7) (by rw [g8.2.2.1]; exact Y8) (by rw [f8.2.2.2.1, g8.2.2.2.1]; exact n7) hx7 hX hM (by omega)
    · rw [k1, fBd_s, kA6_no hm hx7 hx8] at hX
      rw [k2, fBd_s] at hM
      have F2 : flR (sA s8 7 q 7 (upd (gA s8 7 q 7) (G 1) mI)) t8 d e := F
      exact it_bad hX F2 hM (mA6_B hm _) (xQ_S (xS_tr U8 (xS_A s8 _ ⟨rfl, Or.inr (Or.inr (Or.inl rfl))⟩))) (yQ_S V8 hdA heA) hdA heA
    · rw [k1, fBd_s, kA6_ok hm (p6_31 hmk b0) hx7 hx8] at hX
      rw [k2, fBd_s] at hM
      have H2 : hfR (sA s8 7 q 7 (upd (gA s8 7 q 7) (G 1) (nI mk))) t8 a8 := H
      obtain ⟨s9, k3, f9, F⟩ := hf_take H2 (k := 59) (by omega)
      rw [k3, fBd_s, if_neg (by decide)] at hX
      exact it_bad hX F hM (mA6_B hm _) (xQ_tr (xQ_S (xS_tr U8 (xS_A s8 _ ⟨rfl, Or.inr (Or.inr (Or.inl rfl))⟩))) (xQ_x f9)) (yQ_S V8 hdA heA) hdA heA
  · rw [if_pos (fun g => h4 (hq.mp g))] at hX
    rw [decide_eq_false h4, if_pos (by decide)] at hM
    exact act_fin (mk := 0) S hm U7 V7 P7 ⟨hr1.2, hr2.2⟩ (Nat.two_pow_pos _) X7 X8 Y7 Y8 n7 hx7 hX hM (by omega)
end
