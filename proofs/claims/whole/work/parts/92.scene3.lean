/-! layer 2: reading a scene, both sides -/
theorem nle4 {k : Nat} (hk : k < 4) : ¬ nI 4 ≤ nI k := by
  rw [i_le _ _ (by omega) (by omega)]
  omega
theorem yle4 : nI 4 ≤ nI 4 := by
  rw [i_le _ _ (by omega) (by omega)]
  omega
section
variable {n : Nat} {c : Nat → Nat} {q : Nat} {G : Nat → Nat} {sc sm s t : fSt} {a p so p0 : Nat} {X : fSt → Option (Int32 × fSt)} {M : fSt → Option (Unit × fSt)}
theorem dS_le {m i : Nat} (h : dS m i) : 1720 ≤ i := by
  obtain ⟨j, h1, h2⟩ := h
  omega
theorem eS_le {m i : Nat} (h : eS m i) : 112 ≤ i := by
  unfold eS at h
  omega
theorem scS_Q {j : Nat} (Z : scS q G sc sm j s t) : xQ q sc s ∧ yQ sm t := ⟨xQ_S Z.1, yQ_S Z.2.1 (fun _ h => dS_le h) (fun _ h => eS_le h)⟩
theorem scS_x2 {j : Nat} (S : sgR sc sm q G) (Z : scS q G sc sm j s t) : gI s 7 q 2 = nI (G 2) := (Z.1.1 _ _ _ (by omega)).trans (nmR_of S).2.1.2.2.1
theorem scn_bad {s' t' : fSt} {j d e : Nat} {K : fSt → Option (Unit × fSt)} (Z : scS q G sc sm j s t) (hX : X sc = some (nI 0, s')) (F : flR s' t' d e) (hM : M sm = K t') (hK : mB (dS (G 2)) (eS (G 2)) K) (fx : xQ q s s') (fy : yQ t t') : itR n c q sc sm p0 X M :=
  it_bad hX F hM hK (xQ_tr (scS_Q Z).1 fx) (yQ_tr (scS_Q Z).2 fy) (fun _ h => dS_le h) (fun _ h => eS_le h)
-- the sign after the scene
theorem scn_8 (S : sgR sc sm q G) (hm : G 2 < 12) (Z : scS q G sc sm 8 s t) (P : psR s t n c a p so) (hp : p0 ≤ p) (hX : X sc = kS7 q s) (hM : M sm = mS11 t) : itR n c q sc sm p0 X M := by
  have N := nmR_of S
  obtain ⟨⟨b0, b1, b2, b3⟩, ⟨x0, x1, x2, -⟩, ⟨y0, y1, y2, -⟩, -⟩ := id N
  have hy2 : gA t 12 0 5 1722 = nI (G 2) := (Z.2.1.2.2.1 _ _ _ _ (fun e => by obtain ⟨j, h1, h2⟩ := e.2.2.2; omega)).trans y2
  rw [mS11_e, P.2.2.2.1, if_neg (fun g => g rfl), hy2, nI_add] at hM
  have P1 := ps_A P 1722 (nI (G 2 + 1))
  obtain ⟨s2, t2, e2, f2, g2, h⟩ := ps_tail P1
  have hM2 : (fBd (M sm) fun _ s => mTail s) = some ((), t2) := by rw [hM, fBd_s]; exact e2
  have Q1 := scS_Q Z
  have Q2 : yQ sm t2 := yQ_tr Q1.2 (yQ_tr (yQ_A t (by omega)) (yQ_y g2))
  unfold kS7 at hX
  rw [show ((59 : Int32)) = nI 59 from rfl] at hX
  rcases h with ⟨d2, a2, p2, o2, P2, m3, m4⟩ | ⟨d2, d, e, F⟩
  · have xx : gI s2 7 q 2 = nI (G 2) := (f2.1 _ _ _ (by omega)).trans (scS_x2 S Z)
    obtain ⟨U, W, hn, V, hV⟩ := Z
    refine ⟨sI s2 7 q 2 (nI (G 2 + 1)), t2, hM2, xQ_tr Q1.1 (xQ_tr (xQ_x f2) (xQ_I s2)), Q2, Or.inl ⟨?_, fun k => if k = 2 then G 2 + 1 else if k = 25 + G 2 then V 0 else if k = 37 + G 2 then V 1 else if k = 49 + G 2 then V 2 else if k = 61 + G 2 then V 3 else if k = 73 + G 2 then V 4 else if k = 85 + G 2 then V 5 else if k = 97 + G 2 then V 6 else if k = 109 + G 2 then V 7 else G k, a2, p2, o2, ?_, ps_I7 P2 q 2 _, by omega, fun ho => ?_⟩⟩
    · rw [hX, d2, fBd_s, if_pos (by decide), xx, show ((1 : Int32)) = nI 1 from rfl, nI_add]
      rfl
    · have hA : ∀ k, k ≠ 1722 → gA t2 12 0 5 k = gA t 12 0 5 k := fun k hk => by rw [g2.2.2.1, gA_sA, if_pos ⟨rfl, rfl, rfl⟩, upd_at, if_neg hk]
      have hA1 : gA t2 12 0 5 1722 = nI (G 2 + 1) := by rw [g2.2.2.1, gA_sA, if_pos ⟨rfl, rfl, rfl⟩, upd_at, if_pos rfl]
      have hs : ∀ k i, gA (sI s2 7 q 2 (nI (G 2 + 1))) 7 q k i = gA s 7 q k i := fun k i => by rw [gA_sI, f2.2.2.1]
      obtain ⟨o0, z0, w0⟩ := hV 0 (by omega)
      obtain ⟨o1, z1, w1⟩ := hV 1 (by omega)
      obtain ⟨o2', z2, w2⟩ := hV 2 (by omega)
      obtain ⟨o3, z3, w3⟩ := hV 3 (by omega)
      obtain ⟨o4, z4, w4⟩ := hV 4 (by omega)
      obtain ⟨o5, z5, w5⟩ := hV 5 (by omega)
      obtain ⟨o6, z6, w6⟩ := hV 6 (by omega)
      obtain ⟨o7, z7, w7⟩ := hV 7 (by omega)
      have hw : ∀ j, j < 8 → ∀ x, gA t 12 0 5 (1745 + 12 * j + G 2) = x → gA t2 12 0 5 (1720 + (25 + 12 * j + G 2)) = x := fun j hj x hx => by
        rw [hA _ (by omega), show 1720 + (25 + 12 * j + G 2) = 1745 + 12 * j + G 2 by omega]
        exact hx
      refine stR_scn (v1 := V 0) (v2 := V 1) (v3 := V 2) (v4 := V 3) (v5 := V 4) (v6 := V 5) (v7 := V 6) (v8 := V 7) S hm ⟨o0.1 rfl, o1.2.1 rfl, o2'.2.2.1 rfl, ⟨o3.2.2.2.1 (by omega), o4.2.2.2.1 (by omega), o5.2.2.2.1 (by omega), o6.2.2.2.1 (by omega)⟩, o7.2.2.2.2 rfl⟩ rfl ⟨?_, ?_, ?_, ?_, ?_, ?_, ?_, ?_⟩ (fun k hk => ?_) ?_ (fun k hk => ?_) (fun k i hk => ?_) (fun k i hk => ?_) ⟨(hs _ _).trans z0, (hs _ _).trans z1, (hs _ _).trans z2, (hs _ _).trans z3, (hs _ _).trans z4, (hs _ _).trans z5, (hs _ _).trans z6, (hs _ _).trans z7⟩ hA1 (fun k hk => ?_) (fun i hi => ?_) ⟨hw 0 (by omega) _ w0, hw 1 (by omega) _ w1, hw 2 (by omega) _ w2, hw 3 (by omega) _ w3, hw 4 (by omega) _ w4, hw 5 (by omega) _ w5, hw 6 (by omega) _ w6, hw 7 (by omega) _ w7⟩ ?_
      · simp (disch := omega) only [if_neg, if_pos, if_true]
      · simp (disch := omega) only [if_neg, if_pos, if_true]
      · simp (disch := omega) only [if_neg, if_pos, if_true]
      · simp (disch := omega) only [if_neg, if_pos, if_true]
      · simp (disch := omega) only [if_neg, if_pos, if_true]
      · simp (disch := omega) only [if_neg, if_pos, if_true]
      · simp (disch := omega) only [if_neg, if_pos, if_true]
      · simp (disch := omega) only [if_neg, if_pos, if_true]
      · simp (disch := omega) only [if_neg, if_pos, if_true]
      · rw [gI_sI, if_pos ⟨rfl, rfl, rfl⟩]
      · rw [gI_sI, if_neg (by omega), f2.1 _ _ _ (by omega)]
        exact U.1 _ _ _ (by omega)
      · rw [hs]
        exact U.2.2.1 _ _ _ _ (fun e => by have := e.2.2; unfold xC at this; omega)
      · rw [gB_sI, f2.2.2.2.1]
        exact U.2.2.2.1 _ _ _ _ (fun e => by have := e.2.2; unfold xC at this; omega)
      · rw [hA _ (by omega)]
        exact W.2.2.1 _ _ _ _ (fun e => by obtain ⟨j, h1, h2⟩ := e.2.2.2; omega)
      · rw [g2.2.2.2.1, gB_sA]
        exact W.2.2.2.1 _ _ _ _ (fun e => by have := e.2.2.2; unfold eS at this; omega)
      · rw [gB_sI, f2.2.2.2.1, g2.2.2.2.1, gB_sA]; exact hn
    · have := m4 ho
      have hpp := P.2.2.1.2.2.2.2
      omega
  · refine ⟨s2, t2, hM2, xQ_tr Q1.1 (xQ_x f2), Q2, Or.inr ⟨?_, d, e, F⟩⟩
    rw [hX, d2, fBd_s, if_neg (by decide)]
    rfl
-- the victim
theorem scn_7 (S : sgR sc sm q G) (hm : G 2 < 12) (Z : scS q G sc sm 7 s t) (P : psR s t n c a p so) (hy : gA t 12 0 5 (1829 + G 2) = mI) (hp : p0 ≤ p) (hX : X sc = kS6 q s) (hM : M sm = mS10 (nI (G 2)) t) : itR n c q sc sm p0 X M := by
  rw [mS10_e hm, P.2.2.2.1, if_neg (fun g => g rfl)] at hM
  obtain ⟨s1, t1, f, g, e1, h⟩ := st_vic P (scS_nm S hm Z) hm hy mS11
  rw [e1] at hM
  unfold kS6 at hX
  rcases h with ⟨d1, v, hv, z1, z2, a1, p1, o1, P1, m1⟩ | ⟨d1, d, e, F⟩
  · rw [d1, fBd_s, if_neg (by decide)] at hX
    exact scn_8 S hm (scS_step (v := v) (by omega) Z f g ⟨fun h => by omega, fun h => by omega, fun h => by omega, fun h => by omega, fun _ => hv⟩ z1 z2 hm) P1 (by omega) hX hM
  · rw [d1, fBd_s, if_pos (by decide)] at hX
    exact scn_bad Z hX F hM mS11_B (xQ_S f) (yQ_S g (fun _ h => by omega) (fun _ h => h.elim))
-- one way
theorem scn_way {k F : Nat} (hk : k < 4) {w : fSt → Option (Int32 × fSt)} {M' : fSt → Option (Unit × fSt)} (S : sgR sc sm q G) (hm : G 2 < 12) (Z : scS q G sc sm (3 + k) s t) (P : psR s t n c a p so) (hw : w t = some (bI (decide (so = 9 + k)), t)) (hB : mB (dS (G 2)) (eS (G 2)) M') (hX : X sc = f_X7_readScene_L102 q (kS6 q) (F + 1) (nI k) s) (hM : M sm = fBd (w t) fun x t1 => fBd (f_X12_readWay x t1) fun x2 t2 => M' (wA t2 (1781 + 12 * k + G 2) x2))
    (next : ∀ s' t' a' p' so', psR s' t' n c a' p' so' → p ≤ p' → scS q G sc sm (4 + k) s' t' → X sc = f_X7_readScene_L102 q (kS6 q) F (nI (k + 1)) s' → M sm = M' t' → itR n c q sc sm p0 X M) : itR n c q sc sm p0 X M := by
  obtain ⟨s1, t1, r, f, g, e1, h⟩ := st_way P (scS_nm S hm Z) hm hk hw (fun x2 t2 => M' (wA t2 (1781 + 12 * k + G 2) x2))
  have hM := hM.trans e1
  have hk4 : ¬ 4 ≤ k := by omega
  unfold f_X7_readScene_L102 at hX
  rw [show ((4 : Int32)) = nI 4 from rfl, if_neg (nle4 hk)] at hX
  rcases h with ⟨d1, v, hv, hr, z1, a1, p1, o1, P1, m1⟩ | ⟨d1, d, e, F⟩
  · rw [d1, fBd_s, if_pos (by decide), fLt_e, show ((1 : Int32)) = nI 1 from rfl, nI_add] at hX
    have hc : 1745 + 12 * (3 + k) + G 2 = 1781 + 12 * k + G 2 := by omega
    have hcx : cX (3 + k) = 11 := by
      unfold cX
      rw [if_neg (by omega), if_pos (by omega)]
    have hcj : cJ (G 2) (3 + k) = G 2 * 4 + k := by
      unfold cJ
      rw [if_neg (by omega), if_pos (by omega)]
      omega
    have hce : cE (3 + k) v = xI v := by
      unfold cE
      rw [if_neg (by omega)]
    refine next s1 (wA t1 (1781 + 12 * k + G 2) r) a1 p1 o1 (ps_A P1 _ _) m1 ?_ hX hM
    rw [show 4 + k = (3 + k) + 1 by omega]
    refine scS_step (v := v) (by omega) Z ?_ ?_ ⟨fun h => by omega, fun h => by omega, fun h => by omega, fun _ => hv, fun h => by omega⟩ ?_ ?_ hm
    · rw [hcx, hcj]; exact f
    · rw [hc]; exact yS_tr (yS_y g) (yS_A t1 r rfl)
    · rw [hcx, hcj, hce]; exact z1
    · rw [hc, hce, wA_at]; exact hr
  · rw [d1, fBd_s, if_neg (by decide)] at hX
    exact scn_bad (K := fun t2 => M' (wA t2 (1781 + 12 * k + G 2) r)) Z hX F hM (mB_wA ⟨3 + k, by omega, by omega⟩ hB) (xQ_S f) (yQ_y g)
-- the four ways
theorem scn_3 (S : sgR sc sm q G) (hm : G 2 < 12) (Z : scS q G sc sm 3 s t) (P : psR s t n c a p so) (hp : p0 ≤ p) (hX : X sc = f_X7_readScene_L102 q (kS6 q) fF (nI 0) s) (hM : M sm = mS6 (nI (G 2)) t) : itR n c q sc sm p0 X M := by
  obtain ⟨F, hF⟩ : ∃ F, fF = F + 5 := ⟨fF - 5, by have : 100 < fF := fF_lt (by omega); omega⟩
  rw [hF] at hX
  refine scn_way (k := 0) (F := F + 4) (by omega) S hm Z P (ps_then P) (mS7_B hm) hX (hM.trans (congrFun (mS6_e hm) t)) (fun s1 t1 a1 p1 o1 P1 m1 Z1 hX hM => ?_)
  refine scn_way (k := 1) (F := F + 3) (by omega) S hm Z1 P1 (ps_tear P1) (mS8_B hm) hX (hM.trans (congrFun (mS7_e hm) t1)) (fun s2 t2 a2 p2 o2 P2 m2 Z2 hX hM => ?_)
  refine scn_way (k := 2) (F := F + 2) (by omega) S hm Z2 P2 (ps_laugh P2) (mS9_B hm) hX (hM.trans (congrFun (mS8_e hm) t2)) (fun s3 t3 a3 p3 o3 P3 m3 Z3 hX hM => ?_)
  refine scn_way (k := 3) (F := F + 1) (M' := fun t => mS10 (nI (G 2)) (wA t (1829 + G 2) mI)) (by omega) S hm Z3 P3 (ps_sleep P3) (mB_wA ⟨7, by omega, by omega⟩ (mS10_B hm)) hX (hM.trans (congrFun (mS9_e hm) t3)) (fun s4 t4 a4 p4 o4 P4 m4 Z4 hX hM => ?_)
  unfold f_X7_readScene_L102 at hX
  rw [show ((4 : Int32)) = nI 4 from rfl, if_pos yle4] at hX
  exact scn_7 S hm (scS_wA (i := 7) (v := mI) (by omega) hm Z4) (ps_A P4 _ _) (wA_at _ _ _) (by omega) hX hM
-- the ending
theorem scn_2 (S : sgR sc sm q G) (hm : G 2 < 12) (Z : scS q G sc sm 2 s t) (P : psR s t n c a p so) (hy : gA t 12 0 5 (1769 + G 2) = mI) (hp : p0 ≤ p) (hX : X sc = kS4b q s) (hM : M sm = mS5 (nI (G 2)) t) : itR n c q sc sm p0 X M := by
  rw [mS5_e hm, P.2.2.2.1, if_neg (fun g => g rfl)] at hM
  obtain ⟨s1, t1, f, g, e1, h⟩ := st_end P (scS_x2 S Z) hm hy (mS6 (nI (G 2)))
  rw [e1] at hM
  unfold kS4b at hX
  rcases h with ⟨d1, v, hv, z1, z2, a1, p1, o1, P1, m1⟩ | ⟨d1, d, e, F⟩
  · rw [d1, fBd_s, if_pos (by decide)] at hX
    exact scn_3 S hm (scS_step (v := v) (by omega) Z f g ⟨fun h => by omega, fun h => by omega, fun _ => hv, fun h => by omega, fun h => by omega⟩ z1 z2 hm) P1 (by omega) hX hM
  · rw [d1, fBd_s, if_neg (by decide)] at hX
    exact scn_bad Z hX F hM (mS6_B hm) (xQ_S f) (yQ_S g (fun _ h => by omega) (fun _ h => h.elim))
-- the class after a long word in the place of a role
theorem kS_hf {m a : Nat} (hm : m < 12) (H : hfR s t a) (x2 : gI s 7 q 2 = nI m) : ∃ s', kS4b q s = some (nI 0, s') ∧ xQ q s s' ∧ flR s' t 2 a := by
  obtain ⟨F, hF⟩ : ∃ F, fF = F + 5 := ⟨fF - 5, by have : 100 < fF := fF_lt (by omega); omega⟩
  have e1 := x_end_no (q := q) hm x2 H.2.1 (by omega)
  have r : ∀ k F (s : fSt), k < 4 → gI s 5 0 6 = nI 33 → gI s 7 q 2 = nI m → f_X7_readScene_L102 q (kS6 q) (F + 1) (nI k) s = f_X7_readScene_L102 q (kS6 q) F (nI (k + 1)) (zA q s 11 (m * 4 + k) mI) := by
    intro k F s hk h1 h2
    have e := x_way_no (q := q) hm h2 hk h1 (by omega)
    have hk4 : ¬ 4 ≤ k := by omega
    conv => lhs; unfold f_X7_readScene_L102
    rw [show ((4 : Int32)) = nI 4 from rfl, if_neg (nle4 hk), e, fBd_s, if_pos (by decide), fLt_e, show ((1 : Int32)) = nI 1 from rfl, nI_add]
  obtain ⟨s', k3, f9, F9⟩ := hf_take (sc := zA q (zA q (zA q (zA q (zA q (zA q s 10 m mI) 11 (m * 4 + 0) mI) 11 (m * 4 + 1) mI) 11 (m * 4 + 2) mI) 11 (m * 4 + 3) mI) 12 m mI) (show hfR _ t a from H) (k := 59) (by omega)
  have hz : ∀ (s : fSt) (k m : Nat) (v : Int32), xQ q s (zA q s k m v) := fun s k m v => xQ_S (D := fun k' i => k' = k ∧ i = m) (xS_A s v ⟨rfl, rfl⟩)
  refine ⟨s', ?_, xQ_tr (hz s 10 m mI) (xQ_tr (hz _ 11 _ mI) (xQ_tr (hz _ 11 _ mI) (xQ_tr (hz _ 11 _ mI) (xQ_tr (hz _ 11 _ mI) (xQ_tr (hz _ 12 _ mI) (xQ_x f9)))))), F9⟩
  unfold kS4b
  rw [e1, fBd_s, if_pos (by decide), hF]
  refine (r 0 (F + 4) (zA q s 10 m mI) (by omega) H.2.1 x2).trans ((r 1 (F + 3) (zA q (zA q s 10 m mI) 11 (m * 4 + 0) mI) (by omega) H.2.1 x2).trans ((r 2 (F + 2) (zA q (zA q (zA q s 10 m mI) 11 (m * 4 + 0) mI) 11 (m * 4 + 1) mI) (by omega) H.2.1 x2).trans ((r 3 (F + 1) (zA q (zA q (zA q (zA q s 10 m mI) 11 (m * 4 + 0) mI) 11 (m * 4 + 1) mI) 11 (m * 4 + 2) mI) (by omega) H.2.1 x2).trans ?_)))
  unfold f_X7_readScene_L102
  rw [show ((4 : Int32)) = nI 4 from rfl, if_pos yle4]
  unfold kS6
  rw [x_vic_no (q := q) (s := (zA q (zA q (zA q (zA q (zA q s 10 m mI) 11 (m * 4 + 0) mI) 11 (m * 4 + 1) mI) 11 (m * 4 + 2) mI) 11 (m * 4 + 3) mI)) hm x2 H.2.1 (by omega), fBd_s, if_neg (by decide)]
  unfold kS7
  rw [show ((59 : Int32)) = nI 59 from rfl, k3, fBd_s, if_neg (by decide)]
  rfl
-- the roles
theorem scn_1r {s0 : fSt} {mk : Nat} (S : sgR sc sm q G) (hm : G 2 < 12) (Z : scS q G sc sm 1 s t) (P : psR s t n c a p so) (h0 : gI s0 7 q 2 = nI (G 2)) (hmk : mk < 2 ^ G 0) (hp : p0 ≤ p) (hX : X sc = kS4 q s0 (nI mk) s) (hM : M sm = mS4 (nI (G 2)) (nI mk) t) : itR n c q sc sm p0 X M := by
  have b0 := (nmR_of S).1.1
  rw [kS4_ok hm (p6_31 hmk b0) h0 (scS_x2 S Z)] at hX
  rw [mS4_e hm] at hM
  have Z1 : scS q G sc sm 2 (zA q s 9 (G 2) (nI mk)) (wA t (1757 + G 2) (nI mk)) := scS_step (v := mk) (by omega) Z (xS_A s (nI mk) ⟨rfl, rfl⟩) (yS_A t (nI mk) rfl) ⟨fun h => by omega, fun _ => hmk, fun h => by omega, fun h => by omega, fun h => by omega⟩ (zA_at _ _ _ _ _) (wA_at _ _ _) hm
  exact scn_2 S hm (scS_wA (i := 2) (v := mI) (by omega) hm Z1) (ps_A (ps_A (ps_A7 P q 9 _) _ _) _ _) (wA_at _ _ _) hp hX hM
theorem scn_1 (S : sgR sc sm q G) (hm : G 2 < 12) (Z : scS q G sc sm 1 s t) (P : psR s t n c a p so) (hp : p0 ≤ p) (hX : X sc = kS3 q s) (hM : M sm = mS3 (nI (G 2)) t) : itR n c q sc sm p0 X M := by
  have b0 := (nmR_of S).1.1
  have hx := scS_x2 S Z
  have hso := ps_so P
  have h64 := tok_35 P.2.1
  have hpp := P.2.2.1.2.2.2.2
  rw [mS3_e, P.2.2.2.1, if_neg (fun g => g rfl), ps_with P, fBd_s] at hM
  unfold kS3 at hX
  rw [hso, show ((7 : Int32)) = nI 7 from rfl] at hX
  have hq : (nI so = nI 7) = (so = 7) := i_eq _ _ (by omega) (by omega)
  by_cases h7 : so = 7
  · rw [if_neg (fun g => g (hq.mpr h7))] at hX
    rw [decide_eq_true h7, if_neg (by decide)] at hM
    obtain ⟨s8, t8, f8, g8, h⟩ := ps_roles P (scS_nm S hm Z)
    have Z8 := scS_fr Z f8 g8
    have hx8 := scS_x2 S Z8
    rcases h with ⟨mk, a8, p8, o8, hmk, P8, m11, k1, k2⟩ | ⟨r, d, e, F, k1, k2⟩ | ⟨mk, a8, hmk, H, k1, k2⟩
    · rw [k1, fBd_s] at hX
      rw [k2, fBd_s] at hM
      have hp8 := P8.2.2.1.2.2.2.2
      exact scn_1r S hm Z8 P8 hx hmk (by omega) hX hM
    · rw [k1, fBd_s, kS4_no hm hx hx8] at hX
      rw [k2, fBd_s] at hM
      have F2 : flR (zA q s8 9 (G 2) mI) t8 d e := F
      exact scn_bad Z8 hX F2 hM (mS4_B hm _) (xQ_S (D := fun k' i => k' = 9 ∧ i = G 2) (xS_A s8 mI ⟨rfl, rfl⟩)) (yQ_rf t8)
    · rw [k1, fBd_s, kS4_ok hm (p6_31 hmk b0) hx hx8] at hX
      rw [k2, fBd_s] at hM
      obtain ⟨s9, k3, f9, F⟩ := kS_hf (q := q) (s := zA q s8 9 (G 2) (nI mk)) (t := t8) (a := a8) hm H hx8
      rw [k3] at hX
      exact scn_bad Z8 hX F hM (mS4_B hm _) (xQ_tr (xQ_S (D := fun k' i => k' = 9 ∧ i = G 2) (xS_A s8 (nI mk) ⟨rfl, rfl⟩)) f9) (yQ_rf t8)
  · rw [if_pos (fun g => h7 (hq.mp g))] at hX
    rw [decide_eq_false h7, if_pos (by decide)] at hM
    exact scn_1r (mk := 0) S hm Z P hx (Nat.two_pow_pos _) hp hX hM
theorem ps_readScene (P : psR sc sm n c a p so) (S : sgR sc sm q G) : itR n c q sc sm p (f_X7_readScene q) f_X12_readScene := by
  have N := nmR_of S
  obtain ⟨⟨b0, b1, b2, b3⟩, ⟨x0, x1, x2, -⟩, ⟨y0, y1, y2, -⟩, -⟩ := id N
  have hb := P.2.2.2.1
  by_cases hG : G 2 = 12
  · obtain ⟨F, f1, g1⟩ := fl_mk P (k := 6) (by omega)
    obtain ⟨e1, e2⟩ := ps_full P
    refine ⟨_, _, ?_, xQ_x f1, yQ_y g1, Or.inr ⟨?_, _, _, F⟩⟩
    · rw [mS_eq]
      simp (disch := omega) only [↓fLt_e, fBd_s, ↓fJn_s, fNn_s, fNu_0, fNu_s, fBo_0, fBo_1, fBo_b, i_lit, i_neg1, nI_add, pk_mul, nI_clamp, i_le, i_lt, i_eq, fIx_n, nI_mI, mI_nI, mI_lt, nI_lt_m, mI_le, nI_le_m, xI_0, xI_s, bI_0, bI_1, bI_t, bI_f, n_31, j_bit, j_one, i_and, i_or, Nat.not_lt_zero, Nat.succ_ne_zero, Nat.add_one_ne_zero, Nat.add_one_sub_one, Nat.zero_le, Nat.or_zero, Nat.zero_or, Bool.not_true, Bool.not_false, Bool.true_and, Bool.false_and, Bool.and_true, Bool.and_false, ↓reduceIte, if_true, if_false, not_true_eq_false, not_false_eq_true, true_and, and_true, false_and, and_false, and_self, true_or, or_true, false_or, or_false, Nat.reduceEqDiff, Nat.reduceLT, Nat.reduceLeDiff, Nat.reduceAdd, Nat.reduceMul, Nat.reduceSub, Nat.add_zero, Nat.zero_add, Nat.mul_zero, Nat.zero_mul, ne_eq, Bool.not_eq_true, Bool.not_eq_false, reduceCtorEq, decide_true, decide_false, decide_eq_true_eq, decide_eq_false_iff_not, Bool.false_eq_true, if_pos, if_neg, y2, hG, e1, e2]
      exact mTail_no (k := 6) (by omega) e2
    · rw [kS_eq, x2, x_newfull (by omega)]
      rfl
  have hm : G 2 < 12 := by omega
  have hM : f_X12_readScene sm = fBd (f_X12_readNew (nI 12) (nI (G 2)) sm) fun _ s4 => mS1 (nI (G 2)) s4 := by
    rw [mS_eq]
    simp (disch := omega) only [↓fLt_e, fBd_s, ↓fJn_s, fNn_s, fNu_0, fNu_s, fBo_0, fBo_1, fBo_b, i_lit, i_neg1, nI_add, pk_mul, nI_clamp, i_le, i_lt, i_eq, fIx_n, nI_mI, mI_nI, mI_lt, nI_lt_m, mI_le, nI_le_m, xI_0, xI_s, bI_0, bI_1, bI_t, bI_f, n_31, j_bit, j_one, i_and, i_or, Nat.not_lt_zero, Nat.succ_ne_zero, Nat.add_one_ne_zero, Nat.add_one_sub_one, Nat.zero_le, Nat.or_zero, Nat.zero_or, Bool.not_true, Bool.not_false, Bool.true_and, Bool.false_and, Bool.and_true, Bool.and_false, ↓reduceIte, if_true, if_false, not_true_eq_false, not_false_eq_true, true_and, and_true, false_and, and_false, and_self, true_or, or_true, false_or, or_false, Nat.reduceEqDiff, Nat.reduceLT, Nat.reduceLeDiff, Nat.reduceAdd, Nat.reduceMul, Nat.reduceSub, Nat.add_zero, Nat.zero_add, Nat.mul_zero, Nat.zero_mul, ne_eq, Bool.not_eq_true, Bool.not_eq_false, reduceCtorEq, decide_true, decide_false, decide_eq_true_eq, decide_eq_false_iff_not, Bool.false_eq_true, if_pos, if_neg, y2, hG, hb]
  have hX : f_X7_readScene q sc = fBd (f_X7_readNew q 7 q 3 12 (nI (G 2)) sc) fun x1 s2 => if x1 = 0 then some ((0 : Int32), s2) else kS1 q s2 := by rw [kS_eq, x2]
  obtain ⟨s1, t1, e1, h⟩ := ps_new P (jj := 3) (nn := 12) (o := 12) (cnt := G 2) N (by omega)
  rw [e1, fBd_s] at hM
  rcases h with ⟨d1, w, a1, p1, o1, f1, g1, P1, m1, m2⟩ | ⟨d1, f1, g1, d, e, F⟩
  rotate_left
  · refine it_bad (s' := s1) (t' := t1) ?_ F hM (mS1_B hm) (xQ_x f1) (yQ_y g1) (fun _ h => dS_le h) (fun _ h => eS_le h)
    rw [hX, d1]
    rfl
  rw [d1, fBd_s, if_neg (by decide)] at hX
  have hp1 := P1.2.2.1.2.2.2.2
  have hpp := P.2.2.1.2.2.2.2
  have Z1 : scS q G sc sm 0 s1 t1 := ⟨xS_b f1 (Or.inl ⟨rfl, Or.inr (Or.inr (Or.inr (Or.inr rfl)))⟩), yS_b g1 rfl, by rw [f1.2.2.2.1, g1.2.2.2.1, if_pos ⟨rfl, rfl, rfl, rfl⟩, if_pos ⟨rfl, rfl, rfl, rfl⟩], fun _ => 0, fun i hi => by omega⟩
  obtain ⟨s2, t2, f2, g2, e2, h⟩ := st_take P1 (k := 6) (by omega) f_X12_isLines (ps_lines P1) (kS2 q) (mS2 (nI (G 2)))
  have hM := hM.trans e2
  have Z2 := scS_fr Z1 f2 g2
  rcases h with ⟨d2, a2, p2, o2, P2, m3, m4⟩ | ⟨d2, d, e, F⟩
  rotate_left
  · exact scn_bad Z2 (hX.trans d2) F hM (mS2_B hm) (xQ_rf q s2) (yQ_rf t2)
  have hX := hX.trans d2
  have hp2 := P2.2.2.1.2.2.2.2
  have hM := hM.trans (congrFun (mS2_e hm) t2)
  obtain ⟨s3, t3, r1, f3, g3, e3, h⟩ := st_count P2 (lo := 1) (hi := 20) (by omega) (fun s8 => fIx (gI s8 7 q 2) 12 <| fLt (sA s8 7 q 8 (upd (gA s8 7 q 8) (gI s8 7 q 2).toNatClampNeg (gI s8 5 0 9))) fun s9 => kS3 q s9) (fun x s1 => mS3 (nI (G 2)) (wA s1 (1745 + G 2) x))
  have hM := hM.trans e3
  have Z3 := scS_fr Z2 f3 g3
  rcases h with ⟨d3, hr1, h9, a3, p3, o3, P3, m5, m6⟩ | ⟨d3, r0, d, e, F⟩
  rotate_left
  · exact scn_bad (K := fun s1 => mS3 (nI (G 2)) (wA s1 (1745 + G 2) (nI r1))) Z3 (hX.trans d3) F hM (mB_wA ⟨0, by omega, by omega⟩ (mS3_B hm)) (xQ_rf q s3) (yQ_rf t3)
  have hX := (hX.trans d3).trans (kS2_k hm (scS_x2 S Z3) h9)
  have hp3 := P3.2.2.1.2.2.2.2
  exact scn_1 S hm (scS_step (v := r1) (by omega) Z3 (xS_A s3 (nI r1) ⟨rfl, rfl⟩) (yS_A t3 (nI r1) rfl) ⟨fun _ => hr1, fun h => by omega, fun h => by omega, fun h => by omega, fun h => by omega⟩ (zA_at _ _ _ _ _) (wA_at _ _ _) hm) (ps_A (ps_A7 P3 q 8 _) _ _) (by omega) hX hM
end
