/-! layer 2: one step of a week with its body -/
section
variable {w : Nat}
theorem eSt_A {a i m k x : Nat} {s : fSt} (h : x ≠ m) (h2 : x ≠ i ∨ k ≠ 4) (hk : 1 ≤ k ∧ k ≤ 4) : gA (eSt w a i m s) 9 w k x = gA s 9 w k x := by
  unfold eSt
  have hc : k = 1 ∨ k = 2 ∨ k = 3 ∨ k = 4 := by omega
  rcases hc with rfl | rfl | rfl | rfl
  · simp (disch := omega) only [gA_sA, gA_sI, if_neg, upd_at, and_self, if_true]
  · simp (disch := omega) only [gA_sA, gA_sI, if_neg, upd_at, and_self, if_true]
  · simp (disch := omega) only [gA_sA, gA_sI, if_neg, upd_at, and_self, if_true]
  · have h3 : x ≠ i := by omega
    simp (disch := omega) only [gA_sA, gA_sI, if_neg, upd_at, and_self, if_true]
theorem eSt_v {a i m : Nat} {s : fSt} (h : i ≠ m) : gA (eSt w a i m s) 9 w 1 m = nI 30 ∧ gA (eSt w a i m s) 9 w 4 m = nI i ∧ gA (eSt w a i m s) 9 w 4 i = nI m ∧ gI (eSt w a i m s) 9 w 0 = nI (m + 1) ∧ gI (eSt w a i m s) 9 w 7 = nI a ∧ gI (eSt w a i m s) 9 w 1 = gI s 9 w 1 := by
  unfold eSt
  refine ⟨?_, ?_, ?_, ?_, ?_, ?_⟩
  · simp (disch := omega) only [gA_sA, gA_sI, if_neg, upd_at, and_self, if_true]
  · simp (disch := omega) only [gA_sA, gA_sI, if_neg, upd_at, and_self, if_true]
  · simp (disch := omega) only [gA_sA, gA_sI, if_neg, upd_at, and_self, if_true]
  · simp (disch := omega) only [gI_sA, gI_sI, if_neg, and_self, if_true]
  · simp (disch := omega) only [gI_sA, gI_sI, if_neg, and_self, if_true]
  · simp (disch := omega) only [gI_sA, gI_sI, if_neg, and_self, if_true]
theorem eSt_V {a b i m : Nat} {s : fSt} (h : i < m) : xV w (fun _ => True) (stD i b) s (eSt w a i m s) := by
  refine ⟨fun c j k _ h2 => ?_, fun _ _ _ _ => rfl, fun c j k x h3 => ?_, rfl, rfl⟩
  · unfold eSt
    simp only [gI_sA, gI_sI]
    rw [if_neg (fun e => h2 ⟨e.1, e.2.1, trivial⟩), if_neg (fun e => h2 ⟨e.1, e.2.1, trivial⟩)]
  · by_cases hc : c = 9 ∧ j = w
    · obtain ⟨rfl, rfl⟩ := hc
      by_cases hk : k = 1 ∨ k = 4
      · have hx : ¬ i ≤ x := fun g => h3 ⟨rfl, rfl, Or.inl ⟨by omega, by omega, g⟩⟩
        exact eSt_A (by omega) (by omega) (by omega)
      · unfold eSt
        simp (disch := omega) only [gA_sA, gA_sI, if_neg]
    · unfold eSt
      simp only [gA_sA, gA_sI]
      rw [if_neg (fun e => hc ⟨e.1, e.2.1⟩), if_neg (fun e => hc ⟨e.1, e.2.1⟩), if_neg (fun e => hc ⟨e.1, e.2.1⟩)]
theorem eSt_P {sc sm : fSt} {n : Nat} {c : Nat → Nat} {a p so b i m : Nat} (P : psR sc sm n c a p so) : psR (eSt w b i m sc) sm n c a p so := ps_A9 (ps_I9 (ps_A9 (ps_A9 (ps_I9 P w 7 _) w 4 _) w 4 _) w 0 _) w 1 _
end
theorem stW_cs (so : Nat) : so = 24 ∨ (∃ K b, (so = 19 ∧ K = 0 ∧ b = 0) ∨ (so = 20 ∧ K = 1 ∧ b = 0) ∨ (so = 21 ∧ K = 2 ∧ b = 0) ∨ (so = 22 ∧ K = 3 ∧ b = 0) ∨ (so = 23 ∧ K = 4 ∧ b = 0) ∨ (so = 29 ∧ K = 6 ∧ b = 1) ∨ (so = 31 ∧ K = 7 ∧ b = 0)) ∨ (stW so = 0 ∧ (so < 19 ∨ 24 < so) ∧ so ≠ 29 ∧ so ≠ 31) := by
  by_cases h4 : so = 24
  · exact Or.inl h4
  by_cases h0 : so = 19
  · exact Or.inr (Or.inl ⟨0, 0, Or.inl ⟨h0, rfl, rfl⟩⟩)
  by_cases h1 : so = 20
  · exact Or.inr (Or.inl ⟨1, 0, Or.inr (Or.inl ⟨h1, rfl, rfl⟩)⟩)
  by_cases h2 : so = 21
  · exact Or.inr (Or.inl ⟨2, 0, Or.inr (Or.inr (Or.inl ⟨h2, rfl, rfl⟩))⟩)
  by_cases h3 : so = 22
  · exact Or.inr (Or.inl ⟨3, 0, Or.inr (Or.inr (Or.inr (Or.inl ⟨h3, rfl, rfl⟩)))⟩)
  by_cases h5 : so = 23
  · exact Or.inr (Or.inl ⟨4, 0, Or.inr (Or.inr (Or.inr (Or.inr (Or.inl ⟨h5, rfl, rfl⟩))))⟩)
  by_cases h6 : so = 29
  · exact Or.inr (Or.inl ⟨6, 1, Or.inr (Or.inr (Or.inr (Or.inr (Or.inr (Or.inl ⟨h6, rfl, rfl⟩)))))⟩)
  by_cases h7 : so = 31
  · exact Or.inr (Or.inl ⟨7, 0, Or.inr (Or.inr (Or.inr (Or.inr (Or.inr (Or.inr ⟨h7, rfl, rfl⟩)))))⟩)
  refine Or.inr (Or.inr ⟨?_, by omega, h6, h7⟩)
  unfold stW
  rw [if_neg h0, if_neg h1, if_neg h2, if_neg h3, if_neg h5, if_neg h4, if_neg h6, if_neg h7]
section
variable {n : Nat} {c : Nat → Nat} {G : Nat → Nat} {w q : Nat}
theorem wk_one {a N1 : Nat} (ha : a ≤ 3) (hn : n ≤ 300) (BD : a < 3 → ∀ (s t : fSt) (V : Nat → Nat) i j a0 p so k, psR s t n c a0 p so → hsR s t q G → wkZ w i j (a + 1) s t → JJ k p so → (∀ x, x < 4 → V x = G x) → bdB q w i j a k fF (f_X12_readStep N1) s t ∨ bdG n c q w i j a k fF (f_X12_readStep N1) V s t)
    (s t : fSt) (V : Nat → Nat) (i j a0 p so k : Nat) (P : psR s t n c a0 p so) (hs : hsR s t q G) (Z : wkZ w i j a s t) (J : JJ k p so) (h30 : ¬ so = 30) (h35 : ¬ so = 35) (hV : ∀ x, x < 4 → V x = G x) : stB q w i j a k s t (f_X12_readStep (N1 + 1) (nI a) t) ∨ stG n c q w i j a k V s t (f_X12_readStep (N1 + 1) (nI a) t) := by
  have hso := ps_so P
  have h64 := tok_35 P.2.1
  have hpp := P.2.2.1.2.2.2.2
  have hkp := J.2 h35
  have hk : k < 300 := by omega
  have hst : f_X12_readStep (N1 + 1) (nI a) t = f_X12_readStep_b (f_X12_readStep N1) (nI a) t := rfl
  rw [hst]
  have hturn := fun F => wl_step (w := w) (q := q) hk hso ⟨h30, h35, h64⟩ (wEnd w) F
  have B : HB w i j a s t (f_X9_readStep w q s) (f_X12_readStep_b (f_X12_readStep N1) (nI a) t) (stB q w i j a k s t (f_X12_readStep_b (f_X12_readStep N1) (nI a) t) ∨ stG n c q w i j a k V s t (f_X12_readStep_b (f_X12_readStep N1) (nI a) t)) := by
    intro s' t' d e F f g hX hM
    refine Or.inl ⟨s', t', d, e, F, f, g, fun F hF => ?_, hM⟩
    obtain ⟨F, rfl⟩ : ∃ F', F = F' + 1 := ⟨F - 1, by omega⟩
    rw [hturn, hX, fBd_s, if_neg (by decide)]
  have GG : HG n c G (f_X12_readStep N1) w i j a p s t (f_X9_readStep w q s) (f_X12_readStep_b (f_X12_readStep N1) (nI a) t) (stB q w i j a k s t (f_X12_readStep_b (f_X12_readStep N1) (nI a) t) ∨ stG n c q w i j a k V s t (f_X12_readStep_b (f_X12_readStep N1) (nI a) t)) := by
    intro s1 t1 a1 p1 o1 K b A T C N P1 m1 hSF hb Z1 f1 g1 hX hM
    have hp1 := P1.2.2.1.2.2.2.2
    have ht1 : ∀ F, f_X9_readFrom_L2 w q (wEnd w) (F + 1) (nI k) s = f_X9_readFrom_L2 w q (wEnd w) F (nI (k + 1)) s1 := fun F => by rw [hturn, hX, fBd_s, if_pos (by decide)]
    have J1 : JJ (k + 1) p1 o1 := ⟨by omega, fun h => by have := m1.2 h; omega⟩
    have hj30 : j < 30 := by have := Z1.2.2.2.1; omega
    have hi60 : i < 60 := by have := Z1.2.2.1; omega
    have h24 := Z1.2.1
    rcases hb with ⟨rfl, hK, ha3, h5⟩ | ⟨rfl, hK5, hK6⟩
    · have hV5 : ∀ x, x < 219 + 7 * j → V5 V j K A T C N x = V x := fun x hx => by
        unfold V5
        simp (disch := omega) only [if_neg]
      have hs1 := hsR_V hs f1 g1 (fun m h => eW_le h)
      have hD : ∀ k m, stD (i + 1) (a + 1) k m → stD i a k m := fun k m h => by unfold stD at *; omega
      have hE : ∀ m, eW (j + 1) m → eW j m := fun m h => by unfold eW at *; omega
      unfold mW6 at hM
      rcases BD ha3 s1 t1 (V5 V j K A T C N) (i + 1) (j + 1) a1 p1 o1 (k + 1) P1 hs1 Z1 J1 (fun x hx => (hV5 x (by omega)).trans (hV x hx)) with ⟨s2, t2, d, e, F2, f2, g2, hX2, hM2⟩ | ⟨s2, t2, V2, i2, j2, u2, a2, p2, P2, J2, hV2, hc2, hj2, ⟨m2, hb2⟩, Z2, f2, g2, hX2, hM2⟩
      · obtain ⟨t3, e3, g3, e4⟩ := bw_7 hj30 (nI 1) t2 (bad_fl F2)
        rw [hM2, e3] at hM
        have F3 : flR s2 t3 d e := by
          unfold flR at *
          rw [e4]
          exact F2
        refine Or.inl ⟨s2, t3, d, e, F3, xV_tr f1 (xV_mono f2 (fun _ h => h) hD), yV_tr g1 (yV_tr (yV_mono g2 hE) g3), fun F hF => ?_, hM⟩
        obtain ⟨F, rfl⟩ : ∃ F', F = F' + 1 := ⟨F - 1, by omega⟩
        rw [ht1]
        exact hX2 F (by omega)
      · rw [hM2] at hM
        have hp2 := P2.2.2.1.2.2.2.2
        have hk2 := J2.2 (by omega)
        have hi2 : i2 < 60 := by have := Z2.2.2.1; have := Z2.2.2.2.1; omega
        have hl2 := (rBod_lx _ _ _ _ _ _ hb2).2
        have h5' : gA s2 9 w 5 a = nI i := (f2.2.2.1 _ _ _ _ (fun e => by have := e.2.2; unfold stD at this; omega)).trans h5
        have hre := x_readEnd (w := w) hi2 ha3 hi60 Z2.1.1 Z2.1.2.2 h5'
        have hend := fun F => wl_endw (w := w) (q := q) (k := k + 1 + u2) (by omega) (ps_so P2) (wEnd w) F
        rw [hre] at hend
        obtain ⟨s3, t3, a3, p3, o3, e3, d3, P3, f3, g3, m3, -⟩ := ps_adv (eSt_P (w := w) (b := a) (i := i) (m := i2) P2)
        have hp3 := P3.2.2.1.2.2.2.2
        obtain ⟨s4, t4, e4, f4, g4, h4⟩ := ps_tail9 P3
        have hM7 : mW7 (nI 1) (nI (1939 + 7 * j)) t2 = mW8 (nI (1939 + 7 * j)) t4 := by
          unfold mW7
          rw [if_neg (by decide), ps_end P2, decide_eq_true rfl, fBd_s, show bI true = nI 1 from rfl, m_must_1 P2.2.2.2.1, d3, fBd_s, mTail_e (mW8 (nI (1939 + 7 * j))) t3, e4, fBd_s]
        have h244 : gI t4 12 0 24 = nI j2 := (g4.1 _ _ _ (by omega)).trans ((g3.1 _ _ _ (by omega)).trans Z2.2.1)
        rw [hM7, mW8_e hj30, h244] at hM
        have fE := eSt_V (w := w) (a := a) (b := a) (s := s2) (show i < i2 by omega)
        have fA : xV w (fun _ => True) (stD i a) s s4 := xV_tr f1 (xV_tr (xV_mono f2 (fun _ h => h) hD) (xV_tr fE (xV_tr (xV_x f3) (xV_x f4))))
        have gA' : yV (eW j) t (wA t4 (1945 + 7 * j) (nI j2)) := yV_tr g1 (yV_tr (yV_mono g2 hE) (yV_tr (yV_y g3) (yV_tr (yV_y g4) (yV_A t4 _ (show 1939 + 7 * j ≤ 1945 + 7 * j by omega)))))
        rw [e3] at hend
        simp only [fBd_s] at hend
        rcases h4 with ⟨d4, -, a4, p4, o4, P4, m4, m5⟩ | ⟨d4, d, e, F4⟩
        · have hp4 := P4.2.2.1.2.2.2.2
          have hend2 : ∀ F, f_X9_readFrom_L2 w q (wEnd w) (F + 1) (nI (k + 1 + u2)) s2 = f_X9_readFrom_L2 w q (wEnd w) F (nI (k + 1 + u2 + 1)) s4 := fun F => by
            rw [hend F, d4, fBd_s, fBo_ye, fBd_s, if_pos (by decide)]
          obtain ⟨v1, v2, v3, v4, v5, v6⟩ := eSt_v (w := w) (a := a) (s := s2) (show i ≠ i2 by omega)
          have sA4 : ∀ k x, gA s4 9 w k x = gA (eSt w a i i2 s2) 9 w k x := fun k x => by rw [f4.2.2.1, f3.2.2.1]
          have sI4 : ∀ k, gI s4 9 w k = gI (eSt w a i i2 s2) 9 w k := fun k => (f4.1 _ _ _ (by omega)).trans (f3.1 _ _ _ (by omega))
          have hSF2 : SF G w i (1939 + 7 * j) s4 (wA t4 (1945 + 7 * j) (nI j2)) K A T C N := by
            refine SF_fr hSF (fun k k1 k2 => ?_) (fun m k1 k2 => ?_)
            · rw [sA4, eSt_A (by omega) (by omega) (by omega)]
              exact f2.2.2.1 _ _ _ _ (fun e => by have := e.2.2; unfold stD at this; omega)
            · rw [wA_ne _ (by omega), g4.2.2.1, g3.2.2.1]
              exact g2.2.2.1 _ _ _ _ (fun e => by have := e.2.2.2; unfold eW at this; omega)
          have hVV : ∀ x, x < 219 + 7 * (j + 1) → V6 V2 j j2 x = V6 (V5 V j K A T C N) j j2 x := fun x hx => by
            unfold V6
            rw [hV2 x hx]
          obtain ⟨q0, q1, q2, q3, q4, q6, q7⟩ := V65 (V := V) (j := j) (K := K) (A := A) (T := T) (C := C) (N := N) (z := j2)
          have r0 := (hVV (219 + 7 * j) (by omega)).trans q0
          have r1 := (hVV (220 + 7 * j) (by omega)).trans q1
          have r2 := (hVV (221 + 7 * j) (by omega)).trans q2
          have r3 := (hVV (222 + 7 * j) (by omega)).trans q3
          have r4 := (hVV (223 + 7 * j) (by omega)).trans q4
          have r6 := (hVV (225 + 7 * j) (by omega)).trans q6
          have r7 : ∀ x, x < 219 + 7 * j → V6 V2 j j2 x = V x := fun x hx => (hVV x (by omega)).trans (q7 x hx)
          have r8 : ∀ x, 219 + 7 * (j + 1) ≤ x → V6 V2 j j2 x = V2 x := fun x hx => by
            unfold V6
            rw [if_neg (by omega)]
          have hV4 : ∀ x, x < 4 → V6 V2 j j2 x = V2 x := fun x hx => by
            unfold V6
            rw [if_neg (by omega)]
          have hbody := rBod_fr (s' := s4) (G' := V6 V2 j j2) _ _ _ _ _ _ hb2 (fun k x k1 k2 k3 k4 => by rw [sA4, eSt_A (by omega) (by omega) (by omega)]) hV4 (fun x k1 k2 => r8 x k1)
          refine Or.inr ⟨s4, wA t4 (1945 + 7 * j) (nI j2), V6 V2 j j2, i2 + 1, j2, 1 + u2 + 1, a4, p4, o4, ps_wA P4 _ _, ⟨by omega, fun h => by have := m5 h; omega⟩, r7, ?_, by omega, ⟨m2 + 1 + 1, Or.inr ⟨by omega, ?_, Or.inr ⟨by rw [r0]; exact hK, by omega, by rw [r6]; omega, by rw [r6]; exact Nat.le_refl _, i2, ?_, ?_, ?_, ?_, hi2, ?_⟩⟩⟩, ⟨⟨?_, ?_, ?_⟩, h244, ?_, ?_, ha⟩, fA, gA', fun F => ?_, hM⟩
          · refine cel_app (cel_1 hSF2 (wA_at _ _ _) r0 r1 r2 r3 r4 r6) (cel_fr hc2 (fun m k1 k2 => ?_) (fun x k1 k2 => r8 x k1))
            rw [wA_ne _ (by omega), g4.2.2.1, g3.2.2.1]
          · exact rStp_of hSF2 ⟨(r7 0 (by omega)).trans (hV 0 (by omega)), (r7 2 (by omega)).trans (hV 2 (by omega)), (r7 3 (by omega)).trans (hV 3 (by omega))⟩ r0 r1 r2 r3 r4
          · rw [r6, show 3 - a - 1 = 2 - a by omega]
            exact rBod_mono _ _ _ _ _ _ hbody
          · rw [sA4]; exact v1
          · rw [sA4]; exact v2
          · rw [sA4]; exact v3
          · rw [r6]
            exact Or.inl ⟨rfl, rfl⟩
          · rw [sI4]; exact v4
          · rw [sI4, v6]; exact Z2.1.2.1
          · rw [sI4]; exact v5
          · have := Z2.2.2.1
            omega
          · exact Z2.2.2.2.1
          · rw [show F + (1 + u2 + 1) = F + 1 + u2 + 1 by omega, ht1, hX2, hend2]
            rw [show k + 1 + u2 + 1 = k + (1 + u2 + 1) by omega]
        · have F5 : flR s4 (wA t4 (1945 + 7 * j) (nI j2)) d e := F4
          refine Or.inl ⟨s4, _, d, e, F5, fA, gA', fun F hF => ?_, hM⟩
          obtain ⟨F, rfl⟩ : ∃ F', F = F' + 1 + u2 + 1 := ⟨F - 1 - u2 - 1, by omega⟩
          rw [ht1, hX2, hend F, d4, fBd_s, fBo_no, fBd_s, if_neg (by decide)]
    · obtain ⟨F0, hF0⟩ : ∃ F, fF = F + 1 := ⟨fF - 1, by have : 100 < fF := fF_lt (by omega); omega⟩
      have hM2 : mW6 (f_X12_readStep N1) (nI a) (nI 0) (nI (1939 + 7 * j)) t1 = some ((), wA t1 (1945 + 7 * j) (nI (j + 1))) := by
        unfold mW6
        rw [hF0]
        unfold f_X12_readStep_L141
        rw [if_pos (by decide)]
        unfold mW7
        rw [if_pos (by decide), mW8_e hj30, h24]
      rw [hM2] at hM
      obtain ⟨q0, q1, q2, q3, q4, q6, q7⟩ := V65 (V := V) (j := j) (K := K) (A := A) (T := T) (C := C) (N := N) (z := j + 1)
      have hSF2 : SF G w i (1939 + 7 * j) s1 (wA t1 (1945 + 7 * j) (nI (j + 1))) K A T C N := SF_fr hSF (fun k k1 k2 => rfl) (fun m k1 k2 => wA_ne _ (by omega))
      refine Or.inr ⟨s1, wA t1 (1945 + 7 * j) (nI (j + 1)), V6 (V5 V j K A T C N) j (j + 1), i + 1, j + 1, 1, a1, p1, o1, ps_wA P1 _ _, J1, q7, cel_1 hSF2 (wA_at _ _ _) q0 q1 q2 q3 q4 q6, by omega, ⟨2, Or.inr ⟨by omega, rStp_of hSF2 ⟨(q7 0 (by omega)).trans (hV 0 (by omega)), (q7 2 (by omega)).trans (hV 2 (by omega)), (q7 3 (by omega)).trans (hV 3 (by omega))⟩ q0 q1 q2 q3 q4, Or.inl ⟨by rw [q0]; exact hK5, by rw [q0]; exact hK6, q6, Or.inl ⟨rfl, rfl⟩⟩⟩⟩, Z1, f1, yV_tr g1 (yV_A t1 _ (show 1939 + 7 * j ≤ 1945 + 7 * j by omega)), ht1, hM⟩
  rcases stW_cs so with h24 | ⟨K, b, hw⟩ | ⟨hw, hr, h29, h31⟩
  · exact hd_when P hs Z (by omega) h24 B GG
  · exact hd_plain P hs Z (by omega) hw B GG
  · obtain ⟨s', t', w1, w2, F, f, g⟩ := hd_wrong (rec := f_X12_readStep N1) (a := a) P hw
    refine B s' t' _ _ F (xV_x f) (yV_y g) ?_ w2
    have i3 := x_isIn (nI so) (nI 19) (nI 23) s
    rw [nI_toInt (by omega), nI_toInt (by omega), nI_toInt (by omega), inB_f.mpr (by omega)] at i3
    have n24 : ¬ so = 24 := fun h => by
      rw [h] at hw
      exact absurd hw (by decide)
    rw [kW_eq, hso]
    unfold kW2
    simp (disch := omega) only [↓fLt_e, fBd_s, ↓fJn_s, fNn_s, fNu_0, fNu_s, fBo_0, fBo_1, fBo_b, i_lit, i_neg1, nI_add, pk_mul, nI_clamp, i_le, i_lt, i_eq, fIx_n, nI_mI, mI_nI, mI_lt, nI_lt_m, mI_le, nI_le_m, xI_0, xI_s, bI_0, bI_1, bI_t, bI_f, n_31, j_bit, j_one, i_and, i_or, Nat.not_lt_zero, Nat.succ_ne_zero, Nat.add_one_ne_zero, Nat.add_one_sub_one, Nat.zero_le, Nat.or_zero, Nat.zero_or, Bool.not_true, Bool.not_false, Bool.true_and, Bool.false_and, Bool.and_true, Bool.and_false, ↓reduceIte, if_true, if_false, not_true_eq_false, not_false_eq_true, true_and, and_true, false_and, and_false, and_self, true_or, or_true, false_or, or_false, Nat.reduceEqDiff, Nat.reduceLT, Nat.reduceLeDiff, Nat.reduceAdd, Nat.reduceMul, Nat.reduceSub, Nat.add_zero, Nat.zero_add, Nat.mul_zero, Nat.zero_mul, ne_eq, Bool.not_eq_true, Bool.not_eq_false, reduceCtorEq, decide_true, decide_false, decide_eq_true_eq, decide_eq_false_iff_not, Bool.false_eq_true, if_pos, if_neg, hso, i3, n24, h29, h31, w1]
theorem wk_step (hn : n ≤ 300) : ∀ d a N, a + d = 3 → 1 + d ≤ N → ∀ (s t : fSt) (V : Nat → Nat) i j a0 p so k, psR s t n c a0 p so → hsR s t q G → wkZ w i j a s t → JJ k p so → ¬ so = 30 → ¬ so = 35 → (∀ x, x < 4 → V x = G x) → stB q w i j a k s t (f_X12_readStep N (nI a) t) ∨ stG n c q w i j a k V s t (f_X12_readStep N (nI a) t) := by
  intro d
  induction d with
  | zero =>
    intro a N ha hN
    obtain ⟨N, rfl⟩ : ∃ N', N = N' + 1 := ⟨N - 1, by omega⟩
    exact wk_one (by omega) hn (fun h => absurd h (by omega))
  | succ d ih =>
    intro a N ha hN
    obtain ⟨N, rfl⟩ : ∃ N', N = N' + 2 := ⟨N - 2, by omega⟩
    have hF : 100 < fF := fF_lt (by omega)
    exact wk_one (N1 := N + 1) (by omega) hn (fun h s t V i j a0 p so k P hs Z J hV => wk_body h hn (ih (a + 1) (N + 1) (by omega) (by omega)) 31 s t V i j a0 p so k fF (by omega) P hs Z J hV (by omega))
end
