/-! layer 2: the calls run and often -/
theorem doAll_s (D : Nat) (a b : Int32) (st : fSt) : f_X12_doAll (D + 1) a b st = f_X12_doAll_L2 (f_X12_doAll D) b (fun s2 => some ((), s2)) fF a st := rfl
section
variable {i : Nat} {no : Bool} {q : Nat} {sc sm : fSt} {G : Nat → Nat}
theorem x_begin {seed : Nat} (hx4 : gI sc 2 0 2 = nI (G 4)) (hx5 : gI sc 2 0 3 = nI (G 5)) : ∃ s0, f_X10_begin i (nI seed) (bI no) sc = some ((), s0) ∧ cFr i no sc s0 ∧ (gI s0 3 (i + 1) 6 = nI seed ∧ gI s0 10 i 2 = bI no ∧ gI s0 10 i 6 = nI 0 ∧ gI s0 10 i 7 = nI 0 ∧ gI s0 10 i 5 = nI 0 ∧ gI s0 10 i 10 = mI ∧ gI s0 10 i 4 = nI 0 ∧ gI s0 10 i 8 = nI 0 ∧ gI s0 10 i 9 = nI 0) ∧ (gI s0 2 0 2 = nI (G 4) ∧ gI s0 2 0 3 = nI (G 5)) ∧ gI s0 0 0 0 = gI sc 0 0 0 ∧ gA s0 0 0 1 = gA sc 0 0 1 := by
  have hsow : f_X3_sow (i + 1) (nI seed) sc = some ((), sI sc 3 (i + 1) 6 (nI seed)) := by
    unfold f_X3_sow
    simp only [fLt_e]
  unfold f_X10_begin
  simp only [hsow, fBd_s, fLt_e, fBo_b]
  refine ⟨_, rfl, ?_, ?_, ⟨?_, ?_⟩, ?_, rfl⟩
  · refine cFr_I (Or.inl ⟨rfl, rfl⟩) (cFr_I (Or.inl ⟨rfl, rfl⟩) (cFr_I (Or.inl ⟨rfl, rfl⟩) (cFr_I (Or.inl ⟨rfl, rfl⟩) (cFr_I (Or.inl ⟨rfl, rfl⟩) (cFr_I (Or.inl ⟨rfl, rfl⟩) (cFr_I (Or.inl ⟨rfl, rfl⟩) (cFr_I (Or.inl ⟨rfl, rfl⟩) (cFr_I (Or.inr (Or.inl ⟨rfl, rfl⟩)) (cFr_rf i no sc)))))))))
  · refine ⟨?_, ?_, ?_, ?_, ?_, ?_, ?_, ?_, ?_⟩ <;> simp only [gI_sI, Nat.reduceEqDiff, false_and, and_false, if_false, and_self, if_true] <;> rfl
  · simp only [gI_sI, Nat.reduceEqDiff, false_and, and_false, if_false]
    exact hx4
  · simp only [gI_sI, Nat.reduceEqDiff, false_and, and_false, if_false]
    exact hx5
  · simp only [gI_sI, Nat.reduceEqDiff, false_and, and_false, if_false]
def wkS (sm : fSt) (seed : Nat) : fSt := sI (sI (sI (sI (sI (sI (sI (sI (sI sm 12 0 28 (nI seed)) 12 0 58 (nI 0)) 12 0 59 (nI 0)) 12 0 60 (nI 0)) 12 0 61 (nI 0)) 12 0 62 (nI 0)) 12 0 63 (nI 0)) 12 0 64 mI) 12 0 57 (nI 0)
theorem wkS_5 (sm : fSt) (seed : Nat) : gA (wkS sm seed) 12 0 5 = gA sm 12 0 5 := by
  unfold wkS
  simp only [gA_sI]
theorem wkS_i (sm : fSt) (seed : Nat) : gI (wkS sm seed) 12 0 28 = nI seed ∧ gI (wkS sm seed) 12 0 58 = nI 0 ∧ gI (wkS sm seed) 12 0 60 = nI 0 ∧ gI (wkS sm seed) 12 0 61 = nI 0 ∧ gI (wkS sm seed) 12 0 64 = mI ∧ gI (wkS sm seed) 12 0 59 = nI 0 ∧ gI (wkS sm seed) 12 0 62 = nI 0 ∧ gI (wkS sm seed) 12 0 63 = nI 0 ∧ gI (wkS sm seed) 12 0 57 = nI 0 := by
  unfold wkS
  refine ⟨?_, ?_, ?_, ?_, ?_, ?_, ?_, ?_, ?_⟩ <;> simp only [gI_sI, Nat.reduceEqDiff, and_false, if_false, and_self, if_true]
theorem wkS_m (sm : fSt) (seed : Nat) : mFr sm (wkS sm seed) := by
  unfold wkS
  exact mFr_I (Or.inr ⟨by decide, by decide⟩) (mFr_I (Or.inr ⟨by decide, by decide⟩) (mFr_I (Or.inr ⟨by decide, by decide⟩) (mFr_I (Or.inr ⟨by decide, by decide⟩) (mFr_I (Or.inr ⟨by decide, by decide⟩) (mFr_I (Or.inr ⟨by decide, by decide⟩) (mFr_I (Or.inr ⟨by decide, by decide⟩) (mFr_I (Or.inr ⟨by decide, by decide⟩) (mFr_I (Or.inl ⟨by decide, by decide⟩) (mFr_rf sm)))))))))
theorem wkS_e {seed : Nat} (hc4 : gA sm 12 0 5 4 = nI (G 4)) (hc5 : gA sm 12 0 5 5 = nI (G 5)) (h218 : gA sm 12 0 5 218 = nI (G 218)) : f_X12_weeks (nI seed) sm = (fBd (f_X12_doAll 6 (nI 0) (nI (G 218)) (wkS sm seed)) fun _ s12 =>
    fLt (sA s12 12 0 5 (upd (gA s12 12 0 5) 4 (nI (G 4)))) fun s13 =>
    fLt (sA s13 12 0 5 (upd (gA s13 12 0 5) 5 (nI (G 5)))) fun s14 => some ((), s14)) := by
  have h5 : gA (wkS sm seed) 12 0 5 218 = nI (G 218) := by rw [wkS_5]; exact h218
  have e0 : ∀ K : fSt → Option (Unit × fSt), (fLt (sI sm 12 0 28 (nI seed)) fun s3 => fLt (sI s3 12 0 58 (nI 0)) fun s4 => fLt (sI s4 12 0 59 (nI 0)) fun s5 => fLt (sI s5 12 0 60 (nI 0)) fun s6 => fLt (sI s6 12 0 61 (nI 0)) fun s7 => fLt (sI s7 12 0 62 (nI 0)) fun s8 => fLt (sI s8 12 0 63 (nI 0)) fun s9 => fLt (sI s9 12 0 64 mI) fun s10 => fBo (nI 0) <| fLt (sI s10 12 0 57 (nI 0)) fun s11 => K s11) = K (wkS sm seed) := by
    intro K
    unfold wkS
    simp only [fLt_e, fBo_0]
  generalize wkS sm seed = T at *
  unfold f_X12_weeks
  generalize f_X12_doAll 6 = DA
  simp (disch := omega) only [i_lit, i_neg1, fIx_n, nI_clamp, hc4, hc5]
  rw [fLt_e, fLt_e]
  rw [e0]
  rw [h5]
theorem m_weeks0 {seed : Nat} (hc4 : gA sm 12 0 5 4 = nI (G 4)) (hc5 : gA sm 12 0 5 5 = nI (G 5)) (h218 : gA sm 12 0 5 218 = nI (G 218)) : ∃ t0, f_X12_weeks (nI seed) sm = (fBd (f_X12_doAll 6 (nI 0) (nI (G 218)) t0) fun _ s12 =>
    fLt (sA s12 12 0 5 (upd (gA s12 12 0 5) 4 (nI (G 4)))) fun s13 =>
    fLt (sA s13 12 0 5 (upd (gA s13 12 0 5) 5 (nI (G 5)))) fun s14 => some ((), s14)) ∧ mFr sm t0 ∧ gA t0 12 0 5 = gA sm 12 0 5 ∧ (gI t0 12 0 28 = nI seed ∧ gI t0 12 0 58 = nI 0 ∧ gI t0 12 0 60 = nI 0 ∧ gI t0 12 0 61 = nI 0 ∧ gI t0 12 0 64 = mI ∧ gI t0 12 0 59 = nI 0 ∧ gI t0 12 0 62 = nI 0 ∧ gI t0 12 0 63 = nI 0 ∧ gI t0 12 0 57 = nI 0) := ⟨wkS sm seed, wkS_e hc4 hc5 h218, wkS_m sm seed, wkS_5 sm seed, wkS_i sm seed⟩
theorem wk_fin3 {G0 : Nat → Nat} {sg : Nat} (W : wkR i no G0 q sc sm sg) : wkR i no G0 q (sI sc 10 i 3 (nI 1)) sm sg := by
  obtain ⟨t1, t2, -⟩ := wk_st W
  obtain ⟨Gc', Gm', r', se', en', l', ⟨wc', wm', X', B', hag', hno', hG0'⟩, r1, r2, r3, r4, r5, r6, r7⟩ := W
  have hX : rHou (sI sc 10 i 3 (nI 1)) 0 q Gc' := X'
  refine ⟨Gc', Gm', r', se', en', l', ⟨wc', wm', hX, B', hag', hno', hG0'⟩, ?_, ?_, ?_, ?_, ?_, ?_, ?_⟩
  · rw [gI_sI, if_neg (by omega)]; exact r1
  · rw [gI_sI, if_neg (by omega)]; exact r2
  · rw [gI_sI, if_neg (by omega)]; exact r3
  · rw [gI_sI, if_neg (by omega)]; exact r4
  · rw [gI_sI, if_neg (by omega)]; exact r5
  · rw [gI_sI, if_neg (by omega)]; exact r6
  · refine ⟨?_, ?_, ?_⟩
    · rw [gI_sI, if_neg (by omega)]; exact r7.1
    · rw [gI_sI, if_neg (by omega)]; exact r7.2.1
    · rw [gI_sI, if_neg (by omega)]; exact r7.2.2
theorem cFr_9a {s t : fSt} (h : cFr i no s t) (j k : Nat) : gA t 9 j k = gA s 9 j k := (h.1 9 j k (by unfold cFc; omega)).2.2.1
theorem run_end {s0 sc2 sm2 : fSt} {wk M sg2 : Nat} (hM0 : gI s0 9 wk 0 = nI M) (hM2 : M ≤ 60) (hc2 : cFr i no s0 sc2) (t1 : gI sc2 10 i 6 = nI sg2) (k2 : sg2 ≤ 200)
    (ho2 : (sg2 < 200 ∧ gI sm2 12 0 57 = nI 0 ∧ ∃ e, e + 202 * 0 ≤ 202 * sg2 + 0 ∧ ∀ k8 F, f_X10_go_L36 i 0 wk k8 (F + e) (nI 0) (nI 0) s0 = f_X10_go_L36 i 0 wk k8 F (nI M) (nI (0 + e)) sc2) ∨ (frz sm2 ∧ ∀ k8 F, 1000000 < F + 0 → f_X10_go_L36 i 0 wk k8 F (nI 0) (nI 0) s0 = k8 sc2)) (k8 : fSt → Option (Unit × fSt)) : f_X10_go_L36 i 0 wk k8 fF (nI 0) (nI 0) s0 = k8 sc2 := by
  have hbig : 1000000 < fF := Nat.lt_of_lt_of_le (by decide) fF_ge
  revert hbig
  generalize fF = FF
  intro hbig
  rcases ho2 with ⟨v1, v2, e, v3, v4⟩ | ⟨v1, v2⟩
  · have v3 : e ≤ 202 * sg2 := v3
    have he : e ≤ FF := by omega
    have h3 := v4 k8 (FF - e)
    rw [Nat.sub_add_cancel he] at h3
    rw [h3]
    obtain ⟨F, hF⟩ : ∃ F, FF - e = F + 1 := ⟨FF - e - 1, by omega⟩
    rw [hF, Nat.zero_add]
    exact L36_exit (by rw [cFr_90 hc2]; exact hM0) hM2 hM2 t1 k2 v3 (Or.inl (Nat.le_refl _)) k8
  · exact v2 k8 FF hbig
theorem run_sim {s0 t0 : fSt} {wk M : Nat} (hM0 : gI s0 9 wk 0 = nI M) (hM2 : M ≤ 60) (hb : rBod s0 wk G 31 3 0 (G 218) 0 M) (W0 : wkR i no G q s0 t0 0) (n9 : gI t0 12 0 57 = nI 0) :
    ∃ sc2 sm2 sg2, wkR i no G q sc2 sm2 sg2 ∧ sg2 ≤ 200 ∧ cFr i no s0 sc2 ∧ mFr t0 sm2 ∧ (∀ k8, f_X10_go_L36 i 0 wk k8 fF (nI 0) (nI 0) s0 = k8 sc2) ∧ f_X12_doAll 6 (nI 0) (nI (G 218)) t0 = some ((), sm2) := by
  have hS : ∀ n D, 3 < D → rBod s0 wk G n 3 0 (G 218) 0 M → seO i no G q wk D s0 t0 0 0 0 (G 218) 0 M := fun n D h3 hb => sim (i := i) (no := no) (q := q) (w := wk) hM2 n 3 0 (G 218) 0 M D (Nat.le_refl _) (Nat.le_refl _) h3 s0 t0 0 0 hb hM0 W0 (by omega) (by omega) n9
  obtain ⟨sc2, sm2, sg2, ⟨W2, k1, k2, hc2, hm2, hl2, ho2⟩, hL⟩ := hS 31 5 (by omega) hb
  obtain ⟨t1, t2, hj30, -⟩ := wk_st W2
  refine ⟨sc2, sm2, sg2, W2, k2, hc2, hm2, fun k8 => run_end hM0 hM2 hc2 t1 k2 ho2 k8, ?_⟩
  · have h := hL (fun s2 => some ((), s2)) fF (by
      have := fF_lt (show 30 < 4000000 by omega)
      omega)
    have h6 := doAll_s 5 (nI 0) (nI (G 218)) t0
    rw [h6]
    exact h
/-- a whole run on both sides: what it leaves -/
theorem run_all (X : rHou sc 0 q G) (w : gWf G) {Gm : Nat → Nat} (wm : gWf Gm) (B : rBlk (gA sm 12 0 5) Gm) (hag : agB G Gm) (hno : no = true → G = Gm) {wk M seed : Nat} (hwk : gP sc 2 0 1 = wk + 1) (hM : gI sc 9 wk 0 = nI M) (hM2 : M ≤ 60) (hb : rBod sc wk G 31 3 0 (G 218) 0 M) (hs : seed < 65536) :
    ∃ sc' sm' sg, f_X10_go i 0 (nI seed) (bI no) sc = some ((), sc') ∧ f_X12_weeks (nI seed) sm = some ((), sm') ∧ wkR i no G q sc' sm' sg ∧ cFr i no sc sc' ∧ mFr sm sm' ∧ gI sc' 10 i 3 = nI 1 ∧ (gI sc' 2 0 2 = nI (G 4) ∧ gI sc' 2 0 3 = nI (G 5)) ∧ (gA sm' 12 0 5 4 = nI (G 4) ∧ gA sm' 12 0 5 5 = nI (G 5)) := by
  have w1 := w.1
  have w2 := w.2.1
  have hG0 : ∀ k, k < 4 ∨ (7 ≤ k ∧ k < 137) ∨ 217 ≤ k → Gm k = G k := fun k hk => (hag k (by omega)).symm
  have h218 : gA sm 12 0 5 218 = nI (G 218) := by
    rw [← hG0 218 (by omega)]
    exact B.2.2.2.2.2.1.2.1
  have hc4 : gA sm 12 0 5 4 = nI (G 4) := by rw [hag 4 (by omega)]; exact B.1.2.2.2.2.1
  have hc5 : gA sm 12 0 5 5 = nI (G 5) := by rw [hag 5 (by omega)]; exact B.1.2.2.2.2.2.1
  have hx4 : gI sc 2 0 2 = nI (G 4) := X.2.2.1.1
  have hx5 : gI sc 2 0 3 = nI (G 5) := X.2.2.1.2
  -- the beginning
  have hbeg := x_begin (i := i) (no := no) (seed := seed) hx4 hx5
  obtain ⟨s0, e0, c0, ⟨d1, d2, d3, d4, d5, d6, d7, d8, d9⟩, ⟨d10, d11⟩, d12, d13⟩ := hbeg
  have hmb := m_weeks0 (seed := seed) hc4 hc5 h218
  obtain ⟨t0, f0, m0, m5, ⟨n1, n2, n3, n4, n5, n6, n7, n8, n9⟩⟩ := hmb
  have W0 : wkR i no G q s0 t0 0 := by
    refine ⟨G, Gm, seed, 0, 0, 0, ⟨w, wm, rHou_x c0 w (fun k _ => rfl) X ⟨d10, d11⟩ ?_, by rw [m5]; exact B, hag, hno, hG0⟩, ⟨d1, n1, hs⟩, d2, ⟨d3, n2⟩, ⟨d4, n3, by omega⟩, ⟨d5, n4, by omega⟩, ⟨d6, n5, by omega⟩, by rw [d7, n6], by rw [d8, n7], by rw [d9, n8]⟩
    have hb' := X.2.2.2
    unfold rBok at *
    rw [d12, d13]
    exact hb'
  have hM0 : gI s0 9 wk 0 = nI M := by rw [cFr_90 c0]; exact hM
  have hb0 : rBod s0 wk G 31 3 0 (G 218) 0 M := rBod_e (sc := sc) (sc' := s0) (fun j k => cFr_9a c0 j k) 31 3 0 (G 218) 0 M hb
  obtain ⟨sc2, sm2, sg2, W2, k2, hc2, hm2, hgo, hall⟩ := run_sim hM0 hM2 hb0 W0 n9
  rw [hall, fBd_s, fLt_e, fLt_e] at f0
  have hX10 : f_X10_go i 0 (nI seed) (bI no) sc = some ((), sI (sI (sI sc2 2 0 2 (nI (G 4))) 2 0 3 (nI (G 5))) 10 i 3 (nI 1)) := by
    unfold f_X10_go
    simp only [hwk, fNu_s, fLt_e, fJn_s, e0, fBd_s, hx4, hx5, i_lit]
    refine Eq.trans (hgo _) ?_
    simp only [fBo_1]
  have hcF : cFr i no sc2 (sI (sI (sI sc2 2 0 2 (nI (G 4))) 2 0 3 (nI (G 5))) 10 i 3 (nI 1)) := cFr_I (Or.inl ⟨rfl, rfl⟩) (cFr_I (Or.inr (Or.inr (Or.inl ⟨rfl, rfl, Or.inr rfl⟩))) (cFr_I (Or.inr (Or.inr (Or.inl ⟨rfl, rfl, Or.inl rfl⟩))) (cFr_rf i no sc2)))
  have W3 := wk_set (c := 4) (Or.inl rfl) ⟨fun _ => w2.1, fun h => absurd h (by decide)⟩ W2
  have W4 := wk_set (c := 5) (Or.inr rfl) ⟨fun h => absurd h (by decide), fun _ => w2.2.1⟩ W3
  obtain ⟨u1, u2, -⟩ := wk_st W4
  have W5 := wk_fin3 W4
  refine ⟨_, _, sg2, hX10, f0, W5, cFr_tr (cFr_tr c0 hc2) hcF, ?_, gI_same _ _ _ _ _, ⟨?_, ?_⟩, rfl, rfl⟩
  · refine mFr_tr (mFr_tr m0 hm2) (mFr_A (fun p hp => by rw [upd_at, if_neg (by omega)]) (mFr_A (fun p hp => by rw [upd_at, if_neg (by omega)]) (mFr_rf sm2)))
  · simp only [gI_sI, Nat.reduceEqDiff, false_and, and_false, if_false, and_self, if_true]
  · simp only [gI_sI, Nat.reduceEqDiff, false_and, and_false, if_false, and_self, if_true]
end
