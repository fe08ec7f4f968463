/-! layer 2: the present theatre changes -/
theorem rStg_G {sc : fSt} {q : Nat} {G G' : Nat → Nat} (w : gWf G) (h : ∀ k, k < 4 ∨ (7 ≤ k ∧ k < 137) ∨ 217 ≤ k → G' k = G k) (H : rStg sc q G) : rStg sc q G' := by
  have w := w.1
  obtain ⟨h1, h2, h3, h4⟩ := H
  have e0 := h 0 (by omega)
  have e1 := h 1 (by omega)
  have e2 := h 2 (by omega)
  have e3 := h 3 (by omega)
  unfold rStg
  rw [e0, e1, e2, e3]
  refine ⟨h1, fun a ha => ?_, fun s hs => ?_, fun k hk => ?_⟩
  · simp (disch := omega) only [h]; exact h2 a ha
  · simp (disch := omega) only [h]; exact h3 s hs
  · simp (disch := omega) only [h]; exact h4 k hk
theorem rStp_G {sc : fSt} {x : Nat} {G G' : Nat → Nat} (h : ∀ k, k < 4 ∨ (7 ≤ k ∧ k < 137) ∨ 217 ≤ k → G' k = G k) {j i : Nat} (H : rStp sc x G j i) : rStp sc x G' j i := by
  unfold rStp at *
  simp (disch := omega) only [h]
  exact H
theorem rBod_G {sc : fSt} {x : Nat} {G G' : Nat → Nat} (h : ∀ k, k < 4 ∨ (7 ≤ k ∧ k < 137) ∨ 217 ≤ k → G' k = G k) : ∀ n d a b i i', rBod sc x G n d a b i i' → rBod sc x G' n d a b i i' := by
  intro n
  induction n with
  | zero => intro d a b i i' H; exact H
  | succ n ih =>
    intro d a b i i' H
    have e1 := h (219 + 7 * a) (by omega)
    have e2 := h (225 + 7 * a) (by omega)
    rcases H with H | ⟨h1, h2, H⟩
    · exact Or.inl H
    · refine Or.inr ⟨h1, rStp_G h h2, ?_⟩
      rw [e1, e2]
      rcases H with ⟨a1, a2, a3, a4⟩ | ⟨a1, a0, a2, a3, m, b1, b2, b3, b4, b5, b6⟩
      · exact Or.inl ⟨a1, a2, a3, ih _ _ _ _ _ a4⟩
      · exact Or.inr ⟨a1, a0, a2, a3, m, ih _ _ _ _ _ b1, b2, b3, b4, b5, ih _ _ _ _ _ b6⟩
/-- all but what is barred, dead and the book of the present house -/
def cEq0 (s t : fSt) : Prop := (∀ c, (c = 7 ∨ c = 8 ∨ c = 9) → ∀ i k, gI t c i k = gI s c i k ∧ gL t c i k = gL s c i k ∧ gA t c i k = gA s c i k ∧ gB t c i k = gB s c i k ∧ gP t c i k = gP s c i k) ∧
  (∀ i k, ¬ (i = 0 ∧ (k = 2 ∨ k = 3)) → gI t 2 i k = gI s 2 i k) ∧ (∀ i k, gP t 2 i k = gP s 2 i k) ∧ (∀ i, i ≠ 0 → gI t 0 i 0 = gI s 0 i 0 ∧ gA t 0 i 1 = gA s 0 i 1) ∧
  gA t 1 0 1 = gA s 1 0 1 ∧ gB t 4 0 1 = gB s 4 0 1 ∧ (gI t 5 0 2 = gI s 5 0 2 ∧ gA t 5 0 1 = gA s 5 0 1 ∧ gB t 5 0 2 = gB s 5 0 2) ∧
  (gI t 10 0 3 = gI s 10 0 3 ∧ gI t 10 0 5 = gI s 10 0 5 ∧ gI t 10 0 6 = gI s 10 0 6 ∧ gI t 10 0 7 = gI s 10 0 7 ∧ gI t 10 0 8 = gI s 10 0 8 ∧ gI t 10 0 9 = gI s 10 0 9) ∧
  (gI t 11 0 5 = gI s 11 0 5 ∧ gI t 11 0 6 = gI s 11 0 6 ∧ gI t 11 0 9 = gI s 11 0 9 ∧ gI t 11 0 17 = gI s 11 0 17 ∧ gL t 11 0 3 = gL s 11 0 3 ∧ gL t 11 0 4 = gL s 11 0 4 ∧ gA t 11 0 3 = gA s 11 0 3)
def mEq0 (s t : fSt) : Prop := (gI t 12 0 8 = gI s 12 0 8 ∧ gI t 12 0 10 = gI s 12 0 10 ∧ gI t 12 0 11 = gI s 12 0 11 ∧ gI t 12 0 23 = gI s 12 0 23 ∧ gI t 12 0 46 = gI s 12 0 46 ∧ gI t 12 0 54 = gI s 12 0 54 ∧ gI t 12 0 56 = gI s 12 0 56) ∧
  (gL t 12 0 2 = gL s 12 0 2 ∧ gL t 12 0 3 = gL s 12 0 3) ∧
  (gA t 12 0 1 = gA s 12 0 1 ∧ gA t 12 0 2 = gA s 12 0 2 ∧ gA t 12 0 4 = gA s 12 0 4 ∧ (∀ k, k < 4 ∨ (7 ≤ k ∧ k < 137) ∨ 217 ≤ k → gA t 12 0 5 k = gA s 12 0 5 k) ∧ gA t 12 0 16 = gA s 12 0 16 ∧ gA t 12 0 20 = gA s 12 0 20 ∧ gA t 12 0 22 = gA s 12 0 22) ∧
  (gB t 12 0 3 = gB s 12 0 3 ∧ gB t 12 0 7 = gB s 12 0 7)
theorem cEq0_rf (s : fSt) : cEq0 s s := ⟨fun _ _ _ _ => ⟨rfl, rfl, rfl, rfl, rfl⟩, fun _ _ _ => rfl, fun _ _ => rfl, fun _ _ => ⟨rfl, rfl⟩, rfl, rfl, ⟨rfl, rfl, rfl⟩, ⟨rfl, rfl, rfl, rfl, rfl, rfl⟩, rfl, rfl, rfl, rfl, rfl, rfl, rfl⟩
theorem rOne_h {sc sc' sm sm' : fSt} (h : cEq0 sc sc') (g : mEq0 sm sm') {k q : Nat} {G : Nat → Nat} (hk : k ≠ 0) (H : rOne sc sm k q G) : rOne sc' sm' k q G := by
  obtain ⟨h1, h2, h3, h4, h5⟩ := H
  obtain ⟨c1, c2, c3, c4, -⟩ := h
  have e7 := fun i k => (c1 7 (by decide) i k).1
  have e7a := fun i k => (c1 7 (by decide) i k).2.2.1
  have e7b := fun i k => (c1 7 (by decide) i k).2.2.2.1
  have e9 := fun i k => (c1 9 (by decide) i k).1
  have e9a := fun i k => (c1 9 (by decide) i k).2.2.1
  have e2 := fun j => c2 k j (fun z => hk z.1)
  obtain ⟨-, -, ⟨-, -, -, ga, -⟩, -, gb⟩ := g
  refine ⟨h1, ?_, ?_, ?_, ?_⟩
  · unfold rHou rStg rBok at *
    simp only [e2, c3, (c4 k hk).1, (c4 k hk).2, e7, e7a]
    exact h2
  · have : (fun j => gA sm' 12 0 5 (430 * k + j)) = fun j => gA sm 12 0 5 (430 * k + j) := funext fun j => ga _ (by omega)
    rw [this]
    exact h3
  · unfold rNam at *
    simp only [e7b, gb]
    exact h4
  · unfold rWk at *
    simp only [c3, e9]
    rcases h5 with h5 | ⟨a, w, m, b1, b2, b3, b4, b5⟩
    · exact Or.inl h5
    · exact Or.inr ⟨a, w, m, b1, b2, b3, b4, rBod_e e9a _ _ _ _ _ _ b5⟩
theorem up0 {sc sc' sm sm' : fSt} (H : RX sc sm) (h : cEq0 sc sc') (g : mEq0 sm sm')
    (hG : ∀ q G, gWf G → rHou sc 0 q G → rBlk (gA sm 12 0 5) G → ∃ G', (∀ k, k < 4 ∨ (7 ≤ k ∧ k < 137) ∨ 217 ≤ k → G' k = G k) ∧ gWf G' ∧ (gI sc' 2 0 2 = nI (G' 4) ∧ gI sc' 2 0 3 = nI (G' 5)) ∧ rBok sc' 0 G' ∧
      (gA sm' 12 0 5 4 = nI (G' 4) ∧ gA sm' 12 0 5 5 = nI (G' 5) ∧ gA sm' 12 0 5 6 = nI (G' 6)) ∧
      (∀ i, i < G' 6 → gA sm' 12 0 5 (137 + 4 * i) = nI (G' (137 + 4 * i)) ∧ gA sm' 12 0 5 (138 + 4 * i) = xI (G' (138 + 4 * i)) ∧ gA sm' 12 0 5 (139 + 4 * i) = xI (G' (139 + 4 * i)) ∧ gA sm' 12 0 5 (140 + 4 * i) = nI (G' (140 + 4 * i)))) : RX sc' sm' := by
  have h0 := h
  have g0 := g
  obtain ⟨c1, c2, c3, c4, d1, d2, ⟨d3, d4, d5⟩, ⟨d6, d7, d8, d9, d10, d11⟩, x1, x2, x3, x4, x5, x6, x7⟩ := h
  obtain ⟨⟨m1, m2, m3, m4, m5, m6, m7⟩, ⟨n1, n2⟩, ⟨p1, p2, p3, p4, p5, p6, p7⟩, q1, q2⟩ := g
  obtain ⟨r1, r2, r3, r4, r5, r6, r7, r8, n, qq, GG, s1, s2, s3, s4⟩ := H
  refine ⟨?_, ?_, ?_, ?_, ?_, ?_, ?_, ?_, ?_⟩
  · unfold rF at *; rw [x5, x6, n1, n2]; exact r1
  · unfold rQ at *; rw [x1, x2, m2, m3]; exact r2
  · unfold rT at *
    have e8 := fun i k => (c1 8 (by decide) i k).1
    have e8b := fun i k => (c1 8 (by decide) i k).2.2.2.1
    simp only [e8, e8b, p1, p2, q1]
    exact r3
  · unfold rP at *; rw [d3, d4, d5, m1, p3]; exact r4
  · unfold rS at *; rw [x4, x7, m5, p5]; exact r5
  · unfold rC at *; rw [d1, m6, p6]; exact r6
  · unfold rW at *; rw [d6, d7, d8, d9, d10, d11, m7, p7]; exact r7
  · unfold rO at *; rw [d2]; exact r8
  · obtain ⟨w, X, B, N, K⟩ := s4 0 (Nat.zero_le _)
    have B' := B
    simp only [Nat.mul_zero, Nat.zero_add] at B'
    obtain ⟨G', e, w', f1, f2, f3, f4⟩ := hG (qq 0) (GG 0) w X B'
    have e7 := fun i k => (c1 7 (by decide) i k).1
    have e7a := fun i k => (c1 7 (by decide) i k).2.2.1
    have e7b := fun i k => (c1 7 (by decide) i k).2.2.2.1
    have e9 := fun i k => (c1 9 (by decide) i k).1
    have e9a := fun i k => (c1 9 (by decide) i k).2.2.1
    have i0 := e 0 (by omega)
    have i1 := e 1 (by omega)
    have i2 := e 2 (by omega)
    have i3 := e 3 (by omega)
    have w0 := w.1
    refine ⟨n, qq, fun h => if h = 0 then G' else GG h, s1, by rw [x3]; exact s2, by rw [m4]; exact s3, fun k hk => ?_⟩
    by_cases hz : k = 0
    · subst hz
      simp only [if_true]
      refine ⟨w', ⟨?_, ?_, f1, f2⟩, ?_, ?_, ?_⟩
      · rw [c3]; exact X.1
      · have := rStg_G w e X.2.1
        unfold rStg at *
        simp only [e7, e7a]
        exact this
      · simp only [Nat.mul_zero, Nat.zero_add]
        obtain ⟨b1, b2, b3, b4, b5, b6, b7⟩ := B'
        refine ⟨?_, fun a ha => ?_, fun s hs => ?_, fun j hj => ?_, f4, ?_, fun j hj => ?_⟩
        · dsimp only
          rw [p4 0 (by omega), p4 1 (by omega), p4 2 (by omega), p4 3 (by omega), i0, i1, i2, i3]
          exact ⟨b1.1, b1.2.1, b1.2.2.1, b1.2.2.2.1, f3⟩
        · rw [i1] at ha
          simp (disch := omega) only [p4, e]
          exact b2 a ha
        · rw [i2] at hs
          simp (disch := omega) only [p4, e]
          exact b3 s hs
        · rw [i3] at hj
          simp (disch := omega) only [p4, e]
          exact b4 j hj
        · dsimp only
          rw [p4 217 (by omega), p4 218 (by omega), e 217 (by omega), e 218 (by omega)]
          exact b6
        · rw [e 218 (by omega)] at hj
          simp (disch := omega) only [p4, e]
          exact b7 j hj
      · unfold rNam at *
        simp only [e7b, q2, i0, i1, i2, i3]
        exact N
      · unfold rWk at *
        simp only [c3, e9, e 217 (by omega), e 218 (by omega)]
        rcases K with K | ⟨a, w, m, b1, b2, b3, b4, b5⟩
        · exact Or.inl K
        · exact Or.inr ⟨a, w, m, b1, b2, b3, b4, rBod_G e _ _ _ _ _ _ (rBod_e e9a _ _ _ _ _ _ b5)⟩
    · show rOne sc' sm' k (qq k) (if k = 0 then G' else GG k)
      rw [if_neg hz]
      exact rOne_h h0 g0 hz (s4 k hk)
theorem pro_eq (sm : fSt) : sI (sI sm 12 0 1 0) 12 0 0 0 = pro sm := Eq.trans rfl rfl
