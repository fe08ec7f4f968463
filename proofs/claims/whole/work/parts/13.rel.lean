/-! layer 2: the relation of the class's state (sc) and the reference's (sm) -/
-- a theatre as numbers: G k is the reference's cell k of a block; 49..120, 138 + 4 i, 139 + 4 i and 220 + 7 j are told as n + 1, 0: none
def gWf (G : Nat → Nat) : Prop :=
  (G 0 ≤ 6 ∧ G 1 ≤ 6 ∧ G 2 ≤ 12 ∧ G 3 ≤ 4) ∧ (G 4 < 4096 ∧ G 5 < 64 ∧ G 6 ≤ 20) ∧
  (∀ a, a < G 1 → G (7 + a) ≤ 99 ∧ G (13 + a) ≤ 999 ∧ G (19 + a) < 64) ∧
  (∀ s, s < G 2 → (1 ≤ G (25 + s) ∧ G (25 + s) ≤ 20) ∧ G (37 + s) < 2 ^ G 0 ∧ G (49 + s) ≤ 9 ∧ (G (61 + s) ≤ s ∧ G (73 + s) ≤ s ∧ G (85 + s) ≤ s ∧ G (97 + s) ≤ s) ∧ G (109 + s) ≤ 6) ∧
  (∀ k, k < G 3 → (1 ≤ G (121 + k) ∧ G (121 + k) ≤ 30) ∧ G (125 + k) + G (129 + k) + G (133 + k) ≤ 16) ∧
  (∀ i, i < G 6 → 0 < G (137 + 4 * i) ∧ G (137 + 4 * i) < 4096 ∧ G (138 + 4 * i) ≤ 9 ∧ G (139 + 4 * i) ≤ 4 ∧ G (140 + 4 * i) < 1048576)
-- a block of the reference
def rBlk (f : Nat → Int32) (G : Nat → Nat) : Prop :=
  (f 0 = nI (G 0) ∧ f 1 = nI (G 1) ∧ f 2 = nI (G 2) ∧ f 3 = nI (G 3) ∧ f 4 = nI (G 4) ∧ f 5 = nI (G 5) ∧ f 6 = nI (G 6)) ∧
  (∀ a, a < G 1 → f (7 + a) = nI (G (7 + a)) ∧ f (13 + a) = nI (G (13 + a)) ∧ f (19 + a) = nI (G (19 + a))) ∧
  (∀ s, s < G 2 → f (25 + s) = nI (G (25 + s)) ∧ f (37 + s) = nI (G (37 + s)) ∧ f (49 + s) = xI (G (49 + s)) ∧ f (61 + s) = xI (G (61 + s)) ∧ f (73 + s) = xI (G (73 + s)) ∧ f (85 + s) = xI (G (85 + s)) ∧ f (97 + s) = xI (G (97 + s)) ∧ f (109 + s) = xI (G (109 + s))) ∧
  (∀ k, k < G 3 → f (121 + k) = nI (G (121 + k)) ∧ f (125 + k) = nI (G (125 + k)) ∧ f (129 + k) = nI (G (129 + k)) ∧ f (133 + k) = nI (G (133 + k))) ∧
  (∀ i, i < G 6 → f (137 + 4 * i) = nI (G (137 + 4 * i)) ∧ f (138 + 4 * i) = xI (G (138 + 4 * i)) ∧ f (139 + 4 * i) = xI (G (139 + 4 * i)) ∧ f (140 + 4 * i) = nI (G (140 + 4 * i))) ∧
  ((f 217 = nI (G 217) ∧ f 218 = nI (G 218) ∧ G 217 ≤ 1 ∧ (G 217 = 0 → G 218 = 0) ∧ G 218 ≤ 30) ∧
  (∀ j, j < G 218 → f (219 + 7 * j) = nI (G (219 + 7 * j)) ∧ f (220 + 7 * j) = xI (G (220 + 7 * j)) ∧ f (225 + 7 * j) = nI (G (225 + 7 * j)) ∧
    (G (219 + 7 * j) = 5 → f (221 + 7 * j) = nI (G (221 + 7 * j)) ∧ (G (221 + 7 * j) = 3 → f (222 + 7 * j) = nI (G (222 + 7 * j)) ∧ f (223 + 7 * j) = nI (G (223 + 7 * j))))))
-- a Stage of the class
def rStg (sc : fSt) (q : Nat) (G : Nat → Nat) : Prop :=
  (gI sc 7 q 0 = nI (G 0) ∧ gI sc 7 q 1 = nI (G 1) ∧ gI sc 7 q 2 = nI (G 2) ∧ gI sc 7 q 3 = nI (G 3)) ∧
  (∀ a, a < G 1 → gA sc 7 q 5 a = nI (G (7 + a)) ∧ gA sc 7 q 6 a = nI (G (13 + a)) ∧ gA sc 7 q 7 a = nI (G (19 + a))) ∧
  (∀ s, s < G 2 → gA sc 7 q 8 s = nI (G (25 + s)) ∧ gA sc 7 q 9 s = nI (G (37 + s)) ∧ gA sc 7 q 10 s = xI (G (49 + s)) ∧ gA sc 7 q 11 (s * 4) = xI (G (61 + s)) ∧ gA sc 7 q 11 (s * 4 + 1) = xI (G (73 + s)) ∧ gA sc 7 q 11 (s * 4 + 2) = xI (G (85 + s)) ∧ gA sc 7 q 11 (s * 4 + 3) = xI (G (97 + s)) ∧ gA sc 7 q 12 s = xI (G (109 + s))) ∧
  (∀ k, k < G 3 → gA sc 7 q 13 k = nI (G (121 + k)) ∧ gA sc 7 q 14 (k * 4) = nI (16 - G (125 + k) - G (129 + k) - G (133 + k)) ∧ gA sc 7 q 14 (k * 4 + 1) = nI (G (125 + k)) ∧ gA sc 7 q 14 (k * 4 + 2) = nI (G (129 + k)) ∧ gA sc 7 q 14 (k * 4 + 3) = nI (G (133 + k)))
-- its names
def rNam (sc : fSt) (q : Nat) (G : Nat → Nat) (W : Nat → Int64) : Prop :=
  (∀ k, k < G 0 → gB sc 7 q 1 k = W k) ∧ (∀ k, k < G 1 → gB sc 7 q 2 k = W (6 + k)) ∧ (∀ k, k < G 2 → gB sc 7 q 3 k = W (12 + k)) ∧ (∀ k, k < G 3 → gB sc 7 q 4 k = W (24 + k))
-- a Week's item i is step j
def rStp (sc : fSt) (w : Nat) (G : Nat → Nat) (j i : Nat) : Prop :=
  let k := G (219 + 7 * j)
  let a := G (220 + 7 * j)
  let t := G (221 + 7 * j)
  gA sc 9 w 2 i = xI a ∧
  ((k = 0 ∧ gA sc 9 w 1 i = nI 19 ∧ a ≤ G 3) ∨ (k = 1 ∧ gA sc 9 w 1 i = nI 20 ∧ 0 < a ∧ a ≤ G 2) ∨ (k = 2 ∧ gA sc 9 w 1 i = nI 21 ∧ 0 < a ∧ a ≤ G 2) ∨ (k = 3 ∧ gA sc 9 w 1 i = nI 22 ∧ 0 < a ∧ a ≤ G 0) ∨ (k = 4 ∧ gA sc 9 w 1 i = nI 23 ∧ 0 < a ∧ a ≤ G 0) ∨ (k = 6 ∧ gA sc 9 w 1 i = nI 29 ∧ 1 < a ∧ a ≤ 100) ∨ (k = 7 ∧ gA sc 9 w 1 i = nI 31)) ∨
  (k = 5 ∧ ((t = 0 ∧ gA sc 9 w 2 i = xI a ∧ gA sc 9 w 1 i = nI 25 ∧ 0 < a ∧ a ≤ G 2) ∨ (t = 1 ∧ gA sc 9 w 2 i = xI a ∧ gA sc 9 w 1 i = nI 26 ∧ 0 < a ∧ a ≤ G 0) ∨ (t = 2 ∧ gA sc 9 w 2 i = xI a ∧ gA sc 9 w 1 i = nI 28 ∧ 0 < a ∧ a ≤ 10) ∨
    (t = 3 ∧ gA sc 9 w 1 i = nI 27 ∧ gA sc 9 w 2 i = nI (G (223 + 7 * j)) ∧ gA sc 9 w 3 i = nI (G (222 + 7 * j)) ∧ G (223 + 7 * j) ≤ 99 ∧ G (222 + 7 * j) < 128)))
-- the steps from .. to - 1 are the items i .. i' - 1
def rBod (sc : fSt) (w : Nat) (G : Nat → Nat) : Nat → Nat → Nat → Nat → Nat → Nat → Prop
  | 0, _, from', to, i, i' => from' = to ∧ i' = i
  | n + 1, d, from', to, i, i' => (from' = to ∧ i' = i) ∨ (from' < to ∧ rStp sc w G from' i ∧
      ((G (219 + 7 * from') ≠ 5 ∧ G (219 + 7 * from') ≠ 6 ∧ G (225 + 7 * from') = from' + 1 ∧ rBod sc w G n d (from' + 1) to (i + 1) i') ∨
       ((G (219 + 7 * from') = 5 ∨ G (219 + 7 * from') = 6) ∧ 0 < d ∧ from' < G (225 + 7 * from') ∧ G (225 + 7 * from') ≤ to ∧ ∃ m, rBod sc w G n (d - 1) (from' + 1) (G (225 + 7 * from')) (i + 1) m ∧ gA sc 9 w 1 m = nI 30 ∧ gA sc 9 w 4 m = nI i ∧ gA sc 9 w 4 i = nI m ∧ m < 60 ∧ rBod sc w G n d (G (225 + 7 * from')) to (m + 1) i')))
def rWk (sc : fSt) (h : Nat) (G : Nat → Nat) : Prop :=
  (G 217 = 0 ∧ gP sc 2 h 1 = 0) ∨ (G 217 = 1 ∧ ∃ w m, gP sc 2 h 1 = w + 1 ∧ gI sc 9 w 0 = nI m ∧ m ≤ 60 ∧ gI sc 9 w 1 = nI (G 218) ∧ rBod sc w G 31 3 0 (G 218) 0 m)
-- a House of the class
def rBok (sc : fSt) (h : Nat) (G : Nat → Nat) : Prop :=
  gI sc 0 h 0 = nI (G 6) ∧ ∀ i, i < G 6 → gA sc 0 h 1 (i * 4) = nI (G (137 + 4 * i)) ∧ gA sc 0 h 1 (i * 4 + 1) = xI (G (138 + 4 * i)) ∧ gA sc 0 h 1 (i * 4 + 2) = xI (G (139 + 4 * i)) ∧ gA sc 0 h 1 (i * 4 + 3) = nI (G (140 + 4 * i))
def rHou (sc : fSt) (h q : Nat) (G : Nat → Nat) : Prop :=
  gP sc 2 h 0 = q + 1 ∧ rStg sc q G ∧ (gI sc 2 h 2 = nI (G 4) ∧ gI sc 2 h 3 = nI (G 5)) ∧ rBok sc h G
def rOne (sc sm : fSt) (h q : Nat) (G : Nat → Nat) : Prop :=
  gWf G ∧ rHou sc h q G ∧ rBlk (fun k => gA sm 12 0 5 (430 * h + k)) G ∧ rNam sc q G (fun k => gB sm 12 0 7 (28 * h + k)) ∧ rWk sc h G
-- the rest
def rA (sc sm : fSt) : Prop := gI sc 11 0 2 = gI sm 12 0 0
def rF (sc sm : fSt) : Prop := gL sc 11 0 3 = gL sm 12 0 2 ∧ gL sc 11 0 4 = gL sm 12 0 3
def rQ (sc sm : fSt) : Prop := gI sc 11 0 5 = gI sm 12 0 10 ∧ gI sc 11 0 6 = gI sm 12 0 11
def rT (sc sm : fSt) : Prop := ∀ t, t < 4 → (gI sc 8 t 1 = nI 0 ∧ gA sm 12 0 2 t = mI) ∨
  (gI sc 8 t 1 = nI 1 ∧ ∃ so ma, so ≤ 3 ∧ ma ≤ 60 ∧ gI sc 8 t 2 = nI so ∧ gA sm 12 0 1 t = nI so ∧ gI sc 8 t 3 = nI ma ∧ gA sm 12 0 2 t = nI ma ∧ ∀ k, k < ma → gB sc 8 t 1 k = gB sm 12 0 3 (60 * t + k))
def rP (sc sm : fSt) : Prop := (∃ n, n ≤ 900 ∧ gI sc 5 0 2 = nI n ∧ gI sm 12 0 8 = nI n ∧ ∀ k, k < n → gA sc 5 0 1 k = gA sm 12 0 4 k ∧ -128 ≤ (gA sm 12 0 4 k).toInt ∧ (gA sm 12 0 4 k).toInt ≤ 127) ∧ ∀ k, k < 32 → gB sc 5 0 2 k = fWd k
def rS (sc sm : fSt) : Prop := ∃ n, n ≤ 12 ∧ gI sc 11 0 17 = nI n ∧ gI sm 12 0 46 = nI n ∧ ∀ k, k < n → gA sc 11 0 3 k = gA sm 12 0 16 k
def rC (sc sm : fSt) : Prop := (gI sm 12 0 54 = nI 0 ∧ ∀ r, r < 6 → gA sc 1 0 1 r = mI) ∨ (gI sm 12 0 54 = nI 1 ∧ ∀ r, r < 6 → ∃ p, p ≤ 6 ∧ gA sc 1 0 1 r = xI p ∧ gA sm 12 0 20 r = xI p)
def rW (sc sm : fSt) : Prop := (gI sc 10 0 3 = nI 0 ∧ gI sm 12 0 56 = nI 0) ∨
  (gI sc 10 0 3 = nI 1 ∧ gI sm 12 0 56 = nI 1 ∧ gI sc 10 0 6 = gA sm 12 0 22 0 ∧ gI sc 10 0 7 = gA sm 12 0 22 1 ∧ gI sc 10 0 5 = gA sm 12 0 22 2 ∧ gI sc 10 0 8 = gA sm 12 0 22 3 ∧ gI sc 10 0 9 = gA sm 12 0 22 4)
def rO (sc : fSt) : Prop := ∀ k, k < 768 → gB sc 4 0 1 k = 0
def rH (sc sm : fSt) : Prop := ∃ (n : Nat) (qq : Nat → Nat) (GG : Nat → Nat → Nat), n ≤ 3 ∧ gI sc 11 0 9 = nI n ∧ gI sm 12 0 23 = nI n ∧ ∀ h, h ≤ n → rOne sc sm h (qq h) (GG h)
def RR (sc sm : fSt) : Prop := rA sc sm ∧ rF sc sm ∧ rQ sc sm ∧ rT sc sm ∧ rP sc sm ∧ rS sc sm ∧ rC sc sm ∧ rW sc sm ∧ rO sc ∧ rH sc sm
def RS (st : fSt) : Prop := RR st st
-- the relation reads only the class's cells of the one, the reference's of the other
theorem rStp_c {sc sc' : fSt} (h : kF (fun c => c ≠ 12) sc sc') {w : Nat} {G : Nat → Nat} {j i : Nat} (H : rStp sc w G j i) : rStp sc' w G j i := by
  have e := fun i k => (h 9 (by decide) i k).2.2.1
  unfold rStp at *
  simp only [e]
  exact H
theorem rBod_c {sc sc' : fSt} (h : kF (fun c => c ≠ 12) sc sc') {w : Nat} {G : Nat → Nat} : ∀ n d a b i i', rBod sc w G n d a b i i' → rBod sc' w G n d a b i i' := by
  have e := fun i k => (h 9 (by decide) i k).2.2.1
  intro n
  induction n with
  | zero => intro d a b i i' H; exact H
  | succ n ih =>
    intro d a b i i' H
    rcases H with H | ⟨h1, h2, H⟩
    · exact Or.inl H
    · refine Or.inr ⟨h1, rStp_c h h2, ?_⟩
      rcases H with ⟨a1, a2, a3, a4⟩ | ⟨a1, a0, a2, a3, m, b1, b2, b3, b4, b5, b6⟩
      · exact Or.inl ⟨a1, a2, a3, ih _ _ _ _ _ a4⟩
      · exact Or.inr ⟨a1, a0, a2, a3, m, ih _ _ _ _ _ b1, by rw [e]; exact b2, by rw [e]; exact b3, by rw [e]; exact b4, b5, ih _ _ _ _ _ b6⟩
theorem rOne_c {sc sc' sm sm' : fSt} (h : kF (fun c => c ≠ 12) sc sc') (g : kF (fun c => c = 12) sm sm') {k q : Nat} {G : Nat → Nat} (H : rOne sc sm k q G) : rOne sc' sm' k q G := by
  have e2 := fun i k => (h 2 (by decide) i k).1
  have e2p := fun i k => (h 2 (by decide) i k).2.2.2.2
  have e0 := fun i k => (h 0 (by decide) i k).1
  have e0a := fun i k => (h 0 (by decide) i k).2.2.1
  have e7 := fun i k => (h 7 (by decide) i k).1
  have e7a := fun i k => (h 7 (by decide) i k).2.2.1
  have e7b := fun i k => (h 7 (by decide) i k).2.2.2.1
  have e9 := fun i k => (h 9 (by decide) i k).1
  have ea := fun i k => (g 12 rfl i k).2.2.1
  have eb := fun i k => (g 12 rfl i k).2.2.2.1
  obtain ⟨h1, h2, h3, h4, h5⟩ := H
  refine ⟨h1, ?_, ?_, ?_, ?_⟩
  · unfold rHou rStg rBok at *
    simp only [e2, e2p, e0, e0a, e7, e7a]
    exact h2
  · simp only [ea]
    exact h3
  · unfold rNam at *
    simp only [e7b, eb]
    exact h4
  · unfold rWk at *
    simp only [e2p, e9]
    rcases h5 with h5 | ⟨a, w, m, b1, b2, b3, b4, b5⟩
    · exact Or.inl h5
    · exact Or.inr ⟨a, w, m, b1, b2, b3, b4, rBod_c h _ _ _ _ _ _ b5⟩
theorem RR_c {sc sc' sm sm' : fSt} (h : kF (fun c => c ≠ 12) sc sc') (g : kF (fun c => c = 12) sm sm') (H : RR sc sm) : RR sc' sm' := by
  have e11 := fun i k => (h 11 (by decide) i k).1
  have e11l := fun i k => (h 11 (by decide) i k).2.1
  have e11a := fun i k => (h 11 (by decide) i k).2.2.1
  have e8 := fun i k => (h 8 (by decide) i k).1
  have e8b := fun i k => (h 8 (by decide) i k).2.2.2.1
  have e5 := fun i k => (h 5 (by decide) i k).1
  have e5a := fun i k => (h 5 (by decide) i k).2.2.1
  have e5b := fun i k => (h 5 (by decide) i k).2.2.2.1
  have e1a := fun i k => (h 1 (by decide) i k).2.2.1
  have e10 := fun i k => (h 10 (by decide) i k).1
  have e4b := fun i k => (h 4 (by decide) i k).2.2.2.1
  have m1 := fun i k => (g 12 rfl i k).1
  have m2 := fun i k => (g 12 rfl i k).2.1
  have m3 := fun i k => (g 12 rfl i k).2.2.1
  have m4 := fun i k => (g 12 rfl i k).2.2.2.1
  obtain ⟨h1, h2, h3, h4, h5, h6, h7, h8, h9, n, qq, GG, h10, h11, h12, h13⟩ := H
  refine ⟨?_, ?_, ?_, ?_, ?_, ?_, ?_, ?_, ?_, n, qq, GG, h10, ?_, ?_, fun k hk => rOne_c h g (h13 k hk)⟩
  · unfold rA at *; simp only [e11, m1]; exact h1
  · unfold rF at *; simp only [e11l, m2]; exact h2
  · unfold rQ at *; simp only [e11, m1]; exact h3
  · unfold rT at *; simp only [e8, e8b, m3, m4]; exact h4
  · unfold rP at *; simp only [e5, e5a, e5b, m1, m3]; exact h5
  · unfold rS at *; simp only [e11, e11a, m1, m3]; exact h6
  · unfold rC at *; simp only [e1a, m1, m3]; exact h7
  · unfold rW at *; simp only [e10, m1, m3]; exact h8
  · unfold rO at *; simp only [e4b]; exact h9
  · simp only [e11]; exact h11
  · simp only [m1]; exact h12
def CALL {α : Type} (x m : fSt → Option (α × fSt)) : Prop := ∀ sc sm, RR sc sm → ∃ r sc' sm', x sc = some (r, sc') ∧ m sm = some (r, sm') ∧ RR sc' sm'
theorem call_sim {α : Type} {x m : fSt → Option (α × fSt)} (hx : ∀ st, kpO (fun c => c = 12) st (x st)) (hm : ∀ st, kpO (fun c => c ≠ 12) st (m st)) (h : CALL x m) (st : fSt) (hR : RS st) : ∃ r s1 s2, x st = some (r, s1) ∧ m s1 = some (r, s2) ∧ RS s2 := by
  obtain ⟨r, s1, _, e1, _, _⟩ := h st st hR
  have k1 := hx st r s1 e1
  obtain ⟨r', s1', s2, e1', e2, H⟩ := h st s1 (RR_c (kF_rf st) k1 hR)
  rw [e1] at e1'
  cases e1'
  exact ⟨r, s1, s2, e1, e2, RR_c (hm s1 r s2 e2) (kF_rf s2) H⟩
