/-! layer 2: the body of a week: rows on rBod -/
section
variable {s s' : fSt} {w : Nat} {G G' : Nat → Nat}
theorem rBod_lx : ∀ n d a b i i', rBod s w G n d a b i i' → a ≤ b ∧ i ≤ i' := by
  intro n
  induction n with
  | zero => intro d a b i i' H; exact ⟨Nat.le_of_eq H.1, Nat.le_of_eq H.2.symm⟩
  | succ n ih =>
    intro d a b i i' H
    rcases H with H | ⟨h1, h2, H⟩
    · exact ⟨Nat.le_of_eq H.1, Nat.le_of_eq H.2.symm⟩
    · rcases H with ⟨a1, a2, a3, a4⟩ | ⟨a1, a0, a2, a3, m, b1, b2, b3, b4, b5, b6⟩
      · have := ih _ _ _ _ _ a4
        omega
      · have := ih _ _ _ _ _ b1
        have := ih _ _ _ _ _ b6
        omega
theorem rBod_mono : ∀ n d a b i i', rBod s w G n d a b i i' → rBod s w G (n + 1) d a b i i' := by
  intro n
  induction n with
  | zero => intro d a b i i' H; exact Or.inl H
  | succ n ih =>
    intro d a b i i' H
    rcases H with H | ⟨h1, h2, H⟩
    · exact Or.inl H
    · refine Or.inr ⟨h1, h2, ?_⟩
      rcases H with ⟨a1, a2, a3, a4⟩ | ⟨a1, a0, a2, a3, m, b1, b2, b3, b4, b5, b6⟩
      · exact Or.inl ⟨a1, a2, a3, ih _ _ _ _ _ a4⟩
      · exact Or.inr ⟨a1, a0, a2, a3, m, ih _ _ _ _ _ b1, b2, b3, b4, b5, ih _ _ _ _ _ b6⟩
theorem rBod_up {n d a b i i' : Nat} (h : rBod s w G n d a b i i') : ∀ k, rBod s w G (n + k) d a b i i' := by
  intro k
  induction k with
  | zero => exact h
  | succ k ih => exact rBod_mono _ _ _ _ _ _ ih
theorem rBod_lim : ∀ n d a b i i', rBod s w G n d a b i i' → ∀ N, b - a < N → rBod s w G N d a b i i' := by
  intro n
  induction n with
  | zero =>
    intro d a b i i' H N hN
    obtain ⟨N, rfl⟩ : ∃ m, N = m + 1 := ⟨N - 1, by omega⟩
    exact Or.inl H
  | succ n ih =>
    intro d a b i i' H N hN
    obtain ⟨N, rfl⟩ : ∃ m, N = m + 1 := ⟨N - 1, by omega⟩
    rcases H with H | ⟨h1, h2, H⟩
    · exact Or.inl H
    · refine Or.inr ⟨h1, h2, ?_⟩
      rcases H with ⟨a1, a2, a3, a4⟩ | ⟨a1, a0, a2, a3, m, b1, b2, b3, b4, b5, b6⟩
      · exact Or.inl ⟨a1, a2, a3, ih _ _ _ _ _ a4 N (by omega)⟩
      · exact Or.inr ⟨a1, a0, a2, a3, m, ih _ _ _ _ _ b1 N (by omega), b2, b3, b4, b5, ih _ _ _ _ _ b6 N (by omega)⟩
theorem rBod_app : ∀ n d a b i m, rBod s w G n d a b i m → ∀ n2 c k, rBod s w G n2 d b c m k → ∃ n3, rBod s w G n3 d a c i k := by
  intro n
  induction n with
  | zero =>
    intro d a b i m H n2 c k h
    obtain ⟨rfl, rfl⟩ := H
    exact ⟨n2, h⟩
  | succ n ih =>
    intro d a b i m H n2 c k h
    have hle := rBod_lx _ _ _ _ _ _ h
    rcases H with H | ⟨h1, h2, H⟩
    · obtain ⟨rfl, rfl⟩ := H
      exact ⟨n2, h⟩
    · rcases H with ⟨a1, a2, a3, a4⟩ | ⟨a1, a0, a2, a3, x, b1, b2, b3, b4, b5, b6⟩
      · obtain ⟨n3, h3⟩ := ih _ _ _ _ _ a4 n2 c k h
        exact ⟨n3 + 1, Or.inr ⟨by omega, h2, Or.inl ⟨a1, a2, a3, h3⟩⟩⟩
      · obtain ⟨n3, h3⟩ := ih _ _ _ _ _ b6 n2 c k h
        refine ⟨n + n3 + 1, Or.inr ⟨by omega, h2, Or.inr ⟨a1, a0, a2, by omega, x, rBod_up b1 n3, b2, b3, b4, b5, ?_⟩⟩⟩
        rw [Nat.add_comm n n3]
        exact rBod_up h3 n
theorem rStp_fr {j i : Nat} (H : rStp s w G j i) (hA : ∀ k, 1 ≤ k → k ≤ 3 → gA s' 9 w k i = gA s 9 w k i) (h4 : ∀ x, x < 4 → G' x = G x) (hG : ∀ x, 219 + 7 * j ≤ x → x < 226 + 7 * j → G' x = G x) : rStp s' w G' j i := by
  have a1 := hA 1 (by omega) (by omega)
  have a2 := hA 2 (by omega) (by omega)
  have a3 := hA 3 (by omega) (by omega)
  have e0 := h4 0 (by omega)
  have e2 := h4 2 (by omega)
  have e3 := h4 3 (by omega)
  have g0 := hG (219 + 7 * j) (by omega) (by omega)
  have g1 := hG (220 + 7 * j) (by omega) (by omega)
  have g2 := hG (221 + 7 * j) (by omega) (by omega)
  have g3 := hG (222 + 7 * j) (by omega) (by omega)
  have g4 := hG (223 + 7 * j) (by omega) (by omega)
  unfold rStp at *
  simp only [a1, a2, a3, e0, e2, e3, g0, g1, g2, g3, g4]
  exact H
theorem rBod_fr : ∀ n d a b i i', rBod s w G n d a b i i' → (∀ k x, 1 ≤ k → k ≤ 4 → i ≤ x → x < i' → gA s' 9 w k x = gA s 9 w k x) → (∀ x, x < 4 → G' x = G x) → (∀ x, 219 + 7 * a ≤ x → x < 219 + 7 * b → G' x = G x) → rBod s' w G' n d a b i i' := by
  intro n
  induction n with
  | zero => intro d a b i i' H _ _ _; exact H
  | succ n ih =>
    intro d a b i i' H hA h4 hG
    rcases H with H | ⟨h1, h2, H⟩
    · exact Or.inl H
    · have g0 := hG (219 + 7 * a) (by omega) (by omega)
      have g6 := hG (225 + 7 * a) (by omega) (by omega)
      rcases H with ⟨a1, a2, a3, a4⟩ | ⟨a1, a0, a2, a3, m, b1, b2, b3, b4, b5, b6⟩
      · have l1 := rBod_lx _ _ _ _ _ _ a4
        refine Or.inr ⟨h1, rStp_fr h2 (fun k v1 v2 => hA k i v1 (by omega) (by omega) (by omega)) h4 (fun x u1 u2 => hG x (by omega) (by omega)), Or.inl ⟨by rw [g0]; exact a1, by rw [g0]; exact a2, by rw [g6]; exact a3, ih _ _ _ _ _ a4 (fun k x v1 v2 u1 u2 => hA k x v1 v2 (by omega) u2) h4 (fun x u1 u2 => hG x (by omega) (by omega))⟩⟩
      · have l1 := rBod_lx _ _ _ _ _ _ b1
        have l2 := rBod_lx _ _ _ _ _ _ b6
        refine Or.inr ⟨h1, rStp_fr h2 (fun k v1 v2 => hA k i v1 (by omega) (by omega) (by omega)) h4 (fun x u1 u2 => hG x (by omega) (by omega)), Or.inr ⟨by rw [g0]; exact a1, a0, by rw [g6]; exact a2, by rw [g6]; exact a3, m, ?_, ?_, ?_, ?_, b5, ?_⟩⟩
        · rw [g6]
          exact ih _ _ _ _ _ b1 (fun k x v1 v2 u1 u2 => hA k x v1 v2 (by omega) (by omega)) h4 (fun x u1 u2 => hG x (by omega) (by omega))
        · rw [hA 1 m (by omega) (by omega) (by omega) (by omega)]; exact b2
        · rw [hA 4 m (by omega) (by omega) (by omega) (by omega)]; exact b3
        · rw [hA 4 i (by omega) (by omega) (by omega) (by omega)]; exact b4
        · rw [g6]
          exact ih _ _ _ _ _ b6 (fun k x v1 v2 u1 u2 => hA k x v1 v2 (by omega) u2) h4 (fun x u1 u2 => hG x (by omega) (by omega))
/-- a step's facts -/
theorem rStp_of {t : fSt} {i j x K A T C N : Nat} (h : SF G w i x s t K A T C N) (h4 : G' 0 = G 0 ∧ G' 2 = G 2 ∧ G' 3 = G 3) (g0 : G' (219 + 7 * j) = K) (g1 : G' (220 + 7 * j) = A) (g2 : G' (221 + 7 * j) = T) (g3 : G' (222 + 7 * j) = C) (g4 : G' (223 + 7 * j) = N) : rStp s w G' j i := by
  obtain ⟨-, h⟩ := h
  obtain ⟨e0, e2, e3⟩ := h4
  unfold rStp
  simp only [g0, g1, g2, g3, g4, e0, e2, e3]
  rcases h with ⟨hA, wd, h1, ho⟩ | ⟨rfl, rfl, h1, h2, h3, h5, h6⟩
  · rcases ho with ⟨rfl, rfl, o⟩ | ⟨rfl, rfl, o⟩ | ⟨rfl, rfl, o⟩ | ⟨rfl, rfl, o⟩ | ⟨rfl, rfl, o⟩ | ⟨rfl, rfl, o⟩ | ⟨rfl, rfl⟩ | ⟨rfl, rfl, rfl, o⟩ | ⟨rfl, rfl, rfl, o⟩ | ⟨rfl, rfl, rfl, o⟩
    · exact Or.inl ⟨hA, Or.inl ⟨rfl, h1, o⟩⟩
    · exact Or.inl ⟨hA, Or.inr (Or.inl ⟨rfl, h1, o⟩)⟩
    · exact Or.inl ⟨hA, Or.inr (Or.inr (Or.inl ⟨rfl, h1, o⟩))⟩
    · exact Or.inl ⟨hA, Or.inr (Or.inr (Or.inr (Or.inl ⟨rfl, h1, o⟩)))⟩
    · exact Or.inl ⟨hA, Or.inr (Or.inr (Or.inr (Or.inr (Or.inl ⟨rfl, h1, o⟩))))⟩
    · exact Or.inl ⟨hA, Or.inr (Or.inr (Or.inr (Or.inr (Or.inr (Or.inl ⟨rfl, h1, o⟩)))))⟩
    · exact Or.inl ⟨hA, Or.inr (Or.inr (Or.inr (Or.inr (Or.inr (Or.inr ⟨rfl, h1⟩)))))⟩
    · exact Or.inr ⟨rfl, Or.inl ⟨rfl, hA, h1, o⟩⟩
    · exact Or.inr ⟨rfl, Or.inr (Or.inl ⟨rfl, hA, h1, o⟩)⟩
    · exact Or.inr ⟨rfl, Or.inr (Or.inr (Or.inl ⟨rfl, hA, h1, o⟩))⟩
  · exact Or.inr ⟨rfl, Or.inr (Or.inr (Or.inr ⟨rfl, h1, h2, h3, h5, h6⟩))⟩
-- the reference's cells of the steps j .. j' - 1
def cel (t : fSt) (V : Nat → Nat) (j j' : Nat) : Prop := ∀ x, j ≤ x → x < j' → (gA t 12 0 5 (1939 + 7 * x) = nI (V (219 + 7 * x)) ∧ gA t 12 0 5 (1940 + 7 * x) = xI (V (220 + 7 * x)) ∧ gA t 12 0 5 (1945 + 7 * x) = nI (V (225 + 7 * x))) ∧ (V (219 + 7 * x) = 5 → gA t 12 0 5 (1941 + 7 * x) = nI (V (221 + 7 * x)) ∧ (V (221 + 7 * x) = 3 → gA t 12 0 5 (1942 + 7 * x) = nI (V (222 + 7 * x)) ∧ gA t 12 0 5 (1943 + 7 * x) = nI (V (223 + 7 * x))))
theorem cel_fr {t t' : fSt} {V V' : Nat → Nat} {j j' : Nat} (H : cel t V j j') (hA : ∀ m, 1939 + 7 * j ≤ m → m < 1939 + 7 * j' → gA t' 12 0 5 m = gA t 12 0 5 m) (hV : ∀ x, 219 + 7 * j ≤ x → x < 219 + 7 * j' → V' x = V x) : cel t' V' j j' := by
  intro x h1 h2
  have h := H x h1 h2
  rw [hA _ (by omega) (by omega), hA _ (by omega) (by omega), hA _ (by omega) (by omega), hA _ (by omega) (by omega), hA _ (by omega) (by omega), hA _ (by omega) (by omega), hV _ (by omega) (by omega), hV _ (by omega) (by omega), hV _ (by omega) (by omega), hV _ (by omega) (by omega), hV _ (by omega) (by omega), hV _ (by omega) (by omega)]
  exact h
theorem cel_app {t : fSt} {V : Nat → Nat} {a b c : Nat} (h : cel t V a b) (g : cel t V b c) : cel t V a c := by
  intro x h1 h2
  by_cases hx : x < b
  · exact h x h1 hx
  · exact g x (by omega) h2
end
