/-! the relation holds of the first world -/
theorem rs_st0 {f5 : Nat → Int64} {f41 g1 : Nat → Int32} (h5 : ∀ k, k < 32 → f5 k = fWd k) (h41 : ∀ k, k < 6 → f41 k = -1) (hg : ∀ k, k < 4 → g1 k = -1) : RS (st0 f5 f41 g1) := by
  have zI : ∀ c i k, ¬ (c = 11 ∧ (k = 5 ∨ k = 6)) → ¬ (c = 12 ∧ (k = 10 ∨ k = 11)) → gI (st0 f5 f41 g1) c i k = nI 0 := fun c i k h1 h2 => by
    unfold st0
    simp (disch := omega) only [gI_sA, gI_sI, gI_sL, gI_sB, gI_sP, if_neg]
    rfl
  have zA : ∀ c i k, ¬ (c = 1 ∧ k = 1) → ¬ (c = 12 ∧ k = 2) → gA (st0 f5 f41 g1) c i k = fun _ => 0 := fun c i k h1 h2 => by
    unfold st0
    simp (disch := omega) only [gA_sA, gA_sI, gA_sL, gA_sB, gA_sP, if_neg]
    rfl
  refine ⟨?_, ⟨?_, ?_⟩, ⟨?_, ?_⟩, fun t ht => Or.inl ⟨zI _ _ _ (by omega) (by omega), ?_⟩, ⟨⟨0, by omega, zI _ _ _ (by omega) (by omega), zI _ _ _ (by omega) (by omega), fun k hk => by omega⟩, fun k hk => ?_⟩, ⟨0, by omega, zI _ _ _ (by omega) (by omega), zI _ _ _ (by omega) (by omega), fun k hk => by omega⟩, Or.inl ⟨zI _ _ _ (by omega) (by omega), fun r hr => ?_⟩, Or.inl ⟨zI _ _ _ (by omega) (by omega), zI _ _ _ (by omega) (by omega)⟩, fun k hk => ?_, 0, fun _ => 0, fun _ _ => 0, by omega, zI _ _ _ (by omega) (by omega), zI _ _ _ (by omega) (by omega), fun h hh => ?_⟩
  · exact (zI _ _ _ (by omega) (by omega)).trans (zI _ _ _ (by omega) (by omega)).symm
  · rfl
  · rfl
  · rfl
  · rfl
  · exact hg t ht
  · exact h5 k hk
  · exact h41 r hr
  · rfl
  · obtain rfl : h = 0 := by omega
    have e : ∀ k, gA (st0 f5 f41 g1) 12 0 5 (430 * 0 + k) = nI 0 := fun k => by
      rw [zA _ _ _ (by omega) (by omega)]
      rfl
    refine ⟨⟨⟨by decide, by decide, by decide, by decide⟩, ⟨by decide, by decide, by decide⟩, fun a ha => absurd ha (Nat.not_lt_zero a), fun a ha => absurd ha (Nat.not_lt_zero a), fun a ha => absurd ha (Nat.not_lt_zero a), fun a ha => absurd ha (Nat.not_lt_zero a)⟩, ⟨rfl, ⟨⟨zI _ _ _ (by omega) (by omega), zI _ _ _ (by omega) (by omega), zI _ _ _ (by omega) (by omega), zI _ _ _ (by omega) (by omega)⟩, fun a ha => absurd ha (Nat.not_lt_zero a), fun a ha => absurd ha (Nat.not_lt_zero a), fun a ha => absurd ha (Nat.not_lt_zero a)⟩, ⟨zI _ _ _ (by omega) (by omega), zI _ _ _ (by omega) (by omega)⟩, zI _ _ _ (by omega) (by omega), fun a ha => absurd ha (Nat.not_lt_zero a)⟩, ⟨⟨e 0, e 1, e 2, e 3, e 4, e 5, e 6⟩, fun a ha => absurd ha (Nat.not_lt_zero a), fun a ha => absurd ha (Nat.not_lt_zero a), fun a ha => absurd ha (Nat.not_lt_zero a), fun a ha => absurd ha (Nat.not_lt_zero a), ⟨e 217, e 218, by decide, fun _ => rfl, by decide⟩, fun a ha => absurd ha (Nat.not_lt_zero a)⟩, ⟨fun a ha => absurd ha (Nat.not_lt_zero a), fun a ha => absurd ha (Nat.not_lt_zero a), fun a ha => absurd ha (Nat.not_lt_zero a), fun a ha => absurd ha (Nat.not_lt_zero a)⟩, Or.inl ⟨rfl, rfl⟩⟩
