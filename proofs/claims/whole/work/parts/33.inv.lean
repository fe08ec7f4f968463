/-! layer 2: what passOn keeps -/
theorem zs_mul (c : Nat) (f : Nat → Nat) (n : Nat) : c * zs f n = zs (fun k => c * f k) n := by
  induction n with
  | zero => rfl
  | succ n ih => rw [zs_s, zs_s, Nat.mul_add, ih]
theorem zs_add (f g : Nat → Nat) (n : Nat) : zs f n + zs g n = zs (fun k => f k + g k) n := by
  induction n with
  | zero => rfl
  | succ n ih => rw [zs_s, zs_s, zs_s, ← ih]; omega
def oTT (G sh a b Wn Cn Pn : Nat → Nat) : Nat := zs (fun s => a s * Pn s) 12 + zs (fun e => b e * Cn e) 10 + zs (fun p => Wn p / 16 ^ (p / 64) * cc G sh a (fun s => b (gsl G s)) (p / 64 + 1) (p % 64)) 768
def oInv (G sh : Nat → Nat) (TT : (Nat → Nat) → (Nat → Nat) → Nat) (Wn : Nat → Nat) (t : pT) : Prop :=
  ∃ Cn Pn : Nat → Nat, (∀ p, p < 768 → t.1 p = lN (Wn p)) ∧ (∀ e, e < 10 → t.2.1 e = lN (Cn e)) ∧ (∀ s, s < 12 → t.2.2.1 s = lN (Pn s)) ∧ (∀ p, p < 768 → 16 ^ (p / 64) ∣ Wn p) ∧ (∀ p, p < 768 → Wn p ≠ 0 → p / 64 < G 2) ∧ ∀ a b, oTT G sh a b Wn Cn Pn = TT a b
theorem wsn_sup {ts sh : Nat → Nat} {g x : Nat} {W : Nat → Nat} : ∀ n p, (∀ d, d < n → ts d ≠ 0 → p ≠ (ts d - 1) * 64 + g) → wsn ts sh g x W n p = W p := by
  intro n
  induction n with
  | zero => intro p _; rfl
  | succ n ih =>
    intro p h
    unfold wsn
    by_cases h0 : ts n = 0
    · rw [if_pos h0]; exact ih p (fun d hd => h d (by omega))
    · rw [if_neg h0, if_neg (h n (by omega) h0)]; exact ih p (fun d hd => h d (by omega))
theorem wsn_sum (φ : Nat → Nat) {ts sh : Nat → Nat} {g x : Nat} {W : Nat → Nat} (hg : g < 64) (hW : ∀ p, p < 768 → 16 ^ (p / 64) ∣ W p) : ∀ n, (∀ d, d < n → ts d ≠ 0 → ts d ≤ 12 ∧ 16 ^ (ts d - 1) ∣ x) → (∀ p, p < 768 → 16 ^ (p / 64) ∣ wsn ts sh g x W n p) ∧ zs (fun p => wsn ts sh g x W n p / 16 ^ (p / 64) * φ p) 768 = zs (fun p => W p / 16 ^ (p / 64) * φ p) 768 + zs (fun d => if ts d = 0 then 0 else x * sh d / 16 ^ (ts d - 1) * φ ((ts d - 1) * 64 + g)) n := by
  intro n
  induction n with
  | zero =>
    intro _
    have e0 : wsn ts sh g x W 0 = W := rfl
    rw [e0, zs_0, Nat.add_zero]
    exact ⟨hW, rfl⟩
  | succ n ih =>
    intro hd
    obtain ⟨i1, i2⟩ := ih (fun d h => hd d (by omega))
    have hzs : zs (fun d => if ts d = 0 then 0 else x * sh d / 16 ^ (ts d - 1) * φ ((ts d - 1) * 64 + g)) (n + 1) = zs (fun d => if ts d = 0 then 0 else x * sh d / 16 ^ (ts d - 1) * φ ((ts d - 1) * 64 + g)) n + if ts n = 0 then 0 else x * sh n / 16 ^ (ts n - 1) * φ ((ts n - 1) * 64 + g) := rfl
    rw [hzs]
    by_cases h0 : ts n = 0
    · have e : wsn ts sh g x W (n + 1) = wsn ts sh g x W n := by rw [wsn, if_pos h0]
      rw [e, if_pos h0]
      exact ⟨i1, i2⟩
    · obtain ⟨h1, h2⟩ := hd n (by omega) h0
      have e : wsn ts sh g x W (n + 1) = fun p => if p = (ts n - 1) * 64 + g then wsn ts sh g x W n ((ts n - 1) * 64 + g) + x * sh n else wsn ts sh g x W n p := by rw [wsn, if_neg h0]
      rw [e, if_neg h0, ← Nat.add_assoc, ← i2]
      generalize wsn ts sh g x W n = A at *
      have hq : (ts n - 1) * 64 + g < 768 := by omega
      have hq64 : ((ts n - 1) * 64 + g) / 64 = ts n - 1 := by omega
      have hx : 16 ^ (ts n - 1) ∣ x * sh n := Nat.dvd_trans h2 (Nat.dvd_mul_right _ _)
      have hA := i1 _ hq
      rw [hq64] at hA
      refine ⟨fun p hp => ?_, ?_⟩
      · simp only
        by_cases hpq : p = (ts n - 1) * 64 + g
        · rw [if_pos hpq, hpq, hq64]
          exact Nat.dvd_add hA hx
        · rw [if_neg hpq]; exact i1 p hp
      · have hz := zs_upd (fun p => A p / 16 ^ (p / 64) * φ p) ((A ((ts n - 1) * 64 + g) + x * sh n) / 16 ^ (ts n - 1) * φ ((ts n - 1) * 64 + g)) hq
        rw [hq64] at hz
        have hc : zs (fun p => (if p = (ts n - 1) * 64 + g then A ((ts n - 1) * 64 + g) + x * sh n else A p) / 16 ^ (p / 64) * φ p) 768 = zs (fun k => if k = (ts n - 1) * 64 + g then (A ((ts n - 1) * 64 + g) + x * sh n) / 16 ^ (ts n - 1) * φ ((ts n - 1) * 64 + g) else A k / 16 ^ (k / 64) * φ k) 768 := by
          apply zs_cong
          intro k hk
          by_cases hkq : k = (ts n - 1) * 64 + g
          · rw [if_pos hkq, if_pos hkq, hkq, hq64]
          · rw [if_neg hkq, if_neg hkq]
        rw [hc]
        obtain ⟨α, hα⟩ := hA
        obtain ⟨β, hβ⟩ := hx
        have hpos : 0 < 16 ^ (ts n - 1) := Nat.pow_pos (by omega)
        rw [hα, hβ, ← Nat.mul_add, Nat.mul_div_cancel_left _ hpos, Nat.mul_div_cancel_left _ hpos] at hz
        rw [hα, hβ, ← Nat.mul_add, Nat.mul_div_cancel_left _ hpos, Nat.mul_div_cancel_left _ hpos]
        rw [Nat.add_mul] at hz ⊢
        omega
section
variable {G sh a b : Nat → Nat}
theorem cc_one (w : gWf G) (hsh : zs sh 4 = 16) : ∀ n s g, s ≤ n → s < G 2 → cc G sh (fun _ => 0) (fun _ => 1) (s + 1) g = 16 ^ s := by
  intro n
  induction n with
  | zero =>
    intro s g hn hs
    have : s = 0 := by omega
    subst this
    rw [cc_s w hs]
    simp
  | succ n ih =>
    intro s g hn hs
    rw [cc_s w hs]
    by_cases h0 : s = 0
    · subst h0; simp
    · obtain ⟨k, rfl⟩ : ∃ k, s = k + 1 := ⟨s - 1, by omega⟩
      rw [if_neg h0, Nat.add_sub_cancel, Nat.zero_mul, Nat.zero_add]
      have e : ∀ d, d < 4 → sh d * (if gnx G (k + 1) d (gkil G (k + 1) g) = 0 then 1 * 16 ^ k else 16 ^ (k + 1 - gnx G (k + 1) d (gkil G (k + 1) g)) * cc G sh (fun _ => 0) (fun _ => 1) (gnx G (k + 1) d (gkil G (k + 1) g)) (gkil G (k + 1) g)) = 16 ^ k * sh d := by
        intro d hd
        have ht := gnx_le w hs hd (gkil G (k + 1) g)
        cases hv : gnx G (k + 1) d (gkil G (k + 1) g) with
        | zero => rw [if_pos rfl, Nat.one_mul, Nat.mul_comm]
        | succ t =>
          rw [hv] at ht
          rw [if_neg (by omega), ih t _ (by omega) (by omega), ← Nat.pow_add, show k + 1 - (t + 1) + t = k by omega, Nat.mul_comm]
      rw [zs_cong e, ← zs_mul, hsh, Nat.pow_succ]
theorem pass_eq (w : gWf G) (hsh : zs sh 4 = 16) {s g u : Nat} (hs : s < G 2) :
    u * cc G sh a b (s + 1) g = a s * (16 ^ s * u) + b s * (if zs (fun d => if gnx G s d (gkil G s g) = 0 then sh d else 0) 4 = 16 then 16 ^ s * u else 16 ^ s * u / 16 * zs (fun d => if gnx G s d (gkil G s g) = 0 then sh d else 0) 4) + zs (fun d => if gnx G s d (gkil G s g) = 0 then 0 else 16 ^ s * u / 16 * sh d / 16 ^ (gnx G s d (gkil G s g) - 1) * cc G sh a b (gnx G s d (gkil G s g)) (gkil G s g)) 4 := by
  rw [cc_s w hs]
  have htn : ∀ d, d < 4 → gnx G s d (gkil G s g) ≤ s := fun d hd => gnx_le w hs hd _
  by_cases h0 : s = 0
  · subst h0
    have hz : ∀ d, d < 4 → gnx G 0 d (gkil G 0 g) = 0 := fun d hd => by have := htn d hd; omega
    have e1 : zs (fun d => if gnx G 0 d (gkil G 0 g) = 0 then sh d else 0) 4 = 16 := by
      rw [← hsh]
      exact zs_cong (fun d hd => if_pos (hz d hd))
    have e2 : zs (fun d => if gnx G 0 d (gkil G 0 g) = 0 then 0 else 16 ^ 0 * u / 16 * sh d / 16 ^ (gnx G 0 d (gkil G 0 g) - 1) * cc G sh a b (gnx G 0 d (gkil G 0 g)) (gkil G 0 g)) 4 = 0 := zs_zero (fun d hd => if_pos (hz d hd))
    rw [e1, e2, if_pos rfl, if_pos rfl]
    simp [Nat.mul_add, Nat.mul_comm]
  · obtain ⟨k, rfl⟩ : ∃ k, s = k + 1 := ⟨s - 1, by omega⟩
    rw [if_neg h0, Nat.add_sub_cancel]
    have e16 : 16 ^ (k + 1) * u / 16 = 16 ^ k * u := by
      rw [Nat.pow_succ, Nat.mul_comm (16 ^ k) 16, Nat.mul_assoc, Nat.mul_div_cancel_left _ (by omega)]
    have e17 : 16 ^ (k + 1) * u = 16 ^ k * u * 16 := by rw [Nat.pow_succ, Nat.mul_assoc, Nat.mul_comm 16 u, ← Nat.mul_assoc]
    rw [e16]
    have ec : (if zs (fun d => if gnx G (k + 1) d (gkil G (k + 1) g) = 0 then sh d else 0) 4 = 16 then 16 ^ (k + 1) * u else 16 ^ k * u * zs (fun d => if gnx G (k + 1) d (gkil G (k + 1) g) = 0 then sh d else 0) 4) = 16 ^ k * u * zs (fun d => if gnx G (k + 1) d (gkil G (k + 1) g) = 0 then sh d else 0) 4 := by
      split
      · rename_i h; rw [h, e17]
      · rfl
    rw [ec, Nat.mul_add, zs_mul u, zs_mul (16 ^ k * u), zs_mul (b (k + 1)), Nat.add_assoc, zs_add]
    congr 1
    · rw [Nat.mul_left_comm, Nat.mul_comm u]
    · apply zs_cong
      intro d hd
      have ht := htn d hd
      cases hv : gnx G (k + 1) d (gkil G (k + 1) g) with
      | zero =>
        simp only [if_true, Nat.add_zero]
        simp only [Nat.mul_comm, Nat.mul_left_comm, Nat.mul_assoc]
      | succ t =>
        rw [hv] at ht
        rw [if_neg (by omega), if_neg (by omega), if_neg (by omega), Nat.mul_zero, Nat.mul_zero, Nat.zero_add, Nat.add_sub_cancel]
        have hdv : 16 ^ k * u * sh d / 16 ^ t = 16 ^ (k + 1 - (t + 1)) * u * sh d := by
          obtain ⟨j, rfl⟩ : ∃ j, k = t + j := ⟨k - t, by omega⟩
          rw [show t + j + 1 - (t + 1) = j by omega, Nat.pow_add, Nat.mul_assoc, Nat.mul_assoc, Nat.mul_div_cancel_left _ (Nat.pow_pos (by omega)), Nat.mul_assoc]
        rw [hdv]
        simp only [Nat.mul_comm, Nat.mul_left_comm, Nat.mul_assoc]
theorem oTT_one (w : gWf G) (hsh : zs sh 4 = 16) {Wn Cn Pn : Nat → Nat} (h : ∀ p, p < 768 → 16 ^ (p / 64) ∣ Wn p) (h2 : ∀ p, p < 768 → Wn p ≠ 0 → p / 64 < G 2) : oTT G sh (fun _ => 0) (fun _ => 1) Wn Cn Pn = zs Cn 10 + zs Wn 768 := by
  unfold oTT
  have e1 : zs (fun s => 0 * Pn s) 12 = 0 := zs_zero (fun k _ => Nat.zero_mul _)
  have e2 : zs (fun e => 1 * Cn e) 10 = zs Cn 10 := zs_cong (fun k _ => Nat.one_mul _)
  have e3 : zs (fun p => Wn p / 16 ^ (p / 64) * cc G sh (fun _ => 0) (fun _ => 1) (p / 64 + 1) (p % 64)) 768 = zs Wn 768 := by
    apply zs_cong
    intro p hp
    by_cases hz : Wn p = 0
    · rw [hz, Nat.zero_div, Nat.zero_mul]
    · rw [cc_one w hsh _ _ _ (Nat.le_refl _) (h2 p hp hz)]
      exact Nat.div_mul_cancel (h p hp)
  show zs (fun s => 0 * Pn s) 12 + zs (fun e => 1 * Cn e) 10 + zs (fun p => Wn p / 16 ^ (p / 64) * cc G sh (fun _ => 0) (fun _ => 1) (p / 64 + 1) (p % 64)) 768 = _
  rw [e1, e2, e3, Nat.zero_add]
end
section
variable {sc : fSt} {q : Nat} {G : Nat → Nat}
theorem pass_inv (X : rHou sc 0 q G) (w : gWf G) {k s g : Nat} (hk : k < G 3) (hs : s < G 2) (hg : g < 64) {TT : (Nat → Nat) → (Nat → Nat) → Nat} (hTT : TT (fun _ => 0) (fun _ => 1) < 2 ^ 60) {Wn : Nat → Nat} {t : pT} (I : oInv G (gsx G (k + 1)) TT Wn t) :
    ∃ t' Wn', f_X4_passOn 0 (nI k) (nI s) (nI g) (oQ sc t) = some ((), oQ sc t') ∧ oInv G (gsx G (k + 1)) TT Wn' t' ∧ t'.2.2.2 = t.2.2.2 ∧ Wn' (s * 64 + g) = 0 ∧ ∀ p, 64 * s ≤ p → p ≠ s * 64 + g → Wn' p = Wn p := by
  have w1 := w.1
  have hsx := gsx_16 w (show k + 1 ≤ G 3 by omega)
  obtain ⟨Cn, Pn, i1, i2, i3, i4, i5, i6⟩ := I
  have hp0 : s * 64 + g < 768 := by omega
  have hq64 : (s * 64 + g) / 64 = s := by omega
  have hq63 : (s * 64 + g) % 64 = g := by omega
  have hb : Wn (s * 64 + g) < 2 ^ 60 := by
    have := i6 (fun _ => 0) (fun _ => 1)
    rw [oTT_one w hsx i4 i5] at this
    have := zs_part Wn hp0
    omega
  have hsl := gsl_le w hs
  have hgk := gkil_lt w hs hg
  have htn : ∀ d, d < 4 → gnx G s d (gkil G s g) ≤ s := fun d hd => gnx_le w hs hd _
  obtain ⟨u, hu⟩ := i4 _ hp0
  rw [hq64] at hu
  have hpass := x_passOn X w hk hs hg hb t (i1 _ hp0)
  rw [hu] at hpass hb
  have hW0 : ∀ p, p < 768 → 16 ^ (p / 64) ∣ (if p = s * 64 + g then 0 else Wn p) := by
    intro p hp
    split
    · exact Nat.dvd_zero _
    · exact i4 p hp
  have hdx : ∀ d, d < 4 → gnx G s d (gkil G s g) ≠ 0 → gnx G s d (gkil G s g) ≤ 12 ∧ 16 ^ (gnx G s d (gkil G s g) - 1) ∣ 16 ^ s * u / 16 := by
    intro d hd hz
    have ht := htn d hd
    refine ⟨by omega, ?_⟩
    obtain ⟨m, hm⟩ : ∃ m, s = m + 1 := ⟨s - 1, by omega⟩
    have em : 16 ^ s * u / 16 = 16 ^ m * u := by rw [hm, Nat.pow_succ, Nat.mul_comm (16 ^ m) 16, Nat.mul_assoc, Nat.mul_div_cancel_left _ (by omega)]
    rw [em]
    exact Nat.dvd_trans (Nat.pow_dvd_pow 16 (show gnx G s d (gkil G s g) - 1 ≤ m by omega)) (Nat.dvd_mul_right _ _)
  refine ⟨_, wsn (fun d => gnx G s d (gkil G s g)) (gsx G (k + 1)) (gkil G s g) (16 ^ s * u / 16) (fun p => if p = s * 64 + g then 0 else Wn p) 4, hpass, ⟨fun e => if e = gsl G s then Cn (gsl G s) + (if zs (fun d => if gnx G s d (gkil G s g) = 0 then gsx G (k + 1) d else 0) 4 = 16 then 16 ^ s * u else 16 ^ s * u / 16 * zs (fun d => if gnx G s d (gkil G s g) = 0 then gsx G (k + 1) d else 0) 4) else Cn e, fun j => if j = s then Pn s + 16 ^ s * u else Pn j, ?_, ?_, ?_, ?_, ?_, ?_⟩, rfl, ?_, ?_⟩
  · show ∀ p, p < 768 → wst (fun d => gnx G s d (gkil G s g)) (gsx G (k + 1)) (gkil G s g) (16 ^ s * u / 16) (vp_updL t.1 (s * 64 + g) (lN 0)) 4 p = lN (wsn (fun d => gnx G s d (gkil G s g)) (gsx G (k + 1)) (gkil G s g) (16 ^ s * u / 16) (fun p => if p = s * 64 + g then 0 else Wn p) 4 p)
    refine wst_n ?_ hgk 4 ?_
    · intro p hp
      rw [updL_at]
      by_cases hpq : p = s * 64 + g
      · rw [if_pos hpq, if_pos hpq]
      · rw [if_neg hpq, if_neg hpq]; exact i1 p hp
    · intro d hd
      show gnx G s d (gkil G s g) ≤ 12
      have := htn d hd
      omega
  · intro e he
    simp only [updL_at]
    by_cases heq : e = gsl G s
    · rw [if_pos heq, if_pos heq, i2 _ (by omega), lN_add]
    · rw [if_neg heq, if_neg heq]; exact i2 e he
  · intro j hj
    simp only [updL_at]
    by_cases heq : j = s
    · rw [if_pos heq, if_pos heq, i3 _ (by omega), lN_add]
    · rw [if_neg heq, if_neg heq]; exact i3 j hj
  · exact (wsn_sum (fun _ => 0) hgk hW0 4 hdx).1
  · intro p hp hne
    by_cases hex : ∃ d, d < 4 ∧ gnx G s d (gkil G s g) ≠ 0 ∧ p = (gnx G s d (gkil G s g) - 1) * 64 + gkil G s g
    · obtain ⟨d, hd, hz, rfl⟩ := hex
      have := htn d hd
      omega
    · rw [wsn_sup 4 p (fun d hd hz he => hex ⟨d, hd, hz, he⟩)] at hne
      by_cases hpq : p = s * 64 + g
      · rw [if_pos hpq] at hne; exact absurd rfl hne
      · rw [if_neg hpq] at hne; exact i5 p hp hne
  · intro a b
    rw [← i6 a b]
    unfold oTT
    have hs2 := (wsn_sum (sh := gsx G (k + 1)) (fun p => cc G (gsx G (k + 1)) a (fun s => b (gsl G s)) (p / 64 + 1) (p % 64)) hgk hW0 4 hdx).2
    rw [hs2]
    have hz := zs_upd (fun p => Wn p / 16 ^ (p / 64) * cc G (gsx G (k + 1)) a (fun s => b (gsl G s)) (p / 64 + 1) (p % 64)) 0 hp0
    have hc : zs (fun p => (if p = s * 64 + g then 0 else Wn p) / 16 ^ (p / 64) * cc G (gsx G (k + 1)) a (fun s => b (gsl G s)) (p / 64 + 1) (p % 64)) 768 = zs (fun p => if p = s * 64 + g then 0 else Wn p / 16 ^ (p / 64) * cc G (gsx G (k + 1)) a (fun s => b (gsl G s)) (p / 64 + 1) (p % 64)) 768 := by
      apply zs_cong
      intro p hp
      split
      · rw [Nat.zero_div, Nat.zero_mul]
      · rfl
    rw [hc]
    rw [hq64, hq63, hu, Nat.mul_div_cancel_left _ (Nat.pow_pos (by omega))] at hz
    have hpe := pass_eq (a := a) (b := fun s => b (gsl G s)) (g := g) (u := u) w hsx hs
    have hl : zs (fun d => if gnx G s d (gkil G s g) = 0 then 0 else 16 ^ s * u / 16 * gsx G (k + 1) d / 16 ^ (gnx G s d (gkil G s g) - 1) * cc G (gsx G (k + 1)) a (fun s => b (gsl G s)) (((gnx G s d (gkil G s g) - 1) * 64 + gkil G s g) / 64 + 1) (((gnx G s d (gkil G s g) - 1) * 64 + gkil G s g) % 64)) 4 = zs (fun d => if gnx G s d (gkil G s g) = 0 then 0 else 16 ^ s * u / 16 * gsx G (k + 1) d / 16 ^ (gnx G s d (gkil G s g) - 1) * cc G (gsx G (k + 1)) a (fun s => b (gsl G s)) (gnx G s d (gkil G s g)) (gkil G s g)) 4 := by
      apply zs_cong
      intro d hd
      by_cases h0 : gnx G s d (gkil G s g) = 0
      · rw [if_pos h0, if_pos h0]
      · rw [if_neg h0, if_neg h0, show ((gnx G s d (gkil G s g) - 1) * 64 + gkil G s g) / 64 + 1 = gnx G s d (gkil G s g) by omega, show ((gnx G s d (gkil G s g) - 1) * 64 + gkil G s g) % 64 = gkil G s g by omega]
    rw [hl]
    have hC := zs_upd (fun e => b e * Cn e) (b (gsl G s) * (Cn (gsl G s) + (if zs (fun d => if gnx G s d (gkil G s g) = 0 then gsx G (k + 1) d else 0) 4 = 16 then 16 ^ s * u else 16 ^ s * u / 16 * zs (fun d => if gnx G s d (gkil G s g) = 0 then gsx G (k + 1) d else 0) 4))) (show gsl G s < 10 by omega)
    have hP := zs_upd (fun j => a j * Pn j) (a s * (Pn s + 16 ^ s * u)) (show s < 12 by omega)
    have hC2 : zs (fun e => b e * (if e = gsl G s then Cn (gsl G s) + (if zs (fun d => if gnx G s d (gkil G s g) = 0 then gsx G (k + 1) d else 0) 4 = 16 then 16 ^ s * u else 16 ^ s * u / 16 * zs (fun d => if gnx G s d (gkil G s g) = 0 then gsx G (k + 1) d else 0) 4) else Cn e)) 10 = zs (fun e => if e = gsl G s then b (gsl G s) * (Cn (gsl G s) + (if zs (fun d => if gnx G s d (gkil G s g) = 0 then gsx G (k + 1) d else 0) 4 = 16 then 16 ^ s * u else 16 ^ s * u / 16 * zs (fun d => if gnx G s d (gkil G s g) = 0 then gsx G (k + 1) d else 0) 4)) else b e * Cn e) 10 := by
      apply zs_cong
      intro e he
      by_cases heq : e = gsl G s
      · rw [if_pos heq, if_pos heq, heq]
      · rw [if_neg heq, if_neg heq]
    have hP2 : zs (fun j => a j * (if j = s then Pn s + 16 ^ s * u else Pn j)) 12 = zs (fun j => if j = s then a s * (Pn s + 16 ^ s * u) else a j * Pn j) 12 := by
      apply zs_cong
      intro j hj
      by_cases heq : j = s
      · rw [if_pos heq, if_pos heq, heq]
      · rw [if_neg heq, if_neg heq]
    rw [hC2, hP2]
    generalize (if zs (fun d => if gnx G s d (gkil G s g) = 0 then gsx G (k + 1) d else 0) 4 = 16 then 16 ^ s * u else 16 ^ s * u / 16 * zs (fun d => if gnx G s d (gkil G s g) = 0 then gsx G (k + 1) d else 0) 4) = cu at *
    generalize zs (fun e => if e = gsl G s then b (gsl G s) * (Cn (gsl G s) + cu) else b e * Cn e) 10 = Z1 at *
    generalize zs (fun j => if j = s then a s * (Pn s + 16 ^ s * u) else a j * Pn j) 12 = Z2 at *
    rw [Nat.mul_add] at hC hP
    omega
  · rw [wsn_sup 4 _ (fun d hd hz he => by have := htn d hd; omega), if_pos rfl]
  · intro p hp hpq
    rw [wsn_sup 4 _ (fun d hd hz he => by have := htn d hd; omega), if_neg hpq]
end
