/-! layer 2: the odds as weights: the coefficient of a place, and the sum over the list of curtains -/
def oc (G sh a b : Nat → Nat) : Nat → Nat → Nat → Nat
  | 0, _, _ => 0
  | n + 1, sp, g => if sp = 0 then 0 else
      a (sp - 1) * 16 ^ (sp - 1) + if sp = 1 then b 0 else
        zs (fun d => sh d * (if gnx G (sp - 1) d (gkil G (sp - 1) g) = 0 then b (sp - 1) * 16 ^ (sp - 2) else 16 ^ (sp - 1 - gnx G (sp - 1) d (gkil G (sp - 1) g)) * oc G sh a b n (gnx G (sp - 1) d (gkil G (sp - 1) g)) (gkil G (sp - 1) g))) 4
def cc (G sh a b : Nat → Nat) (sp g : Nat) : Nat := oc G sh a b 12 sp g
section
variable {G sh a b : Nat → Nat}
theorem oc_fuel (w : gWf G) : ∀ n m sp g, sp ≤ G 2 → sp ≤ n → sp ≤ m → oc G sh a b n sp g = oc G sh a b m sp g := by
  intro n
  induction n with
  | zero =>
    intro m sp g _ h _
    have : sp = 0 := by omega
    subst this
    cases m with
    | zero => rfl
    | succ m => unfold oc; rfl
  | succ n ih =>
    intro m sp g hs h1 h2
    cases m with
    | zero =>
      have : sp = 0 := by omega
      subst this
      unfold oc; rfl
    | succ m =>
      unfold oc
      by_cases h0 : sp = 0
      · rw [if_pos h0, if_pos h0]
      · rw [if_neg h0, if_neg h0]
        by_cases h3 : sp = 1
        · rw [if_pos h3, if_pos h3]
        · rw [if_neg h3, if_neg h3]
          congr 1
          apply zs_cong
          intro d hd
          have ht := gnx_le w (show sp - 1 < G 2 by omega) hd (gkil G (sp - 1) g)
          by_cases hz : gnx G (sp - 1) d (gkil G (sp - 1) g) = 0
          · rw [if_pos hz, if_pos hz]
          · rw [if_neg hz, if_neg hz, ih m _ _ (by omega) (by omega) (by omega)]
theorem cc_0 (g : Nat) : cc G sh a b 0 g = 0 := by
  unfold cc oc
  rfl
theorem cc_s (w : gWf G) {s g : Nat} (hs : s < G 2) : cc G sh a b (s + 1) g = a s * 16 ^ s + if s = 0 then b 0 else zs (fun d => sh d * (if gnx G s d (gkil G s g) = 0 then b s * 16 ^ (s - 1) else 16 ^ (s - gnx G s d (gkil G s g)) * cc G sh a b (gnx G s d (gkil G s g)) (gkil G s g))) 4 := by
  have w1 := w.1
  unfold cc
  rw [oc_fuel w 12 13 (s + 1) g (by omega) (by omega) (by omega)]
  rw [oc]
  rw [if_neg (by omega)]
  simp only [Nat.add_sub_cancel]
  by_cases h0 : s = 0
  · subst h0; rfl
  · rw [if_neg h0, if_neg (by omega)]
    rfl
end
def gLn (G sx : Nat → Nat) : Nat → Nat → Nat → Nat → Nat → List (Nat × Nat × Nat)
  | 0, _, _, _, _ => []
  | n + 1, s, g, ah, w => if zs (fun d => if gnx G s d (gkil G s g) = 0 then 1 else 0) 4 = 4 then [(s, ah ||| 2 ^ s, w)] else
      (List.range 4).flatMap fun d => if gag (fun d => gnx G s d (gkil G s g)) d 4 then [] else
        if gnx G s d (gkil G s g) = 0 then [(s, ah ||| 2 ^ s, w / 16 * gal (fun d => gnx G s d (gkil G s g)) sx d 4)]
        else gLn G sx n (gnx G s d (gkil G s g) - 1) (gkil G s g) (ah ||| 2 ^ s) (w / 16 * gal (fun d => gnx G s d (gkil G s g)) sx d 4)
def lNc (c : Nat × Nat × Nat) : cT := (c.1, c.2.1, lN c.2.2)
theorem gal_le {ts sx : Nat → Nat} {d : Nat} : gal ts sx d 4 ≤ zs sx 4 := by
  unfold gal
  have h : ∀ n, zs (fun o => if ts o = ts d then sx o else 0) n ≤ zs sx n := by
    intro n
    induction n with
    | zero => exact Nat.le_refl _
    | succ n ih =>
      rw [zs_s, zs_s]
      split <;> omega
  exact h 4
theorem gLs_n {G sx : Nat → Nat} (hsx : zs sx 4 = 16) : ∀ n s g ah w, w < 2 ^ 60 → gLs G sx n s g ah (lN w) = (gLn G sx n s g ah w).map lNc := by
  intro n
  induction n with
  | zero => intro s g ah w _; rfl
  | succ n ih =>
    intro s g ah w hw
    unfold gLs gLn
    by_cases hall : zs (fun d => if gnx G s d (gkil G s g) = 0 then 1 else 0) 4 = 4
    · rw [if_pos hall, if_pos hall]
      rfl
    · rw [if_neg hall, if_neg hall, List.map_flatMap]
      congr 1
      funext d
      have hal := gal_le (ts := fun d => gnx G s d (gkil G s g)) (sx := sx) (d := d)
      rw [hsx] at hal
      have e16 : lN w / 16 = lN (w / 16) := pk_lDiv (b := 16) (by omega) (by omega) (by omega)
      rw [e16, lN_mul]
      have hp : w / 16 * gal (fun d => gnx G s d (gkil G s g)) sx d 4 < 2 ^ 60 := by
        have h1 : w / 16 * gal (fun d => gnx G s d (gkil G s g)) sx d 4 ≤ w / 16 * 16 := Nat.mul_le_mul_left _ hal
        have h2 := Nat.div_mul_le_self w 16
        omega
      cases gag (fun d => gnx G s d (gkil G s g)) d 4
      · by_cases hz : gnx G s d (gkil G s g) = 0
        · simp only [hz, if_true, Bool.false_eq_true, if_false, List.map_cons, List.map_nil]
          rfl
        · simp only [hz, Bool.false_eq_true, if_false]
          exact ih _ _ _ _ hp
      · simp
def lsum (f : Nat → Nat → Nat) (L : List (Nat × Nat × Nat)) : Nat := (L.map fun c => c.2.2 * f c.1 c.2.1).sum
theorem lsum_nil (f : Nat → Nat → Nat) : lsum f [] = 0 := rfl
theorem lsum_cons (f : Nat → Nat → Nat) (c : Nat × Nat × Nat) (L : List (Nat × Nat × Nat)) : lsum f (c :: L) = c.2.2 * f c.1 c.2.1 + lsum f L := by simp [lsum]
theorem lsum_app (f : Nat → Nat → Nat) (L M : List (Nat × Nat × Nat)) : lsum f (L ++ M) = lsum f L + lsum f M := by simp [lsum]
theorem lsum_fm (f : Nat → Nat → Nat) (F : Nat → List (Nat × Nat × Nat)) : ∀ n, lsum f ((List.range n).flatMap F) = zs (fun d => lsum f (F d)) n := by
  intro n
  induction n with
  | zero => rfl
  | succ n ih =>
    rw [List.range_succ, List.flatMap_append, lsum_app, ih, zs_s]
    simp
def asum (a : Nat → Nat) (se : Nat) : Nat := zs (fun k => if se.testBit k then a k else 0) 12
theorem asum_add (a : Nat → Nat) {ah s : Nat} (hs : s < 12) (h : ah.testBit s = false) : asum a (ah ||| 2 ^ s) = asum a ah + a s := by
  have key : ∀ n, zs (fun k => if (ah ||| 2 ^ s).testBit k then a k else 0) n = zs (fun k => if ah.testBit k then a k else 0) n + if s < n then a s else 0 := by
    intro n
    induction n with
    | zero => simp [zs]
    | succ n ih =>
      rw [zs_s, zs_s, ih, Nat.testBit_or, Nat.testBit_two_pow]
      by_cases hn : s = n
      · subst hn
        simp [h]
      · by_cases hl : s < n
        · simp [hn, hl, show s < n + 1 by omega]
          omega
        · simp [hn, hl, show ¬ s < n + 1 by omega]
  unfold asum
  rw [key 12, if_pos hs]
theorem grp4 (ts sx V : Nat → Nat) : zs (fun d => if gag ts d 4 then 0 else gal ts sx d 4 * V (ts d)) 4 = zs (fun d => sx d * V (ts d)) 4 := by
  simp only [zs, gag, gal, Nat.zero_add, Bool.false_or, Nat.lt_irrefl, decide_false, Bool.and_false, Bool.or_false, Nat.not_lt_zero, Nat.reduceLT, decide_true, Bool.and_true, if_true]
  have e10 : (ts 1 = ts 0) = (ts 0 = ts 1) := propext eq_comm
  have e20 : (ts 2 = ts 0) = (ts 0 = ts 2) := propext eq_comm
  have e30 : (ts 3 = ts 0) = (ts 0 = ts 3) := propext eq_comm
  have e21 : (ts 2 = ts 1) = (ts 1 = ts 2) := propext eq_comm
  have e31 : (ts 3 = ts 1) = (ts 1 = ts 3) := propext eq_comm
  have e32 : (ts 3 = ts 2) = (ts 2 = ts 3) := propext eq_comm
  simp only [e10, e20, e30, e21, e31, e32]
  generalize ts 0 = t0
  generalize ts 1 = t1
  generalize ts 2 = t2
  generalize ts 3 = t3
  by_cases h01 : t0 = t1 <;> by_cases h02 : t0 = t2 <;> by_cases h03 : t0 = t3 <;> by_cases h12 : t1 = t2 <;> by_cases h13 : t1 = t3 <;> by_cases h23 : t2 = t3 <;> first | (exfalso; omega) | (simp (disch := omega) only [if_pos, if_neg, decide_eq_true, decide_eq_false, if_true, if_false, Bool.or_true, Bool.true_or, Bool.or_false, Bool.false_or, Bool.false_eq_true, Nat.add_zero, Nat.zero_add, Nat.add_mul]; try subst_vars; try omega)
section
variable {G sx a b : Nat → Nat}
theorem fin4 {s0 s1 s2 s3 P u A B x0 x1 x2 x3 : Nat} (h : s0 + s1 + s2 + s3 = 16) : s0 * (P * (A + B) + u * x0) + s1 * (P * (A + B) + u * x1) + s2 * (P * (A + B) + u * x2) + s3 * (P * (A + B) + u * x3) = 16 * P * A + (16 * P * B + u * (s0 * x0 + s1 * x1 + s2 * x2 + s3 * x3)) := by
  have e : ∀ s x, s * (P * (A + B) + u * x) = s * (P * (A + B)) + u * (s * x) := fun s x => by rw [Nat.mul_add, Nat.mul_left_comm s u x]
  have e2 : s0 * (P * (A + B)) + s1 * (P * (A + B)) + s2 * (P * (A + B)) + s3 * (P * (A + B)) = 16 * (P * (A + B)) := by rw [← Nat.add_mul, ← Nat.add_mul, ← Nat.add_mul, h]
  have e3 : 16 * (P * (A + B)) = 16 * P * A + 16 * P * B := by rw [← Nat.mul_assoc, Nat.mul_add]
  rw [e, e, e, e, Nat.mul_add u, Nat.mul_add u, Nat.mul_add u]
  omega
theorem lsum_gLn (w : gWf G) (hsx : zs sx 4 = 16) : ∀ n s g ah wt, s < G 2 → s < n → 16 ^ s ∣ wt → (∀ k, k ≤ s → ah.testBit k = false) → lsum (fun s se => asum a se + b s) (gLn G sx n s g ah wt) = wt * asum a ah + wt / 16 ^ s * cc G sx a b (s + 1) g := by
  intro n
  induction n with
  | zero => intro s g ah wt _ h; omega
  | succ n ih =>
    intro s g ah wt hs hsn hdiv hah
    have w1 := w.1
    obtain ⟨u, rfl⟩ := hdiv
    have hpos : 0 < 16 ^ s := Nat.pow_pos (by omega)
    rw [Nat.mul_div_cancel_left _ hpos, cc_s w hs]
    have has := asum_add a (show s < 12 by omega) (hah s (Nat.le_refl s))
    have h4 : sx 0 + sx 1 + sx 2 + sx 3 = 16 := by simpa [zs] using hsx
    have htn : ∀ d, d < 4 → gnx G s d (gkil G s g) ≤ s := fun d hd => gnx_le w hs hd _
    unfold gLn
    by_cases hall : zs (fun d => if gnx G s d (gkil G s g) = 0 then 1 else 0) 4 = 4
    · rw [if_pos hall]
      have hz : ∀ d, d < 4 → gnx G s d (gkil G s g) = 0 := by
        simp only [zs, Nat.zero_add] at hall
        intro d hd
        have k0 : (if gnx G s 0 (gkil G s g) = 0 then 1 else 0) ≤ 1 := by split <;> omega
        have k1 : (if gnx G s 1 (gkil G s g) = 0 then 1 else 0) ≤ 1 := by split <;> omega
        have k2 : (if gnx G s 2 (gkil G s g) = 0 then 1 else 0) ≤ 1 := by split <;> omega
        have k3 : (if gnx G s 3 (gkil G s g) = 0 then 1 else 0) ≤ 1 := by split <;> omega
        rcases (show d = 0 ∨ d = 1 ∨ d = 2 ∨ d = 3 by omega) with rfl | rfl | rfl | rfl
        · by_cases h : gnx G s 0 (gkil G s g) = 0
          · exact h
          · rw [if_neg h] at hall; omega
        · by_cases h : gnx G s 1 (gkil G s g) = 0
          · exact h
          · rw [if_neg h] at hall; omega
        · by_cases h : gnx G s 2 (gkil G s g) = 0
          · exact h
          · rw [if_neg h] at hall; omega
        · by_cases h : gnx G s 3 (gkil G s g) = 0
          · exact h
          · rw [if_neg h] at hall; omega
      rw [lsum_cons, lsum_nil, has]
      have hX : (if s = 0 then b 0 else zs (fun d => sx d * (if gnx G s d (gkil G s g) = 0 then b s * 16 ^ (s - 1) else 16 ^ (s - gnx G s d (gkil G s g)) * cc G sx a b (gnx G s d (gkil G s g)) (gkil G s g))) 4) = b s * 16 ^ s := by
        by_cases h0 : s = 0
        · subst h0; simp
        · rw [if_neg h0]
          simp only [zs, Nat.zero_add, hz 0 (by omega), hz 1 (by omega), hz 2 (by omega), hz 3 (by omega), if_true]
          rw [← Nat.add_mul, ← Nat.add_mul, ← Nat.add_mul, h4]
          obtain ⟨k, rfl⟩ : ∃ k, s = k + 1 := ⟨s - 1, by omega⟩
          rw [Nat.add_sub_cancel, Nat.pow_succ]
          simp only [Nat.mul_comm, Nat.mul_left_comm]
      rw [hX]
      simp only [Nat.mul_add, Nat.add_zero]
      simp only [Nat.mul_comm, Nat.mul_left_comm, Nat.add_assoc]
    · rw [if_neg hall]
      have h0 : s ≠ 0 := by
        intro h0
        subst h0
        apply hall
        have hz : ∀ d, d < 4 → gnx G 0 d (gkil G 0 g) = 0 := fun d hd => by have := htn d hd; omega
        simp [zs, hz]
      obtain ⟨k, rfl⟩ : ∃ k, s = k + 1 := ⟨s - 1, by omega⟩
      rw [if_neg h0, Nat.add_sub_cancel]
      have e16 : 16 ^ (k + 1) * u / 16 = 16 ^ k * u := by
        rw [Nat.pow_succ, Nat.mul_comm (16 ^ k) 16, Nat.mul_assoc, Nat.mul_div_cancel_left _ (by omega)]
      rw [e16, lsum_fm]
      have hah' : ∀ j, j ≤ k → (ah ||| 2 ^ (k + 1)).testBit j = false := by
        intro j hj
        rw [Nat.testBit_or, hah j (by omega), Nat.testBit_two_pow]
        simp
        omega
      -- the value of a way on
      have hV : ∀ d, d < 4 → lsum (fun s se => asum a se + b s) (if gag (fun d => gnx G (k + 1) d (gkil G (k + 1) g)) d 4 then [] else
          if gnx G (k + 1) d (gkil G (k + 1) g) = 0 then [(k + 1, ah ||| 2 ^ (k + 1), 16 ^ k * u * gal (fun d => gnx G (k + 1) d (gkil G (k + 1) g)) sx d 4)]
          else gLn G sx n (gnx G (k + 1) d (gkil G (k + 1) g) - 1) (gkil G (k + 1) g) (ah ||| 2 ^ (k + 1)) (16 ^ k * u * gal (fun d => gnx G (k + 1) d (gkil G (k + 1) g)) sx d 4)) =
          if gag (fun d => gnx G (k + 1) d (gkil G (k + 1) g)) d 4 then 0 else gal (fun d => gnx G (k + 1) d (gkil G (k + 1) g)) sx d 4 * (16 ^ k * u * asum a (ah ||| 2 ^ (k + 1)) + u * (if gnx G (k + 1) d (gkil G (k + 1) g) = 0 then b (k + 1) * 16 ^ k else 16 ^ (k + 1 - gnx G (k + 1) d (gkil G (k + 1) g)) * cc G sx a b (gnx G (k + 1) d (gkil G (k + 1) g)) (gkil G (k + 1) g))) := by
        intro d hd
        have ht := htn d hd
        generalize gal (fun d => gnx G (k + 1) d (gkil G (k + 1) g)) sx d 4 = al
        cases gag (fun d => gnx G (k + 1) d (gkil G (k + 1) g)) d 4
        · simp only [Bool.false_eq_true, if_false]
          cases hv : gnx G (k + 1) d (gkil G (k + 1) g) with
          | zero =>
            simp only [if_true, lsum_cons, lsum_nil, Nat.add_zero]
            simp only [Nat.mul_add, Nat.mul_comm, Nat.mul_left_comm, Nat.mul_assoc]
          | succ t =>
            rw [hv] at ht
            rw [if_neg (by omega), if_neg (by omega), Nat.add_sub_cancel]
            have hd2 : 16 ^ t ∣ 16 ^ k * u * al := by
              obtain ⟨j, rfl⟩ : ∃ j, k = t + j := ⟨k - t, by omega⟩
              rw [Nat.pow_add, Nat.mul_assoc, Nat.mul_assoc]
              exact Nat.dvd_mul_right _ _
            rw [ih t (gkil G (k + 1) g) _ _ (by omega) (by omega) hd2 (fun j hj => hah' j (by omega))]
            have hdv : 16 ^ k * u * al / 16 ^ t = 16 ^ (k + 1 - (t + 1)) * u * al := by
              obtain ⟨j, rfl⟩ : ∃ j, k = t + j := ⟨k - t, by omega⟩
              rw [show t + j + 1 - (t + 1) = j by omega, Nat.pow_add, Nat.mul_assoc, Nat.mul_assoc, Nat.mul_div_cancel_left _ (Nat.pow_pos (by omega)), Nat.mul_assoc]
            rw [hdv]
            simp only [Nat.mul_add, Nat.mul_comm, Nat.mul_left_comm, Nat.mul_assoc]
        · simp [lsum_nil]
      rw [zs_cong hV]
      have hg := grp4 (fun d => gnx G (k + 1) d (gkil G (k + 1) g)) sx (fun t => 16 ^ k * u * asum a (ah ||| 2 ^ (k + 1)) + u * (if t = 0 then b (k + 1) * 16 ^ k else 16 ^ (k + 1 - t) * cc G sx a b t (gkil G (k + 1) g)))
      refine Eq.trans hg ?_
      rw [has]
      simp only [zs, Nat.zero_add]
      generalize (if gnx G (k + 1) 0 (gkil G (k + 1) g) = 0 then b (k + 1) * 16 ^ k else 16 ^ (k + 1 - gnx G (k + 1) 0 (gkil G (k + 1) g)) * cc G sx a b (gnx G (k + 1) 0 (gkil G (k + 1) g)) (gkil G (k + 1) g)) = x0
      generalize (if gnx G (k + 1) 1 (gkil G (k + 1) g) = 0 then b (k + 1) * 16 ^ k else 16 ^ (k + 1 - gnx G (k + 1) 1 (gkil G (k + 1) g)) * cc G sx a b (gnx G (k + 1) 1 (gkil G (k + 1) g)) (gkil G (k + 1) g)) = x1
      generalize (if gnx G (k + 1) 2 (gkil G (k + 1) g) = 0 then b (k + 1) * 16 ^ k else 16 ^ (k + 1 - gnx G (k + 1) 2 (gkil G (k + 1) g)) * cc G sx a b (gnx G (k + 1) 2 (gkil G (k + 1) g)) (gkil G (k + 1) g)) = x2
      generalize (if gnx G (k + 1) 3 (gkil G (k + 1) g) = 0 then b (k + 1) * 16 ^ k else 16 ^ (k + 1 - gnx G (k + 1) 3 (gkil G (k + 1) g)) * cc G sx a b (gnx G (k + 1) 3 (gkil G (k + 1) g)) (gkil G (k + 1) g)) = x3
      have hp : 16 ^ (k + 1) * u = 16 * (16 ^ k * u) := by rw [Nat.pow_succ, Nat.mul_comm (16 ^ k) 16, Nat.mul_assoc]
      have hq : u * (a (k + 1) * 16 ^ (k + 1)) = 16 * (16 ^ k * u) * a (k + 1) := by
        rw [← hp, Nat.mul_comm (a (k + 1)), ← Nat.mul_assoc, Nat.mul_comm u]
      rw [hp, Nat.mul_add u, hq]
      exact fin4 h4
end
