/-! layer 2: rows of deeds; the relation made anew when a few of its parts change -/
theorem rOne_k {sc sc' sm sm' : fSt} (h : ∀ c, (c = 0 ∨ c = 2 ∨ c = 7 ∨ c = 8 ∨ c = 9) → ∀ i k, gI sc' c i k = gI sc c i k ∧ gL sc' c i k = gL sc c i k ∧ gA sc' c i k = gA sc c i k ∧ gB sc' c i k = gB sc c i k ∧ gP sc' c i k = gP sc c i k) (ea : gA sm' 12 0 5 = gA sm 12 0 5) (eb : gB sm' 12 0 7 = gB sm 12 0 7) {k q : Nat} {G : Nat → Nat} (H : rOne sc sm k q G) : rOne sc' sm' k q G := by
  have e2 := fun i k => (h 2 (by decide) i k).1
  have e2p := fun i k => (h 2 (by decide) i k).2.2.2.2
  have e0 := fun i k => (h 0 (by decide) i k).1
  have e0a := fun i k => (h 0 (by decide) i k).2.2.1
  have e7 := fun i k => (h 7 (by decide) i k).1
  have e7a := fun i k => (h 7 (by decide) i k).2.2.1
  have e7b := fun i k => (h 7 (by decide) i k).2.2.2.1
  have e9 := fun i k => (h 9 (by decide) i k).1
  have e9a := fun i k => (h 9 (by decide) i k).2.2.1
  obtain ⟨h1, h2, h3, h4, h5⟩ := H
  refine ⟨h1, ?_, ?_, ?_, ?_⟩
  · unfold rHou rStg rBok at *
    simp only [e2, e2p, e0, e0a, e7, e7a]
    exact h2
  · simp only [ea]
    exact h3
  · unfold rNam at *
    simp only [e7b, eb]
    exact h4
  · unfold rWk at *
    simp only [e2p, e9]
    rcases h5 with h5 | ⟨a, w, m, b1, b2, b3, b4, b5⟩
    · exact Or.inl h5
    · exact Or.inr ⟨a, w, m, b1, b2, b3, b4, rBod_e e9a _ _ _ _ _ _ b5⟩
theorem RX_mk {sc sc' sm sm' : fSt} (h : ∀ c, (c = 0 ∨ c = 2 ∨ c = 7 ∨ c = 8 ∨ c = 9) → ∀ i k, gI sc' c i k = gI sc c i k ∧ gL sc' c i k = gL sc c i k ∧ gA sc' c i k = gA sc c i k ∧ gB sc' c i k = gB sc c i k ∧ gP sc' c i k = gP sc c i k)
    (x9 : gI sc' 11 0 9 = gI sc 11 0 9) (g : gI sm' 12 0 23 = gI sm 12 0 23 ∧ gA sm' 12 0 1 = gA sm 12 0 1 ∧ gA sm' 12 0 2 = gA sm 12 0 2 ∧ gA sm' 12 0 5 = gA sm 12 0 5 ∧ gB sm' 12 0 3 = gB sm 12 0 3 ∧ gB sm' 12 0 7 = gB sm 12 0 7)
    (H : RX sc sm) (hF : rF sc' sm') (hQ : rQ sc' sm') (hP : rP sc' sm') (hS : rS sc' sm') (hC : rC sc' sm') (hW : rW sc' sm') (hO : rO sc') : RX sc' sm' := by
  obtain ⟨-, -, h4, -, -, -, -, -, n, qq, GG, s1, s2, s3, s4⟩ := H
  obtain ⟨g1, g2, g3, g4, g5, g6⟩ := g
  refine ⟨hF, hQ, ?_, hP, hS, hC, hW, hO, n, qq, GG, s1, by rw [x9]; exact s2, by rw [g1]; exact s3, fun k hk => rOne_k h g4 g6 (s4 k hk)⟩
  have e8 := fun i k => (h 8 (by decide) i k).1
  have e8b := fun i k => (h 8 (by decide) i k).2.2.2.1
  unfold rT at *
  simp only [e8, e8b, g2, g3, g5]
  exact h4
def wds (G : Nat → Nat) (e : Nat) : Nat → nT → List Nat → List (List Nat)
  | 0, _, _ => []
  | n + 1, x, p => (List.range 4).flatMap fun d => if tsn G x d = 0 then (if gsl G x.1 = e then [p ++ [d]] else []) else wds G e n (kidn G x (tsn G x d)) (p ++ [d])
def upB (b : Option (List Nat)) (w : List Nat) : Option (List Nat) := match b with
  | none => some w
  | some u => if w.length < u.length then some w else some u
section
variable {G : Nat → Nat}
theorem tsn_kid (w : gWf G) {x : nT} (hx : nok G x) {d : Nat} (hd : d < 4) (h : ¬ tsn G x d = 0) : nok G (kidn G x (tsn G x d)) ∧ (kidn G x (tsn G x d)).1 < x.1 ∧ tsn G x d ≤ x.1 :=
  have hm := (cht_iff (tsn G x) _ h 4).mpr ⟨d, hd, rfl⟩
  ⟨(kid_ok w hx hm).1, (kid_ok w hx hm).2, (cht_le w hx hm).2⟩
theorem wds_mem (e n : Nat) (x : nT) (p u : List Nat) : u ∈ wds G e (n + 1) x p ↔ ∃ d, d < 4 ∧ ((tsn G x d = 0 ∧ gsl G x.1 = e ∧ u = p ++ [d]) ∨ (¬ tsn G x d = 0 ∧ u ∈ wds G e n (kidn G x (tsn G x d)) (p ++ [d]))) := by
  have e0 : wds G e (n + 1) x p = (List.range 4).flatMap fun d => if tsn G x d = 0 then (if gsl G x.1 = e then [p ++ [d]] else []) else wds G e n (kidn G x (tsn G x d)) (p ++ [d]) := rfl
  rw [e0, List.mem_flatMap]
  constructor
  · rintro ⟨d, h1, h2⟩
    refine ⟨d, List.mem_range.mp h1, ?_⟩
    by_cases h0 : tsn G x d = 0
    · rw [if_pos h0] at h2
      by_cases he : gsl G x.1 = e
      · rw [if_pos he] at h2
        exact Or.inl ⟨h0, he, by simpa using h2⟩
      · rw [if_neg he] at h2
        exact absurd h2 (by simp)
    · rw [if_neg h0] at h2
      exact Or.inr ⟨h0, h2⟩
  · rintro ⟨d, h1, h2⟩
    refine ⟨d, List.mem_range.mpr h1, ?_⟩
    rcases h2 with ⟨h0, he, h3⟩ | ⟨h0, h3⟩
    · rw [if_pos h0, if_pos he, h3]
      simp
    · rw [if_neg h0]
      exact h3
theorem wds_len (w : gWf G) (e : Nat) : ∀ n x p, nok G x → ∀ u ∈ wds G e n x p, p.length + 1 ≤ u.length ∧ u.length ≤ p.length + x.1 + 1 := by
  intro n
  induction n with
  | zero => intro x p _ u h; exact absurd h (by simp [wds])
  | succ n ih =>
    intro x p hx u h
    obtain ⟨d, hd, h⟩ := (wds_mem e n x p u).mp h
    rcases h with ⟨-, -, rfl⟩ | ⟨h0, h⟩
    · rw [List.length_append, List.length_singleton]
      omega
    · obtain ⟨k1, k2, -⟩ := tsn_kid w hx hd h0
      have := ih _ _ k1 u h
      rw [List.length_append, List.length_singleton] at this
      omega
theorem pcn_add {a k : Nat} (hk : k < 12) (h : a.testBit k = false) : pcn (a ||| 2 ^ k) = pcn a + 1 := by
  have key : ∀ n, zs (fun j => ((a ||| 2 ^ k).testBit j).toNat) n = zs (fun j => (a.testBit j).toNat) n + if k < n then 1 else 0 := by
    intro n
    induction n with
    | zero => rfl
    | succ n ih =>
      rw [zs_s, zs_s, ih, Nat.testBit_or, Nat.testBit_two_pow]
      by_cases hn : k = n
      · subst hn
        rw [h, if_neg (by omega), if_pos (by omega)]
        simp
      · rw [decide_eq_false hn, Bool.or_false]
        by_cases h2 : k < n
        · rw [if_pos h2, if_pos (by omega)]; omega
        · rw [if_neg h2, if_neg (by omega)]
          rfl
  have := key 12
  rw [if_pos hk] at this
  exact this
/-- a word of so many deeds is a row that ends after so many scenes -/
theorem wds_sub (w : gWf G) (e : Nat) : ∀ n x p L, nok G x → ((∃ u, u ∈ wds G e n x p ∧ u.length = L) ↔ ∃ z, z ∈ sub G n x ∧ ovr G z = true ∧ gsl G z.1 = e ∧ pcn z.2.1 + p.length + 1 = L + pcn x.2.1) := by
  intro n
  induction n with
  | zero =>
    intro x p L _
    constructor
    · rintro ⟨u, h, -⟩; exact absurd h (by simp [wds])
    · rintro ⟨z, h, -⟩; exact absurd h (by simp [sub])
  | succ n ih =>
    intro x p L hx
    have w1 := w.1
    have hkp : ∀ d, d < 4 → ¬ tsn G x d = 0 → pcn (kidn G x (tsn G x d)).2.1 = pcn x.2.1 + 1 := by
      intro d hd h0
      obtain ⟨k1, k2, k3⟩ := tsn_kid w hx hd h0
      have hx1 := hx.1
      exact pcn_add (by omega) (hx.2.2.2.1 _ (by omega))
    constructor
    · rintro ⟨u, h, hL⟩
      obtain ⟨d, hd, h⟩ := (wds_mem e n x p u).mp h
      rcases h with ⟨h0, he, rfl⟩ | ⟨h0, h⟩
      · refine ⟨x, by unfold sub; simp, (gov_iff _ _).mpr ⟨d, hd, h0⟩, he, ?_⟩
        rw [List.length_append, List.length_singleton] at hL
        omega
      · obtain ⟨k1, k2, -⟩ := tsn_kid w hx hd h0
        obtain ⟨z, z1, z2, z3, z4⟩ := (ih _ (p ++ [d]) L k1).mp ⟨u, h, hL⟩
        rw [hkp d hd h0, List.length_append, List.length_singleton] at z4
        refine ⟨z, ?_, z2, z3, by omega⟩
        unfold sub
        refine List.mem_cons_of_mem _ (List.mem_flatMap.mpr ⟨_, ?_, z1⟩)
        unfold chd
        exact List.mem_map.mpr ⟨_, (cht_iff (tsn G x) _ h0 4).mpr ⟨d, hd, rfl⟩, rfl⟩
    · rintro ⟨z, z1, z2, z3, z4⟩
      unfold sub at z1
      rcases List.mem_cons.mp z1 with rfl | z1
      · obtain ⟨d, hd, h0⟩ := (gov_iff _ _).mp z2
        refine ⟨p ++ [d], (wds_mem e n z p _).mpr ⟨d, hd, Or.inl ⟨h0, z3, rfl⟩⟩, ?_⟩
        rw [List.length_append, List.length_singleton]
        omega
      · obtain ⟨c, hc, z1⟩ := List.mem_flatMap.mp z1
        unfold chd at hc
        obtain ⟨t, ht, rfl⟩ := List.mem_map.mp hc
        obtain ⟨d, hd, hdt⟩ := cht_mem _ _ _ ht
        have htp := cht_pos _ _ _ ht
        subst hdt
        have h0 : ¬ tsn G x d = 0 := by omega
        obtain ⟨k1, k2, -⟩ := tsn_kid w hx hd h0
        obtain ⟨u, u1, u2⟩ := (ih _ (p ++ [d]) L k1).mpr ⟨z, z1, z2, z3, by
          rw [hkp d hd h0, List.length_append, List.length_singleton]
          omega⟩
        exact ⟨u, (wds_mem e n x p u).mpr ⟨d, hd, Or.inr ⟨h0, u1⟩⟩, u2⟩
def agr (z y : nT) : Prop := ∀ i, y.1 ≤ i → z.2.1.testBit i = y.2.1.testBit i
theorem kid_bit {x : nT} {t i : Nat} : (kidn G x t).2.1.testBit i = (x.2.1.testBit i || decide (t - 1 = i)) := by
  show (x.2.1 ||| 2 ^ (t - 1)).testBit i = _
  rw [Nat.testBit_or, Nat.testBit_two_pow]
theorem sub_agr (w : gWf G) : ∀ n x, nok G x → ∀ z ∈ sub G n x, agr z x := by
  intro n
  induction n with
  | zero => intro x _ z h; exact absurd h (by simp [sub])
  | succ n ih =>
    intro x hx z h
    unfold sub at h
    rcases List.mem_cons.mp h with rfl | h
    · intro i _; rfl
    · obtain ⟨c, hc, hz⟩ := List.mem_flatMap.mp h
      unfold chd at hc
      obtain ⟨t, ht, rfl⟩ := List.mem_map.mp hc
      obtain ⟨k1, k2⟩ := kid_ok w hx ht
      intro i hi
      have k3 : t - 1 < x.1 := k2
      rw [ih _ k1 z hz i (show t - 1 ≤ i by omega), kid_bit, decide_eq_false (by omega), Bool.or_false]
theorem agr_sub (w : gWf G) : ∀ n x, nok G x → x.1 < n → ∀ y ∈ sub G n x, ∀ z ∈ sub G n x, agr z y → z ∈ sub G 13 y := by
  intro n
  induction n with
  | zero => intro x _ h; omega
  | succ n ih =>
    intro x hx hn y hy z hz ha
    have w1 := w.1
    have hx1 := hx.1
    have hyo := sub_ok w (n + 1) x hx y hy
    have hz0 := hz
    unfold sub at hy hz
    rcases List.mem_cons.mp hy with rfl | hy
    · rw [sub_fuel w 13 (n + 1) y hx (by omega) hn]
      exact hz0
    · obtain ⟨c, hc, hy⟩ := List.mem_flatMap.mp hy
      unfold chd at hc
      obtain ⟨t, ht, rfl⟩ := List.mem_map.mp hc
      obtain ⟨k1, k2⟩ := kid_ok w hx ht
      have k3 : t - 1 < x.1 := k2
      have htp := cht_pos _ _ _ ht
      have hay := sub_agr w n _ k1 y hy
      -- y's own bit lies at t - 1 or below
      have hyt : y.1 ≤ t - 1 := by
        refine Nat.le_of_not_lt (fun hlt => ?_)
        have h1 := hyo.2.2.2.1 (t - 1) hlt
        have h2 := hay (t - 1) (Nat.le_refl _)
        rw [h1, kid_bit, decide_eq_true rfl, Bool.or_true] at h2
        exact absurd h2 (by decide)
      have hzt : z.2.1.testBit (t - 1) = true := by
        rw [ha (t - 1) hyt, hay (t - 1) (Nat.le_refl _), kid_bit, decide_eq_true rfl, Bool.or_true]
      rcases List.mem_cons.mp hz with rfl | hz
      · rw [hx.2.2.2.1 (t - 1) k3] at hzt
        exact absurd hzt (by decide)
      · obtain ⟨c, hc, hz⟩ := List.mem_flatMap.mp hz
        unfold chd at hc
        obtain ⟨t', ht', rfl⟩ := List.mem_map.mp hc
        obtain ⟨j1, j2⟩ := kid_ok w hx ht'
        have j3 : t' - 1 < x.1 := j2
        have htp' := cht_pos _ _ _ ht'
        have haz := sub_agr w n _ j1 z hz
        have hzt' : z.2.1.testBit (t' - 1) = true := by
          rw [haz (t' - 1) (Nat.le_refl _), kid_bit, decide_eq_true rfl, Bool.or_true]
        by_cases heq : t = t'
        · subst heq
          exact ih _ k1 (by omega) y hy z hz ha
        · by_cases hlt : t' < t
          · have := haz (t - 1) (show t' - 1 ≤ t - 1 by omega)
            rw [hzt, kid_bit, hx.2.2.2.1 (t - 1) k3, decide_eq_false (by omega)] at this
            exact absurd this (by decide)
          · have h1 := ha (t' - 1) (by omega)
            rw [hzt', hay (t' - 1) (show t - 1 ≤ t' - 1 by omega), kid_bit, hx.2.2.2.1 (t' - 1) j3, decide_eq_false (by omega)] at h1
            exact absurd h1 (by decide)
theorem sub_tr : ∀ n x y, y ∈ sub G n x → ∀ m z, z ∈ sub G m y → ∃ k, z ∈ sub G k x := by
  intro n
  induction n with
  | zero => intro x y h; exact absurd h (by simp [sub])
  | succ n ih =>
    intro x y h m z hz
    unfold sub at h
    rcases List.mem_cons.mp h with rfl | h
    · exact ⟨m, hz⟩
    · obtain ⟨c, hc, hy⟩ := List.mem_flatMap.mp h
      obtain ⟨k, hk⟩ := ih c y hy m z hz
      refine ⟨k + 1, ?_⟩
      unfold sub
      exact List.mem_cons_of_mem _ (List.mem_flatMap.mpr ⟨c, hc, hk⟩)
theorem sub_up (w : gWf G) : ∀ n x, nok G x → x.1 < 13 → ∀ z ∈ sub G n x, z ∈ sub G 13 x := by
  have w1 := w.1
  have mono : ∀ n m x, n ≤ m → ∀ z ∈ sub G n x, z ∈ sub G m x := by
    intro n
    induction n with
    | zero => intro m x _ z h; exact absurd h (by simp [sub])
    | succ n ih =>
      intro m x hm z h
      obtain ⟨m, rfl⟩ : ∃ k, m = k + 1 := ⟨m - 1, by omega⟩
      unfold sub at h ⊢
      rcases List.mem_cons.mp h with rfl | h
      · simp
      · obtain ⟨c, hc, hz⟩ := List.mem_flatMap.mp h
        exact List.mem_cons_of_mem _ (List.mem_flatMap.mpr ⟨c, hc, ih m c (by omega) z hz⟩)
  intro n x hx h z hz
  by_cases hn : n ≤ 13
  · exact mono n 13 x hn z hz
  · rw [sub_fuel w 13 n x hx h (by omega)]
    exact hz
end
-- the first of the shortest
theorem upB_some : ∀ (L : List (List Nat)) (u0 : List Nat), (L.foldl upB (some u0) = some u0 ∧ ∀ v ∈ L, u0.length ≤ v.length) ∨ (∃ u, L.foldl upB (some u0) = some u ∧ u.length < u0.length ∧ (∀ v ∈ L, u.length ≤ v.length) ∧ L.find? (fun v => v.length == u.length) = some u) := by
  intro L
  induction L with
  | nil => intro u0; exact Or.inl ⟨rfl, fun v h => absurd h (by simp)⟩
  | cons w L ih =>
    intro u0
    rw [List.foldl_cons]
    by_cases hl : w.length < u0.length
    · have e : upB (some u0) w = some w := if_pos hl
      rw [e]
      rcases ih w with ⟨h1, h2⟩ | ⟨u, h1, h2, h3, h4⟩
      · refine Or.inr ⟨w, h1, hl, fun v hv => ?_, ?_⟩
        · rcases List.mem_cons.mp hv with rfl | hv
          · exact Nat.le_refl _
          · exact h2 v hv
        · rw [List.find?_cons]
          simp
      · refine Or.inr ⟨u, h1, by omega, fun v hv => ?_, ?_⟩
        · rcases List.mem_cons.mp hv with rfl | hv
          · omega
          · exact h3 v hv
        · rw [List.find?_cons]
          have : (w.length == u.length) = false := by
            rw [beq_eq_false_iff_ne]
            omega
          rw [this]
          exact h4
    · have e : upB (some u0) w = some u0 := if_neg hl
      rw [e]
      rcases ih u0 with ⟨h1, h2⟩ | ⟨u, h1, h2, h3, h4⟩
      · refine Or.inl ⟨h1, fun v hv => ?_⟩
        rcases List.mem_cons.mp hv with rfl | hv
        · omega
        · exact h2 v hv
      · refine Or.inr ⟨u, h1, h2, fun v hv => ?_, ?_⟩
        · rcases List.mem_cons.mp hv with rfl | hv
          · omega
          · exact h3 v hv
        · rw [List.find?_cons]
          have : (w.length == u.length) = false := by
            rw [beq_eq_false_iff_ne]
            omega
          rw [this]
          exact h4
theorem upB_none (L : List (List Nat)) : (L = [] ∧ L.foldl upB none = none) ∨ (∃ u, L.foldl upB none = some u ∧ u ∈ L ∧ (∀ v ∈ L, u.length ≤ v.length) ∧ L.find? (fun v => v.length == u.length) = some u) := by
  cases L with
  | nil => exact Or.inl ⟨rfl, rfl⟩
  | cons w L =>
    refine Or.inr ?_
    rw [List.foldl_cons]
    have e : upB none w = some w := rfl
    rw [e]
    rcases upB_some L w with ⟨h1, h2⟩ | ⟨u, h1, h2, h3, h4⟩
    · refine ⟨w, h1, by simp, fun v hv => ?_, ?_⟩
      · rcases List.mem_cons.mp hv with rfl | hv
        · exact Nat.le_refl _
        · exact h2 v hv
      · rw [List.find?_cons]
        simp
    · have hf : (w :: L).find? (fun v => v.length == u.length) = some u := by
        rw [List.find?_cons]
        have : (w.length == u.length) = false := by
          rw [beq_eq_false_iff_ne]
          omega
        rw [this]
        exact h4
      refine ⟨u, h1, List.mem_of_find?_eq_some hf, fun v hv => ?_, hf⟩
      rcases List.mem_cons.mp hv with rfl | hv
      · omega
      · exact h3 v hv
theorem upB_skip : ∀ (L : List (List Nat)) (u : List Nat), (∀ v ∈ L, u.length ≤ v.length) → L.foldl upB (some u) = some u := by
  intro L
  induction L with
  | nil => intro u _; rfl
  | cons w L ih =>
    intro u h
    rw [List.foldl_cons]
    have hw := h w (by simp)
    have e : upB (some u) w = some u := if_neg (by omega)
    rw [e]
    exact ih u (fun v hv => h v (by simp [hv]))
