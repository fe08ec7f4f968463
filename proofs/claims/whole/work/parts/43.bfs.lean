/-! layer 2: all rows, broad first, are the rows of the tree -/
abbrev nT : Type := Nat × Nat × Nat
def nok (G : Nat → Nat) (x : nT) : Prop := x.1 < G 2 ∧ x.2.1 < 4096 ∧ x.2.1.testBit x.1 = true ∧ (∀ j, j < x.1 → x.2.1.testBit j = false) ∧ x.2.2 < 64
def tsn (G : Nat → Nat) (x : nT) (d : Nat) : Nat := gnx G x.1 d x.2.2
def kidn (G : Nat → Nat) (x : nT) (t : Nat) : nT := (t - 1, x.2.1 ||| 2 ^ (t - 1), gkil G (t - 1) x.2.2)
def chd (G : Nat → Nat) (x : nT) : List nT := (cht (tsn G x) 4).map (kidn G x)
def gov (ts : Nat → Nat) : Nat → Bool
  | 0 => false
  | d + 1 => gov ts d || decide (ts d = 0)
def fwd (G : Nat → Nat) (x : nT) : Nat := if gov (tsn G x) 4 then x.2.1 ||| 1048576 else x.2.1
def sub (G : Nat → Nat) : Nat → nT → List nT
  | 0, _ => []
  | n + 1, x => x :: (chd G x).flatMap (sub G n)
section
variable {G : Nat → Nat}
theorem cht_mem (ts : Nat → Nat) : ∀ d t, t ∈ cht ts d → ∃ o, o < d ∧ ts o = t := by
  intro d
  induction d with
  | zero => intro t h; exact absurd h (by simp [cht])
  | succ d ih =>
    intro t h
    unfold cht at h
    split at h
    · obtain ⟨o, ho, e⟩ := ih t h
      exact ⟨o, by omega, e⟩
    · rcases List.mem_append.mp h with h | h
      · obtain ⟨o, ho, e⟩ := ih t h
        exact ⟨o, by omega, e⟩
      · rw [List.mem_singleton] at h
        exact ⟨d, by omega, h.symm⟩
theorem cht_le (w : gWf G) {x : nT} (hx : nok G x) {t : Nat} (h : t ∈ cht (tsn G x) 4) : 0 < t ∧ t ≤ x.1 := by
  obtain ⟨o, ho, e⟩ := cht_mem _ _ _ h
  exact ⟨cht_pos _ _ _ h, by rw [← e]; exact gnx_le w hx.1 ho _⟩
theorem kid_ok (w : gWf G) {x : nT} (hx : nok G x) {t : Nat} (h : t ∈ cht (tsn G x) 4) : nok G (kidn G x t) ∧ (kidn G x t).1 < x.1 := by
  obtain ⟨h1, h2⟩ := cht_le w hx h
  obtain ⟨a1, a2, a3, a4, a5⟩ := hx
  have w1 := w.1
  refine ⟨⟨show t - 1 < G 2 by omega, ?_, ?_, ?_, gkil_lt w (show t - 1 < G 2 by omega) a5⟩, show t - 1 < x.1 by omega⟩
  · exact Nat.or_lt_two_pow (n := 12) a2 (Nat.pow_lt_pow_right (by omega) (by omega))
  · show (x.2.1 ||| 2 ^ (t - 1)).testBit (t - 1) = true
    rw [Nat.testBit_or, Nat.testBit_two_pow]
    simp
  · intro j hj
    have hj : j < t - 1 := hj
    show (x.2.1 ||| 2 ^ (t - 1)).testBit j = false
    rw [Nat.testBit_or, Nat.testBit_two_pow, a4 j (by omega)]
    simp
    omega
theorem fm_cong {α β : Type} {F H : α → List β} : ∀ L : List α, (∀ x ∈ L, F x = H x) → L.flatMap F = L.flatMap H := by
  intro L
  induction L with
  | nil => intro _; rfl
  | cons a L ih =>
    intro h
    rw [List.flatMap_cons, List.flatMap_cons, h a (by simp), ih (fun x hx => h x (by simp [hx]))]
theorem sub_fuel (w : gWf G) : ∀ n m x, nok G x → x.1 < n → x.1 < m → sub G n x = sub G m x := by
  intro n
  induction n with
  | zero => intro m x _ h; omega
  | succ n ih =>
    intro m x hx h1 h2
    obtain ⟨m, rfl⟩ : ∃ k, m = k + 1 := ⟨m - 1, by omega⟩
    unfold sub
    congr 1
    unfold chd
    rw [List.flatMap_map, List.flatMap_map]
    apply fm_cong
    intro t ht
    obtain ⟨k1, k2⟩ := kid_ok w hx ht
    exact ih m _ k1 (by omega) (by omega)
theorem or_add : ∀ k a, a.testBit k = false → a ||| 2 ^ k = a + 2 ^ k := by
  intro k
  induction k with
  | zero =>
    intro a h
    have h2 : a % 2 = 0 := by
      rw [Nat.testBit_zero] at h
      simpa using h
    obtain ⟨m, rfl⟩ : ∃ m, a = 2 * m := ⟨a / 2, by omega⟩
    apply Nat.eq_of_testBit_eq
    intro i
    rw [Nat.testBit_or]
    cases i with
    | zero => rw [Nat.testBit_zero, Nat.testBit_zero, Nat.testBit_zero]; simp
    | succ i => rw [Nat.testBit_succ, Nat.testBit_succ, Nat.testBit_succ, show 2 * m / 2 = m by omega, show (2 * m + 2 ^ 0) / 2 = m by omega]; simp
  | succ k ih =>
    intro a h
    rw [Nat.testBit_succ] at h
    have e := ih _ h
    have h1 : (a ||| 2 ^ (k + 1)) / 2 = a / 2 + 2 ^ k := by
      rw [← e]
      apply Nat.eq_of_testBit_eq
      intro i
      rw [← Nat.testBit_succ, Nat.testBit_or, Nat.testBit_or, Nat.testBit_succ, Nat.testBit_two_pow, Nat.testBit_two_pow]
      congr 1
      simp
    have h2 : (a ||| 2 ^ (k + 1)) % 2 = a % 2 := by
      have h3 : (a ||| 2 ^ (k + 1)).testBit 0 = a.testBit 0 := by
        rw [Nat.testBit_or, Nat.testBit_two_pow]
        simp
      rw [Nat.testBit_zero, Nat.testBit_zero] at h3
      have h4 := decide_eq_decide.mp h3
      omega
    have h5 : 2 ^ (k + 1) = 2 * 2 ^ k := by rw [Nat.pow_succ, Nat.mul_comm]
    omega
theorem cht_sum (ts : Nat → Nat) : ∀ d, ((cht ts d).map fun t => 2 ^ (t - 1)).sum = sbt (cht ts d) := by
  intro d
  induction d with
  | zero => rfl
  | succ d ih =>
    have hb := sbt_bit ts d (ts d - 1)
    unfold cht
    split
    · exact ih
    · rename_i hn
      rw [List.map_append, List.sum_append, ih, sbt_app]
      rw [or_add _ _ (by
        cases h : (sbt (cht ts d)).testBit (ts d - 1) with
        | false => rfl
        | true =>
          have := hb.mp h
          rw [show ts d - 1 + 1 = ts d by omega] at this
          exact absurd (Or.inr this) hn)]
      simp
theorem sub_len (w : gWf G) : ∀ n x, nok G x → (sub G n x).length ≤ 2 ^ x.1 := by
  intro n
  induction n with
  | zero => intro x _; exact Nat.zero_le _
  | succ n ih =>
    intro x hx
    unfold sub
    rw [List.length_cons, chd, List.flatMap_map, List.length_flatMap]
    have h1 : ((cht (tsn G x) 4).map fun t => (sub G n (kidn G x t)).length).sum ≤ ((cht (tsn G x) 4).map fun t => 2 ^ (t - 1)).sum := by
      have key : ∀ L : List Nat, (∀ t ∈ L, t ∈ cht (tsn G x) 4) → (L.map fun t => (sub G n (kidn G x t)).length).sum ≤ (L.map fun t => 2 ^ (t - 1)).sum := by
        intro L
        induction L with
        | nil => intro _; exact Nat.le_refl _
        | cons t L ihL =>
          intro hL
          rw [List.map_cons, List.map_cons, List.sum_cons, List.sum_cons]
          exact Nat.add_le_add (ih _ (kid_ok w hx (hL t (by simp))).1) (ihL (fun u hu => hL u (by simp [hu])))
      exact key _ (fun t ht => ht)
    rw [cht_sum] at h1
    have h2 := sbt_lt (tsn G x) (n := x.1) 4 (fun o ho => gnx_le w hx.1 ho _)
    omega
theorem fm_len {α β : Type} {F : α → List β} : ∀ L : List α, (∀ x ∈ L, 1 ≤ (F x).length) → L.length ≤ (L.flatMap F).length := by
  intro L
  induction L with
  | nil => intro _; exact Nat.le_refl _
  | cons a L ih =>
    intro h
    rw [List.flatMap_cons, List.length_append, List.length_cons]
    have h1 := h a (by simp)
    have h2 := ih (fun x hx => h x (by simp [hx]))
    omega
theorem frw_f (x : nT) (c i : Nat) (f : Nat → Int32) (hi : i < c) : ∀ d,
    frw G (tsn G x) x.2.1 x.2.2 c i f d i = nI (if gov (tsn G x) d then x.2.1 ||| 1048576 else x.2.1) ∧
    (∀ j, j < c → j ≠ i → frw G (tsn G x) x.2.1 x.2.2 c i f d j = f j) ∧
    (∀ k y, (cht (tsn G x) d)[k]? = some y → frw G (tsn G x) x.2.1 x.2.2 c i f d (c + k) = nI (pwd (x.2.1 ||| 2 ^ (y - 1)) (gkil G (y - 1) x.2.2))) := by
  intro d
  induction d with
  | zero =>
    refine ⟨?_, ?_, ?_⟩
    · show upd f i (nI x.2.1) i = _
      rw [upd_at, if_pos rfl]
      rfl
    · intro j hj hne
      show upd f i (nI x.2.1) j = _
      rw [upd_at, if_neg hne]
    · intro k y h
      simp [cht] at h
  | succ d ih =>
    obtain ⟨a1, a2, a3⟩ := ih
    have hg : gov (tsn G x) (d + 1) = (gov (tsn G x) d || decide (tsn G x d = 0)) := rfl
    have hc : cht (tsn G x) (d + 1) = if tsn G x d = 0 ∨ tsn G x d ∈ cht (tsn G x) d then cht (tsn G x) d else cht (tsn G x) d ++ [tsn G x d] := rfl
    have hf : frw G (tsn G x) x.2.1 x.2.2 c i f (d + 1) = if tsn G x d = 0 then upd (frw G (tsn G x) x.2.1 x.2.2 c i f d) i (frw G (tsn G x) x.2.1 x.2.2 c i f d i ||| nI 1048576) else if tsn G x d ∈ cht (tsn G x) d then frw G (tsn G x) x.2.1 x.2.2 c i f d else
      upd (frw G (tsn G x) x.2.1 x.2.2 c i f d) (c + (cht (tsn G x) d).length) (nI (pwd (x.2.1 ||| 2 ^ (tsn G x d - 1)) (gkil G (tsn G x d - 1) x.2.2))) := rfl
    rw [hf, hg, hc]
    generalize frw G (tsn G x) x.2.1 x.2.2 c i f d = F at *
    generalize tsn G x d = tv at *
    have hor : x.2.1 ||| 1048576 ||| 1048576 = x.2.1 ||| 1048576 := by rw [Nat.or_assoc, Nat.or_self]
    by_cases h0 : tv = 0
    · rw [if_pos h0, if_pos (Or.inl h0)]
      refine ⟨?_, ?_, ?_⟩
      · rw [upd_at, if_pos rfl, a1, i_or]
        simp only [h0, decide_true, Bool.or_true, if_true]
        split
        · rw [hor]
        · rfl
      · intro j hj hne
        rw [upd_at, if_neg hne]
        exact a2 j hj hne
      · intro k y h
        rw [upd_at, if_neg (by omega)]
        exact a3 k y h
    · rw [if_neg h0]
      have hd0 : decide (tv = 0) = false := decide_eq_false h0
      rw [hd0, Bool.or_false]
      by_cases hm : tv ∈ cht (tsn G x) d
      · rw [if_pos hm, if_pos (Or.inr hm)]
        exact ⟨a1, a2, a3⟩
      · have hno : ¬ (tv = 0 ∨ tv ∈ cht (tsn G x) d) := fun h => h.elim h0 hm
        rw [if_neg hm, if_neg hno]
        refine ⟨?_, ?_, ?_⟩
        · rw [upd_at, if_neg (by omega)]
          exact a1
        · intro j hj hne
          rw [upd_at, if_neg (by omega)]
          exact a2 j hj hne
        · intro k y h
          rw [upd_at]
          by_cases hk : k < (cht (tsn G x) d).length
          · rw [List.getElem?_append_left hk] at h
            rw [if_neg (by omega)]
            exact a3 k y h
          · rw [List.getElem?_append_right (by omega)] at h
            by_cases hk2 : k = (cht (tsn G x) d).length
            · subst hk2
              rw [Nat.sub_self] at h
              simp at h
              rw [if_pos rfl, h]
            · obtain ⟨j, hj⟩ : ∃ j, k - (cht (tsn G x) d).length = j + 1 := ⟨k - (cht (tsn G x) d).length - 1, by omega⟩
              rw [hj] at h
              simp at h
end
