/-! layer 2: the rows that end are the curtains -/
theorem fm_perm {α β : Type} {A B : α → List β} : ∀ L : List α, (∀ x ∈ L, (A x).Perm (B x)) → (L.flatMap A).Perm (L.flatMap B) := by
  intro L
  induction L with
  | nil => intro _; exact List.Perm.refl _
  | cons a L ih =>
    intro h
    rw [List.flatMap_cons, List.flatMap_cons]
    exact List.Perm.append (h a (by simp)) (ih (fun x hx => h x (by simp [hx])))
theorem gag_iff (ts : Nat → Nat) (d : Nat) : ∀ n, gag ts d n = true ↔ ∃ o, o < n ∧ ts o = ts d ∧ o < d := by
  intro n
  induction n with
  | zero =>
    constructor
    · intro h; exact absurd h (by simp [gag])
    · rintro ⟨o, ho, -⟩; omega
  | succ n ih =>
    unfold gag
    rw [Bool.or_eq_true, ih, Bool.and_eq_true, decide_eq_true_eq, decide_eq_true_eq]
    constructor
    · rintro (⟨o, h1, h2⟩ | ⟨h1, h2⟩)
      · exact ⟨o, by omega, h2⟩
      · exact ⟨n, by omega, h1, h2⟩
    · rintro ⟨o, h1, h2, h3⟩
      by_cases ho : o = n
      · subst ho; exact Or.inr ⟨h2, h3⟩
      · exact Or.inl ⟨o, by omega, h2, h3⟩
theorem gov_iff (ts : Nat → Nat) : ∀ n, gov ts n = true ↔ ∃ o, o < n ∧ ts o = 0 := by
  intro n
  induction n with
  | zero =>
    constructor
    · intro h; exact absurd h (by simp [gov])
    · rintro ⟨o, ho, -⟩; omega
  | succ n ih =>
    unfold gov
    rw [Bool.or_eq_true, ih, decide_eq_true_eq]
    constructor
    · rintro (⟨o, h1, h2⟩ | h1)
      · exact ⟨o, by omega, h2⟩
      · exact ⟨n, by omega, h1⟩
    · rintro ⟨o, h1, h2⟩
      by_cases ho : o = n
      · subst ho; exact Or.inr h2
      · exact Or.inl ⟨o, by omega, h2⟩
theorem cht_iff (ts : Nat → Nat) (t : Nat) (ht : ¬ t = 0) : ∀ n, t ∈ cht ts n ↔ ∃ o, o < n ∧ ts o = t := by
  intro n
  constructor
  · exact cht_mem ts n t
  · induction n with
    | zero => rintro ⟨o, ho, -⟩; omega
    | succ n ih =>
      rintro ⟨o, h1, h2⟩
      unfold cht
      by_cases ho : o = n
      · subst ho
        split
        · rename_i h
          rcases h with h | h
          · omega
          · rw [← h2]; exact h
        · rw [h2]; simp
      · have := ih ⟨o, by omega, h2⟩
        split
        · exact this
        · exact List.mem_append_left _ this
theorem range_cht {β : Type} (ts : Nat → Nat) (F : Nat → List β) : ∀ n, n ≤ 4 → ((List.range n).flatMap fun d => if gag ts d 4 then [] else F (ts d)).Perm ((if gov ts n then F 0 else []) ++ (cht ts n).flatMap F) := by
  intro n
  induction n with
  | zero => intro _; exact List.Perm.refl _
  | succ n ih =>
    intro hn
    have ih := ih (by omega)
    rw [List.range_succ, List.flatMap_append]
    have e1 : List.flatMap (fun d => if gag ts d 4 then [] else F (ts d)) [n] = if gag ts n 4 then [] else F (ts n) := by simp
    rw [e1]
    have hg := gag_iff ts n 4
    have ho := gov_iff ts n
    have hgs : gov ts (n + 1) = (gov ts n || decide (ts n = 0)) := rfl
    have hcs : cht ts (n + 1) = if ts n = 0 ∨ ts n ∈ cht ts n then cht ts n else cht ts n ++ [ts n] := rfl
    rw [hgs, hcs]
    by_cases h0 : ts n = 0
    · rw [if_pos (Or.inl h0), h0]
      have hgo : gag ts n 4 = gov ts n := by
        have : gag ts n 4 = true ↔ gov ts n = true := by
          rw [hg, ho]
          constructor
          · rintro ⟨o, a1, a2, a3⟩; exact ⟨o, a3, by omega⟩
          · rintro ⟨o, a1, a2⟩; exact ⟨o, by omega, by omega, a1⟩
        cases h1 : gag ts n 4 <;> cases h2 : gov ts n <;> simp_all
      rw [hgo]
      cases h2 : gov ts n with
      | true =>
        rw [h2] at ih
        simpa using ih
      | false =>
        rw [h2] at ih
        simp only [Bool.false_eq_true, if_false, List.nil_append, decide_true, Bool.or_true, if_true] at ih ⊢
        exact List.Perm.trans List.perm_append_comm (List.Perm.append_left _ ih)
    · rw [decide_eq_false h0, Bool.or_false]
      have hc := cht_iff ts (ts n) h0 n
      by_cases hm : ts n ∈ cht ts n
      · rw [if_pos (Or.inr hm)]
        obtain ⟨o, a1, a2⟩ := hc.mp hm
        rw [if_pos (hg.mpr ⟨o, by omega, a2, a1⟩), List.append_nil]
        exact ih
      · have hno : ¬ (ts n = 0 ∨ ts n ∈ cht ts n) := fun h => h.elim h0 hm
        rw [if_neg hno]
        have hga : ¬ gag ts n 4 = true := by
          intro h
          obtain ⟨o, a1, a2, a3⟩ := hg.mp h
          exact hm (hc.mpr ⟨o, a3, a2⟩)
        rw [if_neg hga, List.flatMap_append, ← List.append_assoc]
        have e2 : List.flatMap F [ts n] = F (ts n) := by simp
        rw [e2]
        exact List.Perm.append_right _ ih
def pr2 (x : nT) : Nat × Nat := (x.1, x.2.1)
def ovl (G : Nat → Nat) (L : List nT) : List (Nat × Nat) := (L.filter (ovr G)).map pr2
theorem ovl_fm {α : Type} (G : Nat → Nat) (F : α → List nT) : ∀ L : List α, ovl G (L.flatMap F) = L.flatMap fun x => ovl G (F x) := by
  intro L
  induction L with
  | nil => rfl
  | cons a L ih =>
    rw [List.flatMap_cons, List.flatMap_cons, ← ih]
    unfold ovl
    rw [List.filter_append, List.map_append]
theorem cur_perm {G sx : Nat → Nat} (w : gWf G) : ∀ n s g ah wt, s < G 2 → s < n → (ovl G (sub G n (s, ah ||| 2 ^ s, gkil G s g))).Perm ((gLn G sx n s g ah wt).map fun c => (c.1, c.2.1)) := by
  intro n
  induction n with
  | zero => intro s g ah wt _ h; omega
  | succ n ih =>
    intro s g ah wt hs hn
    have hts : tsn G (s, ah ||| 2 ^ s, gkil G s g) = fun d => gnx G s d (gkil G s g) := rfl
    have htn : ∀ d, d < 4 → gnx G s d (gkil G s g) ≤ s := fun d hd => gnx_le w hs hd _
    have hL : ovl G (sub G (n + 1) (s, ah ||| 2 ^ s, gkil G s g)) = (if gov (fun d => gnx G s d (gkil G s g)) 4 then [(s, ah ||| 2 ^ s)] else []) ++ (cht (fun d => gnx G s d (gkil G s g)) 4).flatMap (fun t => if t = 0 then [(s, ah ||| 2 ^ s)] else ovl G (sub G n (t - 1, (ah ||| 2 ^ s) ||| 2 ^ (t - 1), gkil G (t - 1) (gkil G s g)))) := by
      have e : sub G (n + 1) (s, ah ||| 2 ^ s, gkil G s g) = [(s, ah ||| 2 ^ s, gkil G s g)] ++ (cht (fun d => gnx G s d (gkil G s g)) 4).flatMap (fun t => sub G n (kidn G (s, ah ||| 2 ^ s, gkil G s g) t)) := by
        show _ :: (chd G _).flatMap (sub G n) = _
        unfold chd
        rw [List.flatMap_map]
        rfl
      rw [e]
      have e2 : ∀ A B : List nT, ovl G (A ++ B) = ovl G A ++ ovl G B := by
        intro A B
        unfold ovl
        rw [List.filter_append, List.map_append]
      rw [e2, ovl_fm]
      congr 1
      · have e3 : ovr G (s, ah ||| 2 ^ s, gkil G s g) = gov (fun d => gnx G s d (gkil G s g)) 4 := rfl
        unfold ovl
        rw [List.filter_cons, e3]
        cases gov (fun d => gnx G s d (gkil G s g)) 4 <;> rfl
      · apply fm_cong
        intro t ht
        have := cht_pos _ _ _ ht
        rw [if_neg (by omega)]
        rfl
    rw [hL]
    refine List.Perm.trans (range_cht (fun d => gnx G s d (gkil G s g)) (fun t => if t = 0 then [(s, ah ||| 2 ^ s)] else ovl G (sub G n (t - 1, (ah ||| 2 ^ s) ||| 2 ^ (t - 1), gkil G (t - 1) (gkil G s g)))) 4 (by omega)).symm ?_
    unfold gLn
    by_cases hall : zs (fun d => if gnx G s d (gkil G s g) = 0 then 1 else 0) 4 = 4
    · rw [if_pos hall]
      have hz : ∀ d, d < 4 → gnx G s d (gkil G s g) = 0 := by
        simp only [zs, Nat.zero_add] at hall
        have k0 : (if gnx G s 0 (gkil G s g) = 0 then 1 else 0) ≤ 1 := by split <;> omega
        have k1 : (if gnx G s 1 (gkil G s g) = 0 then 1 else 0) ≤ 1 := by split <;> omega
        have k2 : (if gnx G s 2 (gkil G s g) = 0 then 1 else 0) ≤ 1 := by split <;> omega
        have k3 : (if gnx G s 3 (gkil G s g) = 0 then 1 else 0) ≤ 1 := by split <;> omega
        intro d hd
        rcases (show d = 0 ∨ d = 1 ∨ d = 2 ∨ d = 3 by omega) with rfl | rfl | rfl | rfl
        · by_cases h : gnx G s 0 (gkil G s g) = 0
          · exact h
          · rw [if_neg h] at hall; omega
        · by_cases h : gnx G s 1 (gkil G s g) = 0
          · exact h
          · rw [if_neg h] at hall; omega
        · by_cases h : gnx G s 2 (gkil G s g) = 0
          · exact h
          · rw [if_neg h] at hall; omega
        · by_cases h : gnx G s 3 (gkil G s g) = 0
          · exact h
          · rw [if_neg h] at hall; omega
      have e4 : (List.range 4) = [0, 1, 2, 3] := by decide
      rw [e4]
      simp only [List.flatMap_cons, List.flatMap_nil, hz 0 (by omega), hz 1 (by omega), hz 2 (by omega), hz 3 (by omega), gag, if_true]
      simp
    · rw [if_neg hall, List.map_flatMap]
      apply fm_perm
      intro d hd
      have hd := List.mem_range.mp hd
      have ht := htn d hd
      cases gag (fun d => gnx G s d (gkil G s g)) d 4 with
      | true => exact List.Perm.refl _
      | false =>
        simp only [Bool.false_eq_true, if_false]
        by_cases h0 : gnx G s d (gkil G s g) = 0
        · rw [if_pos h0, if_pos h0]
          exact List.Perm.refl _
        · rw [if_neg h0, if_neg h0]
          exact ih (gnx G s d (gkil G s g) - 1) (gkil G s g) (ah ||| 2 ^ s) _ (by omega) (by omega)
theorem all_perm {G : Nat → Nat} (w : gWf G) {kp : Nat} : (ovl G (allR G)).Perm ((gCu G kp).map fun c => (c.1, c.2.1)) := by
  have w1 := w.1
  unfold allR gCu
  by_cases h0 : gpl G (G 2) (G 5) = 0
  · rw [if_pos h0, if_pos h0]
    exact List.Perm.refl _
  · rw [if_neg h0, if_neg h0]
    have hp := gpl_pos h0
    have h := cur_perm (sx := gsx G kp) w 14 (G 2 - 1) (G 5) 0 fWh (by omega) (by omega)
    rw [Nat.zero_or] at h
    rw [sub_fuel w 13 14 (rtn G) (rtn_ok w hp) (show G 2 - 1 < 13 by omega) (show G 2 - 1 < 14 by omega)]
    exact h
