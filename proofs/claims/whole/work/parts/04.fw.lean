/-! one word list for all methods; one state for all objects; fW: a walk that follows a function -/
abbrev fSt : Type := (Nat → Nat → Nat → Int32) × (Nat → Nat → Nat → Int64) × (Nat → Nat → Nat → Nat → Int32) × (Nat → Nat → Nat → Nat → Int64) × (Nat → Nat → Nat → Nat)
def f3 {α : Type} (f : Nat → Nat → Nat → α) (c i k : Nat) (v : α) : Nat → Nat → Nat → α := fun c' i' k' => if c' = c ∧ i' = i ∧ k' = k then v else f c' i' k'
def gI (st : fSt) (c i k : Nat) : Int32 := st.1 c i k
def gL (st : fSt) (c i k : Nat) : Int64 := st.2.1 c i k
def gA (st : fSt) (c i j : Nat) : Nat → Int32 := st.2.2.1 c i j
def gB (st : fSt) (c i j : Nat) : Nat → Int64 := st.2.2.2.1 c i j
def gP (st : fSt) (c i k : Nat) : Nat := st.2.2.2.2 c i k
def sI (st : fSt) (c i k : Nat) (v : Int32) : fSt := (f3 st.1 c i k v, st.2)
def sL (st : fSt) (c i k : Nat) (v : Int64) : fSt := (st.1, f3 st.2.1 c i k v, st.2.2)
def sA (st : fSt) (c i j : Nat) (v : Nat → Int32) : fSt := (st.1, st.2.1, f3 st.2.2.1 c i j v, st.2.2.2)
def sB (st : fSt) (c i j : Nat) (v : Nat → Int64) : fSt := (st.1, st.2.1, st.2.2.1, f3 st.2.2.2.1 c i j v, st.2.2.2.2)
def sP (st : fSt) (c i k : Nat) (v : Nat) : fSt := (st.1, st.2.1, st.2.2.1, st.2.2.2.1, f3 st.2.2.2.2 c i k v)
theorem f3_s {α : Type} (f : Nat → Nat → Nat → α) (c i k : Nat) (v : α) : f3 f c i k v c i k = v := by simp [f3]
theorem f3_n {α : Type} (f : Nat → Nat → Nat → α) {c i k c' i' k' : Nat} (v : α) (h : ¬ (c' = c ∧ i' = i ∧ k' = k)) : f3 f c i k v c' i' k' = f c' i' k' := by simp [f3, h]
-- the words of a function
def fLt {α β : Type} (e : α) (f : α → β) : β := f e
def fJn {β γ : Type} (f : β) (b : β → γ) : γ := b f
def fBd {α β : Type} (o : Option (α × fSt)) (f : α → fSt → Option β) : Option β := match o with
  | none => none
  | some (a, s) => f a s
def fIx {β : Type} (x : Int32) (n : Nat) (k : Option β) : Option β := if 0 ≤ x ∧ x.toNatClampNeg < n then k else none
def fNz {ν β : Type} [OfNat ν 0] [DecidableEq ν] (y : ν) (k : Option β) : Option β := if y = 0 then none else k
def fBo {β : Type} (v : Int32) (k : Option β) : Option β := if v = 0 ∨ v = 1 then k else none
def fNn {β : Type} (q : Nat) (f : Nat → Option β) : Option β := match q with
  | 0 => none
  | q + 1 => f q
theorem fIx_some {β : Type} {x : Int32} {n : Nat} {k : Option β} {r : β} (h : fIx x n k = some r) : vp_in x n ∧ k = some r := by
  unfold fIx at h
  split at h
  · rename_i g
    refine ⟨?_, h⟩
    intro q
    rcases q with q | q
    · exact absurd q (Int32.not_lt.mpr g.1)
    · omega
  · cases h
theorem fNz_some {ν β : Type} [OfNat ν 0] [DecidableEq ν] {y : ν} {k : Option β} {r : β} (h : fNz y k = some r) : ¬ y = 0 ∧ k = some r := by
  unfold fNz at h
  split at h
  · cases h
  · rename_i g
    exact ⟨g, h⟩
theorem fBo_some {β : Type} {v : Int32} {k : Option β} {r : β} (h : fBo v k = some r) : (v = 0 ∨ v = 1) ∧ k = some r := by
  unfold fBo at h
  split at h
  · rename_i g
    exact ⟨g, h⟩
  · cases h
-- the cells
def fTab : List (List (Nat × Nat × Nat)) := [[(0, 0, 0), (2, 1, 0)],
  [(2, 1, 0), (2, 2, 0), (2, 3, 0), (2, 4, 0), (2, 5, 0), (2, 6, 0), (2, 7, 0), (0, 0, 0)],
  [(4, 7, 0), (4, 9, 0), (0, 0, 0), (0, 0, 0), (3, 0, 0)],
  [(0, 0, 0), (0, 0, 0), (0, 0, 0), (0, 0, 0), (0, 0, 0), (0, 0, 0), (0, 0, 0)],
  [(2, 1, 0), (2, 2, 0), (2, 3, 0), (1, 0, 0)],
  [(2, 1, 0), (2, 2, 0), (0, 0, 0), (0, 0, 0), (0, 0, 0), (0, 0, 0), (0, 0, 0), (1, 0, 0), (0, 0, 0), (0, 0, 0), (0, 0, 0), (0, 0, 0)],
  [(2, 1, 0), (2, 2, 0), (0, 0, 0), (0, 0, 0)],
  [(0, 0, 0), (0, 0, 0), (0, 0, 0), (0, 0, 0), (2, 1, 0), (2, 2, 0), (2, 3, 0), (2, 4, 0), (2, 5, 0), (2, 6, 0), (2, 7, 0), (2, 8, 0), (2, 9, 0), (2, 10, 0), (2, 11, 0), (2, 12, 0), (2, 13, 0), (2, 14, 0)],
  [(2, 1, 0), (0, 0, 0), (0, 0, 0), (0, 0, 0)],
  [(0, 0, 0), (0, 0, 0), (2, 1, 0), (2, 2, 0), (2, 3, 0), (2, 4, 0), (2, 5, 0), (0, 0, 0)],
  [(3, 3, 1), (2, 1, 0), (0, 0, 0), (0, 0, 0), (0, 0, 0), (0, 0, 0), (0, 0, 0), (0, 0, 0), (0, 0, 0), (0, 0, 0), (0, 0, 0)],
  [(2, 1, 0), (3, 5, 0), (0, 0, 0), (1, 0, 0), (1, 0, 0), (0, 0, 0), (0, 0, 0), (3, 2, 0), (2, 2, 0), (0, 0, 0), (3, 3, 0), (3, 4, 0), (3, 6, 0), (3, 1, 0), (3, 10, 0), (3, 10, 1), (2, 3, 0), (0, 0, 0)],
  [(0, 0, 0), (0, 0, 0), (1, 0, 0), (1, 0, 0), (2, 1, 0), (2, 2, 0), (2, 3, 0), (2, 4, 0), (0, 0, 0), (0, 0, 0), (0, 0, 0), (0, 0, 0), (0, 0, 0), (0, 0, 0), (0, 0, 0), (0, 0, 0), (0, 0, 0), (0, 0, 0), (0, 0, 0), (1, 0, 0), (2, 5, 0), (2, 6, 0), (2, 7, 0), (0, 0, 0), (0, 0, 0), (0, 0, 0), (0, 0, 0), (0, 0, 0), (0, 0, 0), (2, 8, 0), (2, 9, 0), (1, 0, 0), (2, 10, 0), (2, 11, 0), (0, 0, 0), (0, 0, 0), (0, 0, 0), (0, 0, 0), (0, 0, 0), (2, 12, 0), (2, 13, 0), (1, 0, 0), (1, 0, 0), (2, 14, 0), (2, 15, 0), (2, 16, 0), (0, 0, 0), (0, 0, 0), (2, 17, 0), (2, 18, 0), (2, 19, 0), (2, 20, 0), (2, 21, 0), (0, 0, 0), (0, 0, 0), (2, 22, 0), (0, 0, 0), (0, 0, 0), (0, 0, 0), (0, 0, 0), (0, 0, 0), (0, 0, 0), (0, 0, 0), (0, 0, 0), (0, 0, 0)]]
def fATab : List (List (Nat × Nat)) := [[(0, 80)],
  [(0, 6), (0, 6), (0, 6), (0, 6), (0, 6), (0, 6), (0, 6)],
  [],
  [],
  [(3, 768), (3, 10), (3, 12)],
  [(1, 900), (3, 32)],
  [(0, 2048), (0, 2048)],
  [(3, 6), (3, 6), (3, 12), (3, 4), (0, 6), (0, 6), (0, 6), (0, 12), (0, 12), (0, 12), (0, 48), (0, 12), (0, 4), (0, 16)],
  [(3, 60)],
  [(0, 60), (0, 60), (0, 60), (0, 60), (0, 3)],
  [(0, 60)],
  [(4, 4), (5, 3), (0, 12)],
  [(0, 4), (0, 4), (3, 240), (1, 900), (0, 2150), (0, 219), (3, 140), (3, 10), (3, 12), (0, 12), (2, 4096), (3, 10), (3, 12), (0, 4096), (0, 12), (0, 12), (0, 12), (0, 6), (0, 6), (0, 6), (0, 6), (0, 5)]]
def fNF (c : Nat) : Nat := (fTab.getD c []).length
def fNA (c : Nat) : Nat := (fATab.getD c []).length
def fFK (c k : Nat) : Nat × Nat × Nat := (fTab.getD c []).getD k (0, 0, 0)
def fAK (c j : Nat) : Nat × Nat := (fATab.getD c []).getD (j - 1) (0, 0)
def fV (a : Nat → Nat) (q : Nat) : Value := match q with
  | 0 => .null
  | q + 1 => .ref (a q)
def fFld (ad : Nat → Nat → Nat → Nat) (st : fSt) (c i k : Nat) : Value := match fFK c k with
  | (0, _, _) => .int (gI st c i k)
  | (1, _, _) => .long (gL st c i k)
  | (2, j, _) => .ref (ad c i j)
  | (3, c', o) => .ref (ad c' (i + o) 0)
  | (_, c', _) => fV (fun q => ad c' q 0) (gP st c i k)
def fArE (cA : Nat → ClassId) (ad : Nat → Nat → Nat → Nat) (st : fSt) (c i j : Nat) : va_E := match fAK c j with
  | (0, n) => .inl (cA 0, n, .inl (gA st c i j))
  | (1, n) => .inl (cA 1, n, .inl (gA st c i j))
  | (2, n) => .inl (cA 2, n, .inl (gA st c i j))
  | (3, n) => .inl (cA 3, n, .inr (.inl (gB st c i j)))
  | (4, n) => .inl (cA 4, n, .inr (.inr (.inr (.inr (fun q => some (ad 8 q 0))))))
  | (_, n) => .inl (cA 5, n, .inr (.inr (.inr (.inr (fun q => some (ad 2 (q + 1) 0))))))
def fFs (ad : Nat → Nat → Nat → Nat) (st : fSt) (c i : Nat) : List Value := (List.range (fNF c)).map (fFld ad st c i)
def fCell (cA : Nat → ClassId) (ad : Nat → Nat → Nat → Nat) (st : fSt) (c i j : Nat) : va_E := if j = 0 then .inr (c, fFs ad st c i) else fArE cA ad st c i j
def fTys (cA : Nat → ClassId) : List (ClassId × FieldType) := [(cA 0, .int), (cA 1, .byte), (cA 2, .boolean), (cA 3, .long), (cA 4, .object "OneSeat$Tray"), (cA 5, .object "OneSeat$House")]
def fAll (N : Nat → Nat) : List (Nat × Nat × Nat) := (List.range 13).flatMap fun c => (List.range (N c)).flatMap fun i => (List.range (fNA c + 1)).map fun j => (c, i, j)
theorem fAll_mem {N : Nat → Nat} {c i j : Nat} : (c, i, j) ∈ fAll N ↔ c < 13 ∧ i < N c ∧ j ≤ fNA c := by
  simp only [fAll, List.mem_flatMap, List.mem_map, List.mem_range]
  constructor
  · rintro ⟨c', h1, i', h2, j', h3, h4⟩
    cases h4
    exact ⟨h1, h2, by omega⟩
  · rintro ⟨h1, h2, h3⟩
    exact ⟨c, h1, i, h2, j, by omega, rfl⟩
theorem fAll_nodup (N : Nat → Nat) : (fAll N).Nodup := by
  unfold fAll List.Nodup
  rw [List.pairwise_flatMap]
  refine ⟨fun c _ => ?_, ?_⟩
  · rw [List.pairwise_flatMap]
    refine ⟨fun i _ => ?_, ?_⟩
    · rw [List.pairwise_map]
      exact List.pairwise_lt_range.imp (fun h q => by cases q; omega)
    · exact List.pairwise_lt_range.imp (fun h x hx y hy q => by
        obtain ⟨_, _, rfl⟩ := List.mem_map.mp hx
        obtain ⟨_, _, rfl⟩ := List.mem_map.mp hy
        cases q
        omega)
  · exact List.pairwise_lt_range.imp (fun h x hx y hy q => by
      obtain ⟨_, _, hx⟩ := List.mem_flatMap.mp hx
      obtain ⟨_, _, rfl⟩ := List.mem_map.mp hx
      obtain ⟨_, _, hy⟩ := List.mem_flatMap.mp hy
      obtain ⟨_, _, rfl⟩ := List.mem_map.mp hy
      cases q
      omega)
theorem fAll_inj {N : Nat → Nat} {i j : Nat} {t : Nat × Nat × Nat} (h1 : (fAll N)[i]? = some t) (h2 : (fAll N)[j]? = some t) : i = j := by
  obtain ⟨hi, hi'⟩ := List.getElem?_eq_some_iff.mp h1
  obtain ⟨hj, hj'⟩ := List.getElem?_eq_some_iff.mp h2
  have hp := List.pairwise_iff_getElem.mp (fAll_nodup N)
  rcases Nat.lt_trichotomy i j with h | h | h
  · exact absurd (hi'.trans hj'.symm) (hp i j hi hj h)
  · exact h
  · exact absurd (hj'.trans hi'.symm) (hp j i hj hi h)
def fWs (cA : Nat → ClassId) (ad : Nat → Nat → Nat → Nat) (N : Nat → Nat) (st : fSt) : va_W := (fAll N).map fun t => (ad t.1 t.2.1 t.2.2, fCell cA ad st t.1 t.2.1 t.2.2)
def fAd (ad : Nat → Nat → Nat → Nat) (N : Nat → Nat) : Nat → Prop := fun q => ∃ c i j, (c, i, j) ∈ fAll N ∧ q = ad c i j
def fInj (ad : Nat → Nat → Nat → Nat) (N : Nat → Nat) : Prop := ∀ t u, t ∈ fAll N → u ∈ fAll N → ad t.1 t.2.1 t.2.2 = ad u.1 u.2.1 u.2.2 → t = u
def fPok (N : Nat → Nat) (st : fSt) : Prop := ∀ i, i < N 2 → gP st 2 i 0 ≤ N 7 ∧ gP st 2 i 1 ≤ N 9
theorem fWs_at {cA : Nat → ClassId} {ad : Nat → Nat → Nat → Nat} {N : Nat → Nat} {st : fSt} {q c i j : Nat} (h : (fAll N)[q]? = some (c, i, j)) : (fWs cA ad N st)[q]? = some (ad c i j, fCell cA ad st c i j) := by
  simp [fWs, h]
theorem fWs_D {cA : Nat → ClassId} {ad : Nat → Nat → Nat → Nat} {N : Nat → Nat} {st : fSt} {A : Nat → Prop} (hI : fInj ad N) (hA : ∀ q, fAd ad N q → A q) : va_D A (fWs cA ad N st) := by
  constructor
  · intro i j p q hp hq he
    simp only [fWs, List.getElem?_map, Option.map_eq_some_iff] at hp hq
    obtain ⟨t, ht, rfl⟩ := hp
    obtain ⟨u, hu, rfl⟩ := hq
    have := hI t u (List.mem_of_getElem? ht) (List.mem_of_getElem? hu) he
    subst this
    exact fAll_inj ht hu
  · intro k q hk
    simp only [fWs, List.getElem?_map, Option.map_eq_some_iff] at hk
    obtain ⟨t, ht, rfl⟩ := hk
    exact hA _ ⟨t.1, t.2.1, t.2.2, List.mem_of_getElem? ht, rfl⟩
theorem fWs_set {cA : Nat → ClassId} {ad : Nat → Nat → Nat → Nat} {N : Nat → Nat} {st st' : fSt} {q c i j : Nat} {e : va_E} (h : (fAll N)[q]? = some (c, i, j)) (he : e = fCell cA ad st' c i j) (ho : ∀ c' i' j', ¬ (c' = c ∧ i' = i ∧ j' = j) → fCell cA ad st' c' i' j' = fCell cA ad st c' i' j') : (fWs cA ad N st).set q (ad c i j, e) = fWs cA ad N st' := by
  subst he
  apply List.ext_getElem?
  intro k
  by_cases hk : q = k
  · subst hk
    have hl : q < (fWs cA ad N st).length := by
      have := (List.getElem?_eq_some_iff.mp h).1
      simpa [fWs] using this
    rw [List.getElem?_set_self hl, fWs_at h]
  · rw [List.getElem?_set_ne hk]
    simp only [fWs, List.getElem?_map]
    cases hu : (fAll N)[k]? with
    | none => rfl
    | some u =>
      obtain ⟨c', i', j'⟩ := u
      simp only [Option.map_some]
      rw [ho c' i' j' (fun z => ?_)]
      obtain ⟨rfl, rfl, rfl⟩ := z
      exact hk (fAll_inj h hu)
def fR (D : va_G) (cA : Nat → ClassId) (ad : Nat → Nat → Nat → Nat) (N : Nat → Nat) (st : fSt) (H : Heap) : Prop := va_P D vwCl (fWs cA ad N st) H ∧ fPok N st
theorem fFld_sI (ad : Nat → Nat → Nat → Nat) (st : fSt) (c i k : Nat) (v : Int32) {c' i' k' : Nat} (h : ¬ (c' = c ∧ i' = i ∧ k' = k)) : fFld ad (sI st c i k v) c' i' k' = fFld ad st c' i' k' := by
  have e : gI (sI st c i k v) c' i' k' = gI st c' i' k' := f3_n _ _ h
  unfold fFld
  rw [e]
  rfl
theorem fFld_sL (ad : Nat → Nat → Nat → Nat) (st : fSt) (c i k : Nat) (v : Int64) {c' i' k' : Nat} (h : ¬ (c' = c ∧ i' = i ∧ k' = k)) : fFld ad (sL st c i k v) c' i' k' = fFld ad st c' i' k' := by
  have e : gL (sL st c i k v) c' i' k' = gL st c' i' k' := f3_n _ _ h
  unfold fFld
  rw [e]
  rfl
theorem fFld_sP (ad : Nat → Nat → Nat → Nat) (st : fSt) (c i k : Nat) (v : Nat) {c' i' k' : Nat} (h : ¬ (c' = c ∧ i' = i ∧ k' = k)) : fFld ad (sP st c i k v) c' i' k' = fFld ad st c' i' k' := by
  have e : gP (sP st c i k v) c' i' k' = gP st c' i' k' := f3_n _ _ h
  unfold fFld
  rw [e]
  rfl
theorem fFs_set {ad : Nat → Nat → Nat → Nat} {st st' : fSt} {c i k : Nat} {v : Value} (hv : fFld ad st' c i k = v) (ho : ∀ k', k' ≠ k → fFld ad st' c i k' = fFld ad st c i k') : (fFs ad st c i).set k v = fFs ad st' c i := by
  apply List.ext_getElem?
  intro z
  by_cases hz : k = z
  · subst hz
    by_cases hl : k < fNF c
    · rw [List.getElem?_set_self (by simpa [fFs] using hl)]
      simp [fFs, hl, hv]
    · rw [List.getElem?_eq_none (by simpa [fFs] using hl), List.getElem?_eq_none (by simpa [fFs] using hl)]
  · rw [List.getElem?_set_ne hz]
    simp only [fFs, List.getElem?_map]
    cases hu : (List.range (fNF c))[z]? with
    | none => rfl
    | some u =>
      have : u = z := by
        obtain ⟨h1, h2⟩ := List.getElem?_eq_some_iff.mp hu
        simpa using h2.symm
      subst this
      simp only [Option.map_some]
      rw [ho u (Ne.symm hz)]
theorem fFs_at {ad : Nat → Nat → Nat → Nat} {st : fSt} {c i k : Nat} (hk : k < fNF c) : (fFs ad st c i)[k]? = some (fFld ad st c i k) := by simp [fFs, hk]
theorem fFs_len {ad : Nat → Nat → Nat → Nat} {st : fSt} {c i : Nat} : (fFs ad st c i).length = fNF c := by simp [fFs]
theorem fFs_ext {ad : Nat → Nat → Nat → Nat} {st st' : fSt} {c i : Nat} (h : ∀ k, fFld ad st' c i k = fFld ad st c i k) : fFs ad st' c i = fFs ad st c i := by
  unfold fFs
  exact List.map_congr_left (fun k _ => h k)
-- links to private members of a nest mate
def fNst (U : State) : Prop := (∀ (a : String) (i : Nat) (x : MethodName) (h : String), Cond.methodLinkNest a i x h ∈ lw_tbl → va_Nw (.methodLinkNest a i x h) U) ∧ ∀ C : String, Cond.arrayOver (.object C) ∈ lw_tbl → va_AO C U
theorem fNst_warm {s U : State} (hW : s.WarmedH U.vm) (h : fNst s) : fNst U := ⟨fun a i x g hm => va_Nw.warmM hW (h.1 a i x g hm), fun C hm => va_AO.moved hW.alike (h.2 C hm)⟩
theorem fNst_call {U : State} {g : JFrame} {mk : MethodId} {a : Array Value} (h : fNst U) : fNst (U.calling g mk a) := ⟨fun b i x z hm => va_Nw.same rfl rfl (h.1 b i x z hm), fun C hm => va_AO.moved (u := U) (U := U.calling g mk a) (Vm.Alike.refl U.vm) (h.2 C hm)⟩
-- launch and frame
abbrev fDl : Type := Launch × va_G × (Nat → ClassId) × (Nat → Nat → Nat → Nat) × (Nat → Nat)
abbrev fGm : Type := Program × Env × Room × State × MethodId × Array Value × List Frame × Method × Code × Heap × (Nat → Prop) × Nat × Nat
def fad (Δ : fDl) : Nat → Nat → Nat → Nat := Δ.2.2.2.1
def fN (Δ : fDl) : Nat → Nat := Δ.2.2.2.2
def fW {α : Type} (Δ : fDl) (Γ : fGm) (nL : Nat) (Q : α → fSt → State → Prop) (pc : Nat) (lc : List (Nat × Value)) (stk : List Value) (st : fSt) (k : Option (α × fSt)) : Prop :=
  match Δ, Γ with
  | (l, D, cA, ad, N), (p, e, R, s, m, args, below, meth, c, H0, A, cells, slots) =>
    ∀ r st', k = some (r, st') → ∀ (H : Heap) (locs : List Loc) (ls : Array Slot), lv_has ls nL lc → fR D cA ad N st H → va_S A H0 H locs → W p l e R s m args below meth c H locs cells slots (Q r st') (F0 m pc ls stk)
def fC (Δ : fDl) (Γ : fGm) (cc : ByteArray) (own : String) (nL : Nat) (ret : Option FieldType) (lev : Nat) : Prop :=
  match Δ, Γ with
  | (_, D, cA, ad, N), (p, _, R, s, m, args, _, meth, c, H0, A, cells, slots) =>
    p.tables.exec = Jvm.exec ∧ c.code = cc ∧ c.maxLocals = nL ∧ s.vm.findClass own = some m.cls ∧ (∀ w ∈ fT, w.before args s = true) ∧ va_K D vwCl (fTys cA) s ∧ fInj ad N ∧ (∀ q, fAd ad N q → A q) ∧ meth.sig.returnType = ret ∧ meth.locks = false ∧ lev ≤ R.frames ∧ 64 * lev ≤ R.locals ∧ cells ≤ R.cells ∧ slots ≤ R.slots ∧ H0 = s.heap ∧ fNst s
theorem r_none {α : Type} {Δ : fDl} {Γ : fGm} {nL : Nat} {Q : α → fSt → State → Prop} {pc : Nat} {lc : List (Nat × Value)} {stk : List Value} {st : fSt} : fW Δ Γ nL Q pc lc stk st none := by
  obtain ⟨l, D, cA, ad, N⟩ := Δ
  obtain ⟨p, e, R, s, m, args, below, meth, c, H0, A, cells, slots⟩ := Γ
  intro r st' hk
  cases hk
theorem r_let {α β : Type} {Δ : fDl} {Γ : fGm} {nL : Nat} {Q : α → fSt → State → Prop} {pc : Nat} {lc : List (Nat × Value)} {stk : β → List Value} {st : fSt} {x : β} {k : β → Option (α × fSt)} (K : ∀ y : β, fW Δ Γ nL Q pc lc (stk y) st (k y)) : fW Δ Γ nL Q pc lc (stk x) st (fLt x k) := K x
theorem r_join {α β : Type} {Δ : fDl} {Γ : fGm} {nL : Nat} {Q : α → fSt → State → Prop} {pc : Nat} {lc : List (Nat × Value)} {stk : List Value} {st : fSt} {f : β} {b : β → Option (α × fSt)} (P : β → Prop) (hJ : P f) (hB : ∀ j, P j → fW Δ Γ nL Q pc lc stk st (b j)) : fW Δ Γ nL Q pc lc stk st (fJn f b) := hB f hJ
theorem r_locs {α : Type} {Δ : fDl} {Γ : fGm} {nL : Nat} {Q : α → fSt → State → Prop} {pc : Nat} {lc lc' : List (Nat × Value)} {stk : List Value} {st : fSt} {k : Option (α × fSt)} (ps : List Nat) (h : lv_pick lc ps = lc') (K : fW Δ Γ nL Q pc lc' stk st k) : fW Δ Γ nL Q pc lc stk st k := by
  obtain ⟨l, D, cA, ad, N⟩ := Δ
  obtain ⟨p, e, R, s, m, args, below, meth, c, H0, A, cells, slots⟩ := Γ
  intro r st' hk H locs ls hl hR hS
  exact K r st' hk H locs ls (lv_sub hl ps h) hR hS
theorem r_bif {α : Type} {Δ : fDl} {Γ : fGm} {nL : Nat} {Q : α → fSt → State → Prop} {pc : Nat} {lc : List (Nat × Value)} {stk : List Value} {st : fSt} {P : Prop} [Decidable P] {k1 k2 : Option (α × fSt)} (a : P → fW Δ Γ nL Q pc lc stk st k1) (b : ¬ P → fW Δ Γ nL Q pc lc stk st k2) : fW Δ Γ nL Q pc lc stk st (if P then k1 else k2) := by
  by_cases h : P
  · rw [if_pos h]
    exact a h
  · rw [if_neg h]
    exact b h

theorem r_iconst {α : Type} {Δ : fDl} {Γ : fGm} {nL : Nat} {Q : α → fSt → State → Prop} {cc : ByteArray} {own : String} {ret : Option FieldType} {lev pc q : Nat} {lc : List (Nat × Value)} {stk : List Value} {st : fSt} {k : Option (α × fSt)} {n : Int} {v : Int32} (C : fC Δ Γ cc own nL ret lev) (hd : decode cc pc = .ok (.iconst n, 1)) (hq : pc + 1 = q) (hv : Int32.ofInt n = v)
    (K : fW Δ Γ nL Q q lc (.int v :: stk) st k) : fW Δ Γ nL Q pc lc (stk) st k := by
  subst hq
  obtain ⟨l, D, cA, ad, N⟩ := Δ
  obtain ⟨p, e, R, s, m, args, below, meth, c, H0, A, cells, slots⟩ := Γ
  obtain ⟨hx, hb, hml, hown, hts, hK, hI, hA, hr, hlk, hf1, hf2, hc1, hc2, h00, hNs⟩ := C
  intro r st' hk H locs ls hl hR hS
  exact lv_iconst hx hb hd hv (K r st' hk H locs ls hl hR hS)

theorem r_bipush {α : Type} {Δ : fDl} {Γ : fGm} {nL : Nat} {Q : α → fSt → State → Prop} {cc : ByteArray} {own : String} {ret : Option FieldType} {lev pc q : Nat} {lc : List (Nat × Value)} {stk : List Value} {st : fSt} {k : Option (α × fSt)} {n : Int} {v : Int32} (C : fC Δ Γ cc own nL ret lev) (hd : decode cc pc = .ok (.bipush n, 2)) (hq : pc + 2 = q) (hv : (Int8.ofInt n).toInt32 = v)
    (K : fW Δ Γ nL Q q lc (.int v :: stk) st k) : fW Δ Γ nL Q pc lc (stk) st k := by
  subst hq
  obtain ⟨l, D, cA, ad, N⟩ := Δ
  obtain ⟨p, e, R, s, m, args, below, meth, c, H0, A, cells, slots⟩ := Γ
  obtain ⟨hx, hb, hml, hown, hts, hK, hI, hA, hr, hlk, hf1, hf2, hc1, hc2, h00, hNs⟩ := C
  intro r st' hk H locs ls hl hR hS
  exact lv_bipush hx hb hd hv (K r st' hk H locs ls hl hR hS)

theorem r_sipush {α : Type} {Δ : fDl} {Γ : fGm} {nL : Nat} {Q : α → fSt → State → Prop} {cc : ByteArray} {own : String} {ret : Option FieldType} {lev pc q : Nat} {lc : List (Nat × Value)} {stk : List Value} {st : fSt} {k : Option (α × fSt)} {n : Int} {v : Int32} (C : fC Δ Γ cc own nL ret lev) (hd : decode cc pc = .ok (.sipush n, 3)) (hq : pc + 3 = q) (hv : (Int16.ofInt n).toInt32 = v)
    (K : fW Δ Γ nL Q q lc (.int v :: stk) st k) : fW Δ Γ nL Q pc lc (stk) st k := by
  subst hq
  obtain ⟨l, D, cA, ad, N⟩ := Δ
  obtain ⟨p, e, R, s, m, args, below, meth, c, H0, A, cells, slots⟩ := Γ
  obtain ⟨hx, hb, hml, hown, hts, hK, hI, hA, hr, hlk, hf1, hf2, hc1, hc2, h00, hNs⟩ := C
  intro r st' hk H locs ls hl hR hS
  exact lv_sipush hx hb hd hv (K r st' hk H locs ls hl hR hS)

theorem r_lconst {α : Type} {Δ : fDl} {Γ : fGm} {nL : Nat} {Q : α → fSt → State → Prop} {cc : ByteArray} {own : String} {ret : Option FieldType} {lev pc q : Nat} {lc : List (Nat × Value)} {stk : List Value} {st : fSt} {k : Option (α × fSt)} {n : Fin 2} {v : Int64} (C : fC Δ Γ cc own nL ret lev) (hd : decode cc pc = .ok (.lconst n, 1)) (hq : pc + 1 = q) (hv : Int64.ofNat (n : Nat) = v)
    (K : fW Δ Γ nL Q q lc (.long v :: stk) st k) : fW Δ Γ nL Q pc lc (stk) st k := by
  subst hq
  obtain ⟨l, D, cA, ad, N⟩ := Δ
  obtain ⟨p, e, R, s, m, args, below, meth, c, H0, A, cells, slots⟩ := Γ
  obtain ⟨hx, hb, hml, hown, hts, hK, hI, hA, hr, hlk, hf1, hf2, hc1, hc2, h00, hNs⟩ := C
  intro r st' hk H locs ls hl hR hS
  exact lv_lconst hx hb hd hv (K r st' hk H locs ls hl hR hS)

theorem r_null {α : Type} {Δ : fDl} {Γ : fGm} {nL : Nat} {Q : α → fSt → State → Prop} {cc : ByteArray} {own : String} {ret : Option FieldType} {lev pc q : Nat} {lc : List (Nat × Value)} {stk : List Value} {st : fSt} {k : Option (α × fSt)}  (C : fC Δ Γ cc own nL ret lev) (hd : decode cc pc = .ok (.aconst_null, 1)) (hq : pc + 1 = q)
    (K : fW Δ Γ nL Q q lc (.null :: stk) st k) : fW Δ Γ nL Q pc lc (stk) st k := by
  subst hq
  obtain ⟨l, D, cA, ad, N⟩ := Δ
  obtain ⟨p, e, R, s, m, args, below, meth, c, H0, A, cells, slots⟩ := Γ
  obtain ⟨hx, hb, hml, hown, hts, hK, hI, hA, hr, hlk, hf1, hf2, hc1, hc2, h00, hNs⟩ := C
  intro r st' hk H locs ls hl hR hS
  exact lv_null hx hb hd (K r st' hk H locs ls hl hR hS)

theorem r_ldc {α : Type} {Δ : fDl} {Γ : fGm} {nL : Nat} {Q : α → fSt → State → Prop} {cc : ByteArray} {own : String} {ret : Option FieldType} {lev pc q : Nat} {lc : List (Nat × Value)} {stk : List Value} {st : fSt} {k : Option (α × fSt)} {ix : Nat} {v : Int32} (C : fC Δ Γ cc own nL ret lev) (hd : decode cc pc = .ok (.ldc ix, 2)) (hq : pc + 2 = q) (hw : Jvm.Cond.constant own ix v ∈ fT)
    (K : fW Δ Γ nL Q q lc (.int v :: stk) st k) : fW Δ Γ nL Q pc lc (stk) st k := by
  subst hq
  obtain ⟨l, D, cA, ad, N⟩ := Δ
  obtain ⟨p, e, R, s, m, args, below, meth, c, H0, A, cells, slots⟩ := Γ
  obtain ⟨hx, hb, hml, hown, hts, hK, hI, hA, hr, hlk, hf1, hf2, hc1, hc2, h00, hNs⟩ := C
  intro r st' hk H locs ls hl hR hS
  exact lv_ldc hx hb hown (hts _ hw) hd (K r st' hk H locs ls hl hR hS)

theorem r_ldcw {α : Type} {Δ : fDl} {Γ : fGm} {nL : Nat} {Q : α → fSt → State → Prop} {cc : ByteArray} {own : String} {ret : Option FieldType} {lev pc q : Nat} {lc : List (Nat × Value)} {stk : List Value} {st : fSt} {k : Option (α × fSt)} {ix : Nat} {v : Int32} (C : fC Δ Γ cc own nL ret lev) (hd : decode cc pc = .ok (.ldc_w ix, 3)) (hq : pc + 3 = q) (hw : Jvm.Cond.constant own ix v ∈ fT)
    (K : fW Δ Γ nL Q q lc (.int v :: stk) st k) : fW Δ Γ nL Q pc lc (stk) st k := by
  subst hq
  obtain ⟨l, D, cA, ad, N⟩ := Δ
  obtain ⟨p, e, R, s, m, args, below, meth, c, H0, A, cells, slots⟩ := Γ
  obtain ⟨hx, hb, hml, hown, hts, hK, hI, hA, hr, hlk, hf1, hf2, hc1, hc2, h00, hNs⟩ := C
  intro r st' hk H locs ls hl hR hS
  exact lv_ldcw hx hb hown (hts _ hw) hd (K r st' hk H locs ls hl hR hS)

theorem r_ldc2 {α : Type} {Δ : fDl} {Γ : fGm} {nL : Nat} {Q : α → fSt → State → Prop} {cc : ByteArray} {own : String} {ret : Option FieldType} {lev pc q : Nat} {lc : List (Nat × Value)} {stk : List Value} {st : fSt} {k : Option (α × fSt)} {ix : Nat} {v : Int64} (C : fC Δ Γ cc own nL ret lev) (hd : decode cc pc = .ok (.ldc2_w ix, 3)) (hq : pc + 3 = q) (hw : Jvm.Cond.constantLong own ix v ∈ fT)
    (K : fW Δ Γ nL Q q lc (.long v :: stk) st k) : fW Δ Γ nL Q pc lc (stk) st k := by
  subst hq
  obtain ⟨l, D, cA, ad, N⟩ := Δ
  obtain ⟨p, e, R, s, m, args, below, meth, c, H0, A, cells, slots⟩ := Γ
  obtain ⟨hx, hb, hml, hown, hts, hK, hI, hA, hr, hlk, hf1, hf2, hc1, hc2, h00, hNs⟩ := C
  intro r st' hk H locs ls hl hR hS
  exact lv_ldc2 hx hb hown (hts _ hw) hd (K r st' hk H locs ls hl hR hS)

theorem r_iload_n {α : Type} {Δ : fDl} {Γ : fGm} {nL : Nat} {Q : α → fSt → State → Prop} {cc : ByteArray} {own : String} {ret : Option FieldType} {lev pc q : Nat} {lc : List (Nat × Value)} {stk : List Value} {st : fSt} {k : Option (α × fSt)} {n : Fin 4} {i z : Nat} {x : Int32} (C : fC Δ Γ cc own nL ret lev) (hd : decode cc pc = .ok (.iload_n n, 1)) (hq : pc + 1 = q) (hi : (n : Nat) = i) (hz : lc[z]? = some (i, .int x))
    (K : fW Δ Γ nL Q q lc (.int x :: stk) st k) : fW Δ Γ nL Q pc lc (stk) st k := by
  subst hq
  obtain ⟨l, D, cA, ad, N⟩ := Δ
  obtain ⟨p, e, R, s, m, args, below, meth, c, H0, A, cells, slots⟩ := Γ
  obtain ⟨hx, hb, hml, hown, hts, hK, hI, hA, hr, hlk, hf1, hf2, hc1, hc2, h00, hNs⟩ := C
  intro r st' hk H locs ls hl hR hS
  exact lv_iload_n hx hb hd hi (lv_at hl z hz) (K r st' hk H locs ls hl hR hS)

theorem r_iload {α : Type} {Δ : fDl} {Γ : fGm} {nL : Nat} {Q : α → fSt → State → Prop} {cc : ByteArray} {own : String} {ret : Option FieldType} {lev pc q : Nat} {lc : List (Nat × Value)} {stk : List Value} {st : fSt} {k : Option (α × fSt)} {i z : Nat} {x : Int32} (C : fC Δ Γ cc own nL ret lev) (hd : decode cc pc = .ok (.iload i, 2)) (hq : pc + 2 = q) (hz : lc[z]? = some (i, .int x))
    (K : fW Δ Γ nL Q q lc (.int x :: stk) st k) : fW Δ Γ nL Q pc lc (stk) st k := by
  subst hq
  obtain ⟨l, D, cA, ad, N⟩ := Δ
  obtain ⟨p, e, R, s, m, args, below, meth, c, H0, A, cells, slots⟩ := Γ
  obtain ⟨hx, hb, hml, hown, hts, hK, hI, hA, hr, hlk, hf1, hf2, hc1, hc2, h00, hNs⟩ := C
  intro r st' hk H locs ls hl hR hS
  exact lv_iload hx hb hd (lv_at hl z hz) (K r st' hk H locs ls hl hR hS)

theorem r_lload_n {α : Type} {Δ : fDl} {Γ : fGm} {nL : Nat} {Q : α → fSt → State → Prop} {cc : ByteArray} {own : String} {ret : Option FieldType} {lev pc q : Nat} {lc : List (Nat × Value)} {stk : List Value} {st : fSt} {k : Option (α × fSt)} {n : Fin 4} {i z : Nat} {x : Int64} (C : fC Δ Γ cc own nL ret lev) (hd : decode cc pc = .ok (.lload_n n, 1)) (hq : pc + 1 = q) (hi : (n : Nat) = i) (hz : lc[z]? = some (i, .long x))
    (K : fW Δ Γ nL Q q lc (.long x :: stk) st k) : fW Δ Γ nL Q pc lc (stk) st k := by
  subst hq
  obtain ⟨l, D, cA, ad, N⟩ := Δ
  obtain ⟨p, e, R, s, m, args, below, meth, c, H0, A, cells, slots⟩ := Γ
  obtain ⟨hx, hb, hml, hown, hts, hK, hI, hA, hr, hlk, hf1, hf2, hc1, hc2, h00, hNs⟩ := C
  intro r st' hk H locs ls hl hR hS
  exact lv_lload_n hx hb hd hi (lv_at hl z hz) (K r st' hk H locs ls hl hR hS)

theorem r_lload {α : Type} {Δ : fDl} {Γ : fGm} {nL : Nat} {Q : α → fSt → State → Prop} {cc : ByteArray} {own : String} {ret : Option FieldType} {lev pc q : Nat} {lc : List (Nat × Value)} {stk : List Value} {st : fSt} {k : Option (α × fSt)} {i z : Nat} {x : Int64} (C : fC Δ Γ cc own nL ret lev) (hd : decode cc pc = .ok (.lload i, 2)) (hq : pc + 2 = q) (hz : lc[z]? = some (i, .long x))
    (K : fW Δ Γ nL Q q lc (.long x :: stk) st k) : fW Δ Γ nL Q pc lc (stk) st k := by
  subst hq
  obtain ⟨l, D, cA, ad, N⟩ := Δ
  obtain ⟨p, e, R, s, m, args, below, meth, c, H0, A, cells, slots⟩ := Γ
  obtain ⟨hx, hb, hml, hown, hts, hK, hI, hA, hr, hlk, hf1, hf2, hc1, hc2, h00, hNs⟩ := C
  intro r st' hk H locs ls hl hR hS
  exact lv_lload hx hb hd (lv_at hl z hz) (K r st' hk H locs ls hl hR hS)

theorem r_aload_n {α : Type} {Δ : fDl} {Γ : fGm} {nL : Nat} {Q : α → fSt → State → Prop} {cc : ByteArray} {own : String} {ret : Option FieldType} {lev pc q : Nat} {lc : List (Nat × Value)} {stk : List Value} {st : fSt} {k : Option (α × fSt)} {n : Fin 4} {i z : Nat} {x : Nat} (C : fC Δ Γ cc own nL ret lev) (hd : decode cc pc = .ok (.aload_n n, 1)) (hq : pc + 1 = q) (hi : (n : Nat) = i) (hz : lc[z]? = some (i, .ref x))
    (K : fW Δ Γ nL Q q lc (.ref x :: stk) st k) : fW Δ Γ nL Q pc lc (stk) st k := by
  subst hq
  obtain ⟨l, D, cA, ad, N⟩ := Δ
  obtain ⟨p, e, R, s, m, args, below, meth, c, H0, A, cells, slots⟩ := Γ
  obtain ⟨hx, hb, hml, hown, hts, hK, hI, hA, hr, hlk, hf1, hf2, hc1, hc2, h00, hNs⟩ := C
  intro r st' hk H locs ls hl hR hS
  exact lv_aload_n hx hb hd hi (lv_at hl z hz) (K r st' hk H locs ls hl hR hS)

theorem r_aload {α : Type} {Δ : fDl} {Γ : fGm} {nL : Nat} {Q : α → fSt → State → Prop} {cc : ByteArray} {own : String} {ret : Option FieldType} {lev pc q : Nat} {lc : List (Nat × Value)} {stk : List Value} {st : fSt} {k : Option (α × fSt)} {i z : Nat} {x : Nat} (C : fC Δ Γ cc own nL ret lev) (hd : decode cc pc = .ok (.aload i, 2)) (hq : pc + 2 = q) (hz : lc[z]? = some (i, .ref x))
    (K : fW Δ Γ nL Q q lc (.ref x :: stk) st k) : fW Δ Γ nL Q pc lc (stk) st k := by
  subst hq
  obtain ⟨l, D, cA, ad, N⟩ := Δ
  obtain ⟨p, e, R, s, m, args, below, meth, c, H0, A, cells, slots⟩ := Γ
  obtain ⟨hx, hb, hml, hown, hts, hK, hI, hA, hr, hlk, hf1, hf2, hc1, hc2, h00, hNs⟩ := C
  intro r st' hk H locs ls hl hR hS
  exact lv_aload hx hb hd (lv_at hl z hz) (K r st' hk H locs ls hl hR hS)

theorem r_iadd {α : Type} {Δ : fDl} {Γ : fGm} {nL : Nat} {Q : α → fSt → State → Prop} {cc : ByteArray} {own : String} {ret : Option FieldType} {lev pc q : Nat} {lc : List (Nat × Value)} {stk : List Value} {st : fSt} {k : Option (α × fSt)} {x y : Int32} (C : fC Δ Γ cc own nL ret lev) (hd : decode cc pc = .ok (.iadd, 1)) (hq : pc + 1 = q)
    (K : fW Δ Γ nL Q q lc (.int (x + y) :: stk) st k) : fW Δ Γ nL Q pc lc (.int y :: .int x :: stk) st k := by
  subst hq
  obtain ⟨l, D, cA, ad, N⟩ := Δ
  obtain ⟨p, e, R, s, m, args, below, meth, c, H0, A, cells, slots⟩ := Γ
  obtain ⟨hx, hb, hml, hown, hts, hK, hI, hA, hr, hlk, hf1, hf2, hc1, hc2, h00, hNs⟩ := C
  intro r st' hk H locs ls hl hR hS
  exact lv_iadd hx hb hd (K r st' hk H locs ls hl hR hS)

theorem r_isub {α : Type} {Δ : fDl} {Γ : fGm} {nL : Nat} {Q : α → fSt → State → Prop} {cc : ByteArray} {own : String} {ret : Option FieldType} {lev pc q : Nat} {lc : List (Nat × Value)} {stk : List Value} {st : fSt} {k : Option (α × fSt)} {x y : Int32} (C : fC Δ Γ cc own nL ret lev) (hd : decode cc pc = .ok (.isub, 1)) (hq : pc + 1 = q)
    (K : fW Δ Γ nL Q q lc (.int (x - y) :: stk) st k) : fW Δ Γ nL Q pc lc (.int y :: .int x :: stk) st k := by
  subst hq
  obtain ⟨l, D, cA, ad, N⟩ := Δ
  obtain ⟨p, e, R, s, m, args, below, meth, c, H0, A, cells, slots⟩ := Γ
  obtain ⟨hx, hb, hml, hown, hts, hK, hI, hA, hr, hlk, hf1, hf2, hc1, hc2, h00, hNs⟩ := C
  intro r st' hk H locs ls hl hR hS
  exact lv_isub hx hb hd (K r st' hk H locs ls hl hR hS)

theorem r_imul {α : Type} {Δ : fDl} {Γ : fGm} {nL : Nat} {Q : α → fSt → State → Prop} {cc : ByteArray} {own : String} {ret : Option FieldType} {lev pc q : Nat} {lc : List (Nat × Value)} {stk : List Value} {st : fSt} {k : Option (α × fSt)} {x y : Int32} (C : fC Δ Γ cc own nL ret lev) (hd : decode cc pc = .ok (.imul, 1)) (hq : pc + 1 = q)
    (K : fW Δ Γ nL Q q lc (.int (x * y) :: stk) st k) : fW Δ Γ nL Q pc lc (.int y :: .int x :: stk) st k := by
  subst hq
  obtain ⟨l, D, cA, ad, N⟩ := Δ
  obtain ⟨p, e, R, s, m, args, below, meth, c, H0, A, cells, slots⟩ := Γ
  obtain ⟨hx, hb, hml, hown, hts, hK, hI, hA, hr, hlk, hf1, hf2, hc1, hc2, h00, hNs⟩ := C
  intro r st' hk H locs ls hl hR hS
  exact lv_imul hx hb hd (K r st' hk H locs ls hl hR hS)

theorem r_iand {α : Type} {Δ : fDl} {Γ : fGm} {nL : Nat} {Q : α → fSt → State → Prop} {cc : ByteArray} {own : String} {ret : Option FieldType} {lev pc q : Nat} {lc : List (Nat × Value)} {stk : List Value} {st : fSt} {k : Option (α × fSt)} {x y : Int32} (C : fC Δ Γ cc own nL ret lev) (hd : decode cc pc = .ok (.iand, 1)) (hq : pc + 1 = q)
    (K : fW Δ Γ nL Q q lc (.int (x &&& y) :: stk) st k) : fW Δ Γ nL Q pc lc (.int y :: .int x :: stk) st k := by
  subst hq
  obtain ⟨l, D, cA, ad, N⟩ := Δ
  obtain ⟨p, e, R, s, m, args, below, meth, c, H0, A, cells, slots⟩ := Γ
  obtain ⟨hx, hb, hml, hown, hts, hK, hI, hA, hr, hlk, hf1, hf2, hc1, hc2, h00, hNs⟩ := C
  intro r st' hk H locs ls hl hR hS
  exact lv_iand hx hb hd (K r st' hk H locs ls hl hR hS)

theorem r_ior {α : Type} {Δ : fDl} {Γ : fGm} {nL : Nat} {Q : α → fSt → State → Prop} {cc : ByteArray} {own : String} {ret : Option FieldType} {lev pc q : Nat} {lc : List (Nat × Value)} {stk : List Value} {st : fSt} {k : Option (α × fSt)} {x y : Int32} (C : fC Δ Γ cc own nL ret lev) (hd : decode cc pc = .ok (.ior, 1)) (hq : pc + 1 = q)
    (K : fW Δ Γ nL Q q lc (.int (x ||| y) :: stk) st k) : fW Δ Γ nL Q pc lc (.int y :: .int x :: stk) st k := by
  subst hq
  obtain ⟨l, D, cA, ad, N⟩ := Δ
  obtain ⟨p, e, R, s, m, args, below, meth, c, H0, A, cells, slots⟩ := Γ
  obtain ⟨hx, hb, hml, hown, hts, hK, hI, hA, hr, hlk, hf1, hf2, hc1, hc2, h00, hNs⟩ := C
  intro r st' hk H locs ls hl hR hS
  exact lv_ior hx hb hd (K r st' hk H locs ls hl hR hS)

theorem r_ixor {α : Type} {Δ : fDl} {Γ : fGm} {nL : Nat} {Q : α → fSt → State → Prop} {cc : ByteArray} {own : String} {ret : Option FieldType} {lev pc q : Nat} {lc : List (Nat × Value)} {stk : List Value} {st : fSt} {k : Option (α × fSt)} {x y : Int32} (C : fC Δ Γ cc own nL ret lev) (hd : decode cc pc = .ok (.ixor, 1)) (hq : pc + 1 = q)
    (K : fW Δ Γ nL Q q lc (.int (x ^^^ y) :: stk) st k) : fW Δ Γ nL Q pc lc (.int y :: .int x :: stk) st k := by
  subst hq
  obtain ⟨l, D, cA, ad, N⟩ := Δ
  obtain ⟨p, e, R, s, m, args, below, meth, c, H0, A, cells, slots⟩ := Γ
  obtain ⟨hx, hb, hml, hown, hts, hK, hI, hA, hr, hlk, hf1, hf2, hc1, hc2, h00, hNs⟩ := C
  intro r st' hk H locs ls hl hR hS
  exact lv_ixor hx hb hd (K r st' hk H locs ls hl hR hS)

theorem r_ishl {α : Type} {Δ : fDl} {Γ : fGm} {nL : Nat} {Q : α → fSt → State → Prop} {cc : ByteArray} {own : String} {ret : Option FieldType} {lev pc q : Nat} {lc : List (Nat × Value)} {stk : List Value} {st : fSt} {k : Option (α × fSt)} {x y : Int32} (C : fC Δ Γ cc own nL ret lev) (hd : decode cc pc = .ok (.ishl, 1)) (hq : pc + 1 = q)
    (K : fW Δ Γ nL Q q lc (.int (x <<< (y &&& 31)) :: stk) st k) : fW Δ Γ nL Q pc lc (.int y :: .int x :: stk) st k := by
  subst hq
  obtain ⟨l, D, cA, ad, N⟩ := Δ
  obtain ⟨p, e, R, s, m, args, below, meth, c, H0, A, cells, slots⟩ := Γ
  obtain ⟨hx, hb, hml, hown, hts, hK, hI, hA, hr, hlk, hf1, hf2, hc1, hc2, h00, hNs⟩ := C
  intro r st' hk H locs ls hl hR hS
  exact lv_ishl hx hb hd (K r st' hk H locs ls hl hR hS)

theorem r_ishr {α : Type} {Δ : fDl} {Γ : fGm} {nL : Nat} {Q : α → fSt → State → Prop} {cc : ByteArray} {own : String} {ret : Option FieldType} {lev pc q : Nat} {lc : List (Nat × Value)} {stk : List Value} {st : fSt} {k : Option (α × fSt)} {x y : Int32} (C : fC Δ Γ cc own nL ret lev) (hd : decode cc pc = .ok (.ishr, 1)) (hq : pc + 1 = q)
    (K : fW Δ Γ nL Q q lc (.int (x >>> (y &&& 31)) :: stk) st k) : fW Δ Γ nL Q pc lc (.int y :: .int x :: stk) st k := by
  subst hq
  obtain ⟨l, D, cA, ad, N⟩ := Δ
  obtain ⟨p, e, R, s, m, args, below, meth, c, H0, A, cells, slots⟩ := Γ
  obtain ⟨hx, hb, hml, hown, hts, hK, hI, hA, hr, hlk, hf1, hf2, hc1, hc2, h00, hNs⟩ := C
  intro r st' hk H locs ls hl hR hS
  exact lv_ishr hx hb hd (K r st' hk H locs ls hl hR hS)

theorem r_iushr {α : Type} {Δ : fDl} {Γ : fGm} {nL : Nat} {Q : α → fSt → State → Prop} {cc : ByteArray} {own : String} {ret : Option FieldType} {lev pc q : Nat} {lc : List (Nat × Value)} {stk : List Value} {st : fSt} {k : Option (α × fSt)} {x y : Int32} (C : fC Δ Γ cc own nL ret lev) (hd : decode cc pc = .ok (.iushr, 1)) (hq : pc + 1 = q)
    (K : fW Δ Γ nL Q q lc (.int (x.toUInt32 >>> (y.toUInt32 &&& Int32.toUInt32 31)).toInt32 :: stk) st k) : fW Δ Γ nL Q pc lc (.int y :: .int x :: stk) st k := by
  subst hq
  obtain ⟨l, D, cA, ad, N⟩ := Δ
  obtain ⟨p, e, R, s, m, args, below, meth, c, H0, A, cells, slots⟩ := Γ
  obtain ⟨hx, hb, hml, hown, hts, hK, hI, hA, hr, hlk, hf1, hf2, hc1, hc2, h00, hNs⟩ := C
  intro r st' hk H locs ls hl hR hS
  exact lv_iushr hx hb hd rfl (K r st' hk H locs ls hl hR hS)

theorem r_ineg {α : Type} {Δ : fDl} {Γ : fGm} {nL : Nat} {Q : α → fSt → State → Prop} {cc : ByteArray} {own : String} {ret : Option FieldType} {lev pc q : Nat} {lc : List (Nat × Value)} {stk : List Value} {st : fSt} {k : Option (α × fSt)} {x : Int32} (C : fC Δ Γ cc own nL ret lev) (hd : decode cc pc = .ok (.ineg, 1)) (hq : pc + 1 = q)
    (K : fW Δ Γ nL Q q lc (.int (-x) :: stk) st k) : fW Δ Γ nL Q pc lc (.int x :: stk) st k := by
  subst hq
  obtain ⟨l, D, cA, ad, N⟩ := Δ
  obtain ⟨p, e, R, s, m, args, below, meth, c, H0, A, cells, slots⟩ := Γ
  obtain ⟨hx, hb, hml, hown, hts, hK, hI, hA, hr, hlk, hf1, hf2, hc1, hc2, h00, hNs⟩ := C
  intro r st' hk H locs ls hl hR hS
  exact lv_ineg hx hb hd (K r st' hk H locs ls hl hR hS)

theorem r_i2b {α : Type} {Δ : fDl} {Γ : fGm} {nL : Nat} {Q : α → fSt → State → Prop} {cc : ByteArray} {own : String} {ret : Option FieldType} {lev pc q : Nat} {lc : List (Nat × Value)} {stk : List Value} {st : fSt} {k : Option (α × fSt)} {x : Int32} (C : fC Δ Γ cc own nL ret lev) (hd : decode cc pc = .ok (.i2b, 1)) (hq : pc + 1 = q)
    (K : fW Δ Γ nL Q q lc (.int x.toInt8.toInt32 :: stk) st k) : fW Δ Γ nL Q pc lc (.int x :: stk) st k := by
  subst hq
  obtain ⟨l, D, cA, ad, N⟩ := Δ
  obtain ⟨p, e, R, s, m, args, below, meth, c, H0, A, cells, slots⟩ := Γ
  obtain ⟨hx, hb, hml, hown, hts, hK, hI, hA, hr, hlk, hf1, hf2, hc1, hc2, h00, hNs⟩ := C
  intro r st' hk H locs ls hl hR hS
  exact lv_i2b hx hb hd rfl (K r st' hk H locs ls hl hR hS)

theorem r_i2s {α : Type} {Δ : fDl} {Γ : fGm} {nL : Nat} {Q : α → fSt → State → Prop} {cc : ByteArray} {own : String} {ret : Option FieldType} {lev pc q : Nat} {lc : List (Nat × Value)} {stk : List Value} {st : fSt} {k : Option (α × fSt)} {x : Int32} (C : fC Δ Γ cc own nL ret lev) (hd : decode cc pc = .ok (.i2s, 1)) (hq : pc + 1 = q)
    (K : fW Δ Γ nL Q q lc (.int x.toInt16.toInt32 :: stk) st k) : fW Δ Γ nL Q pc lc (.int x :: stk) st k := by
  subst hq
  obtain ⟨l, D, cA, ad, N⟩ := Δ
  obtain ⟨p, e, R, s, m, args, below, meth, c, H0, A, cells, slots⟩ := Γ
  obtain ⟨hx, hb, hml, hown, hts, hK, hI, hA, hr, hlk, hf1, hf2, hc1, hc2, h00, hNs⟩ := C
  intro r st' hk H locs ls hl hR hS
  exact lv_i2s hx hb hd rfl (K r st' hk H locs ls hl hR hS)

theorem r_i2l {α : Type} {Δ : fDl} {Γ : fGm} {nL : Nat} {Q : α → fSt → State → Prop} {cc : ByteArray} {own : String} {ret : Option FieldType} {lev pc q : Nat} {lc : List (Nat × Value)} {stk : List Value} {st : fSt} {k : Option (α × fSt)} {x : Int32} (C : fC Δ Γ cc own nL ret lev) (hd : decode cc pc = .ok (.i2l, 1)) (hq : pc + 1 = q)
    (K : fW Δ Γ nL Q q lc (.long x.toInt64 :: stk) st k) : fW Δ Γ nL Q pc lc (.int x :: stk) st k := by
  subst hq
  obtain ⟨l, D, cA, ad, N⟩ := Δ
  obtain ⟨p, e, R, s, m, args, below, meth, c, H0, A, cells, slots⟩ := Γ
  obtain ⟨hx, hb, hml, hown, hts, hK, hI, hA, hr, hlk, hf1, hf2, hc1, hc2, h00, hNs⟩ := C
  intro r st' hk H locs ls hl hR hS
  exact lv_i2l hx hb hd rfl (K r st' hk H locs ls hl hR hS)

theorem r_l2i {α : Type} {Δ : fDl} {Γ : fGm} {nL : Nat} {Q : α → fSt → State → Prop} {cc : ByteArray} {own : String} {ret : Option FieldType} {lev pc q : Nat} {lc : List (Nat × Value)} {stk : List Value} {st : fSt} {k : Option (α × fSt)} {x : Int64} (C : fC Δ Γ cc own nL ret lev) (hd : decode cc pc = .ok (.l2i, 1)) (hq : pc + 1 = q)
    (K : fW Δ Γ nL Q q lc (.int x.toInt32 :: stk) st k) : fW Δ Γ nL Q pc lc (.long x :: stk) st k := by
  subst hq
  obtain ⟨l, D, cA, ad, N⟩ := Δ
  obtain ⟨p, e, R, s, m, args, below, meth, c, H0, A, cells, slots⟩ := Γ
  obtain ⟨hx, hb, hml, hown, hts, hK, hI, hA, hr, hlk, hf1, hf2, hc1, hc2, h00, hNs⟩ := C
  intro r st' hk H locs ls hl hR hS
  exact lv_l2i hx hb hd rfl (K r st' hk H locs ls hl hR hS)

theorem r_ladd {α : Type} {Δ : fDl} {Γ : fGm} {nL : Nat} {Q : α → fSt → State → Prop} {cc : ByteArray} {own : String} {ret : Option FieldType} {lev pc q : Nat} {lc : List (Nat × Value)} {stk : List Value} {st : fSt} {k : Option (α × fSt)} {x y : Int64} (C : fC Δ Γ cc own nL ret lev) (hd : decode cc pc = .ok (.ladd, 1)) (hq : pc + 1 = q)
    (K : fW Δ Γ nL Q q lc (.long (x + y) :: stk) st k) : fW Δ Γ nL Q pc lc (.long y :: .long x :: stk) st k := by
  subst hq
  obtain ⟨l, D, cA, ad, N⟩ := Δ
  obtain ⟨p, e, R, s, m, args, below, meth, c, H0, A, cells, slots⟩ := Γ
  obtain ⟨hx, hb, hml, hown, hts, hK, hI, hA, hr, hlk, hf1, hf2, hc1, hc2, h00, hNs⟩ := C
  intro r st' hk H locs ls hl hR hS
  exact lv_ladd hx hb hd (K r st' hk H locs ls hl hR hS)

theorem r_lsub {α : Type} {Δ : fDl} {Γ : fGm} {nL : Nat} {Q : α → fSt → State → Prop} {cc : ByteArray} {own : String} {ret : Option FieldType} {lev pc q : Nat} {lc : List (Nat × Value)} {stk : List Value} {st : fSt} {k : Option (α × fSt)} {x y : Int64} (C : fC Δ Γ cc own nL ret lev) (hd : decode cc pc = .ok (.lsub, 1)) (hq : pc + 1 = q)
    (K : fW Δ Γ nL Q q lc (.long (x - y) :: stk) st k) : fW Δ Γ nL Q pc lc (.long y :: .long x :: stk) st k := by
  subst hq
  obtain ⟨l, D, cA, ad, N⟩ := Δ
  obtain ⟨p, e, R, s, m, args, below, meth, c, H0, A, cells, slots⟩ := Γ
  obtain ⟨hx, hb, hml, hown, hts, hK, hI, hA, hr, hlk, hf1, hf2, hc1, hc2, h00, hNs⟩ := C
  intro r st' hk H locs ls hl hR hS
  exact lv_lsub hx hb hd (K r st' hk H locs ls hl hR hS)

theorem r_lmul {α : Type} {Δ : fDl} {Γ : fGm} {nL : Nat} {Q : α → fSt → State → Prop} {cc : ByteArray} {own : String} {ret : Option FieldType} {lev pc q : Nat} {lc : List (Nat × Value)} {stk : List Value} {st : fSt} {k : Option (α × fSt)} {x y : Int64} (C : fC Δ Γ cc own nL ret lev) (hd : decode cc pc = .ok (.lmul, 1)) (hq : pc + 1 = q)
    (K : fW Δ Γ nL Q q lc (.long (x * y) :: stk) st k) : fW Δ Γ nL Q pc lc (.long y :: .long x :: stk) st k := by
  subst hq
  obtain ⟨l, D, cA, ad, N⟩ := Δ
  obtain ⟨p, e, R, s, m, args, below, meth, c, H0, A, cells, slots⟩ := Γ
  obtain ⟨hx, hb, hml, hown, hts, hK, hI, hA, hr, hlk, hf1, hf2, hc1, hc2, h00, hNs⟩ := C
  intro r st' hk H locs ls hl hR hS
  exact lv_lmul hx hb hd (K r st' hk H locs ls hl hR hS)

theorem r_land {α : Type} {Δ : fDl} {Γ : fGm} {nL : Nat} {Q : α → fSt → State → Prop} {cc : ByteArray} {own : String} {ret : Option FieldType} {lev pc q : Nat} {lc : List (Nat × Value)} {stk : List Value} {st : fSt} {k : Option (α × fSt)} {x y : Int64} (C : fC Δ Γ cc own nL ret lev) (hd : decode cc pc = .ok (.land, 1)) (hq : pc + 1 = q)
    (K : fW Δ Γ nL Q q lc (.long (x &&& y) :: stk) st k) : fW Δ Γ nL Q pc lc (.long y :: .long x :: stk) st k := by
  subst hq
  obtain ⟨l, D, cA, ad, N⟩ := Δ
  obtain ⟨p, e, R, s, m, args, below, meth, c, H0, A, cells, slots⟩ := Γ
  obtain ⟨hx, hb, hml, hown, hts, hK, hI, hA, hr, hlk, hf1, hf2, hc1, hc2, h00, hNs⟩ := C
  intro r st' hk H locs ls hl hR hS
  exact lv_land hx hb hd (K r st' hk H locs ls hl hR hS)

theorem r_lor {α : Type} {Δ : fDl} {Γ : fGm} {nL : Nat} {Q : α → fSt → State → Prop} {cc : ByteArray} {own : String} {ret : Option FieldType} {lev pc q : Nat} {lc : List (Nat × Value)} {stk : List Value} {st : fSt} {k : Option (α × fSt)} {x y : Int64} (C : fC Δ Γ cc own nL ret lev) (hd : decode cc pc = .ok (.lor, 1)) (hq : pc + 1 = q)
    (K : fW Δ Γ nL Q q lc (.long (x ||| y) :: stk) st k) : fW Δ Γ nL Q pc lc (.long y :: .long x :: stk) st k := by
  subst hq
  obtain ⟨l, D, cA, ad, N⟩ := Δ
  obtain ⟨p, e, R, s, m, args, below, meth, c, H0, A, cells, slots⟩ := Γ
  obtain ⟨hx, hb, hml, hown, hts, hK, hI, hA, hr, hlk, hf1, hf2, hc1, hc2, h00, hNs⟩ := C
  intro r st' hk H locs ls hl hR hS
  exact lv_lor hx hb hd (K r st' hk H locs ls hl hR hS)

theorem r_lxor {α : Type} {Δ : fDl} {Γ : fGm} {nL : Nat} {Q : α → fSt → State → Prop} {cc : ByteArray} {own : String} {ret : Option FieldType} {lev pc q : Nat} {lc : List (Nat × Value)} {stk : List Value} {st : fSt} {k : Option (α × fSt)} {x y : Int64} (C : fC Δ Γ cc own nL ret lev) (hd : decode cc pc = .ok (.lxor, 1)) (hq : pc + 1 = q)
    (K : fW Δ Γ nL Q q lc (.long (x ^^^ y) :: stk) st k) : fW Δ Γ nL Q pc lc (.long y :: .long x :: stk) st k := by
  subst hq
  obtain ⟨l, D, cA, ad, N⟩ := Δ
  obtain ⟨p, e, R, s, m, args, below, meth, c, H0, A, cells, slots⟩ := Γ
  obtain ⟨hx, hb, hml, hown, hts, hK, hI, hA, hr, hlk, hf1, hf2, hc1, hc2, h00, hNs⟩ := C
  intro r st' hk H locs ls hl hR hS
  exact lv_lxor hx hb hd (K r st' hk H locs ls hl hR hS)

theorem r_lshl {α : Type} {Δ : fDl} {Γ : fGm} {nL : Nat} {Q : α → fSt → State → Prop} {cc : ByteArray} {own : String} {ret : Option FieldType} {lev pc q : Nat} {lc : List (Nat × Value)} {stk : List Value} {st : fSt} {k : Option (α × fSt)} {x : Int64} {y : Int32} (C : fC Δ Γ cc own nL ret lev) (hd : decode cc pc = .ok (.lshl, 1)) (hq : pc + 1 = q)
    (K : fW Δ Γ nL Q q lc (.long (x <<< (y.toInt64 &&& 63)) :: stk) st k) : fW Δ Γ nL Q pc lc (.int y :: .long x :: stk) st k := by
  subst hq
  obtain ⟨l, D, cA, ad, N⟩ := Δ
  obtain ⟨p, e, R, s, m, args, below, meth, c, H0, A, cells, slots⟩ := Γ
  obtain ⟨hx, hb, hml, hown, hts, hK, hI, hA, hr, hlk, hf1, hf2, hc1, hc2, h00, hNs⟩ := C
  intro r st' hk H locs ls hl hR hS
  exact lv_lshl hx hb hd rfl (K r st' hk H locs ls hl hR hS)

theorem r_lcmp {α : Type} {Δ : fDl} {Γ : fGm} {nL : Nat} {Q : α → fSt → State → Prop} {cc : ByteArray} {own : String} {ret : Option FieldType} {lev pc q : Nat} {lc : List (Nat × Value)} {stk : List Value} {st : fSt} {k : Option (α × fSt)} {x y : Int64} (C : fC Δ Γ cc own nL ret lev) (hd : decode cc pc = .ok (.lcmp, 1)) (hq : pc + 1 = q)
    (K : fW Δ Γ nL Q q lc (.int (lg_cmp x y) :: stk) st k) : fW Δ Γ nL Q pc lc (.long y :: .long x :: stk) st k := by
  subst hq
  obtain ⟨l, D, cA, ad, N⟩ := Δ
  obtain ⟨p, e, R, s, m, args, below, meth, c, H0, A, cells, slots⟩ := Γ
  obtain ⟨hx, hb, hml, hown, hts, hK, hI, hA, hr, hlk, hf1, hf2, hc1, hc2, h00, hNs⟩ := C
  intro r st' hk H locs ls hl hR hS
  exact W.lcmp hx hb hd (K r st' hk H locs ls hl hR hS)

theorem r_lneg {α : Type} {Δ : fDl} {Γ : fGm} {nL : Nat} {Q : α → fSt → State → Prop} {cc : ByteArray} {own : String} {ret : Option FieldType} {lev pc q : Nat} {lc : List (Nat × Value)} {stk : List Value} {st : fSt} {k : Option (α × fSt)} {x : Int64} (C : fC Δ Γ cc own nL ret lev) (hd : decode cc pc = .ok (.lneg, 1)) (hq : pc + 1 = q)
    (K : fW Δ Γ nL Q q lc (.long (-x) :: stk) st k) : fW Δ Γ nL Q pc lc (.long x :: stk) st k := by
  subst hq
  obtain ⟨l, D, cA, ad, N⟩ := Δ
  obtain ⟨p, e, R, s, m, args, below, meth, c, H0, A, cells, slots⟩ := Γ
  obtain ⟨hx, hb, hml, hown, hts, hK, hI, hA, hr, hlk, hf1, hf2, hc1, hc2, h00, hNs⟩ := C
  intro r st' hk H locs ls hl hR hS
  exact lv_lneg hx hb hd (K r st' hk H locs ls hl hR hS)

theorem r_dup {α : Type} {Δ : fDl} {Γ : fGm} {nL : Nat} {Q : α → fSt → State → Prop} {cc : ByteArray} {own : String} {ret : Option FieldType} {lev pc q : Nat} {lc : List (Nat × Value)} {stk : List Value} {st : fSt} {k : Option (α × fSt)} {va : Value} (C : fC Δ Γ cc own nL ret lev) (hd : decode cc pc = .ok (.dup, 1)) (hq : pc + 1 = q) (hva : va.category = 1)
    (K : fW Δ Γ nL Q q lc (va :: va :: stk) st k) : fW Δ Γ nL Q pc lc (va :: stk) st k := by
  subst hq
  obtain ⟨l, D, cA, ad, N⟩ := Δ
  obtain ⟨p, e, R, s, m, args, below, meth, c, H0, A, cells, slots⟩ := Γ
  obtain ⟨hx, hb, hml, hown, hts, hK, hI, hA, hr, hlk, hf1, hf2, hc1, hc2, h00, hNs⟩ := C
  intro r st' hk H locs ls hl hR hS
  exact lv_dup hx hb hd hva (K r st' hk H locs ls hl hR hS)

theorem r_pop {α : Type} {Δ : fDl} {Γ : fGm} {nL : Nat} {Q : α → fSt → State → Prop} {cc : ByteArray} {own : String} {ret : Option FieldType} {lev pc q : Nat} {lc : List (Nat × Value)} {stk : List Value} {st : fSt} {k : Option (α × fSt)} {va : Value} (C : fC Δ Γ cc own nL ret lev) (hd : decode cc pc = .ok (.pop, 1)) (hq : pc + 1 = q) (hva : va.category = 1)
    (K : fW Δ Γ nL Q q lc (stk) st k) : fW Δ Γ nL Q pc lc (va :: stk) st k := by
  subst hq
  obtain ⟨l, D, cA, ad, N⟩ := Δ
  obtain ⟨p, e, R, s, m, args, below, meth, c, H0, A, cells, slots⟩ := Γ
  obtain ⟨hx, hb, hml, hown, hts, hK, hI, hA, hr, hlk, hf1, hf2, hc1, hc2, h00, hNs⟩ := C
  intro r st' hk H locs ls hl hR hS
  exact lv_pop hx hb hd hva (K r st' hk H locs ls hl hR hS)

theorem r_dup_x1 {α : Type} {Δ : fDl} {Γ : fGm} {nL : Nat} {Q : α → fSt → State → Prop} {cc : ByteArray} {own : String} {ret : Option FieldType} {lev pc q : Nat} {lc : List (Nat × Value)} {stk : List Value} {st : fSt} {k : Option (α × fSt)} {va vb : Value} (C : fC Δ Γ cc own nL ret lev) (hd : decode cc pc = .ok (.dup_x1, 1)) (hq : pc + 1 = q) (hva : va.category = 1) (hvb : vb.category = 1)
    (K : fW Δ Γ nL Q q lc (va :: vb :: va :: stk) st k) : fW Δ Γ nL Q pc lc (va :: vb :: stk) st k := by
  subst hq
  obtain ⟨l, D, cA, ad, N⟩ := Δ
  obtain ⟨p, e, R, s, m, args, below, meth, c, H0, A, cells, slots⟩ := Γ
  obtain ⟨hx, hb, hml, hown, hts, hK, hI, hA, hr, hlk, hf1, hf2, hc1, hc2, h00, hNs⟩ := C
  intro r st' hk H locs ls hl hR hS
  exact lv_dup_x1 hx hb hd hva hvb (K r st' hk H locs ls hl hR hS)

theorem r_dup_x2 {α : Type} {Δ : fDl} {Γ : fGm} {nL : Nat} {Q : α → fSt → State → Prop} {cc : ByteArray} {own : String} {ret : Option FieldType} {lev pc q : Nat} {lc : List (Nat × Value)} {stk : List Value} {st : fSt} {k : Option (α × fSt)} {va vb vd : Value} (C : fC Δ Γ cc own nL ret lev) (hd : decode cc pc = .ok (.dup_x2, 1)) (hq : pc + 1 = q) (hva : va.category = 1) (hvb : vb.category = 1) (hvd : vd.category = 1)
    (K : fW Δ Γ nL Q q lc (va :: vb :: vd :: va :: stk) st k) : fW Δ Γ nL Q pc lc (va :: vb :: vd :: stk) st k := by
  subst hq
  obtain ⟨l, D, cA, ad, N⟩ := Δ
  obtain ⟨p, e, R, s, m, args, below, meth, c, H0, A, cells, slots⟩ := Γ
  obtain ⟨hx, hb, hml, hown, hts, hK, hI, hA, hr, hlk, hf1, hf2, hc1, hc2, h00, hNs⟩ := C
  intro r st' hk H locs ls hl hR hS
  exact lv_dup_x2 hx hb hd hva hvb hvd (K r st' hk H locs ls hl hR hS)

theorem r_dup2 {α : Type} {Δ : fDl} {Γ : fGm} {nL : Nat} {Q : α → fSt → State → Prop} {cc : ByteArray} {own : String} {ret : Option FieldType} {lev pc q : Nat} {lc : List (Nat × Value)} {stk : List Value} {st : fSt} {k : Option (α × fSt)} {va vb : Value} (C : fC Δ Γ cc own nL ret lev) (hd : decode cc pc = .ok (.dup2, 1)) (hq : pc + 1 = q) (hva : va.category = 1) (hvb : vb.category = 1)
    (K : fW Δ Γ nL Q q lc (va :: vb :: va :: vb :: stk) st k) : fW Δ Γ nL Q pc lc (va :: vb :: stk) st k := by
  subst hq
  obtain ⟨l, D, cA, ad, N⟩ := Δ
  obtain ⟨p, e, R, s, m, args, below, meth, c, H0, A, cells, slots⟩ := Γ
  obtain ⟨hx, hb, hml, hown, hts, hK, hI, hA, hr, hlk, hf1, hf2, hc1, hc2, h00, hNs⟩ := C
  intro r st' hk H locs ls hl hR hS
  exact lv_dup2_11 hx hb hd hva hvb (K r st' hk H locs ls hl hR hS)

theorem r_dup2L {α : Type} {Δ : fDl} {Γ : fGm} {nL : Nat} {Q : α → fSt → State → Prop} {cc : ByteArray} {own : String} {ret : Option FieldType} {lev pc q : Nat} {lc : List (Nat × Value)} {stk : List Value} {st : fSt} {k : Option (α × fSt)} {va : Value} (C : fC Δ Γ cc own nL ret lev) (hd : decode cc pc = .ok (.dup2, 1)) (hq : pc + 1 = q) (hva : va.category = 2)
    (K : fW Δ Γ nL Q q lc (va :: va :: stk) st k) : fW Δ Γ nL Q pc lc (va :: stk) st k := by
  subst hq
  obtain ⟨l, D, cA, ad, N⟩ := Δ
  obtain ⟨p, e, R, s, m, args, below, meth, c, H0, A, cells, slots⟩ := Γ
  obtain ⟨hx, hb, hml, hown, hts, hK, hI, hA, hr, hlk, hf1, hf2, hc1, hc2, h00, hNs⟩ := C
  intro r st' hk H locs ls hl hR hS
  exact lv_dup2_2 hx hb hd hva (K r st' hk H locs ls hl hR hS)

theorem r_idiv {α : Type} {Δ : fDl} {Γ : fGm} {nL : Nat} {Q : α → fSt → State → Prop} {cc : ByteArray} {own : String} {ret : Option FieldType} {lev pc q : Nat} {lc : List (Nat × Value)} {stk : List Value} {st : fSt} {k : Option (α × fSt)} {x y : Int32} (C : fC Δ Γ cc own nL ret lev) (hd : decode cc pc = .ok (.idiv, 1)) (hq : pc + 1 = q)
    (K : fW Δ Γ nL Q q lc (.int (x / y) :: stk) st k) : fW Δ Γ nL Q pc lc (.int y :: .int x :: stk) st (fNz y k) := by
  subst hq
  obtain ⟨l, D, cA, ad, N⟩ := Δ
  obtain ⟨p, e, R, s, m, args, below, meth, c, H0, A, cells, slots⟩ := Γ
  obtain ⟨hx, hb, hml, hown, hts, hK, hI, hA, hr, hlk, hf1, hf2, hc1, hc2, h00, hNs⟩ := C
  intro r st' hk H locs ls hl hR hS
  obtain ⟨hy, hk⟩ := fNz_some hk
  exact lv_idiv hx hb hd hy (K r st' hk H locs ls hl hR hS)

theorem r_irem {α : Type} {Δ : fDl} {Γ : fGm} {nL : Nat} {Q : α → fSt → State → Prop} {cc : ByteArray} {own : String} {ret : Option FieldType} {lev pc q : Nat} {lc : List (Nat × Value)} {stk : List Value} {st : fSt} {k : Option (α × fSt)} {x y : Int32} (C : fC Δ Γ cc own nL ret lev) (hd : decode cc pc = .ok (.irem, 1)) (hq : pc + 1 = q)
    (K : fW Δ Γ nL Q q lc (.int (x - x / y * y) :: stk) st k) : fW Δ Γ nL Q pc lc (.int y :: .int x :: stk) st (fNz y k) := by
  subst hq
  obtain ⟨l, D, cA, ad, N⟩ := Δ
  obtain ⟨p, e, R, s, m, args, below, meth, c, H0, A, cells, slots⟩ := Γ
  obtain ⟨hx, hb, hml, hown, hts, hK, hI, hA, hr, hlk, hf1, hf2, hc1, hc2, h00, hNs⟩ := C
  intro r st' hk H locs ls hl hR hS
  obtain ⟨hy, hk⟩ := fNz_some hk
  exact lv_irem hx hb hd hy (K r st' hk H locs ls hl hR hS)

theorem r_ldiv {α : Type} {Δ : fDl} {Γ : fGm} {nL : Nat} {Q : α → fSt → State → Prop} {cc : ByteArray} {own : String} {ret : Option FieldType} {lev pc q : Nat} {lc : List (Nat × Value)} {stk : List Value} {st : fSt} {k : Option (α × fSt)} {x y : Int64} (C : fC Δ Γ cc own nL ret lev) (hd : decode cc pc = .ok (.ldiv, 1)) (hq : pc + 1 = q)
    (K : fW Δ Γ nL Q q lc (.long (x / y) :: stk) st k) : fW Δ Γ nL Q pc lc (.long y :: .long x :: stk) st (fNz y k) := by
  subst hq
  obtain ⟨l, D, cA, ad, N⟩ := Δ
  obtain ⟨p, e, R, s, m, args, below, meth, c, H0, A, cells, slots⟩ := Γ
  obtain ⟨hx, hb, hml, hown, hts, hK, hI, hA, hr, hlk, hf1, hf2, hc1, hc2, h00, hNs⟩ := C
  intro r st' hk H locs ls hl hR hS
  obtain ⟨hy, hk⟩ := fNz_some hk
  exact lv_ldiv hx hb hd hy (K r st' hk H locs ls hl hR hS)

theorem r_lrem {α : Type} {Δ : fDl} {Γ : fGm} {nL : Nat} {Q : α → fSt → State → Prop} {cc : ByteArray} {own : String} {ret : Option FieldType} {lev pc q : Nat} {lc : List (Nat × Value)} {stk : List Value} {st : fSt} {k : Option (α × fSt)} {x y : Int64} (C : fC Δ Γ cc own nL ret lev) (hd : decode cc pc = .ok (.lrem, 1)) (hq : pc + 1 = q)
    (K : fW Δ Γ nL Q q lc (.long (x - x / y * y) :: stk) st k) : fW Δ Γ nL Q pc lc (.long y :: .long x :: stk) st (fNz y k) := by
  subst hq
  obtain ⟨l, D, cA, ad, N⟩ := Δ
  obtain ⟨p, e, R, s, m, args, below, meth, c, H0, A, cells, slots⟩ := Γ
  obtain ⟨hx, hb, hml, hown, hts, hK, hI, hA, hr, hlk, hf1, hf2, hc1, hc2, h00, hNs⟩ := C
  intro r st' hk H locs ls hl hR hS
  obtain ⟨hy, hk⟩ := fNz_some hk
  exact lv_lrem hx hb hd hy (K r st' hk H locs ls hl hR hS)

theorem r_istore_n {α : Type} {Δ : fDl} {Γ : fGm} {nL : Nat} {Q : α → fSt → State → Prop} {cc : ByteArray} {own : String} {ret : Option FieldType} {lev pc q : Nat} {lc : List (Nat × Value)} {stk : List Value} {st : fSt} {k : Int32 → Option (α × fSt)} {n : Fin 4} {i : Nat} {x : Int32} (lr : List (Nat × Value)) (C : fC Δ Γ cc own nL ret lev) (hd : decode cc pc = .ok (.istore_n n, 1)) (hq : pc + 1 = q) (hi : (n : Nat) = i) (hn : i < nL) (hlc : lc.filter (fun q => !(q.1 == i) && !(q.1 + 1 == i && q.2.category == 2)) = lr)
    (K : ∀ x' : Int32, fW Δ Γ nL Q q ((i, .int x') :: lr) stk st (k x')) : fW Δ Γ nL Q pc lc (.int x :: stk) st (fLt x k) := by
  subst hq
  subst hlc
  obtain ⟨l, D, cA, ad, N⟩ := Δ
  obtain ⟨p, e, R, s, m, args, below, meth, c, H0, A, cells, slots⟩ := Γ
  obtain ⟨hx, hb, hml, hown, hts, hK, hI, hA, hr, hlk, hf1, hf2, hc1, hc2, h00, hNs⟩ := C
  intro r st' hk H locs ls hl hR hS
  exact lv_istore_n hx hb hd hi hl hn rfl (fun ls hl => K x r st' hk H locs ls hl hR hS)

theorem r_istore {α : Type} {Δ : fDl} {Γ : fGm} {nL : Nat} {Q : α → fSt → State → Prop} {cc : ByteArray} {own : String} {ret : Option FieldType} {lev pc q : Nat} {lc : List (Nat × Value)} {stk : List Value} {st : fSt} {k : Int32 → Option (α × fSt)} {i : Nat} {x : Int32} (lr : List (Nat × Value)) (C : fC Δ Γ cc own nL ret lev) (hd : decode cc pc = .ok (.istore i, 2)) (hq : pc + 2 = q) (hn : i < nL) (hlc : lc.filter (fun q => !(q.1 == i) && !(q.1 + 1 == i && q.2.category == 2)) = lr)
    (K : ∀ x' : Int32, fW Δ Γ nL Q q ((i, .int x') :: lr) stk st (k x')) : fW Δ Γ nL Q pc lc (.int x :: stk) st (fLt x k) := by
  subst hq
  subst hlc
  obtain ⟨l, D, cA, ad, N⟩ := Δ
  obtain ⟨p, e, R, s, m, args, below, meth, c, H0, A, cells, slots⟩ := Γ
  obtain ⟨hx, hb, hml, hown, hts, hK, hI, hA, hr, hlk, hf1, hf2, hc1, hc2, h00, hNs⟩ := C
  intro r st' hk H locs ls hl hR hS
  exact lv_istore hx hb hd hl hn rfl (fun ls hl => K x r st' hk H locs ls hl hR hS)

theorem r_lstore_n {α : Type} {Δ : fDl} {Γ : fGm} {nL : Nat} {Q : α → fSt → State → Prop} {cc : ByteArray} {own : String} {ret : Option FieldType} {lev pc q : Nat} {lc : List (Nat × Value)} {stk : List Value} {st : fSt} {k : Int64 → Option (α × fSt)} {n : Fin 4} {i : Nat} {x : Int64} (lr : List (Nat × Value)) (C : fC Δ Γ cc own nL ret lev) (hd : decode cc pc = .ok (.lstore_n n, 1)) (hq : pc + 1 = q) (hi : (n : Nat) = i) (hn : i + 1 < nL) (hlc : lc.filter (fun q => !(q.1 == i) && (!(q.1 == i + 1) && !(q.1 + 1 == i && q.2.category == 2))) = lr)
    (K : ∀ x' : Int64, fW Δ Γ nL Q q ((i, .long x') :: lr) stk st (k x')) : fW Δ Γ nL Q pc lc (.long x :: stk) st (fLt x k) := by
  subst hq
  subst hlc
  obtain ⟨l, D, cA, ad, N⟩ := Δ
  obtain ⟨p, e, R, s, m, args, below, meth, c, H0, A, cells, slots⟩ := Γ
  obtain ⟨hx, hb, hml, hown, hts, hK, hI, hA, hr, hlk, hf1, hf2, hc1, hc2, h00, hNs⟩ := C
  intro r st' hk H locs ls hl hR hS
  exact lv_lstore_n hx hb hd hi hl hn rfl (fun ls hl => K x r st' hk H locs ls hl hR hS)

theorem r_lstore {α : Type} {Δ : fDl} {Γ : fGm} {nL : Nat} {Q : α → fSt → State → Prop} {cc : ByteArray} {own : String} {ret : Option FieldType} {lev pc q : Nat} {lc : List (Nat × Value)} {stk : List Value} {st : fSt} {k : Int64 → Option (α × fSt)} {i : Nat} {x : Int64} (lr : List (Nat × Value)) (C : fC Δ Γ cc own nL ret lev) (hd : decode cc pc = .ok (.lstore i, 2)) (hq : pc + 2 = q) (hn : i + 1 < nL) (hlc : lc.filter (fun q => !(q.1 == i) && (!(q.1 == i + 1) && !(q.1 + 1 == i && q.2.category == 2))) = lr)
    (K : ∀ x' : Int64, fW Δ Γ nL Q q ((i, .long x') :: lr) stk st (k x')) : fW Δ Γ nL Q pc lc (.long x :: stk) st (fLt x k) := by
  subst hq
  subst hlc
  obtain ⟨l, D, cA, ad, N⟩ := Δ
  obtain ⟨p, e, R, s, m, args, below, meth, c, H0, A, cells, slots⟩ := Γ
  obtain ⟨hx, hb, hml, hown, hts, hK, hI, hA, hr, hlk, hf1, hf2, hc1, hc2, h00, hNs⟩ := C
  intro r st' hk H locs ls hl hR hS
  exact lv_lstore hx hb hd hl hn rfl (fun ls hl => K x r st' hk H locs ls hl hR hS)

theorem r_astore_n {α : Type} {Δ : fDl} {Γ : fGm} {nL : Nat} {Q : α → fSt → State → Prop} {cc : ByteArray} {own : String} {ret : Option FieldType} {lev pc q : Nat} {lc : List (Nat × Value)} {stk : List Value} {st : fSt} {k : Option (α × fSt)} {n : Fin 4} {i : Nat} {x : Nat} (lr : List (Nat × Value)) (C : fC Δ Γ cc own nL ret lev) (hd : decode cc pc = .ok (.astore_n n, 1)) (hq : pc + 1 = q) (hi : (n : Nat) = i) (hn : i < nL) (hlc : lc.filter (fun q => !(q.1 == i) && !(q.1 + 1 == i && q.2.category == 2)) = lr)
    (K : fW Δ Γ nL Q q ((i, .ref x) :: lr) stk st k) : fW Δ Γ nL Q pc lc (.ref x :: stk) st k := by
  subst hq
  subst hlc
  obtain ⟨l, D, cA, ad, N⟩ := Δ
  obtain ⟨p, e, R, s, m, args, below, meth, c, H0, A, cells, slots⟩ := Γ
  obtain ⟨hx, hb, hml, hown, hts, hK, hI, hA, hr, hlk, hf1, hf2, hc1, hc2, h00, hNs⟩ := C
  intro r st' hk H locs ls hl hR hS
  exact lv_astore_n hx hb hd hi hl hn rfl (fun ls hl => K r st' hk H locs ls hl hR hS)

theorem r_astore {α : Type} {Δ : fDl} {Γ : fGm} {nL : Nat} {Q : α → fSt → State → Prop} {cc : ByteArray} {own : String} {ret : Option FieldType} {lev pc q : Nat} {lc : List (Nat × Value)} {stk : List Value} {st : fSt} {k : Option (α × fSt)} {i : Nat} {x : Nat} (lr : List (Nat × Value)) (C : fC Δ Γ cc own nL ret lev) (hd : decode cc pc = .ok (.astore i, 2)) (hq : pc + 2 = q) (hn : i < nL) (hlc : lc.filter (fun q => !(q.1 == i) && !(q.1 + 1 == i && q.2.category == 2)) = lr)
    (K : fW Δ Γ nL Q q ((i, .ref x) :: lr) stk st k) : fW Δ Γ nL Q pc lc (.ref x :: stk) st k := by
  subst hq
  subst hlc
  obtain ⟨l, D, cA, ad, N⟩ := Δ
  obtain ⟨p, e, R, s, m, args, below, meth, c, H0, A, cells, slots⟩ := Γ
  obtain ⟨hx, hb, hml, hown, hts, hK, hI, hA, hr, hlk, hf1, hf2, hc1, hc2, h00, hNs⟩ := C
  intro r st' hk H locs ls hl hR hS
  exact lv_astore hx hb hd hl hn rfl (fun ls hl => K r st' hk H locs ls hl hR hS)

theorem r_iinc {α : Type} {Δ : fDl} {Γ : fGm} {nL : Nat} {Q : α → fSt → State → Prop} {cc : ByteArray} {own : String} {ret : Option FieldType} {lev pc q : Nat} {lc : List (Nat × Value)} {stk : List Value} {st : fSt} {k : Int32 → Option (α × fSt)} {i z : Nat} {n : Int} {d x : Int32} (lr : List (Nat × Value)) (C : fC Δ Γ cc own nL ret lev) (hd : decode cc pc = .ok (.iinc i n, 3)) (hq : pc + 3 = q) (hz : lc[z]? = some (i, .int x)) (hv : Int32.ofInt n = d) (hn : i < nL) (hlc : lc.filter (fun q => !(q.1 == i) && !(q.1 + 1 == i && q.2.category == 2)) = lr)
    (K : ∀ x' : Int32, fW Δ Γ nL Q q ((i, .int x') :: lr) stk st (k x')) : fW Δ Γ nL Q pc lc stk st (fLt (x + d) k) := by
  subst hq
  subst hlc
  subst hv
  obtain ⟨l, D, cA, ad, N⟩ := Δ
  obtain ⟨p, e, R, s, m, args, below, meth, c, H0, A, cells, slots⟩ := Γ
  obtain ⟨hx, hb, hml, hown, hts, hK, hI, hA, hr, hlk, hf1, hf2, hc1, hc2, h00, hNs⟩ := C
  intro r st' hk H locs ls hl hR hS
  exact lv_iinc hx hb hd hl hz rfl hn rfl (fun ls hl => K _ r st' hk H locs ls hl hR hS)

theorem r_if_eq {α : Type} {Δ : fDl} {Γ : fGm} {nL : Nat} {Q : α → fSt → State → Prop} {cc : ByteArray} {own : String} {ret : Option FieldType} {lev pc q : Nat} {lc : List (Nat × Value)} {stk : List Value} {st : fSt} {k1 k2 : Option (α × fSt)} {x : Int32} {off : Int} {tgt : Nat} (C : fC Δ Γ cc own nL ret lev) (hd : decode cc pc = .ok (.ifCond .eq off, 3)) (ht : (pc : Int) + off = (tgt : Int)) (hq : pc + 3 = q)
    (K1 : fW Δ Γ nL Q tgt lc stk st k1) (K2 : fW Δ Γ nL Q q lc stk st k2) : fW Δ Γ nL Q pc lc (.int x :: stk) st (if x = 0 then k1 else k2) := by
  subst hq
  obtain ⟨l, D, cA, ad, N⟩ := Δ
  obtain ⟨p, e, R, s, m, args, below, meth, c, H0, A, cells, slots⟩ := Γ
  obtain ⟨hx, hb, hml, hown, hts, hK, hI, hA, hr, hlk, hf1, hf2, hc1, hc2, h00, hNs⟩ := C
  intro r st' hk H locs ls hl hR hS
  refine lv_if_eq hx hb hd ht (fun h => ?_) (fun h => ?_)
  · rw [if_pos h] at hk
    exact K1 r st' hk H locs ls hl hR hS
  · rw [if_neg h] at hk
    exact K2 r st' hk H locs ls hl hR hS

theorem r_icmp_eq {α : Type} {Δ : fDl} {Γ : fGm} {nL : Nat} {Q : α → fSt → State → Prop} {cc : ByteArray} {own : String} {ret : Option FieldType} {lev pc q : Nat} {lc : List (Nat × Value)} {stk : List Value} {st : fSt} {k1 k2 : Option (α × fSt)} {x y : Int32} {off : Int} {tgt : Nat} (C : fC Δ Γ cc own nL ret lev) (hd : decode cc pc = .ok (.if_icmp .eq off, 3)) (ht : (pc : Int) + off = (tgt : Int)) (hq : pc + 3 = q)
    (K1 : fW Δ Γ nL Q tgt lc stk st k1) (K2 : fW Δ Γ nL Q q lc stk st k2) : fW Δ Γ nL Q pc lc (.int y :: .int x :: stk) st (if x = y then k1 else k2) := by
  subst hq
  obtain ⟨l, D, cA, ad, N⟩ := Δ
  obtain ⟨p, e, R, s, m, args, below, meth, c, H0, A, cells, slots⟩ := Γ
  obtain ⟨hx, hb, hml, hown, hts, hK, hI, hA, hr, hlk, hf1, hf2, hc1, hc2, h00, hNs⟩ := C
  intro r st' hk H locs ls hl hR hS
  refine lv_icmp_eq hx hb hd ht (fun h => ?_) (fun h => ?_)
  · rw [if_pos h] at hk
    exact K1 r st' hk H locs ls hl hR hS
  · rw [if_neg h] at hk
    exact K2 r st' hk H locs ls hl hR hS

theorem r_if_ne {α : Type} {Δ : fDl} {Γ : fGm} {nL : Nat} {Q : α → fSt → State → Prop} {cc : ByteArray} {own : String} {ret : Option FieldType} {lev pc q : Nat} {lc : List (Nat × Value)} {stk : List Value} {st : fSt} {k1 k2 : Option (α × fSt)} {x : Int32} {off : Int} {tgt : Nat} (C : fC Δ Γ cc own nL ret lev) (hd : decode cc pc = .ok (.ifCond .ne off, 3)) (ht : (pc : Int) + off = (tgt : Int)) (hq : pc + 3 = q)
    (K1 : fW Δ Γ nL Q tgt lc stk st k1) (K2 : fW Δ Γ nL Q q lc stk st k2) : fW Δ Γ nL Q pc lc (.int x :: stk) st (if ¬ x = 0 then k1 else k2) := by
  subst hq
  obtain ⟨l, D, cA, ad, N⟩ := Δ
  obtain ⟨p, e, R, s, m, args, below, meth, c, H0, A, cells, slots⟩ := Γ
  obtain ⟨hx, hb, hml, hown, hts, hK, hI, hA, hr, hlk, hf1, hf2, hc1, hc2, h00, hNs⟩ := C
  intro r st' hk H locs ls hl hR hS
  refine lv_if_ne hx hb hd ht (fun h => ?_) (fun h => ?_)
  · rw [if_pos h] at hk
    exact K1 r st' hk H locs ls hl hR hS
  · rw [if_neg (fun z => z h)] at hk
    exact K2 r st' hk H locs ls hl hR hS

theorem r_icmp_ne {α : Type} {Δ : fDl} {Γ : fGm} {nL : Nat} {Q : α → fSt → State → Prop} {cc : ByteArray} {own : String} {ret : Option FieldType} {lev pc q : Nat} {lc : List (Nat × Value)} {stk : List Value} {st : fSt} {k1 k2 : Option (α × fSt)} {x y : Int32} {off : Int} {tgt : Nat} (C : fC Δ Γ cc own nL ret lev) (hd : decode cc pc = .ok (.if_icmp .ne off, 3)) (ht : (pc : Int) + off = (tgt : Int)) (hq : pc + 3 = q)
    (K1 : fW Δ Γ nL Q tgt lc stk st k1) (K2 : fW Δ Γ nL Q q lc stk st k2) : fW Δ Γ nL Q pc lc (.int y :: .int x :: stk) st (if ¬ x = y then k1 else k2) := by
  subst hq
  obtain ⟨l, D, cA, ad, N⟩ := Δ
  obtain ⟨p, e, R, s, m, args, below, meth, c, H0, A, cells, slots⟩ := Γ
  obtain ⟨hx, hb, hml, hown, hts, hK, hI, hA, hr, hlk, hf1, hf2, hc1, hc2, h00, hNs⟩ := C
  intro r st' hk H locs ls hl hR hS
  refine lv_icmp_ne hx hb hd ht (fun h => ?_) (fun h => ?_)
  · rw [if_pos h] at hk
    exact K1 r st' hk H locs ls hl hR hS
  · rw [if_neg (fun z => z h)] at hk
    exact K2 r st' hk H locs ls hl hR hS

theorem r_if_lt {α : Type} {Δ : fDl} {Γ : fGm} {nL : Nat} {Q : α → fSt → State → Prop} {cc : ByteArray} {own : String} {ret : Option FieldType} {lev pc q : Nat} {lc : List (Nat × Value)} {stk : List Value} {st : fSt} {k1 k2 : Option (α × fSt)} {x : Int32} {off : Int} {tgt : Nat} (C : fC Δ Γ cc own nL ret lev) (hd : decode cc pc = .ok (.ifCond .lt off, 3)) (ht : (pc : Int) + off = (tgt : Int)) (hq : pc + 3 = q)
    (K1 : fW Δ Γ nL Q tgt lc stk st k1) (K2 : fW Δ Γ nL Q q lc stk st k2) : fW Δ Γ nL Q pc lc (.int x :: stk) st (if x < 0 then k1 else k2) := by
  subst hq
  obtain ⟨l, D, cA, ad, N⟩ := Δ
  obtain ⟨p, e, R, s, m, args, below, meth, c, H0, A, cells, slots⟩ := Γ
  obtain ⟨hx, hb, hml, hown, hts, hK, hI, hA, hr, hlk, hf1, hf2, hc1, hc2, h00, hNs⟩ := C
  intro r st' hk H locs ls hl hR hS
  refine lv_if_lt hx hb hd ht (fun h => ?_) (fun h => ?_)
  · rw [if_pos h] at hk
    exact K1 r st' hk H locs ls hl hR hS
  · rw [if_neg h] at hk
    exact K2 r st' hk H locs ls hl hR hS

theorem r_icmp_lt {α : Type} {Δ : fDl} {Γ : fGm} {nL : Nat} {Q : α → fSt → State → Prop} {cc : ByteArray} {own : String} {ret : Option FieldType} {lev pc q : Nat} {lc : List (Nat × Value)} {stk : List Value} {st : fSt} {k1 k2 : Option (α × fSt)} {x y : Int32} {off : Int} {tgt : Nat} (C : fC Δ Γ cc own nL ret lev) (hd : decode cc pc = .ok (.if_icmp .lt off, 3)) (ht : (pc : Int) + off = (tgt : Int)) (hq : pc + 3 = q)
    (K1 : fW Δ Γ nL Q tgt lc stk st k1) (K2 : fW Δ Γ nL Q q lc stk st k2) : fW Δ Γ nL Q pc lc (.int y :: .int x :: stk) st (if x < y then k1 else k2) := by
  subst hq
  obtain ⟨l, D, cA, ad, N⟩ := Δ
  obtain ⟨p, e, R, s, m, args, below, meth, c, H0, A, cells, slots⟩ := Γ
  obtain ⟨hx, hb, hml, hown, hts, hK, hI, hA, hr, hlk, hf1, hf2, hc1, hc2, h00, hNs⟩ := C
  intro r st' hk H locs ls hl hR hS
  refine lv_icmp_lt hx hb hd ht (fun h => ?_) (fun h => ?_)
  · rw [if_pos h] at hk
    exact K1 r st' hk H locs ls hl hR hS
  · rw [if_neg h] at hk
    exact K2 r st' hk H locs ls hl hR hS

theorem r_if_ge {α : Type} {Δ : fDl} {Γ : fGm} {nL : Nat} {Q : α → fSt → State → Prop} {cc : ByteArray} {own : String} {ret : Option FieldType} {lev pc q : Nat} {lc : List (Nat × Value)} {stk : List Value} {st : fSt} {k1 k2 : Option (α × fSt)} {x : Int32} {off : Int} {tgt : Nat} (C : fC Δ Γ cc own nL ret lev) (hd : decode cc pc = .ok (.ifCond .ge off, 3)) (ht : (pc : Int) + off = (tgt : Int)) (hq : pc + 3 = q)
    (K1 : fW Δ Γ nL Q tgt lc stk st k1) (K2 : fW Δ Γ nL Q q lc stk st k2) : fW Δ Γ nL Q pc lc (.int x :: stk) st (if 0 ≤ x then k1 else k2) := by
  subst hq
  obtain ⟨l, D, cA, ad, N⟩ := Δ
  obtain ⟨p, e, R, s, m, args, below, meth, c, H0, A, cells, slots⟩ := Γ
  obtain ⟨hx, hb, hml, hown, hts, hK, hI, hA, hr, hlk, hf1, hf2, hc1, hc2, h00, hNs⟩ := C
  intro r st' hk H locs ls hl hR hS
  refine lv_if_ge hx hb hd ht (fun h => ?_) (fun h => ?_)
  · rw [if_pos h] at hk
    exact K1 r st' hk H locs ls hl hR hS
  · rw [if_neg h] at hk
    exact K2 r st' hk H locs ls hl hR hS

theorem r_icmp_ge {α : Type} {Δ : fDl} {Γ : fGm} {nL : Nat} {Q : α → fSt → State → Prop} {cc : ByteArray} {own : String} {ret : Option FieldType} {lev pc q : Nat} {lc : List (Nat × Value)} {stk : List Value} {st : fSt} {k1 k2 : Option (α × fSt)} {x y : Int32} {off : Int} {tgt : Nat} (C : fC Δ Γ cc own nL ret lev) (hd : decode cc pc = .ok (.if_icmp .ge off, 3)) (ht : (pc : Int) + off = (tgt : Int)) (hq : pc + 3 = q)
    (K1 : fW Δ Γ nL Q tgt lc stk st k1) (K2 : fW Δ Γ nL Q q lc stk st k2) : fW Δ Γ nL Q pc lc (.int y :: .int x :: stk) st (if y ≤ x then k1 else k2) := by
  subst hq
  obtain ⟨l, D, cA, ad, N⟩ := Δ
  obtain ⟨p, e, R, s, m, args, below, meth, c, H0, A, cells, slots⟩ := Γ
  obtain ⟨hx, hb, hml, hown, hts, hK, hI, hA, hr, hlk, hf1, hf2, hc1, hc2, h00, hNs⟩ := C
  intro r st' hk H locs ls hl hR hS
  refine lv_icmp_ge hx hb hd ht (fun h => ?_) (fun h => ?_)
  · rw [if_pos h] at hk
    exact K1 r st' hk H locs ls hl hR hS
  · rw [if_neg h] at hk
    exact K2 r st' hk H locs ls hl hR hS

theorem r_if_gt {α : Type} {Δ : fDl} {Γ : fGm} {nL : Nat} {Q : α → fSt → State → Prop} {cc : ByteArray} {own : String} {ret : Option FieldType} {lev pc q : Nat} {lc : List (Nat × Value)} {stk : List Value} {st : fSt} {k1 k2 : Option (α × fSt)} {x : Int32} {off : Int} {tgt : Nat} (C : fC Δ Γ cc own nL ret lev) (hd : decode cc pc = .ok (.ifCond .gt off, 3)) (ht : (pc : Int) + off = (tgt : Int)) (hq : pc + 3 = q)
    (K1 : fW Δ Γ nL Q tgt lc stk st k1) (K2 : fW Δ Γ nL Q q lc stk st k2) : fW Δ Γ nL Q pc lc (.int x :: stk) st (if 0 < x then k1 else k2) := by
  subst hq
  obtain ⟨l, D, cA, ad, N⟩ := Δ
  obtain ⟨p, e, R, s, m, args, below, meth, c, H0, A, cells, slots⟩ := Γ
  obtain ⟨hx, hb, hml, hown, hts, hK, hI, hA, hr, hlk, hf1, hf2, hc1, hc2, h00, hNs⟩ := C
  intro r st' hk H locs ls hl hR hS
  refine lv_if_gt hx hb hd ht (fun h => ?_) (fun h => ?_)
  · rw [if_pos h] at hk
    exact K1 r st' hk H locs ls hl hR hS
  · rw [if_neg h] at hk
    exact K2 r st' hk H locs ls hl hR hS

theorem r_icmp_gt {α : Type} {Δ : fDl} {Γ : fGm} {nL : Nat} {Q : α → fSt → State → Prop} {cc : ByteArray} {own : String} {ret : Option FieldType} {lev pc q : Nat} {lc : List (Nat × Value)} {stk : List Value} {st : fSt} {k1 k2 : Option (α × fSt)} {x y : Int32} {off : Int} {tgt : Nat} (C : fC Δ Γ cc own nL ret lev) (hd : decode cc pc = .ok (.if_icmp .gt off, 3)) (ht : (pc : Int) + off = (tgt : Int)) (hq : pc + 3 = q)
    (K1 : fW Δ Γ nL Q tgt lc stk st k1) (K2 : fW Δ Γ nL Q q lc stk st k2) : fW Δ Γ nL Q pc lc (.int y :: .int x :: stk) st (if y < x then k1 else k2) := by
  subst hq
  obtain ⟨l, D, cA, ad, N⟩ := Δ
  obtain ⟨p, e, R, s, m, args, below, meth, c, H0, A, cells, slots⟩ := Γ
  obtain ⟨hx, hb, hml, hown, hts, hK, hI, hA, hr, hlk, hf1, hf2, hc1, hc2, h00, hNs⟩ := C
  intro r st' hk H locs ls hl hR hS
  refine lv_icmp_gt hx hb hd ht (fun h => ?_) (fun h => ?_)
  · rw [if_pos h] at hk
    exact K1 r st' hk H locs ls hl hR hS
  · rw [if_neg h] at hk
    exact K2 r st' hk H locs ls hl hR hS

theorem r_if_le {α : Type} {Δ : fDl} {Γ : fGm} {nL : Nat} {Q : α → fSt → State → Prop} {cc : ByteArray} {own : String} {ret : Option FieldType} {lev pc q : Nat} {lc : List (Nat × Value)} {stk : List Value} {st : fSt} {k1 k2 : Option (α × fSt)} {x : Int32} {off : Int} {tgt : Nat} (C : fC Δ Γ cc own nL ret lev) (hd : decode cc pc = .ok (.ifCond .le off, 3)) (ht : (pc : Int) + off = (tgt : Int)) (hq : pc + 3 = q)
    (K1 : fW Δ Γ nL Q tgt lc stk st k1) (K2 : fW Δ Γ nL Q q lc stk st k2) : fW Δ Γ nL Q pc lc (.int x :: stk) st (if x ≤ 0 then k1 else k2) := by
  subst hq
  obtain ⟨l, D, cA, ad, N⟩ := Δ
  obtain ⟨p, e, R, s, m, args, below, meth, c, H0, A, cells, slots⟩ := Γ
  obtain ⟨hx, hb, hml, hown, hts, hK, hI, hA, hr, hlk, hf1, hf2, hc1, hc2, h00, hNs⟩ := C
  intro r st' hk H locs ls hl hR hS
  refine lv_if_le hx hb hd ht (fun h => ?_) (fun h => ?_)
  · rw [if_pos h] at hk
    exact K1 r st' hk H locs ls hl hR hS
  · rw [if_neg h] at hk
    exact K2 r st' hk H locs ls hl hR hS

theorem r_icmp_le {α : Type} {Δ : fDl} {Γ : fGm} {nL : Nat} {Q : α → fSt → State → Prop} {cc : ByteArray} {own : String} {ret : Option FieldType} {lev pc q : Nat} {lc : List (Nat × Value)} {stk : List Value} {st : fSt} {k1 k2 : Option (α × fSt)} {x y : Int32} {off : Int} {tgt : Nat} (C : fC Δ Γ cc own nL ret lev) (hd : decode cc pc = .ok (.if_icmp .le off, 3)) (ht : (pc : Int) + off = (tgt : Int)) (hq : pc + 3 = q)
    (K1 : fW Δ Γ nL Q tgt lc stk st k1) (K2 : fW Δ Γ nL Q q lc stk st k2) : fW Δ Γ nL Q pc lc (.int y :: .int x :: stk) st (if x ≤ y then k1 else k2) := by
  subst hq
  obtain ⟨l, D, cA, ad, N⟩ := Δ
  obtain ⟨p, e, R, s, m, args, below, meth, c, H0, A, cells, slots⟩ := Γ
  obtain ⟨hx, hb, hml, hown, hts, hK, hI, hA, hr, hlk, hf1, hf2, hc1, hc2, h00, hNs⟩ := C
  intro r st' hk H locs ls hl hR hS
  refine lv_icmp_le hx hb hd ht (fun h => ?_) (fun h => ?_)
  · rw [if_pos h] at hk
    exact K1 r st' hk H locs ls hl hR hS
  · rw [if_neg h] at hk
    exact K2 r st' hk H locs ls hl hR hS

theorem r_goto {α : Type} {Δ : fDl} {Γ : fGm} {nL : Nat} {Q : α → fSt → State → Prop} {cc : ByteArray} {own : String} {ret : Option FieldType} {lev pc q : Nat} {lc : List (Nat × Value)} {stk : List Value} {st : fSt} {k : Option (α × fSt)} {off : Int} (C : fC Δ Γ cc own nL ret lev) (hd : decode cc pc = .ok (.goto off, 3)) (ht : (pc : Int) + off = (q : Int))
    (K : fW Δ Γ nL Q q lc stk st k) : fW Δ Γ nL Q pc lc stk st k := by
  obtain ⟨l, D, cA, ad, N⟩ := Δ
  obtain ⟨p, e, R, s, m, args, below, meth, c, H0, A, cells, slots⟩ := Γ
  obtain ⟨hx, hb, hml, hown, hts, hK, hI, hA, hr, hlk, hf1, hf2, hc1, hc2, h00, hNs⟩ := C
  intro r st' hk H locs ls hl hR hS
  exact lv_goto hx hb hd ht (K r st' hk H locs ls hl hR hS)

-- returns
def fQ {α : Type} (emb : α → Option Value) (Δ : fDl) (Γ : fGm) : α → fSt → State → Prop :=
  match Δ, Γ with
  | (_, D, cA, ad, N), (_, _, _, s, _, args, below, _, _, _, A, cells, slots) => fun r st' => MQ below (fun _ s0 oc t => oc = .returned (emb r) ∧ fR D cA ad N st' t.heap ∧ va_F A s0 t) args s cells slots A
abbrev eI : Int32 → Option Value := fun x => some (.int x)
abbrev eL : Int64 → Option Value := fun x => some (.long x)
abbrev eV : Unit → Option Value := fun _ => none
theorem r_iret {Δ : fDl} {Γ : fGm} {nL : Nat} {cc : ByteArray} {own : String} {lev pc : Nat} {lc : List (Nat × Value)} {st : fSt} {x : Int32} (C : fC Δ Γ cc own nL (some .int) lev) (hd : decode cc pc = .ok (.ireturn, 1)) : fW Δ Γ nL (fQ eI Δ Γ) pc lc [.int x] st (some (x, st)) := by
  obtain ⟨l, D, cA, ad, N⟩ := Δ
  obtain ⟨p, e, R, s, m, args, below, meth, c, H0, A, cells, slots⟩ := Γ
  obtain ⟨hx, hb, hml, hown, hts, hK, hI, hA, hr, hlk, hf1, hf2, hc1, hc2, h00, hNs⟩ := C
  intro r st' hk H locs ls hl hR hS
  subst h00
  cases hk
  dsimp only [fQ]
  exact W.iret hx hb hr (fun t ht hW => ⟨rfl, by rw [ht]; exact hR, hS.F ht⟩) hS.2.2 hd hlk
theorem r_zret {Δ : fDl} {Γ : fGm} {nL : Nat} {cc : ByteArray} {own : String} {lev pc : Nat} {lc : List (Nat × Value)} {st : fSt} {x : Int32} (C : fC Δ Γ cc own nL (some .boolean) lev) (hd : decode cc pc = .ok (.ireturn, 1)) : fW Δ Γ nL (fQ eI Δ Γ) pc lc [.int x] st (fBo x (some (x, st))) := by
  obtain ⟨l, D, cA, ad, N⟩ := Δ
  obtain ⟨p, e, R, s, m, args, below, meth, c, H0, A, cells, slots⟩ := Γ
  obtain ⟨hx, hb, hml, hown, hts, hK, hI, hA, hr, hlk, hf1, hf2, hc1, hc2, h00, hNs⟩ := C
  intro r st' hk H locs ls hl hR hS
  subst h00
  obtain ⟨hz, hk⟩ := fBo_some hk
  cases hk
  dsimp only [fQ]
  exact W.zret hx hb hr (by rcases hz with h | h <;> subst h <;> decide) (fun t ht hW => ⟨rfl, by rw [ht]; exact hR, hS.F ht⟩) hS.2.2 hd hlk
theorem r_zret0 {Δ : fDl} {Γ : fGm} {nL : Nat} {cc : ByteArray} {own : String} {lev pc : Nat} {lc : List (Nat × Value)} {st : fSt} {x : Int32} (hz : x = 0 ∨ x = 1) (C : fC Δ Γ cc own nL (some .boolean) lev) (hd : decode cc pc = .ok (.ireturn, 1)) : fW Δ Γ nL (fQ eI Δ Γ) pc lc [.int x] st (some (x, st)) := by
  have := r_zret (x := x) (st := st) (lc := lc) C hd
  unfold fBo at this
  rw [if_pos hz] at this
  exact this
theorem r_lret {Δ : fDl} {Γ : fGm} {nL : Nat} {cc : ByteArray} {own : String} {lev pc : Nat} {lc : List (Nat × Value)} {st : fSt} {x : Int64} (C : fC Δ Γ cc own nL (some .long) lev) (hd : decode cc pc = .ok (.lreturn, 1)) : fW Δ Γ nL (fQ eL Δ Γ) pc lc [.long x] st (some (x, st)) := by
  obtain ⟨l, D, cA, ad, N⟩ := Δ
  obtain ⟨p, e, R, s, m, args, below, meth, c, H0, A, cells, slots⟩ := Γ
  obtain ⟨hx, hb, hml, hown, hts, hK, hI, hA, hr, hlk, hf1, hf2, hc1, hc2, h00, hNs⟩ := C
  intro r st' hk H locs ls hl hR hS
  subst h00
  cases hk
  dsimp only [fQ]
  exact W.lret hx hb hr (fun t ht hW => ⟨rfl, by rw [ht]; exact hR, hS.F ht⟩) hS.2.2 hd hlk
theorem r_vret {Δ : fDl} {Γ : fGm} {nL : Nat} {cc : ByteArray} {own : String} {lev pc : Nat} {lc : List (Nat × Value)} {st : fSt} (C : fC Δ Γ cc own nL none lev) (hd : decode cc pc = .ok (.return_, 1)) : fW Δ Γ nL (fQ eV Δ Γ) pc lc [] st (some ((), st)) := by
  obtain ⟨l, D, cA, ad, N⟩ := Δ
  obtain ⟨p, e, R, s, m, args, below, meth, c, H0, A, cells, slots⟩ := Γ
  obtain ⟨hx, hb, hml, hown, hts, hK, hI, hA, hr, hlk, hf1, hf2, hc1, hc2, h00, hNs⟩ := C
  intro r st' hk H locs ls hl hR hS
  subst h00
  cases hk
  dsimp only [fQ]
  exact W.vret hx hb hr (fun t ht hW => ⟨rfl, by rw [ht]; exact hR, hS.F ht⟩) hS.2.2 hd hlk
-- a class's facts, for its fields
def fK (c0 : Nat) (C0 : String) (T : u_T) (n : Nat) (ty0 : Nat → FieldType) : Prop := vwCl[c0]? = some (C0, T, n) ∧ fNF c0 = n ∧ c0 < 13 ∧ (∀ w ∈ u_ws C0 T n, w ∈ fT) ∧ (∀ k, k < n → parseFieldDescriptor (T k).2.2.1 = some (ty0 k)) ∧ (∀ a, a < n → ∀ b, b < n → a ≠ b → (T a).2.1 ≠ (T b).2.1)
theorem r_get {α : Type} {Δ : fDl} {Γ : fGm} {nL : Nat} {Q : α → fSt → State → Prop} {cc : ByteArray} {own : String} {ret : Option FieldType} {lev pc q : Nat} {lc : List (Nat × Value)} {stk : List Value} {st : fSt} {k : Option (α × fSt)} {c0 i0 n ix : Nat} {C0 : String} {T : u_T} {ty0 : Nat → FieldType} (f : Nat) (F : fK c0 C0 T n ty0) (hf : f < n) (hw : Cond.fieldLink own ix (T f).1 (T f).2.1 (T f).2.2.1 ∈ fT) (C : fC Δ Γ cc own nL ret lev) (hi : i0 < fN Δ c0) (hd : decode cc pc = .ok (.getfield ix, 3)) (hq : pc + 3 = q)
    (K : fW Δ Γ nL Q q lc (fFld (fad Δ) st c0 i0 f :: stk) st k) : fW Δ Γ nL Q pc lc (.ref (fad Δ c0 i0 0) :: stk) st k := by
  subst hq
  obtain ⟨l, D, cA, ad, N⟩ := Δ
  obtain ⟨p, e, R, s, m, args, below, meth, c, H0, A, cells, slots⟩ := Γ
  obtain ⟨hx, hb, hml, hown, hts, hK, hI, hA, hr, hlk, hf1, hf2, hc1, hc2, h00, hNs⟩ := C
  intro r st' hk H locs ls hl hR hS
  obtain ⟨F1, F2, F3, F4, F5, F6⟩ := F
  obtain ⟨z, hz⟩ := List.getElem?_of_mem (fAll_mem.mpr ⟨F3, hi, Nat.zero_le _⟩ : (c0, i0, 0) ∈ fAll N)
  exact va_get (D := D) (cl := vwCl) (ci := c0) (T := T) (N := n) (ws := fWs cA ad N st) (fs := fFs ad st c0 i0) hx hb hts F4 hown hK hR.1 z (fWs_at hz) F1 f hf (hts _ hw) (fun _ h9 => h9) (fFs_at (by rw [F2]; exact hf)) hd (K r st' hk H locs ls hl hR hS)
theorem fCell_sI {cA : Nat → ClassId} {ad : Nat → Nat → Nat → Nat} {st : fSt} {c i k : Nat} {v : Int32} : ∀ c' i' j', ¬ (c' = c ∧ i' = i ∧ j' = 0) → fCell cA ad (sI st c i k v) c' i' j' = fCell cA ad st c' i' j' := by
  intro c' i' j' h
  unfold fCell
  by_cases hj : j' = 0
  · rw [if_pos hj, if_pos hj, fFs_ext (fun k' => fFld_sI ad st c i k v (fun q => h ⟨q.1, q.2.1, hj⟩))]
  · rw [if_neg hj, if_neg hj]
    rfl
theorem fCell_sL {cA : Nat → ClassId} {ad : Nat → Nat → Nat → Nat} {st : fSt} {c i k : Nat} {v : Int64} : ∀ c' i' j', ¬ (c' = c ∧ i' = i ∧ j' = 0) → fCell cA ad (sL st c i k v) c' i' j' = fCell cA ad st c' i' j' := by
  intro c' i' j' h
  unfold fCell
  by_cases hj : j' = 0
  · rw [if_pos hj, if_pos hj, fFs_ext (fun k' => fFld_sL ad st c i k v (fun q => h ⟨q.1, q.2.1, hj⟩))]
  · rw [if_neg hj, if_neg hj]
    rfl
theorem fCell_sP {cA : Nat → ClassId} {ad : Nat → Nat → Nat → Nat} {st : fSt} {c i k : Nat} {v : Nat} : ∀ c' i' j', ¬ (c' = c ∧ i' = i ∧ j' = 0) → fCell cA ad (sP st c i k v) c' i' j' = fCell cA ad st c' i' j' := by
  intro c' i' j' h
  unfold fCell
  by_cases hj : j' = 0
  · rw [if_pos hj, if_pos hj, fFs_ext (fun k' => fFld_sP ad st c i k v (fun q => h ⟨q.1, q.2.1, hj⟩))]
  · rw [if_neg hj, if_neg hj]
    rfl
theorem fCell_sA {cA : Nat → ClassId} {ad : Nat → Nat → Nat → Nat} {st : fSt} {c i j : Nat} {v : Nat → Int32} : ∀ c' i' j', ¬ (c' = c ∧ i' = i ∧ j' = j) → fCell cA ad (sA st c i j v) c' i' j' = fCell cA ad st c' i' j' := by
  intro c' i' j' h
  have e : gA (sA st c i j v) c' i' j' = gA st c' i' j' := f3_n _ _ h
  unfold fCell fArE
  rw [e]
  rfl
theorem fCell_sB {cA : Nat → ClassId} {ad : Nat → Nat → Nat → Nat} {st : fSt} {c i j : Nat} {v : Nat → Int64} : ∀ c' i' j', ¬ (c' = c ∧ i' = i ∧ j' = j) → fCell cA ad (sB st c i j v) c' i' j' = fCell cA ad st c' i' j' := by
  intro c' i' j' h
  have e : gB (sB st c i j v) c' i' j' = gB st c' i' j' := f3_n _ _ h
  unfold fCell fArE
  rw [e]
  rfl
theorem r_putX {α : Type} {Δ : fDl} {Γ : fGm} {nL : Nat} {Q : α → fSt → State → Prop} {cc : ByteArray} {own : String} {ret : Option FieldType} {lev pc q : Nat} {lc : List (Nat × Value)} {stk : List Value} {st : fSt} {k : Option (α × fSt)} {c0 i0 n ix : Nat} {C0 : String} {T : u_T} {ty0 : Nat → FieldType} {st1 : fSt} {v : Value} {ty : FieldType} (f : Nat) (F : fK c0 C0 T n ty0) (hf : f < n) (hw : Cond.fieldLink own ix (T f).1 (T f).2.1 (T f).2.2.1 ∈ fT) (hfin : (T f).2.2.2 = false) (hty : parseFieldDescriptor (T f).2.2.1 = some ty) (C : fC Δ Γ cc own nL ret lev) (hi : i0 < fN Δ c0) (hd : decode cc pc = .ok (.putfield ix, 3)) (hq : pc + 3 = q)
    (hn : narrow ty v = v) (hfit : fits ty v = true) (hv : fFld (fad Δ) st1 c0 i0 f = v) (ho : ∀ f', f' ≠ f → fFld (fad Δ) st1 c0 i0 f' = fFld (fad Δ) st c0 i0 f') (hoc : ∀ cA c' i' j', ¬ (c' = c0 ∧ i' = i0 ∧ j' = 0) → fCell cA (fad Δ) st1 c' i' j' = fCell cA (fad Δ) st c' i' j') (hpo : fPok (fN Δ) st → fPok (fN Δ) st1)
    (K : fW Δ Γ nL Q q lc stk st1 k) : fW Δ Γ nL Q pc lc (v :: .ref (fad Δ c0 i0 0) :: stk) st k := by
  subst hq
  obtain ⟨l, D, cA, ad, N⟩ := Δ
  obtain ⟨p, e, R, s, m, args, below, meth, c, H0, A, cells, slots⟩ := Γ
  obtain ⟨hx, hb, hml, hown, hts, hK, hI, hA, hr, hlk, hf1, hf2, hc1, hc2, h00, hNs⟩ := C
  intro r st' hk H locs ls hl hR hS
  obtain ⟨F1, F2, F3, F4, F5, F6⟩ := F
  obtain ⟨z, hz⟩ := List.getElem?_of_mem (fAll_mem.mpr ⟨F3, hi, Nat.zero_le _⟩ : (c0, i0, 0) ∈ fAll N)
  refine va_put (D := D) (cl := vwCl) (ci := c0) (T := T) (N := n) (ws := fWs cA ad N st) (fs := fFs ad st c0 i0) (A := A) (H0 := H0) hx hb hts F4 ty0 F5 F6 hown hK hR.1 (fWs_D hI hA) hS z (fWs_at hz) F1 f hf (hts _ hw) (fun _ h9 => h9) hfin hty hn hfit (by rw [fFs_len, F2]; exact hf) hd (fun H1 locs1 hP1 _ hS1 => ?_)
  have hP2 : va_P D vwCl (fWs cA ad N st1) H1 := by
    rw [← fWs_set (cA := cA) (ad := ad) (N := N) (st := st) (st' := st1) (e := .inr (c0, (fFs ad st c0 i0).set f v)) hz (by rw [fFs_set (ad := ad) hv ho]; rfl) (hoc cA)]
    exact hP1
  exact K r st' hk H1 locs1 ls hl ⟨hP2, hpo hR.2⟩ hS1
theorem r_putI {α : Type} {Δ : fDl} {Γ : fGm} {nL : Nat} {Q : α → fSt → State → Prop} {cc : ByteArray} {own : String} {ret : Option FieldType} {lev pc q : Nat} {lc : List (Nat × Value)} {stk : List Value} {st : fSt} {k : fSt → Option (α × fSt)} {c0 i0 n ix : Nat} {C0 : String} {T : u_T} {ty0 : Nat → FieldType} {x : Int32} (f : Nat) (F : fK c0 C0 T n ty0) (hf : f < n) (hw : Cond.fieldLink own ix (T f).1 (T f).2.1 (T f).2.2.1 ∈ fT) (hfin : (T f).2.2.2 = false) (hty : parseFieldDescriptor (T f).2.2.1 = some .int) (hk : fFK c0 f = (0, 0, 0)) (C : fC Δ Γ cc own nL ret lev) (hi : i0 < fN Δ c0) (hd : decode cc pc = .ok (.putfield ix, 3)) (hq : pc + 3 = q)
    (K : ∀ st1, fW Δ Γ nL Q q lc stk st1 (k st1)) : fW Δ Γ nL Q pc lc (.int x :: .ref (fad Δ c0 i0 0) :: stk) st (fLt (sI st c0 i0 f x) k) :=
  r_putX (st1 := sI st c0 i0 f x) f F hf hw hfin hty C hi hd hq rfl rfl (by unfold fFld; rw [hk]; exact congrArg Value.int (f3_s _ _ _ _ _)) (fun f' h => fFld_sI _ _ _ _ _ _ (fun q => h q.2.2)) (fun cA => fCell_sI) (fun h => h) (K _)
theorem r_putZ {α : Type} {Δ : fDl} {Γ : fGm} {nL : Nat} {Q : α → fSt → State → Prop} {cc : ByteArray} {own : String} {ret : Option FieldType} {lev pc q : Nat} {lc : List (Nat × Value)} {stk : List Value} {st : fSt} {k : fSt → Option (α × fSt)} {c0 i0 n ix : Nat} {C0 : String} {T : u_T} {ty0 : Nat → FieldType} {x : Int32} (f : Nat) (F : fK c0 C0 T n ty0) (hf : f < n) (hw : Cond.fieldLink own ix (T f).1 (T f).2.1 (T f).2.2.1 ∈ fT) (hfin : (T f).2.2.2 = false) (hty : parseFieldDescriptor (T f).2.2.1 = some .boolean) (hk : fFK c0 f = (0, 0, 0)) (C : fC Δ Γ cc own nL ret lev) (hi : i0 < fN Δ c0) (hd : decode cc pc = .ok (.putfield ix, 3)) (hq : pc + 3 = q)
    (K : ∀ st1, fW Δ Γ nL Q q lc stk st1 (k st1)) : fW Δ Γ nL Q pc lc (.int x :: .ref (fad Δ c0 i0 0) :: stk) st (fBo x (fLt (sI st c0 i0 f x) k)) := by
  unfold fBo
  by_cases hz : x = 0 ∨ x = 1
  · rw [if_pos hz]
    exact r_putX (st1 := sI st c0 i0 f x) f F hf hw hfin hty C hi hd hq (by rcases hz with h | h <;> subst h <;> decide) (by rcases hz with h | h <;> subst h <;> decide) (by unfold fFld; rw [hk]; exact congrArg Value.int (f3_s _ _ _ _ _)) (fun f' h => fFld_sI _ _ _ _ _ _ (fun q => h q.2.2)) (fun cA => fCell_sI) (fun h => h) (K _)
  · rw [if_neg hz]
    exact r_none
theorem r_putL {α : Type} {Δ : fDl} {Γ : fGm} {nL : Nat} {Q : α → fSt → State → Prop} {cc : ByteArray} {own : String} {ret : Option FieldType} {lev pc q : Nat} {lc : List (Nat × Value)} {stk : List Value} {st : fSt} {k : fSt → Option (α × fSt)} {c0 i0 n ix : Nat} {C0 : String} {T : u_T} {ty0 : Nat → FieldType} {x : Int64} (f : Nat) (F : fK c0 C0 T n ty0) (hf : f < n) (hw : Cond.fieldLink own ix (T f).1 (T f).2.1 (T f).2.2.1 ∈ fT) (hfin : (T f).2.2.2 = false) (hty : parseFieldDescriptor (T f).2.2.1 = some .long) (hk : fFK c0 f = (1, 0, 0)) (C : fC Δ Γ cc own nL ret lev) (hi : i0 < fN Δ c0) (hd : decode cc pc = .ok (.putfield ix, 3)) (hq : pc + 3 = q)
    (K : ∀ st1, fW Δ Γ nL Q q lc stk st1 (k st1)) : fW Δ Γ nL Q pc lc (.long x :: .ref (fad Δ c0 i0 0) :: stk) st (fLt (sL st c0 i0 f x) k) :=
  r_putX (st1 := sL st c0 i0 f x) f F hf hw hfin hty C hi hd hq rfl rfl (by unfold fFld; rw [hk]; exact congrArg Value.long (f3_s _ _ _ _ _)) (fun f' h => fFld_sL _ _ _ _ _ _ (fun q => h q.2.2)) (fun cA => fCell_sL) (fun h => h) (K _)
theorem fPok_sP {N : Nat → Nat} {st : fSt} {i0 f v : Nat} (h0 : f = 0 → v ≤ N 7) (h1 : f = 1 → v ≤ N 9) (h : fPok N st) : fPok N (sP st 2 i0 f v) := by
  intro i hi
  have g : ∀ k, gP (sP st 2 i0 f v) 2 i k = if i = i0 ∧ k = f then v else gP st 2 i k := by
    intro k
    show f3 _ _ _ _ _ _ _ _ = _
    simp [f3, gP]
  rw [g, g]
  refine ⟨?_, ?_⟩
  · by_cases q : i = i0 ∧ 0 = f
    · rw [if_pos q]
      exact h0 q.2.symm
    · rw [if_neg q]
      exact (h i hi).1
  · by_cases q : i = i0 ∧ 1 = f
    · rw [if_pos q]
      exact h1 q.2.symm
    · rw [if_neg q]
      exact (h i hi).2
theorem fV_nf {a : Nat → Nat} {q : Nat} {C : String} : narrow (.object C) (fV a q) = fV a q ∧ fits (.object C) (fV a q) = true := by
  cases q <;> exact ⟨rfl, rfl⟩
theorem r_putP {α : Type} {Δ : fDl} {Γ : fGm} {nL : Nat} {Q : α → fSt → State → Prop} {cc : ByteArray} {own : String} {ret : Option FieldType} {lev pc q : Nat} {lc : List (Nat × Value)} {stk : List Value} {st : fSt} {k : fSt → Option (α × fSt)} {i0 n ix x c1 : Nat} {C0 C1 : String} {T : u_T} {ty0 : Nat → FieldType} (f : Nat) (F : fK 2 C0 T n ty0) (hf : f < n) (hw : Cond.fieldLink own ix (T f).1 (T f).2.1 (T f).2.2.1 ∈ fT) (hfin : (T f).2.2.2 = false) (hty : parseFieldDescriptor (T f).2.2.1 = some (.object C1)) (hk : fFK 2 f = (4, c1, 0)) (hc1 : f = 0 ∧ c1 = 7 ∨ f = 1 ∧ c1 = 9) (C : fC Δ Γ cc own nL ret lev) (hi : i0 < fN Δ 2) (hx9 : fPok (fN Δ) st → x ≤ fN Δ c1) (hd : decode cc pc = .ok (.putfield ix, 3)) (hq : pc + 3 = q)
    (K : ∀ st1, fW Δ Γ nL Q q lc stk st1 (k st1)) : fW Δ Γ nL Q pc lc (fV (fun y => fad Δ c1 y 0) x :: .ref (fad Δ 2 i0 0) :: stk) st (fLt (sP st 2 i0 f x) k) :=
  r_putX (st1 := sP st 2 i0 f x) f F hf hw hfin hty C hi hd hq fV_nf.1 fV_nf.2 (by unfold fFld; rw [hk]; exact congrArg (fV _) (f3_s _ _ _ _ _)) (fun f' h => fFld_sP _ _ _ _ _ _ (fun q => h q.2.2)) (fun cA => fCell_sP) (fun h => fPok_sP (fun e => hc1.elim (fun z => z.2 ▸ hx9 h) (fun z => absurd (e.symm.trans z.1) (by decide))) (fun e => hc1.elim (fun z => absurd (z.1.symm.trans e) (by decide)) (fun z => z.2 ▸ hx9 h)) h) (K _)
theorem r_deref {α : Type} {Δ : fDl} {Γ : fGm} {nL : Nat} {Q : α → fSt → State → Prop} {cc : ByteArray} {own : String} {ret : Option FieldType} {lev pc : Nat} {lc : List (Nat × Value)} {stk : List Value} {st : fSt} {k : Nat → Option (α × fSt)} {c0 x : Nat} (C : fC Δ Γ cc own nL ret lev) (hbx : fPok (fN Δ) st → x ≤ fN Δ c0) (K : ∀ y, y < fN Δ c0 → fW Δ Γ nL Q pc lc (.ref (fad Δ c0 y 0) :: stk) st (k y)) : fW Δ Γ nL Q pc lc (fV (fun y => fad Δ c0 y 0) x :: stk) st (fNn x k) := by
  obtain ⟨l, D, cA, ad, N⟩ := Δ
  obtain ⟨p, e, R, s, m, args, below, meth, c, H0, A, cells, slots⟩ := Γ
  obtain ⟨hx, hb, hml, hown, hts, hK, hI, hA, hr, hlk, hf1, hf2, hc1, hc2, h00, hNs⟩ := C
  intro r st' hk H locs ls hl hR hS
  cases x with
  | zero => cases hk
  | succ y => exact K y (hbx hR.2) r st' hk H locs ls hl hR hS
-- arrays
theorem r_ial {α : Type} {Δ : fDl} {Γ : fGm} {nL : Nat} {Q : α → fSt → State → Prop} {cc : ByteArray} {own : String} {ret : Option FieldType} {lev pc q : Nat} {lc : List (Nat × Value)} {stk : List Value} {st : fSt} {k : Option (α × fSt)} {c0 i0 j n : Nat} {x : Int32} (hk0 : fAK c0 j = (0, n)) (hj : c0 < 13 ∧ j ≠ 0 ∧ j ≤ fNA c0) (C : fC Δ Γ cc own nL ret lev) (hi : i0 < fN Δ c0) (hd : decode cc pc = .ok (.iaload, 1)) (hq : pc + 1 = q)
    (K : fW Δ Γ nL Q q lc (.int (gA st c0 i0 j x.toNatClampNeg) :: stk) st k) : fW Δ Γ nL Q pc lc (.int x :: .ref (fad Δ c0 i0 j) :: stk) st (fIx x n k) := by
  subst hq
  obtain ⟨l, D, cA, ad, N⟩ := Δ
  obtain ⟨p, e, R, s, m, args, below, meth, c, H0, A, cells, slots⟩ := Γ
  obtain ⟨hx, hb, hml, hown, hts, hK, hI, hA, hr, hlk, hf1, hf2, hc1, hc2, h00, hNs⟩ := C
  intro r st' hk H locs ls hl hR hS
  obtain ⟨hin, hk⟩ := fIx_some hk
  obtain ⟨z, hz⟩ := List.getElem?_of_mem (fAll_mem.mpr ⟨hj.1, hi, hj.2.2⟩ : (c0, i0, j) ∈ fAll N)
  have hw := fWs_at (cA := cA) (ad := ad) (st := st) hz
  unfold fCell fArE at hw
  rw [if_neg hj.2.1, hk0] at hw
  exact va_iald hx hb hK hR.1 z 0 hw rfl hin hd (K r st' hk H locs ls hl hR hS)
theorem r_bal {α : Type} {Δ : fDl} {Γ : fGm} {nL : Nat} {Q : α → fSt → State → Prop} {cc : ByteArray} {own : String} {ret : Option FieldType} {lev pc q : Nat} {lc : List (Nat × Value)} {stk : List Value} {st : fSt} {k : Option (α × fSt)} {c0 i0 j n : Nat} {x : Int32} (hk0 : fAK c0 j = (1, n)) (hj : c0 < 13 ∧ j ≠ 0 ∧ j ≤ fNA c0) (C : fC Δ Γ cc own nL ret lev) (hi : i0 < fN Δ c0) (hd : decode cc pc = .ok (.baload, 1)) (hq : pc + 1 = q)
    (K : fW Δ Γ nL Q q lc (.int (gA st c0 i0 j x.toNatClampNeg) :: stk) st k) : fW Δ Γ nL Q pc lc (.int x :: .ref (fad Δ c0 i0 j) :: stk) st (fIx x n k) := by
  subst hq
  obtain ⟨l, D, cA, ad, N⟩ := Δ
  obtain ⟨p, e, R, s, m, args, below, meth, c, H0, A, cells, slots⟩ := Γ
  obtain ⟨hx, hb, hml, hown, hts, hK, hI, hA, hr, hlk, hf1, hf2, hc1, hc2, h00, hNs⟩ := C
  intro r st' hk H locs ls hl hR hS
  obtain ⟨hin, hk⟩ := fIx_some hk
  obtain ⟨z, hz⟩ := List.getElem?_of_mem (fAll_mem.mpr ⟨hj.1, hi, hj.2.2⟩ : (c0, i0, j) ∈ fAll N)
  have hw := fWs_at (cA := cA) (ad := ad) (st := st) hz
  unfold fCell fArE at hw
  rw [if_neg hj.2.1, hk0] at hw
  exact va_bald hx hb hK hR.1 z 1 hw rfl hin hd (K r st' hk H locs ls hl hR hS)
theorem r_zal {α : Type} {Δ : fDl} {Γ : fGm} {nL : Nat} {Q : α → fSt → State → Prop} {cc : ByteArray} {own : String} {ret : Option FieldType} {lev pc q : Nat} {lc : List (Nat × Value)} {stk : List Value} {st : fSt} {k : Option (α × fSt)} {c0 i0 j n : Nat} {x : Int32} (hk0 : fAK c0 j = (2, n)) (hj : c0 < 13 ∧ j ≠ 0 ∧ j ≤ fNA c0) (C : fC Δ Γ cc own nL ret lev) (hi : i0 < fN Δ c0) (hd : decode cc pc = .ok (.baload, 1)) (hq : pc + 1 = q)
    (K : fW Δ Γ nL Q q lc (.int (gA st c0 i0 j x.toNatClampNeg) :: stk) st k) : fW Δ Γ nL Q pc lc (.int x :: .ref (fad Δ c0 i0 j) :: stk) st (fIx x n k) := by
  subst hq
  obtain ⟨l, D, cA, ad, N⟩ := Δ
  obtain ⟨p, e, R, s, m, args, below, meth, c, H0, A, cells, slots⟩ := Γ
  obtain ⟨hx, hb, hml, hown, hts, hK, hI, hA, hr, hlk, hf1, hf2, hc1, hc2, h00, hNs⟩ := C
  intro r st' hk H locs ls hl hR hS
  obtain ⟨hin, hk⟩ := fIx_some hk
  obtain ⟨z, hz⟩ := List.getElem?_of_mem (fAll_mem.mpr ⟨hj.1, hi, hj.2.2⟩ : (c0, i0, j) ∈ fAll N)
  have hw := fWs_at (cA := cA) (ad := ad) (st := st) hz
  unfold fCell fArE at hw
  rw [if_neg hj.2.1, hk0] at hw
  exact va_zald hx hb hK hR.1 z 2 hw rfl hin hd (K r st' hk H locs ls hl hR hS)
theorem r_lal {α : Type} {Δ : fDl} {Γ : fGm} {nL : Nat} {Q : α → fSt → State → Prop} {cc : ByteArray} {own : String} {ret : Option FieldType} {lev pc q : Nat} {lc : List (Nat × Value)} {stk : List Value} {st : fSt} {k : Option (α × fSt)} {c0 i0 j n : Nat} {x : Int32} (hk0 : fAK c0 j = (3, n)) (hj : c0 < 13 ∧ j ≠ 0 ∧ j ≤ fNA c0) (C : fC Δ Γ cc own nL ret lev) (hi : i0 < fN Δ c0) (hd : decode cc pc = .ok (.laload, 1)) (hq : pc + 1 = q)
    (K : fW Δ Γ nL Q q lc (.long (gB st c0 i0 j x.toNatClampNeg) :: stk) st k) : fW Δ Γ nL Q pc lc (.int x :: .ref (fad Δ c0 i0 j) :: stk) st (fIx x n k) := by
  subst hq
  obtain ⟨l, D, cA, ad, N⟩ := Δ
  obtain ⟨p, e, R, s, m, args, below, meth, c, H0, A, cells, slots⟩ := Γ
  obtain ⟨hx, hb, hml, hown, hts, hK, hI, hA, hr, hlk, hf1, hf2, hc1, hc2, h00, hNs⟩ := C
  intro r st' hk H locs ls hl hR hS
  obtain ⟨hin, hk⟩ := fIx_some hk
  obtain ⟨z, hz⟩ := List.getElem?_of_mem (fAll_mem.mpr ⟨hj.1, hi, hj.2.2⟩ : (c0, i0, j) ∈ fAll N)
  have hw := fWs_at (cA := cA) (ad := ad) (st := st) hz
  unfold fCell fArE at hw
  rw [if_neg hj.2.1, hk0] at hw
  exact va_lald hx hb hK hR.1 z 3 hw rfl hin hd (K r st' hk H locs ls hl hR hS)
theorem r_qal8 {α : Type} {Δ : fDl} {Γ : fGm} {nL : Nat} {Q : α → fSt → State → Prop} {cc : ByteArray} {own : String} {ret : Option FieldType} {lev pc q : Nat} {lc : List (Nat × Value)} {stk : List Value} {st : fSt} {k : Option (α × fSt)} {c0 i0 j n : Nat} {x : Int32} (hk0 : fAK c0 j = (4, n)) (hj : c0 < 13 ∧ j ≠ 0 ∧ j ≤ fNA c0) (C : fC Δ Γ cc own nL ret lev) (hi : i0 < fN Δ c0) (hn : n ≤ fN Δ 8) (hd : decode cc pc = .ok (.aaload, 1)) (hq : pc + 1 = q)
    (K : x.toNatClampNeg < fN Δ 8 → fW Δ Γ nL Q q lc (.ref (fad Δ 8 x.toNatClampNeg 0) :: stk) st k) : fW Δ Γ nL Q pc lc (.int x :: .ref (fad Δ c0 i0 j) :: stk) st (fIx x n k) := by
  subst hq
  obtain ⟨l, D, cA, ad, N⟩ := Δ
  obtain ⟨p, e, R, s, m, args, below, meth, c, H0, A, cells, slots⟩ := Γ
  obtain ⟨hx, hb, hml, hown, hts, hK, hI, hA, hr, hlk, hf1, hf2, hc1, hc2, h00, hNs⟩ := C
  intro r st' hk H locs ls hl hR hS
  obtain ⟨hin, hk⟩ := fIx_some hk
  obtain ⟨z, hz⟩ := List.getElem?_of_mem (fAll_mem.mpr ⟨hj.1, hi, hj.2.2⟩ : (c0, i0, j) ∈ fAll N)
  have hw := fWs_at (cA := cA) (ad := ad) (st := st) hz
  unfold fCell fArE at hw
  rw [if_neg hj.2.1, hk0] at hw
  have hlt : x.toNatClampNeg < n := Nat.not_le.mp fun q => hin (Or.inr q)
  exact va_aldq hx hb hK hR.1 z 4 hw rfl hin hd (K (Nat.lt_of_lt_of_le hlt hn) r st' hk H locs ls hl hR hS)
theorem r_qal2 {α : Type} {Δ : fDl} {Γ : fGm} {nL : Nat} {Q : α → fSt → State → Prop} {cc : ByteArray} {own : String} {ret : Option FieldType} {lev pc q : Nat} {lc : List (Nat × Value)} {stk : List Value} {st : fSt} {k : Option (α × fSt)} {c0 i0 j n : Nat} {x : Int32} (hk0 : fAK c0 j = (5, n)) (hj : c0 < 13 ∧ j ≠ 0 ∧ j ≤ fNA c0) (C : fC Δ Γ cc own nL ret lev) (hi : i0 < fN Δ c0) (hn : n + 1 ≤ fN Δ 2) (hd : decode cc pc = .ok (.aaload, 1)) (hq : pc + 1 = q)
    (K : x.toNatClampNeg + 1 < fN Δ 2 → fW Δ Γ nL Q q lc (.ref (fad Δ 2 (x.toNatClampNeg + 1) 0) :: stk) st k) : fW Δ Γ nL Q pc lc (.int x :: .ref (fad Δ c0 i0 j) :: stk) st (fIx x n k) := by
  subst hq
  obtain ⟨l, D, cA, ad, N⟩ := Δ
  obtain ⟨p, e, R, s, m, args, below, meth, c, H0, A, cells, slots⟩ := Γ
  obtain ⟨hx, hb, hml, hown, hts, hK, hI, hA, hr, hlk, hf1, hf2, hc1, hc2, h00, hNs⟩ := C
  intro r st' hk H locs ls hl hR hS
  obtain ⟨hin, hk⟩ := fIx_some hk
  obtain ⟨z, hz⟩ := List.getElem?_of_mem (fAll_mem.mpr ⟨hj.1, hi, hj.2.2⟩ : (c0, i0, j) ∈ fAll N)
  have hw := fWs_at (cA := cA) (ad := ad) (st := st) hz
  unfold fCell fArE at hw
  rw [if_neg hj.2.1, hk0] at hw
  have hlt : x.toNatClampNeg < n := Nat.not_le.mp fun q => hin (Or.inr q)
  exact va_aldq hx hb hK hR.1 z 5 hw rfl hin hd (K (by show _ < N 2; have : n + 1 ≤ N 2 := hn; omega) r st' hk H locs ls hl hR hS)
theorem r_ast {α : Type} {Δ : fDl} {Γ : fGm} {nL : Nat} {Q : α → fSt → State → Prop} {cc : ByteArray} {own : String} {ret : Option FieldType} {lev pc q : Nat} {lc : List (Nat × Value)} {stk : List Value} {st : fSt} {k : fSt → Option (α × fSt)} {c0 i0 j n : Nat} {x y : Int32} (hk0 : fAK c0 j = (0, n)) (hj : c0 < 13 ∧ j ≠ 0 ∧ j ≤ fNA c0) (C : fC Δ Γ cc own nL ret lev) (hi : i0 < fN Δ c0) (hd : decode cc pc = .ok (.iastore, 1)) (hq : pc + 1 = q)
    (K : ∀ st1, fW Δ Γ nL Q q lc stk st1 (k st1)) : fW Δ Γ nL Q pc lc (.int y :: .int x :: .ref (fad Δ c0 i0 j) :: stk) st (fIx x n (fLt (sA st c0 i0 j (upd (gA st c0 i0 j) x.toNatClampNeg y)) k)) := by
  subst hq
  obtain ⟨l, D, cA, ad, N⟩ := Δ
  obtain ⟨p, e, R, s, m, args, below, meth, c, H0, A, cells, slots⟩ := Γ
  obtain ⟨hx, hb, hml, hown, hts, hK, hI, hA, hr, hlk, hf1, hf2, hc1, hc2, h00, hNs⟩ := C
  intro r st' hk H locs ls hl hR hS
  obtain ⟨hin, hk⟩ := fIx_some hk
  obtain ⟨z, hz⟩ := List.getElem?_of_mem (fAll_mem.mpr ⟨hj.1, hi, hj.2.2⟩ : (c0, i0, j) ∈ fAll N)
  have hw := fWs_at (cA := cA) (ad := ad) (st := st) hz
  unfold fCell fArE at hw
  rw [if_neg hj.2.1, hk0] at hw
  refine va_iast hx hb hK hR.1 (fWs_D hI hA) hS z 0 hw rfl hin hd (fun H1 locs1 hP1 _ hS1 => ?_)
  rw [fWs_set (st' := sA st c0 i0 j (upd (gA st c0 i0 j) x.toNatClampNeg y)) hz (by unfold fCell fArE; rw [if_neg hj.2.1, hk0]; show Sum.inl (_, _, Sum.inl _) = Sum.inl (_, _, Sum.inl _); rw [show gA (sA st c0 i0 j (upd (gA st c0 i0 j) x.toNatClampNeg y)) c0 i0 j = upd (gA st c0 i0 j) x.toNatClampNeg y from f3_s _ _ _ _ _]) fCell_sA] at hP1
  exact K _ r st' hk H1 locs1 ls hl ⟨hP1, hR.2⟩ hS1
theorem r_bst {α : Type} {Δ : fDl} {Γ : fGm} {nL : Nat} {Q : α → fSt → State → Prop} {cc : ByteArray} {own : String} {ret : Option FieldType} {lev pc q : Nat} {lc : List (Nat × Value)} {stk : List Value} {st : fSt} {k : fSt → Option (α × fSt)} {c0 i0 j n : Nat} {x y : Int32} (hk0 : fAK c0 j = (1, n)) (hj : c0 < 13 ∧ j ≠ 0 ∧ j ≤ fNA c0) (C : fC Δ Γ cc own nL ret lev) (hi : i0 < fN Δ c0) (hd : decode cc pc = .ok (.bastore, 1)) (hq : pc + 1 = q)
    (K : ∀ st1, fW Δ Γ nL Q q lc stk st1 (k st1)) : fW Δ Γ nL Q pc lc (.int y :: .int x :: .ref (fad Δ c0 i0 j) :: stk) st (fIx x n (fLt (sA st c0 i0 j (upd (gA st c0 i0 j) x.toNatClampNeg (vp_nar .byte y))) k)) := by
  subst hq
  obtain ⟨l, D, cA, ad, N⟩ := Δ
  obtain ⟨p, e, R, s, m, args, below, meth, c, H0, A, cells, slots⟩ := Γ
  obtain ⟨hx, hb, hml, hown, hts, hK, hI, hA, hr, hlk, hf1, hf2, hc1, hc2, h00, hNs⟩ := C
  intro r st' hk H locs ls hl hR hS
  obtain ⟨hin, hk⟩ := fIx_some hk
  obtain ⟨z, hz⟩ := List.getElem?_of_mem (fAll_mem.mpr ⟨hj.1, hi, hj.2.2⟩ : (c0, i0, j) ∈ fAll N)
  have hw := fWs_at (cA := cA) (ad := ad) (st := st) hz
  unfold fCell fArE at hw
  rw [if_neg hj.2.1, hk0] at hw
  refine va_bast hx hb hK hR.1 (fWs_D hI hA) hS z 1 hw rfl hin hd (fun H1 locs1 hP1 _ hS1 => ?_)
  rw [fWs_set (st' := sA st c0 i0 j (upd (gA st c0 i0 j) x.toNatClampNeg (vp_nar .byte y))) hz (by unfold fCell fArE; rw [if_neg hj.2.1, hk0]; show Sum.inl (_, _, Sum.inl _) = Sum.inl (_, _, Sum.inl _); rw [show gA (sA st c0 i0 j (upd (gA st c0 i0 j) x.toNatClampNeg (vp_nar .byte y))) c0 i0 j = upd (gA st c0 i0 j) x.toNatClampNeg (vp_nar .byte y) from f3_s _ _ _ _ _]) fCell_sA] at hP1
  exact K _ r st' hk H1 locs1 ls hl ⟨hP1, hR.2⟩ hS1
theorem r_zst {α : Type} {Δ : fDl} {Γ : fGm} {nL : Nat} {Q : α → fSt → State → Prop} {cc : ByteArray} {own : String} {ret : Option FieldType} {lev pc q : Nat} {lc : List (Nat × Value)} {stk : List Value} {st : fSt} {k : fSt → Option (α × fSt)} {c0 i0 j n : Nat} {x y : Int32} (hk0 : fAK c0 j = (2, n)) (hj : c0 < 13 ∧ j ≠ 0 ∧ j ≤ fNA c0) (C : fC Δ Γ cc own nL ret lev) (hi : i0 < fN Δ c0) (hd : decode cc pc = .ok (.bastore, 1)) (hq : pc + 1 = q)
    (K : ∀ st1, fW Δ Γ nL Q q lc stk st1 (k st1)) : fW Δ Γ nL Q pc lc (.int y :: .int x :: .ref (fad Δ c0 i0 j) :: stk) st (fIx x n (fLt (sA st c0 i0 j (upd (gA st c0 i0 j) x.toNatClampNeg (vp_nar .boolean y))) k)) := by
  subst hq
  obtain ⟨l, D, cA, ad, N⟩ := Δ
  obtain ⟨p, e, R, s, m, args, below, meth, c, H0, A, cells, slots⟩ := Γ
  obtain ⟨hx, hb, hml, hown, hts, hK, hI, hA, hr, hlk, hf1, hf2, hc1, hc2, h00, hNs⟩ := C
  intro r st' hk H locs ls hl hR hS
  obtain ⟨hin, hk⟩ := fIx_some hk
  obtain ⟨z, hz⟩ := List.getElem?_of_mem (fAll_mem.mpr ⟨hj.1, hi, hj.2.2⟩ : (c0, i0, j) ∈ fAll N)
  have hw := fWs_at (cA := cA) (ad := ad) (st := st) hz
  unfold fCell fArE at hw
  rw [if_neg hj.2.1, hk0] at hw
  refine va_zast hx hb hK hR.1 (fWs_D hI hA) hS z 2 hw rfl hin hd (fun H1 locs1 hP1 _ hS1 => ?_)
  rw [fWs_set (st' := sA st c0 i0 j (upd (gA st c0 i0 j) x.toNatClampNeg (vp_nar .boolean y))) hz (by unfold fCell fArE; rw [if_neg hj.2.1, hk0]; show Sum.inl (_, _, Sum.inl _) = Sum.inl (_, _, Sum.inl _); rw [show gA (sA st c0 i0 j (upd (gA st c0 i0 j) x.toNatClampNeg (vp_nar .boolean y))) c0 i0 j = upd (gA st c0 i0 j) x.toNatClampNeg (vp_nar .boolean y) from f3_s _ _ _ _ _]) fCell_sA] at hP1
  exact K _ r st' hk H1 locs1 ls hl ⟨hP1, hR.2⟩ hS1
theorem r_lst {α : Type} {Δ : fDl} {Γ : fGm} {nL : Nat} {Q : α → fSt → State → Prop} {cc : ByteArray} {own : String} {ret : Option FieldType} {lev pc q : Nat} {lc : List (Nat × Value)} {stk : List Value} {st : fSt} {k : fSt → Option (α × fSt)} {c0 i0 j n : Nat} {x : Int32} {y : Int64} (hk0 : fAK c0 j = (3, n)) (hj : c0 < 13 ∧ j ≠ 0 ∧ j ≤ fNA c0) (C : fC Δ Γ cc own nL ret lev) (hi : i0 < fN Δ c0) (hd : decode cc pc = .ok (.lastore, 1)) (hq : pc + 1 = q)
    (K : ∀ st1, fW Δ Γ nL Q q lc stk st1 (k st1)) : fW Δ Γ nL Q pc lc (.long y :: .int x :: .ref (fad Δ c0 i0 j) :: stk) st (fIx x n (fLt (sB st c0 i0 j (vp_updL (gB st c0 i0 j) x.toNatClampNeg y)) k)) := by
  subst hq
  obtain ⟨l, D, cA, ad, N⟩ := Δ
  obtain ⟨p, e, R, s, m, args, below, meth, c, H0, A, cells, slots⟩ := Γ
  obtain ⟨hx, hb, hml, hown, hts, hK, hI, hA, hr, hlk, hf1, hf2, hc1, hc2, h00, hNs⟩ := C
  intro r st' hk H locs ls hl hR hS
  obtain ⟨hin, hk⟩ := fIx_some hk
  obtain ⟨z, hz⟩ := List.getElem?_of_mem (fAll_mem.mpr ⟨hj.1, hi, hj.2.2⟩ : (c0, i0, j) ∈ fAll N)
  have hw := fWs_at (cA := cA) (ad := ad) (st := st) hz
  unfold fCell fArE at hw
  rw [if_neg hj.2.1, hk0] at hw
  refine va_last hx hb hK hR.1 (fWs_D hI hA) hS z 3 hw rfl hin hd (fun H1 locs1 hP1 _ hS1 => ?_)
  rw [fWs_set (st' := sB st c0 i0 j (vp_updL (gB st c0 i0 j) x.toNatClampNeg y)) hz (by unfold fCell fArE; rw [if_neg hj.2.1, hk0]; show Sum.inl (_, _, Sum.inr (Sum.inl _)) = Sum.inl (_, _, Sum.inr (Sum.inl _)); rw [show gB (sB st c0 i0 j (vp_updL (gB st c0 i0 j) x.toNatClampNeg y)) c0 i0 j = vp_updL (gB st c0 i0 j) x.toNatClampNeg y from f3_s _ _ _ _ _]) fCell_sB] at hP1
  exact K _ r st' hk H1 locs1 ls hl ⟨hP1, hR.2⟩ hS1
theorem r_len {α : Type} {Δ : fDl} {Γ : fGm} {nL : Nat} {Q : α → fSt → State → Prop} {cc : ByteArray} {own : String} {ret : Option FieldType} {lev pc q : Nat} {lc : List (Nat × Value)} {stk : List Value} {st : fSt} {k : Option (α × fSt)} {c0 i0 j n t : Nat} {v : Int32} (hk0 : fAK c0 j = (t, n)) (ht : t < 4) (hj : c0 < 13 ∧ j ≠ 0 ∧ j ≤ fNA c0) (C : fC Δ Γ cc own nL ret lev) (hi : i0 < fN Δ c0) (hv : Int32.ofNat n = v) (hd : decode cc pc = .ok (.arraylength, 1)) (hq : pc + 1 = q)
    (K : fW Δ Γ nL Q q lc (.int v :: stk) st k) : fW Δ Γ nL Q pc lc (.ref (fad Δ c0 i0 j) :: stk) st k := by
  subst hq
  obtain ⟨l, D, cA, ad, N⟩ := Δ
  obtain ⟨p, e, R, s, m, args, below, meth, c, H0, A, cells, slots⟩ := Γ
  obtain ⟨hx, hb, hml, hown, hts, hK, hI, hA, hr, hlk, hf1, hf2, hc1, hc2, h00, hNs⟩ := C
  intro r st' hk H locs ls hl hR hS
  obtain ⟨z, hz⟩ := List.getElem?_of_mem (fAll_mem.mpr ⟨hj.1, hi, hj.2.2⟩ : (c0, i0, j) ∈ fAll N)
  have hw := fWs_at (cA := cA) (ad := ad) (st := st) hz
  unfold fCell fArE at hw
  rw [if_neg hj.2.1, hk0] at hw
  have hc : t = 0 ∨ t = 1 ∨ t = 2 ∨ t = 3 := by omega
  rcases hc with h | h | h | h <;> subst h
  · exact va_alen hx hb hK hR.1 z 0 hw rfl hv hd (K r st' hk H locs ls hl hR hS)
  · exact va_alen hx hb hK hR.1 z 1 hw rfl hv hd (K r st' hk H locs ls hl hR hS)
  · exact va_alen hx hb hK hR.1 z 2 hw rfl hv hd (K r st' hk H locs ls hl hR hS)
  · exact va_alen hx hb hK hR.1 z 3 hw rfl hv hd (K r st' hk H locs ls hl hR hS)
-- switches
theorem fNe {x v : Int32} (h : ¬ x = v) (n : Int) (hv : v.toInt = n) : ¬ x.toInt = n := fun q => h (Int32.toInt_inj.mp (q.trans hv.symm))
theorem r_tsHit {α : Type} {Δ : fDl} {Γ : fGm} {nL : Nat} {Q : α → fSt → State → Prop} {cc : ByteArray} {own : String} {ret : Option FieldType} {lev pc : Nat} {lc : List (Nat × Value)} {stk : List Value} {st : fSt} {k : Option (α × fSt)} {dflt lo hi n off : Int} {offs : Array Int} {len tgt : Nat} {x v : Int32} (C : fC Δ Γ cc own nL ret lev) (hd : decode cc pc = .ok (.tableswitch dflt lo hi offs, len)) (hx0 : x = v) (hv : v.toInt = n) (h1 : lo ≤ n) (h2 : n ≤ hi) (ho : offs[(n - lo).toNat]? = some off) (ht : (pc : Int) + off = (tgt : Int))
    (K : fW Δ Γ nL Q tgt lc stk st k) : fW Δ Γ nL Q pc lc (.int x :: stk) st k := by
  subst hx0
  subst hv
  obtain ⟨l, D, cA, ad, N⟩ := Δ
  obtain ⟨p, e, R, s, m, args, below, meth, c, H0, A, cells, slots⟩ := Γ
  obtain ⟨hx, hb, hml, hown, hts, hK, hI, hA, hr, hlk, hf1, hf2, hc1, hc2, h00, hNs⟩ := C
  intro r st' hk H locs ls hl hR hS
  exact lv_tableIn hx hb hd (by omega) (by omega) ho ht (K r st' hk H locs ls hl hR hS)
theorem r_tsDef {α : Type} {Δ : fDl} {Γ : fGm} {nL : Nat} {Q : α → fSt → State → Prop} {cc : ByteArray} {own : String} {ret : Option FieldType} {lev pc : Nat} {lc : List (Nat × Value)} {stk : List Value} {st : fSt} {k : Option (α × fSt)} {dflt lo hi : Int} {offs : Array Int} {len tgt : Nat} {x : Int32} (C : fC Δ Γ cc own nL ret lev) (hd : decode cc pc = .ok (.tableswitch dflt lo hi offs, len)) (h : x.toInt < lo ∨ hi < x.toInt) (ht : (pc : Int) + dflt = (tgt : Int))
    (K : fW Δ Γ nL Q tgt lc stk st k) : fW Δ Γ nL Q pc lc (.int x :: stk) st k := by
  obtain ⟨l, D, cA, ad, N⟩ := Δ
  obtain ⟨p, e, R, s, m, args, below, meth, c, H0, A, cells, slots⟩ := Γ
  obtain ⟨hx, hb, hml, hown, hts, hK, hI, hA, hr, hlk, hf1, hf2, hc1, hc2, h00, hNs⟩ := C
  intro r st' hk H locs ls hl hR hS
  exact lv_tableOut hx hb hd h ht (K r st' hk H locs ls hl hR hS)
theorem r_tsHole {α : Type} {Δ : fDl} {Γ : fGm} {nL : Nat} {Q : α → fSt → State → Prop} {cc : ByteArray} {own : String} {ret : Option FieldType} {lev pc : Nat} {lc : List (Nat × Value)} {stk : List Value} {st : fSt} {k : Option (α × fSt)} {dflt lo hi : Int} {offs : Array Int} {len tgt : Nat} {x : Int32} (C : fC Δ Γ cc own nL ret lev) (hd : decode cc pc = .ok (.tableswitch dflt lo hi offs, len)) (hsz : (offs.size : Int) = hi - lo + 1) (h : ∀ off, lo ≤ x.toInt → x.toInt ≤ hi → offs[(x.toInt - lo).toNat]? = some off → off = dflt) (ht : (pc : Int) + dflt = (tgt : Int))
    (K : fW Δ Γ nL Q tgt lc stk st k) : fW Δ Γ nL Q pc lc (.int x :: stk) st k := by
  by_cases ho : x.toInt < lo ∨ hi < x.toInt
  · exact r_tsDef C hd ho ht K
  · have hlt : (x.toInt - lo).toNat < offs.size := by omega
    have hg : offs[(x.toInt - lo).toNat]? = some offs[(x.toInt - lo).toNat] := Array.getElem?_eq_getElem hlt
    have e := h _ (by omega) (by omega) hg
    exact r_tsHit (n := x.toInt) C hd rfl rfl (by omega) (by omega) hg (by rw [e]; exact ht) K
theorem r_lsw {α : Type} {Δ : fDl} {Γ : fGm} {nL : Nat} {Q : α → fSt → State → Prop} {cc : ByteArray} {own : String} {ret : Option FieldType} {lev pc : Nat} {lc : List (Nat × Value)} {stk : List Value} {st : fSt} {k : Option (α × fSt)} {dflt off : Int} {ps : Array (Int × Int)} {len tgt : Nat} {x : Int32} (C : fC Δ Γ cc own nL ret lev) (hd : decode cc pc = .ok (.lookupswitch dflt ps, len)) (hp : (ps.toList.zip (ps.toList.drop 1)).all (fun (a, next) => a.1 < next.1) = true) (ho : Op.lookupswitch.offset ps.toList dflt x.toInt = off) (ht : (pc : Int) + off = (tgt : Int))
    (K : fW Δ Γ nL Q tgt lc stk st k) : fW Δ Γ nL Q pc lc (.int x :: stk) st k := by
  obtain ⟨l, D, cA, ad, N⟩ := Δ
  obtain ⟨p, e, R, s, m, args, below, meth, c, H0, A, cells, slots⟩ := Γ
  obtain ⟨hx, hb, hml, hown, hts, hK, hI, hA, hr, hlk, hf1, hf2, hc1, hc2, h00, hNs⟩ := C
  intro r st' hk H locs ls hl hR hS
  exact lv_lookup hx hb hd hp ho ht (K r st' hk H locs ls hl hR hS)
-- references against null
theorem r_ifnull {α : Type} {Δ : fDl} {Γ : fGm} {nL : Nat} {Q : α → fSt → State → Prop} {cc : ByteArray} {own : String} {ret : Option FieldType} {lev pc q : Nat} {lc : List (Nat × Value)} {stk : List Value} {st : fSt} {k1 k2 : Option (α × fSt)} {off : Int} {tgt x : Nat} {a : Nat → Nat} (C : fC Δ Γ cc own nL ret lev) (hd : decode cc pc = .ok (.ifnull off, 3)) (ht : (pc : Int) + off = (tgt : Int)) (hq : pc + 3 = q)
    (K1 : x = 0 → fW Δ Γ nL Q tgt lc stk st k1) (K2 : ¬ x = 0 → fW Δ Γ nL Q q lc stk st k2) : fW Δ Γ nL Q pc lc (fV a x :: stk) st (if x = 0 then k1 else k2) := by
  subst hq
  obtain ⟨l, D, cA, ad, N⟩ := Δ
  obtain ⟨p, e, R, s, m, args, below, meth, c, H0, A, cells, slots⟩ := Γ
  obtain ⟨hx, hb, hml, hown, hts, hK, hI, hA, hr, hlk, hf1, hf2, hc1, hc2, h00, hNs⟩ := C
  intro r st' hk H locs ls hl hR hS
  cases x with
  | zero =>
    rw [if_pos rfl] at hk
    exact lv_ifnullN hx hb hd ht (K1 rfl r st' hk H locs ls hl hR hS)
  | succ y =>
    rw [if_neg (by omega)] at hk
    exact lv_ifnull hx hb hd (K2 (by omega) r st' hk H locs ls hl hR hS)
theorem r_ifnonnull {α : Type} {Δ : fDl} {Γ : fGm} {nL : Nat} {Q : α → fSt → State → Prop} {cc : ByteArray} {own : String} {ret : Option FieldType} {lev pc q : Nat} {lc : List (Nat × Value)} {stk : List Value} {st : fSt} {k1 k2 : Option (α × fSt)} {off : Int} {tgt x : Nat} {a : Nat → Nat} (C : fC Δ Γ cc own nL ret lev) (hd : decode cc pc = .ok (.ifnonnull off, 3)) (ht : (pc : Int) + off = (tgt : Int)) (hq : pc + 3 = q)
    (K1 : x = 0 → fW Δ Γ nL Q q lc stk st k1) (K2 : ¬ x = 0 → fW Δ Γ nL Q tgt lc stk st k2) : fW Δ Γ nL Q pc lc (fV a x :: stk) st (if x = 0 then k1 else k2) := by
  subst hq
  obtain ⟨l, D, cA, ad, N⟩ := Δ
  obtain ⟨p, e, R, s, m, args, below, meth, c, H0, A, cells, slots⟩ := Γ
  obtain ⟨hx, hb, hml, hown, hts, hK, hI, hA, hr, hlk, hf1, hf2, hc1, hc2, h00, hNs⟩ := C
  intro r st' hk H locs ls hl hR hS
  cases x with
  | zero =>
    rw [if_pos rfl] at hk
    exact lv_ifnonnullN hx hb hd (K1 rfl r st' hk H locs ls hl hR hS)
  | succ y =>
    rw [if_neg (by omega)] at hk
    exact lv_ifnonnull hx hb hd ht (K2 (by omega) r st' hk H locs ls hl hR hS)
-- Math
theorem r_max {α : Type} {Δ : fDl} {Γ : fGm} {nL : Nat} {Q : α → fSt → State → Prop} {cc : ByteArray} {own : String} {ret : Option FieldType} {lev pc q : Nat} {lc : List (Nat × Value)} {stk : List Value} {st : fSt} {k : Option (α × fSt)} {x y : Int32} {ix : Nat} (hl0 : (Cond.methodLink own ix Lib.Math.max.name) ∈ fT) (hs0 : (Cond.static Lib.Math.max.name) ∈ fT) (hi0 : (Cond.initialized "java/lang/Math") ∈ fT) (hc0 : (Cond.code Lib.Math.max.name Lib.Math.max.code 2 (some .int)) ∈ fT) (C : fC Δ Γ cc own nL ret lev) (hlv : 1 ≤ lev) (hst : (stk.map fun v => v.category).sum ≤ 8) (hd : decode cc pc = .ok (.invokestatic ix, 3)) (hq : pc + 3 = q)
    (K : fW Δ Γ nL Q q lc (.int (if x < y then y else x) :: stk) st k) : fW Δ Γ nL Q pc lc (.int y :: .int x :: stk) st k := by
  subst hq
  obtain ⟨l, D, cA, ad, N⟩ := Δ
  obtain ⟨p, e, R, s, m, args, below, meth, c, H0, A, cells, slots⟩ := Γ
  obtain ⟨hx, hb, hml, hown, hts, hK, hI, hA, hr, hlk, hf1, hf2, hc1, hc2, h00, hNs⟩ := C
  intro r st' hk H locs ls hl hR hS
  refine va_mmax hx hb (hml.trans hl.1.symm) hown (hts _ hl0) (hts _ hs0) (hts _ hi0) (hts _ hc0) (by omega) (by omega) hc1 hc2 hd ?_
  exact K r st' hk H locs ls hl hR hS
theorem r_min {α : Type} {Δ : fDl} {Γ : fGm} {nL : Nat} {Q : α → fSt → State → Prop} {cc : ByteArray} {own : String} {ret : Option FieldType} {lev pc q : Nat} {lc : List (Nat × Value)} {stk : List Value} {st : fSt} {k : Option (α × fSt)} {x y : Int32} {ix : Nat} (hl0 : (Cond.methodLink own ix Lib.Math.min.name) ∈ fT) (hs0 : (Cond.static Lib.Math.min.name) ∈ fT) (hi0 : (Cond.initialized "java/lang/Math") ∈ fT) (hc0 : (Cond.code Lib.Math.min.name Lib.Math.min.code 2 (some .int)) ∈ fT) (C : fC Δ Γ cc own nL ret lev) (hlv : 1 ≤ lev) (hst : (stk.map fun v => v.category).sum ≤ 8) (hd : decode cc pc = .ok (.invokestatic ix, 3)) (hq : pc + 3 = q)
    (K : fW Δ Γ nL Q q lc (.int (if y < x then y else x) :: stk) st k) : fW Δ Γ nL Q pc lc (.int y :: .int x :: stk) st k := by
  subst hq
  obtain ⟨l, D, cA, ad, N⟩ := Δ
  obtain ⟨p, e, R, s, m, args, below, meth, c, H0, A, cells, slots⟩ := Γ
  obtain ⟨hx, hb, hml, hown, hts, hK, hI, hA, hr, hlk, hf1, hf2, hc1, hc2, h00, hNs⟩ := C
  intro r st' hk H locs ls hl hR hS
  refine va_mmin hx hb (hml.trans hl.1.symm) hown (hts _ hl0) (hts _ hs0) (hts _ hi0) (hts _ hc0) (by omega) (by omega) hc1 hc2 hd ?_
  exact K r st' hk H locs ls hl hR hS
theorem r_labs {α : Type} {Δ : fDl} {Γ : fGm} {nL : Nat} {Q : α → fSt → State → Prop} {cc : ByteArray} {own : String} {ret : Option FieldType} {lev pc q : Nat} {lc : List (Nat × Value)} {stk : List Value} {st : fSt} {k : Option (α × fSt)} {x : Int64} {ix : Nat} (hl0 : (Cond.methodLink own ix Lib.MathLoose.abs_long.x) ∈ fT) (hs0 : (Cond.static Lib.MathLoose.abs_long.x) ∈ fT) (hi0 : (Cond.initialized "java/lang/Math") ∈ fT) (hc0 : (Cond.code Lib.MathLoose.abs_long.x Lib.MathLoose.abs_long.code 2 (some .long)) ∈ fT) (C : fC Δ Γ cc own nL ret lev) (hlv : 1 ≤ lev) (hst : (stk.map fun v => v.category).sum ≤ 8) (hd : decode cc pc = .ok (.invokestatic ix, 3)) (hq : pc + 3 = q)
    (K : fW Δ Γ nL Q q lc (.long (if 0 < x then x else -x) :: stk) st k) : fW Δ Γ nL Q pc lc (.long x :: stk) st k := by
  subst hq
  obtain ⟨l, D, cA, ad, N⟩ := Δ
  obtain ⟨p, e, R, s, m, args, below, meth, c, H0, A, cells, slots⟩ := Γ
  obtain ⟨hx, hb, hml, hown, hts, hK, hI, hA, hr, hlk, hf1, hf2, hc1, hc2, h00, hNs⟩ := C
  intro r st' hk H locs ls hl hR hS
  refine va_mabs_long hx hb (hml.trans hl.1.symm) hown (hts _ hl0) (hts _ hs0) (hts _ hi0) (hts _ hc0) (by omega) (by omega) hc1 hc2 hd ?_
  exact K r st' hk H locs ls hl hR hS
-- copies of rows
theorem fNfw : nativeFrameWords "java/lang/System" "arraycopy" 5 ≤ 40 := by decide
def fCp {β : Type} (sp dp n : Int32) (n0 n1 : Nat) (k : Option β) : Option β := if 0 ≤ sp ∧ 0 ≤ dp ∧ 0 ≤ n ∧ sp.toNatClampNeg + n.toNatClampNeg ≤ n0 ∧ dp.toNatClampNeg + n.toNatClampNeg ≤ n1 then k else none
theorem fCp_some {β : Type} {sp dp n : Int32} {n0 n1 : Nat} {k : Option β} {r : β} (h : fCp sp dp n n0 n1 k = some r) : (¬ sp < 0 ∧ ¬ dp < 0 ∧ ¬ n < 0 ∧ sp.toNatClampNeg + n.toNatClampNeg ≤ n0 ∧ dp.toNatClampNeg + n.toNatClampNeg ≤ n1) ∧ k = some r := by
  unfold fCp at h
  split at h
  · rename_i g
    exact ⟨⟨Int32.not_lt.mpr g.1, Int32.not_lt.mpr g.2.1, Int32.not_lt.mpr g.2.2.1, g.2.2.2⟩, h⟩
  · cases h
theorem r_copyI {α : Type} {Δ : fDl} {Γ : fGm} {nL : Nat} {Q : α → fSt → State → Prop} {cc : ByteArray} {own : String} {ret : Option FieldType} {lev pc q : Nat} {lc : List (Nat × Value)} {stk : List Value} {st : fSt} {k : fSt → Option (α × fSt)} {c0 i0 j0 n0 c1 i1 j1 n1 ix : Nat} {sp dp n : Int32} (hl0 : (Cond.methodLink own ix arraycopyName) ∈ fT) (hn0 : (Cond.native arraycopyName) ∈ fT) (hs0 : (Cond.static arraycopyName) ∈ fT) (hi0 : (Cond.initialized "java/lang/System") ∈ fT) (hk0 : fAK c0 j0 = (0, n0)) (hk1 : fAK c1 j1 = (0, n1)) (hj0 : c0 < 13 ∧ j0 ≠ 0 ∧ j0 ≤ fNA c0) (hj1 : c1 < 13 ∧ j1 ≠ 0 ∧ j1 ≤ fNA c1) (C : fC Δ Γ cc own nL ret lev) (hlv : 1 ≤ lev) (hst : (stk.map fun v => v.category).sum ≤ 8) (hii0 : i0 < fN Δ c0) (hii1 : i1 < fN Δ c1) (hd : decode cc pc = .ok (.invokestatic ix, 3)) (hq : pc + 3 = q)
    (K : ∀ st1, fW Δ Γ nL Q q lc stk st1 (k st1)) : fW Δ Γ nL Q pc lc (.int n :: .int dp :: .ref (fad Δ c1 i1 j1) :: .int sp :: .ref (fad Δ c0 i0 j0) :: stk) st (fCp sp dp n n0 n1 (fLt (sA st c1 i1 j1 (va_cpy (gA st c0 i0 j0) (gA st c1 i1 j1) sp.toNatClampNeg dp.toNatClampNeg n.toNatClampNeg)) k)) := by
  subst hq
  obtain ⟨l, D, cA, ad, N⟩ := Δ
  obtain ⟨p, e, R, s, m, args, below, meth, c, H0, A, cells, slots⟩ := Γ
  obtain ⟨hx, hb, hml, hown, hts, hK, hI, hA, hr, hlk, hf1, hf2, hc1, hc2, h00, hNs⟩ := C
  intro r st' hk H locs ls hl hR hS
  obtain ⟨⟨g1, g2, g3, g4, g5⟩, hk⟩ := fCp_some hk
  obtain ⟨z0, hz0⟩ := List.getElem?_of_mem (fAll_mem.mpr ⟨hj0.1, hii0, hj0.2.2⟩ : (c0, i0, j0) ∈ fAll N)
  obtain ⟨z1, hz1⟩ := List.getElem?_of_mem (fAll_mem.mpr ⟨hj1.1, hii1, hj1.2.2⟩ : (c1, i1, j1) ∈ fAll N)
  have hw0 := fWs_at (cA := cA) (ad := ad) (st := st) hz0
  have hw1 := fWs_at (cA := cA) (ad := ad) (st := st) hz1
  unfold fCell fArE at hw0 hw1
  rw [if_neg hj0.2.1, hk0] at hw0
  rw [if_neg hj1.2.1, hk1] at hw1
  refine va_copyi hx hb (hml.trans hl.1.symm) hown (hts _ hl0) (hts _ hn0) (hts _ hs0) (hts _ hi0) hK hR.1 (fWs_D hI hA) hS z0 z1 0 0 hw0 hw1 rfl rfl rfl g1 g2 g3 g4 g5 (fun _ _ => rfl) (by omega) (by have := fNfw; omega) hd (fun H1 locs1 hP1 _ hS1 => ?_)
  rw [fWs_set (st' := sA st c1 i1 j1 (va_cpy (gA st c0 i0 j0) (gA st c1 i1 j1) sp.toNatClampNeg dp.toNatClampNeg n.toNatClampNeg)) hz1 (by unfold fCell fArE; rw [if_neg hj1.2.1, hk1]; show Sum.inl (_, _, Sum.inl _) = Sum.inl (_, _, Sum.inl _); rw [show gA (sA st c1 i1 j1 (va_cpy (gA st c0 i0 j0) (gA st c1 i1 j1) sp.toNatClampNeg dp.toNatClampNeg n.toNatClampNeg)) c1 i1 j1 = _ from f3_s _ _ _ _ _]) fCell_sA] at hP1
  exact K _ r st' hk H1 locs1 ls hl ⟨hP1, hR.2⟩ hS1
theorem r_copyL {α : Type} {Δ : fDl} {Γ : fGm} {nL : Nat} {Q : α → fSt → State → Prop} {cc : ByteArray} {own : String} {ret : Option FieldType} {lev pc q : Nat} {lc : List (Nat × Value)} {stk : List Value} {st : fSt} {k : fSt → Option (α × fSt)} {c0 i0 j0 n0 c1 i1 j1 n1 ix : Nat} {sp dp n : Int32} (hl0 : (Cond.methodLink own ix arraycopyName) ∈ fT) (hn0 : (Cond.native arraycopyName) ∈ fT) (hs0 : (Cond.static arraycopyName) ∈ fT) (hi0 : (Cond.initialized "java/lang/System") ∈ fT) (hk0 : fAK c0 j0 = (3, n0)) (hk1 : fAK c1 j1 = (3, n1)) (hj0 : c0 < 13 ∧ j0 ≠ 0 ∧ j0 ≤ fNA c0) (hj1 : c1 < 13 ∧ j1 ≠ 0 ∧ j1 ≤ fNA c1) (C : fC Δ Γ cc own nL ret lev) (hlv : 1 ≤ lev) (hst : (stk.map fun v => v.category).sum ≤ 8) (hii0 : i0 < fN Δ c0) (hii1 : i1 < fN Δ c1) (hd : decode cc pc = .ok (.invokestatic ix, 3)) (hq : pc + 3 = q)
    (K : ∀ st1, fW Δ Γ nL Q q lc stk st1 (k st1)) : fW Δ Γ nL Q pc lc (.int n :: .int dp :: .ref (fad Δ c1 i1 j1) :: .int sp :: .ref (fad Δ c0 i0 j0) :: stk) st (fCp sp dp n n0 n1 (fLt (sB st c1 i1 j1 (va_cpy (gB st c0 i0 j0) (gB st c1 i1 j1) sp.toNatClampNeg dp.toNatClampNeg n.toNatClampNeg)) k)) := by
  subst hq
  obtain ⟨l, D, cA, ad, N⟩ := Δ
  obtain ⟨p, e, R, s, m, args, below, meth, c, H0, A, cells, slots⟩ := Γ
  obtain ⟨hx, hb, hml, hown, hts, hK, hI, hA, hr, hlk, hf1, hf2, hc1, hc2, h00, hNs⟩ := C
  intro r st' hk H locs ls hl hR hS
  obtain ⟨⟨g1, g2, g3, g4, g5⟩, hk⟩ := fCp_some hk
  obtain ⟨z0, hz0⟩ := List.getElem?_of_mem (fAll_mem.mpr ⟨hj0.1, hii0, hj0.2.2⟩ : (c0, i0, j0) ∈ fAll N)
  obtain ⟨z1, hz1⟩ := List.getElem?_of_mem (fAll_mem.mpr ⟨hj1.1, hii1, hj1.2.2⟩ : (c1, i1, j1) ∈ fAll N)
  have hw0 := fWs_at (cA := cA) (ad := ad) (st := st) hz0
  have hw1 := fWs_at (cA := cA) (ad := ad) (st := st) hz1
  unfold fCell fArE at hw0 hw1
  rw [if_neg hj0.2.1, hk0] at hw0
  rw [if_neg hj1.2.1, hk1] at hw1
  refine va_copyl hx hb (hml.trans hl.1.symm) hown (hts _ hl0) (hts _ hn0) (hts _ hs0) (hts _ hi0) hK hR.1 (fWs_D hI hA) hS z0 z1 3 3 hw0 hw1 rfl rfl rfl g1 g2 g3 g4 g5 (fun _ _ => rfl) (by omega) (by have := fNfw; omega) hd (fun H1 locs1 hP1 _ hS1 => ?_)
  rw [fWs_set (st' := sB st c1 i1 j1 (va_cpy (gB st c0 i0 j0) (gB st c1 i1 j1) sp.toNatClampNeg dp.toNatClampNeg n.toNatClampNeg)) hz1 (by unfold fCell fArE; rw [if_neg hj1.2.1, hk1]; show Sum.inl (_, _, Sum.inr (Sum.inl _)) = Sum.inl (_, _, Sum.inr (Sum.inl _)); rw [show gB (sB st c1 i1 j1 (va_cpy (gB st c0 i0 j0) (gB st c1 i1 j1) sp.toNatClampNeg dp.toNatClampNeg n.toNatClampNeg)) c1 i1 j1 = _ from f3_s _ _ _ _ _]) fCell_sB] at hP1
  exact K _ r st' hk H1 locs1 ls hl ⟨hP1, hR.2⟩ hS1
-- contracts and calls
def frm (lev : Nat) : Room := { frames := lev, cells := 0, slots := 0, locals := 64 * lev }
def fM (Δ : fDl) (y : MethodName) (cb : ByteArray) (maxL : Nat) (ret : Option FieldType) (lev : Nat) (av : List Value) (st : fSt) (v : Option Value) (st' : fSt) : Prop :=
  match Δ with
  | (l, D, cA, ad, N) => fInj ad N → Met l y (.code y cb maxL ret :: fT) (frm lev) (va_Pc av (fun U => fR D cA ad N st U.heap ∧ va_K D vwCl (fTys cA) U ∧ fNst U)) (fun _ s0 oc t => oc = .returned v ∧ fR D cA ad N st' t.heap ∧ va_F (fAd ad N) s0 t) 0 0 (fAd ad N)
def fMt {β : Type} (emb : β → Option Value) (Δ : fDl) (y : MethodName) (cb : ByteArray) (maxL : Nat) (ret : Option FieldType) (lev : Nat) (av : List Value) (st : fSt) (k : Option (β × fSt)) : Prop := ∀ r st', k = some (r, st') → fM Δ y cb maxL ret lev av st (emb r) st'
theorem r_method {α : Type} {emb : α → Option Value} {Δ : fDl} {y : MethodName} {cb : ByteArray} {maxL : Nat} {ret : Option FieldType} {lev : Nat} {av : List Value} {st : fSt} {k : Option (α × fSt)} (hpl : plainName y.cls = true) (hlen : (lg_sl av).length ≤ maxL)
    (h : ∀ Γ : fGm, fC Δ Γ cb y.cls maxL ret lev → fW Δ Γ maxL (fQ emb Δ Γ) 0 (lv_args 0 av) [] st k) : fMt emb Δ y cb maxL ret lev av st k := by
  obtain ⟨l, D, cA, ad, N⟩ := Δ
  intro r st' hk hI
  refine Met.ofW (cc := cb) (maxL := maxL) (ret := ret) hpl rfl ?_
  intro p e s m args below meth c s₁ B hml hv
  obtain ⟨rfl, hR, hK, hNs⟩ := hv
  have hts := atoms_spec (ws := .code y cb maxL ret :: fT) B.pre
  have hl := lv_entry av hlen
  rw [lg_entry_eq]
  exact h (p, e, frm lev, s, m, av.toArray, below, meth, c, s.heap, fAd ad N, 0, 0) ⟨B.exec, B.bytes, hml, findClass_of_methodNamed B.named, fun w hw => hts w (List.mem_cons_of_mem _ hw), hK, hI, fun _ q => q, B.returns, B.notSynchronized, Nat.le_refl _, Nat.le_refl _, Nat.zero_le _, Nat.zero_le _, rfl, hNs⟩ r st' hk s.heap [] _ hl hR va_S.rf
theorem fCallB {R : Room} {s : State} {args : Array Value} {own : String} {ix : Nat} {y : MethodName} {cb : ByteArray} {maxL n lev lev' : Nat} {ret : Option FieldType} (hts : ∀ w ∈ fT, w.before args s = true) (hl : Cond.methodLink own ix y ∈ fT) (hi : Cond.initialized y.cls ∈ fT) (hc : Cond.code y cb maxL ret ∈ fT) (hy : y.cls ≠ "java/lang/invoke/MethodHandle" ∧ y.cls ≠ "java/lang/invoke/VarHandle") (hn : (parseMethodDescriptor y.desc).map (fun d => d.parameters.length) = some n) (hm : maxL ≤ 45) (hlev : lev' + 1 ≤ lev) (h1 : lev ≤ R.frames) (h2 : 64 * lev ≤ R.locals) : CallB R s args own ix y cb maxL ret (.code y cb maxL ret :: fT) (frm lev') 0 0 n := by
  have hG : GoodIn fT (.code y cb maxL ret :: fT) := fT_good (fun _ h => h) (fun w hw => by
    rcases List.mem_cons.mp hw with h | h
    · rw [h]; exact hc
    · exact h)
  exact callB_of (Ts := fT) n hts hG rfl rfl rfl (hts _ hi) (hts _ hl) ⟨hy.1, hy.2, hn⟩ ⟨by show lev' + 1 ≤ _; omega, by show 8 + (maxL + 11) + 64 * lev' ≤ _; omega⟩
theorem fBlind {D : va_G} {cA : Nat → ClassId} {ad : Nat → Nat → Nat → Nat} {N : Nat → Nat} {st : fSt} {av : List Value} : FrameBlind (va_Pc av (fun U => fR D cA ad N st U.heap ∧ va_K D vwCl (fTys cA) U ∧ fNst U)) := fun a U g mk q => ⟨q.1, q.2.1, va_K.moved (u := U) (U := U.calling g mk a) (Vm.Alike.refl U.vm) q.2.2.1, fNst_call q.2.2.2⟩
theorem fAfter {α β : Type} {emb : β → Option Value} {l : Launch} {D : va_G} {cA : Nat → ClassId} {ad : Nat → Nat → Nat → Nat} {N : Nat → Nat} {p : Program} {e : Env} {R : Room} {s : State} {m : MethodId} {args : Array Value} {below : List Frame} {meth : Method} {c : Code} {H0 H : Heap} {A : Nat → Prop} {cells slots nL pc : Nat} {locs : List Loc} {ls : Array Slot} {lc : List (Nat × Value)} {st0 stk : List Value} {Q : α → fSt → State → Prop} {rb : β} {stb : fSt} {k : Option (α × fSt)} {r : α} {st' : fSt}
    (hr : va_Run p l e R s m args below meth c H locs cells slots 0 0 (F0 m pc ls st0) stk (fun s0 oc t => oc = .returned (emb rb) ∧ fR D cA ad N stb t.heap ∧ va_F (fAd ad N) s0 t) (fAd ad N)) (hS : va_S A H0 H locs) (hA : ∀ q, fAd ad N q → A q) (hl : lv_has ls nL lc) (hk : k = some (r, st'))
    (K : fW (l, D, cA, ad, N) (p, e, R, s, m, args, below, meth, c, H0, A, cells, slots) nL Q (pc + 3) lc ((emb rb).toList ++ stk) stb k) : W p l e R s m args below meth c H locs cells slots (Q r st') (F0 m pc ls st0) := by
  intro T hT X
  obtain ⟨v, st₀, t, T', L, h0, X', hL, e1, e2, ⟨hv, hRb, hF⟩, st⟩ := hr T hT X
  cases hv
  obtain ⟨hz, hkk⟩ := hF
  rw [h0] at hz hkk
  obtain ⟨t2, a1, b1⟩ := K r st' hk T'.heap (locs ++ L) ls hl (by rw [e1]; exact hRb) ⟨Nat.le_trans hS.1 (by rw [e1]; exact hz), fun q h1 h2 => by rw [e1, hkk q (Nat.lt_of_lt_of_le h1 hS.1) (fun z => h2 (hA q z))]; exact hS.2.1 q h1 h2, fun q hq => by
      rcases List.mem_append.mp hq with h | h
      · exact hS.2.2 q h
      · exact hA _ (hL q h)⟩ T' rfl X'
  exact ⟨t2, st t2 a1, b1⟩
theorem r_callV {β : Type} {α : Type} {Δ : fDl} {Γ : fGm} {nL : Nat} {Q : α → fSt → State → Prop} {cc : ByteArray} {own : String} {ret : Option FieldType} {lev pc q : Nat} {lc : List (Nat × Value)} {stk : List Value} {st : fSt} {emb : β → Option Value} {o : Option (β × fSt)} {K' : β → fSt → Option (α × fSt)} {y : MethodName} {cb : ByteArray} {maxL lev' c0 i0 n0 ix : Nat} {ret' : Option FieldType} {As stk0 : List Value} {T : u_T} (hl0 : Cond.methodLink own ix y ∈ fT) (Y : fYv y cb maxL ret' As.length) (hM : fMt emb Δ y cb maxL ret' lev' (.ref (fad Δ c0 i0 0) :: As) st o) (hc0 : vwCl[c0]? = some (y.cls, T, n0) ∧ c0 < 13) (C : fC Δ Γ cc own nL ret lev) (hi : i0 < fN Δ c0) (hlev : lev' + 1 ≤ lev) (hst : stk0 = As.reverse ++ .ref (fad Δ c0 i0 0) :: stk) (hcat : (stk.map fun v => v.category).sum ≤ 8) (hd : decode cc pc = .ok (.invokevirtual ix, 3)) (hq : pc + 3 = q)
    (K : ∀ rb stb, fW Δ Γ nL Q q lc ((emb rb).toList ++ stk) stb (K' rb stb)) : fW Δ Γ nL Q pc lc stk0 st (fBd o K') := by
  subst hq
  subst hst
  obtain ⟨l, D, cA, ad, N⟩ := Δ
  obtain ⟨p, e, R, s, m, args, below, meth, c, H0, A, cells, slots⟩ := Γ
  obtain ⟨hx, hb, hml, hown, hts, hK, hI, hA, hr, hlk, hf1, hf2, hc1, hc2, h00, hNs⟩ := C
  intro r st' hk H locs ls hl hR hS
  obtain ⟨Y1, Y2, Y3, Y4, Y5, Y6, Y7⟩ := Y
  cases o with
  | none => cases hk
  | some rb =>
    obtain ⟨rb, stb⟩ := rb
    obtain ⟨z, hz⟩ := List.getElem?_of_mem (fAll_mem.mpr ⟨hc0.2, hi, Nat.zero_le _⟩ : (c0, i0, 0) ∈ fAll N)
    refine fAfter (va_runV (C := y.cls) (As := As) (rest := stk) (Ts := fT) ⟨hx, hb, hml, hown, hts⟩ (hM rb stb rfl hI) ⟨fCallB hts hl0 Y3 Y4 Y5 Y6 Y7 hlev hf1 hf2, hts _ Y1, hts _ Y2⟩ ⟨fBlind, va_recv hK hR.1 (ci := c0) (q0 := z) hc0.1 (fWs_at hz), fun U hU hW => ⟨rfl, by rw [hU]; exact hR, va_K.moved hW.alike hK, fNst_warm hW hNs⟩⟩ rfl rfl hl.1 rfl (lv_room hcat) hd ⟨by omega, by omega⟩) hS hA hl hk (K rb stb)
theorem r_callS {β : Type} {α : Type} {Δ : fDl} {Γ : fGm} {nL : Nat} {Q : α → fSt → State → Prop} {cc : ByteArray} {own : String} {ret : Option FieldType} {lev pc q : Nat} {lc : List (Nat × Value)} {stk : List Value} {st : fSt} {emb : β → Option Value} {o : Option (β × fSt)} {K' : β → fSt → Option (α × fSt)} {y : MethodName} {cb : ByteArray} {maxL lev' ix : Nat} {ret' : Option FieldType} {As stk0 : List Value} (hl0 : Cond.methodLink own ix y ∈ fT) (Y : fYs y cb maxL ret' As.length) (hM : fMt emb Δ y cb maxL ret' lev' As st o) (C : fC Δ Γ cc own nL ret lev) (hlev : lev' + 1 ≤ lev) (hst : stk0 = As.reverse ++ stk) (hcat : (stk.map fun v => v.category).sum ≤ 8) (hd : decode cc pc = .ok (.invokestatic ix, 3)) (hq : pc + 3 = q)
    (K : ∀ rb stb, fW Δ Γ nL Q q lc ((emb rb).toList ++ stk) stb (K' rb stb)) : fW Δ Γ nL Q pc lc stk0 st (fBd o K') := by
  subst hq
  subst hst
  obtain ⟨l, D, cA, ad, N⟩ := Δ
  obtain ⟨p, e, R, s, m, args, below, meth, c, H0, A, cells, slots⟩ := Γ
  obtain ⟨hx, hb, hml, hown, hts, hK, hI, hA, hr, hlk, hf1, hf2, hc1, hc2, h00, hNs⟩ := C
  intro r st' hk H locs ls hl hR hS
  obtain ⟨Y2, Y3, Y4, Y5, Y6, Y7⟩ := Y
  cases o with
  | none => cases hk
  | some rb =>
    obtain ⟨rb, stb⟩ := rb
    refine fAfter (va_runS (As := As) (rest := stk) (Ts := fT) ⟨hx, hb, hml, hown, hts⟩ (hM rb stb rfl hI) ⟨fCallB hts hl0 Y3 Y4 Y5 Y6 Y7 hlev hf1 hf2, hts _ Y2⟩ ⟨fBlind, fun U hU hW => ⟨rfl, by rw [hU]; exact hR, va_K.moved hW.alike hK, fNst_warm hW hNs⟩⟩ rfl rfl hl.1 rfl (lv_room hcat) hd ⟨by omega, by omega⟩) hS hA hl hk (K rb stb)

theorem r_callVI {α : Type} {Δ : fDl} {Γ : fGm} {nL : Nat} {Q : α → fSt → State → Prop} {cc : ByteArray} {own : String} {ret : Option FieldType} {lev pc q : Nat} {lc : List (Nat × Value)} {stk : List Value} {st : fSt} {o : Option (Int32 × fSt)} {K' : Int32 → fSt → Option (α × fSt)} {y : MethodName} {cb : ByteArray} {maxL lev' c0 i0 n0 ix : Nat} {ret' : Option FieldType} {As stk0 : List Value} {T : u_T} (hl0 : Cond.methodLink own ix y ∈ fT) (Y : fYv y cb maxL ret' As.length) (hM : fMt eI Δ y cb maxL ret' lev' (.ref (fad Δ c0 i0 0) :: As) st o) (hc0 : vwCl[c0]? = some (y.cls, T, n0) ∧ c0 < 13) (C : fC Δ Γ cc own nL ret lev) (hi : i0 < fN Δ c0) (hlev : lev' + 1 ≤ lev) (hst : stk0 = As.reverse ++ .ref (fad Δ c0 i0 0) :: stk) (hcat : (stk.map fun v => v.category).sum ≤ 8) (hd : decode cc pc = .ok (.invokevirtual ix, 3)) (hq : pc + 3 = q)
    (K : ∀ rb stb, fW Δ Γ nL Q q lc (.int rb :: stk) stb (K' rb stb)) : fW Δ Γ nL Q pc lc stk0 st (fBd o K') := r_callV hl0 Y hM hc0 C hi hlev hst hcat hd hq K
theorem r_callVL {α : Type} {Δ : fDl} {Γ : fGm} {nL : Nat} {Q : α → fSt → State → Prop} {cc : ByteArray} {own : String} {ret : Option FieldType} {lev pc q : Nat} {lc : List (Nat × Value)} {stk : List Value} {st : fSt} {o : Option (Int64 × fSt)} {K' : Int64 → fSt → Option (α × fSt)} {y : MethodName} {cb : ByteArray} {maxL lev' c0 i0 n0 ix : Nat} {ret' : Option FieldType} {As stk0 : List Value} {T : u_T} (hl0 : Cond.methodLink own ix y ∈ fT) (Y : fYv y cb maxL ret' As.length) (hM : fMt eL Δ y cb maxL ret' lev' (.ref (fad Δ c0 i0 0) :: As) st o) (hc0 : vwCl[c0]? = some (y.cls, T, n0) ∧ c0 < 13) (C : fC Δ Γ cc own nL ret lev) (hi : i0 < fN Δ c0) (hlev : lev' + 1 ≤ lev) (hst : stk0 = As.reverse ++ .ref (fad Δ c0 i0 0) :: stk) (hcat : (stk.map fun v => v.category).sum ≤ 8) (hd : decode cc pc = .ok (.invokevirtual ix, 3)) (hq : pc + 3 = q)
    (K : ∀ rb stb, fW Δ Γ nL Q q lc (.long rb :: stk) stb (K' rb stb)) : fW Δ Γ nL Q pc lc stk0 st (fBd o K') := r_callV hl0 Y hM hc0 C hi hlev hst hcat hd hq K
theorem r_callVV {α : Type} {Δ : fDl} {Γ : fGm} {nL : Nat} {Q : α → fSt → State → Prop} {cc : ByteArray} {own : String} {ret : Option FieldType} {lev pc q : Nat} {lc : List (Nat × Value)} {stk : List Value} {st : fSt} {o : Option (Unit × fSt)} {K' : Unit → fSt → Option (α × fSt)} {y : MethodName} {cb : ByteArray} {maxL lev' c0 i0 n0 ix : Nat} {ret' : Option FieldType} {As stk0 : List Value} {T : u_T} (hl0 : Cond.methodLink own ix y ∈ fT) (Y : fYv y cb maxL ret' As.length) (hM : fMt eV Δ y cb maxL ret' lev' (.ref (fad Δ c0 i0 0) :: As) st o) (hc0 : vwCl[c0]? = some (y.cls, T, n0) ∧ c0 < 13) (C : fC Δ Γ cc own nL ret lev) (hi : i0 < fN Δ c0) (hlev : lev' + 1 ≤ lev) (hst : stk0 = As.reverse ++ .ref (fad Δ c0 i0 0) :: stk) (hcat : (stk.map fun v => v.category).sum ≤ 8) (hd : decode cc pc = .ok (.invokevirtual ix, 3)) (hq : pc + 3 = q)
    (K : ∀ rb stb, fW Δ Γ nL Q q lc stk stb (K' rb stb)) : fW Δ Γ nL Q pc lc stk0 st (fBd o K') := r_callV hl0 Y hM hc0 C hi hlev hst hcat hd hq K
theorem r_callSI {α : Type} {Δ : fDl} {Γ : fGm} {nL : Nat} {Q : α → fSt → State → Prop} {cc : ByteArray} {own : String} {ret : Option FieldType} {lev pc q : Nat} {lc : List (Nat × Value)} {stk : List Value} {st : fSt} {o : Option (Int32 × fSt)} {K' : Int32 → fSt → Option (α × fSt)} {y : MethodName} {cb : ByteArray} {maxL lev' ix : Nat} {ret' : Option FieldType} {As stk0 : List Value} (hl0 : Cond.methodLink own ix y ∈ fT) (Y : fYs y cb maxL ret' As.length) (hM : fMt eI Δ y cb maxL ret' lev' As st o) (C : fC Δ Γ cc own nL ret lev) (hlev : lev' + 1 ≤ lev) (hst : stk0 = As.reverse ++ stk) (hcat : (stk.map fun v => v.category).sum ≤ 8) (hd : decode cc pc = .ok (.invokestatic ix, 3)) (hq : pc + 3 = q)
    (K : ∀ rb stb, fW Δ Γ nL Q q lc (.int rb :: stk) stb (K' rb stb)) : fW Δ Γ nL Q pc lc stk0 st (fBd o K') := r_callS hl0 Y hM C hlev hst hcat hd hq K
theorem r_callSL {α : Type} {Δ : fDl} {Γ : fGm} {nL : Nat} {Q : α → fSt → State → Prop} {cc : ByteArray} {own : String} {ret : Option FieldType} {lev pc q : Nat} {lc : List (Nat × Value)} {stk : List Value} {st : fSt} {o : Option (Int64 × fSt)} {K' : Int64 → fSt → Option (α × fSt)} {y : MethodName} {cb : ByteArray} {maxL lev' ix : Nat} {ret' : Option FieldType} {As stk0 : List Value} (hl0 : Cond.methodLink own ix y ∈ fT) (Y : fYs y cb maxL ret' As.length) (hM : fMt eL Δ y cb maxL ret' lev' As st o) (C : fC Δ Γ cc own nL ret lev) (hlev : lev' + 1 ≤ lev) (hst : stk0 = As.reverse ++ stk) (hcat : (stk.map fun v => v.category).sum ≤ 8) (hd : decode cc pc = .ok (.invokestatic ix, 3)) (hq : pc + 3 = q)
    (K : ∀ rb stb, fW Δ Γ nL Q q lc (.long rb :: stk) stb (K' rb stb)) : fW Δ Γ nL Q pc lc stk0 st (fBd o K') := r_callS hl0 Y hM C hlev hst hcat hd hq K
theorem r_callSV {α : Type} {Δ : fDl} {Γ : fGm} {nL : Nat} {Q : α → fSt → State → Prop} {cc : ByteArray} {own : String} {ret : Option FieldType} {lev pc q : Nat} {lc : List (Nat × Value)} {stk : List Value} {st : fSt} {o : Option (Unit × fSt)} {K' : Unit → fSt → Option (α × fSt)} {y : MethodName} {cb : ByteArray} {maxL lev' ix : Nat} {ret' : Option FieldType} {As stk0 : List Value} (hl0 : Cond.methodLink own ix y ∈ fT) (Y : fYs y cb maxL ret' As.length) (hM : fMt eV Δ y cb maxL ret' lev' As st o) (C : fC Δ Γ cc own nL ret lev) (hlev : lev' + 1 ≤ lev) (hst : stk0 = As.reverse ++ stk) (hcat : (stk.map fun v => v.category).sum ≤ 8) (hd : decode cc pc = .ok (.invokestatic ix, 3)) (hq : pc + 3 = q)
    (K : ∀ rb stb, fW Δ Γ nL Q q lc stk stb (K' rb stb)) : fW Δ Γ nL Q pc lc stk0 st (fBd o K') := r_callS hl0 Y hM C hlev hst hcat hd hq K
-- a field that may be null
def fNu {β : Type} (x : Nat) (k0 : Option β) (f : Nat → Option β) : Option β := match x with
  | 0 => k0
  | q + 1 => f q
theorem r_nul {α : Type} {Δ : fDl} {Γ : fGm} {nL : Nat} {Q : α → fSt → State → Prop} {cc : ByteArray} {own : String} {ret : Option FieldType} {lev pc : Nat} {lc : List (Nat × Value)} {stk : List Value} {st : fSt} {k0 : Option (α × fSt)} {k : Nat → Option (α × fSt)} {c0 x : Nat} (C : fC Δ Γ cc own nL ret lev) (hbx : fPok (fN Δ) st → x ≤ fN Δ c0) (K0 : fW Δ Γ nL Q pc lc (.null :: stk) st k0) (K : ∀ y, y < fN Δ c0 → fW Δ Γ nL Q pc lc (.ref (fad Δ c0 y 0) :: stk) st (k y)) : fW Δ Γ nL Q pc lc (fV (fun y => fad Δ c0 y 0) x :: stk) st (fNu x k0 k) := by
  obtain ⟨l, D, cA, ad, N⟩ := Δ
  obtain ⟨p, e, R, s, m, args, below, meth, c, H0, A, cells, slots⟩ := Γ
  obtain ⟨hx, hb, hml, hown, hts, hK, hI, hA, hr, hlk, hf1, hf2, hc1, hc2, h00, hNs⟩ := C
  intro r st' hk H locs ls hl hR hS
  cases x with
  | zero => exact K0 r st' hk H locs ls hl hR hS
  | succ y => exact K y (hbx hR.2) r st' hk H locs ls hl hR hS
theorem r_astoreN {α : Type} {Δ : fDl} {Γ : fGm} {nL : Nat} {Q : α → fSt → State → Prop} {cc : ByteArray} {own : String} {ret : Option FieldType} {lev pc q : Nat} {lc : List (Nat × Value)} {stk : List Value} {st : fSt} {k : Option (α × fSt)} {i : Nat} (lr : List (Nat × Value)) (C : fC Δ Γ cc own nL ret lev) (hd : decode cc pc = .ok (.astore i, 2)) (hq : pc + 2 = q) (hn : i < nL) (hlc : lc.filter (fun q => !(q.1 == i) && !(q.1 + 1 == i && q.2.category == 2)) = lr)
    (K : fW Δ Γ nL Q q ((i, .null) :: lr) stk st k) : fW Δ Γ nL Q pc lc (.null :: stk) st k := by
  subst hq
  subst hlc
  obtain ⟨l, D, cA, ad, N⟩ := Δ
  obtain ⟨p, e, R, s, m, args, below, meth, c, H0, A, cells, slots⟩ := Γ
  obtain ⟨hx, hb, hml, hown, hts, hK, hI, hA, hr, hlk, hf1, hf2, hc1, hc2, h00, hNs⟩ := C
  intro r st' hk H locs ls hl hR hS
  exact lv_astoreN hx hb hd hl hn rfl (fun ls hl => K r st' hk H locs ls hl hR hS)
theorem r_aloadN {α : Type} {Δ : fDl} {Γ : fGm} {nL : Nat} {Q : α → fSt → State → Prop} {cc : ByteArray} {own : String} {ret : Option FieldType} {lev pc q : Nat} {lc : List (Nat × Value)} {stk : List Value} {st : fSt} {k : Option (α × fSt)} {i z : Nat} (C : fC Δ Γ cc own nL ret lev) (hd : decode cc pc = .ok (.aload i, 2)) (hq : pc + 2 = q) (hz : lc[z]? = some (i, .null))
    (K : fW Δ Γ nL Q q lc (.null :: stk) st k) : fW Δ Γ nL Q pc lc stk st k := by
  subst hq
  obtain ⟨l, D, cA, ad, N⟩ := Δ
  obtain ⟨p, e, R, s, m, args, below, meth, c, H0, A, cells, slots⟩ := Γ
  obtain ⟨hx, hb, hml, hown, hts, hK, hI, hA, hr, hlk, hf1, hf2, hc1, hc2, h00, hNs⟩ := C
  intro r st' hk H locs ls hl hR hS
  exact lv_aloadN hx hb hd (lv_at hl z hz) (K r st' hk H locs ls hl hR hS)
theorem r_nnN {α : Type} {Δ : fDl} {Γ : fGm} {nL : Nat} {Q : α → fSt → State → Prop} {cc : ByteArray} {own : String} {ret : Option FieldType} {lev pc q : Nat} {lc : List (Nat × Value)} {stk : List Value} {st : fSt} {k : Option (α × fSt)} {off : Int} (C : fC Δ Γ cc own nL ret lev) (hd : decode cc pc = .ok (.ifnonnull off, 3)) (hq : pc + 3 = q)
    (K : fW Δ Γ nL Q q lc stk st k) : fW Δ Γ nL Q pc lc (.null :: stk) st k := by
  subst hq
  obtain ⟨l, D, cA, ad, N⟩ := Δ
  obtain ⟨p, e, R, s, m, args, below, meth, c, H0, A, cells, slots⟩ := Γ
  obtain ⟨hx, hb, hml, hown, hts, hK, hI, hA, hr, hlk, hf1, hf2, hc1, hc2, h00, hNs⟩ := C
  intro r st' hk H locs ls hl hR hS
  exact lv_ifnonnullN hx hb hd (K r st' hk H locs ls hl hR hS)
theorem r_nnR {α : Type} {Δ : fDl} {Γ : fGm} {nL : Nat} {Q : α → fSt → State → Prop} {cc : ByteArray} {own : String} {ret : Option FieldType} {lev pc q : Nat} {lc : List (Nat × Value)} {stk : List Value} {st : fSt} {k : Option (α × fSt)} {off : Int} {a : Nat} (C : fC Δ Γ cc own nL ret lev) (hd : decode cc pc = .ok (.ifnonnull off, 3)) (ht : (pc : Int) + off = (q : Int))
    (K : fW Δ Γ nL Q q lc stk st k) : fW Δ Γ nL Q pc lc (.ref a :: stk) st k := by
  obtain ⟨l, D, cA, ad, N⟩ := Δ
  obtain ⟨p, e, R, s, m, args, below, meth, c, H0, A, cells, slots⟩ := Γ
  obtain ⟨hx, hb, hml, hown, hts, hK, hI, hA, hr, hlk, hf1, hf2, hc1, hc2, h00, hNs⟩ := C
  intro r st' hk H locs ls hl hR hS
  exact lv_ifnonnull hx hb hd ht (K r st' hk H locs ls hl hR hS)
noncomputable def fF : Nat := Classical.choose (⟨4000000, Nat.le_refl _⟩ : ∃ n : Nat, 4000000 ≤ n)
theorem fF_ge : 4000000 ≤ fF := Classical.choose_spec (⟨4000000, Nat.le_refl _⟩ : ∃ n : Nat, 4000000 ≤ n)

-- how many objects there are: the class's own, the model's
def fNm (Δ : fDl) : Prop := fN Δ 12 = 1
def fNx (Δ : fDl) : Prop := fN Δ 0 = 4 ∧ fN Δ 1 = 1 ∧ fN Δ 2 = 4 ∧ fN Δ 3 = 3 ∧ fN Δ 4 = 1 ∧ fN Δ 5 = 1 ∧ fN Δ 6 = 1 ∧ fN Δ 8 = 4 ∧ fN Δ 10 = 2 ∧ fN Δ 11 = 1
theorem nm_12 {Δ : fDl} (h : fNm Δ) : 0 < fN Δ 12 := by unfold fNm at h; omega
theorem nx_20 {Δ : fDl} (h : fNx Δ) {i : Nat} (hi : i < fN Δ 2) : i < fN Δ 0 := by unfold fNx at h; omega
theorem nx_103 {Δ : fDl} (h : fNx Δ) {i : Nat} (hi : i < fN Δ 10) : i + 1 < fN Δ 3 := by unfold fNx at h; omega
theorem nx_48 {Δ : fDl} (h : fNx Δ) : 4 ≤ fN Δ 8 := by unfold fNx at h; omega
theorem nx_42 {Δ : fDl} (h : fNx Δ) : 3 + 1 ≤ fN Δ 2 := by unfold fNx at h; omega
theorem nk_0_0 {Δ : fDl} (h : fNx Δ) : 0 < fN Δ 0 := by unfold fNx at h; omega
theorem nk_0_1 {Δ : fDl} (h : fNx Δ) : 1 < fN Δ 0 := by unfold fNx at h; omega
theorem nk_0_2 {Δ : fDl} (h : fNx Δ) : 2 < fN Δ 0 := by unfold fNx at h; omega
theorem nk_0_3 {Δ : fDl} (h : fNx Δ) : 3 < fN Δ 0 := by unfold fNx at h; omega
theorem nk_1_0 {Δ : fDl} (h : fNx Δ) : 0 < fN Δ 1 := by unfold fNx at h; omega
theorem nk_2_0 {Δ : fDl} (h : fNx Δ) : 0 < fN Δ 2 := by unfold fNx at h; omega
theorem nk_2_1 {Δ : fDl} (h : fNx Δ) : 1 < fN Δ 2 := by unfold fNx at h; omega
theorem nk_2_2 {Δ : fDl} (h : fNx Δ) : 2 < fN Δ 2 := by unfold fNx at h; omega
theorem nk_2_3 {Δ : fDl} (h : fNx Δ) : 3 < fN Δ 2 := by unfold fNx at h; omega
theorem nk_3_0 {Δ : fDl} (h : fNx Δ) : 0 < fN Δ 3 := by unfold fNx at h; omega
theorem nk_3_1 {Δ : fDl} (h : fNx Δ) : 1 < fN Δ 3 := by unfold fNx at h; omega
theorem nk_3_2 {Δ : fDl} (h : fNx Δ) : 2 < fN Δ 3 := by unfold fNx at h; omega
theorem nk_4_0 {Δ : fDl} (h : fNx Δ) : 0 < fN Δ 4 := by unfold fNx at h; omega
theorem nk_5_0 {Δ : fDl} (h : fNx Δ) : 0 < fN Δ 5 := by unfold fNx at h; omega
theorem nk_6_0 {Δ : fDl} (h : fNx Δ) : 0 < fN Δ 6 := by unfold fNx at h; omega
theorem nk_8_0 {Δ : fDl} (h : fNx Δ) : 0 < fN Δ 8 := by unfold fNx at h; omega
theorem nk_8_1 {Δ : fDl} (h : fNx Δ) : 1 < fN Δ 8 := by unfold fNx at h; omega
theorem nk_8_2 {Δ : fDl} (h : fNx Δ) : 2 < fN Δ 8 := by unfold fNx at h; omega
theorem nk_8_3 {Δ : fDl} (h : fNx Δ) : 3 < fN Δ 8 := by unfold fNx at h; omega
theorem nk_10_0 {Δ : fDl} (h : fNx Δ) : 0 < fN Δ 10 := by unfold fNx at h; omega
theorem nk_10_1 {Δ : fDl} (h : fNx Δ) : 1 < fN Δ 10 := by unfold fNx at h; omega
theorem nk_11_0 {Δ : fDl} (h : fNx Δ) : 0 < fN Δ 11 := by unfold fNx at h; omega

theorem r_callSNI {α : Type} {Δ : fDl} {Γ : fGm} {nL : Nat} {Q : α → fSt → State → Prop} {cc : ByteArray} {own : String} {ret : Option FieldType} {lev pc q : Nat} {lc : List (Nat × Value)} {stk : List Value} {st : fSt} {o : Option (Int32 × fSt)} {K' : Int32 → fSt → Option (α × fSt)} {y : MethodName} {cb : ByteArray} {maxL lev' ix : Nat} {ret' : Option FieldType} {As stk0 : List Value} {host : String} (hl0 : Cond.methodLinkNest own ix y host ∈ lw_tbl) (Y : fYs y cb maxL ret' As.length) (hM : fMt eI Δ y cb maxL ret' lev' As st o) (C : fC Δ Γ cc own nL ret lev) (hlev : lev' + 1 ≤ lev) (hst : stk0 = As.reverse ++ stk) (hcat : (stk.map fun v => v.category).sum ≤ 8) (hd : decode cc pc = .ok (.invokestatic ix, 3)) (hq : pc + 3 = q)
    (K : ∀ rb stb, fW Δ Γ nL Q q lc (.int rb :: stk) stb (K' rb stb)) : fW Δ Γ nL Q pc lc stk0 st (fBd o K') := by
  subst hq
  subst hst
  obtain ⟨l, D, cA, ad, N⟩ := Δ
  obtain ⟨p, e, R, s, m, args, below, meth, c, H0, A, cells, slots⟩ := Γ
  obtain ⟨hx, hb, hml, hown, hts, hK, hI, hA, hr, hlk, hf1, hf2, hc1, hc2, h00, hNs⟩ := C
  intro r st' hk H locs ls hl hR hS
  obtain ⟨Y2, Y3, Y4, Y5, Y6, Y7⟩ := Y
  cases o with
  | none => cases hk
  | some rb =>
    obtain ⟨rb, stb⟩ := rb
    have hG : GoodIn fT (.code y cb maxL ret' :: fT) := fT_good (fun _ h => h) (fun w hw => by
      rcases List.mem_cons.mp hw with h | h
      · rw [h]; exact Y4
      · exact h)
    have hcn : va_CN R s args own ix y host cb maxL ret' (.code y cb maxL ret' :: fT) (frm lev') 0 0 As.length := va_cnB (Ts := fT) As.length hts hG rfl rfl rfl (hNs.1 _ _ _ _ hl0) (hts _ Y3) ⟨Y5.1, Y5.2, Y6⟩ ⟨by show lev' + 1 ≤ _; omega, by show 8 + (maxL + 11) + 64 * lev' ≤ _; omega⟩
    refine fAfter (va_runSN (As := As) (rest := stk) (Ts := fT) ⟨hx, hb, hml, hown, hts⟩ (hM rb stb rfl hI) ⟨hcn, hts _ Y2, trivial⟩ ⟨fBlind, fun U hU hW => ⟨rfl, by rw [hU]; exact hR, va_K.moved hW.alike hK, fNst_warm hW hNs⟩⟩ rfl rfl hl.1 rfl (lv_room hcat) hd ⟨by omega, by omega⟩) hS hA hl hk (K rb stb)
