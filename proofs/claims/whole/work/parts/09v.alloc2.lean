/-! an object more: the world behind it -/
theorem fFK_big {c k : Nat} (h : 13 ≤ c ∨ 65 ≤ k) : fFK c k = (0, 0, 0) := by
  unfold fFK
  have hl : ∀ r ∈ fTab, r.length ≤ 65 := by decide
  rcases h with h | h
  · have : fTab.getD c [] = [] := by
      rw [List.getD_eq_getElem?_getD, List.getElem?_eq_none (by show fTab.length ≤ c; exact h)]
      rfl
    rw [this]
    rfl
  · have : (fTab.getD c []).length ≤ 65 := by
      rw [List.getD_eq_getElem?_getD]
      cases hc : fTab[c]? with
      | none => simp
      | some r => exact hl r (List.mem_of_getElem? hc)
    rw [List.getD_eq_getElem?_getD, List.getElem?_eq_none (by omega)]
    rfl
theorem fFK_tab0 : ((List.range 13).all fun c => (List.range 65).all fun k => (decide ((fFK c k).1 < 5)) && ((fFK c k).1 != 3 || ((fFK c k).2.1 != 7 && (fFK c k).2.1 != 9)) && ((fFK c k).1 != 4 || (c == 2 && ((k == 0 && (fFK c k).2.1 == 7) || (k == 1 && (fFK c k).2.1 == 9))))) = true := by decide +kernel
theorem fFK_tab (c : Nat) (hc : c < 13) (k : Nat) (hk : k < 65) : (fFK c k).1 < 5 ∧ ((fFK c k).1 = 3 → (fFK c k).2.1 ≠ 7 ∧ (fFK c k).2.1 ≠ 9) ∧ ((fFK c k).1 = 4 → c = 2 ∧ (k = 0 ∧ (fFK c k).2.1 = 7 ∨ k = 1 ∧ (fFK c k).2.1 = 9)) := by
  have h1 := List.all_eq_true.mp fFK_tab0 c (List.mem_range.mpr hc)
  have h2 := List.all_eq_true.mp h1 k (List.mem_range.mpr hk)
  simp only [Bool.and_eq_true, Bool.or_eq_true, decide_eq_true_eq, bne_iff_ne, beq_iff_eq] at h2
  obtain ⟨⟨a, b⟩, d⟩ := h2
  exact ⟨a, fun h => b.elim (fun q => absurd h q) id, fun h => d.elim (fun q => absurd h q) id⟩
theorem fFK_ok (c k : Nat) : (fFK c k).1 < 5 ∧ ((fFK c k).1 = 3 → (fFK c k).2.1 ≠ 7 ∧ (fFK c k).2.1 ≠ 9) ∧ ((fFK c k).1 = 4 → c = 2 ∧ (k = 0 ∧ (fFK c k).2.1 = 7 ∨ k = 1 ∧ (fFK c k).2.1 = 9)) := by
  by_cases h : c < 13 ∧ k < 65
  · exact fFK_tab c h.1 k h.2
  · rw [fFK_big (by omega)]
    exact ⟨Nat.zero_lt_succ 4, fun h => absurd h (by decide), fun h => absurd h (by decide)⟩
/-- a fresh object's fields and rows: all 0 -/
def fNewO (c0 n0 : Nat) (st : fSt) : fSt := (fun c i k => if c = c0 ∧ i = n0 then 0 else st.1 c i k, fun c i k => if c = c0 ∧ i = n0 then 0 else st.2.1 c i k, fun c i k => if c = c0 ∧ i = n0 then (fun _ => 0) else st.2.2.1 c i k, fun c i k => if c = c0 ∧ i = n0 then (fun _ => 0) else st.2.2.2.1 c i k, st.2.2.2.2)
def fAdN (ad : Nat → Nat → Nat → Nat) (c0 n0 : Nat) (na : Nat → Nat) : Nat → Nat → Nat → Nat := fun c i j => if c = c0 ∧ i = n0 then na j else ad c i j
def fNN (N : Nat → Nat) (c0 : Nat) : Nat → Nat := fun c => if c = c0 then N c0 + 1 else N c
theorem fNewO_I {c0 n0 : Nat} {st : fSt} {c i k : Nat} (h : ¬ (c = c0 ∧ i = n0)) : gI (fNewO c0 n0 st) c i k = gI st c i k := if_neg h
theorem fNewO_L {c0 n0 : Nat} {st : fSt} {c i k : Nat} (h : ¬ (c = c0 ∧ i = n0)) : gL (fNewO c0 n0 st) c i k = gL st c i k := if_neg h
theorem fNewO_A {c0 n0 : Nat} {st : fSt} {c i k : Nat} (h : ¬ (c = c0 ∧ i = n0)) : gA (fNewO c0 n0 st) c i k = gA st c i k := if_neg h
theorem fNewO_B {c0 n0 : Nat} {st : fSt} {c i k : Nat} (h : ¬ (c = c0 ∧ i = n0)) : gB (fNewO c0 n0 st) c i k = gB st c i k := if_neg h
theorem fNewO_Is (c0 n0 : Nat) (st : fSt) (k : Nat) : gI (fNewO c0 n0 st) c0 n0 k = 0 := if_pos ⟨rfl, rfl⟩
theorem fNewO_As (c0 n0 : Nat) (st : fSt) (k : Nat) : gA (fNewO c0 n0 st) c0 n0 k = fun _ => 0 := if_pos ⟨rfl, rfl⟩
theorem fNewO_Bs (c0 n0 : Nat) (st : fSt) (k : Nat) : gB (fNewO c0 n0 st) c0 n0 k = fun _ => 0 := if_pos ⟨rfl, rfl⟩
theorem fCell_new {cA : Nat → ClassId} {ad : Nat → Nat → Nat → Nat} {N : Nat → Nat} {st : fSt} {c0 : Nat} {na : Nat → Nat} (hc0 : c0 = 7 ∨ c0 = 9) (hp : fPok N st) {c i j : Nat} (hi : i < N c) (h : ¬ (c = c0 ∧ i = N c0)) : fCell cA (fAdN ad c0 (N c0) na) (fNewO c0 (N c0) st) c i j = fCell cA ad st c i j := by
  have hA : ∀ j, fAdN ad c0 (N c0) na c i j = ad c i j := fun j => if_neg h
  have hF : ∀ k, fFld (fAdN ad c0 (N c0) na) (fNewO c0 (N c0) st) c i k = fFld ad st c i k := by
    intro k
    have ok := fFK_ok c k
    unfold fFld
    rw [fNewO_I h, fNewO_L h]
    rcases hk : fFK c k with ⟨t, c', o⟩
    rw [hk] at ok
    simp only at ok
    have ht : t = 0 ∨ t = 1 ∨ t = 2 ∨ t = 3 ∨ t = 4 := by omega
    rcases ht with rfl | rfl | rfl | rfl | rfl
    · rfl
    · rfl
    · exact congrArg Value.ref (hA _)
    · have h3 := ok.2.1 rfl
      exact congrArg Value.ref (if_neg (fun z => by rcases hc0 with q | q <;> omega))
    · have h4 := ok.2.2 rfl
      obtain ⟨rfl, h5⟩ := h4
      show fV _ (gP st 2 i k) = fV _ (gP st 2 i k)
      have hb : gP st 2 i k ≤ N c' := by
        have := hp i hi
        rcases h5 with ⟨rfl, rfl⟩ | ⟨rfl, rfl⟩
        · exact this.1
        · exact this.2
      cases hq : gP st 2 i k with
      | zero => rfl
      | succ y => exact congrArg Value.ref (if_neg (fun z => by
          obtain ⟨z1, z2⟩ := z
          rw [z1] at hb
          omega))
  unfold fCell
  by_cases hj : j = 0
  · rw [if_pos hj, if_pos hj, show fFs (fAdN ad c0 (N c0) na) (fNewO c0 (N c0) st) c i = fFs ad st c i from List.map_congr_left (fun k _ => hF k)]
  · rw [if_neg hj, if_neg hj]
    unfold fArE
    rw [fNewO_A h, fNewO_B h]
    have e8 : (fun q => some (fAdN ad c0 (N c0) na 8 q 0)) = fun q => some (ad 8 q 0) := funext fun q => congrArg some (if_neg (fun z => by rcases hc0 with q | q <;> omega))
    have e2 : (fun q => some (fAdN ad c0 (N c0) na 2 (q + 1) 0)) = fun q => some (ad 2 (q + 1) 0) := funext fun q => congrArg some (if_neg (fun z => by rcases hc0 with q | q <;> omega))
    rw [e8, e2]
theorem fR_new {D : va_G} {cA : Nat → ClassId} {ad : Nat → Nat → Nat → Nat} {N : Nat → Nat} {st : fSt} {c0 : Nat} {na : Nat → Nat} {H : Heap} {ws1 : va_W} (hc0 : c0 = 7 ∨ c0 = 9) (hp : fPok N st) (hP : va_P D vwCl (fWs cA ad N st) H) (hP1 : va_P D vwCl ws1 H) (hw : ∀ j, j ≤ fNA c0 → ws1[j]? = some (na j, fCell cA (fAdN ad c0 (N c0) na) (fNewO c0 (N c0) st) c0 (N c0) j)) : fR D cA (fAdN ad c0 (N c0) na) (fNN N c0) (fNewO c0 (N c0) st) H := by
  refine ⟨?_, fun i hi => ?_⟩
  · intro k q hk
    simp only [fWs, List.getElem?_map, Option.map_eq_some_iff] at hk
    obtain ⟨⟨c, i, j⟩, ht, rfl⟩ := hk
    obtain ⟨m1, m2, m3⟩ := fAll_mem.mp (List.mem_of_getElem? ht)
    by_cases h : c = c0 ∧ i = N c0
    · obtain ⟨rfl, rfl⟩ := h
      have := hP1 j _ (hw j m3)
      show va_at D vwCl (fAdN ad c (N c) na c (N c) j, _) H
      rw [show fAdN ad c (N c) na c (N c) j = na j from if_pos ⟨rfl, rfl⟩]
      exact this
    · have hi : i < N c := by
        unfold fNN at m2
        by_cases hc : c = c0
        · rw [if_pos hc] at m2
          subst hc
          omega
        · rw [if_neg hc] at m2
          exact m2
      obtain ⟨z, hz⟩ := List.getElem?_of_mem (fAll_mem.mpr ⟨m1, hi, m3⟩ : (c, i, j) ∈ fAll N)
      have := hP z _ (fWs_at (cA := cA) (ad := ad) (st := st) hz)
      show va_at D vwCl (fAdN ad c0 (N c0) na c i j, fCell cA (fAdN ad c0 (N c0) na) (fNewO c0 (N c0) st) c i j) H
      rw [fCell_new hc0 hp hi h, show fAdN ad c0 (N c0) na c i j = ad c i j from if_neg h]
      exact this
  · have h2 : fNN N c0 2 = N 2 := if_neg (by omega)
    rw [h2] at hi
    have := hp i hi
    have h7 : N 7 ≤ fNN N c0 7 := by
      unfold fNN
      split
      · rename_i q
        rw [q]
        omega
      · exact Nat.le_refl _
    have h9 : N 9 ≤ fNN N c0 9 := by
      unfold fNN
      split
      · rename_i q
        rw [q]
        omega
      · exact Nat.le_refl _
    exact ⟨Nat.le_trans this.1 h7, Nat.le_trans this.2 h9⟩
theorem apL {D : va_G} {cl : List vw_C} {ws ws1 : va_W} {H : Heap} (h : va_P D cl (ws ++ ws1) H) : va_P D cl ws H := fun k q hk => h k q (by rw [List.getElem?_append_left (List.getElem?_eq_some_iff.mp hk).1]; exact hk)
theorem apR {D : va_G} {cl : List vw_C} {ws ws1 : va_W} {H : Heap} (h : va_P D cl (ws ++ ws1) H) : va_P D cl ws1 H := fun k q hk => h (ws.length + k) q (by rw [List.getElem?_append_right (by omega), Nat.add_sub_cancel_left]; exact hk)
theorem adL {A : Nat → Prop} {ws ws1 : va_W} (h : va_D A (ws ++ ws1)) : va_D A ws := ⟨fun i j p q hi hj e => h.1 i j p q (by rw [List.getElem?_append_left (List.getElem?_eq_some_iff.mp hi).1]; exact hi) (by rw [List.getElem?_append_left (List.getElem?_eq_some_iff.mp hj).1]; exact hj) e, fun k q hk => h.2 k q (by rw [List.getElem?_append_left (List.getElem?_eq_some_iff.mp hk).1]; exact hk)⟩
theorem adR {A : Nat → Prop} {ws ws1 : va_W} (h : va_D A (ws ++ ws1)) : va_D A ws1 := ⟨fun i j p q hi hj e => by
    have := h.1 (ws.length + i) (ws.length + j) p q (by rw [List.getElem?_append_right (by omega), Nat.add_sub_cancel_left]; exact hi) (by rw [List.getElem?_append_right (by omega), Nat.add_sub_cancel_left]; exact hj) e
    omega, fun k q hk => h.2 (ws.length + k) q (by rw [List.getElem?_append_right (by omega), Nat.add_sub_cancel_left]; exact hk)⟩
theorem adX {A : Nat → Prop} {ws ws1 : va_W} (h : va_D A (ws ++ ws1)) {i j : Nat} {p q : Nat × va_E} (hi : ws[i]? = some p) (hj : ws1[j]? = some q) : p.1 ≠ q.1 := fun e => by
  have h0 := (List.getElem?_eq_some_iff.mp hi).1
  have := h.1 i (ws.length + j) p q (by rw [List.getElem?_append_left h0]; exact hi) (by rw [List.getElem?_append_right (by omega), Nat.add_sub_cancel_left]; exact hj) e
  omega

/-- a method that may make an object of class c0: its contract -/
def fMa (Δ : fDl) (y : MethodName) (cb : ByteArray) (maxL lev mc ms c0 : Nat) (av : List Value) (st : fSt) (k : Option (Int32 × fSt)) : Prop :=
  match Δ with
  | (l, D, cA, ad, N) => ∀ r st', k = some (r, st') → fInj ad N → ∀ sz, Met l y (.code y cb maxL (some .int) :: fT) (nrm lev mc ms) (va_Pc av (fun U => U.heap.size = sz ∧ fR D cA ad N st U.heap ∧ va_K D vwCl (fTys cA) U ∧ fNst U)) (fun _ s0 oc t => oc = .returned (some (.int r)) ∧ (∃ ad' N', (∀ c i j, i < N c → ad' c i j = ad c i j) ∧ (N' = N ∨ N' = fNN N c0) ∧ fInj ad' N' ∧ (∀ q, fAd ad' N' q → fAd ad N q ∨ sz ≤ q) ∧ fR D cA ad' N' st' t.heap) ∧ va_F (fun q => fAd ad N q ∨ sz ≤ q) s0 t) mc ms (fun q => fAd ad N q ∨ sz ≤ q)
def aQ (Δ : fDl) (s : State) (args : Array Value) (below : List Frame) (mc ms c0 sz : Nat) : Int32 → fSt → State → Prop :=
  match Δ with
  | (_, D, cA, ad, N) => fun r st' => MQ below (fun _ s0 oc t => oc = .returned (some (.int r)) ∧ (∃ ad' N', (∀ c i j, i < N c → ad' c i j = ad c i j) ∧ (N' = N ∨ N' = fNN N c0) ∧ fInj ad' N' ∧ (∀ q, fAd ad' N' q → fAd ad N q ∨ sz ≤ q) ∧ fR D cA ad' N' st' t.heap) ∧ va_F (fun q => fAd ad N q ∨ sz ≤ q) s0 t) args s mc ms (fun q => fAd ad N q ∨ sz ≤ q)
theorem a_ret {l : Launch} {D : va_G} {cA : Nat → ClassId} {ad ad' : Nat → Nat → Nat → Nat} {N N' : Nat → Nat} {p : Program} {e : Env} {R : Room} {s : State} {m : MethodId} {args : Array Value} {below : List Frame} {meth : Method} {c : Code} {cells slots mc ms c0 sz nL lev : Nat} {cc : ByteArray} {own : String} (h1 : ∀ c i j, i < N c → ad' c i j = ad c i j) (h2 : N' = N ∨ N' = fNN N c0) (h3 : fInj ad' N') (h4 : ∀ q, fAd ad' N' q → fAd ad N q ∨ sz ≤ q) (hc1 : cells ≤ mc) (hc2 : slots ≤ ms) (C : fC (l, D, cA, ad', N') (p, e, R, s, m, args, below, meth, c, s.heap, (fun q => fAd ad N q ∨ sz ≤ q), cells, slots) cc own nL (some .int) lev) (pc : Nat) (lc : List (Nat × Value)) (x : Int32) (st : fSt) (hd : decode cc pc = .ok (.ireturn, 1)) : fW (l, D, cA, ad', N') (p, e, R, s, m, args, below, meth, c, s.heap, (fun q => fAd ad N q ∨ sz ≤ q), cells, slots) nL (aQ (l, D, cA, ad, N) s args below mc ms c0 sz) pc lc [.int x] st (some (x, st)) := by
  obtain ⟨hx, hb, hml, hown, hts, hK, hI, hA, hr, hlk, hf1, hf2, hm1, hm2, h00, hNs⟩ := C
  intro r st' hk H locs ls hl hR hS
  cases hk
  refine W.widen hc1 hc2 ?_
  dsimp only [aQ]
  exact W.iret hx hb hr (fun t ht hW => ⟨rfl, ⟨ad', N', h1, h2, h3, h4, by rw [ht]; exact hR⟩, hS.F ht⟩) hS.2.2 hd hlk
theorem va_nd_range : ∀ (n k : Nat), va_nd (List.range' k n) = true := by
  intro n
  induction n with
  | zero => intro k; rfl
  | succ n ih =>
    intro k
    rw [List.range'_succ]
    unfold va_nd
    rw [ih (k + 1), Bool.and_true]
    refine decide_eq_true ?_
    intro h
    have := List.mem_range'.mp h
    omega
theorem a_rng {α : Type} (L : List α) (x : α) : (List.range' 0 L.length).map (fun i => (L ++ [x])[i]?) = L.map some := by
  apply List.ext_getElem?
  intro i
  rw [List.getElem?_map, List.getElem?_map]
  rcases Nat.lt_or_ge i L.length with h | h
  · rw [List.getElem?_range' (by omega), List.getElem?_eq_getElem h]
    simp [List.getElem?_append_left h, List.getElem?_eq_getElem h]
  · rw [List.getElem?_eq_none h, List.getElem?_eq_none (by simpa using h)]
    rfl
noncomputable def f_X11_stage (n0 : Nat) (a1 : Int32) (st : fSt) : Option (Int32 × fSt) := f_X11_stage_1 a1 (fun s => f_X11_stage_2 n0 (fNewO 7 n0 s)) st

set_option maxHeartbeats 4000000 in
set_option maxRecDepth 100000 in
theorem a_new_7 {l : Launch} {D : va_G} {cA : Nat → ClassId} {ad : Nat → Nat → Nat → Nat} {N : Nat → Nat} {p : Program} {e : Env} {R : Room} {s : State} {m : MethodId} {args : Array Value} {below : List Frame} {meth : Method} {c : Code} {sz : Nat} (hsz : s.heap.size = sz) (hN : fNx (l, D, cA, ad, N)) (hm1 : 15 ≤ R.cells) (hm2 : 180 ≤ R.slots) (hlv : 9 ≤ R.frames ∧ 64 * 9 ≤ R.locals) (C : fC (l, D, cA, ad, N) (p, e, R, s, m, args, below, meth, c, s.heap, (fun q => fAd ad N q ∨ sz ≤ q), 0, 0) cX11_stage RX11 4 (some .int) 8) (st : fSt) : fW (l, D, cA, ad, N) (p, e, R, s, m, args, below, meth, c, s.heap, (fun q => fAd ad N q ∨ sz ≤ q), 0, 0) 4 (aQ (l, D, cA, ad, N) s args below 15 180 7 sz) 29 [(0, .ref (fad (l, D, cA, ad, N) 11 0 0))] [] st (f_X11_stage_2 (N 7) (fNewO 7 (N 7) st)) := by
  obtain ⟨hx, hb, hml, hown, hts, hK, hI, hA, hr, hlk, hf1, hf2, _, _, h00, hNs⟩ := C
  intro r st' hk H locs ls hl hR hS
  have hAz : ∀ q, s.heap.size ≤ q → (fun q => fAd ad N q ∨ sz ≤ q) q := fun q h => Or.inr (by rw [← hsz]; exact h)
  have Cn : nC (l, D, cA, p, e, R, s, m, args, below, meth, c, s.heap, (fun q => fAd ad N q ∨ sz ≤ q)) cX11_stage RX11 4 9 15 180 := ⟨hx, hb, hml, hown, hts, hK, fun h => absurd h (by decide), hlk, fun h => absurd h (by decide), hlv.1, hlv.2, hm1, hm2, rfl, hNs, hAz⟩
  suffices K : nW (l, D, cA, p, e, R, s, m, args, below, meth, c, s.heap, (fun q => fAd ad N q ∨ sz ≤ q)) 4 (aQ (l, D, cA, ad, N) s args below 15 180 7 sz r st') 0 0 29 [(0, .ref (fad (l, D, cA, ad, N) 11 0 0))] [] (fWs cA ad N st) from K H locs ls hl hR.1 (fWs_D hI hA) hS
  have hp := hR.2
  clear hS hR hl
  refine n_new (q := 32) [.int 0, .int 0, .int 0, .int 0, .null, .null, .null, .null, .null, .null, .null, .null, .null, .null, .null, .null, .null, .null] KX7 wcl_X11_35 wi_7.1 wi_7.2 (by decide) Cn (by decide) (by decide) dX11_stage_29 rfl (fun a => ?_)
  refine n_dup (q := 33) Cn dX11_stage_32 rfl rfl ?_
  refine n_call (q := 36) (As := []) (wc := [(a, .inr (7, [.int 0, .int 0, .int 0, .int 0, .null, .null, .null, .null, .null, .null, .null, .null, .null, .null, .null, .null, .null, .null]))]) (wr := fWs cA ad N st) [(fWs cA ad N st).length] (List.range' 0 (fWs cA ad N st).length) (Or.inr ⟨_, wn_X11_37⟩) niX7_init (fun l D cA sz h1 h2 h3 => by subst h1 h2 h3; exact k_X7_init _ _ _ a sz) (by simp) (a_rng _ _) rfl (va_nd_range _ _) (fun i hi h => by
    have := List.mem_range'.mp hi
    simp at h
    omega) Cn (by decide) (by decide) (by decide) rfl (Nat.le_of_ble_eq_true rfl) dX11_stage_33 rfl ?_
  rintro _ ⟨q1, q2, q3, q4, q5, q6, q7, q8, q9, q10, q11, q12, q13, q14, rfl⟩
  intro H locs ls hl hP hD hS
  have hPo := apL hP
  have hPn := apR hP
  have hw : ∀ j, j ≤ fNA 7 → ([(a, .inr (7, [.int 0, .int 0, .int 0, .int 0, .ref q1, .ref q2, .ref q3, .ref q4, .ref q5, .ref q6, .ref q7, .ref q8, .ref q9, .ref q10, .ref q11, .ref q12, .ref q13, .ref q14])), (q1, .inl (cA 3, 6, .inr (.inl (fun _ => 0)))), (q2, .inl (cA 3, 6, .inr (.inl (fun _ => 0)))), (q3, .inl (cA 3, 12, .inr (.inl (fun _ => 0)))), (q4, .inl (cA 3, 4, .inr (.inl (fun _ => 0)))), (q5, .inl (cA 0, 6, .inl (fun _ => 0))), (q6, .inl (cA 0, 6, .inl (fun _ => 0))), (q7, .inl (cA 0, 6, .inl (fun _ => 0))), (q8, .inl (cA 0, 12, .inl (fun _ => 0))), (q9, .inl (cA 0, 12, .inl (fun _ => 0))), (q10, .inl (cA 0, 12, .inl (fun _ => 0))), (q11, .inl (cA 0, 48, .inl (fun _ => 0))), (q12, .inl (cA 0, 12, .inl (fun _ => 0))), (q13, .inl (cA 0, 4, .inl (fun _ => 0))), (q14, .inl (cA 0, 16, .inl (fun _ => 0)))] : va_W)[j]? = some ([a, q1, q2, q3, q4, q5, q6, q7, q8, q9, q10, q11, q12, q13, q14].getD j 0, fCell cA (fAdN ad 7 (N 7) (fun j => [a, q1, q2, q3, q4, q5, q6, q7, q8, q9, q10, q11, q12, q13, q14].getD j 0)) (fNewO 7 (N 7) st) 7 (N 7) j) := by
    have hz : ∀ j, fAdN ad 7 (N 7) (fun j => [a, q1, q2, q3, q4, q5, q6, q7, q8, q9, q10, q11, q12, q13, q14].getD j 0) 7 (N 7) j = [a, q1, q2, q3, q4, q5, q6, q7, q8, q9, q10, q11, q12, q13, q14].getD j 0 := fun j => if_pos ⟨rfl, rfl⟩
    have hf : fFs (fAdN ad 7 (N 7) (fun j => [a, q1, q2, q3, q4, q5, q6, q7, q8, q9, q10, q11, q12, q13, q14].getD j 0)) (fNewO 7 (N 7) st) 7 (N 7) = [.int 0, .int 0, .int 0, .int 0, .ref q1, .ref q2, .ref q3, .ref q4, .ref q5, .ref q6, .ref q7, .ref q8, .ref q9, .ref q10, .ref q11, .ref q12, .ref q13, .ref q14] := by
      show ([.int (gI (fNewO 7 (N 7) st) 7 (N 7) 0), .int (gI (fNewO 7 (N 7) st) 7 (N 7) 1), .int (gI (fNewO 7 (N 7) st) 7 (N 7) 2), .int (gI (fNewO 7 (N 7) st) 7 (N 7) 3), .ref (fAdN ad 7 (N 7) (fun j => [a, q1, q2, q3, q4, q5, q6, q7, q8, q9, q10, q11, q12, q13, q14].getD j 0) 7 (N 7) 1), .ref (fAdN ad 7 (N 7) (fun j => [a, q1, q2, q3, q4, q5, q6, q7, q8, q9, q10, q11, q12, q13, q14].getD j 0) 7 (N 7) 2), .ref (fAdN ad 7 (N 7) (fun j => [a, q1, q2, q3, q4, q5, q6, q7, q8, q9, q10, q11, q12, q13, q14].getD j 0) 7 (N 7) 3), .ref (fAdN ad 7 (N 7) (fun j => [a, q1, q2, q3, q4, q5, q6, q7, q8, q9, q10, q11, q12, q13, q14].getD j 0) 7 (N 7) 4), .ref (fAdN ad 7 (N 7) (fun j => [a, q1, q2, q3, q4, q5, q6, q7, q8, q9, q10, q11, q12, q13, q14].getD j 0) 7 (N 7) 5), .ref (fAdN ad 7 (N 7) (fun j => [a, q1, q2, q3, q4, q5, q6, q7, q8, q9, q10, q11, q12, q13, q14].getD j 0) 7 (N 7) 6), .ref (fAdN ad 7 (N 7) (fun j => [a, q1, q2, q3, q4, q5, q6, q7, q8, q9, q10, q11, q12, q13, q14].getD j 0) 7 (N 7) 7), .ref (fAdN ad 7 (N 7) (fun j => [a, q1, q2, q3, q4, q5, q6, q7, q8, q9, q10, q11, q12, q13, q14].getD j 0) 7 (N 7) 8), .ref (fAdN ad 7 (N 7) (fun j => [a, q1, q2, q3, q4, q5, q6, q7, q8, q9, q10, q11, q12, q13, q14].getD j 0) 7 (N 7) 9), .ref (fAdN ad 7 (N 7) (fun j => [a, q1, q2, q3, q4, q5, q6, q7, q8, q9, q10, q11, q12, q13, q14].getD j 0) 7 (N 7) 10), .ref (fAdN ad 7 (N 7) (fun j => [a, q1, q2, q3, q4, q5, q6, q7, q8, q9, q10, q11, q12, q13, q14].getD j 0) 7 (N 7) 11), .ref (fAdN ad 7 (N 7) (fun j => [a, q1, q2, q3, q4, q5, q6, q7, q8, q9, q10, q11, q12, q13, q14].getD j 0) 7 (N 7) 12), .ref (fAdN ad 7 (N 7) (fun j => [a, q1, q2, q3, q4, q5, q6, q7, q8, q9, q10, q11, q12, q13, q14].getD j 0) 7 (N 7) 13), .ref (fAdN ad 7 (N 7) (fun j => [a, q1, q2, q3, q4, q5, q6, q7, q8, q9, q10, q11, q12, q13, q14].getD j 0) 7 (N 7) 14)] : List Value) = [.int 0, .int 0, .int 0, .int 0, .ref q1, .ref q2, .ref q3, .ref q4, .ref q5, .ref q6, .ref q7, .ref q8, .ref q9, .ref q10, .ref q11, .ref q12, .ref q13, .ref q14]
      simp only [fNewO_Is, hz]
      rfl
    intro j hj
    have hj' : j ≤ 14 := hj
    have hcs : j = 0 ∨ j = 1 ∨ j = 2 ∨ j = 3 ∨ j = 4 ∨ j = 5 ∨ j = 6 ∨ j = 7 ∨ j = 8 ∨ j = 9 ∨ j = 10 ∨ j = 11 ∨ j = 12 ∨ j = 13 ∨ j = 14 := by omega
    rcases hcs with h | h | h | h | h | h | h | h | h | h | h | h | h | h | h <;> subst h
    · unfold fCell
      rw [if_pos rfl, hf]
      rfl
    · unfold fCell fArE
      rw [if_neg (by decide), fNewO_Bs]
      rfl
    · unfold fCell fArE
      rw [if_neg (by decide), fNewO_Bs]
      rfl
    · unfold fCell fArE
      rw [if_neg (by decide), fNewO_Bs]
      rfl
    · unfold fCell fArE
      rw [if_neg (by decide), fNewO_Bs]
      rfl
    · unfold fCell fArE
      rw [if_neg (by decide), fNewO_As]
      rfl
    · unfold fCell fArE
      rw [if_neg (by decide), fNewO_As]
      rfl
    · unfold fCell fArE
      rw [if_neg (by decide), fNewO_As]
      rfl
    · unfold fCell fArE
      rw [if_neg (by decide), fNewO_As]
      rfl
    · unfold fCell fArE
      rw [if_neg (by decide), fNewO_As]
      rfl
    · unfold fCell fArE
      rw [if_neg (by decide), fNewO_As]
      rfl
    · unfold fCell fArE
      rw [if_neg (by decide), fNewO_As]
      rfl
    · unfold fCell fArE
      rw [if_neg (by decide), fNewO_As]
      rfl
    · unfold fCell fArE
      rw [if_neg (by decide), fNewO_As]
      rfl
    · unfold fCell fArE
      rw [if_neg (by decide), fNewO_As]
      rfl
  have hR' := fR_new (ad := ad) (N := N) (st := st) (na := fun j => [a, q1, q2, q3, q4, q5, q6, q7, q8, q9, q10, q11, q12, q13, q14].getD j 0) (Or.inl rfl) hp hPo (ws1 := [(a, .inr (7, [.int 0, .int 0, .int 0, .int 0, .ref q1, .ref q2, .ref q3, .ref q4, .ref q5, .ref q6, .ref q7, .ref q8, .ref q9, .ref q10, .ref q11, .ref q12, .ref q13, .ref q14])), (q1, .inl (cA 3, 6, .inr (.inl (fun _ => 0)))), (q2, .inl (cA 3, 6, .inr (.inl (fun _ => 0)))), (q3, .inl (cA 3, 12, .inr (.inl (fun _ => 0)))), (q4, .inl (cA 3, 4, .inr (.inl (fun _ => 0)))), (q5, .inl (cA 0, 6, .inl (fun _ => 0))), (q6, .inl (cA 0, 6, .inl (fun _ => 0))), (q7, .inl (cA 0, 6, .inl (fun _ => 0))), (q8, .inl (cA 0, 12, .inl (fun _ => 0))), (q9, .inl (cA 0, 12, .inl (fun _ => 0))), (q10, .inl (cA 0, 12, .inl (fun _ => 0))), (q11, .inl (cA 0, 48, .inl (fun _ => 0))), (q12, .inl (cA 0, 12, .inl (fun _ => 0))), (q13, .inl (cA 0, 4, .inl (fun _ => 0))), (q14, .inl (cA 0, 16, .inl (fun _ => 0)))]) hPn hw
  have hold : ∀ c i j, i < N c → fAdN ad 7 (N 7) (fun j => [a, q1, q2, q3, q4, q5, q6, q7, q8, q9, q10, q11, q12, q13, q14].getD j 0) c i j = ad c i j := fun c i j h => if_neg (fun z => by
    obtain ⟨rfl, rfl⟩ := z
    omega)
  have hpos : ∀ c i j : Nat, (c, i, j) ∈ fAll (fNN N 7) → (∃ z : Nat, (fWs cA ad N st)[z]? = some (fAdN ad 7 (N 7) (fun j => [a, q1, q2, q3, q4, q5, q6, q7, q8, q9, q10, q11, q12, q13, q14].getD j 0) c i j, fCell cA ad st c i j) ∧ (c, i, j) ∈ fAll N) ∨ (c = 7 ∧ i = N 7 ∧ j ≤ fNA 7) := by
    intro c i j hm
    obtain ⟨m1, m2, m3⟩ := fAll_mem.mp hm
    by_cases h : c = 7 ∧ i = N 7
    · exact Or.inr ⟨h.1, h.2, by rw [← h.1]; exact m3⟩
    · have hi : i < N c := by
        unfold fNN at m2
        by_cases hc : c = 7
        · rw [if_pos hc] at m2
          subst hc
          omega
        · rw [if_neg hc] at m2
          exact m2
      obtain ⟨z, hz⟩ := List.getElem?_of_mem (fAll_mem.mpr ⟨m1, hi, m3⟩ : (c, i, j) ∈ fAll N)
      exact Or.inl ⟨z, by rw [hold c i j hi]; exact fWs_at hz, fAll_mem.mpr ⟨m1, hi, m3⟩⟩
  have hna : ∀ j, fAdN ad 7 (N 7) (fun j => [a, q1, q2, q3, q4, q5, q6, q7, q8, q9, q10, q11, q12, q13, q14].getD j 0) 7 (N 7) j = [a, q1, q2, q3, q4, q5, q6, q7, q8, q9, q10, q11, q12, q13, q14].getD j 0 := fun j => if_pos ⟨rfl, rfl⟩
  have hI' : fInj (fAdN ad 7 (N 7) (fun j => [a, q1, q2, q3, q4, q5, q6, q7, q8, q9, q10, q11, q12, q13, q14].getD j 0)) (fNN N 7) := by
    rintro ⟨c, i, j⟩ ⟨c', i', j'⟩ ht hu he
    simp only at he
    rcases hpos c i j ht with ⟨z, hz, hm⟩ | ⟨rfl, rfl, hj⟩
    · rcases hpos c' i' j' hu with ⟨z', hz', hm'⟩ | ⟨rfl, rfl, hj'⟩
      · have h1 := (fAll_mem.mp hm).2.1
        have h2 := (fAll_mem.mp hm').2.1
        rw [hold c i j h1, hold c' i' j' h2] at he
        exact hI (c, i, j) (c', i', j') hm hm' he
      · exact absurd (show (fAdN ad 7 (N 7) (fun j => [a, q1, q2, q3, q4, q5, q6, q7, q8, q9, q10, q11, q12, q13, q14].getD j 0) c i j) = [a, q1, q2, q3, q4, q5, q6, q7, q8, q9, q10, q11, q12, q13, q14].getD j' 0 by rw [← hna j']; exact he) (adX hD hz (hw j' hj'))
    · rcases hpos c' i' j' hu with ⟨z', hz', hm'⟩ | ⟨rfl, rfl, hj'⟩
      · exact absurd (show (fAdN ad 7 (N 7) (fun j => [a, q1, q2, q3, q4, q5, q6, q7, q8, q9, q10, q11, q12, q13, q14].getD j 0) c' i' j') = [a, q1, q2, q3, q4, q5, q6, q7, q8, q9, q10, q11, q12, q13, q14].getD j 0 by rw [← hna j]; exact he.symm) (adX hD hz' (hw j hj))
      · have e := (adR hD).1 j j' _ _ (hw j hj) (hw j' hj') (by rw [hna, hna] at he; exact he)
        subst e
        rfl
  have hA' : ∀ q, fAd (fAdN ad 7 (N 7) (fun j => [a, q1, q2, q3, q4, q5, q6, q7, q8, q9, q10, q11, q12, q13, q14].getD j 0)) (fNN N 7) q → fAd ad N q ∨ sz ≤ q := by
    rintro q ⟨c, i, j, hm, rfl⟩
    rcases hpos c i j hm with ⟨z, hz, hm⟩ | ⟨rfl, rfl, hj⟩
    · exact (adL hD).2 z _ hz
    · have := (adR hD).2 j _ (hw j hj)
      rw [hna]
      exact this
  have hN' : fNx (l, D, cA, fAdN ad 7 (N 7) (fun j => [a, q1, q2, q3, q4, q5, q6, q7, q8, q9, q10, q11, q12, q13, q14].getD j 0), fNN N 7) := hN
  have C' : fC (l, D, cA, fAdN ad 7 (N 7) (fun j => [a, q1, q2, q3, q4, q5, q6, q7, q8, q9, q10, q11, q12, q13, q14].getD j 0), fNN N 7) (p, e, R, s, m, args, below, meth, c, s.heap, (fun q => fAd ad N q ∨ sz ≤ q), 15, 180) cX11_stage RX11 4 (some .int) 8 := ⟨hx, hb, hml, hown, hts, hK, hI', hA', hr, hlk, hf1, hf2, hm1, hm2, rfl, hNs⟩
  have T2 := t_X11_stage_2 _ _ hN' (N 7) (by show N 7 < fNN N 7 7; unfold fNN; rw [if_pos rfl]; omega) C' (aQ (l, D, cA, ad, N) s args below 15 180 7 sz) (a_ret hold (Or.inr rfl) hI' hA' (Nat.le_refl _) (Nat.le_refl _) C') (fNewO 7 (N 7) st)
  refine W.widen (k := 15) (n := 180) (by decide) (by decide) ?_
  have e0 : fad (l, D, cA, fAdN ad 7 (N 7) (fun j => [a, q1, q2, q3, q4, q5, q6, q7, q8, q9, q10, q11, q12, q13, q14].getD j 0), fNN N 7) 7 (N 7) 0 = a := hna 0
  have e1 : fad (l, D, cA, fAdN ad 7 (N 7) (fun j => [a, q1, q2, q3, q4, q5, q6, q7, q8, q9, q10, q11, q12, q13, q14].getD j 0), fNN N 7) 11 0 0 = ad 11 0 0 := hold 11 0 0 (by have := hN.2.2.2.2.2.2.2.2.2; exact Nat.lt_of_lt_of_eq Nat.zero_lt_one this.symm)
  rw [e0, e1] at T2
  exact T2 r st' hk H locs ls hl hR' hS
set_option maxHeartbeats 4000000 in
set_option maxRecDepth 100000 in
theorem c_X11_stage (Δ : fDl) (hN : fNx Δ) (a1 : Int32) (st : fSt) : fMa Δ yX11_stage cX11_stage 4 9 15 180 7 [.ref (fad Δ 11 0 0), .int a1] st (f_X11_stage (fN Δ 7) a1 st) := by
  obtain ⟨l, D, cA, ad, N⟩ := Δ
  intro r st' hk hI sz
  refine Met.ofW (cc := cX11_stage) (maxL := 4) (ret := some .int) (by decide +kernel) rfl ?_
  intro p e s m args below meth c s₁ B hml hv
  obtain ⟨rfl, hsz, hR, hK, hNs⟩ := hv
  have hts := atoms_spec (ws := .code yX11_stage cX11_stage 4 (some .int) :: fT) B.pre
  have hl := lv_entry [.ref (fad (l, D, cA, ad, N) 11 0 0), .int a1] (n := 4) (Nat.le_of_ble_eq_true rfl)
  rw [lg_entry_eq]
  have C : fC (l, D, cA, ad, N) (p, e, nrm 9 15 180, s, m, ([.ref (fad (l, D, cA, ad, N) 11 0 0), .int a1] : List Value).toArray, below, meth, c, s.heap, (fun q => fAd ad N q ∨ sz ≤ q), 0, 0) cX11_stage RX11 4 (some .int) 8 := ⟨B.exec, B.bytes, hml, findClass_of_methodNamed B.named, fun w hw => hts w (List.mem_cons_of_mem _ hw), hK, hI, fun q h => Or.inl h, B.returns, B.notSynchronized, by decide, by decide, Nat.zero_le _, Nat.zero_le _, rfl, hNs⟩
  exact t_X11_stage_1 _ _ hN C (aQ (l, D, cA, ad, N) s _ below 15 180 7 sz) (a_ret (fun _ _ _ _ => rfl) (Or.inl rfl) hI (fun q h => Or.inl h) (Nat.zero_le _) (Nat.zero_le _) C) _ (fun s' => a_new_7 hsz hN (Nat.le_refl _) (Nat.le_refl _) ⟨by decide, by decide⟩ C s') a1 st r st' hk s.heap [] _ (lv_sub hl [0, 1] rfl) hR va_S.rf
noncomputable def f_X11_week (n0 : Nat) (a1 : Int32) (st : fSt) : Option (Int32 × fSt) := f_X11_week_1 a1 (fun s => f_X11_week_2 n0 (fNewO 9 n0 s)) st

set_option maxHeartbeats 4000000 in
set_option maxRecDepth 100000 in
theorem a_new_9 {l : Launch} {D : va_G} {cA : Nat → ClassId} {ad : Nat → Nat → Nat → Nat} {N : Nat → Nat} {p : Program} {e : Env} {R : Room} {s : State} {m : MethodId} {args : Array Value} {below : List Frame} {meth : Method} {c : Code} {sz : Nat} (hsz : s.heap.size = sz) (hN : fNx (l, D, cA, ad, N)) (hm1 : 6 ≤ R.cells) (hm2 : 251 ≤ R.slots) (hlv : 9 ≤ R.frames ∧ 64 * 9 ≤ R.locals) (C : fC (l, D, cA, ad, N) (p, e, R, s, m, args, below, meth, c, s.heap, (fun q => fAd ad N q ∨ sz ≤ q), 0, 0) cX11_week RX11 4 (some .int) 8) (st : fSt) : fW (l, D, cA, ad, N) (p, e, R, s, m, args, below, meth, c, s.heap, (fun q => fAd ad N q ∨ sz ≤ q), 0, 0) 4 (aQ (l, D, cA, ad, N) s args below 6 251 9 sz) 35 [(0, .ref (fad (l, D, cA, ad, N) 11 0 0))] [] st (f_X11_week_2 (N 9) (fNewO 9 (N 9) st)) := by
  obtain ⟨hx, hb, hml, hown, hts, hK, hI, hA, hr, hlk, hf1, hf2, _, _, h00, hNs⟩ := C
  intro r st' hk H locs ls hl hR hS
  have hAz : ∀ q, s.heap.size ≤ q → (fun q => fAd ad N q ∨ sz ≤ q) q := fun q h => Or.inr (by rw [← hsz]; exact h)
  have Cn : nC (l, D, cA, p, e, R, s, m, args, below, meth, c, s.heap, (fun q => fAd ad N q ∨ sz ≤ q)) cX11_week RX11 4 9 6 251 := ⟨hx, hb, hml, hown, hts, hK, fun h => absurd h (by decide), hlk, fun h => absurd h (by decide), hlv.1, hlv.2, hm1, hm2, rfl, hNs, hAz⟩
  suffices K : nW (l, D, cA, p, e, R, s, m, args, below, meth, c, s.heap, (fun q => fAd ad N q ∨ sz ≤ q)) 4 (aQ (l, D, cA, ad, N) s args below 6 251 9 sz r st') 0 0 35 [(0, .ref (fad (l, D, cA, ad, N) 11 0 0))] [] (fWs cA ad N st) from K H locs ls hl hR.1 (fWs_D hI hA) hS
  have hp := hR.2
  clear hS hR hl
  refine n_new (q := 38) [.int 0, .int 0, .null, .null, .null, .null, .null, .int 0] KX9 wcl_X11_198 wi_9.1 wi_9.2 (by decide) Cn (by decide) (by decide) dX11_week_35 rfl (fun a => ?_)
  refine n_dup (q := 39) Cn dX11_week_38 rfl rfl ?_
  refine n_call (q := 42) (As := []) (wc := [(a, .inr (9, [.int 0, .int 0, .null, .null, .null, .null, .null, .int 0]))]) (wr := fWs cA ad N st) [(fWs cA ad N st).length] (List.range' 0 (fWs cA ad N st).length) (Or.inr ⟨_, wn_X11_200⟩) niX9_init (fun l D cA sz h1 h2 h3 => by subst h1 h2 h3; exact k_X9_init _ _ _ a sz) (by simp) (a_rng _ _) rfl (va_nd_range _ _) (fun i hi h => by
    have := List.mem_range'.mp hi
    simp at h
    omega) Cn (by decide) (by decide) (by decide) rfl (Nat.le_of_ble_eq_true rfl) dX11_week_39 rfl ?_
  rintro _ ⟨q1, q2, q3, q4, q5, rfl⟩
  intro H locs ls hl hP hD hS
  have hPo := apL hP
  have hPn := apR hP
  have hw : ∀ j, j ≤ fNA 9 → ([(a, .inr (9, [.int 0, .int 0, .ref q1, .ref q2, .ref q3, .ref q4, .ref q5, .int 0])), (q1, .inl (cA 0, 60, .inl (fun _ => 0))), (q2, .inl (cA 0, 60, .inl (fun _ => 0))), (q3, .inl (cA 0, 60, .inl (fun _ => 0))), (q4, .inl (cA 0, 60, .inl (fun _ => 0))), (q5, .inl (cA 0, 3, .inl (fun _ => 0)))] : va_W)[j]? = some ([a, q1, q2, q3, q4, q5].getD j 0, fCell cA (fAdN ad 9 (N 9) (fun j => [a, q1, q2, q3, q4, q5].getD j 0)) (fNewO 9 (N 9) st) 9 (N 9) j) := by
    have hz : ∀ j, fAdN ad 9 (N 9) (fun j => [a, q1, q2, q3, q4, q5].getD j 0) 9 (N 9) j = [a, q1, q2, q3, q4, q5].getD j 0 := fun j => if_pos ⟨rfl, rfl⟩
    have hf : fFs (fAdN ad 9 (N 9) (fun j => [a, q1, q2, q3, q4, q5].getD j 0)) (fNewO 9 (N 9) st) 9 (N 9) = [.int 0, .int 0, .ref q1, .ref q2, .ref q3, .ref q4, .ref q5, .int 0] := by
      show ([.int (gI (fNewO 9 (N 9) st) 9 (N 9) 0), .int (gI (fNewO 9 (N 9) st) 9 (N 9) 1), .ref (fAdN ad 9 (N 9) (fun j => [a, q1, q2, q3, q4, q5].getD j 0) 9 (N 9) 1), .ref (fAdN ad 9 (N 9) (fun j => [a, q1, q2, q3, q4, q5].getD j 0) 9 (N 9) 2), .ref (fAdN ad 9 (N 9) (fun j => [a, q1, q2, q3, q4, q5].getD j 0) 9 (N 9) 3), .ref (fAdN ad 9 (N 9) (fun j => [a, q1, q2, q3, q4, q5].getD j 0) 9 (N 9) 4), .ref (fAdN ad 9 (N 9) (fun j => [a, q1, q2, q3, q4, q5].getD j 0) 9 (N 9) 5), .int (gI (fNewO 9 (N 9) st) 9 (N 9) 7)] : List Value) = [.int 0, .int 0, .ref q1, .ref q2, .ref q3, .ref q4, .ref q5, .int 0]
      simp only [fNewO_Is, hz]
      rfl
    intro j hj
    have hj' : j ≤ 5 := hj
    have hcs : j = 0 ∨ j = 1 ∨ j = 2 ∨ j = 3 ∨ j = 4 ∨ j = 5 := by omega
    rcases hcs with h | h | h | h | h | h <;> subst h
    · unfold fCell
      rw [if_pos rfl, hf]
      rfl
    · unfold fCell fArE
      rw [if_neg (by decide), fNewO_As]
      rfl
    · unfold fCell fArE
      rw [if_neg (by decide), fNewO_As]
      rfl
    · unfold fCell fArE
      rw [if_neg (by decide), fNewO_As]
      rfl
    · unfold fCell fArE
      rw [if_neg (by decide), fNewO_As]
      rfl
    · unfold fCell fArE
      rw [if_neg (by decide), fNewO_As]
      rfl
  have hR' := fR_new (ad := ad) (N := N) (st := st) (na := fun j => [a, q1, q2, q3, q4, q5].getD j 0) (Or.inr rfl) hp hPo (ws1 := [(a, .inr (9, [.int 0, .int 0, .ref q1, .ref q2, .ref q3, .ref q4, .ref q5, .int 0])), (q1, .inl (cA 0, 60, .inl (fun _ => 0))), (q2, .inl (cA 0, 60, .inl (fun _ => 0))), (q3, .inl (cA 0, 60, .inl (fun _ => 0))), (q4, .inl (cA 0, 60, .inl (fun _ => 0))), (q5, .inl (cA 0, 3, .inl (fun _ => 0)))]) hPn hw
  have hold : ∀ c i j, i < N c → fAdN ad 9 (N 9) (fun j => [a, q1, q2, q3, q4, q5].getD j 0) c i j = ad c i j := fun c i j h => if_neg (fun z => by
    obtain ⟨rfl, rfl⟩ := z
    omega)
  have hpos : ∀ c i j : Nat, (c, i, j) ∈ fAll (fNN N 9) → (∃ z : Nat, (fWs cA ad N st)[z]? = some (fAdN ad 9 (N 9) (fun j => [a, q1, q2, q3, q4, q5].getD j 0) c i j, fCell cA ad st c i j) ∧ (c, i, j) ∈ fAll N) ∨ (c = 9 ∧ i = N 9 ∧ j ≤ fNA 9) := by
    intro c i j hm
    obtain ⟨m1, m2, m3⟩ := fAll_mem.mp hm
    by_cases h : c = 9 ∧ i = N 9
    · exact Or.inr ⟨h.1, h.2, by rw [← h.1]; exact m3⟩
    · have hi : i < N c := by
        unfold fNN at m2
        by_cases hc : c = 9
        · rw [if_pos hc] at m2
          subst hc
          omega
        · rw [if_neg hc] at m2
          exact m2
      obtain ⟨z, hz⟩ := List.getElem?_of_mem (fAll_mem.mpr ⟨m1, hi, m3⟩ : (c, i, j) ∈ fAll N)
      exact Or.inl ⟨z, by rw [hold c i j hi]; exact fWs_at hz, fAll_mem.mpr ⟨m1, hi, m3⟩⟩
  have hna : ∀ j, fAdN ad 9 (N 9) (fun j => [a, q1, q2, q3, q4, q5].getD j 0) 9 (N 9) j = [a, q1, q2, q3, q4, q5].getD j 0 := fun j => if_pos ⟨rfl, rfl⟩
  have hI' : fInj (fAdN ad 9 (N 9) (fun j => [a, q1, q2, q3, q4, q5].getD j 0)) (fNN N 9) := by
    rintro ⟨c, i, j⟩ ⟨c', i', j'⟩ ht hu he
    simp only at he
    rcases hpos c i j ht with ⟨z, hz, hm⟩ | ⟨rfl, rfl, hj⟩
    · rcases hpos c' i' j' hu with ⟨z', hz', hm'⟩ | ⟨rfl, rfl, hj'⟩
      · have h1 := (fAll_mem.mp hm).2.1
        have h2 := (fAll_mem.mp hm').2.1
        rw [hold c i j h1, hold c' i' j' h2] at he
        exact hI (c, i, j) (c', i', j') hm hm' he
      · exact absurd (show (fAdN ad 9 (N 9) (fun j => [a, q1, q2, q3, q4, q5].getD j 0) c i j) = [a, q1, q2, q3, q4, q5].getD j' 0 by rw [← hna j']; exact he) (adX hD hz (hw j' hj'))
    · rcases hpos c' i' j' hu with ⟨z', hz', hm'⟩ | ⟨rfl, rfl, hj'⟩
      · exact absurd (show (fAdN ad 9 (N 9) (fun j => [a, q1, q2, q3, q4, q5].getD j 0) c' i' j') = [a, q1, q2, q3, q4, q5].getD j 0 by rw [← hna j]; exact he.symm) (adX hD hz' (hw j hj))
      · have e := (adR hD).1 j j' _ _ (hw j hj) (hw j' hj') (by rw [hna, hna] at he; exact he)
        subst e
        rfl
  have hA' : ∀ q, fAd (fAdN ad 9 (N 9) (fun j => [a, q1, q2, q3, q4, q5].getD j 0)) (fNN N 9) q → fAd ad N q ∨ sz ≤ q := by
    rintro q ⟨c, i, j, hm, rfl⟩
    rcases hpos c i j hm with ⟨z, hz, hm⟩ | ⟨rfl, rfl, hj⟩
    · exact (adL hD).2 z _ hz
    · have := (adR hD).2 j _ (hw j hj)
      rw [hna]
      exact this
  have hN' : fNx (l, D, cA, fAdN ad 9 (N 9) (fun j => [a, q1, q2, q3, q4, q5].getD j 0), fNN N 9) := hN
  have C' : fC (l, D, cA, fAdN ad 9 (N 9) (fun j => [a, q1, q2, q3, q4, q5].getD j 0), fNN N 9) (p, e, R, s, m, args, below, meth, c, s.heap, (fun q => fAd ad N q ∨ sz ≤ q), 6, 251) cX11_week RX11 4 (some .int) 8 := ⟨hx, hb, hml, hown, hts, hK, hI', hA', hr, hlk, hf1, hf2, hm1, hm2, rfl, hNs⟩
  have T2 := t_X11_week_2 _ _ hN' (N 9) (by show N 9 < fNN N 9 9; unfold fNN; rw [if_pos rfl]; omega) C' (aQ (l, D, cA, ad, N) s args below 6 251 9 sz) (a_ret hold (Or.inr rfl) hI' hA' (Nat.le_refl _) (Nat.le_refl _) C') (fNewO 9 (N 9) st)
  refine W.widen (k := 6) (n := 251) (by decide) (by decide) ?_
  have e0 : fad (l, D, cA, fAdN ad 9 (N 9) (fun j => [a, q1, q2, q3, q4, q5].getD j 0), fNN N 9) 9 (N 9) 0 = a := hna 0
  have e1 : fad (l, D, cA, fAdN ad 9 (N 9) (fun j => [a, q1, q2, q3, q4, q5].getD j 0), fNN N 9) 11 0 0 = ad 11 0 0 := hold 11 0 0 (by have := hN.2.2.2.2.2.2.2.2.2; exact Nat.lt_of_lt_of_eq Nat.zero_lt_one this.symm)
  rw [e0, e1] at T2
  exact T2 r st' hk H locs ls hl hR' hS
set_option maxHeartbeats 4000000 in
set_option maxRecDepth 100000 in
theorem c_X11_week (Δ : fDl) (hN : fNx Δ) (a1 : Int32) (st : fSt) : fMa Δ yX11_week cX11_week 4 9 6 251 9 [.ref (fad Δ 11 0 0), .int a1] st (f_X11_week (fN Δ 9) a1 st) := by
  obtain ⟨l, D, cA, ad, N⟩ := Δ
  intro r st' hk hI sz
  refine Met.ofW (cc := cX11_week) (maxL := 4) (ret := some .int) (by decide +kernel) rfl ?_
  intro p e s m args below meth c s₁ B hml hv
  obtain ⟨rfl, hsz, hR, hK, hNs⟩ := hv
  have hts := atoms_spec (ws := .code yX11_week cX11_week 4 (some .int) :: fT) B.pre
  have hl := lv_entry [.ref (fad (l, D, cA, ad, N) 11 0 0), .int a1] (n := 4) (Nat.le_of_ble_eq_true rfl)
  rw [lg_entry_eq]
  have C : fC (l, D, cA, ad, N) (p, e, nrm 9 6 251, s, m, ([.ref (fad (l, D, cA, ad, N) 11 0 0), .int a1] : List Value).toArray, below, meth, c, s.heap, (fun q => fAd ad N q ∨ sz ≤ q), 0, 0) cX11_week RX11 4 (some .int) 8 := ⟨B.exec, B.bytes, hml, findClass_of_methodNamed B.named, fun w hw => hts w (List.mem_cons_of_mem _ hw), hK, hI, fun q h => Or.inl h, B.returns, B.notSynchronized, by decide, by decide, Nat.zero_le _, Nat.zero_le _, rfl, hNs⟩
  exact t_X11_week_1 _ _ hN C (aQ (l, D, cA, ad, N) s _ below 6 251 9 sz) (a_ret (fun _ _ _ _ => rfl) (Or.inl rfl) hI (fun q h => Or.inl h) (Nat.zero_le _) (Nat.zero_le _) C) _ (fun s' => a_new_9 hsz hN (Nat.le_refl _) (Nat.le_refl _) ⟨by decide, by decide⟩ C s') a1 st r st' hk s.heap [] _ (lv_sub hl [0, 1] rfl) hR va_S.rf
