/-! the law's start: what the tables and the Statement say -/
theorem ar_prim {s : State} {args : Array Value} {ty : FieldType} (hp : ∀ C, ty ≠ .object C) (h : (Cond.arrayClass ty).before args s = true) : ∃ cA, ArrOfT s cA ty ∧ va_RA s cA ty := by
  obtain ⟨c, k, comp, h1, h2, h3⟩ := Cond.arrayClass_spec h
  exact ⟨c, fun n z => ⟨(fun k h => by cases h), k, h2, comp, h3⟩, by cases ty <;> first | exact h1 | exact absurd rfl (hp _)⟩
theorem ar_obj {s : State} {args : Array Value} {C : String} (h : (Cond.arrayOver (.object C)).before args s = true) : ∃ cA, ArrOfT s cA (.object C) ∧ va_RA s cA (.object C) := by
  obtain ⟨comp, c, k, f1, fi, f2, f3, f4⟩ := Cond.arrayOver_spec h
  exact ⟨c, fun n z => ⟨(fun k h => by cases h), k, f2, comp, f3⟩, k, comp, f2, f3, f1, f4⟩
theorem ent_fT {s : State} {args : Array Value} (hts : ∀ w ∈ lw_tbl, w.before args s = true) : ∀ w ∈ fT, w.before args s = true := fun w h => hts w (fT_tbl h)
theorem ent_cls {s : State} {args : Array Value} (hf : ∀ w ∈ fT, w.before args s = true) (k : Nat) : ∃ x : ClassId × (Nat → Nat), ∀ q, vwCl[k]? = some q → u_Kn s q.1 q.2.1 q.2.2 x.1 x.2 := by
  match k with
  | 0 =>
    obtain ⟨c, i, h⟩ := u_known (C := RX0) (T := TX0) (N := 2) (n := 2) hf uX0 (hf _ wi_0.1)
    exact ⟨(c, i), fun q hq => by cases hq; exact h⟩
  | 1 =>
    obtain ⟨c, i, h⟩ := u_known (C := RX1) (T := TX1) (N := 8) (n := 8) hf uX1 (hf _ wi_1.1)
    exact ⟨(c, i), fun q hq => by cases hq; exact h⟩
  | 2 =>
    obtain ⟨c, i, h⟩ := u_known (C := RX2) (T := TX2) (N := 5) (n := 5) hf uX2 (hf _ wi_2.1)
    exact ⟨(c, i), fun q hq => by cases hq; exact h⟩
  | 3 =>
    obtain ⟨c, i, h⟩ := u_known (C := RX3) (T := TX3) (N := 7) (n := 7) hf uX3 (hf _ wi_3.1)
    exact ⟨(c, i), fun q hq => by cases hq; exact h⟩
  | 4 =>
    obtain ⟨c, i, h⟩ := u_known (C := RX4) (T := TX4) (N := 4) (n := 4) hf uX4 (hf _ wi_4.1)
    exact ⟨(c, i), fun q hq => by cases hq; exact h⟩
  | 5 =>
    obtain ⟨c, i, h⟩ := u_known (C := RX5) (T := TX5) (N := 12) (n := 12) hf uX5 (hf _ wi_5.1)
    exact ⟨(c, i), fun q hq => by cases hq; exact h⟩
  | 6 =>
    obtain ⟨c, i, h⟩ := u_known (C := RX6) (T := TX6) (N := 4) (n := 4) hf uX6 (hf _ wi_6.1)
    exact ⟨(c, i), fun q hq => by cases hq; exact h⟩
  | 7 =>
    obtain ⟨c, i, h⟩ := u_known (C := RX7) (T := TX7) (N := 18) (n := 18) hf uX7 (hf _ wi_7.1)
    exact ⟨(c, i), fun q hq => by cases hq; exact h⟩
  | 8 =>
    obtain ⟨c, i, h⟩ := u_known (C := RX8) (T := TX8) (N := 4) (n := 4) hf uX8 (hf _ wi_8.1)
    exact ⟨(c, i), fun q hq => by cases hq; exact h⟩
  | 9 =>
    obtain ⟨c, i, h⟩ := u_known (C := RX9) (T := TX9) (N := 8) (n := 8) hf uX9 (hf _ wi_9.1)
    exact ⟨(c, i), fun q hq => by cases hq; exact h⟩
  | 10 =>
    obtain ⟨c, i, h⟩ := u_known (C := RX10) (T := TX10) (N := 11) (n := 11) hf uX10 (hf _ wi_10.1)
    exact ⟨(c, i), fun q hq => by cases hq; exact h⟩
  | 11 =>
    obtain ⟨c, i, h⟩ := u_known (C := RX11) (T := TX11) (N := 18) (n := 18) hf uX11 (hf _ wi_11.1)
    exact ⟨(c, i), fun q hq => by cases hq; exact h⟩
  | 12 =>
    obtain ⟨c, i, h⟩ := u_known (C := RX12) (T := TX12) (N := 65) (n := 65) hf uX12 (hf _ wi_12.1)
    exact ⟨(c, i), fun q hq => by cases hq; exact h⟩
  | k + 13 =>
    obtain ⟨c, i, h⟩ := u_known (C := RX0) (T := TX0) (N := 2) (n := 2) hf uX0 (hf _ wi_0.1)
    exact ⟨(c, i), fun q hq => by
      have := (List.getElem?_eq_some_iff.mp hq).1
      have h13 : vwCl.length = 13 := rfl
      omega⟩
theorem ent_K {s : State} {args : Array Value} (hts : ∀ w ∈ lw_tbl, w.before args s = true) : ∃ (D : va_G) (cA : Nat → ClassId), va_K D vwCl (fTys cA) s := by
  have hf := ent_fT hts
  obtain ⟨c0, h0⟩ := ar_prim (ty := .int) (fun _ h => by cases h) (hts _ (List.mem_append_right _ (List.mem_of_getElem? (i := 232) (by decide +kernel))))
  obtain ⟨c1, h1⟩ := ar_prim (ty := .byte) (fun _ h => by cases h) (hts _ (List.mem_append_right _ (List.mem_of_getElem? (i := 135) (by decide +kernel))))
  obtain ⟨c2, h2⟩ := ar_prim (ty := .boolean) (fun _ h => by cases h) (hts _ (List.mem_append_right _ (List.mem_of_getElem? (i := 1471) (by decide +kernel))))
  obtain ⟨c3, h3⟩ := ar_prim (ty := .long) (fun _ h => by cases h) (hts _ (List.mem_append_right _ (List.mem_of_getElem? (i := 136) (by decide +kernel))))
  obtain ⟨c4, h4⟩ := ar_obj (C := "OneSeat$Tray") (hts _ (List.mem_append_right _ (List.mem_of_getElem? (i := 31) (by decide +kernel))))
  obtain ⟨c5, h5⟩ := ar_obj (C := "OneSeat$House") (hts _ (List.mem_append_right _ (List.mem_of_getElem? (i := 282) (by decide +kernel))))
  refine ⟨(fun k => (Classical.choose (ent_cls hf k)).1, fun k => (Classical.choose (ent_cls hf k)).2), fun k => [c0, c1, c2, c3, c4, c5].getD k c0, fun c q hq => Classical.choose_spec (ent_cls hf c) q hq, ?_⟩
  intro k q hq
  match k, hq with
  | 0, hq => cases hq; exact h0
  | 1, hq => cases hq; exact h1
  | 2, hq => cases hq; exact h2
  | 3, hq => cases hq; exact h3
  | 4, hq => cases hq; exact h4
  | 5, hq => cases hq; exact h5
  | k + 6, hq => exact absurd (List.getElem?_eq_some_iff.mp hq).1 (by show ¬ k + 6 < 6; omega)
theorem ent_N {s : State} {args : Array Value} (hts : ∀ w ∈ lw_tbl, w.before args s = true) : fNst s := ⟨fun a i x h hm => va_Nw.of rfl (hts _ hm), fun C hm => va_AO.of (hts _ hm)⟩
set_option maxHeartbeats 4000000 in
set_option maxRecDepth 100000 in
def ent_w (j : Nat) : Cond := Cond.eq (.elem (.field (Term.string "OneSeat$Reader" 19) "java/lang/String" "value" "[B") (.int (Int32.ofNat j))) (.int (sTx.getD j 0))
set_option maxHeartbeats 4000000 in
set_option maxRecDepth 100000 in
theorem ent_el : (flatC (Jvm.Cond.and given_1 narrow_1)).drop 39 = (List.range 172).map ent_w := rfl
theorem ent_in {w : Cond} (i : Nat) (h : (flatC (Jvm.Cond.and given_1 narrow_1))[i]? = some w) : w ∈ flatC (Jvm.Cond.and given_1 narrow_1) := List.mem_of_getElem? h
set_option maxHeartbeats 4000000 in
set_option maxRecDepth 100000 in
theorem ent_S {s : State} {args : Array Value} (hts : ∀ w ∈ lw_tbl, w.before args s = true) (hg : (Jvm.Cond.and given_1 narrow_1).before args s = true) {A : Nat → Prop} (hA : ∀ a : Nat, a < s.heap.size → ¬ A a) : ∃ aS aV, sE aS aV A s := by
  have hs := flat_of_before _ hg
  obtain ⟨adK, adV, hV, hE⟩ := vk_Sof (args := args) (s := s) (N := 1) (tm := fun _ => (Term.string "OneSeat$Reader" 19)) (len := [172]) (byt := [sTx]) (A := A)
    (fun i hi => by rw [show i = 0 by omega]; decide)
    (fun i hi => hs _ (ent_in 35 rfl)) (fun i hi => hs _ (ent_in 36 rfl)) (fun i hi => hs _ (ent_in 37 rfl))
    (fun i hi => by rw [show i = 0 by omega]; exact hs _ (ent_in 38 rfl))
    (fun i hi j hj => by
      rw [show i = 0 by omega] at hj ⊢
      exact hs (ent_w j) (List.mem_of_mem_drop (i := 39) (by rw [ent_el]; exact List.mem_map.mpr ⟨j, List.mem_range.mpr hj, rfl⟩)))
    (fun i j hi hj hne => absurd (by omega) hne) hA
  refine ⟨adK 0, adV 0, ⟨va_Zof (hts _ (List.mem_append_right _ (List.mem_of_getElem? (i := 48) (by decide +kernel)))) (hts _ (List.mem_append_right _ (List.mem_of_getElem? (i := 3) (by decide +kernel)))) (va_eqi (hs _ (ent_in 4 rfl))) hA, va_Zqof (hts _ (List.mem_append_right _ (List.mem_of_getElem? (i := 64) (by decide +kernel)))) (hts _ (List.mem_append_right _ (List.mem_of_getElem? (i := 5) (by decide +kernel)))) (hs _ (ent_in 5 rfl)) hA, ?_⟩, ?_⟩
  · refine ⟨fun i hi => ?_, fun i j hi hj _ => by omega⟩
    have := hV.1 0 (by decide)
    rw [show i = 0 by omega]
    exact this
  · exact vk_R.of (hts _ (List.mem_append_right _ (List.mem_of_getElem? (i := 38) (by decide +kernel)))) (hE 0 (by decide))
