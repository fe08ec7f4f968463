noncomputable def f_X3_sow (i0 : Nat) (a1 : Int32) (st : fSt) : Option (Unit × fSt) :=
  fLt (sI st 3 i0 6 a1) fun s1 =>
  some ((), s1)

set_option maxHeartbeats 4000000 in
set_option maxRecDepth 100000 in
theorem c_X3_sow (Δ : fDl) (hN : fNx Δ) (i0 : Nat) (a1 : Int32) (hi0 : i0 < fN Δ 3)  (st : fSt) : fMt eV Δ yX3_sow cX3_sow 2 none 1 [.ref (fad Δ 3 i0 0), .int a1] st (f_X3_sow i0 a1 st) := by
  unfold f_X3_sow
  refine r_method (by decide +kernel) (Nat.le_of_ble_eq_true rfl) (fun Γ C => ?_)
  have C : fC Δ Γ cX3_sow RX3 2 none 1 := C
  refine r_locs (lc' := [(0, .ref (fad Δ 3 i0 0)), (1, .int a1)]) [0, 1] rfl ?_
  refine r_aload_n (q := 1) (i := 0) (z := 0) C dX3_sow_0 rfl rfl rfl ?_
  refine r_iload_n (q := 2) (i := 1) (z := 1) C dX3_sow_1 rfl rfl rfl ?_
  refine p_X3_9 (q := 5) C hi0 dX3_sow_2 rfl (fun s1 => ?_)
  exact r_vret C dX3_sow_5

noncomputable def f_X3_draw (i0 : Nat) (a1 : Int32) (st : fSt) : Option (Int32 × fSt) :=
  fLt (sI st 3 i0 6 ((((gI st 3 i0 6) * ((2903 : Int32))) + ((7187 : Int32))) &&& ((65535 : Int32)))) fun s1 =>
  fJn (fun (x2 : Int32) (s3 : fSt) =>
    (some (x2, s3))) fun (j4 : Int32 → fSt → Option (Int32 × fSt)) =>
  if a1 ≤ 0 then
    (j4 ((0 : Int32)) s1)
  else
    (fNz ((8 : Int32)) <|
    fNz a1 <|
    j4 (((gI s1 3 i0 6) / ((8 : Int32))) - ((gI s1 3 i0 6) / ((8 : Int32))) / a1 * a1) s1)

set_option maxHeartbeats 4000000 in
set_option maxRecDepth 100000 in
theorem c_X3_draw (Δ : fDl) (hN : fNx Δ) (i0 : Nat) (a1 : Int32) (hi0 : i0 < fN Δ 3)  (st : fSt) : fMt eI Δ yX3_draw cX3_draw 2 (some .int) 1 [.ref (fad Δ 3 i0 0), .int a1] st (f_X3_draw i0 a1 st) := by
  unfold f_X3_draw
  refine r_method (by decide +kernel) (Nat.le_of_ble_eq_true rfl) (fun Γ C => ?_)
  have C : fC Δ Γ cX3_draw RX3 2 (some .int) 1 := C
  refine r_locs (lc' := [(0, .ref (fad Δ 3 i0 0)), (1, .int a1)]) [0, 1] rfl ?_
  refine r_aload_n (q := 1) (i := 0) (z := 0) C dX3_draw_0 rfl rfl rfl ?_
  refine r_aload_n (q := 2) (i := 0) (z := 0) C dX3_draw_1 rfl rfl rfl ?_
  refine g_X3_9 (q := 5) C hi0 dX3_draw_2 rfl ?_
  refine r_sipush (q := 8) (v := 2903) C dX3_draw_5 rfl (by decide) ?_
  refine r_imul (q := 9) C dX3_draw_8 rfl ?_
  refine r_sipush (q := 12) (v := 7187) C dX3_draw_9 rfl (by decide) ?_
  refine r_iadd (q := 13) C dX3_draw_12 rfl ?_
  refine r_ldc (q := 15) C dX3_draw_13 rfl wc_X3_15 ?_
  refine r_iand (q := 16) C dX3_draw_15 rfl ?_
  refine p_X3_9 (q := 19) C hi0 dX3_draw_16 rfl (fun s1 => ?_)
  refine r_iload_n (q := 20) (i := 1) (z := 1) C dX3_draw_19 rfl rfl rfl ?_
  refine r_join (fun j4 => ∀ (x2 : Int32) (s3 : fSt), fW Δ Γ 2 (fQ eI Δ Γ) 36 [] [.int x2] s3 (j4 x2 s3)) ?_ (fun j4 hj4 => ?_)
  · intro x2 s3
    exact r_iret C dX3_draw_36
  refine r_if_le (q := 23) (tgt := 35) C dX3_draw_20 (by decide) rfl ?_ ?_
  · refine r_iconst (q := 36) (v := 0) C dX3_draw_35 rfl (by decide) ?_
    refine r_locs (lc' := []) [] rfl ?_
    exact hj4 ((0 : Int32)) s1
  · refine r_aload_n (q := 24) (i := 0) (z := 0) C dX3_draw_23 rfl rfl rfl ?_
    refine g_X3_9 (q := 27) C hi0 dX3_draw_24 rfl ?_
    refine r_bipush (q := 29) (v := 8) C dX3_draw_27 rfl (by decide) ?_
    refine r_idiv (q := 30) C dX3_draw_29 rfl ?_
    refine r_iload_n (q := 31) (i := 1) (z := 1) C dX3_draw_30 rfl rfl rfl ?_
    refine r_irem (q := 32) C dX3_draw_31 rfl ?_
    refine r_goto (q := 36) C dX3_draw_32 (by decide) ?_
    refine r_locs (lc' := []) [] rfl ?_
    exact hj4 (((gI s1 3 i0 6) / ((8 : Int32))) - ((gI s1 3 i0 6) / ((8 : Int32))) / a1 * a1) s1

noncomputable def f_X7_lotsInAll_L4 (i0 : Nat) : Nat → Int32 → Int32 → fSt → Option (Int32 × fSt)
  | 0, _, _, _ => none
  | n6 + 1, x3, x4, s5 =>
      if (gI s5 7 i0 3) ≤ x4 then
        (some (x3, s5))
      else
        (fIx x4 4 <|
        fLt (x3 + (gA s5 7 i0 13 x4.toNatClampNeg)) fun (x7 : Int32) =>
        fLt (x4 + (1 : Int32)) fun (x8 : Int32) =>
        f_X7_lotsInAll_L4 i0 n6 x7 x8 s5)

noncomputable def f_X7_lotsInAll (i0 : Nat) (st : fSt) : Option (Int32 × fSt) :=
  fLt ((0 : Int32)) fun (x1 : Int32) =>
  fLt ((0 : Int32)) fun (x2 : Int32) =>
  f_X7_lotsInAll_L4 i0 fF x1 x2 st

set_option maxHeartbeats 4000000 in
set_option maxRecDepth 100000 in
theorem c_X7_lotsInAll (Δ : fDl) (hN : fNx Δ) (i0 : Nat) (hi0 : i0 < fN Δ 7)  (st : fSt) : fMt eI Δ yX7_lotsInAll cX7_lotsInAll 3 (some .int) 1 [.ref (fad Δ 7 i0 0)] st (f_X7_lotsInAll i0 st) := by
  unfold f_X7_lotsInAll
  refine r_method (by decide +kernel) (Nat.le_of_ble_eq_true rfl) (fun Γ C => ?_)
  have C : fC Δ Γ cX7_lotsInAll RX7 3 (some .int) 1 := C
  refine r_locs (lc' := [(0, .ref (fad Δ 7 i0 0))]) [0] rfl ?_
  refine r_iconst (q := 1) (v := 0) C dX7_lotsInAll_0 rfl (by decide) ?_
  refine r_istore_n (q := 2) (i := 1) [(0, .ref (fad Δ 7 i0 0))] C dX7_lotsInAll_1 rfl rfl (by decide) rfl (fun x1 => ?_)
  refine r_iconst (q := 3) (v := 0) C dX7_lotsInAll_2 rfl (by decide) ?_
  refine r_istore_n (q := 4) (i := 2) [(1, .int x1), (0, .ref (fad Δ 7 i0 0))] C dX7_lotsInAll_3 rfl rfl (by decide) rfl (fun x2 => ?_)
  refine r_locs (lc' := [(0, .ref (fad Δ 7 i0 0)), (1, .int x1), (2, .int x2)]) [2, 1, 0] rfl ?_
  have L4 : ∀ (n6 : Nat) (x3 : Int32) (x4 : Int32) (s5 : fSt), fW Δ Γ 3 (fQ eI Δ Γ) 4 [(0, .ref (fad Δ 7 i0 0)), (1, .int x3), (2, .int x4)] [] s5 (f_X7_lotsInAll_L4 i0 n6 x3 x4 s5) := by
    intro n6
    induction n6 with
    | zero =>
      intro x3 x4 s5
      rw [f_X7_lotsInAll_L4]
      exact r_none
    | succ n6 ih_n6 =>
      intro x3 x4 s5
      rw [f_X7_lotsInAll_L4]
      refine r_iload_n (q := 5) (i := 2) (z := 2) C dX7_lotsInAll_4 rfl rfl rfl ?_
      refine r_aload_n (q := 6) (i := 0) (z := 0) C dX7_lotsInAll_5 rfl rfl rfl ?_
      refine g_X7_116 (q := 9) C hi0 dX7_lotsInAll_6 rfl ?_
      refine r_icmp_ge (q := 12) (tgt := 27) C dX7_lotsInAll_9 (by decide) rfl ?_ ?_
      · refine r_iload_n (q := 28) (i := 1) (z := 1) C dX7_lotsInAll_27 rfl rfl rfl ?_
        exact r_iret C dX7_lotsInAll_28
      · refine r_iload_n (q := 13) (i := 1) (z := 1) C dX7_lotsInAll_12 rfl rfl rfl ?_
        refine r_aload_n (q := 14) (i := 0) (z := 0) C dX7_lotsInAll_13 rfl rfl rfl ?_
        refine g_X7_49 (q := 17) C hi0 dX7_lotsInAll_14 rfl ?_
        refine r_iload_n (q := 18) (i := 2) (z := 2) C dX7_lotsInAll_17 rfl rfl rfl ?_
        refine r_ial (q := 19) q_7_13 h_7_13 C hi0 dX7_lotsInAll_18 rfl ?_
        refine r_iadd (q := 20) C dX7_lotsInAll_19 rfl ?_
        refine r_istore_n (q := 21) (i := 1) [(0, .ref (fad Δ 7 i0 0)), (2, .int x4)] C dX7_lotsInAll_20 rfl rfl (by decide) rfl (fun x7 => ?_)
        refine r_iinc (q := 24) (z := 2) (d := 1) [(1, .int x7), (0, .ref (fad Δ 7 i0 0))] C dX7_lotsInAll_21 rfl rfl (by decide) (by decide) rfl (fun x8 => ?_)
        refine r_goto (q := 4) C dX7_lotsInAll_24 (by decide) ?_
        refine r_locs (lc' := [(0, .ref (fad Δ 7 i0 0)), (1, .int x7), (2, .int x8)]) [2, 1, 0] rfl ?_
        exact ih_n6 x7 x8 s5
  exact L4 fF x1 x2 st

noncomputable def f_X3_drawKind_L11 (i1 : Nat) (k9 : Int32 → fSt → Option (Int32 × fSt)) : Nat → Int32 → Int32 → fSt → Option (Int32 × fSt)
  | 0, _, _, _ => none
  | n13 + 1, x10, x11, s12 =>
      if ((gI s12 7 i1 3) - ((1 : Int32))) ≤ x11 then
        (k9 x11 s12)
      else
        (fIx x11 4 <|
        if x10 < (gA s12 7 i1 13 x11.toNatClampNeg) then
          (k9 x11 s12)
        else
          (fIx x11 4 <|
          fLt (x10 - (gA s12 7 i1 13 x11.toNatClampNeg)) fun (x14 : Int32) =>
          fLt (x11 + (1 : Int32)) fun (x15 : Int32) =>
          f_X3_drawKind_L11 i1 k9 n13 x14 x15 s12))

noncomputable def f_X3_drawKind (i0 : Nat) (i1 : Nat) (st : fSt) : Option (Int32 × fSt) :=
  fBd (f_X7_lotsInAll i1 st) fun x1 s2 =>
  fBd (f_X3_draw i0 x1 s2) fun x3 s4 =>
  fLt x3 fun (x5 : Int32) =>
  fLt ((0 : Int32)) fun (x6 : Int32) =>
  fJn (fun (x7 : Int32) (s8 : fSt) =>
    (some (x7, s8))) fun (k9 : Int32 → fSt → Option (Int32 × fSt)) =>
  f_X3_drawKind_L11 i1 k9 fF x5 x6 s4

set_option maxHeartbeats 4000000 in
set_option maxRecDepth 100000 in
theorem c_X3_drawKind (Δ : fDl) (hN : fNx Δ) (i0 : Nat) (i1 : Nat) (hi0 : i0 < fN Δ 3) (hi1 : i1 < fN Δ 7)  (st : fSt) : fMt eI Δ yX3_drawKind cX3_drawKind 4 (some .int) 2 [.ref (fad Δ 3 i0 0), .ref (fad Δ 7 i1 0)] st (f_X3_drawKind i0 i1 st) := by
  unfold f_X3_drawKind
  refine r_method (by decide +kernel) (Nat.le_of_ble_eq_true rfl) (fun Γ C => ?_)
  have C : fC Δ Γ cX3_drawKind RX3 4 (some .int) 2 := C
  refine r_locs (lc' := [(0, .ref (fad Δ 3 i0 0)), (1, .ref (fad Δ 7 i1 0))]) [0, 1] rfl ?_
  refine r_aload_n (q := 1) (i := 0) (z := 0) C dX3_drawKind_0 rfl rfl rfl ?_
  refine r_aload_n (q := 2) (i := 1) (z := 1) C dX3_drawKind_1 rfl rfl rfl ?_
  refine r_callVI (q := 5) (As := []) wm_X3_16 yvX7_lotsInAll (c_X7_lotsInAll Δ hN i1 hi1 st) ⟨rfl, by decide⟩ C hi1 (by decide) rfl (Nat.le_of_ble_eq_true rfl) dX3_drawKind_2 rfl (fun x1 s2 => ?_)
  refine r_callVI (q := 8) (As := [.int x1]) wm_X3_22 yvX3_draw (c_X3_draw Δ hN i0 x1 hi0 s2) ⟨rfl, by decide⟩ C hi0 (by decide) rfl (Nat.le_of_ble_eq_true rfl) dX3_drawKind_5 rfl (fun x3 s4 => ?_)
  refine r_istore_n (q := 9) (i := 2) [(0, .ref (fad Δ 3 i0 0)), (1, .ref (fad Δ 7 i1 0))] C dX3_drawKind_8 rfl rfl (by decide) rfl (fun x5 => ?_)
  refine r_iconst (q := 10) (v := 0) C dX3_drawKind_9 rfl (by decide) ?_
  refine r_istore_n (q := 11) (i := 3) [(2, .int x5), (0, .ref (fad Δ 3 i0 0)), (1, .ref (fad Δ 7 i1 0))] C dX3_drawKind_10 rfl rfl (by decide) rfl (fun x6 => ?_)
  refine r_join (fun k9 => ∀ (x7 : Int32) (s8 : fSt), fW Δ Γ 4 (fQ eI Δ Γ) 46 [(3, .int x7)] [] s8 (k9 x7 s8)) ?_ (fun k9 hk9 => ?_)
  · intro x7 s8
    refine r_iload_n (q := 47) (i := 3) (z := 0) C dX3_drawKind_46 rfl rfl rfl ?_
    exact r_iret C dX3_drawKind_47
  refine r_locs (lc' := [(1, .ref (fad Δ 7 i1 0)), (2, .int x5), (3, .int x6)]) [3, 1, 0] rfl ?_
  have L11 : ∀ (n13 : Nat) (x10 : Int32) (x11 : Int32) (s12 : fSt), fW Δ Γ 4 (fQ eI Δ Γ) 11 [(1, .ref (fad Δ 7 i1 0)), (2, .int x10), (3, .int x11)] [] s12 (f_X3_drawKind_L11 i1 k9 n13 x10 x11 s12) := by
    intro n13
    induction n13 with
    | zero =>
      intro x10 x11 s12
      rw [f_X3_drawKind_L11]
      exact r_none
    | succ n13 ih_n13 =>
      intro x10 x11 s12
      rw [f_X3_drawKind_L11]
      refine r_iload_n (q := 12) (i := 3) (z := 2) C dX3_drawKind_11 rfl rfl rfl ?_
      refine r_aload_n (q := 13) (i := 1) (z := 0) C dX3_drawKind_12 rfl rfl rfl ?_
      refine g_X3_26 (q := 16) C hi1 dX3_drawKind_13 rfl ?_
      refine r_iconst (q := 17) (v := 1) C dX3_drawKind_16 rfl (by decide) ?_
      refine r_isub (q := 18) C dX3_drawKind_17 rfl ?_
      refine r_icmp_ge (q := 21) (tgt := 46) C dX3_drawKind_18 (by decide) rfl ?_ ?_
      · refine r_locs (lc' := [(3, .int x11)]) [2] rfl ?_
        exact hk9 x11 s12
      · refine r_iload_n (q := 22) (i := 2) (z := 1) C dX3_drawKind_21 rfl rfl rfl ?_
        refine r_aload_n (q := 23) (i := 1) (z := 0) C dX3_drawKind_22 rfl rfl rfl ?_
        refine g_X3_29 (q := 26) C hi1 dX3_drawKind_23 rfl ?_
        refine r_iload_n (q := 27) (i := 3) (z := 2) C dX3_drawKind_26 rfl rfl rfl ?_
        refine r_ial (q := 28) q_7_13 h_7_13 C hi1 dX3_drawKind_27 rfl ?_
        refine r_icmp_lt (q := 31) (tgt := 46) C dX3_drawKind_28 (by decide) rfl ?_ ?_
        · refine r_locs (lc' := [(3, .int x11)]) [2] rfl ?_
          exact hk9 x11 s12
        · refine r_iload_n (q := 32) (i := 2) (z := 1) C dX3_drawKind_31 rfl rfl rfl ?_
          refine r_aload_n (q := 33) (i := 1) (z := 0) C dX3_drawKind_32 rfl rfl rfl ?_
          refine g_X3_29 (q := 36) C hi1 dX3_drawKind_33 rfl ?_
          refine r_iload_n (q := 37) (i := 3) (z := 2) C dX3_drawKind_36 rfl rfl rfl ?_
          refine r_ial (q := 38) q_7_13 h_7_13 C hi1 dX3_drawKind_37 rfl ?_
          refine r_isub (q := 39) C dX3_drawKind_38 rfl ?_
          refine r_istore_n (q := 40) (i := 2) [(1, .ref (fad Δ 7 i1 0)), (3, .int x11)] C dX3_drawKind_39 rfl rfl (by decide) rfl (fun x14 => ?_)
          refine r_iinc (q := 43) (z := 2) (d := 1) [(2, .int x14), (1, .ref (fad Δ 7 i1 0))] C dX3_drawKind_40 rfl rfl (by decide) (by decide) rfl (fun x15 => ?_)
          refine r_goto (q := 11) C dX3_drawKind_43 (by decide) ?_
          refine r_locs (lc' := [(1, .ref (fad Δ 7 i1 0)), (2, .int x14), (3, .int x15)]) [2, 1, 0] rfl ?_
          exact ih_n13 x14 x15 s12
  exact L11 fF x5 x6 s4

noncomputable def f_X3_drawDeed_L10 (i1 : Nat) (a2 : Int32) : Nat → Int32 → Int32 → fSt → Option (Int32 × fSt)
  | 0, _, _, _ => none
  | n8 + 1, x5, x6, s7 =>
      if ((4 : Int32)) ≤ x6 then
        (some ((0 : Int32), s7))
      else
        (fIx ((a2 * ((4 : Int32))) + x6) 16 <|
        fLt (gA s7 7 i1 14 ((a2 * ((4 : Int32))) + x6).toNatClampNeg) fun (x9 : Int32) =>
        if x9 ≤ x5 then
          (fLt (x5 - x9) fun (x10 : Int32) =>
          fLt (x6 + (1 : Int32)) fun (x11 : Int32) =>
          f_X3_drawDeed_L10 i1 a2 n8 x10 x11 s7)
        else
          (some (x6, s7)))

noncomputable def f_X3_drawDeed (i0 : Nat) (i1 : Nat) (a2 : Int32) (st : fSt) : Option (Int32 × fSt) :=
  fBd (f_X3_draw i0 ((16 : Int32)) st) fun x1 s2 =>
  fLt x1 fun (x3 : Int32) =>
  fLt ((1 : Int32)) fun (x4 : Int32) =>
  f_X3_drawDeed_L10 i1 a2 fF x3 x4 s2

set_option maxHeartbeats 4000000 in
set_option maxRecDepth 100000 in
theorem c_X3_drawDeed (Δ : fDl) (hN : fNx Δ) (i0 : Nat) (i1 : Nat) (a2 : Int32) (hi0 : i0 < fN Δ 3) (hi1 : i1 < fN Δ 7)  (st : fSt) : fMt eI Δ yX3_drawDeed cX3_drawDeed 6 (some .int) 2 [.ref (fad Δ 3 i0 0), .ref (fad Δ 7 i1 0), .int a2] st (f_X3_drawDeed i0 i1 a2 st) := by
  unfold f_X3_drawDeed
  refine r_method (by decide +kernel) (Nat.le_of_ble_eq_true rfl) (fun Γ C => ?_)
  have C : fC Δ Γ cX3_drawDeed RX3 6 (some .int) 2 := C
  refine r_locs (lc' := [(0, .ref (fad Δ 3 i0 0)), (1, .ref (fad Δ 7 i1 0)), (2, .int a2)]) [0, 1, 2] rfl ?_
  refine r_aload_n (q := 1) (i := 0) (z := 0) C dX3_drawDeed_0 rfl rfl rfl ?_
  refine r_bipush (q := 3) (v := 16) C dX3_drawDeed_1 rfl (by decide) ?_
  refine r_callVI (q := 6) (As := [.int ((16 : Int32))]) wm_X3_22 yvX3_draw (c_X3_draw Δ hN i0 ((16 : Int32)) hi0 st) ⟨rfl, by decide⟩ C hi0 (by decide) rfl (Nat.le_of_ble_eq_true rfl) dX3_drawDeed_3 rfl (fun x1 s2 => ?_)
  refine r_istore_n (q := 7) (i := 3) [(0, .ref (fad Δ 3 i0 0)), (1, .ref (fad Δ 7 i1 0)), (2, .int a2)] C dX3_drawDeed_6 rfl rfl (by decide) rfl (fun x3 => ?_)
  refine r_iconst (q := 8) (v := 1) C dX3_drawDeed_7 rfl (by decide) ?_
  refine r_istore (q := 10) (i := 4) [(3, .int x3), (0, .ref (fad Δ 3 i0 0)), (1, .ref (fad Δ 7 i1 0)), (2, .int a2)] C dX3_drawDeed_8 rfl (by decide) rfl (fun x4 => ?_)
  refine r_locs (lc' := [(1, .ref (fad Δ 7 i1 0)), (2, .int a2), (3, .int x3), (4, .int x4)]) [3, 4, 1, 0] rfl ?_
  have L10 : ∀ (n8 : Nat) (x5 : Int32) (x6 : Int32) (s7 : fSt), fW Δ Γ 6 (fQ eI Δ Γ) 10 [(1, .ref (fad Δ 7 i1 0)), (2, .int a2), (3, .int x5), (4, .int x6)] [] s7 (f_X3_drawDeed_L10 i1 a2 n8 x5 x6 s7) := by
    intro n8
    induction n8 with
    | zero =>
      intro x5 x6 s7
      rw [f_X3_drawDeed_L10]
      exact r_none
    | succ n8 ih_n8 =>
      intro x5 x6 s7
      rw [f_X3_drawDeed_L10]
      refine r_iload (q := 12) (i := 4) (z := 3) C dX3_drawDeed_10 rfl rfl ?_
      refine r_iconst (q := 13) (v := 4) C dX3_drawDeed_12 rfl (by decide) ?_
      refine r_icmp_ge (q := 16) (tgt := 49) C dX3_drawDeed_13 (by decide) rfl ?_ ?_
      · refine r_iconst (q := 50) (v := 0) C dX3_drawDeed_49 rfl (by decide) ?_
        exact r_iret C dX3_drawDeed_50
      · refine r_aload_n (q := 17) (i := 1) (z := 0) C dX3_drawDeed_16 rfl rfl rfl ?_
        refine g_X3_33 (q := 20) C hi1 dX3_drawDeed_17 rfl ?_
        refine r_iload_n (q := 21) (i := 2) (z := 1) C dX3_drawDeed_20 rfl rfl rfl ?_
        refine r_iconst (q := 22) (v := 4) C dX3_drawDeed_21 rfl (by decide) ?_
        refine r_imul (q := 23) C dX3_drawDeed_22 rfl ?_
        refine r_iload (q := 25) (i := 4) (z := 3) C dX3_drawDeed_23 rfl rfl ?_
        refine r_iadd (q := 26) C dX3_drawDeed_25 rfl ?_
        refine r_ial (q := 27) q_7_14 h_7_14 C hi1 dX3_drawDeed_26 rfl ?_
        refine r_istore (q := 29) (i := 5) [(1, .ref (fad Δ 7 i1 0)), (2, .int a2), (3, .int x5), (4, .int x6)] C dX3_drawDeed_27 rfl (by decide) rfl (fun x9 => ?_)
        refine r_iload_n (q := 30) (i := 3) (z := 3) C dX3_drawDeed_29 rfl rfl rfl ?_
        refine r_iload (q := 32) (i := 5) (z := 0) C dX3_drawDeed_30 rfl rfl ?_
        refine r_icmp_ge (q := 35) (tgt := 38) C dX3_drawDeed_32 (by decide) rfl ?_ ?_
        · refine r_iload_n (q := 39) (i := 3) (z := 3) C dX3_drawDeed_38 rfl rfl rfl ?_
          refine r_iload (q := 41) (i := 5) (z := 0) C dX3_drawDeed_39 rfl rfl ?_
          refine r_isub (q := 42) C dX3_drawDeed_41 rfl ?_
          refine r_istore_n (q := 43) (i := 3) [(5, .int x9), (1, .ref (fad Δ 7 i1 0)), (2, .int a2), (4, .int x6)] C dX3_drawDeed_42 rfl rfl (by decide) rfl (fun x10 => ?_)
          refine r_iinc (q := 46) (z := 4) (d := 1) [(3, .int x10), (5, .int x9), (1, .ref (fad Δ 7 i1 0)), (2, .int a2)] C dX3_drawDeed_43 rfl rfl (by decide) (by decide) rfl (fun x11 => ?_)
          refine r_goto (q := 10) C dX3_drawDeed_46 (by decide) ?_
          refine r_locs (lc' := [(1, .ref (fad Δ 7 i1 0)), (2, .int a2), (3, .int x10), (4, .int x11)]) [3, 4, 1, 0] rfl ?_
          exact ih_n8 x10 x11 s7
        · refine r_iload (q := 37) (i := 4) (z := 4) C dX3_drawDeed_35 rfl rfl ?_
          exact r_iret C dX3_drawDeed_37
  exact L10 fF x3 x4 s2

noncomputable def f_X3_open (i0 : Nat) (i1 : Nat) (a2 : Int32) (st : fSt) : Option (Unit × fSt) :=
  fLt (sI st 3 i0 0 ((0 : Int32))) fun s1 =>
  fLt (sI s1 3 i0 1 ((-1 : Int32))) fun s2 =>
  fLt (sI s2 3 i0 2 a2) fun s3 =>
  fLt (sI s3 3 i0 3 ((0 : Int32))) fun s4 =>
  fLt (sI s4 3 i0 5 (gI s4 2 i1 3)) fun s5 =>
  fBd (f_X2_opening i1 (gI s5 3 i0 5) s5) fun x6 s7 =>
  fLt (sI s7 3 i0 4 x6) fun s8 =>
  some ((), s8)

set_option maxHeartbeats 4000000 in
set_option maxRecDepth 100000 in
theorem c_X3_open (Δ : fDl) (hN : fNx Δ) (i0 : Nat) (i1 : Nat) (a2 : Int32) (hi0 : i0 < fN Δ 3) (hi1 : i1 < fN Δ 2)  (st : fSt) : fMt eV Δ yX3_open cX3_open 3 none 3 [.ref (fad Δ 3 i0 0), .ref (fad Δ 2 i1 0), .int a2] st (f_X3_open i0 i1 a2 st) := by
  unfold f_X3_open
  refine r_method (by decide +kernel) (Nat.le_of_ble_eq_true rfl) (fun Γ C => ?_)
  have C : fC Δ Γ cX3_open RX3 3 none 3 := C
  refine r_locs (lc' := [(0, .ref (fad Δ 3 i0 0)), (1, .ref (fad Δ 2 i1 0)), (2, .int a2)]) [0, 1, 2] rfl ?_
  refine r_aload_n (q := 1) (i := 0) (z := 0) C dX3_open_0 rfl rfl rfl ?_
  refine r_iconst (q := 2) (v := 0) C dX3_open_1 rfl (by decide) ?_
  refine p_X3_56 (q := 5) C hi0 dX3_open_2 rfl (fun s1 => ?_)
  refine r_aload_n (q := 6) (i := 0) (z := 0) C dX3_open_5 rfl rfl rfl ?_
  refine r_iconst (q := 7) (v := (-1)) C dX3_open_6 rfl (by decide) ?_
  refine p_X3_59 (q := 10) C hi0 dX3_open_7 rfl (fun s2 => ?_)
  refine r_aload_n (q := 11) (i := 0) (z := 0) C dX3_open_10 rfl rfl rfl ?_
  refine r_iload_n (q := 12) (i := 2) (z := 2) C dX3_open_11 rfl rfl rfl ?_
  refine p_X3_62 (q := 15) C hi0 dX3_open_12 rfl (fun s3 => ?_)
  refine r_aload_n (q := 16) (i := 0) (z := 0) C dX3_open_15 rfl rfl rfl ?_
  refine r_iconst (q := 17) (v := 0) C dX3_open_16 rfl (by decide) ?_
  refine p_X3_65 (q := 20) C hi0 dX3_open_17 rfl (fun s4 => ?_)
  refine r_aload_n (q := 21) (i := 0) (z := 0) C dX3_open_20 rfl rfl rfl ?_
  refine r_aload_n (q := 22) (i := 1) (z := 1) C dX3_open_21 rfl rfl rfl ?_
  refine g_X3_68 (q := 25) C hi1 dX3_open_22 rfl ?_
  refine p_X3_71 (q := 28) C hi0 dX3_open_25 rfl (fun s5 => ?_)
  refine r_aload_n (q := 29) (i := 0) (z := 0) C dX3_open_28 rfl rfl rfl ?_
  refine r_aload_n (q := 30) (i := 1) (z := 1) C dX3_open_29 rfl rfl rfl ?_
  refine r_aload_n (q := 31) (i := 0) (z := 0) C dX3_open_30 rfl rfl rfl ?_
  refine g_X3_71 (q := 34) C hi0 dX3_open_31 rfl ?_
  refine r_callVI (q := 37) (As := [.int (gI s5 3 i0 5)]) wm_X3_74 yvX2_opening (c_X2_opening Δ hN i1 (gI s5 3 i0 5) hi1 s5) ⟨rfl, by decide⟩ C hi1 (by decide) rfl (Nat.le_of_ble_eq_true rfl) dX3_open_34 rfl (fun x6 s7 => ?_)
  refine p_X3_40 (q := 40) C hi0 dX3_open_37 rfl (fun s8 => ?_)
  exact r_vret C dX3_open_40

noncomputable def f_X7_breathsOfScene (i0 : Nat) (a1 : Int32) (st : fSt) : Option (Int32 × fSt) :=
  fIx a1 12 <|
  fIx a1 12 <|
  fBd (f_J6_bitCount_0f7a4 (gA st 7 i0 9 a1.toNatClampNeg) st) fun x1 s2 =>
  some ((gA st 7 i0 8 a1.toNatClampNeg) * x1, s2)

set_option maxHeartbeats 4000000 in
set_option maxRecDepth 100000 in
theorem c_X7_breathsOfScene (Δ : fDl) (hN : fNx Δ) (i0 : Nat) (a1 : Int32) (hi0 : i0 < fN Δ 7)  (st : fSt) : fMt eI Δ yX7_breathsOfScene cX7_breathsOfScene 2 (some .int) 2 [.ref (fad Δ 7 i0 0), .int a1] st (f_X7_breathsOfScene i0 a1 st) := by
  unfold f_X7_breathsOfScene
  refine r_method (by decide +kernel) (Nat.le_of_ble_eq_true rfl) (fun Γ C => ?_)
  have C : fC Δ Γ cX7_breathsOfScene RX7 2 (some .int) 2 := C
  refine r_locs (lc' := [(0, .ref (fad Δ 7 i0 0)), (1, .int a1)]) [0, 1] rfl ?_
  refine r_aload_n (q := 1) (i := 0) (z := 0) C dX7_breathsOfScene_0 rfl rfl rfl ?_
  refine g_X7_34 (q := 4) C hi0 dX7_breathsOfScene_1 rfl ?_
  refine r_iload_n (q := 5) (i := 1) (z := 1) C dX7_breathsOfScene_4 rfl rfl rfl ?_
  refine r_ial (q := 6) q_7_8 h_7_8 C hi0 dX7_breathsOfScene_5 rfl ?_
  refine r_aload_n (q := 7) (i := 0) (z := 0) C dX7_breathsOfScene_6 rfl rfl rfl ?_
  refine g_X7_37 (q := 10) C hi0 dX7_breathsOfScene_7 rfl ?_
  refine r_iload_n (q := 11) (i := 1) (z := 1) C dX7_breathsOfScene_10 rfl rfl rfl ?_
  refine r_ial (q := 12) q_7_9 h_7_9 C hi0 dX7_breathsOfScene_11 rfl ?_
  refine r_callSI (q := 15) (As := [.int (gA st 7 i0 9 a1.toNatClampNeg)]) wm_X7_149 ysJ6_bitCount_0f7a4 (c_J6_bitCount_0f7a4 Δ (gA st 7 i0 9 a1.toNatClampNeg) st) C (by decide) rfl (Nat.le_of_ble_eq_true rfl) dX7_breathsOfScene_12 rfl (fun x1 s2 => ?_)
  refine r_imul (q := 16) C dX7_breathsOfScene_15 rfl ?_
  exact r_iret C dX7_breathsOfScene_16

noncomputable def f_X7_killedIn (i0 : Nat) (a1 : Int32) (st : fSt) : Option (Int32 × fSt) :=
  fIx a1 12 <|
  fJn (fun (x1 : Int32) (s2 : fSt) =>
    (some (x1, s2))) fun (j3 : Int32 → fSt → Option (Int32 × fSt)) =>
  if ¬ (gA st 7 i0 12 a1.toNatClampNeg) = ((-1 : Int32)) then
    (fIx a1 12 <|
    j3 (((1 : Int32)) <<< ((gA st 7 i0 12 a1.toNatClampNeg) &&& 31)) st)
  else
    (j3 ((0 : Int32)) st)

set_option maxHeartbeats 4000000 in
set_option maxRecDepth 100000 in
theorem c_X7_killedIn (Δ : fDl) (hN : fNx Δ) (i0 : Nat) (a1 : Int32) (hi0 : i0 < fN Δ 7)  (st : fSt) : fMt eI Δ yX7_killedIn cX7_killedIn 2 (some .int) 1 [.ref (fad Δ 7 i0 0), .int a1] st (f_X7_killedIn i0 a1 st) := by
  unfold f_X7_killedIn
  refine r_method (by decide +kernel) (Nat.le_of_ble_eq_true rfl) (fun Γ C => ?_)
  have C : fC Δ Γ cX7_killedIn RX7 2 (some .int) 1 := C
  refine r_locs (lc' := [(0, .ref (fad Δ 7 i0 0)), (1, .int a1)]) [0, 1] rfl ?_
  refine r_aload_n (q := 1) (i := 0) (z := 0) C dX7_killedIn_0 rfl rfl rfl ?_
  refine g_X7_46 (q := 4) C hi0 dX7_killedIn_1 rfl ?_
  refine r_iload_n (q := 5) (i := 1) (z := 1) C dX7_killedIn_4 rfl rfl rfl ?_
  refine r_ial (q := 6) q_7_12 h_7_12 C hi0 dX7_killedIn_5 rfl ?_
  refine r_iconst (q := 7) (v := (-1)) C dX7_killedIn_6 rfl (by decide) ?_
  refine r_join (fun j3 => ∀ (x1 : Int32) (s2 : fSt), fW Δ Γ 2 (fQ eI Δ Γ) 22 [] [.int x1] s2 (j3 x1 s2)) ?_ (fun j3 hj3 => ?_)
  · intro x1 s2
    exact r_iret C dX7_killedIn_22
  refine r_icmp_ne (q := 10) (tgt := 14) C dX7_killedIn_7 (by decide) rfl ?_ ?_
  · refine r_iconst (q := 15) (v := 1) C dX7_killedIn_14 rfl (by decide) ?_
    refine r_aload_n (q := 16) (i := 0) (z := 0) C dX7_killedIn_15 rfl rfl rfl ?_
    refine g_X7_46 (q := 19) C hi0 dX7_killedIn_16 rfl ?_
    refine r_iload_n (q := 20) (i := 1) (z := 1) C dX7_killedIn_19 rfl rfl rfl ?_
    refine r_ial (q := 21) q_7_12 h_7_12 C hi0 dX7_killedIn_20 rfl ?_
    refine r_ishl (q := 22) C dX7_killedIn_21 rfl ?_
    refine r_locs (lc' := []) [] rfl ?_
    exact hj3 (((1 : Int32)) <<< ((gA st 7 i0 12 a1.toNatClampNeg) &&& 31)) st
  · refine r_iconst (q := 11) (v := 0) C dX7_killedIn_10 rfl (by decide) ?_
    refine r_goto (q := 22) C dX7_killedIn_11 (by decide) ?_
    refine r_locs (lc' := []) [] rfl ?_
    exact hj3 ((0 : Int32)) st

noncomputable def f_X3_playScene (i0 : Nat) (i1 : Nat) (a2 : Int32) (st : fSt) : Option (Unit × fSt) :=
  fLt (sI st 3 i0 0 ((gI st 3 i0 0) ||| (((1 : Int32)) <<< ((gI st 3 i0 4) &&& 31)))) fun s1 =>
  fNn (gP s1 2 i1 0) fun y2 =>
  fIx (gI s1 3 i0 4) 12 <|
  fLt (sI s1 3 i0 1 (gA s1 7 y2 10 (gI s1 3 i0 4).toNatClampNeg)) fun s3 =>
  fNn (gP s3 2 i1 0) fun y4 =>
  fBd (f_X7_breathsOfScene y4 (gI s3 3 i0 4) s3) fun x5 s6 =>
  fLt (sI s6 3 i0 3 ((gI s3 3 i0 3) + x5)) fun s7 =>
  fNn (gP s7 2 i1 0) fun y8 =>
  fBd (f_X7_killedIn y8 (gI s7 3 i0 4) s7) fun x9 s10 =>
  fLt (sI s10 3 i0 5 ((gI s7 3 i0 5) ||| x9)) fun s11 =>
  fBd (f_X2_onward i1 (gI s11 3 i0 4) a2 (gI s11 3 i0 5) s11) fun x12 s13 =>
  fLt (sI s13 3 i0 4 x12) fun s14 =>
  some ((), s14)

set_option maxHeartbeats 4000000 in
set_option maxRecDepth 100000 in
theorem c_X3_playScene (Δ : fDl) (hN : fNx Δ) (i0 : Nat) (i1 : Nat) (a2 : Int32) (hi0 : i0 < fN Δ 3) (hi1 : i1 < fN Δ 2)  (st : fSt) : fMt eV Δ yX3_playScene cX3_playScene 3 none 3 [.ref (fad Δ 3 i0 0), .ref (fad Δ 2 i1 0), .int a2] st (f_X3_playScene i0 i1 a2 st) := by
  unfold f_X3_playScene
  refine r_method (by decide +kernel) (Nat.le_of_ble_eq_true rfl) (fun Γ C => ?_)
  have C : fC Δ Γ cX3_playScene RX3 3 none 3 := C
  refine r_locs (lc' := [(0, .ref (fad Δ 3 i0 0)), (1, .ref (fad Δ 2 i1 0)), (2, .int a2)]) [0, 1, 2] rfl ?_
  refine r_aload_n (q := 1) (i := 0) (z := 0) C dX3_playScene_0 rfl rfl rfl ?_
  refine r_dup (q := 2) C dX3_playScene_1 rfl rfl ?_
  refine g_X3_56 (q := 5) C hi0 dX3_playScene_2 rfl ?_
  refine r_iconst (q := 6) (v := 1) C dX3_playScene_5 rfl (by decide) ?_
  refine r_aload_n (q := 7) (i := 0) (z := 0) C dX3_playScene_6 rfl rfl rfl ?_
  refine g_X3_40 (q := 10) C hi0 dX3_playScene_7 rfl ?_
  refine r_ishl (q := 11) C dX3_playScene_10 rfl ?_
  refine r_ior (q := 12) C dX3_playScene_11 rfl ?_
  refine p_X3_56 (q := 15) C hi0 dX3_playScene_12 rfl (fun s1 => ?_)
  refine r_aload_n (q := 16) (i := 0) (z := 0) C dX3_playScene_15 rfl rfl rfl ?_
  refine r_aload_n (q := 17) (i := 1) (z := 1) C dX3_playScene_16 rfl rfl rfl ?_
  refine g_X3_46 (q := 20) C hi1 dX3_playScene_17 rfl ?_
  refine r_deref C (fun h => (h _ hi1).1) (fun y2 hy2 => ?_)
  refine g_X3_77 (q := 23) C hy2 dX3_playScene_20 rfl ?_
  refine r_aload_n (q := 24) (i := 0) (z := 0) C dX3_playScene_23 rfl rfl rfl ?_
  refine g_X3_40 (q := 27) C hi0 dX3_playScene_24 rfl ?_
  refine r_ial (q := 28) q_7_10 h_7_10 C hy2 dX3_playScene_27 rfl ?_
  refine p_X3_59 (q := 31) C hi0 dX3_playScene_28 rfl (fun s3 => ?_)
  refine r_aload_n (q := 32) (i := 0) (z := 0) C dX3_playScene_31 rfl rfl rfl ?_
  refine r_dup (q := 33) C dX3_playScene_32 rfl rfl ?_
  refine g_X3_65 (q := 36) C hi0 dX3_playScene_33 rfl ?_
  refine r_aload_n (q := 37) (i := 1) (z := 1) C dX3_playScene_36 rfl rfl rfl ?_
  refine g_X3_46 (q := 40) C hi1 dX3_playScene_37 rfl ?_
  refine r_deref C (fun h => (h _ hi1).1) (fun y4 hy4 => ?_)
  refine r_aload_n (q := 41) (i := 0) (z := 0) C dX3_playScene_40 rfl rfl rfl ?_
  refine g_X3_40 (q := 44) C hi0 dX3_playScene_41 rfl ?_
  refine r_callVI (q := 47) (As := [.int (gI s3 3 i0 4)]) wm_X3_79 yvX7_breathsOfScene (c_X7_breathsOfScene Δ hN y4 (gI s3 3 i0 4) hy4 s3) ⟨rfl, by decide⟩ C hy4 (by decide) rfl (Nat.le_of_ble_eq_true rfl) dX3_playScene_44 rfl (fun x5 s6 => ?_)
  refine r_iadd (q := 48) C dX3_playScene_47 rfl ?_
  refine p_X3_65 (q := 51) C hi0 dX3_playScene_48 rfl (fun s7 => ?_)
  refine r_aload_n (q := 52) (i := 0) (z := 0) C dX3_playScene_51 rfl rfl rfl ?_
  refine r_dup (q := 53) C dX3_playScene_52 rfl rfl ?_
  refine g_X3_71 (q := 56) C hi0 dX3_playScene_53 rfl ?_
  refine r_aload_n (q := 57) (i := 1) (z := 1) C dX3_playScene_56 rfl rfl rfl ?_
  refine g_X3_46 (q := 60) C hi1 dX3_playScene_57 rfl ?_
  refine r_deref C (fun h => (h _ hi1).1) (fun y8 hy8 => ?_)
  refine r_aload_n (q := 61) (i := 0) (z := 0) C dX3_playScene_60 rfl rfl rfl ?_
  refine g_X3_40 (q := 64) C hi0 dX3_playScene_61 rfl ?_
  refine r_callVI (q := 67) (As := [.int (gI s7 3 i0 4)]) wm_X3_82 yvX7_killedIn (c_X7_killedIn Δ hN y8 (gI s7 3 i0 4) hy8 s7) ⟨rfl, by decide⟩ C hy8 (by decide) rfl (Nat.le_of_ble_eq_true rfl) dX3_playScene_64 rfl (fun x9 s10 => ?_)
  refine r_ior (q := 68) C dX3_playScene_67 rfl ?_
  refine p_X3_71 (q := 71) C hi0 dX3_playScene_68 rfl (fun s11 => ?_)
  refine r_aload_n (q := 72) (i := 0) (z := 0) C dX3_playScene_71 rfl rfl rfl ?_
  refine r_aload_n (q := 73) (i := 1) (z := 1) C dX3_playScene_72 rfl rfl rfl ?_
  refine r_aload_n (q := 74) (i := 0) (z := 0) C dX3_playScene_73 rfl rfl rfl ?_
  refine g_X3_40 (q := 77) C hi0 dX3_playScene_74 rfl ?_
  refine r_iload_n (q := 78) (i := 2) (z := 2) C dX3_playScene_77 rfl rfl rfl ?_
  refine r_aload_n (q := 79) (i := 0) (z := 0) C dX3_playScene_78 rfl rfl rfl ?_
  refine g_X3_71 (q := 82) C hi0 dX3_playScene_79 rfl ?_
  refine r_callVI (q := 85) (As := [.int (gI s11 3 i0 4), .int a2, .int (gI s11 3 i0 5)]) wm_X3_85 yvX2_onward (c_X2_onward Δ hN i1 (gI s11 3 i0 4) a2 (gI s11 3 i0 5) hi1 s11) ⟨rfl, by decide⟩ C hi1 (by decide) rfl (Nat.le_of_ble_eq_true rfl) dX3_playScene_82 rfl (fun x12 s13 => ?_)
  refine p_X3_40 (q := 88) C hi0 dX3_playScene_85 rfl (fun s14 => ?_)
  exact r_vret C dX3_playScene_88

noncomputable def f_X3_playByHand_L9 (i0 : Nat) (i1 : Nat) (i2 : Nat) (a3 : Int32) (k4 : fSt → Option (Unit × fSt)) : Nat → Int32 → fSt → Option (Unit × fSt)
  | 0, _, _ => none
  | n7 + 1, x5, s6 =>
      if ((12 : Int32)) ≤ x5 then
        (k4 s6)
      else
        (if (gI s6 3 i0 4) = ((-1 : Int32)) then
          (k4 s6)
        else
          (fJn (fun (x8 : Int32) (s9 : fSt) =>
            (fBd (f_X3_playScene i0 i1 x8 s9) fun _ s11 =>
            fLt (x5 + (1 : Int32)) fun (x12 : Int32) =>
            f_X3_playByHand_L9 i0 i1 i2 a3 k4 n7 x12 s11)) fun (j10 : Int32 → fSt → Option (Unit × fSt)) =>
          fJn (fun (s13 : fSt) =>
            (j10 ((0 : Int32)) s13)) fun (j14 : fSt → Option (Unit × fSt)) =>
          if a3 ≤ x5 then
            (j14 s6)
          else
            (if ((60 : Int32)) ≤ x5 then
              (j14 s6)
            else
              (fIx x5 60 <|
              j10 ((gB s6 8 i2 1 x5.toNatClampNeg).toInt32) s6))))

noncomputable def f_X3_playByHand (i0 : Nat) (i1 : Nat) (i2 : Nat) (a3 : Int32) (st : fSt) : Option (Unit × fSt) :=
  fBd (f_X3_open i0 i1 ((-1 : Int32)) st) fun _ s1 =>
  fLt ((0 : Int32)) fun (x2 : Int32) =>
  fJn (fun (s3 : fSt) =>
    (some ((), s3))) fun (k4 : fSt → Option (Unit × fSt)) =>
  f_X3_playByHand_L9 i0 i1 i2 a3 k4 fF x2 s1

set_option maxHeartbeats 4000000 in
set_option maxRecDepth 100000 in
theorem c_X3_playByHand (Δ : fDl) (hN : fNx Δ) (i0 : Nat) (i1 : Nat) (i2 : Nat) (a3 : Int32) (hi0 : i0 < fN Δ 3) (hi1 : i1 < fN Δ 2) (hi2 : i2 < fN Δ 8)  (st : fSt) : fMt eV Δ yX3_playByHand cX3_playByHand 5 none 4 [.ref (fad Δ 3 i0 0), .ref (fad Δ 2 i1 0), .ref (fad Δ 8 i2 1), .int a3] st (f_X3_playByHand i0 i1 i2 a3 st) := by
  unfold f_X3_playByHand
  refine r_method (by decide +kernel) (Nat.le_of_ble_eq_true rfl) (fun Γ C => ?_)
  have C : fC Δ Γ cX3_playByHand RX3 5 none 4 := C
  refine r_locs (lc' := [(0, .ref (fad Δ 3 i0 0)), (1, .ref (fad Δ 2 i1 0)), (2, .ref (fad Δ 8 i2 1)), (3, .int a3)]) [0, 1, 2, 3] rfl ?_
  refine r_aload_n (q := 1) (i := 0) (z := 0) C dX3_playByHand_0 rfl rfl rfl ?_
  refine r_aload_n (q := 2) (i := 1) (z := 1) C dX3_playByHand_1 rfl rfl rfl ?_
  refine r_iconst (q := 3) (v := (-1)) C dX3_playByHand_2 rfl (by decide) ?_
  refine r_callVV (q := 6) (As := [.ref (fad Δ 2 i1 0), .int ((-1 : Int32))]) wm_X3_36 yvX3_open (c_X3_open Δ hN i0 i1 ((-1 : Int32)) hi0 hi1 st) ⟨rfl, by decide⟩ C hi0 (by decide) rfl (Nat.le_of_ble_eq_true rfl) dX3_playByHand_3 rfl (fun _ s1 => ?_)
  refine r_iconst (q := 7) (v := 0) C dX3_playByHand_6 rfl (by decide) ?_
  refine r_istore (q := 9) (i := 4) [(0, .ref (fad Δ 3 i0 0)), (1, .ref (fad Δ 2 i1 0)), (2, .ref (fad Δ 8 i2 1)), (3, .int a3)] C dX3_playByHand_7 rfl (by decide) rfl (fun x2 => ?_)
  refine r_join (fun k4 => ∀  (s3 : fSt), fW Δ Γ 5 (fQ eV Δ Γ) 57 [] [] s3 (k4 s3)) ?_ (fun k4 hk4 => ?_)
  · intro s3
    exact r_vret C dX3_playByHand_57
  refine r_locs (lc' := [(0, .ref (fad Δ 3 i0 0)), (1, .ref (fad Δ 2 i1 0)), (2, .ref (fad Δ 8 i2 1)), (3, .int a3), (4, .int x2)]) [1, 2, 3, 4, 0] rfl ?_
  have L9 : ∀ (n7 : Nat) (x5 : Int32) (s6 : fSt), fW Δ Γ 5 (fQ eV Δ Γ) 9 [(0, .ref (fad Δ 3 i0 0)), (1, .ref (fad Δ 2 i1 0)), (2, .ref (fad Δ 8 i2 1)), (3, .int a3), (4, .int x5)] [] s6 (f_X3_playByHand_L9 i0 i1 i2 a3 k4 n7 x5 s6) := by
    intro n7
    induction n7 with
    | zero =>
      intro x5 s6
      rw [f_X3_playByHand_L9]
      exact r_none
    | succ n7 ih_n7 =>
      intro x5 s6
      rw [f_X3_playByHand_L9]
      refine r_iload (q := 11) (i := 4) (z := 4) C dX3_playByHand_9 rfl rfl ?_
      refine r_bipush (q := 13) (v := 12) C dX3_playByHand_11 rfl (by decide) ?_
      refine r_icmp_ge (q := 16) (tgt := 57) C dX3_playByHand_13 (by decide) rfl ?_ ?_
      · refine r_locs (lc' := []) [] rfl ?_
        exact hk4 s6
      · refine r_aload_n (q := 17) (i := 0) (z := 0) C dX3_playByHand_16 rfl rfl rfl ?_
        refine g_X3_40 (q := 20) C hi0 dX3_playByHand_17 rfl ?_
        refine r_iconst (q := 21) (v := (-1)) C dX3_playByHand_20 rfl (by decide) ?_
        refine r_icmp_eq (q := 24) (tgt := 57) C dX3_playByHand_21 (by decide) rfl ?_ ?_
        · refine r_locs (lc' := []) [] rfl ?_
          exact hk4 s6
        · refine r_aload_n (q := 25) (i := 0) (z := 0) C dX3_playByHand_24 rfl rfl rfl ?_
          refine r_aload_n (q := 26) (i := 1) (z := 1) C dX3_playByHand_25 rfl rfl rfl ?_
          refine r_iload (q := 28) (i := 4) (z := 4) C dX3_playByHand_26 rfl rfl ?_
          refine r_iload_n (q := 29) (i := 3) (z := 3) C dX3_playByHand_28 rfl rfl rfl ?_
          refine r_join (fun j10 => ∀ (x8 : Int32) (s9 : fSt), fW Δ Γ 5 (fQ eV Δ Γ) 48 [(0, .ref (fad Δ 3 i0 0)), (1, .ref (fad Δ 2 i1 0)), (2, .ref (fad Δ 8 i2 1)), (3, .int a3), (4, .int x5)] [.int x8, .ref (fad Δ 2 i1 0), .ref (fad Δ 3 i0 0)] s9 (j10 x8 s9)) ?_ (fun j10 hj10 => ?_)
          · intro x8 s9
            refine r_callVV (q := 51) (As := [.ref (fad Δ 2 i1 0), .int x8]) wm_X3_43 yvX3_playScene (c_X3_playScene Δ hN i0 i1 x8 hi0 hi1 s9) ⟨rfl, by decide⟩ C hi0 (by decide) rfl (Nat.le_of_ble_eq_true rfl) dX3_playByHand_48 rfl (fun _ s11 => ?_)
            refine r_iinc (q := 54) (z := 4) (d := 1) [(0, .ref (fad Δ 3 i0 0)), (1, .ref (fad Δ 2 i1 0)), (2, .ref (fad Δ 8 i2 1)), (3, .int a3)] C dX3_playByHand_51 rfl rfl (by decide) (by decide) rfl (fun x12 => ?_)
            refine r_goto (q := 9) C dX3_playByHand_54 (by decide) ?_
            refine r_locs (lc' := [(0, .ref (fad Δ 3 i0 0)), (1, .ref (fad Δ 2 i1 0)), (2, .ref (fad Δ 8 i2 1)), (3, .int a3), (4, .int x12)]) [1, 2, 3, 4, 0] rfl ?_
            exact ih_n7 x12 s11
          refine r_join (fun j14 => ∀  (s13 : fSt), fW Δ Γ 5 (fQ eV Δ Γ) 47 [(0, .ref (fad Δ 3 i0 0)), (1, .ref (fad Δ 2 i1 0)), (2, .ref (fad Δ 8 i2 1)), (3, .int a3), (4, .int x5)] [.ref (fad Δ 2 i1 0), .ref (fad Δ 3 i0 0)] s13 (j14 s13)) ?_ (fun j14 hj14 => ?_)
          · intro s13
            refine r_iconst (q := 48) (v := 0) C dX3_playByHand_47 rfl (by decide) ?_
            exact hj10 ((0 : Int32)) s13
          refine r_icmp_ge (q := 32) (tgt := 47) C dX3_playByHand_29 (by decide) rfl ?_ ?_
          · exact hj14 s6
          · refine r_iload (q := 34) (i := 4) (z := 4) C dX3_playByHand_32 rfl rfl ?_
            refine r_aload_n (q := 35) (i := 2) (z := 2) C dX3_playByHand_34 rfl rfl rfl ?_
            refine r_len (q := 36) (v := (60 : Int32)) q_8_1 (by decide) h_8_1 C hi2 rfl dX3_playByHand_35 rfl ?_
            refine r_icmp_ge (q := 39) (tgt := 47) C dX3_playByHand_36 (by decide) rfl ?_ ?_
            · exact hj14 s6
            · refine r_aload_n (q := 40) (i := 2) (z := 2) C dX3_playByHand_39 rfl rfl rfl ?_
              refine r_iload (q := 42) (i := 4) (z := 4) C dX3_playByHand_40 rfl rfl ?_
              refine r_lal (q := 43) q_8_1 h_8_1 C hi2 dX3_playByHand_42 rfl ?_
              refine r_l2i (q := 44) C dX3_playByHand_43 rfl ?_
              refine r_goto (q := 48) C dX3_playByHand_44 (by decide) ?_
              exact hj10 ((gB s6 8 i2 1 x5.toNatClampNeg).toInt32) s6
  exact L9 fF x2 s1

noncomputable def f_X3_playFor_L8 (i0 : Nat) (i1 : Nat) (a2 : Int32) (k4 : fSt → Option (Unit × fSt)) : Nat → Int32 → fSt → Option (Unit × fSt)
  | 0, _, _ => none
  | n7 + 1, x5, s6 =>
      if ((12 : Int32)) ≤ x5 then
        (k4 s6)
      else
        (if (gI s6 3 i0 4) = ((-1 : Int32)) then
          (k4 s6)
        else
          (fNn (gP s6 2 i1 0) fun y8 =>
          fBd (f_X3_drawDeed i0 y8 a2 s6) fun x9 s10 =>
          fBd (f_X3_playScene i0 i1 x9 s10) fun _ s11 =>
          fLt (x5 + (1 : Int32)) fun (x12 : Int32) =>
          f_X3_playFor_L8 i0 i1 a2 k4 n7 x12 s11))

noncomputable def f_X3_playFor (i0 : Nat) (i1 : Nat) (a2 : Int32) (st : fSt) : Option (Unit × fSt) :=
  fBd (f_X3_open i0 i1 a2 st) fun _ s1 =>
  fLt ((0 : Int32)) fun (x2 : Int32) =>
  fJn (fun (s3 : fSt) =>
    (some ((), s3))) fun (k4 : fSt → Option (Unit × fSt)) =>
  f_X3_playFor_L8 i0 i1 a2 k4 fF x2 s1

set_option maxHeartbeats 4000000 in
set_option maxRecDepth 100000 in
theorem c_X3_playFor (Δ : fDl) (hN : fNx Δ) (i0 : Nat) (i1 : Nat) (a2 : Int32) (hi0 : i0 < fN Δ 3) (hi1 : i1 < fN Δ 2)  (st : fSt) : fMt eV Δ yX3_playFor cX3_playFor 4 none 4 [.ref (fad Δ 3 i0 0), .ref (fad Δ 2 i1 0), .int a2] st (f_X3_playFor i0 i1 a2 st) := by
  unfold f_X3_playFor
  refine r_method (by decide +kernel) (Nat.le_of_ble_eq_true rfl) (fun Γ C => ?_)
  have C : fC Δ Γ cX3_playFor RX3 4 none 4 := C
  refine r_locs (lc' := [(0, .ref (fad Δ 3 i0 0)), (1, .ref (fad Δ 2 i1 0)), (2, .int a2)]) [0, 1, 2] rfl ?_
  refine r_aload_n (q := 1) (i := 0) (z := 0) C dX3_playFor_0 rfl rfl rfl ?_
  refine r_aload_n (q := 2) (i := 1) (z := 1) C dX3_playFor_1 rfl rfl rfl ?_
  refine r_iload_n (q := 3) (i := 2) (z := 2) C dX3_playFor_2 rfl rfl rfl ?_
  refine r_callVV (q := 6) (As := [.ref (fad Δ 2 i1 0), .int a2]) wm_X3_36 yvX3_open (c_X3_open Δ hN i0 i1 a2 hi0 hi1 st) ⟨rfl, by decide⟩ C hi0 (by decide) rfl (Nat.le_of_ble_eq_true rfl) dX3_playFor_3 rfl (fun _ s1 => ?_)
  refine r_iconst (q := 7) (v := 0) C dX3_playFor_6 rfl (by decide) ?_
  refine r_istore_n (q := 8) (i := 3) [(0, .ref (fad Δ 3 i0 0)), (1, .ref (fad Δ 2 i1 0)), (2, .int a2)] C dX3_playFor_7 rfl rfl (by decide) rfl (fun x2 => ?_)
  refine r_join (fun k4 => ∀  (s3 : fSt), fW Δ Γ 4 (fQ eV Δ Γ) 42 [] [] s3 (k4 s3)) ?_ (fun k4 hk4 => ?_)
  · intro s3
    exact r_vret C dX3_playFor_42
  refine r_locs (lc' := [(0, .ref (fad Δ 3 i0 0)), (1, .ref (fad Δ 2 i1 0)), (2, .int a2), (3, .int x2)]) [1, 2, 3, 0] rfl ?_
  have L8 : ∀ (n7 : Nat) (x5 : Int32) (s6 : fSt), fW Δ Γ 4 (fQ eV Δ Γ) 8 [(0, .ref (fad Δ 3 i0 0)), (1, .ref (fad Δ 2 i1 0)), (2, .int a2), (3, .int x5)] [] s6 (f_X3_playFor_L8 i0 i1 a2 k4 n7 x5 s6) := by
    intro n7
    induction n7 with
    | zero =>
      intro x5 s6
      rw [f_X3_playFor_L8]
      exact r_none
    | succ n7 ih_n7 =>
      intro x5 s6
      rw [f_X3_playFor_L8]
      refine r_iload_n (q := 9) (i := 3) (z := 3) C dX3_playFor_8 rfl rfl rfl ?_
      refine r_bipush (q := 11) (v := 12) C dX3_playFor_9 rfl (by decide) ?_
      refine r_icmp_ge (q := 14) (tgt := 42) C dX3_playFor_11 (by decide) rfl ?_ ?_
      · refine r_locs (lc' := []) [] rfl ?_
        exact hk4 s6
      · refine r_aload_n (q := 15) (i := 0) (z := 0) C dX3_playFor_14 rfl rfl rfl ?_
        refine g_X3_40 (q := 18) C hi0 dX3_playFor_15 rfl ?_
        refine r_iconst (q := 19) (v := (-1)) C dX3_playFor_18 rfl (by decide) ?_
        refine r_icmp_eq (q := 22) (tgt := 42) C dX3_playFor_19 (by decide) rfl ?_ ?_
        · refine r_locs (lc' := []) [] rfl ?_
          exact hk4 s6
        · refine r_aload_n (q := 23) (i := 0) (z := 0) C dX3_playFor_22 rfl rfl rfl ?_
          refine r_aload_n (q := 24) (i := 1) (z := 1) C dX3_playFor_23 rfl rfl rfl ?_
          refine r_aload_n (q := 25) (i := 0) (z := 0) C dX3_playFor_24 rfl rfl rfl ?_
          refine r_aload_n (q := 26) (i := 1) (z := 1) C dX3_playFor_25 rfl rfl rfl ?_
          refine g_X3_46 (q := 29) C hi1 dX3_playFor_26 rfl ?_
          refine r_deref C (fun h => (h _ hi1).1) (fun y8 hy8 => ?_)
          refine r_iload_n (q := 30) (i := 2) (z := 2) C dX3_playFor_29 rfl rfl rfl ?_
          refine r_callVI (q := 33) (As := [.ref (fad Δ 7 y8 0), .int a2]) wm_X3_52 yvX3_drawDeed (c_X3_drawDeed Δ hN i0 y8 a2 hi0 hy8 s6) ⟨rfl, by decide⟩ C hi0 (by decide) rfl (Nat.le_of_ble_eq_true rfl) dX3_playFor_30 rfl (fun x9 s10 => ?_)
          refine r_callVV (q := 36) (As := [.ref (fad Δ 2 i1 0), .int x9]) wm_X3_43 yvX3_playScene (c_X3_playScene Δ hN i0 i1 x9 hi0 hi1 s10) ⟨rfl, by decide⟩ C hi0 (by decide) rfl (Nat.le_of_ble_eq_true rfl) dX3_playFor_33 rfl (fun _ s11 => ?_)
          refine r_iinc (q := 39) (z := 3) (d := 1) [(0, .ref (fad Δ 3 i0 0)), (1, .ref (fad Δ 2 i1 0)), (2, .int a2)] C dX3_playFor_36 rfl rfl (by decide) (by decide) rfl (fun x12 => ?_)
          refine r_goto (q := 8) C dX3_playFor_39 (by decide) ?_
          refine r_locs (lc' := [(0, .ref (fad Δ 3 i0 0)), (1, .ref (fad Δ 2 i1 0)), (2, .int a2), (3, .int x12)]) [1, 2, 3, 0] rfl ?_
          exact ih_n7 x12 s11
  exact L8 fF x2 s1

noncomputable def f_X7_endSlot (i0 : Nat) (a1 : Int32) (st : fSt) : Option (Int32 × fSt) :=
  fIx a1 12 <|
  fJn (fun (x1 : Int32) (s2 : fSt) =>
    (some (x1, s2))) fun (j3 : Int32 → fSt → Option (Int32 × fSt)) =>
  if ¬ (gA st 7 i0 10 a1.toNatClampNeg) = ((-1 : Int32)) then
    (fIx a1 12 <|
    j3 (gA st 7 i0 10 a1.toNatClampNeg) st)
  else
    (j3 ((9 : Int32)) st)

set_option maxHeartbeats 4000000 in
set_option maxRecDepth 100000 in
theorem c_X7_endSlot (Δ : fDl) (hN : fNx Δ) (i0 : Nat) (a1 : Int32) (hi0 : i0 < fN Δ 7)  (st : fSt) : fMt eI Δ yX7_endSlot cX7_endSlot 2 (some .int) 1 [.ref (fad Δ 7 i0 0), .int a1] st (f_X7_endSlot i0 a1 st) := by
  unfold f_X7_endSlot
  refine r_method (by decide +kernel) (Nat.le_of_ble_eq_true rfl) (fun Γ C => ?_)
  have C : fC Δ Γ cX7_endSlot RX7 2 (some .int) 1 := C
  refine r_locs (lc' := [(0, .ref (fad Δ 7 i0 0)), (1, .int a1)]) [0, 1] rfl ?_
  refine r_aload_n (q := 1) (i := 0) (z := 0) C dX7_endSlot_0 rfl rfl rfl ?_
  refine g_X7_40 (q := 4) C hi0 dX7_endSlot_1 rfl ?_
  refine r_iload_n (q := 5) (i := 1) (z := 1) C dX7_endSlot_4 rfl rfl rfl ?_
  refine r_ial (q := 6) q_7_10 h_7_10 C hi0 dX7_endSlot_5 rfl ?_
  refine r_iconst (q := 7) (v := (-1)) C dX7_endSlot_6 rfl (by decide) ?_
  refine r_join (fun j3 => ∀ (x1 : Int32) (s2 : fSt), fW Δ Γ 2 (fQ eI Δ Γ) 21 [] [.int x1] s2 (j3 x1 s2)) ?_ (fun j3 hj3 => ?_)
  · intro x1 s2
    exact r_iret C dX7_endSlot_21
  refine r_icmp_ne (q := 10) (tgt := 15) C dX7_endSlot_7 (by decide) rfl ?_ ?_
  · refine r_aload_n (q := 16) (i := 0) (z := 0) C dX7_endSlot_15 rfl rfl rfl ?_
    refine g_X7_40 (q := 19) C hi0 dX7_endSlot_16 rfl ?_
    refine r_iload_n (q := 20) (i := 1) (z := 1) C dX7_endSlot_19 rfl rfl rfl ?_
    refine r_ial (q := 21) q_7_10 h_7_10 C hi0 dX7_endSlot_20 rfl ?_
    refine r_locs (lc' := []) [] rfl ?_
    exact hj3 (gA st 7 i0 10 a1.toNatClampNeg) st
  · refine r_bipush (q := 12) (v := 9) C dX7_endSlot_10 rfl (by decide) ?_
    refine r_goto (q := 21) C dX7_endSlot_12 (by decide) ?_
    refine r_locs (lc' := []) [] rfl ?_
    exact hj3 ((9 : Int32)) st

noncomputable def f_X4_passOn_L57 (i1 : Nat) (a2 : Int32) (a3 : Int32) (x1 : Int64) (x7 : Int32) (k12 : Int32 → fSt → Option (Unit × fSt)) : Nat → Int32 → Int32 → fSt → Option (Unit × fSt)
  | 0, _, _, _ => none
  | n23 + 1, x20, x21, s22 =>
      if ((4 : Int32)) ≤ x21 then
        (k12 x20 s22)
      else
        (fNn (gP s22 2 i1 0) fun y24 =>
        fIx ((a2 * ((4 : Int32))) + x21) 16 <|
        fLt (gA s22 7 y24 14 ((a2 * ((4 : Int32))) + x21).toNatClampNeg) fun (x25 : Int32) =>
        fBd (f_X2_onward i1 a3 x21 x7 s22) fun x26 s27 =>
        fLt x26 fun (x28 : Int32) =>
        fJn (fun (x29 : Int32) (s30 : fSt) =>
          (fLt (x21 + (1 : Int32)) fun (x32 : Int32) =>
          f_X4_passOn_L57 i1 a2 a3 x1 x7 k12 n23 x29 x32 s30)) fun (j31 : Int32 → fSt → Option (Unit × fSt)) =>
        if ¬ x28 = ((-1 : Int32)) then
          (fIx ((x28 * ((64 : Int32))) + x7) 768 <|
          fNz ((16 : Int64)) <|
          fIx ((x28 * ((64 : Int32))) + x7) 768 <|
          fLt (sB s27 4 0 1 (vp_updL (gB s27 4 0 1) ((x28 * ((64 : Int32))) + x7).toNatClampNeg ((gB s27 4 0 1 ((x28 * ((64 : Int32))) + x7).toNatClampNeg) + ((x1 / ((16 : Int64))) * x25.toInt64)))) fun s33 =>
          j31 x20 s33)
        else
          (fLt (x20 + x25) fun (x34 : Int32) =>
          j31 x34 s27))

noncomputable def f_X4_passOn (i1 : Nat) (a2 : Int32) (a3 : Int32) (a4 : Int32) (st : fSt) : Option (Unit × fSt) :=
  fIx ((a3 * ((64 : Int32))) + a4) 768 <|
  fLt (gB st 4 0 1 ((a3 * ((64 : Int32))) + a4).toNatClampNeg) fun (x1 : Int64) =>
  fIx ((a3 * ((64 : Int32))) + a4) 768 <|
  fLt (sB st 4 0 1 (vp_updL (gB st 4 0 1) ((a3 * ((64 : Int32))) + a4).toNatClampNeg ((0 : Int64)))) fun s2 =>
  fIx a3 12 <|
  fIx a3 12 <|
  fLt (sB s2 4 0 3 (vp_updL (gB s2 4 0 3) a3.toNatClampNeg ((gB s2 4 0 3 a3.toNatClampNeg) + x1))) fun s3 =>
  fNn (gP s3 2 i1 0) fun y4 =>
  fBd (f_X7_killedIn y4 a3 s3) fun x5 s6 =>
  fLt (a4 ||| x5) fun (x7 : Int32) =>
  fLt ((0 : Int32)) fun (x8 : Int32) =>
  fLt ((0 : Int32)) fun (x9 : Int32) =>
  fJn (fun (x10 : Int32) (s11 : fSt) =>
    (fNn (gP s11 2 i1 0) fun y13 =>
    fBd (f_X7_endSlot y13 a3 s11) fun x14 s15 =>
    fIx x14 10 <|
    fJn (fun (x16 : Int64) (s17 : fSt) =>
      (fIx x14 10 <|
      fLt (sB s17 4 0 2 (vp_updL (gB s17 4 0 2) x14.toNatClampNeg ((gB s15 4 0 2 x14.toNatClampNeg) + x16))) fun s19 =>
      some ((), s19))) fun (j18 : Int64 → fSt → Option (Unit × fSt)) =>
    if ¬ x10 = ((16 : Int32)) then
      (fNz ((16 : Int64)) <|
      j18 ((x1 / ((16 : Int64))) * x10.toInt64) s15)
    else
      (j18 x1 s15))) fun (k12 : Int32 → fSt → Option (Unit × fSt)) =>
  f_X4_passOn_L57 i1 a2 a3 x1 x7 k12 fF x8 x9 s6

set_option maxHeartbeats 4000000 in
set_option maxRecDepth 100000 in
theorem c_X4_passOn (Δ : fDl) (hN : fNx Δ) (i1 : Nat) (a2 : Int32) (a3 : Int32) (a4 : Int32) (hi1 : i1 < fN Δ 2)  (st : fSt) : fMt eV Δ yX4_passOn cX4_passOn 12 none 3 [.ref (fad Δ 4 0 0), .ref (fad Δ 2 i1 0), .int a2, .int a3, .int a4] st (f_X4_passOn i1 a2 a3 a4 st) := by
  unfold f_X4_passOn
  refine r_method (by decide +kernel) (Nat.le_of_ble_eq_true rfl) (fun Γ C => ?_)
  have C : fC Δ Γ cX4_passOn RX4 12 none 3 := C
  refine r_locs (lc' := [(0, .ref (fad Δ 4 0 0)), (1, .ref (fad Δ 2 i1 0)), (2, .int a2), (3, .int a3), (4, .int a4)]) [0, 1, 2, 3, 4] rfl ?_
  refine r_aload_n (q := 1) (i := 0) (z := 0) C dX4_passOn_0 rfl rfl rfl ?_
  refine g_X4_9 (q := 4) C (nk_4_0 hN) dX4_passOn_1 rfl ?_
  refine r_iload_n (q := 5) (i := 3) (z := 3) C dX4_passOn_4 rfl rfl rfl ?_
  refine r_bipush (q := 7) (v := 64) C dX4_passOn_5 rfl (by decide) ?_
  refine r_imul (q := 8) C dX4_passOn_7 rfl ?_
  refine r_iload (q := 10) (i := 4) (z := 4) C dX4_passOn_8 rfl rfl ?_
  refine r_iadd (q := 11) C dX4_passOn_10 rfl ?_
  refine r_lal (q := 12) q_4_1 h_4_1 C (nk_4_0 hN) dX4_passOn_11 rfl ?_
  refine r_lstore (q := 14) (i := 5) [(0, .ref (fad Δ 4 0 0)), (1, .ref (fad Δ 2 i1 0)), (2, .int a2), (3, .int a3), (4, .int a4)] C dX4_passOn_12 rfl (by decide) rfl (fun x1 => ?_)
  refine r_aload_n (q := 15) (i := 0) (z := 1) C dX4_passOn_14 rfl rfl rfl ?_
  refine g_X4_9 (q := 18) C (nk_4_0 hN) dX4_passOn_15 rfl ?_
  refine r_iload_n (q := 19) (i := 3) (z := 4) C dX4_passOn_18 rfl rfl rfl ?_
  refine r_bipush (q := 21) (v := 64) C dX4_passOn_19 rfl (by decide) ?_
  refine r_imul (q := 22) C dX4_passOn_21 rfl ?_
  refine r_iload (q := 24) (i := 4) (z := 5) C dX4_passOn_22 rfl rfl ?_
  refine r_iadd (q := 25) C dX4_passOn_24 rfl ?_
  refine r_lconst (q := 26) (v := 0) C dX4_passOn_25 rfl (by decide) ?_
  refine r_lst (q := 27) q_4_1 h_4_1 C (nk_4_0 hN) dX4_passOn_26 rfl (fun s2 => ?_)
  refine r_aload_n (q := 28) (i := 0) (z := 1) C dX4_passOn_27 rfl rfl rfl ?_
  refine g_X4_18 (q := 31) C (nk_4_0 hN) dX4_passOn_28 rfl ?_
  refine r_iload_n (q := 32) (i := 3) (z := 4) C dX4_passOn_31 rfl rfl rfl ?_
  refine r_dup2 (q := 33) C dX4_passOn_32 rfl rfl rfl ?_
  refine r_lal (q := 34) q_4_3 h_4_3 C (nk_4_0 hN) dX4_passOn_33 rfl ?_
  refine r_lload (q := 36) (i := 5) (z := 0) C dX4_passOn_34 rfl rfl ?_
  refine r_ladd (q := 37) C dX4_passOn_36 rfl ?_
  refine r_lst (q := 38) q_4_3 h_4_3 C (nk_4_0 hN) dX4_passOn_37 rfl (fun s3 => ?_)
  refine r_iload (q := 40) (i := 4) (z := 5) C dX4_passOn_38 rfl rfl ?_
  refine r_aload_n (q := 41) (i := 1) (z := 2) C dX4_passOn_40 rfl rfl rfl ?_
  refine g_X4_31 (q := 44) C hi1 dX4_passOn_41 rfl ?_
  refine r_deref C (fun h => (h _ hi1).1) (fun y4 hy4 => ?_)
  refine r_iload_n (q := 45) (i := 3) (z := 4) C dX4_passOn_44 rfl rfl rfl ?_
  refine r_callVI (q := 48) (As := [.int a3]) wm_X4_61 yvX7_killedIn (c_X7_killedIn Δ hN y4 a3 hy4 s3) ⟨rfl, by decide⟩ C hy4 (by decide) rfl (Nat.le_of_ble_eq_true rfl) dX4_passOn_45 rfl (fun x5 s6 => ?_)
  refine r_ior (q := 49) C dX4_passOn_48 rfl ?_
  refine r_istore (q := 51) (i := 7) [(5, .long x1), (0, .ref (fad Δ 4 0 0)), (1, .ref (fad Δ 2 i1 0)), (2, .int a2), (3, .int a3), (4, .int a4)] C dX4_passOn_49 rfl (by decide) rfl (fun x7 => ?_)
  refine r_iconst (q := 52) (v := 0) C dX4_passOn_51 rfl (by decide) ?_
  refine r_istore (q := 54) (i := 8) [(7, .int x7), (5, .long x1), (0, .ref (fad Δ 4 0 0)), (1, .ref (fad Δ 2 i1 0)), (2, .int a2), (3, .int a3), (4, .int a4)] C dX4_passOn_52 rfl (by decide) rfl (fun x8 => ?_)
  refine r_iconst (q := 55) (v := 0) C dX4_passOn_54 rfl (by decide) ?_
  refine r_istore (q := 57) (i := 9) [(8, .int x8), (7, .int x7), (5, .long x1), (0, .ref (fad Δ 4 0 0)), (1, .ref (fad Δ 2 i1 0)), (2, .int a2), (3, .int a3), (4, .int a4)] C dX4_passOn_55 rfl (by decide) rfl (fun x9 => ?_)
  refine r_join (fun k12 => ∀ (x10 : Int32) (s11 : fSt), fW Δ Γ 12 (fQ eV Δ Γ) 138 [(0, .ref (fad Δ 4 0 0)), (1, .ref (fad Δ 2 i1 0)), (3, .int a3), (5, .long x1), (8, .int x10)] [] s11 (k12 x10 s11)) ?_ (fun k12 hk12 => ?_)
  · intro x10 s11
    refine r_aload_n (q := 139) (i := 0) (z := 0) C dX4_passOn_138 rfl rfl rfl ?_
    refine g_X4_15 (q := 142) C (nk_4_0 hN) dX4_passOn_139 rfl ?_
    refine r_aload_n (q := 143) (i := 1) (z := 1) C dX4_passOn_142 rfl rfl rfl ?_
    refine g_X4_31 (q := 146) C hi1 dX4_passOn_143 rfl ?_
    refine r_deref C (fun h => (h _ hi1).1) (fun y13 hy13 => ?_)
    refine r_iload_n (q := 147) (i := 3) (z := 2) C dX4_passOn_146 rfl rfl rfl ?_
    refine r_callVI (q := 150) (As := [.int a3]) wm_X4_73 yvX7_endSlot (c_X7_endSlot Δ hN y13 a3 hy13 s11) ⟨rfl, by decide⟩ C hy13 (by decide) rfl (Nat.le_of_ble_eq_true rfl) dX4_passOn_147 rfl (fun x14 s15 => ?_)
    refine r_dup2 (q := 151) C dX4_passOn_150 rfl rfl rfl ?_
    refine r_lal (q := 152) q_4_2 h_4_2 C (nk_4_0 hN) dX4_passOn_151 rfl ?_
    refine r_iload (q := 154) (i := 8) (z := 4) C dX4_passOn_152 rfl rfl ?_
    refine r_bipush (q := 156) (v := 16) C dX4_passOn_154 rfl (by decide) ?_
    refine r_join (fun j18 => ∀ (x16 : Int64) (s17 : fSt), fW Δ Γ 12 (fQ eV Δ Γ) 174 [] [.long x16, .long (gB s15 4 0 2 x14.toNatClampNeg), .int x14, .ref (fad Δ 4 0 2)] s17 (j18 x16 s17)) ?_ (fun j18 hj18 => ?_)
    · intro x16 s17
      refine r_ladd (q := 175) C dX4_passOn_174 rfl ?_
      refine r_lst (q := 176) q_4_2 h_4_2 C (nk_4_0 hN) dX4_passOn_175 rfl (fun s19 => ?_)
      exact r_vret C dX4_passOn_176
    refine r_icmp_ne (q := 159) (tgt := 164) C dX4_passOn_156 (by decide) rfl ?_ ?_
    · refine r_lload (q := 166) (i := 5) (z := 3) C dX4_passOn_164 rfl rfl ?_
      refine r_ldc2 (q := 169) C dX4_passOn_166 rfl wl_X4_71 ?_
      refine r_ldiv (q := 170) C dX4_passOn_169 rfl ?_
      refine r_iload (q := 172) (i := 8) (z := 4) C dX4_passOn_170 rfl rfl ?_
      refine r_i2l (q := 173) C dX4_passOn_172 rfl ?_
      refine r_lmul (q := 174) C dX4_passOn_173 rfl ?_
      refine r_locs (lc' := []) [] rfl ?_
      exact hj18 ((x1 / ((16 : Int64))) * x10.toInt64) s15
    · refine r_lload (q := 161) (i := 5) (z := 3) C dX4_passOn_159 rfl rfl ?_
      refine r_goto (q := 174) C dX4_passOn_161 (by decide) ?_
      refine r_locs (lc' := []) [] rfl ?_
      exact hj18 x1 s15
  refine r_locs (lc' := [(0, .ref (fad Δ 4 0 0)), (1, .ref (fad Δ 2 i1 0)), (2, .int a2), (3, .int a3), (5, .long x1), (7, .int x7), (8, .int x8), (9, .int x9)]) [4, 5, 6, 7, 3, 2, 1, 0] rfl ?_
  have L57 : ∀ (n23 : Nat) (x20 : Int32) (x21 : Int32) (s22 : fSt), fW Δ Γ 12 (fQ eV Δ Γ) 57 [(0, .ref (fad Δ 4 0 0)), (1, .ref (fad Δ 2 i1 0)), (2, .int a2), (3, .int a3), (5, .long x1), (7, .int x7), (8, .int x20), (9, .int x21)] [] s22 (f_X4_passOn_L57 i1 a2 a3 x1 x7 k12 n23 x20 x21 s22) := by
    intro n23
    induction n23 with
    | zero =>
      intro x20 x21 s22
      rw [f_X4_passOn_L57]
      exact r_none
    | succ n23 ih_n23 =>
      intro x20 x21 s22
      rw [f_X4_passOn_L57]
      refine r_iload (q := 59) (i := 9) (z := 7) C dX4_passOn_57 rfl rfl ?_
      refine r_iconst (q := 60) (v := 4) C dX4_passOn_59 rfl (by decide) ?_
      refine r_icmp_ge (q := 63) (tgt := 138) C dX4_passOn_60 (by decide) rfl ?_ ?_
      · refine r_locs (lc' := [(0, .ref (fad Δ 4 0 0)), (1, .ref (fad Δ 2 i1 0)), (3, .int a3), (5, .long x1), (8, .int x20)]) [0, 1, 3, 4, 6] rfl ?_
        exact hk12 x20 s22
      · refine r_aload_n (q := 64) (i := 1) (z := 1) C dX4_passOn_63 rfl rfl rfl ?_
        refine g_X4_31 (q := 67) C hi1 dX4_passOn_64 rfl ?_
        refine r_deref C (fun h => (h _ hi1).1) (fun y24 hy24 => ?_)
        refine g_X4_64 (q := 70) C hy24 dX4_passOn_67 rfl ?_
        refine r_iload_n (q := 71) (i := 2) (z := 2) C dX4_passOn_70 rfl rfl rfl ?_
        refine r_iconst (q := 72) (v := 4) C dX4_passOn_71 rfl (by decide) ?_
        refine r_imul (q := 73) C dX4_passOn_72 rfl ?_
        refine r_iload (q := 75) (i := 9) (z := 7) C dX4_passOn_73 rfl rfl ?_
        refine r_iadd (q := 76) C dX4_passOn_75 rfl ?_
        refine r_ial (q := 77) q_7_14 h_7_14 C hy24 dX4_passOn_76 rfl ?_
        refine r_istore (q := 79) (i := 10) [(0, .ref (fad Δ 4 0 0)), (1, .ref (fad Δ 2 i1 0)), (2, .int a2), (3, .int a3), (5, .long x1), (7, .int x7), (8, .int x20), (9, .int x21)] C dX4_passOn_77 rfl (by decide) rfl (fun x25 => ?_)
        refine r_aload_n (q := 80) (i := 1) (z := 2) C dX4_passOn_79 rfl rfl rfl ?_
        refine r_iload_n (q := 81) (i := 3) (z := 4) C dX4_passOn_80 rfl rfl rfl ?_
        refine r_iload (q := 83) (i := 9) (z := 8) C dX4_passOn_81 rfl rfl ?_
        refine r_iload (q := 85) (i := 7) (z := 6) C dX4_passOn_83 rfl rfl ?_
        refine r_callVI (q := 88) (As := [.int a3, .int x21, .int x7]) wm_X4_67 yvX2_onward (c_X2_onward Δ hN i1 a3 x21 x7 hi1 s22) ⟨rfl, by decide⟩ C hi1 (by decide) rfl (Nat.le_of_ble_eq_true rfl) dX4_passOn_85 rfl (fun x26 s27 => ?_)
        refine r_istore (q := 90) (i := 11) [(10, .int x25), (0, .ref (fad Δ 4 0 0)), (1, .ref (fad Δ 2 i1 0)), (2, .int a2), (3, .int a3), (5, .long x1), (7, .int x7), (8, .int x20), (9, .int x21)] C dX4_passOn_88 rfl (by decide) rfl (fun x28 => ?_)
        refine r_iload (q := 92) (i := 11) (z := 0) C dX4_passOn_90 rfl rfl ?_
        refine r_iconst (q := 93) (v := (-1)) C dX4_passOn_92 rfl (by decide) ?_
        refine r_join (fun j31 => ∀ (x29 : Int32) (s30 : fSt), fW Δ Γ 12 (fQ eV Δ Γ) 132 [(0, .ref (fad Δ 4 0 0)), (1, .ref (fad Δ 2 i1 0)), (2, .int a2), (3, .int a3), (5, .long x1), (7, .int x7), (8, .int x29), (9, .int x21)] [] s30 (j31 x29 s30)) ?_ (fun j31 hj31 => ?_)
        · intro x29 s30
          refine r_iinc (q := 135) (z := 7) (d := 1) [(0, .ref (fad Δ 4 0 0)), (1, .ref (fad Δ 2 i1 0)), (2, .int a2), (3, .int a3), (5, .long x1), (7, .int x7), (8, .int x29)] C dX4_passOn_132 rfl rfl (by decide) (by decide) rfl (fun x32 => ?_)
          refine r_goto (q := 57) C dX4_passOn_135 (by decide) ?_
          refine r_locs (lc' := [(0, .ref (fad Δ 4 0 0)), (1, .ref (fad Δ 2 i1 0)), (2, .int a2), (3, .int a3), (5, .long x1), (7, .int x7), (8, .int x29), (9, .int x32)]) [1, 2, 3, 4, 5, 6, 7, 0] rfl ?_
          exact ih_n23 x29 x32 s30
        refine r_icmp_ne (q := 96) (tgt := 106) C dX4_passOn_93 (by decide) rfl ?_ ?_
        · refine r_aload_n (q := 107) (i := 0) (z := 2) C dX4_passOn_106 rfl rfl rfl ?_
          refine g_X4_9 (q := 110) C (nk_4_0 hN) dX4_passOn_107 rfl ?_
          refine r_iload (q := 112) (i := 11) (z := 0) C dX4_passOn_110 rfl rfl ?_
          refine r_bipush (q := 114) (v := 64) C dX4_passOn_112 rfl (by decide) ?_
          refine r_imul (q := 115) C dX4_passOn_114 rfl ?_
          refine r_iload (q := 117) (i := 7) (z := 7) C dX4_passOn_115 rfl rfl ?_
          refine r_iadd (q := 118) C dX4_passOn_117 rfl ?_
          refine r_dup2 (q := 119) C dX4_passOn_118 rfl rfl rfl ?_
          refine r_lal (q := 120) q_4_1 h_4_1 C (nk_4_0 hN) dX4_passOn_119 rfl ?_
          refine r_lload (q := 122) (i := 5) (z := 6) C dX4_passOn_120 rfl rfl ?_
          refine r_ldc2 (q := 125) C dX4_passOn_122 rfl wl_X4_71 ?_
          refine r_ldiv (q := 126) C dX4_passOn_125 rfl ?_
          refine r_iload (q := 128) (i := 10) (z := 1) C dX4_passOn_126 rfl rfl ?_
          refine r_i2l (q := 129) C dX4_passOn_128 rfl ?_
          refine r_lmul (q := 130) C dX4_passOn_129 rfl ?_
          refine r_ladd (q := 131) C dX4_passOn_130 rfl ?_
          refine r_lst (q := 132) q_4_1 h_4_1 C (nk_4_0 hN) dX4_passOn_131 rfl (fun s33 => ?_)
          refine r_locs (lc' := [(0, .ref (fad Δ 4 0 0)), (1, .ref (fad Δ 2 i1 0)), (2, .int a2), (3, .int a3), (5, .long x1), (7, .int x7), (8, .int x20), (9, .int x21)]) [2, 3, 4, 5, 6, 7, 8, 9] rfl ?_
          exact hj31 x20 s33
        · refine r_iload (q := 98) (i := 8) (z := 8) C dX4_passOn_96 rfl rfl ?_
          refine r_iload (q := 100) (i := 10) (z := 1) C dX4_passOn_98 rfl rfl ?_
          refine r_iadd (q := 101) C dX4_passOn_100 rfl ?_
          refine r_istore (q := 103) (i := 8) [(11, .int x28), (10, .int x25), (0, .ref (fad Δ 4 0 0)), (1, .ref (fad Δ 2 i1 0)), (2, .int a2), (3, .int a3), (5, .long x1), (7, .int x7), (9, .int x21)] C dX4_passOn_101 rfl (by decide) rfl (fun x34 => ?_)
          refine r_goto (q := 132) C dX4_passOn_103 (by decide) ?_
          refine r_locs (lc' := [(0, .ref (fad Δ 4 0 0)), (1, .ref (fad Δ 2 i1 0)), (2, .int a2), (3, .int a3), (5, .long x1), (7, .int x7), (8, .int x34), (9, .int x21)]) [3, 4, 5, 6, 7, 8, 0, 9] rfl ?_
          exact hj31 x34 s27
  exact L57 fF x8 x9 s6

noncomputable def f_X4_spread_L51 (i1 : Nat) (a2 : Int32) (x7 : Int32) (k12 : fSt → Option (Unit × fSt)) : Nat → Int32 → fSt → Option (Unit × fSt)
  | 0, _, _ => none
  | n16 + 1, x14, s15 =>
      if ((64 : Int32)) ≤ x14 then
                (k12 s15)
              else
                (fIx ((x7 * ((64 : Int32))) + x14) 768 <|
                fJn (fun (s17 : fSt) =>
                  (fLt (x14 + (1 : Int32)) fun (x19 : Int32) =>
                  f_X4_spread_L51 i1 a2 x7 k12 n16 x19 s17)) fun (j18 : fSt → Option (Unit × fSt)) =>
                if (lg_cmp (gB s15 4 0 1 ((x7 * ((64 : Int32))) + x14).toNatClampNeg) ((0 : Int64))) = 0 then
                  (j18 s15)
                else
                  (fBd (f_X4_passOn i1 a2 x7 x14 s15) fun _ s20 =>
                  j18 s20))

noncomputable def f_X4_spread_L43 (i1 : Nat) (a2 : Int32) : Nat → Int32 → fSt → Option (Unit × fSt)
  | 0, _, _ => none
  | n9 + 1, x7, s8 =>
      if x7 < 0 then
          (some ((), s8))
        else
          (fLt ((0 : Int32)) fun (x10 : Int32) =>
          fJn (fun (s11 : fSt) =>
            (fLt (x7 + (-1 : Int32)) fun (x13 : Int32) =>
            f_X4_spread_L43 i1 a2 n9 x13 s11)) fun (k12 : fSt → Option (Unit × fSt)) =>
          f_X4_spread_L51 i1 a2 x7 k12 fF x10 s8)

noncomputable def f_X4_spread (i1 : Nat) (a2 : Int32) (a3 : Int64) (a5 : Int32) (st : fSt) : Option (Unit × fSt) :=
  fLt (sL st 4 0 3 ((gL st 4 0 3) + a3)) fun s1 =>
  fBd (f_X2_opening i1 a5 s1) fun x2 s3 =>
  fLt x2 fun (x4 : Int32) =>
  if ¬ x4 = ((-1 : Int32)) then
    (fIx ((x4 * ((64 : Int32))) + a5) 768 <|
    fLt (sB s3 4 0 1 (vp_updL (gB s3 4 0 1) ((x4 * ((64 : Int32))) + a5).toNatClampNeg a3)) fun s5 =>
    fLt x4 fun (x6 : Int32) =>
    f_X4_spread_L43 i1 a2 fF x6 s5)
  else
    (some ((), s3))

set_option maxHeartbeats 4000000 in
set_option maxRecDepth 100000 in
theorem c_X4_spread (Δ : fDl) (hN : fNx Δ) (i1 : Nat) (a2 : Int32) (a3 : Int64) (a5 : Int32) (hi1 : i1 < fN Δ 2)  (st : fSt) : fMt eV Δ yX4_spread cX4_spread 9 none 4 [.ref (fad Δ 4 0 0), .ref (fad Δ 2 i1 0), .int a2, .long a3, .int a5] st (f_X4_spread i1 a2 a3 a5 st) := by
  unfold f_X4_spread
  refine r_method (by decide +kernel) (Nat.le_of_ble_eq_true rfl) (fun Γ C => ?_)
  have C : fC Δ Γ cX4_spread RX4 9 none 4 := C
  refine r_locs (lc' := [(0, .ref (fad Δ 4 0 0)), (1, .ref (fad Δ 2 i1 0)), (2, .int a2), (3, .long a3), (5, .int a5)]) [0, 1, 2, 3, 4] rfl ?_
  refine r_aload_n (q := 1) (i := 0) (z := 0) C dX4_spread_0 rfl rfl rfl ?_
  refine r_dup (q := 2) C dX4_spread_1 rfl rfl ?_
  refine g_X4_27 (q := 5) C (nk_4_0 hN) dX4_spread_2 rfl ?_
  refine r_lload_n (q := 6) (i := 3) (z := 3) C dX4_spread_5 rfl rfl rfl ?_
  refine r_ladd (q := 7) C dX4_spread_6 rfl ?_
  refine p_X4_27 (q := 10) C (nk_4_0 hN) dX4_spread_7 rfl (fun s1 => ?_)
  refine r_aload_n (q := 11) (i := 1) (z := 1) C dX4_spread_10 rfl rfl rfl ?_
  refine r_iload (q := 13) (i := 5) (z := 4) C dX4_spread_11 rfl rfl ?_
  refine r_callVI (q := 16) (As := [.int a5]) wm_X4_53 yvX2_opening (c_X2_opening Δ hN i1 a5 hi1 s1) ⟨rfl, by decide⟩ C hi1 (by decide) rfl (Nat.le_of_ble_eq_true rfl) dX4_spread_13 rfl (fun x2 s3 => ?_)
  refine r_istore (q := 18) (i := 6) [(0, .ref (fad Δ 4 0 0)), (1, .ref (fad Δ 2 i1 0)), (2, .int a2), (3, .long a3), (5, .int a5)] C dX4_spread_16 rfl (by decide) rfl (fun x4 => ?_)
  refine r_iload (q := 20) (i := 6) (z := 0) C dX4_spread_18 rfl rfl ?_
  refine r_iconst (q := 21) (v := (-1)) C dX4_spread_20 rfl (by decide) ?_
  refine r_icmp_ne (q := 24) (tgt := 25) C dX4_spread_21 (by decide) rfl ?_ ?_
  · refine r_aload_n (q := 26) (i := 0) (z := 1) C dX4_spread_25 rfl rfl rfl ?_
    refine g_X4_9 (q := 29) C (nk_4_0 hN) dX4_spread_26 rfl ?_
    refine r_iload (q := 31) (i := 6) (z := 0) C dX4_spread_29 rfl rfl ?_
    refine r_bipush (q := 33) (v := 64) C dX4_spread_31 rfl (by decide) ?_
    refine r_imul (q := 34) C dX4_spread_33 rfl ?_
    refine r_iload (q := 36) (i := 5) (z := 5) C dX4_spread_34 rfl rfl ?_
    refine r_iadd (q := 37) C dX4_spread_36 rfl ?_
    refine r_lload_n (q := 38) (i := 3) (z := 4) C dX4_spread_37 rfl rfl rfl ?_
    refine r_lst (q := 39) q_4_1 h_4_1 C (nk_4_0 hN) dX4_spread_38 rfl (fun s5 => ?_)
    refine r_iload (q := 41) (i := 6) (z := 0) C dX4_spread_39 rfl rfl ?_
    refine r_istore (q := 43) (i := 7) [(6, .int x4), (0, .ref (fad Δ 4 0 0)), (1, .ref (fad Δ 2 i1 0)), (2, .int a2), (3, .long a3), (5, .int a5)] C dX4_spread_41 rfl (by decide) rfl (fun x6 => ?_)
    refine r_locs (lc' := [(0, .ref (fad Δ 4 0 0)), (1, .ref (fad Δ 2 i1 0)), (2, .int a2), (7, .int x6)]) [2, 3, 4, 0] rfl ?_
    have L43 : ∀ (n9 : Nat) (x7 : Int32) (s8 : fSt), fW Δ Γ 9 (fQ eV Δ Γ) 43 [(0, .ref (fad Δ 4 0 0)), (1, .ref (fad Δ 2 i1 0)), (2, .int a2), (7, .int x7)] [] s8 (f_X4_spread_L43 i1 a2 n9 x7 s8) := by
      intro n9
      induction n9 with
      | zero =>
        intro x7 s8
        rw [f_X4_spread_L43]
        exact r_none
      | succ n9 ih_n9 =>
        intro x7 s8
        rw [f_X4_spread_L43]
        refine r_iload (q := 45) (i := 7) (z := 3) C dX4_spread_43 rfl rfl ?_
        refine r_if_lt (q := 48) (tgt := 98) C dX4_spread_45 (by decide) rfl ?_ ?_
        · exact r_vret C dX4_spread_98
        · refine r_iconst (q := 49) (v := 0) C dX4_spread_48 rfl (by decide) ?_
          refine r_istore (q := 51) (i := 8) [(0, .ref (fad Δ 4 0 0)), (1, .ref (fad Δ 2 i1 0)), (2, .int a2), (7, .int x7)] C dX4_spread_49 rfl (by decide) rfl (fun x10 => ?_)
          refine r_join (fun k12 => ∀  (s11 : fSt), fW Δ Γ 9 (fQ eV Δ Γ) 92 [(0, .ref (fad Δ 4 0 0)), (1, .ref (fad Δ 2 i1 0)), (2, .int a2), (7, .int x7)] [] s11 (k12 s11)) ?_ (fun k12 hk12 => ?_)
          · intro s11
            refine r_iinc (q := 95) (z := 3) (d := (-1)) [(0, .ref (fad Δ 4 0 0)), (1, .ref (fad Δ 2 i1 0)), (2, .int a2)] C dX4_spread_92 rfl rfl (by decide) (by decide) rfl (fun x13 => ?_)
            refine r_goto (q := 43) C dX4_spread_95 (by decide) ?_
            refine r_locs (lc' := [(0, .ref (fad Δ 4 0 0)), (1, .ref (fad Δ 2 i1 0)), (2, .int a2), (7, .int x13)]) [1, 2, 3, 0] rfl ?_
            exact ih_n9 x13 s11
          refine r_locs (lc' := [(0, .ref (fad Δ 4 0 0)), (1, .ref (fad Δ 2 i1 0)), (2, .int a2), (7, .int x7), (8, .int x10)]) [1, 2, 3, 4, 0] rfl ?_
          have L51 : ∀ (n16 : Nat) (x14 : Int32) (s15 : fSt), fW Δ Γ 9 (fQ eV Δ Γ) 51 [(0, .ref (fad Δ 4 0 0)), (1, .ref (fad Δ 2 i1 0)), (2, .int a2), (7, .int x7), (8, .int x14)] [] s15 (f_X4_spread_L51 i1 a2 x7 k12 n16 x14 s15) := by
            intro n16
            induction n16 with
            | zero =>
              intro x14 s15
              rw [f_X4_spread_L51]
              exact r_none
            | succ n16 ih_n16 =>
              intro x14 s15
              rw [f_X4_spread_L51]
              refine r_iload (q := 53) (i := 8) (z := 4) C dX4_spread_51 rfl rfl ?_
              refine r_bipush (q := 55) (v := 64) C dX4_spread_53 rfl (by decide) ?_
              refine r_icmp_ge (q := 58) (tgt := 92) C dX4_spread_55 (by decide) rfl ?_ ?_
              · refine r_locs (lc' := [(0, .ref (fad Δ 4 0 0)), (1, .ref (fad Δ 2 i1 0)), (2, .int a2), (7, .int x7)]) [0, 1, 2, 3] rfl ?_
                exact hk12 s15
              · refine r_aload_n (q := 59) (i := 0) (z := 0) C dX4_spread_58 rfl rfl rfl ?_
                refine g_X4_9 (q := 62) C (nk_4_0 hN) dX4_spread_59 rfl ?_
                refine r_iload (q := 64) (i := 7) (z := 3) C dX4_spread_62 rfl rfl ?_
                refine r_bipush (q := 66) (v := 64) C dX4_spread_64 rfl (by decide) ?_
                refine r_imul (q := 67) C dX4_spread_66 rfl ?_
                refine r_iload (q := 69) (i := 8) (z := 4) C dX4_spread_67 rfl rfl ?_
                refine r_iadd (q := 70) C dX4_spread_69 rfl ?_
                refine r_lal (q := 71) q_4_1 h_4_1 C (nk_4_0 hN) dX4_spread_70 rfl ?_
                refine r_lconst (q := 72) (v := 0) C dX4_spread_71 rfl (by decide) ?_
                refine r_lcmp (q := 73) C dX4_spread_72 rfl ?_
                refine r_join (fun j18 => ∀  (s17 : fSt), fW Δ Γ 9 (fQ eV Δ Γ) 86 [(0, .ref (fad Δ 4 0 0)), (1, .ref (fad Δ 2 i1 0)), (2, .int a2), (7, .int x7), (8, .int x14)] [] s17 (j18 s17)) ?_ (fun j18 hj18 => ?_)
                · intro s17
                  refine r_iinc (q := 89) (z := 4) (d := 1) [(0, .ref (fad Δ 4 0 0)), (1, .ref (fad Δ 2 i1 0)), (2, .int a2), (7, .int x7)] C dX4_spread_86 rfl rfl (by decide) (by decide) rfl (fun x19 => ?_)
                  refine r_goto (q := 51) C dX4_spread_89 (by decide) ?_
                  refine r_locs (lc' := [(0, .ref (fad Δ 4 0 0)), (1, .ref (fad Δ 2 i1 0)), (2, .int a2), (7, .int x7), (8, .int x19)]) [1, 2, 3, 4, 0] rfl ?_
                  exact ih_n16 x19 s17
                refine r_if_eq (q := 76) (tgt := 86) C dX4_spread_73 (by decide) rfl ?_ ?_
                · exact hj18 s15
                · refine r_aload_n (q := 77) (i := 0) (z := 0) C dX4_spread_76 rfl rfl rfl ?_
                  refine r_aload_n (q := 78) (i := 1) (z := 1) C dX4_spread_77 rfl rfl rfl ?_
                  refine r_iload_n (q := 79) (i := 2) (z := 2) C dX4_spread_78 rfl rfl rfl ?_
                  refine r_iload (q := 81) (i := 7) (z := 3) C dX4_spread_79 rfl rfl ?_
                  refine r_iload (q := 83) (i := 8) (z := 4) C dX4_spread_81 rfl rfl ?_
                  refine r_callVV (q := 86) (As := [.ref (fad Δ 2 i1 0), .int a2, .int x7, .int x14]) wm_X4_57 yvX4_passOn (c_X4_passOn Δ hN i1 a2 x7 x14 hi1 s15) ⟨rfl, by decide⟩ C (nk_4_0 hN) (by decide) rfl (Nat.le_of_ble_eq_true rfl) dX4_spread_83 rfl (fun _ s20 => ?_)
                  exact hj18 s20
          exact L51 fF x10 s8
    exact L43 fF x6 s5
  · exact r_vret C dX4_spread_24

noncomputable def f_X4_gather_L24 (i1 : Nat) (a2 : Int32) (a3 : Int32) : Nat → Int32 → fSt → Option (Unit × fSt)
  | 0, _, _ => none
  | n7 + 1, x5, s6 =>
      fNn (gP s6 2 i1 0) fun y8 =>
      if (gI s6 7 y8 3) ≤ x5 then
        (some ((), s6))
      else
        (fJn (fun (s9 : fSt) =>
          (fLt (x5 + (1 : Int32)) fun (x11 : Int32) =>
          f_X4_gather_L24 i1 a2 a3 n7 x11 s9)) fun (j10 : fSt → Option (Unit × fSt)) =>
        if ¬ a2 = ((-1 : Int32)) then
          (if ¬ a2 = x5 then
            (j10 s6)
          else
            (fBd (f_X4_spread i1 x5 ((17592186044416 : Int64)) a3 s6) fun _ s12 =>
            j10 s12))
        else
          (fNn (gP s6 2 i1 0) fun y13 =>
          fIx x5 4 <|
          fBd (f_X4_spread i1 x5 (((gA s6 7 y13 13 x5.toNatClampNeg).toInt64) * ((17592186044416 : Int64))) a3 s6) fun _ s14 =>
          j10 s14))

noncomputable def f_X4_gather (i1 : Nat) (a2 : Int32) (a3 : Int32) (st : fSt) : Option (Unit × fSt) :=
  fBd (f_J7_fill_d0a16 4 0 2 10 ((0 : Int64)) st) fun _ s1 =>
  fBd (f_J7_fill_d0a16 4 0 3 12 ((0 : Int64)) s1) fun _ s2 =>
  fLt (sL s2 4 0 3 ((0 : Int64))) fun s3 =>
  fLt ((0 : Int32)) fun (x4 : Int32) =>
  f_X4_gather_L24 i1 a2 a3 fF x4 s3

set_option maxHeartbeats 4000000 in
set_option maxRecDepth 100000 in
theorem c_X4_gather (Δ : fDl) (hN : fNx Δ) (i1 : Nat) (a2 : Int32) (a3 : Int32) (hi1 : i1 < fN Δ 2)  (st : fSt) : fMt eV Δ yX4_gather cX4_gather 5 none 5 [.ref (fad Δ 4 0 0), .ref (fad Δ 2 i1 0), .int a2, .int a3] st (f_X4_gather i1 a2 a3 st) := by
  unfold f_X4_gather
  refine r_method (by decide +kernel) (Nat.le_of_ble_eq_true rfl) (fun Γ C => ?_)
  have C : fC Δ Γ cX4_gather RX4 5 none 5 := C
  refine r_locs (lc' := [(0, .ref (fad Δ 4 0 0)), (1, .ref (fad Δ 2 i1 0)), (2, .int a2), (3, .int a3)]) [0, 1, 2, 3] rfl ?_
  refine r_aload_n (q := 1) (i := 0) (z := 0) C dX4_gather_0 rfl rfl rfl ?_
  refine g_X4_15 (q := 4) C (nk_4_0 hN) dX4_gather_1 rfl ?_
  refine r_lconst (q := 5) (v := 0) C dX4_gather_4 rfl (by decide) ?_
  refine r_callSV (q := 8) (As := [.ref (fad Δ 4 0 2), .long ((0 : Int64))]) wm_X4_21 ysJ7_fill_d0a16 (c_J7_fill_d0a16 Δ 4 0 2 10 ((0 : Int64)) q_4_2 h_4_2 (nk_4_0 hN) st) C (by decide) rfl (Nat.le_of_ble_eq_true rfl) dX4_gather_5 rfl (fun _ s1 => ?_)
  refine r_aload_n (q := 9) (i := 0) (z := 0) C dX4_gather_8 rfl rfl rfl ?_
  refine g_X4_18 (q := 12) C (nk_4_0 hN) dX4_gather_9 rfl ?_
  refine r_lconst (q := 13) (v := 0) C dX4_gather_12 rfl (by decide) ?_
  refine r_callSV (q := 16) (As := [.ref (fad Δ 4 0 3), .long ((0 : Int64))]) wm_X4_21 ysJ7_fill_d0a16 (c_J7_fill_d0a16 Δ 4 0 3 12 ((0 : Int64)) q_4_3 h_4_3 (nk_4_0 hN) s1) C (by decide) rfl (Nat.le_of_ble_eq_true rfl) dX4_gather_13 rfl (fun _ s2 => ?_)
  refine r_aload_n (q := 17) (i := 0) (z := 0) C dX4_gather_16 rfl rfl rfl ?_
  refine r_lconst (q := 18) (v := 0) C dX4_gather_17 rfl (by decide) ?_
  refine p_X4_27 (q := 21) C (nk_4_0 hN) dX4_gather_18 rfl (fun s3 => ?_)
  refine r_iconst (q := 22) (v := 0) C dX4_gather_21 rfl (by decide) ?_
  refine r_istore (q := 24) (i := 4) [(0, .ref (fad Δ 4 0 0)), (1, .ref (fad Δ 2 i1 0)), (2, .int a2), (3, .int a3)] C dX4_gather_22 rfl (by decide) rfl (fun x4 => ?_)
  refine r_locs (lc' := [(0, .ref (fad Δ 4 0 0)), (1, .ref (fad Δ 2 i1 0)), (2, .int a2), (3, .int a3), (4, .int x4)]) [1, 2, 3, 4, 0] rfl ?_
  have L24 : ∀ (n7 : Nat) (x5 : Int32) (s6 : fSt), fW Δ Γ 5 (fQ eV Δ Γ) 24 [(0, .ref (fad Δ 4 0 0)), (1, .ref (fad Δ 2 i1 0)), (2, .int a2), (3, .int a3), (4, .int x5)] [] s6 (f_X4_gather_L24 i1 a2 a3 n7 x5 s6) := by
    intro n7
    induction n7 with
    | zero =>
      intro x5 s6
      rw [f_X4_gather_L24]
      exact r_none
    | succ n7 ih_n7 =>
      intro x5 s6
      rw [f_X4_gather_L24]
      refine r_iload (q := 26) (i := 4) (z := 4) C dX4_gather_24 rfl rfl ?_
      refine r_aload_n (q := 27) (i := 1) (z := 1) C dX4_gather_26 rfl rfl rfl ?_
      refine g_X4_31 (q := 30) C hi1 dX4_gather_27 rfl ?_
      refine r_deref C (fun h => (h _ hi1).1) (fun y8 hy8 => ?_)
      refine g_X4_37 (q := 33) C hy8 dX4_gather_30 rfl ?_
      refine r_icmp_ge (q := 36) (tgt := 90) C dX4_gather_33 (by decide) rfl ?_ ?_
      · exact r_vret C dX4_gather_90
      · refine r_iload_n (q := 37) (i := 2) (z := 2) C dX4_gather_36 rfl rfl rfl ?_
        refine r_iconst (q := 38) (v := (-1)) C dX4_gather_37 rfl (by decide) ?_
        refine r_join (fun j10 => ∀  (s9 : fSt), fW Δ Γ 5 (fQ eV Δ Γ) 84 [(0, .ref (fad Δ 4 0 0)), (1, .ref (fad Δ 2 i1 0)), (2, .int a2), (3, .int a3), (4, .int x5)] [] s9 (j10 s9)) ?_ (fun j10 hj10 => ?_)
        · intro s9
          refine r_iinc (q := 87) (z := 4) (d := 1) [(0, .ref (fad Δ 4 0 0)), (1, .ref (fad Δ 2 i1 0)), (2, .int a2), (3, .int a3)] C dX4_gather_84 rfl rfl (by decide) (by decide) rfl (fun x11 => ?_)
          refine r_goto (q := 24) C dX4_gather_87 (by decide) ?_
          refine r_locs (lc' := [(0, .ref (fad Δ 4 0 0)), (1, .ref (fad Δ 2 i1 0)), (2, .int a2), (3, .int a3), (4, .int x11)]) [1, 2, 3, 4, 0] rfl ?_
          exact ih_n7 x11 s9
        refine r_icmp_ne (q := 41) (tgt := 67) C dX4_gather_38 (by decide) rfl ?_ ?_
        · refine r_iload_n (q := 68) (i := 2) (z := 2) C dX4_gather_67 rfl rfl rfl ?_
          refine r_iload (q := 70) (i := 4) (z := 4) C dX4_gather_68 rfl rfl ?_
          refine r_icmp_ne (q := 73) (tgt := 84) C dX4_gather_70 (by decide) rfl ?_ ?_
          · exact hj10 s6
          · refine r_aload_n (q := 74) (i := 0) (z := 0) C dX4_gather_73 rfl rfl rfl ?_
            refine r_aload_n (q := 75) (i := 1) (z := 1) C dX4_gather_74 rfl rfl rfl ?_
            refine r_iload (q := 77) (i := 4) (z := 4) C dX4_gather_75 rfl rfl ?_
            refine r_ldc2 (q := 80) C dX4_gather_77 rfl wl_X4_47 ?_
            refine r_iload_n (q := 81) (i := 3) (z := 3) C dX4_gather_80 rfl rfl rfl ?_
            refine r_callVV (q := 84) (As := [.ref (fad Δ 2 i1 0), .int x5, .long ((17592186044416 : Int64)), .int a3]) wm_X4_49 yvX4_spread (c_X4_spread Δ hN i1 x5 ((17592186044416 : Int64)) a3 hi1 s6) ⟨rfl, by decide⟩ C (nk_4_0 hN) (by decide) rfl (Nat.le_of_ble_eq_true rfl) dX4_gather_81 rfl (fun _ s12 => ?_)
            exact hj10 s12
        · refine r_aload_n (q := 42) (i := 0) (z := 0) C dX4_gather_41 rfl rfl rfl ?_
          refine r_aload_n (q := 43) (i := 1) (z := 1) C dX4_gather_42 rfl rfl rfl ?_
          refine r_iload (q := 45) (i := 4) (z := 4) C dX4_gather_43 rfl rfl ?_
          refine r_aload_n (q := 46) (i := 1) (z := 1) C dX4_gather_45 rfl rfl rfl ?_
          refine g_X4_31 (q := 49) C hi1 dX4_gather_46 rfl ?_
          refine r_deref C (fun h => (h _ hi1).1) (fun y13 hy13 => ?_)
          refine g_X4_43 (q := 52) C hy13 dX4_gather_49 rfl ?_
          refine r_iload (q := 54) (i := 4) (z := 4) C dX4_gather_52 rfl rfl ?_
          refine r_ial (q := 55) q_7_13 h_7_13 C hy13 dX4_gather_54 rfl ?_
          refine r_i2l (q := 56) C dX4_gather_55 rfl ?_
          refine r_ldc2 (q := 59) C dX4_gather_56 rfl wl_X4_47 ?_
          refine r_lmul (q := 60) C dX4_gather_59 rfl ?_
          refine r_iload_n (q := 61) (i := 3) (z := 3) C dX4_gather_60 rfl rfl rfl ?_
          refine r_callVV (q := 64) (As := [.ref (fad Δ 2 i1 0), .int x5, .long (((gA s6 7 y13 13 x5.toNatClampNeg).toInt64) * ((17592186044416 : Int64))), .int a3]) wm_X4_49 yvX4_spread (c_X4_spread Δ hN i1 x5 (((gA s6 7 y13 13 x5.toNatClampNeg).toInt64) * ((17592186044416 : Int64))) a3 hi1 s6) ⟨rfl, by decide⟩ C (nk_4_0 hN) (by decide) rfl (Nat.le_of_ble_eq_true rfl) dX4_gather_61 rfl (fun _ s14 => ?_)
          refine r_goto (q := 84) C dX4_gather_64 (by decide) ?_
          exact hj10 s14
  exact L24 fF x4 s3

noncomputable def f_X4_breathsInAll_L5 (i1 : Nat) : Nat → Int64 → Int32 → fSt → Option (Int64 × fSt)
  | 0, _, _, _ => none
  | n6 + 1, x3, x4, s5 =>
      if (gI s5 7 i1 2) ≤ x4 then
        (some (x3, s5))
      else
        (fIx x4 12 <|
        fBd (f_X7_breathsOfScene i1 x4 s5) fun x7 s8 =>
        fLt (x3 + ((gB s5 4 0 3 x4.toNatClampNeg) * x7.toInt64)) fun (x9 : Int64) =>
        fLt (x4 + (1 : Int32)) fun (x10 : Int32) =>
        f_X4_breathsInAll_L5 i1 n6 x9 x10 s8)

noncomputable def f_X4_breathsInAll (i1 : Nat) (st : fSt) : Option (Int64 × fSt) :=
  fLt ((0 : Int64)) fun (x1 : Int64) =>
  fLt ((0 : Int32)) fun (x2 : Int32) =>
  f_X4_breathsInAll_L5 i1 fF x1 x2 st

set_option maxHeartbeats 4000000 in
set_option maxRecDepth 100000 in
theorem c_X4_breathsInAll (Δ : fDl) (hN : fNx Δ) (i1 : Nat) (hi1 : i1 < fN Δ 7)  (st : fSt) : fMt eL Δ yX4_breathsInAll cX4_breathsInAll 5 (some .long) 3 [.ref (fad Δ 4 0 0), .ref (fad Δ 7 i1 0)] st (f_X4_breathsInAll i1 st) := by
  unfold f_X4_breathsInAll
  refine r_method (by decide +kernel) (Nat.le_of_ble_eq_true rfl) (fun Γ C => ?_)
  have C : fC Δ Γ cX4_breathsInAll RX4 5 (some .long) 3 := C
  refine r_locs (lc' := [(0, .ref (fad Δ 4 0 0)), (1, .ref (fad Δ 7 i1 0))]) [0, 1] rfl ?_
  refine r_lconst (q := 1) (v := 0) C dX4_breathsInAll_0 rfl (by decide) ?_
  refine r_lstore_n (q := 2) (i := 2) [(0, .ref (fad Δ 4 0 0)), (1, .ref (fad Δ 7 i1 0))] C dX4_breathsInAll_1 rfl rfl (by decide) rfl (fun x1 => ?_)
  refine r_iconst (q := 3) (v := 0) C dX4_breathsInAll_2 rfl (by decide) ?_
  refine r_istore (q := 5) (i := 4) [(2, .long x1), (0, .ref (fad Δ 4 0 0)), (1, .ref (fad Δ 7 i1 0))] C dX4_breathsInAll_3 rfl (by decide) rfl (fun x2 => ?_)
  refine r_locs (lc' := [(0, .ref (fad Δ 4 0 0)), (1, .ref (fad Δ 7 i1 0)), (2, .long x1), (4, .int x2)]) [2, 3, 1, 0] rfl ?_
  have L5 : ∀ (n6 : Nat) (x3 : Int64) (x4 : Int32) (s5 : fSt), fW Δ Γ 5 (fQ eL Δ Γ) 5 [(0, .ref (fad Δ 4 0 0)), (1, .ref (fad Δ 7 i1 0)), (2, .long x3), (4, .int x4)] [] s5 (f_X4_breathsInAll_L5 i1 n6 x3 x4 s5) := by
    intro n6
    induction n6 with
    | zero =>
      intro x3 x4 s5
      rw [f_X4_breathsInAll_L5]
      exact r_none
    | succ n6 ih_n6 =>
      intro x3 x4 s5
      rw [f_X4_breathsInAll_L5]
      refine r_iload (q := 7) (i := 4) (z := 3) C dX4_breathsInAll_5 rfl rfl ?_
      refine r_aload_n (q := 8) (i := 1) (z := 1) C dX4_breathsInAll_7 rfl rfl rfl ?_
      refine g_X4_76 (q := 11) C hi1 dX4_breathsInAll_8 rfl ?_
      refine r_icmp_ge (q := 14) (tgt := 38) C dX4_breathsInAll_11 (by decide) rfl ?_ ?_
      · refine r_lload_n (q := 39) (i := 2) (z := 2) C dX4_breathsInAll_38 rfl rfl rfl ?_
        exact r_lret C dX4_breathsInAll_39
      · refine r_lload_n (q := 15) (i := 2) (z := 2) C dX4_breathsInAll_14 rfl rfl rfl ?_
        refine r_aload_n (q := 16) (i := 0) (z := 0) C dX4_breathsInAll_15 rfl rfl rfl ?_
        refine g_X4_18 (q := 19) C (nk_4_0 hN) dX4_breathsInAll_16 rfl ?_
        refine r_iload (q := 21) (i := 4) (z := 3) C dX4_breathsInAll_19 rfl rfl ?_
        refine r_lal (q := 22) q_4_3 h_4_3 C (nk_4_0 hN) dX4_breathsInAll_21 rfl ?_
        refine r_aload_n (q := 23) (i := 1) (z := 1) C dX4_breathsInAll_22 rfl rfl rfl ?_
        refine r_iload (q := 25) (i := 4) (z := 3) C dX4_breathsInAll_23 rfl rfl ?_
        refine r_callVI (q := 28) (As := [.int x4]) wm_X4_79 yvX7_breathsOfScene (c_X7_breathsOfScene Δ hN i1 x4 hi1 s5) ⟨rfl, by decide⟩ C hi1 (by decide) rfl (Nat.le_of_ble_eq_true rfl) dX4_breathsInAll_25 rfl (fun x7 s8 => ?_)
        refine r_i2l (q := 29) C dX4_breathsInAll_28 rfl ?_
        refine r_lmul (q := 30) C dX4_breathsInAll_29 rfl ?_
        refine r_ladd (q := 31) C dX4_breathsInAll_30 rfl ?_
        refine r_lstore_n (q := 32) (i := 2) [(0, .ref (fad Δ 4 0 0)), (1, .ref (fad Δ 7 i1 0)), (4, .int x4)] C dX4_breathsInAll_31 rfl rfl (by decide) rfl (fun x9 => ?_)
        refine r_iinc (q := 35) (z := 3) (d := 1) [(2, .long x9), (0, .ref (fad Δ 4 0 0)), (1, .ref (fad Δ 7 i1 0))] C dX4_breathsInAll_32 rfl rfl (by decide) (by decide) rfl (fun x10 => ?_)
        refine r_goto (q := 5) C dX4_breathsInAll_35 (by decide) ?_
        refine r_locs (lc' := [(0, .ref (fad Δ 4 0 0)), (1, .ref (fad Δ 7 i1 0)), (2, .long x9), (4, .int x10)]) [2, 3, 1, 0] rfl ?_
        exact ih_n6 x9 x10 s8
  exact L5 fF x1 x2 st

noncomputable def f_X5_withLetter (a0 : Int64) (a2 : Int32) (st : fSt) : Option (Int64 × fSt) :=
  some ((a0 <<< (((5 : Int32)).toInt64 &&& 63)) ||| (((a2 - ((97 : Int32))) + ((1 : Int32))).toInt64), st)

set_option maxHeartbeats 4000000 in
set_option maxRecDepth 100000 in
theorem c_X5_withLetter (Δ : fDl) (a0 : Int64) (a2 : Int32)  (st : fSt) : fMt eL Δ yX5_withLetter cX5_withLetter 3 (some .long) 1 [.long a0, .int a2] st (f_X5_withLetter a0 a2 st) := by
  unfold f_X5_withLetter
  refine r_method (by decide +kernel) (Nat.le_of_ble_eq_true rfl) (fun Γ C => ?_)
  have C : fC Δ Γ cX5_withLetter RX5 3 (some .long) 1 := C
  refine r_locs (lc' := [(0, .long a0), (2, .int a2)]) [0, 1] rfl ?_
  refine r_lload_n (q := 1) (i := 0) (z := 0) C dX5_withLetter_0 rfl rfl rfl ?_
  refine r_iconst (q := 2) (v := 5) C dX5_withLetter_1 rfl (by decide) ?_
  refine r_lshl (q := 3) C dX5_withLetter_2 rfl ?_
  refine r_iload_n (q := 4) (i := 2) (z := 1) C dX5_withLetter_3 rfl rfl rfl ?_
  refine r_bipush (q := 6) (v := 97) C dX5_withLetter_4 rfl (by decide) ?_
  refine r_isub (q := 7) C dX5_withLetter_6 rfl ?_
  refine r_iconst (q := 8) (v := 1) C dX5_withLetter_7 rfl (by decide) ?_
  refine r_iadd (q := 9) C dX5_withLetter_8 rfl ?_
  refine r_i2l (q := 10) C dX5_withLetter_9 rfl ?_
  refine r_lor (q := 11) C dX5_withLetter_10 rfl ?_
  exact r_lret C dX5_withLetter_11

noncomputable def f_X5_putFour_L3 (a1 : Int32) (k3 : fSt → Option (Unit × fSt)) : Nat → Int32 → fSt → Option (Unit × fSt)
  | 0, _, _ => none
  | n6 + 1, x4, s5 =>
      if x4 < 0 then
        (k3 s5)
      else
        (if ((900 : Int32)) ≤ (gI s5 5 0 2) then
          (k3 s5)
        else
          (fLt (sI s5 5 0 2 ((gI s5 5 0 2) + ((1 : Int32)))) fun s7 =>
          fIx (gI s5 5 0 2) 900 <|
          fLt (sA s7 5 0 1 (upd (gA s7 5 0 1) (gI s5 5 0 2).toNatClampNeg (vp_nar .byte ((a1 >>> (x4 &&& 31)).toInt8.toInt32)))) fun s8 =>
          fLt (x4 + (-8 : Int32)) fun (x9 : Int32) =>
          f_X5_putFour_L3 a1 k3 n6 x9 s8))

noncomputable def f_X5_putFour (a1 : Int32) (st : fSt) : Option (Unit × fSt) :=
  fLt ((24 : Int32)) fun (x1 : Int32) =>
  fJn (fun (s2 : fSt) =>
    (some ((), s2))) fun (k3 : fSt → Option (Unit × fSt)) =>
  f_X5_putFour_L3 a1 k3 fF x1 st

set_option maxHeartbeats 4000000 in
set_option maxRecDepth 100000 in
theorem c_X5_putFour (Δ : fDl) (hN : fNx Δ) (a1 : Int32)  (st : fSt) : fMt eV Δ yX5_putFour cX5_putFour 3 none 1 [.ref (fad Δ 5 0 0), .int a1] st (f_X5_putFour a1 st) := by
  unfold f_X5_putFour
  refine r_method (by decide +kernel) (Nat.le_of_ble_eq_true rfl) (fun Γ C => ?_)
  have C : fC Δ Γ cX5_putFour RX5 3 none 1 := C
  refine r_locs (lc' := [(0, .ref (fad Δ 5 0 0)), (1, .int a1)]) [0, 1] rfl ?_
  refine r_bipush (q := 2) (v := 24) C dX5_putFour_0 rfl (by decide) ?_
  refine r_istore_n (q := 3) (i := 2) [(0, .ref (fad Δ 5 0 0)), (1, .int a1)] C dX5_putFour_2 rfl rfl (by decide) rfl (fun x1 => ?_)
  refine r_join (fun k3 => ∀  (s2 : fSt), fW Δ Γ 3 (fQ eV Δ Γ) 43 [] [] s2 (k3 s2)) ?_ (fun k3 hk3 => ?_)
  · intro s2
    exact r_vret C dX5_putFour_43
  refine r_locs (lc' := [(0, .ref (fad Δ 5 0 0)), (1, .int a1), (2, .int x1)]) [1, 2, 0] rfl ?_
  have L3 : ∀ (n6 : Nat) (x4 : Int32) (s5 : fSt), fW Δ Γ 3 (fQ eV Δ Γ) 3 [(0, .ref (fad Δ 5 0 0)), (1, .int a1), (2, .int x4)] [] s5 (f_X5_putFour_L3 a1 k3 n6 x4 s5) := by
    intro n6
    induction n6 with
    | zero =>
      intro x4 s5
      rw [f_X5_putFour_L3]
      exact r_none
    | succ n6 ih_n6 =>
      intro x4 s5
      rw [f_X5_putFour_L3]
      refine r_iload_n (q := 4) (i := 2) (z := 2) C dX5_putFour_3 rfl rfl rfl ?_
      refine r_if_lt (q := 7) (tgt := 43) C dX5_putFour_4 (by decide) rfl ?_ ?_
      · refine r_locs (lc' := []) [] rfl ?_
        exact hk3 s5
      · refine r_aload_n (q := 8) (i := 0) (z := 0) C dX5_putFour_7 rfl rfl rfl ?_
        refine g_X5_35 (q := 11) C (nk_5_0 hN) dX5_putFour_8 rfl ?_
        refine r_sipush (q := 14) (v := 900) C dX5_putFour_11 rfl (by decide) ?_
        refine r_icmp_ge (q := 17) (tgt := 43) C dX5_putFour_14 (by decide) rfl ?_ ?_
        · refine r_locs (lc' := []) [] rfl ?_
          exact hk3 s5
        · refine r_aload_n (q := 18) (i := 0) (z := 0) C dX5_putFour_17 rfl rfl rfl ?_
          refine g_X5_9 (q := 21) C (nk_5_0 hN) dX5_putFour_18 rfl ?_
          refine r_aload_n (q := 22) (i := 0) (z := 0) C dX5_putFour_21 rfl rfl rfl ?_
          refine r_dup (q := 23) C dX5_putFour_22 rfl rfl ?_
          refine g_X5_35 (q := 26) C (nk_5_0 hN) dX5_putFour_23 rfl ?_
          refine r_dup_x1 (q := 27) C dX5_putFour_26 rfl rfl rfl ?_
          refine r_iconst (q := 28) (v := 1) C dX5_putFour_27 rfl (by decide) ?_
          refine r_iadd (q := 29) C dX5_putFour_28 rfl ?_
          refine p_X5_35 (q := 32) C (nk_5_0 hN) dX5_putFour_29 rfl (fun s7 => ?_)
          refine r_iload_n (q := 33) (i := 1) (z := 1) C dX5_putFour_32 rfl rfl rfl ?_
          refine r_iload_n (q := 34) (i := 2) (z := 2) C dX5_putFour_33 rfl rfl rfl ?_
          refine r_ishr (q := 35) C dX5_putFour_34 rfl ?_
          refine r_i2b (q := 36) C dX5_putFour_35 rfl ?_
          refine r_bst (q := 37) q_5_1 h_5_1 C (nk_5_0 hN) dX5_putFour_36 rfl (fun s8 => ?_)
          refine r_iinc (q := 40) (z := 2) (d := (-8)) [(0, .ref (fad Δ 5 0 0)), (1, .int a1)] C dX5_putFour_37 rfl rfl (by decide) (by decide) rfl (fun x9 => ?_)
          refine r_goto (q := 3) C dX5_putFour_40 (by decide) ?_
          refine r_locs (lc' := [(0, .ref (fad Δ 5 0 0)), (1, .int a1), (2, .int x9)]) [1, 2, 0] rfl ?_
          exact ih_n6 x9 s8
  exact L3 fF x1 st

noncomputable def f_X5_isLetter (a0 : Int32) (st : fSt) : Option (Int32 × fSt) :=
  fJn (fun (x1 : Int32) (s2 : fSt) =>
    (fBo x1 (some (x1, s2)))) fun (j3 : Int32 → fSt → Option (Int32 × fSt)) =>
  fJn (fun (s4 : fSt) =>
    (j3 ((0 : Int32)) s4)) fun (j5 : fSt → Option (Int32 × fSt)) =>
  if a0 < ((97 : Int32)) then
    (j5 st)
  else
    (if ((122 : Int32)) < a0 then
      (j5 st)
    else
      (j3 ((1 : Int32)) st))

set_option maxHeartbeats 4000000 in
set_option maxRecDepth 100000 in
theorem c_X5_isLetter (Δ : fDl) (hN : fNx Δ) (a0 : Int32)  (st : fSt) : fMt eI Δ yX5_isLetter cX5_isLetter 1 (some .boolean) 1 [.int a0] st (f_X5_isLetter a0 st) := by
  unfold f_X5_isLetter
  refine r_method (by decide +kernel) (Nat.le_of_ble_eq_true rfl) (fun Γ C => ?_)
  have C : fC Δ Γ cX5_isLetter RX5 1 (some .boolean) 1 := C
  refine r_locs (lc' := [(0, .int a0)]) [0] rfl ?_
  refine r_iload_n (q := 1) (i := 0) (z := 0) C dX5_isLetter_0 rfl rfl rfl ?_
  refine r_bipush (q := 3) (v := 97) C dX5_isLetter_1 rfl (by decide) ?_
  refine r_join (fun j3 => ∀ (x1 : Int32) (s2 : fSt), fW Δ Γ 1 (fQ eI Δ Γ) 17 [] [.int x1] s2 (j3 x1 s2)) ?_ (fun j3 hj3 => ?_)
  · intro x1 s2
    exact r_zret C dX5_isLetter_17
  refine r_join (fun j5 => ∀  (s4 : fSt), fW Δ Γ 1 (fQ eI Δ Γ) 16 [] [] s4 (j5 s4)) ?_ (fun j5 hj5 => ?_)
  · intro s4
    refine r_iconst (q := 17) (v := 0) C dX5_isLetter_16 rfl (by decide) ?_
    exact hj3 ((0 : Int32)) s4
  refine r_icmp_lt (q := 6) (tgt := 16) C dX5_isLetter_3 (by decide) rfl ?_ ?_
  · refine r_locs (lc' := []) [] rfl ?_
    exact hj5 st
  · refine r_iload_n (q := 7) (i := 0) (z := 0) C dX5_isLetter_6 rfl rfl rfl ?_
    refine r_bipush (q := 9) (v := 122) C dX5_isLetter_7 rfl (by decide) ?_
    refine r_icmp_gt (q := 12) (tgt := 16) C dX5_isLetter_9 (by decide) rfl ?_ ?_
    · refine r_locs (lc' := []) [] rfl ?_
      exact hj5 st
    · refine r_iconst (q := 13) (v := 1) C dX5_isLetter_12 rfl (by decide) ?_
      refine r_goto (q := 17) C dX5_isLetter_13 (by decide) ?_
      refine r_locs (lc' := []) [] rfl ?_
      exact hj3 ((1 : Int32)) st

noncomputable def f_X5_sortOfWord_L2 (a1 : Int64) : Nat → Int32 → fSt → Option (Int32 × fSt)
  | 0, _, _ => none
  | n4 + 1, x2, s3 =>
      if ((32 : Int32)) ≤ x2 then
        (some ((32 : Int32), s3))
      else
        (fIx x2 32 <|
        if ¬ (lg_cmp (gB s3 5 0 2 x2.toNatClampNeg) a1) = 0 then
          (fLt (x2 + (1 : Int32)) fun (x5 : Int32) =>
          f_X5_sortOfWord_L2 a1 n4 x5 s3)
        else
          (some (x2, s3)))

noncomputable def f_X5_sortOfWord (a1 : Int64) (st : fSt) : Option (Int32 × fSt) :=
  fLt ((0 : Int32)) fun (x1 : Int32) =>
  f_X5_sortOfWord_L2 a1 fF x1 st

set_option maxHeartbeats 4000000 in
set_option maxRecDepth 100000 in
theorem c_X5_sortOfWord (Δ : fDl) (hN : fNx Δ) (a1 : Int64)  (st : fSt) : fMt eI Δ yX5_sortOfWord cX5_sortOfWord 4 (some .int) 1 [.ref (fad Δ 5 0 0), .long a1] st (f_X5_sortOfWord a1 st) := by
  unfold f_X5_sortOfWord
  refine r_method (by decide +kernel) (Nat.le_of_ble_eq_true rfl) (fun Γ C => ?_)
  have C : fC Δ Γ cX5_sortOfWord RX5 4 (some .int) 1 := C
  refine r_locs (lc' := [(0, .ref (fad Δ 5 0 0)), (1, .long a1)]) [0, 1] rfl ?_
  refine r_iconst (q := 1) (v := 0) C dX5_sortOfWord_0 rfl (by decide) ?_
  refine r_istore_n (q := 2) (i := 3) [(0, .ref (fad Δ 5 0 0)), (1, .long a1)] C dX5_sortOfWord_1 rfl rfl (by decide) rfl (fun x1 => ?_)
  refine r_locs (lc' := [(0, .ref (fad Δ 5 0 0)), (1, .long a1), (3, .int x1)]) [1, 2, 0] rfl ?_
  have L2 : ∀ (n4 : Nat) (x2 : Int32) (s3 : fSt), fW Δ Γ 4 (fQ eI Δ Γ) 2 [(0, .ref (fad Δ 5 0 0)), (1, .long a1), (3, .int x2)] [] s3 (f_X5_sortOfWord_L2 a1 n4 x2 s3) := by
    intro n4
    induction n4 with
    | zero =>
      intro x2 s3
      rw [f_X5_sortOfWord_L2]
      exact r_none
    | succ n4 ih_n4 =>
      intro x2 s3
      rw [f_X5_sortOfWord_L2]
      refine r_iload_n (q := 3) (i := 3) (z := 2) C dX5_sortOfWord_2 rfl rfl rfl ?_
      refine r_bipush (q := 5) (v := 32) C dX5_sortOfWord_3 rfl (by decide) ?_
      refine r_icmp_ge (q := 8) (tgt := 27) C dX5_sortOfWord_5 (by decide) rfl ?_ ?_
      · refine r_bipush (q := 29) (v := 32) C dX5_sortOfWord_27 rfl (by decide) ?_
        exact r_iret C dX5_sortOfWord_29
      · refine r_aload_n (q := 9) (i := 0) (z := 0) C dX5_sortOfWord_8 rfl rfl rfl ?_
        refine g_X5_15 (q := 12) C (nk_5_0 hN) dX5_sortOfWord_9 rfl ?_
        refine r_iload_n (q := 13) (i := 3) (z := 2) C dX5_sortOfWord_12 rfl rfl rfl ?_
        refine r_lal (q := 14) q_5_2 h_5_2 C (nk_5_0 hN) dX5_sortOfWord_13 rfl ?_
        refine r_lload_n (q := 15) (i := 1) (z := 1) C dX5_sortOfWord_14 rfl rfl rfl ?_
        refine r_lcmp (q := 16) C dX5_sortOfWord_15 rfl ?_
        refine r_if_ne (q := 19) (tgt := 21) C dX5_sortOfWord_16 (by decide) rfl ?_ ?_
        · refine r_iinc (q := 24) (z := 2) (d := 1) [(0, .ref (fad Δ 5 0 0)), (1, .long a1)] C dX5_sortOfWord_21 rfl rfl (by decide) (by decide) rfl (fun x5 => ?_)
          refine r_goto (q := 2) C dX5_sortOfWord_24 (by decide) ?_
          refine r_locs (lc' := [(0, .ref (fad Δ 5 0 0)), (1, .long a1), (3, .int x5)]) [1, 2, 0] rfl ?_
          exact ih_n4 x5 s3
        · refine r_iload_n (q := 20) (i := 3) (z := 2) C dX5_sortOfWord_19 rfl rfl rfl ?_
          exact r_iret C dX5_sortOfWord_20
  exact L2 fF x1 st

noncomputable def f_X5_scanWord_L2 (k4 : Int64 → fSt → Option (Unit × fSt)) : Nat → Int64 → fSt → Option (Unit × fSt)
  | 0, _, _ => none
  | n14 + 1, x12, s13 =>
      if (gI s13 5 0 3) ≤ (gI s13 5 0 5) then
        (k4 x12 s13)
      else
        (fIx (gI s13 5 0 5) 900 <|
        fBd (f_X5_isLetter (gA s13 5 0 1 (gI s13 5 0 5).toNatClampNeg) s13) fun x15 s16 =>
        if x15 = 0 then
          (k4 x12 s16)
        else
          (fJn (fun (x17 : Int64) (s18 : fSt) =>
            (fLt (sI s18 5 0 5 ((gI s18 5 0 5) + ((1 : Int32)))) fun s20 =>
            f_X5_scanWord_L2 k4 n14 x17 s20)) fun (j19 : Int64 → fSt → Option (Unit × fSt)) =>
          if ((8 : Int32)) ≤ ((gI s16 5 0 5) - (gI s16 5 0 4)) then
            (j19 x12 s16)
          else
            (fIx (gI s16 5 0 5) 900 <|
            fBd (f_X5_withLetter x12 (gA s16 5 0 1 (gI s16 5 0 5).toNatClampNeg) s16) fun x21 s22 =>
            fLt x21 fun (x23 : Int64) =>
            j19 x23 s22)))

noncomputable def f_X5_scanWord  (st : fSt) : Option (Unit × fSt) :=
  fLt ((0 : Int64)) fun (x1 : Int64) =>
  fJn (fun (x2 : Int64) (s3 : fSt) =>
    (fLt (sL s3 5 0 7 x2) fun s5 =>
    fJn (fun (x6 : Int32) (s7 : fSt) =>
      (fLt (sI s7 5 0 6 x6) fun s9 =>
      some ((), s9))) fun (j8 : Int32 → fSt → Option (Unit × fSt)) =>
    if ((gI s5 5 0 5) - (gI s5 5 0 4)) ≤ ((8 : Int32)) then
      (fBd (f_X5_sortOfWord x2 s5) fun x10 s11 =>
      j8 x10 s11)
    else
      (j8 ((33 : Int32)) s5))) fun (k4 : Int64 → fSt → Option (Unit × fSt)) =>
  f_X5_scanWord_L2 k4 fF x1 st

set_option maxHeartbeats 4000000 in
set_option maxRecDepth 100000 in
theorem c_X5_scanWord (Δ : fDl) (hN : fNx Δ)   (st : fSt) : fMt eV Δ yX5_scanWord cX5_scanWord 3 none 2 [.ref (fad Δ 5 0 0)] st (f_X5_scanWord  st) := by
  unfold f_X5_scanWord
  refine r_method (by decide +kernel) (Nat.le_of_ble_eq_true rfl) (fun Γ C => ?_)
  have C : fC Δ Γ cX5_scanWord RX5 3 none 2 := C
  refine r_locs (lc' := [(0, .ref (fad Δ 5 0 0))]) [0] rfl ?_
  refine r_lconst (q := 1) (v := 0) C dX5_scanWord_0 rfl (by decide) ?_
  refine r_lstore_n (q := 2) (i := 1) [(0, .ref (fad Δ 5 0 0))] C dX5_scanWord_1 rfl rfl (by decide) rfl (fun x1 => ?_)
  refine r_join (fun k4 => ∀ (x2 : Int64) (s3 : fSt), fW Δ Γ 3 (fQ eV Δ Γ) 69 [(0, .ref (fad Δ 5 0 0)), (1, .long x2)] [] s3 (k4 x2 s3)) ?_ (fun k4 hk4 => ?_)
  · intro x2 s3
    refine r_aload_n (q := 70) (i := 0) (z := 0) C dX5_scanWord_69 rfl rfl rfl ?_
    refine r_lload_n (q := 71) (i := 1) (z := 1) C dX5_scanWord_70 rfl rfl rfl ?_
    refine p_X5_82 (q := 74) C (nk_5_0 hN) dX5_scanWord_71 rfl (fun s5 => ?_)
    refine r_aload_n (q := 75) (i := 0) (z := 0) C dX5_scanWord_74 rfl rfl rfl ?_
    refine r_aload_n (q := 76) (i := 0) (z := 0) C dX5_scanWord_75 rfl rfl rfl ?_
    refine g_X5_51 (q := 79) C (nk_5_0 hN) dX5_scanWord_76 rfl ?_
    refine r_aload_n (q := 80) (i := 0) (z := 0) C dX5_scanWord_79 rfl rfl rfl ?_
    refine g_X5_63 (q := 83) C (nk_5_0 hN) dX5_scanWord_80 rfl ?_
    refine r_isub (q := 84) C dX5_scanWord_83 rfl ?_
    refine r_bipush (q := 86) (v := 8) C dX5_scanWord_84 rfl (by decide) ?_
    refine r_join (fun j8 => ∀ (x6 : Int32) (s7 : fSt), fW Δ Γ 3 (fQ eV Δ Γ) 99 [] [.int x6, .ref (fad Δ 5 0 0)] s7 (j8 x6 s7)) ?_ (fun j8 hj8 => ?_)
    · intro x6 s7
      refine p_X5_66 (q := 102) C (nk_5_0 hN) dX5_scanWord_99 rfl (fun s9 => ?_)
      exact r_vret C dX5_scanWord_102
    refine r_icmp_le (q := 89) (tgt := 94) C dX5_scanWord_86 (by decide) rfl ?_ ?_
    · refine r_aload_n (q := 95) (i := 0) (z := 0) C dX5_scanWord_94 rfl rfl rfl ?_
      refine r_lload_n (q := 96) (i := 1) (z := 1) C dX5_scanWord_95 rfl rfl rfl ?_
      refine r_callVI (q := 99) (As := [.long x2]) wm_X5_86 yvX5_sortOfWord (c_X5_sortOfWord Δ hN x2 s5) ⟨rfl, by decide⟩ C (nk_5_0 hN) (by decide) rfl (Nat.le_of_ble_eq_true rfl) dX5_scanWord_96 rfl (fun x10 s11 => ?_)
      refine r_locs (lc' := []) [] rfl ?_
      exact hj8 x10 s11
    · refine r_bipush (q := 91) (v := 33) C dX5_scanWord_89 rfl (by decide) ?_
      refine r_goto (q := 99) C dX5_scanWord_91 (by decide) ?_
      refine r_locs (lc' := []) [] rfl ?_
      exact hj8 ((33 : Int32)) s5
  refine r_locs (lc' := [(0, .ref (fad Δ 5 0 0)), (1, .long x1)]) [1, 0] rfl ?_
  have L2 : ∀ (n14 : Nat) (x12 : Int64) (s13 : fSt), fW Δ Γ 3 (fQ eV Δ Γ) 2 [(0, .ref (fad Δ 5 0 0)), (1, .long x12)] [] s13 (f_X5_scanWord_L2 k4 n14 x12 s13) := by
    intro n14
    induction n14 with
    | zero =>
      intro x12 s13
      rw [f_X5_scanWord_L2]
      exact r_none
    | succ n14 ih_n14 =>
      intro x12 s13
      rw [f_X5_scanWord_L2]
      refine r_aload_n (q := 3) (i := 0) (z := 0) C dX5_scanWord_2 rfl rfl rfl ?_
      refine g_X5_51 (q := 6) C (nk_5_0 hN) dX5_scanWord_3 rfl ?_
      refine r_aload_n (q := 7) (i := 0) (z := 0) C dX5_scanWord_6 rfl rfl rfl ?_
      refine g_X5_48 (q := 10) C (nk_5_0 hN) dX5_scanWord_7 rfl ?_
      refine r_icmp_ge (q := 13) (tgt := 69) C dX5_scanWord_10 (by decide) rfl ?_ ?_
      · exact hk4 x12 s13
      · refine r_aload_n (q := 14) (i := 0) (z := 0) C dX5_scanWord_13 rfl rfl rfl ?_
        refine g_X5_9 (q := 17) C (nk_5_0 hN) dX5_scanWord_14 rfl ?_
        refine r_aload_n (q := 18) (i := 0) (z := 0) C dX5_scanWord_17 rfl rfl rfl ?_
        refine g_X5_51 (q := 21) C (nk_5_0 hN) dX5_scanWord_18 rfl ?_
        refine r_bal (q := 22) q_5_1 h_5_1 C (nk_5_0 hN) dX5_scanWord_21 rfl ?_
        refine r_callSI (q := 25) (As := [.int (gA s13 5 0 1 (gI s13 5 0 5).toNatClampNeg)]) wm_X5_69 ysX5_isLetter (c_X5_isLetter Δ hN (gA s13 5 0 1 (gI s13 5 0 5).toNatClampNeg) s13) C (by decide) rfl (Nat.le_of_ble_eq_true rfl) dX5_scanWord_22 rfl (fun x15 s16 => ?_)
        refine r_if_eq (q := 28) (tgt := 69) C dX5_scanWord_25 (by decide) rfl ?_ ?_
        · exact hk4 x12 s16
        · refine r_aload_n (q := 29) (i := 0) (z := 0) C dX5_scanWord_28 rfl rfl rfl ?_
          refine g_X5_51 (q := 32) C (nk_5_0 hN) dX5_scanWord_29 rfl ?_
          refine r_aload_n (q := 33) (i := 0) (z := 0) C dX5_scanWord_32 rfl rfl rfl ?_
          refine g_X5_63 (q := 36) C (nk_5_0 hN) dX5_scanWord_33 rfl ?_
          refine r_isub (q := 37) C dX5_scanWord_36 rfl ?_
          refine r_bipush (q := 39) (v := 8) C dX5_scanWord_37 rfl (by decide) ?_
          refine r_join (fun j19 => ∀ (x17 : Int64) (s18 : fSt), fW Δ Γ 3 (fQ eV Δ Γ) 56 [(0, .ref (fad Δ 5 0 0)), (1, .long x17)] [] s18 (j19 x17 s18)) ?_ (fun j19 hj19 => ?_)
          · intro x17 s18
            refine r_aload_n (q := 57) (i := 0) (z := 0) C dX5_scanWord_56 rfl rfl rfl ?_
            refine r_dup (q := 58) C dX5_scanWord_57 rfl rfl ?_
            refine g_X5_51 (q := 61) C (nk_5_0 hN) dX5_scanWord_58 rfl ?_
            refine r_iconst (q := 62) (v := 1) C dX5_scanWord_61 rfl (by decide) ?_
            refine r_iadd (q := 63) C dX5_scanWord_62 rfl ?_
            refine p_X5_51 (q := 66) C (nk_5_0 hN) dX5_scanWord_63 rfl (fun s20 => ?_)
            refine r_goto (q := 2) C dX5_scanWord_66 (by decide) ?_
            exact ih_n14 x17 s20
          refine r_icmp_ge (q := 42) (tgt := 56) C dX5_scanWord_39 (by decide) rfl ?_ ?_
          · exact hj19 x12 s16
          · refine r_lload_n (q := 43) (i := 1) (z := 1) C dX5_scanWord_42 rfl rfl rfl ?_
            refine r_aload_n (q := 44) (i := 0) (z := 0) C dX5_scanWord_43 rfl rfl rfl ?_
            refine g_X5_9 (q := 47) C (nk_5_0 hN) dX5_scanWord_44 rfl ?_
            refine r_aload_n (q := 48) (i := 0) (z := 0) C dX5_scanWord_47 rfl rfl rfl ?_
            refine g_X5_51 (q := 51) C (nk_5_0 hN) dX5_scanWord_48 rfl ?_
            refine r_bal (q := 52) q_5_1 h_5_1 C (nk_5_0 hN) dX5_scanWord_51 rfl ?_
            refine r_callSL (q := 55) (As := [.long x12, .int (gA s16 5 0 1 (gI s16 5 0 5).toNatClampNeg)]) wm_X5_31 ysX5_withLetter (c_X5_withLetter Δ x12 (gA s16 5 0 1 (gI s16 5 0 5).toNatClampNeg) s16) C (by decide) rfl (Nat.le_of_ble_eq_true rfl) dX5_scanWord_52 rfl (fun x21 s22 => ?_)
            refine r_lstore_n (q := 56) (i := 1) [(0, .ref (fad Δ 5 0 0))] C dX5_scanWord_55 rfl rfl (by decide) rfl (fun x23 => ?_)
            refine r_locs (lc' := [(0, .ref (fad Δ 5 0 0)), (1, .long x23)]) [1, 0] rfl ?_
            exact hj19 x23 s22
  exact L2 fF x1 st

noncomputable def f_X5_isDigit (a0 : Int32) (st : fSt) : Option (Int32 × fSt) :=
  fJn (fun (x1 : Int32) (s2 : fSt) =>
    (fBo x1 (some (x1, s2)))) fun (j3 : Int32 → fSt → Option (Int32 × fSt)) =>
  fJn (fun (s4 : fSt) =>
    (j3 ((0 : Int32)) s4)) fun (j5 : fSt → Option (Int32 × fSt)) =>
  if a0 < ((48 : Int32)) then
    (j5 st)
  else
    (if ((57 : Int32)) < a0 then
      (j5 st)
    else
      (j3 ((1 : Int32)) st))

set_option maxHeartbeats 4000000 in
set_option maxRecDepth 100000 in
theorem c_X5_isDigit (Δ : fDl) (hN : fNx Δ) (a0 : Int32)  (st : fSt) : fMt eI Δ yX5_isDigit cX5_isDigit 1 (some .boolean) 1 [.int a0] st (f_X5_isDigit a0 st) := by
  unfold f_X5_isDigit
  refine r_method (by decide +kernel) (Nat.le_of_ble_eq_true rfl) (fun Γ C => ?_)
  have C : fC Δ Γ cX5_isDigit RX5 1 (some .boolean) 1 := C
  refine r_locs (lc' := [(0, .int a0)]) [0] rfl ?_
  refine r_iload_n (q := 1) (i := 0) (z := 0) C dX5_isDigit_0 rfl rfl rfl ?_
  refine r_bipush (q := 3) (v := 48) C dX5_isDigit_1 rfl (by decide) ?_
  refine r_join (fun j3 => ∀ (x1 : Int32) (s2 : fSt), fW Δ Γ 1 (fQ eI Δ Γ) 17 [] [.int x1] s2 (j3 x1 s2)) ?_ (fun j3 hj3 => ?_)
  · intro x1 s2
    exact r_zret C dX5_isDigit_17
  refine r_join (fun j5 => ∀  (s4 : fSt), fW Δ Γ 1 (fQ eI Δ Γ) 16 [] [] s4 (j5 s4)) ?_ (fun j5 hj5 => ?_)
  · intro s4
    refine r_iconst (q := 17) (v := 0) C dX5_isDigit_16 rfl (by decide) ?_
    exact hj3 ((0 : Int32)) s4
  refine r_icmp_lt (q := 6) (tgt := 16) C dX5_isDigit_3 (by decide) rfl ?_ ?_
  · refine r_locs (lc' := []) [] rfl ?_
    exact hj5 st
  · refine r_iload_n (q := 7) (i := 0) (z := 0) C dX5_isDigit_6 rfl rfl rfl ?_
    refine r_bipush (q := 9) (v := 57) C dX5_isDigit_7 rfl (by decide) ?_
    refine r_icmp_gt (q := 12) (tgt := 16) C dX5_isDigit_9 (by decide) rfl ?_ ?_
    · refine r_locs (lc' := []) [] rfl ?_
      exact hj5 st
    · refine r_iconst (q := 13) (v := 1) C dX5_isDigit_12 rfl (by decide) ?_
      refine r_goto (q := 17) C dX5_isDigit_13 (by decide) ?_
      refine r_locs (lc' := []) [] rfl ?_
      exact hj3 ((1 : Int32)) st

noncomputable def f_X5_scanNumber_L2 (k4 : Int32 → fSt → Option (Unit × fSt)) : Nat → Int32 → fSt → Option (Unit × fSt)
  | 0, _, _ => none
  | n12 + 1, x10, s11 =>
      if (gI s11 5 0 3) ≤ (gI s11 5 0 5) then
        (k4 x10 s11)
      else
        (fIx (gI s11 5 0 5) 900 <|
        fBd (f_X5_isDigit (gA s11 5 0 1 (gI s11 5 0 5).toNatClampNeg) s11) fun x13 s14 =>
        if x13 = 0 then
          (k4 x10 s14)
        else
          (fJn (fun (x15 : Int32) (s16 : fSt) =>
            (fLt (sI s16 5 0 5 ((gI s16 5 0 5) + ((1 : Int32)))) fun s18 =>
            f_X5_scanNumber_L2 k4 n12 x15 s18)) fun (j17 : Int32 → fSt → Option (Unit × fSt)) =>
          if ((4 : Int32)) ≤ ((gI s14 5 0 5) - (gI s14 5 0 4)) then
            (j17 x10 s14)
          else
            (fIx (gI s14 5 0 5) 900 <|
            fLt ((x10 * ((10 : Int32))) + ((gA s14 5 0 1 (gI s14 5 0 5).toNatClampNeg) - ((48 : Int32)))) fun (x19 : Int32) =>
            j17 x19 s14)))

noncomputable def f_X5_scanNumber  (st : fSt) : Option (Unit × fSt) :=
  fLt ((0 : Int32)) fun (x1 : Int32) =>
  fJn (fun (x2 : Int32) (s3 : fSt) =>
    (fLt (sI s3 5 0 8 x2) fun s5 =>
    fJn (fun (x6 : Int32) (s7 : fSt) =>
      (fLt (sI s7 5 0 6 x6) fun s9 =>
      some ((), s9))) fun (j8 : Int32 → fSt → Option (Unit × fSt)) =>
    if ((gI s5 5 0 5) - (gI s5 5 0 4)) ≤ ((4 : Int32)) then
      (j8 ((34 : Int32)) s5)
    else
      (j8 ((36 : Int32)) s5))) fun (k4 : Int32 → fSt → Option (Unit × fSt)) =>
  f_X5_scanNumber_L2 k4 fF x1 st

set_option maxHeartbeats 4000000 in
set_option maxRecDepth 100000 in
theorem c_X5_scanNumber (Δ : fDl) (hN : fNx Δ)   (st : fSt) : fMt eV Δ yX5_scanNumber cX5_scanNumber 2 none 2 [.ref (fad Δ 5 0 0)] st (f_X5_scanNumber  st) := by
  unfold f_X5_scanNumber
  refine r_method (by decide +kernel) (Nat.le_of_ble_eq_true rfl) (fun Γ C => ?_)
  have C : fC Δ Γ cX5_scanNumber RX5 2 none 2 := C
  refine r_locs (lc' := [(0, .ref (fad Δ 5 0 0))]) [0] rfl ?_
  refine r_iconst (q := 1) (v := 0) C dX5_scanNumber_0 rfl (by decide) ?_
  refine r_istore_n (q := 2) (i := 1) [(0, .ref (fad Δ 5 0 0))] C dX5_scanNumber_1 rfl rfl (by decide) rfl (fun x1 => ?_)
  refine r_join (fun k4 => ∀ (x2 : Int32) (s3 : fSt), fW Δ Γ 2 (fQ eV Δ Γ) 72 [(0, .ref (fad Δ 5 0 0)), (1, .int x2)] [] s3 (k4 x2 s3)) ?_ (fun k4 hk4 => ?_)
  · intro x2 s3
    refine r_aload_n (q := 73) (i := 0) (z := 0) C dX5_scanNumber_72 rfl rfl rfl ?_
    refine r_iload_n (q := 74) (i := 1) (z := 1) C dX5_scanNumber_73 rfl rfl rfl ?_
    refine p_X5_90 (q := 77) C (nk_5_0 hN) dX5_scanNumber_74 rfl (fun s5 => ?_)
    refine r_aload_n (q := 78) (i := 0) (z := 0) C dX5_scanNumber_77 rfl rfl rfl ?_
    refine r_aload_n (q := 79) (i := 0) (z := 0) C dX5_scanNumber_78 rfl rfl rfl ?_
    refine g_X5_51 (q := 82) C (nk_5_0 hN) dX5_scanNumber_79 rfl ?_
    refine r_aload_n (q := 83) (i := 0) (z := 0) C dX5_scanNumber_82 rfl rfl rfl ?_
    refine g_X5_63 (q := 86) C (nk_5_0 hN) dX5_scanNumber_83 rfl ?_
    refine r_isub (q := 87) C dX5_scanNumber_86 rfl ?_
    refine r_iconst (q := 88) (v := 4) C dX5_scanNumber_87 rfl (by decide) ?_
    refine r_join (fun j8 => ∀ (x6 : Int32) (s7 : fSt), fW Δ Γ 2 (fQ eV Δ Γ) 98 [] [.int x6, .ref (fad Δ 5 0 0)] s7 (j8 x6 s7)) ?_ (fun j8 hj8 => ?_)
    · intro x6 s7
      refine p_X5_66 (q := 101) C (nk_5_0 hN) dX5_scanNumber_98 rfl (fun s9 => ?_)
      exact r_vret C dX5_scanNumber_101
    refine r_icmp_le (q := 91) (tgt := 96) C dX5_scanNumber_88 (by decide) rfl ?_ ?_
    · refine r_bipush (q := 98) (v := 34) C dX5_scanNumber_96 rfl (by decide) ?_
      refine r_locs (lc' := []) [] rfl ?_
      exact hj8 ((34 : Int32)) s5
    · refine r_bipush (q := 93) (v := 36) C dX5_scanNumber_91 rfl (by decide) ?_
      refine r_goto (q := 98) C dX5_scanNumber_93 (by decide) ?_
      refine r_locs (lc' := []) [] rfl ?_
      exact hj8 ((36 : Int32)) s5
  refine r_locs (lc' := [(0, .ref (fad Δ 5 0 0)), (1, .int x1)]) [1, 0] rfl ?_
  have L2 : ∀ (n12 : Nat) (x10 : Int32) (s11 : fSt), fW Δ Γ 2 (fQ eV Δ Γ) 2 [(0, .ref (fad Δ 5 0 0)), (1, .int x10)] [] s11 (f_X5_scanNumber_L2 k4 n12 x10 s11) := by
    intro n12
    induction n12 with
    | zero =>
      intro x10 s11
      rw [f_X5_scanNumber_L2]
      exact r_none
    | succ n12 ih_n12 =>
      intro x10 s11
      rw [f_X5_scanNumber_L2]
      refine r_aload_n (q := 3) (i := 0) (z := 0) C dX5_scanNumber_2 rfl rfl rfl ?_
      refine g_X5_51 (q := 6) C (nk_5_0 hN) dX5_scanNumber_3 rfl ?_
      refine r_aload_n (q := 7) (i := 0) (z := 0) C dX5_scanNumber_6 rfl rfl rfl ?_
      refine g_X5_48 (q := 10) C (nk_5_0 hN) dX5_scanNumber_7 rfl ?_
      refine r_icmp_ge (q := 13) (tgt := 72) C dX5_scanNumber_10 (by decide) rfl ?_ ?_
      · exact hk4 x10 s11
      · refine r_aload_n (q := 14) (i := 0) (z := 0) C dX5_scanNumber_13 rfl rfl rfl ?_
        refine g_X5_9 (q := 17) C (nk_5_0 hN) dX5_scanNumber_14 rfl ?_
        refine r_aload_n (q := 18) (i := 0) (z := 0) C dX5_scanNumber_17 rfl rfl rfl ?_
        refine g_X5_51 (q := 21) C (nk_5_0 hN) dX5_scanNumber_18 rfl ?_
        refine r_bal (q := 22) q_5_1 h_5_1 C (nk_5_0 hN) dX5_scanNumber_21 rfl ?_
        refine r_callSI (q := 25) (As := [.int (gA s11 5 0 1 (gI s11 5 0 5).toNatClampNeg)]) wm_X5_76 ysX5_isDigit (c_X5_isDigit Δ hN (gA s11 5 0 1 (gI s11 5 0 5).toNatClampNeg) s11) C (by decide) rfl (Nat.le_of_ble_eq_true rfl) dX5_scanNumber_22 rfl (fun x13 s14 => ?_)
        refine r_if_eq (q := 28) (tgt := 72) C dX5_scanNumber_25 (by decide) rfl ?_ ?_
        · exact hk4 x10 s14
        · refine r_aload_n (q := 29) (i := 0) (z := 0) C dX5_scanNumber_28 rfl rfl rfl ?_
          refine g_X5_51 (q := 32) C (nk_5_0 hN) dX5_scanNumber_29 rfl ?_
          refine r_aload_n (q := 33) (i := 0) (z := 0) C dX5_scanNumber_32 rfl rfl rfl ?_
          refine g_X5_63 (q := 36) C (nk_5_0 hN) dX5_scanNumber_33 rfl ?_
          refine r_isub (q := 37) C dX5_scanNumber_36 rfl ?_
          refine r_iconst (q := 38) (v := 4) C dX5_scanNumber_37 rfl (by decide) ?_
          refine r_join (fun j17 => ∀ (x15 : Int32) (s16 : fSt), fW Δ Γ 2 (fQ eV Δ Γ) 59 [(0, .ref (fad Δ 5 0 0)), (1, .int x15)] [] s16 (j17 x15 s16)) ?_ (fun j17 hj17 => ?_)
          · intro x15 s16
            refine r_aload_n (q := 60) (i := 0) (z := 0) C dX5_scanNumber_59 rfl rfl rfl ?_
            refine r_dup (q := 61) C dX5_scanNumber_60 rfl rfl ?_
            refine g_X5_51 (q := 64) C (nk_5_0 hN) dX5_scanNumber_61 rfl ?_
            refine r_iconst (q := 65) (v := 1) C dX5_scanNumber_64 rfl (by decide) ?_
            refine r_iadd (q := 66) C dX5_scanNumber_65 rfl ?_
            refine p_X5_51 (q := 69) C (nk_5_0 hN) dX5_scanNumber_66 rfl (fun s18 => ?_)
            refine r_goto (q := 2) C dX5_scanNumber_69 (by decide) ?_
            exact ih_n12 x15 s18
          refine r_icmp_ge (q := 41) (tgt := 59) C dX5_scanNumber_38 (by decide) rfl ?_ ?_
          · exact hj17 x10 s14
          · refine r_iload_n (q := 42) (i := 1) (z := 1) C dX5_scanNumber_41 rfl rfl rfl ?_
            refine r_bipush (q := 44) (v := 10) C dX5_scanNumber_42 rfl (by decide) ?_
            refine r_imul (q := 45) C dX5_scanNumber_44 rfl ?_
            refine r_aload_n (q := 46) (i := 0) (z := 0) C dX5_scanNumber_45 rfl rfl rfl ?_
            refine g_X5_9 (q := 49) C (nk_5_0 hN) dX5_scanNumber_46 rfl ?_
            refine r_aload_n (q := 50) (i := 0) (z := 0) C dX5_scanNumber_49 rfl rfl rfl ?_
            refine g_X5_51 (q := 53) C (nk_5_0 hN) dX5_scanNumber_50 rfl ?_
            refine r_bal (q := 54) q_5_1 h_5_1 C (nk_5_0 hN) dX5_scanNumber_53 rfl ?_
            refine r_bipush (q := 56) (v := 48) C dX5_scanNumber_54 rfl (by decide) ?_
            refine r_isub (q := 57) C dX5_scanNumber_56 rfl ?_
            refine r_iadd (q := 58) C dX5_scanNumber_57 rfl ?_
            refine r_istore_n (q := 59) (i := 1) [(0, .ref (fad Δ 5 0 0))] C dX5_scanNumber_58 rfl rfl (by decide) rfl (fun x19 => ?_)
            refine r_locs (lc' := [(0, .ref (fad Δ 5 0 0)), (1, .int x19)]) [1, 0] rfl ?_
            exact hj17 x19 s14
  exact L2 fF x1 st
