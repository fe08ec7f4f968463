noncomputable def f_X7_linesInAll_L4 (i0 : Nat) : Nat → Int32 → Int32 → fSt → Option (Int32 × fSt)
  | 0, _, _, _ => none
  | n6 + 1, x3, x4, s5 =>
      if (gI s5 7 i0 2) ≤ x4 then
        (some (x3, s5))
      else
        (fIx x4 12 <|
        fLt (x3 + (gA s5 7 i0 8 x4.toNatClampNeg)) fun (x7 : Int32) =>
        fLt (x4 + (1 : Int32)) fun (x8 : Int32) =>
        f_X7_linesInAll_L4 i0 n6 x7 x8 s5)

noncomputable def f_X7_linesInAll (i0 : Nat) (st : fSt) : Option (Int32 × fSt) :=
  fLt ((0 : Int32)) fun (x1 : Int32) =>
  fLt ((0 : Int32)) fun (x2 : Int32) =>
  f_X7_linesInAll_L4 i0 fF x1 x2 st

set_option maxHeartbeats 4000000 in
set_option maxRecDepth 100000 in
theorem c_X7_linesInAll (Δ : fDl) (hN : fNx Δ) (i0 : Nat) (hi0 : i0 < fN Δ 7)  (st : fSt) : fMt eI Δ yX7_linesInAll cX7_linesInAll 3 (some .int) 1 [.ref (fad Δ 7 i0 0)] st (f_X7_linesInAll i0 st) := by
  unfold f_X7_linesInAll
  refine r_method (by decide +kernel) (Nat.le_of_ble_eq_true rfl) (fun Γ C => ?_)
  have C : fC Δ Γ cX7_linesInAll RX7 3 (some .int) 1 := C
  refine r_locs (lc' := [(0, .ref (fad Δ 7 i0 0))]) [0] rfl ?_
  refine r_iconst (q := 1) (v := 0) C dX7_linesInAll_0 rfl (by decide) ?_
  refine r_istore_n (q := 2) (i := 1) [(0, .ref (fad Δ 7 i0 0))] C dX7_linesInAll_1 rfl rfl (by decide) rfl (fun x1 => ?_)
  refine r_iconst (q := 3) (v := 0) C dX7_linesInAll_2 rfl (by decide) ?_
  refine r_istore_n (q := 4) (i := 2) [(1, .int x1), (0, .ref (fad Δ 7 i0 0))] C dX7_linesInAll_3 rfl rfl (by decide) rfl (fun x2 => ?_)
  refine r_locs (lc' := [(0, .ref (fad Δ 7 i0 0)), (1, .int x1), (2, .int x2)]) [2, 1, 0] rfl ?_
  have L4 : ∀ (n6 : Nat) (x3 : Int32) (x4 : Int32) (s5 : fSt), fW Δ Γ 3 (fQ eI Δ Γ) 4 [(0, .ref (fad Δ 7 i0 0)), (1, .int x3), (2, .int x4)] [] s5 (f_X7_linesInAll_L4 i0 n6 x3 x4 s5) := by
    intro n6
    induction n6 with
    | zero =>
      intro x3 x4 s5
      rw [f_X7_linesInAll_L4]
      exact r_none
    | succ n6 ih_n6 =>
      intro x3 x4 s5
      rw [f_X7_linesInAll_L4]
      refine r_iload_n (q := 5) (i := 2) (z := 2) C dX7_linesInAll_4 rfl rfl rfl ?_
      refine r_aload_n (q := 6) (i := 0) (z := 0) C dX7_linesInAll_5 rfl rfl rfl ?_
      refine g_X7_103 (q := 9) C hi0 dX7_linesInAll_6 rfl ?_
      refine r_icmp_ge (q := 12) (tgt := 27) C dX7_linesInAll_9 (by decide) rfl ?_ ?_
      · refine r_iload_n (q := 28) (i := 1) (z := 1) C dX7_linesInAll_27 rfl rfl rfl ?_
        exact r_iret C dX7_linesInAll_28
      · refine r_iload_n (q := 13) (i := 1) (z := 1) C dX7_linesInAll_12 rfl rfl rfl ?_
        refine r_aload_n (q := 14) (i := 0) (z := 0) C dX7_linesInAll_13 rfl rfl rfl ?_
        refine g_X7_34 (q := 17) C hi0 dX7_linesInAll_14 rfl ?_
        refine r_iload_n (q := 18) (i := 2) (z := 2) C dX7_linesInAll_17 rfl rfl rfl ?_
        refine r_ial (q := 19) q_7_8 h_7_8 C hi0 dX7_linesInAll_18 rfl ?_
        refine r_iadd (q := 20) C dX7_linesInAll_19 rfl ?_
        refine r_istore_n (q := 21) (i := 1) [(0, .ref (fad Δ 7 i0 0)), (2, .int x4)] C dX7_linesInAll_20 rfl rfl (by decide) rfl (fun x7 => ?_)
        refine r_iinc (q := 24) (z := 2) (d := 1) [(1, .int x7), (0, .ref (fad Δ 7 i0 0))] C dX7_linesInAll_21 rfl rfl (by decide) (by decide) rfl (fun x8 => ?_)
        refine r_goto (q := 4) C dX7_linesInAll_24 (by decide) ?_
        refine r_locs (lc' := [(0, .ref (fad Δ 7 i0 0)), (1, .int x7), (2, .int x8)]) [2, 1, 0] rfl ?_
        exact ih_n6 x7 x8 s5
  exact L4 fF x1 x2 st

noncomputable def f_X7_sceneOfLine_L4 (i0 : Nat) (a1 : Int32) : Nat → Int32 → Int32 → fSt → Option (Int32 × fSt)
  | 0, _, _, _ => none
  | n6 + 1, x3, x4, s5 =>
      if (gI s5 7 i0 2) ≤ x4 then
        (some ((-1 : Int32), s5))
      else
        (fIx x4 12 <|
        fLt (x3 + (gA s5 7 i0 8 x4.toNatClampNeg)) fun (x7 : Int32) =>
        fJn (fun (s8 : fSt) =>
          (fLt (x4 + (1 : Int32)) fun (x10 : Int32) =>
          f_X7_sceneOfLine_L4 i0 a1 n6 x7 x10 s8)) fun (j9 : fSt → Option (Int32 × fSt)) =>
        if a1 < 0 then
          (j9 s5)
        else
          (if x7 ≤ a1 then
            (j9 s5)
          else
            (some (x4, s5))))

noncomputable def f_X7_sceneOfLine (i0 : Nat) (a1 : Int32) (st : fSt) : Option (Int32 × fSt) :=
  fLt ((0 : Int32)) fun (x1 : Int32) =>
  fLt ((0 : Int32)) fun (x2 : Int32) =>
  f_X7_sceneOfLine_L4 i0 a1 fF x1 x2 st

set_option maxHeartbeats 4000000 in
set_option maxRecDepth 100000 in
theorem c_X7_sceneOfLine (Δ : fDl) (hN : fNx Δ) (i0 : Nat) (a1 : Int32) (hi0 : i0 < fN Δ 7)  (st : fSt) : fMt eI Δ yX7_sceneOfLine cX7_sceneOfLine 4 (some .int) 1 [.ref (fad Δ 7 i0 0), .int a1] st (f_X7_sceneOfLine i0 a1 st) := by
  unfold f_X7_sceneOfLine
  refine r_method (by decide +kernel) (Nat.le_of_ble_eq_true rfl) (fun Γ C => ?_)
  have C : fC Δ Γ cX7_sceneOfLine RX7 4 (some .int) 1 := C
  refine r_locs (lc' := [(0, .ref (fad Δ 7 i0 0)), (1, .int a1)]) [0, 1] rfl ?_
  refine r_iconst (q := 1) (v := 0) C dX7_sceneOfLine_0 rfl (by decide) ?_
  refine r_istore_n (q := 2) (i := 2) [(0, .ref (fad Δ 7 i0 0)), (1, .int a1)] C dX7_sceneOfLine_1 rfl rfl (by decide) rfl (fun x1 => ?_)
  refine r_iconst (q := 3) (v := 0) C dX7_sceneOfLine_2 rfl (by decide) ?_
  refine r_istore_n (q := 4) (i := 3) [(2, .int x1), (0, .ref (fad Δ 7 i0 0)), (1, .int a1)] C dX7_sceneOfLine_3 rfl rfl (by decide) rfl (fun x2 => ?_)
  refine r_locs (lc' := [(0, .ref (fad Δ 7 i0 0)), (1, .int a1), (2, .int x1), (3, .int x2)]) [2, 3, 1, 0] rfl ?_
  have L4 : ∀ (n6 : Nat) (x3 : Int32) (x4 : Int32) (s5 : fSt), fW Δ Γ 4 (fQ eI Δ Γ) 4 [(0, .ref (fad Δ 7 i0 0)), (1, .int a1), (2, .int x3), (3, .int x4)] [] s5 (f_X7_sceneOfLine_L4 i0 a1 n6 x3 x4 s5) := by
    intro n6
    induction n6 with
    | zero =>
      intro x3 x4 s5
      rw [f_X7_sceneOfLine_L4]
      exact r_none
    | succ n6 ih_n6 =>
      intro x3 x4 s5
      rw [f_X7_sceneOfLine_L4]
      refine r_iload_n (q := 5) (i := 3) (z := 3) C dX7_sceneOfLine_4 rfl rfl rfl ?_
      refine r_aload_n (q := 6) (i := 0) (z := 0) C dX7_sceneOfLine_5 rfl rfl rfl ?_
      refine g_X7_103 (q := 9) C hi0 dX7_sceneOfLine_6 rfl ?_
      refine r_icmp_ge (q := 12) (tgt := 38) C dX7_sceneOfLine_9 (by decide) rfl ?_ ?_
      · refine r_iconst (q := 39) (v := (-1)) C dX7_sceneOfLine_38 rfl (by decide) ?_
        exact r_iret C dX7_sceneOfLine_39
      · refine r_iload_n (q := 13) (i := 2) (z := 2) C dX7_sceneOfLine_12 rfl rfl rfl ?_
        refine r_aload_n (q := 14) (i := 0) (z := 0) C dX7_sceneOfLine_13 rfl rfl rfl ?_
        refine g_X7_34 (q := 17) C hi0 dX7_sceneOfLine_14 rfl ?_
        refine r_iload_n (q := 18) (i := 3) (z := 3) C dX7_sceneOfLine_17 rfl rfl rfl ?_
        refine r_ial (q := 19) q_7_8 h_7_8 C hi0 dX7_sceneOfLine_18 rfl ?_
        refine r_iadd (q := 20) C dX7_sceneOfLine_19 rfl ?_
        refine r_istore_n (q := 21) (i := 2) [(0, .ref (fad Δ 7 i0 0)), (1, .int a1), (3, .int x4)] C dX7_sceneOfLine_20 rfl rfl (by decide) rfl (fun x7 => ?_)
        refine r_iload_n (q := 22) (i := 1) (z := 2) C dX7_sceneOfLine_21 rfl rfl rfl ?_
        refine r_join (fun j9 => ∀  (s8 : fSt), fW Δ Γ 4 (fQ eI Δ Γ) 32 [(0, .ref (fad Δ 7 i0 0)), (1, .int a1), (2, .int x7), (3, .int x4)] [] s8 (j9 s8)) ?_ (fun j9 hj9 => ?_)
        · intro s8
          refine r_iinc (q := 35) (z := 3) (d := 1) [(0, .ref (fad Δ 7 i0 0)), (1, .int a1), (2, .int x7)] C dX7_sceneOfLine_32 rfl rfl (by decide) (by decide) rfl (fun x10 => ?_)
          refine r_goto (q := 4) C dX7_sceneOfLine_35 (by decide) ?_
          refine r_locs (lc' := [(0, .ref (fad Δ 7 i0 0)), (1, .int a1), (2, .int x7), (3, .int x10)]) [1, 2, 3, 0] rfl ?_
          exact ih_n6 x7 x10 s8
        refine r_if_lt (q := 25) (tgt := 32) C dX7_sceneOfLine_22 (by decide) rfl ?_ ?_
        · refine r_locs (lc' := [(0, .ref (fad Δ 7 i0 0)), (1, .int a1), (2, .int x7), (3, .int x4)]) [1, 2, 0, 3] rfl ?_
          exact hj9 s5
        · refine r_iload_n (q := 26) (i := 1) (z := 2) C dX7_sceneOfLine_25 rfl rfl rfl ?_
          refine r_iload_n (q := 27) (i := 2) (z := 0) C dX7_sceneOfLine_26 rfl rfl rfl ?_
          refine r_icmp_ge (q := 30) (tgt := 32) C dX7_sceneOfLine_27 (by decide) rfl ?_ ?_
          · refine r_locs (lc' := [(0, .ref (fad Δ 7 i0 0)), (1, .int a1), (2, .int x7), (3, .int x4)]) [1, 2, 0, 3] rfl ?_
            exact hj9 s5
          · refine r_iload_n (q := 31) (i := 3) (z := 3) C dX7_sceneOfLine_30 rfl rfl rfl ?_
            exact r_iret C dX7_sceneOfLine_31
  exact L4 fF x1 x2 st

noncomputable def f_X7_rolesInAny_L4 (i0 : Nat) : Nat → Int32 → Int32 → fSt → Option (Int32 × fSt)
  | 0, _, _, _ => none
  | n6 + 1, x3, x4, s5 =>
      if (gI s5 7 i0 2) ≤ x4 then
        (some (x3, s5))
      else
        (fIx x4 12 <|
        fLt (x3 ||| (gA s5 7 i0 9 x4.toNatClampNeg)) fun (x7 : Int32) =>
        fLt (x4 + (1 : Int32)) fun (x8 : Int32) =>
        f_X7_rolesInAny_L4 i0 n6 x7 x8 s5)

noncomputable def f_X7_rolesInAny (i0 : Nat) (st : fSt) : Option (Int32 × fSt) :=
  fLt ((0 : Int32)) fun (x1 : Int32) =>
  fLt ((0 : Int32)) fun (x2 : Int32) =>
  f_X7_rolesInAny_L4 i0 fF x1 x2 st

set_option maxHeartbeats 4000000 in
set_option maxRecDepth 100000 in
theorem c_X7_rolesInAny (Δ : fDl) (hN : fNx Δ) (i0 : Nat) (hi0 : i0 < fN Δ 7)  (st : fSt) : fMt eI Δ yX7_rolesInAny cX7_rolesInAny 3 (some .int) 1 [.ref (fad Δ 7 i0 0)] st (f_X7_rolesInAny i0 st) := by
  unfold f_X7_rolesInAny
  refine r_method (by decide +kernel) (Nat.le_of_ble_eq_true rfl) (fun Γ C => ?_)
  have C : fC Δ Γ cX7_rolesInAny RX7 3 (some .int) 1 := C
  refine r_locs (lc' := [(0, .ref (fad Δ 7 i0 0))]) [0] rfl ?_
  refine r_iconst (q := 1) (v := 0) C dX7_rolesInAny_0 rfl (by decide) ?_
  refine r_istore_n (q := 2) (i := 1) [(0, .ref (fad Δ 7 i0 0))] C dX7_rolesInAny_1 rfl rfl (by decide) rfl (fun x1 => ?_)
  refine r_iconst (q := 3) (v := 0) C dX7_rolesInAny_2 rfl (by decide) ?_
  refine r_istore_n (q := 4) (i := 2) [(1, .int x1), (0, .ref (fad Δ 7 i0 0))] C dX7_rolesInAny_3 rfl rfl (by decide) rfl (fun x2 => ?_)
  refine r_locs (lc' := [(0, .ref (fad Δ 7 i0 0)), (1, .int x1), (2, .int x2)]) [2, 1, 0] rfl ?_
  have L4 : ∀ (n6 : Nat) (x3 : Int32) (x4 : Int32) (s5 : fSt), fW Δ Γ 3 (fQ eI Δ Γ) 4 [(0, .ref (fad Δ 7 i0 0)), (1, .int x3), (2, .int x4)] [] s5 (f_X7_rolesInAny_L4 i0 n6 x3 x4 s5) := by
    intro n6
    induction n6 with
    | zero =>
      intro x3 x4 s5
      rw [f_X7_rolesInAny_L4]
      exact r_none
    | succ n6 ih_n6 =>
      intro x3 x4 s5
      rw [f_X7_rolesInAny_L4]
      refine r_iload_n (q := 5) (i := 2) (z := 2) C dX7_rolesInAny_4 rfl rfl rfl ?_
      refine r_aload_n (q := 6) (i := 0) (z := 0) C dX7_rolesInAny_5 rfl rfl rfl ?_
      refine g_X7_103 (q := 9) C hi0 dX7_rolesInAny_6 rfl ?_
      refine r_icmp_ge (q := 12) (tgt := 27) C dX7_rolesInAny_9 (by decide) rfl ?_ ?_
      · refine r_iload_n (q := 28) (i := 1) (z := 1) C dX7_rolesInAny_27 rfl rfl rfl ?_
        exact r_iret C dX7_rolesInAny_28
      · refine r_iload_n (q := 13) (i := 1) (z := 1) C dX7_rolesInAny_12 rfl rfl rfl ?_
        refine r_aload_n (q := 14) (i := 0) (z := 0) C dX7_rolesInAny_13 rfl rfl rfl ?_
        refine g_X7_37 (q := 17) C hi0 dX7_rolesInAny_14 rfl ?_
        refine r_iload_n (q := 18) (i := 2) (z := 2) C dX7_rolesInAny_17 rfl rfl rfl ?_
        refine r_ial (q := 19) q_7_9 h_7_9 C hi0 dX7_rolesInAny_18 rfl ?_
        refine r_ior (q := 20) C dX7_rolesInAny_19 rfl ?_
        refine r_istore_n (q := 21) (i := 1) [(0, .ref (fad Δ 7 i0 0)), (2, .int x4)] C dX7_rolesInAny_20 rfl rfl (by decide) rfl (fun x7 => ?_)
        refine r_iinc (q := 24) (z := 2) (d := 1) [(1, .int x7), (0, .ref (fad Δ 7 i0 0))] C dX7_rolesInAny_21 rfl rfl (by decide) (by decide) rfl (fun x8 => ?_)
        refine r_goto (q := 4) C dX7_rolesInAny_24 (by decide) ?_
        refine r_locs (lc' := [(0, .ref (fad Δ 7 i0 0)), (1, .int x7), (2, .int x8)]) [2, 1, 0] rfl ?_
        exact ih_n6 x7 x8 s5
  exact L4 fF x1 x2 st

noncomputable def f_X7_rolesInEach_L11 (i0 : Nat) (a1 : Int32) : Nat → Int32 → Int32 → fSt → Option (Int32 × fSt)
  | 0, _, _, _ => none
  | n6 + 1, x3, x4, s5 =>
      if (gI s5 7 i0 2) ≤ x4 then
        (some (x3, s5))
      else
        (fJn (fun (x7 : Int32) (s8 : fSt) =>
          (fLt (x4 + (1 : Int32)) fun (x10 : Int32) =>
          f_X7_rolesInEach_L11 i0 a1 n6 x7 x10 s8)) fun (j9 : Int32 → fSt → Option (Int32 × fSt)) =>
        if ((a1 >>> (x4 &&& 31)) &&& ((1 : Int32))) = 0 then
          (j9 x3 s5)
        else
          (fIx x4 12 <|
          fLt (x3 &&& (gA s5 7 i0 9 x4.toNatClampNeg)) fun (x11 : Int32) =>
          j9 x11 s5))

noncomputable def f_X7_rolesInEach (i0 : Nat) (a1 : Int32) (st : fSt) : Option (Int32 × fSt) :=
  fLt ((((1 : Int32)) <<< ((gI st 7 i0 0) &&& 31)) - ((1 : Int32))) fun (x1 : Int32) =>
  fLt ((0 : Int32)) fun (x2 : Int32) =>
  f_X7_rolesInEach_L11 i0 a1 fF x1 x2 st

set_option maxHeartbeats 4000000 in
set_option maxRecDepth 100000 in
theorem c_X7_rolesInEach (Δ : fDl) (hN : fNx Δ) (i0 : Nat) (a1 : Int32) (hi0 : i0 < fN Δ 7)  (st : fSt) : fMt eI Δ yX7_rolesInEach cX7_rolesInEach 4 (some .int) 1 [.ref (fad Δ 7 i0 0), .int a1] st (f_X7_rolesInEach i0 a1 st) := by
  unfold f_X7_rolesInEach
  refine r_method (by decide +kernel) (Nat.le_of_ble_eq_true rfl) (fun Γ C => ?_)
  have C : fC Δ Γ cX7_rolesInEach RX7 4 (some .int) 1 := C
  refine r_locs (lc' := [(0, .ref (fad Δ 7 i0 0)), (1, .int a1)]) [0, 1] rfl ?_
  refine r_iconst (q := 1) (v := 1) C dX7_rolesInEach_0 rfl (by decide) ?_
  refine r_aload_n (q := 2) (i := 0) (z := 0) C dX7_rolesInEach_1 rfl rfl rfl ?_
  refine g_X7_78 (q := 5) C hi0 dX7_rolesInEach_2 rfl ?_
  refine r_ishl (q := 6) C dX7_rolesInEach_5 rfl ?_
  refine r_iconst (q := 7) (v := 1) C dX7_rolesInEach_6 rfl (by decide) ?_
  refine r_isub (q := 8) C dX7_rolesInEach_7 rfl ?_
  refine r_istore_n (q := 9) (i := 2) [(0, .ref (fad Δ 7 i0 0)), (1, .int a1)] C dX7_rolesInEach_8 rfl rfl (by decide) rfl (fun x1 => ?_)
  refine r_iconst (q := 10) (v := 0) C dX7_rolesInEach_9 rfl (by decide) ?_
  refine r_istore_n (q := 11) (i := 3) [(2, .int x1), (0, .ref (fad Δ 7 i0 0)), (1, .int a1)] C dX7_rolesInEach_10 rfl rfl (by decide) rfl (fun x2 => ?_)
  refine r_locs (lc' := [(0, .ref (fad Δ 7 i0 0)), (1, .int a1), (2, .int x1), (3, .int x2)]) [2, 3, 1, 0] rfl ?_
  have L11 : ∀ (n6 : Nat) (x3 : Int32) (x4 : Int32) (s5 : fSt), fW Δ Γ 4 (fQ eI Δ Γ) 11 [(0, .ref (fad Δ 7 i0 0)), (1, .int a1), (2, .int x3), (3, .int x4)] [] s5 (f_X7_rolesInEach_L11 i0 a1 n6 x3 x4 s5) := by
    intro n6
    induction n6 with
    | zero =>
      intro x3 x4 s5
      rw [f_X7_rolesInEach_L11]
      exact r_none
    | succ n6 ih_n6 =>
      intro x3 x4 s5
      rw [f_X7_rolesInEach_L11]
      refine r_iload_n (q := 12) (i := 3) (z := 3) C dX7_rolesInEach_11 rfl rfl rfl ?_
      refine r_aload_n (q := 13) (i := 0) (z := 0) C dX7_rolesInEach_12 rfl rfl rfl ?_
      refine g_X7_103 (q := 16) C hi0 dX7_rolesInEach_13 rfl ?_
      refine r_icmp_ge (q := 19) (tgt := 42) C dX7_rolesInEach_16 (by decide) rfl ?_ ?_
      · refine r_iload_n (q := 43) (i := 2) (z := 2) C dX7_rolesInEach_42 rfl rfl rfl ?_
        exact r_iret C dX7_rolesInEach_43
      · refine r_iload_n (q := 20) (i := 1) (z := 1) C dX7_rolesInEach_19 rfl rfl rfl ?_
        refine r_iload_n (q := 21) (i := 3) (z := 3) C dX7_rolesInEach_20 rfl rfl rfl ?_
        refine r_ishr (q := 22) C dX7_rolesInEach_21 rfl ?_
        refine r_iconst (q := 23) (v := 1) C dX7_rolesInEach_22 rfl (by decide) ?_
        refine r_iand (q := 24) C dX7_rolesInEach_23 rfl ?_
        refine r_join (fun j9 => ∀ (x7 : Int32) (s8 : fSt), fW Δ Γ 4 (fQ eI Δ Γ) 36 [(0, .ref (fad Δ 7 i0 0)), (1, .int a1), (2, .int x7), (3, .int x4)] [] s8 (j9 x7 s8)) ?_ (fun j9 hj9 => ?_)
        · intro x7 s8
          refine r_iinc (q := 39) (z := 3) (d := 1) [(0, .ref (fad Δ 7 i0 0)), (1, .int a1), (2, .int x7)] C dX7_rolesInEach_36 rfl rfl (by decide) (by decide) rfl (fun x10 => ?_)
          refine r_goto (q := 11) C dX7_rolesInEach_39 (by decide) ?_
          refine r_locs (lc' := [(0, .ref (fad Δ 7 i0 0)), (1, .int a1), (2, .int x7), (3, .int x10)]) [1, 2, 3, 0] rfl ?_
          exact ih_n6 x7 x10 s8
        refine r_if_eq (q := 27) (tgt := 36) C dX7_rolesInEach_24 (by decide) rfl ?_ ?_
        · exact hj9 x3 s5
        · refine r_iload_n (q := 28) (i := 2) (z := 2) C dX7_rolesInEach_27 rfl rfl rfl ?_
          refine r_aload_n (q := 29) (i := 0) (z := 0) C dX7_rolesInEach_28 rfl rfl rfl ?_
          refine g_X7_37 (q := 32) C hi0 dX7_rolesInEach_29 rfl ?_
          refine r_iload_n (q := 33) (i := 3) (z := 3) C dX7_rolesInEach_32 rfl rfl rfl ?_
          refine r_ial (q := 34) q_7_9 h_7_9 C hi0 dX7_rolesInEach_33 rfl ?_
          refine r_iand (q := 35) C dX7_rolesInEach_34 rfl ?_
          refine r_istore_n (q := 36) (i := 2) [(0, .ref (fad Δ 7 i0 0)), (1, .int a1), (3, .int x4)] C dX7_rolesInEach_35 rfl rfl (by decide) rfl (fun x11 => ?_)
          refine r_locs (lc' := [(0, .ref (fad Δ 7 i0 0)), (1, .int a1), (2, .int x11), (3, .int x4)]) [1, 2, 0, 3] rfl ?_
          exact hj9 x11 s5
  exact L11 fF x1 x2 st

noncomputable def f_X8_layOut (i0 : Nat) (a1 : Int32) (a2 : Int32) (st : fSt) : Option (Unit × fSt) :=
  fBd (f_J7_fill_d0a16 8 i0 1 60 ((0 : Int64)) st) fun _ s1 =>
  fBo ((1 : Int32)) <| fLt (sI s1 8 i0 1 ((1 : Int32))) fun s2 =>
  fLt (sI s2 8 i0 2 a1) fun s3 =>
  fLt (sI s3 8 i0 3 a2) fun s4 =>
  some ((), s4)

set_option maxHeartbeats 4000000 in
set_option maxRecDepth 100000 in
theorem c_X8_layOut (Δ : fDl) (hN : fNx Δ) (i0 : Nat) (a1 : Int32) (a2 : Int32) (hi0 : i0 < fN Δ 8)  (st : fSt) : fMt eV Δ yX8_layOut cX8_layOut 3 none 2 [.ref (fad Δ 8 i0 0), .int a1, .int a2] st (f_X8_layOut i0 a1 a2 st) := by
  unfold f_X8_layOut
  refine r_method (by decide +kernel) (Nat.le_of_ble_eq_true rfl) (fun Γ C => ?_)
  have C : fC Δ Γ cX8_layOut RX8 3 none 2 := C
  refine r_locs (lc' := [(0, .ref (fad Δ 8 i0 0)), (1, .int a1), (2, .int a2)]) [0, 1, 2] rfl ?_
  refine r_aload_n (q := 1) (i := 0) (z := 0) C dX8_layOut_0 rfl rfl rfl ?_
  refine g_X8_9 (q := 4) C hi0 dX8_layOut_1 rfl ?_
  refine r_lconst (q := 5) (v := 0) C dX8_layOut_4 rfl (by decide) ?_
  refine r_callSV (q := 8) (As := [.ref (fad Δ 8 i0 1), .long ((0 : Int64))]) wm_X8_15 ysJ7_fill_d0a16 (c_J7_fill_d0a16 Δ 8 i0 1 60 ((0 : Int64)) q_8_1 h_8_1 hi0 st) C (by decide) rfl (Nat.le_of_ble_eq_true rfl) dX8_layOut_5 rfl (fun _ s1 => ?_)
  refine r_aload_n (q := 9) (i := 0) (z := 0) C dX8_layOut_8 rfl rfl rfl ?_
  refine r_iconst (q := 10) (v := 1) C dX8_layOut_9 rfl (by decide) ?_
  refine p_X8_21 (q := 13) C hi0 dX8_layOut_10 rfl (fun s2 => ?_)
  refine r_aload_n (q := 14) (i := 0) (z := 0) C dX8_layOut_13 rfl rfl rfl ?_
  refine r_iload_n (q := 15) (i := 1) (z := 1) C dX8_layOut_14 rfl rfl rfl ?_
  refine p_X8_25 (q := 18) C hi0 dX8_layOut_15 rfl (fun s3 => ?_)
  refine r_aload_n (q := 19) (i := 0) (z := 0) C dX8_layOut_18 rfl rfl rfl ?_
  refine r_iload_n (q := 20) (i := 2) (z := 2) C dX8_layOut_19 rfl rfl rfl ?_
  refine p_X8_29 (q := 23) C hi0 dX8_layOut_20 rfl (fun s4 => ?_)
  exact r_vret C dX8_layOut_23

noncomputable def f_X8_cut (i0 : Nat) (a1 : Int64) (st : fSt) : Option (Int64 × fSt) :=
  if (gI st 8 i0 2) = (0 : Int32) then
    (some (a1.toInt32.toInt8.toInt32.toInt64, st))
  else
  if (gI st 8 i0 2) = (1 : Int32) then
    (some (a1.toInt32.toInt16.toInt32.toInt64, st))
  else
  if (gI st 8 i0 2) = (2 : Int32) then
    (some (a1.toInt32.toInt64, st))
  else
  some (a1, st)

set_option maxHeartbeats 4000000 in
set_option maxRecDepth 100000 in
theorem c_X8_cut (Δ : fDl) (hN : fNx Δ) (i0 : Nat) (a1 : Int64) (hi0 : i0 < fN Δ 8)  (st : fSt) : fMt eL Δ yX8_cut cX8_cut 3 (some .long) 1 [.ref (fad Δ 8 i0 0), .long a1] st (f_X8_cut i0 a1 st) := by
  unfold f_X8_cut
  refine r_method (by decide +kernel) (Nat.le_of_ble_eq_true rfl) (fun Γ C => ?_)
  have C : fC Δ Γ cX8_cut RX8 3 (some .long) 1 := C
  refine r_locs (lc' := [(0, .ref (fad Δ 8 i0 0)), (1, .long a1)]) [0, 1] rfl ?_
  refine r_aload_n (q := 1) (i := 0) (z := 0) C dX8_cut_0 rfl rfl rfl ?_
  refine g_X8_25 (q := 4) C hi0 dX8_cut_1 rfl ?_
  refine r_bif (fun hs1 => ?_) (fun hs1 => ?_)
  · refine r_tsHit (tgt := 32) (n := 0) C dX8_cut_4 hs1 (by decide) (by decide) (by decide) rfl (by decide) ?_
    refine r_lload_n (q := 33) (i := 1) (z := 1) C dX8_cut_32 rfl rfl rfl ?_
    refine r_l2i (q := 34) C dX8_cut_33 rfl ?_
    refine r_i2b (q := 35) C dX8_cut_34 rfl ?_
    refine r_i2l (q := 36) C dX8_cut_35 rfl ?_
    exact r_lret C dX8_cut_36
  refine r_bif (fun hs2 => ?_) (fun hs2 => ?_)
  · refine r_tsHit (tgt := 37) (n := 1) C dX8_cut_4 hs2 (by decide) (by decide) (by decide) rfl (by decide) ?_
    refine r_lload_n (q := 38) (i := 1) (z := 1) C dX8_cut_37 rfl rfl rfl ?_
    refine r_l2i (q := 39) C dX8_cut_38 rfl ?_
    refine r_i2s (q := 40) C dX8_cut_39 rfl ?_
    refine r_i2l (q := 41) C dX8_cut_40 rfl ?_
    exact r_lret C dX8_cut_41
  refine r_bif (fun hs3 => ?_) (fun hs3 => ?_)
  · refine r_tsHit (tgt := 42) (n := 2) C dX8_cut_4 hs3 (by decide) (by decide) (by decide) rfl (by decide) ?_
    refine r_lload_n (q := 43) (i := 1) (z := 1) C dX8_cut_42 rfl rfl rfl ?_
    refine r_l2i (q := 44) C dX8_cut_43 rfl ?_
    refine r_i2l (q := 45) C dX8_cut_44 rfl ?_
    exact r_lret C dX8_cut_45
  refine r_tsDef (tgt := 46) C dX8_cut_4 (by have ehs1 := fNe hs1 0 (by decide); have ehs2 := fNe hs2 1 (by decide); have ehs3 := fNe hs3 2 (by decide); omega) (by decide) ?_
  refine r_lload_n (q := 47) (i := 1) (z := 1) C dX8_cut_46 rfl rfl rfl ?_
  exact r_lret C dX8_cut_47

noncomputable def f_X8_put (i0 : Nat) (a1 : Int32) (a2 : Int64) (st : fSt) : Option (Unit × fSt) :=
  fBd (f_X8_cut i0 a2 st) fun x1 s2 =>
  fIx a1 60 <|
  fLt (sB s2 8 i0 1 (vp_updL (gB s2 8 i0 1) a1.toNatClampNeg x1)) fun s3 =>
  some ((), s3)

set_option maxHeartbeats 4000000 in
set_option maxRecDepth 100000 in
theorem c_X8_put (Δ : fDl) (hN : fNx Δ) (i0 : Nat) (a1 : Int32) (a2 : Int64) (hi0 : i0 < fN Δ 8)  (st : fSt) : fMt eV Δ yX8_put cX8_put 4 none 2 [.ref (fad Δ 8 i0 0), .int a1, .long a2] st (f_X8_put i0 a1 a2 st) := by
  unfold f_X8_put
  refine r_method (by decide +kernel) (Nat.le_of_ble_eq_true rfl) (fun Γ C => ?_)
  have C : fC Δ Γ cX8_put RX8 4 none 2 := C
  refine r_locs (lc' := [(0, .ref (fad Δ 8 i0 0)), (1, .int a1), (2, .long a2)]) [0, 1, 2] rfl ?_
  refine r_aload_n (q := 1) (i := 0) (z := 0) C dX8_put_0 rfl rfl rfl ?_
  refine g_X8_9 (q := 4) C hi0 dX8_put_1 rfl ?_
  refine r_iload_n (q := 5) (i := 1) (z := 1) C dX8_put_4 rfl rfl rfl ?_
  refine r_aload_n (q := 6) (i := 0) (z := 0) C dX8_put_5 rfl rfl rfl ?_
  refine r_lload_n (q := 7) (i := 2) (z := 2) C dX8_put_6 rfl rfl rfl ?_
  refine r_callVL (q := 10) (As := [.long a2]) wm_X8_32 yvX8_cut (c_X8_cut Δ hN i0 a2 hi0 st) ⟨rfl, by decide⟩ C hi0 (by decide) rfl (Nat.le_of_ble_eq_true rfl) dX8_put_7 rfl (fun x1 s2 => ?_)
  refine r_lst (q := 11) q_8_1 h_8_1 C hi0 dX8_put_10 rfl (fun s3 => ?_)
  exact r_vret C dX8_put_11

noncomputable def f_X8_hasPlaces (i0 : Nat) (a1 : Int32) (a2 : Int32) (st : fSt) : Option (Int32 × fSt) :=
  fJn (fun (x1 : Int32) (s2 : fSt) =>
    (fBo x1 (some (x1, s2)))) fun (j3 : Int32 → fSt → Option (Int32 × fSt)) =>
  fJn (fun (s4 : fSt) =>
    (j3 ((0 : Int32)) s4)) fun (j5 : fSt → Option (Int32 × fSt)) =>
  if a1 < 0 then
    (j5 st)
  else
    (if a2 < 0 then
      (j5 st)
    else
      (if 0 < (lg_cmp (a1.toInt64 + a2.toInt64) ((gI st 8 i0 3).toInt64)) then
        (j5 st)
      else
        (j3 ((1 : Int32)) st)))

set_option maxHeartbeats 4000000 in
set_option maxRecDepth 100000 in
theorem c_X8_hasPlaces (Δ : fDl) (hN : fNx Δ) (i0 : Nat) (a1 : Int32) (a2 : Int32) (hi0 : i0 < fN Δ 8)  (st : fSt) : fMt eI Δ yX8_hasPlaces cX8_hasPlaces 3 (some .boolean) 1 [.ref (fad Δ 8 i0 0), .int a1, .int a2] st (f_X8_hasPlaces i0 a1 a2 st) := by
  unfold f_X8_hasPlaces
  refine r_method (by decide +kernel) (Nat.le_of_ble_eq_true rfl) (fun Γ C => ?_)
  have C : fC Δ Γ cX8_hasPlaces RX8 3 (some .boolean) 1 := C
  refine r_locs (lc' := [(0, .ref (fad Δ 8 i0 0)), (1, .int a1), (2, .int a2)]) [0, 1, 2] rfl ?_
  refine r_iload_n (q := 1) (i := 1) (z := 1) C dX8_hasPlaces_0 rfl rfl rfl ?_
  refine r_join (fun j3 => ∀ (x1 : Int32) (s2 : fSt), fW Δ Γ 3 (fQ eI Δ Γ) 27 [] [.int x1] s2 (j3 x1 s2)) ?_ (fun j3 hj3 => ?_)
  · intro x1 s2
    exact r_zret C dX8_hasPlaces_27
  refine r_join (fun j5 => ∀  (s4 : fSt), fW Δ Γ 3 (fQ eI Δ Γ) 26 [] [] s4 (j5 s4)) ?_ (fun j5 hj5 => ?_)
  · intro s4
    refine r_iconst (q := 27) (v := 0) C dX8_hasPlaces_26 rfl (by decide) ?_
    exact hj3 ((0 : Int32)) s4
  refine r_if_lt (q := 4) (tgt := 26) C dX8_hasPlaces_1 (by decide) rfl ?_ ?_
  · refine r_locs (lc' := []) [] rfl ?_
    exact hj5 st
  · refine r_iload_n (q := 5) (i := 2) (z := 2) C dX8_hasPlaces_4 rfl rfl rfl ?_
    refine r_if_lt (q := 8) (tgt := 26) C dX8_hasPlaces_5 (by decide) rfl ?_ ?_
    · refine r_locs (lc' := []) [] rfl ?_
      exact hj5 st
    · refine r_iload_n (q := 9) (i := 1) (z := 1) C dX8_hasPlaces_8 rfl rfl rfl ?_
      refine r_i2l (q := 10) C dX8_hasPlaces_9 rfl ?_
      refine r_iload_n (q := 11) (i := 2) (z := 2) C dX8_hasPlaces_10 rfl rfl rfl ?_
      refine r_i2l (q := 12) C dX8_hasPlaces_11 rfl ?_
      refine r_ladd (q := 13) C dX8_hasPlaces_12 rfl ?_
      refine r_aload_n (q := 14) (i := 0) (z := 0) C dX8_hasPlaces_13 rfl rfl rfl ?_
      refine g_X8_29 (q := 17) C hi0 dX8_hasPlaces_14 rfl ?_
      refine r_i2l (q := 18) C dX8_hasPlaces_17 rfl ?_
      refine r_lcmp (q := 19) C dX8_hasPlaces_18 rfl ?_
      refine r_if_gt (q := 22) (tgt := 26) C dX8_hasPlaces_19 (by decide) rfl ?_ ?_
      · refine r_locs (lc' := []) [] rfl ?_
        exact hj5 st
      · refine r_iconst (q := 23) (v := 1) C dX8_hasPlaces_22 rfl (by decide) ?_
        refine r_goto (q := 27) C dX8_hasPlaces_23 (by decide) ?_
        refine r_locs (lc' := []) [] rfl ?_
        exact hj3 ((1 : Int32)) st

noncomputable def f_X8_holdsDeeds_L2 (i0 : Nat) (a1 : Int32) (k3 : fSt → Option (Int32 × fSt)) (k5 : fSt → Option (Int32 × fSt)) : Nat → Int32 → fSt → Option (Int32 × fSt)
  | 0, _, _ => none
  | n8 + 1, x6, s7 =>
      if a1 ≤ x6 then
        (k3 s7)
      else
        (if (gI s7 8 i0 3) ≤ x6 then
          (k3 s7)
        else
          (fIx x6 60 <|
          if (lg_cmp (gB s7 8 i0 1 x6.toNatClampNeg) ((0 : Int64))) < 0 then
            (k5 s7)
          else
            (fIx x6 60 <|
            if (lg_cmp (gB s7 8 i0 1 x6.toNatClampNeg) ((4 : Int64))) < 0 then
              (fLt (x6 + (1 : Int32)) fun (x9 : Int32) =>
              f_X8_holdsDeeds_L2 i0 a1 k3 k5 n8 x9 s7)
            else
              (k5 s7))))

noncomputable def f_X8_holdsDeeds (i0 : Nat) (a1 : Int32) (st : fSt) : Option (Int32 × fSt) :=
  fLt ((0 : Int32)) fun (x1 : Int32) =>
  fJn (fun (s2 : fSt) =>
    (some ((1 : Int32), s2))) fun (k3 : fSt → Option (Int32 × fSt)) =>
  fJn (fun (s4 : fSt) =>
    (some ((0 : Int32), s4))) fun (k5 : fSt → Option (Int32 × fSt)) =>
  f_X8_holdsDeeds_L2 i0 a1 k3 k5 fF x1 st

set_option maxHeartbeats 4000000 in
set_option maxRecDepth 100000 in
theorem c_X8_holdsDeeds (Δ : fDl) (hN : fNx Δ) (i0 : Nat) (a1 : Int32) (hi0 : i0 < fN Δ 8)  (st : fSt) : fMt eI Δ yX8_holdsDeeds cX8_holdsDeeds 3 (some .boolean) 1 [.ref (fad Δ 8 i0 0), .int a1] st (f_X8_holdsDeeds i0 a1 st) := by
  unfold f_X8_holdsDeeds
  refine r_method (by decide +kernel) (Nat.le_of_ble_eq_true rfl) (fun Γ C => ?_)
  have C : fC Δ Γ cX8_holdsDeeds RX8 3 (some .boolean) 1 := C
  refine r_locs (lc' := [(0, .ref (fad Δ 8 i0 0)), (1, .int a1)]) [0, 1] rfl ?_
  refine r_iconst (q := 1) (v := 0) C dX8_holdsDeeds_0 rfl (by decide) ?_
  refine r_istore_n (q := 2) (i := 2) [(0, .ref (fad Δ 8 i0 0)), (1, .int a1)] C dX8_holdsDeeds_1 rfl rfl (by decide) rfl (fun x1 => ?_)
  refine r_join (fun k3 => ∀  (s2 : fSt), fW Δ Γ 3 (fQ eI Δ Γ) 47 [] [] s2 (k3 s2)) ?_ (fun k3 hk3 => ?_)
  · intro s2
    refine r_iconst (q := 48) (v := 1) C dX8_holdsDeeds_47 rfl (by decide) ?_
    exact r_zret0 (Or.inr rfl) C dX8_holdsDeeds_48
  refine r_join (fun k5 => ∀  (s4 : fSt), fW Δ Γ 3 (fQ eI Δ Γ) 39 [] [] s4 (k5 s4)) ?_ (fun k5 hk5 => ?_)
  · intro s4
    refine r_iconst (q := 40) (v := 0) C dX8_holdsDeeds_39 rfl (by decide) ?_
    exact r_zret0 (Or.inl rfl) C dX8_holdsDeeds_40
  refine r_locs (lc' := [(0, .ref (fad Δ 8 i0 0)), (1, .int a1), (2, .int x1)]) [1, 2, 0] rfl ?_
  have L2 : ∀ (n8 : Nat) (x6 : Int32) (s7 : fSt), fW Δ Γ 3 (fQ eI Δ Γ) 2 [(0, .ref (fad Δ 8 i0 0)), (1, .int a1), (2, .int x6)] [] s7 (f_X8_holdsDeeds_L2 i0 a1 k3 k5 n8 x6 s7) := by
    intro n8
    induction n8 with
    | zero =>
      intro x6 s7
      rw [f_X8_holdsDeeds_L2]
      exact r_none
    | succ n8 ih_n8 =>
      intro x6 s7
      rw [f_X8_holdsDeeds_L2]
      refine r_iload_n (q := 3) (i := 2) (z := 2) C dX8_holdsDeeds_2 rfl rfl rfl ?_
      refine r_iload_n (q := 4) (i := 1) (z := 1) C dX8_holdsDeeds_3 rfl rfl rfl ?_
      refine r_icmp_ge (q := 7) (tgt := 47) C dX8_holdsDeeds_4 (by decide) rfl ?_ ?_
      · refine r_locs (lc' := []) [] rfl ?_
        exact hk3 s7
      · refine r_iload_n (q := 8) (i := 2) (z := 2) C dX8_holdsDeeds_7 rfl rfl rfl ?_
        refine r_aload_n (q := 9) (i := 0) (z := 0) C dX8_holdsDeeds_8 rfl rfl rfl ?_
        refine g_X8_29 (q := 12) C hi0 dX8_holdsDeeds_9 rfl ?_
        refine r_icmp_ge (q := 15) (tgt := 47) C dX8_holdsDeeds_12 (by decide) rfl ?_ ?_
        · refine r_locs (lc' := []) [] rfl ?_
          exact hk3 s7
        · refine r_aload_n (q := 16) (i := 0) (z := 0) C dX8_holdsDeeds_15 rfl rfl rfl ?_
          refine g_X8_9 (q := 19) C hi0 dX8_holdsDeeds_16 rfl ?_
          refine r_iload_n (q := 20) (i := 2) (z := 2) C dX8_holdsDeeds_19 rfl rfl rfl ?_
          refine r_lal (q := 21) q_8_1 h_8_1 C hi0 dX8_holdsDeeds_20 rfl ?_
          refine r_lconst (q := 22) (v := 0) C dX8_holdsDeeds_21 rfl (by decide) ?_
          refine r_lcmp (q := 23) C dX8_holdsDeeds_22 rfl ?_
          refine r_if_lt (q := 26) (tgt := 39) C dX8_holdsDeeds_23 (by decide) rfl ?_ ?_
          · refine r_locs (lc' := []) [] rfl ?_
            exact hk5 s7
          · refine r_aload_n (q := 27) (i := 0) (z := 0) C dX8_holdsDeeds_26 rfl rfl rfl ?_
            refine g_X8_9 (q := 30) C hi0 dX8_holdsDeeds_27 rfl ?_
            refine r_iload_n (q := 31) (i := 2) (z := 2) C dX8_holdsDeeds_30 rfl rfl rfl ?_
            refine r_lal (q := 32) q_8_1 h_8_1 C hi0 dX8_holdsDeeds_31 rfl ?_
            refine r_ldc2 (q := 35) C dX8_holdsDeeds_32 rfl wl_X8_36 ?_
            refine r_lcmp (q := 36) C dX8_holdsDeeds_35 rfl ?_
            refine r_if_lt (q := 39) (tgt := 41) C dX8_holdsDeeds_36 (by decide) rfl ?_ ?_
            · refine r_iinc (q := 44) (z := 2) (d := 1) [(0, .ref (fad Δ 8 i0 0)), (1, .int a1)] C dX8_holdsDeeds_41 rfl rfl (by decide) (by decide) rfl (fun x9 => ?_)
              refine r_goto (q := 2) C dX8_holdsDeeds_44 (by decide) ?_
              refine r_locs (lc' := [(0, .ref (fad Δ 8 i0 0)), (1, .int a1), (2, .int x9)]) [1, 2, 0] rfl ?_
              exact ih_n8 x9 s7
            · refine r_locs (lc' := []) [] rfl ?_
              exact hk5 s7
  exact L2 fF x1 st

noncomputable def f_X9_readEnd (i0 : Nat) (st : fSt) : Option (Int32 × fSt) :=
  fBd (f_X11_isIn (gI st 9 i0 7) ((1 : Int32)) ((3 : Int32)) st) fun x1 s2 =>
  fJn (fun (s3 : fSt) =>
    (fBd (f_X5_failHere  s3) fun x5 s6 =>
    fBo x5 (some (x5, s6)))) fun (j4 : fSt → Option (Int32 × fSt)) =>
  if x1 = 0 then
    (j4 s2)
  else
    (if (gI s2 9 i0 0) < ((60 : Int32)) then
      (fLt (sI s2 9 i0 7 ((gI s2 9 i0 7) - ((1 : Int32)))) fun s7 =>
      fIx ((gI s2 9 i0 7) - ((1 : Int32))) 3 <|
      fLt (gA s7 9 i0 5 ((gI s2 9 i0 7) - ((1 : Int32))).toNatClampNeg) fun (x8 : Int32) =>
      fIx x8 60 <|
      fLt (sA s7 9 i0 4 (upd (gA s7 9 i0 4) x8.toNatClampNeg (gI s7 9 i0 0))) fun s9 =>
      fIx (gI s9 9 i0 0) 60 <|
      fLt (sA s9 9 i0 4 (upd (gA s9 9 i0 4) (gI s9 9 i0 0).toNatClampNeg x8)) fun s10 =>
      fLt (sI s10 9 i0 0 ((gI s10 9 i0 0) + ((1 : Int32)))) fun s11 =>
      fIx (gI s10 9 i0 0) 60 <|
      fLt (sA s11 9 i0 1 (upd (gA s11 9 i0 1) (gI s10 9 i0 0).toNatClampNeg ((30 : Int32)))) fun s12 =>
      fBd (f_X5_advance  s12) fun _ s13 =>
      fBd (f_X5_take ((59 : Int32)) s13) fun x14 s15 =>
      fBo x14 (some (x14, s15)))
    else
      (j4 s2))

set_option maxHeartbeats 4000000 in
set_option maxRecDepth 100000 in
theorem c_X9_readEnd (Δ : fDl) (hN : fNx Δ) (i0 : Nat) (hi0 : i0 < fN Δ 9)  (st : fSt) : fMt eI Δ yX9_readEnd cX9_readEnd 3 (some .boolean) 5 [.ref (fad Δ 9 i0 0), .ref (fad Δ 5 0 0)] st (f_X9_readEnd i0 st) := by
  unfold f_X9_readEnd
  refine r_method (by decide +kernel) (Nat.le_of_ble_eq_true rfl) (fun Γ C => ?_)
  have C : fC Δ Γ cX9_readEnd RX9 3 (some .boolean) 5 := C
  refine r_locs (lc' := [(0, .ref (fad Δ 9 i0 0)), (1, .ref (fad Δ 5 0 0))]) [0, 1] rfl ?_
  refine r_aload_n (q := 1) (i := 0) (z := 0) C dX9_readEnd_0 rfl rfl rfl ?_
  refine g_X9_41 (q := 4) C hi0 dX9_readEnd_1 rfl ?_
  refine r_iconst (q := 5) (v := 1) C dX9_readEnd_4 rfl (by decide) ?_
  refine r_iconst (q := 6) (v := 3) C dX9_readEnd_5 rfl (by decide) ?_
  refine r_callSNI (q := 9) (As := [.int (gI st 9 i0 7), .int ((1 : Int32)), .int ((3 : Int32))]) wn_X9_48 ysX11_isIn (c_X11_isIn Δ hN (gI st 9 i0 7) ((1 : Int32)) ((3 : Int32)) st) C (by decide) rfl (Nat.le_of_ble_eq_true rfl) dX9_readEnd_6 rfl (fun x1 s2 => ?_)
  refine r_join (fun j4 => ∀  (s3 : fSt), fW Δ Γ 3 (fQ eI Δ Γ) 21 [(1, .ref (fad Δ 5 0 0))] [] s3 (j4 s3)) ?_ (fun j4 hj4 => ?_)
  · intro s3
    refine r_aload_n (q := 22) (i := 1) (z := 0) C dX9_readEnd_21 rfl rfl rfl ?_
    refine r_callVI (q := 25) (As := []) wm_X9_44 yvX5_failHere (c_X5_failHere Δ hN s3) ⟨rfl, by decide⟩ C (nk_5_0 hN) (by decide) rfl (Nat.le_of_ble_eq_true rfl) dX9_readEnd_22 rfl (fun x5 s6 => ?_)
    exact r_zret C dX9_readEnd_25
  refine r_if_eq (q := 12) (tgt := 21) C dX9_readEnd_9 (by decide) rfl ?_ ?_
  · refine r_locs (lc' := [(1, .ref (fad Δ 5 0 0))]) [1] rfl ?_
    exact hj4 s2
  · refine r_aload_n (q := 13) (i := 0) (z := 0) C dX9_readEnd_12 rfl rfl rfl ?_
    refine g_X9_52 (q := 16) C hi0 dX9_readEnd_13 rfl ?_
    refine r_bipush (q := 18) (v := 60) C dX9_readEnd_16 rfl (by decide) ?_
    refine r_icmp_lt (q := 21) (tgt := 26) C dX9_readEnd_18 (by decide) rfl ?_ ?_
    · refine r_aload_n (q := 27) (i := 0) (z := 0) C dX9_readEnd_26 rfl rfl rfl ?_
      refine g_X9_24 (q := 30) C hi0 dX9_readEnd_27 rfl ?_
      refine r_aload_n (q := 31) (i := 0) (z := 0) C dX9_readEnd_30 rfl rfl rfl ?_
      refine r_dup (q := 32) C dX9_readEnd_31 rfl rfl ?_
      refine g_X9_41 (q := 35) C hi0 dX9_readEnd_32 rfl ?_
      refine r_iconst (q := 36) (v := 1) C dX9_readEnd_35 rfl (by decide) ?_
      refine r_isub (q := 37) C dX9_readEnd_36 rfl ?_
      refine r_dup_x1 (q := 38) C dX9_readEnd_37 rfl rfl rfl ?_
      refine p_X9_41 (q := 41) C hi0 dX9_readEnd_38 rfl (fun s7 => ?_)
      refine r_ial (q := 42) q_9_5 h_9_5 C hi0 dX9_readEnd_41 rfl ?_
      refine r_istore_n (q := 43) (i := 2) [(0, .ref (fad Δ 9 i0 0)), (1, .ref (fad Δ 5 0 0))] C dX9_readEnd_42 rfl rfl (by decide) rfl (fun x8 => ?_)
      refine r_aload_n (q := 44) (i := 0) (z := 1) C dX9_readEnd_43 rfl rfl rfl ?_
      refine g_X9_21 (q := 47) C hi0 dX9_readEnd_44 rfl ?_
      refine r_iload_n (q := 48) (i := 2) (z := 0) C dX9_readEnd_47 rfl rfl rfl ?_
      refine r_aload_n (q := 49) (i := 0) (z := 1) C dX9_readEnd_48 rfl rfl rfl ?_
      refine g_X9_52 (q := 52) C hi0 dX9_readEnd_49 rfl ?_
      refine r_ast (q := 53) q_9_4 h_9_4 C hi0 dX9_readEnd_52 rfl (fun s9 => ?_)
      refine r_aload_n (q := 54) (i := 0) (z := 1) C dX9_readEnd_53 rfl rfl rfl ?_
      refine g_X9_21 (q := 57) C hi0 dX9_readEnd_54 rfl ?_
      refine r_aload_n (q := 58) (i := 0) (z := 1) C dX9_readEnd_57 rfl rfl rfl ?_
      refine g_X9_52 (q := 61) C hi0 dX9_readEnd_58 rfl ?_
      refine r_iload_n (q := 62) (i := 2) (z := 0) C dX9_readEnd_61 rfl rfl rfl ?_
      refine r_ast (q := 63) q_9_4 h_9_4 C hi0 dX9_readEnd_62 rfl (fun s10 => ?_)
      refine r_aload_n (q := 64) (i := 0) (z := 1) C dX9_readEnd_63 rfl rfl rfl ?_
      refine g_X9_11 (q := 67) C hi0 dX9_readEnd_64 rfl ?_
      refine r_aload_n (q := 68) (i := 0) (z := 1) C dX9_readEnd_67 rfl rfl rfl ?_
      refine r_dup (q := 69) C dX9_readEnd_68 rfl rfl ?_
      refine g_X9_52 (q := 72) C hi0 dX9_readEnd_69 rfl ?_
      refine r_dup_x1 (q := 73) C dX9_readEnd_72 rfl rfl rfl ?_
      refine r_iconst (q := 74) (v := 1) C dX9_readEnd_73 rfl (by decide) ?_
      refine r_iadd (q := 75) C dX9_readEnd_74 rfl ?_
      refine p_X9_52 (q := 78) C hi0 dX9_readEnd_75 rfl (fun s11 => ?_)
      refine r_bipush (q := 80) (v := 30) C dX9_readEnd_78 rfl (by decide) ?_
      refine r_ast (q := 81) q_9_1 h_9_1 C hi0 dX9_readEnd_80 rfl (fun s12 => ?_)
      refine r_aload_n (q := 82) (i := 1) (z := 2) C dX9_readEnd_81 rfl rfl rfl ?_
      refine r_callVV (q := 85) (As := []) wm_X9_55 yvX5_advance (c_X5_advance Δ hN s12) ⟨rfl, by decide⟩ C (nk_5_0 hN) (by decide) rfl (Nat.le_of_ble_eq_true rfl) dX9_readEnd_82 rfl (fun _ s13 => ?_)
      refine r_aload_n (q := 86) (i := 1) (z := 2) C dX9_readEnd_85 rfl rfl rfl ?_
      refine r_bipush (q := 88) (v := 59) C dX9_readEnd_86 rfl (by decide) ?_
      refine r_callVI (q := 91) (As := [.int ((59 : Int32))]) wm_X9_58 yvX5_take (c_X5_take Δ hN ((59 : Int32)) s13) ⟨rfl, by decide⟩ C (nk_5_0 hN) (by decide) rfl (Nat.le_of_ble_eq_true rfl) dX9_readEnd_88 rfl (fun x14 s15 => ?_)
      exact r_zret C dX9_readEnd_91
    · refine r_locs (lc' := [(1, .ref (fad Δ 5 0 0))]) [1] rfl ?_
      exact hj4 s2

noncomputable def f_X9_readCompare (i0 : Nat) (st : fSt) : Option (Int32 × fSt) :=
  fJn (fun (s1 : fSt) =>
    (fIx (gI s1 9 i0 0) 60 <|
    fLt (sA s1 9 i0 3 (upd (gA s1 9 i0 3) (gI s1 9 i0 0).toNatClampNeg (gI s1 5 0 6))) fun s3 =>
    fBd (f_X5_advance  s3) fun _ s4 =>
    some ((1 : Int32), s4))) fun (j2 : fSt → Option (Int32 × fSt)) =>
  if (gI st 5 0 6) = ((60 : Int32)) then
    (j2 st)
  else
    (if (gI st 5 0 6) = ((62 : Int32)) then
      (j2 st)
    else
      (if (gI st 5 0 6) = ((61 : Int32)) then
        (j2 st)
      else
        (fBd (f_X5_failHere  st) fun x5 s6 =>
        fBo x5 (some (x5, s6)))))

set_option maxHeartbeats 4000000 in
set_option maxRecDepth 100000 in
theorem c_X9_readCompare (Δ : fDl) (hN : fNx Δ) (i0 : Nat) (hi0 : i0 < fN Δ 9)  (st : fSt) : fMt eI Δ yX9_readCompare cX9_readCompare 2 (some .boolean) 4 [.ref (fad Δ 9 i0 0), .ref (fad Δ 5 0 0)] st (f_X9_readCompare i0 st) := by
  unfold f_X9_readCompare
  refine r_method (by decide +kernel) (Nat.le_of_ble_eq_true rfl) (fun Γ C => ?_)
  have C : fC Δ Γ cX9_readCompare RX9 2 (some .boolean) 4 := C
  refine r_locs (lc' := [(0, .ref (fad Δ 9 i0 0)), (1, .ref (fad Δ 5 0 0))]) [0, 1] rfl ?_
  refine r_aload_n (q := 1) (i := 1) (z := 1) C dX9_readCompare_0 rfl rfl rfl ?_
  refine g_X9_27 (q := 4) C (nk_5_0 hN) dX9_readCompare_1 rfl ?_
  refine r_bipush (q := 6) (v := 60) C dX9_readCompare_4 rfl (by decide) ?_
  refine r_join (fun j2 => ∀  (s1 : fSt), fW Δ Γ 2 (fQ eI Δ Γ) 32 [(0, .ref (fad Δ 9 i0 0)), (1, .ref (fad Δ 5 0 0))] [] s1 (j2 s1)) ?_ (fun j2 hj2 => ?_)
  · intro s1
    refine r_aload_n (q := 33) (i := 0) (z := 0) C dX9_readCompare_32 rfl rfl rfl ?_
    refine g_X9_18 (q := 36) C hi0 dX9_readCompare_33 rfl ?_
    refine r_aload_n (q := 37) (i := 0) (z := 0) C dX9_readCompare_36 rfl rfl rfl ?_
    refine g_X9_52 (q := 40) C hi0 dX9_readCompare_37 rfl ?_
    refine r_aload_n (q := 41) (i := 1) (z := 1) C dX9_readCompare_40 rfl rfl rfl ?_
    refine g_X9_27 (q := 44) C (nk_5_0 hN) dX9_readCompare_41 rfl ?_
    refine r_ast (q := 45) q_9_3 h_9_3 C hi0 dX9_readCompare_44 rfl (fun s3 => ?_)
    refine r_aload_n (q := 46) (i := 1) (z := 1) C dX9_readCompare_45 rfl rfl rfl ?_
    refine r_callVV (q := 49) (As := []) wm_X9_55 yvX5_advance (c_X5_advance Δ hN s3) ⟨rfl, by decide⟩ C (nk_5_0 hN) (by decide) rfl (Nat.le_of_ble_eq_true rfl) dX9_readCompare_46 rfl (fun _ s4 => ?_)
    refine r_iconst (q := 50) (v := 1) C dX9_readCompare_49 rfl (by decide) ?_
    exact r_zret0 (Or.inr rfl) C dX9_readCompare_50
  refine r_icmp_eq (q := 9) (tgt := 32) C dX9_readCompare_6 (by decide) rfl ?_ ?_
  · exact hj2 st
  · refine r_aload_n (q := 10) (i := 1) (z := 1) C dX9_readCompare_9 rfl rfl rfl ?_
    refine g_X9_27 (q := 13) C (nk_5_0 hN) dX9_readCompare_10 rfl ?_
    refine r_bipush (q := 15) (v := 62) C dX9_readCompare_13 rfl (by decide) ?_
    refine r_icmp_eq (q := 18) (tgt := 32) C dX9_readCompare_15 (by decide) rfl ?_ ?_
    · exact hj2 st
    · refine r_aload_n (q := 19) (i := 1) (z := 1) C dX9_readCompare_18 rfl rfl rfl ?_
      refine g_X9_27 (q := 22) C (nk_5_0 hN) dX9_readCompare_19 rfl ?_
      refine r_bipush (q := 24) (v := 61) C dX9_readCompare_22 rfl (by decide) ?_
      refine r_icmp_eq (q := 27) (tgt := 32) C dX9_readCompare_24 (by decide) rfl ?_ ?_
      · exact hj2 st
      · refine r_aload_n (q := 28) (i := 1) (z := 1) C dX9_readCompare_27 rfl rfl rfl ?_
        refine r_callVI (q := 31) (As := []) wm_X9_44 yvX5_failHere (c_X5_failHere Δ hN st) ⟨rfl, by decide⟩ C (nk_5_0 hN) (by decide) rfl (Nat.le_of_ble_eq_true rfl) dX9_readCompare_28 rfl (fun x5 s6 => ?_)
        exact r_zret C dX9_readCompare_31

noncomputable def f_X9_readRest (i0 : Nat) (i2 : Nat) (st : fSt) : Option (Int32 × fSt) :=
  fIx (gI st 9 i0 0) 60 <|
  if (gA st 9 i0 1 (gI st 9 i0 0).toNatClampNeg) = (19 : Int32) then
    (fJn (fun (x2 : Int32) (s3 : fSt) =>
      (fBo x2 (some (x2, s3)))) fun (j4 : Int32 → fSt → Option (Int32 × fSt)) =>
    fJn (fun (s5 : fSt) =>
      (j4 ((1 : Int32)) s5)) fun (j6 : fSt → Option (Int32 × fSt)) =>
    if (gI st 5 0 6) = ((59 : Int32)) then
      (j6 st)
    else
      (fBd (f_X5_takeName 7 i2 4 4 (gI st 7 i2 3) st) fun x7 s8 =>
      if x7 = 0 then
        (j4 ((0 : Int32)) s8)
      else
        (j6 s8)))
  else
  if (gA st 9 i0 1 (gI st 9 i0 0).toNatClampNeg) = (20 : Int32) then
    (fBd (f_X5_takeName 7 i2 3 12 (gI st 7 i2 2) st) fun x10 s11 =>
    fBo x10 (some (x10, s11)))
  else
  if (gA st 9 i0 1 (gI st 9 i0 0).toNatClampNeg) = (21 : Int32) then
    (fBd (f_X5_takeName 7 i2 3 12 (gI st 7 i2 2) st) fun x13 s14 =>
    fBo x13 (some (x13, s14)))
  else
  if (gA st 9 i0 1 (gI st 9 i0 0).toNatClampNeg) = (22 : Int32) then
    (fBd (f_X5_takeName 7 i2 1 6 (gI st 7 i2 0) st) fun x16 s17 =>
    fBo x16 (some (x16, s17)))
  else
  if (gA st 9 i0 1 (gI st 9 i0 0).toNatClampNeg) = (23 : Int32) then
    (fBd (f_X5_takeName 7 i2 1 6 (gI st 7 i2 0) st) fun x19 s20 =>
    fBo x19 (some (x19, s20)))
  else
  if (gA st 9 i0 1 (gI st 9 i0 0).toNatClampNeg) = (25 : Int32) then
    (fBd (f_X5_takeName 7 i2 3 12 (gI st 7 i2 2) st) fun x22 s23 =>
    fBo x22 (some (x22, s23)))
  else
  if (gA st 9 i0 1 (gI st 9 i0 0).toNatClampNeg) = (26 : Int32) then
    (fBd (f_X5_takeName 7 i2 1 6 (gI st 7 i2 0) st) fun x25 s26 =>
    fBo x25 (some (x25, s26)))
  else
  if (gA st 9 i0 1 (gI st 9 i0 0).toNatClampNeg) = (27 : Int32) then
    (fBd (f_X9_readCompare i0 st) fun x28 s29 =>
    fJn (fun (x30 : Int32) (s31 : fSt) =>
      (fBo x30 (some (x30, s31)))) fun (j32 : Int32 → fSt → Option (Int32 × fSt)) =>
    fJn (fun (s33 : fSt) =>
      (j32 ((0 : Int32)) s33)) fun (j34 : fSt → Option (Int32 × fSt)) =>
    if x28 = 0 then
      (j34 s29)
    else
      (fBd (f_X5_takeNumber ((0 : Int32)) ((99 : Int32)) s29) fun x35 s36 =>
      if x35 = 0 then
        (j34 s36)
      else
        (j32 ((1 : Int32)) s36)))
  else
  if (gA st 9 i0 1 (gI st 9 i0 0).toNatClampNeg) = (28 : Int32) then
    (fBd (f_X5_takeNumber ((0 : Int32)) ((9 : Int32)) st) fun x38 s39 =>
    fBo x38 (some (x38, s39)))
  else
  if (gA st 9 i0 1 (gI st 9 i0 0).toNatClampNeg) = (29 : Int32) then
    (fBd (f_X5_takeNumber ((1 : Int32)) ((99 : Int32)) st) fun x41 s42 =>
    fBo x41 (some (x41, s42)))
  else
  some ((1 : Int32), st)

set_option maxHeartbeats 4000000 in
set_option maxRecDepth 100000 in
theorem c_X9_readRest (Δ : fDl) (hN : fNx Δ) (i0 : Nat) (i2 : Nat) (hi0 : i0 < fN Δ 9) (hi2 : i2 < fN Δ 7)  (st : fSt) : fMt eI Δ yX9_readRest cX9_readRest 3 (some .boolean) 5 [.ref (fad Δ 9 i0 0), .ref (fad Δ 5 0 0), .ref (fad Δ 7 i2 0)] st (f_X9_readRest i0 i2 st) := by
  unfold f_X9_readRest
  refine r_method (by decide +kernel) (Nat.le_of_ble_eq_true rfl) (fun Γ C => ?_)
  have C : fC Δ Γ cX9_readRest RX9 3 (some .boolean) 5 := C
  refine r_locs (lc' := [(0, .ref (fad Δ 9 i0 0)), (1, .ref (fad Δ 5 0 0)), (2, .ref (fad Δ 7 i2 0))]) [0, 1, 2] rfl ?_
  refine r_aload_n (q := 1) (i := 0) (z := 0) C dX9_readRest_0 rfl rfl rfl ?_
  refine g_X9_11 (q := 4) C hi0 dX9_readRest_1 rfl ?_
  refine r_aload_n (q := 5) (i := 0) (z := 0) C dX9_readRest_4 rfl rfl rfl ?_
  refine g_X9_52 (q := 8) C hi0 dX9_readRest_5 rfl ?_
  refine r_ial (q := 9) q_9_1 h_9_1 C hi0 dX9_readRest_8 rfl ?_
  refine r_bif (fun hs1 => ?_) (fun hs1 => ?_)
  · refine r_tsHit (tgt := 68) (n := 19) C dX9_readRest_9 hs1 (by decide) (by decide) (by decide) rfl (by decide) ?_
    refine r_aload_n (q := 69) (i := 1) (z := 1) C dX9_readRest_68 rfl rfl rfl ?_
    refine g_X9_27 (q := 72) C (nk_5_0 hN) dX9_readRest_69 rfl ?_
    refine r_bipush (q := 74) (v := 59) C dX9_readRest_72 rfl (by decide) ?_
    refine r_join (fun j4 => ∀ (x2 : Int32) (s3 : fSt), fW Δ Γ 3 (fQ eI Δ Γ) 97 [] [.int x2] s3 (j4 x2 s3)) ?_ (fun j4 hj4 => ?_)
    · intro x2 s3
      exact r_zret C dX9_readRest_97
    refine r_join (fun j6 => ∀  (s5 : fSt), fW Δ Γ 3 (fQ eI Δ Γ) 92 [] [] s5 (j6 s5)) ?_ (fun j6 hj6 => ?_)
    · intro s5
      refine r_iconst (q := 93) (v := 1) C dX9_readRest_92 rfl (by decide) ?_
      refine r_goto (q := 97) C dX9_readRest_93 (by decide) ?_
      exact hj4 ((1 : Int32)) s5
    refine r_icmp_eq (q := 77) (tgt := 92) C dX9_readRest_74 (by decide) rfl ?_ ?_
    · refine r_locs (lc' := []) [] rfl ?_
      exact hj6 st
    · refine r_aload_n (q := 78) (i := 1) (z := 1) C dX9_readRest_77 rfl rfl rfl ?_
      refine r_aload_n (q := 79) (i := 2) (z := 2) C dX9_readRest_78 rfl rfl rfl ?_
      refine g_X9_74 (q := 82) C hi2 dX9_readRest_79 rfl ?_
      refine r_aload_n (q := 83) (i := 2) (z := 2) C dX9_readRest_82 rfl rfl rfl ?_
      refine g_X9_80 (q := 86) C hi2 dX9_readRest_83 rfl ?_
      refine r_callVI (q := 89) (As := [.ref (fad Δ 7 i2 4), .int (gI st 7 i2 3)]) wm_X9_83 yvX5_takeName (c_X5_takeName Δ hN 7 i2 4 4 (gI st 7 i2 3) q_7_4 h_7_4 hi2 st) ⟨rfl, by decide⟩ C (nk_5_0 hN) (by decide) rfl (Nat.le_of_ble_eq_true rfl) dX9_readRest_86 rfl (fun x7 s8 => ?_)
      refine r_if_eq (q := 92) (tgt := 96) C dX9_readRest_89 (by decide) rfl ?_ ?_
      · refine r_iconst (q := 97) (v := 0) C dX9_readRest_96 rfl (by decide) ?_
        refine r_locs (lc' := []) [] rfl ?_
        exact hj4 ((0 : Int32)) s8
      · refine r_locs (lc' := []) [] rfl ?_
        exact hj6 s8
  refine r_bif (fun hs9 => ?_) (fun hs9 => ?_)
  · refine r_tsHit (tgt := 98) (n := 20) C dX9_readRest_9 hs9 (by decide) (by decide) (by decide) rfl (by decide) ?_
    refine r_aload_n (q := 99) (i := 1) (z := 1) C dX9_readRest_98 rfl rfl rfl ?_
    refine r_aload_n (q := 100) (i := 2) (z := 2) C dX9_readRest_99 rfl rfl rfl ?_
    refine g_X9_87 (q := 103) C hi2 dX9_readRest_100 rfl ?_
    refine r_aload_n (q := 104) (i := 2) (z := 2) C dX9_readRest_103 rfl rfl rfl ?_
    refine g_X9_90 (q := 107) C hi2 dX9_readRest_104 rfl ?_
    refine r_callVI (q := 110) (As := [.ref (fad Δ 7 i2 3), .int (gI st 7 i2 2)]) wm_X9_83 yvX5_takeName (c_X5_takeName Δ hN 7 i2 3 12 (gI st 7 i2 2) q_7_3 h_7_3 hi2 st) ⟨rfl, by decide⟩ C (nk_5_0 hN) (by decide) rfl (Nat.le_of_ble_eq_true rfl) dX9_readRest_107 rfl (fun x10 s11 => ?_)
    exact r_zret C dX9_readRest_110
  refine r_bif (fun hs12 => ?_) (fun hs12 => ?_)
  · refine r_tsHit (tgt := 98) (n := 21) C dX9_readRest_9 hs12 (by decide) (by decide) (by decide) rfl (by decide) ?_
    refine r_aload_n (q := 99) (i := 1) (z := 1) C dX9_readRest_98 rfl rfl rfl ?_
    refine r_aload_n (q := 100) (i := 2) (z := 2) C dX9_readRest_99 rfl rfl rfl ?_
    refine g_X9_87 (q := 103) C hi2 dX9_readRest_100 rfl ?_
    refine r_aload_n (q := 104) (i := 2) (z := 2) C dX9_readRest_103 rfl rfl rfl ?_
    refine g_X9_90 (q := 107) C hi2 dX9_readRest_104 rfl ?_
    refine r_callVI (q := 110) (As := [.ref (fad Δ 7 i2 3), .int (gI st 7 i2 2)]) wm_X9_83 yvX5_takeName (c_X5_takeName Δ hN 7 i2 3 12 (gI st 7 i2 2) q_7_3 h_7_3 hi2 st) ⟨rfl, by decide⟩ C (nk_5_0 hN) (by decide) rfl (Nat.le_of_ble_eq_true rfl) dX9_readRest_107 rfl (fun x13 s14 => ?_)
    exact r_zret C dX9_readRest_110
  refine r_bif (fun hs15 => ?_) (fun hs15 => ?_)
  · refine r_tsHit (tgt := 111) (n := 22) C dX9_readRest_9 hs15 (by decide) (by decide) (by decide) rfl (by decide) ?_
    refine r_aload_n (q := 112) (i := 1) (z := 1) C dX9_readRest_111 rfl rfl rfl ?_
    refine r_aload_n (q := 113) (i := 2) (z := 2) C dX9_readRest_112 rfl rfl rfl ?_
    refine g_X9_93 (q := 116) C hi2 dX9_readRest_113 rfl ?_
    refine r_aload_n (q := 117) (i := 2) (z := 2) C dX9_readRest_116 rfl rfl rfl ?_
    refine g_X9_96 (q := 120) C hi2 dX9_readRest_117 rfl ?_
    refine r_callVI (q := 123) (As := [.ref (fad Δ 7 i2 1), .int (gI st 7 i2 0)]) wm_X9_83 yvX5_takeName (c_X5_takeName Δ hN 7 i2 1 6 (gI st 7 i2 0) q_7_1 h_7_1 hi2 st) ⟨rfl, by decide⟩ C (nk_5_0 hN) (by decide) rfl (Nat.le_of_ble_eq_true rfl) dX9_readRest_120 rfl (fun x16 s17 => ?_)
    exact r_zret C dX9_readRest_123
  refine r_bif (fun hs18 => ?_) (fun hs18 => ?_)
  · refine r_tsHit (tgt := 111) (n := 23) C dX9_readRest_9 hs18 (by decide) (by decide) (by decide) rfl (by decide) ?_
    refine r_aload_n (q := 112) (i := 1) (z := 1) C dX9_readRest_111 rfl rfl rfl ?_
    refine r_aload_n (q := 113) (i := 2) (z := 2) C dX9_readRest_112 rfl rfl rfl ?_
    refine g_X9_93 (q := 116) C hi2 dX9_readRest_113 rfl ?_
    refine r_aload_n (q := 117) (i := 2) (z := 2) C dX9_readRest_116 rfl rfl rfl ?_
    refine g_X9_96 (q := 120) C hi2 dX9_readRest_117 rfl ?_
    refine r_callVI (q := 123) (As := [.ref (fad Δ 7 i2 1), .int (gI st 7 i2 0)]) wm_X9_83 yvX5_takeName (c_X5_takeName Δ hN 7 i2 1 6 (gI st 7 i2 0) q_7_1 h_7_1 hi2 st) ⟨rfl, by decide⟩ C (nk_5_0 hN) (by decide) rfl (Nat.le_of_ble_eq_true rfl) dX9_readRest_120 rfl (fun x19 s20 => ?_)
    exact r_zret C dX9_readRest_123
  refine r_bif (fun hs21 => ?_) (fun hs21 => ?_)
  · refine r_tsHit (tgt := 98) (n := 25) C dX9_readRest_9 hs21 (by decide) (by decide) (by decide) rfl (by decide) ?_
    refine r_aload_n (q := 99) (i := 1) (z := 1) C dX9_readRest_98 rfl rfl rfl ?_
    refine r_aload_n (q := 100) (i := 2) (z := 2) C dX9_readRest_99 rfl rfl rfl ?_
    refine g_X9_87 (q := 103) C hi2 dX9_readRest_100 rfl ?_
    refine r_aload_n (q := 104) (i := 2) (z := 2) C dX9_readRest_103 rfl rfl rfl ?_
    refine g_X9_90 (q := 107) C hi2 dX9_readRest_104 rfl ?_
    refine r_callVI (q := 110) (As := [.ref (fad Δ 7 i2 3), .int (gI st 7 i2 2)]) wm_X9_83 yvX5_takeName (c_X5_takeName Δ hN 7 i2 3 12 (gI st 7 i2 2) q_7_3 h_7_3 hi2 st) ⟨rfl, by decide⟩ C (nk_5_0 hN) (by decide) rfl (Nat.le_of_ble_eq_true rfl) dX9_readRest_107 rfl (fun x22 s23 => ?_)
    exact r_zret C dX9_readRest_110
  refine r_bif (fun hs24 => ?_) (fun hs24 => ?_)
  · refine r_tsHit (tgt := 111) (n := 26) C dX9_readRest_9 hs24 (by decide) (by decide) (by decide) rfl (by decide) ?_
    refine r_aload_n (q := 112) (i := 1) (z := 1) C dX9_readRest_111 rfl rfl rfl ?_
    refine r_aload_n (q := 113) (i := 2) (z := 2) C dX9_readRest_112 rfl rfl rfl ?_
    refine g_X9_93 (q := 116) C hi2 dX9_readRest_113 rfl ?_
    refine r_aload_n (q := 117) (i := 2) (z := 2) C dX9_readRest_116 rfl rfl rfl ?_
    refine g_X9_96 (q := 120) C hi2 dX9_readRest_117 rfl ?_
    refine r_callVI (q := 123) (As := [.ref (fad Δ 7 i2 1), .int (gI st 7 i2 0)]) wm_X9_83 yvX5_takeName (c_X5_takeName Δ hN 7 i2 1 6 (gI st 7 i2 0) q_7_1 h_7_1 hi2 st) ⟨rfl, by decide⟩ C (nk_5_0 hN) (by decide) rfl (Nat.le_of_ble_eq_true rfl) dX9_readRest_120 rfl (fun x25 s26 => ?_)
    exact r_zret C dX9_readRest_123
  refine r_bif (fun hs27 => ?_) (fun hs27 => ?_)
  · refine r_tsHit (tgt := 140) (n := 27) C dX9_readRest_9 hs27 (by decide) (by decide) (by decide) rfl (by decide) ?_
    refine r_aload_n (q := 141) (i := 0) (z := 0) C dX9_readRest_140 rfl rfl rfl ?_
    refine r_aload_n (q := 142) (i := 1) (z := 1) C dX9_readRest_141 rfl rfl rfl ?_
    refine r_callVI (q := 145) (As := [.ref (fad Δ 5 0 0)]) wm_X9_103 yvX9_readCompare (c_X9_readCompare Δ hN i0 hi0 st) ⟨rfl, by decide⟩ C hi0 (by decide) rfl (Nat.le_of_ble_eq_true rfl) dX9_readRest_142 rfl (fun x28 s29 => ?_)
    refine r_join (fun j32 => ∀ (x30 : Int32) (s31 : fSt), fW Δ Γ 3 (fQ eI Δ Γ) 163 [] [.int x30] s31 (j32 x30 s31)) ?_ (fun j32 hj32 => ?_)
    · intro x30 s31
      exact r_zret C dX9_readRest_163
    refine r_join (fun j34 => ∀  (s33 : fSt), fW Δ Γ 3 (fQ eI Δ Γ) 162 [] [] s33 (j34 s33)) ?_ (fun j34 hj34 => ?_)
    · intro s33
      refine r_iconst (q := 163) (v := 0) C dX9_readRest_162 rfl (by decide) ?_
      exact hj32 ((0 : Int32)) s33
    refine r_if_eq (q := 148) (tgt := 162) C dX9_readRest_145 (by decide) rfl ?_ ?_
    · refine r_locs (lc' := []) [] rfl ?_
      exact hj34 s29
    · refine r_aload_n (q := 149) (i := 1) (z := 1) C dX9_readRest_148 rfl rfl rfl ?_
      refine r_iconst (q := 150) (v := 0) C dX9_readRest_149 rfl (by decide) ?_
      refine r_bipush (q := 152) (v := 99) C dX9_readRest_150 rfl (by decide) ?_
      refine r_callVI (q := 155) (As := [.int ((0 : Int32)), .int ((99 : Int32))]) wm_X9_99 yvX5_takeNumber (c_X5_takeNumber Δ hN ((0 : Int32)) ((99 : Int32)) s29) ⟨rfl, by decide⟩ C (nk_5_0 hN) (by decide) rfl (Nat.le_of_ble_eq_true rfl) dX9_readRest_152 rfl (fun x35 s36 => ?_)
      refine r_if_eq (q := 158) (tgt := 162) C dX9_readRest_155 (by decide) rfl ?_ ?_
      · refine r_locs (lc' := []) [] rfl ?_
        exact hj34 s36
      · refine r_iconst (q := 159) (v := 1) C dX9_readRest_158 rfl (by decide) ?_
        refine r_goto (q := 163) C dX9_readRest_159 (by decide) ?_
        refine r_locs (lc' := []) [] rfl ?_
        exact hj32 ((1 : Int32)) s36
  refine r_bif (fun hs37 => ?_) (fun hs37 => ?_)
  · refine r_tsHit (tgt := 132) (n := 28) C dX9_readRest_9 hs37 (by decide) (by decide) (by decide) rfl (by decide) ?_
    refine r_aload_n (q := 133) (i := 1) (z := 1) C dX9_readRest_132 rfl rfl rfl ?_
    refine r_iconst (q := 134) (v := 0) C dX9_readRest_133 rfl (by decide) ?_
    refine r_bipush (q := 136) (v := 9) C dX9_readRest_134 rfl (by decide) ?_
    refine r_callVI (q := 139) (As := [.int ((0 : Int32)), .int ((9 : Int32))]) wm_X9_99 yvX5_takeNumber (c_X5_takeNumber Δ hN ((0 : Int32)) ((9 : Int32)) st) ⟨rfl, by decide⟩ C (nk_5_0 hN) (by decide) rfl (Nat.le_of_ble_eq_true rfl) dX9_readRest_136 rfl (fun x38 s39 => ?_)
    exact r_zret C dX9_readRest_139
  refine r_bif (fun hs40 => ?_) (fun hs40 => ?_)
  · refine r_tsHit (tgt := 124) (n := 29) C dX9_readRest_9 hs40 (by decide) (by decide) (by decide) rfl (by decide) ?_
    refine r_aload_n (q := 125) (i := 1) (z := 1) C dX9_readRest_124 rfl rfl rfl ?_
    refine r_iconst (q := 126) (v := 1) C dX9_readRest_125 rfl (by decide) ?_
    refine r_bipush (q := 128) (v := 99) C dX9_readRest_126 rfl (by decide) ?_
    refine r_callVI (q := 131) (As := [.int ((1 : Int32)), .int ((99 : Int32))]) wm_X9_99 yvX5_takeNumber (c_X5_takeNumber Δ hN ((1 : Int32)) ((99 : Int32)) st) ⟨rfl, by decide⟩ C (nk_5_0 hN) (by decide) rfl (Nat.le_of_ble_eq_true rfl) dX9_readRest_128 rfl (fun x41 s42 => ?_)
    exact r_zret C dX9_readRest_131
  refine r_tsHole (tgt := 164) C dX9_readRest_9 (by decide) (fun off o1 o2 ho => by have ehs1 := fNe hs1 19 (by decide); have ehs9 := fNe hs9 20 (by decide); have ehs12 := fNe hs12 21 (by decide); have ehs15 := fNe hs15 22 (by decide); have ehs18 := fNe hs18 23 (by decide); have ehs21 := fNe hs21 25 (by decide); have ehs24 := fNe hs24 26 (by decide); have ehs27 := fNe hs27 27 (by decide); have ehs37 := fNe hs37 28 (by decide); have ehs40 := fNe hs40 29 (by decide); have oo : ((gA st 9 i0 1 (gI st 9 i0 0).toNatClampNeg)).toInt = 24 := (by omega); rw [oo] at ho; simp at ho; omega) (by decide) ?_
  refine r_iconst (q := 165) (v := 1) C dX9_readRest_164 rfl (by decide) ?_
  exact r_zret0 (Or.inr rfl) C dX9_readRest_165

noncomputable def f_X9_readStep (i0 : Nat) (i2 : Nat) (st : fSt) : Option (Int32 × fSt) :=
  fJn (fun (x1 : Int32) (s2 : fSt) =>
    (fLt x1 fun (x4 : Int32) =>
    fJn (fun (s5 : fSt) =>
      (fJn (fun (s7 : fSt) =>
        (fBd (f_X5_fail ((6 : Int32)) s7) fun x9 s10 =>
        fBo x9 (some (x9, s10)))) fun (j8 : fSt → Option (Int32 × fSt)) =>
      if ((30 : Int32)) ≤ (gI s5 9 i0 1) then
        (j8 s5)
      else
        (if (gI s5 9 i0 0) < ((60 : Int32)) then
          (fJn (fun (s11 : fSt) =>
            (fJn (fun (s13 : fSt) =>
              (fIx (gI s13 9 i0 0) 60 <|
              fLt (sA s13 9 i0 1 (upd (gA s13 9 i0 1) (gI s13 9 i0 0).toNatClampNeg (gI s13 5 0 6))) fun s15 =>
              fBd (f_X5_advance  s15) fun _ s16 =>
              fLt (sI s16 5 0 9 ((-1 : Int32))) fun s17 =>
              fBd (f_X9_readRest i0 i2 s17) fun x18 s19 =>
              fJn (fun (s20 : fSt) =>
                (some ((0 : Int32), s20))) fun (j21 : fSt → Option (Int32 × fSt)) =>
              if x18 = 0 then
                (j21 s19)
              else
                (fBd (f_X5_take ((59 : Int32)) s19) fun x22 s23 =>
                if ¬ x22 = 0 then
                  (fIx (gI s23 9 i0 0) 60 <|
                  fLt (sA s23 9 i0 2 (upd (gA s23 9 i0 2) (gI s23 9 i0 0).toNatClampNeg (gI s23 5 0 9))) fun s24 =>
                  fJn (fun (s25 : fSt) =>
                    (fLt (sI s25 9 i0 0 ((gI s25 9 i0 0) + ((1 : Int32)))) fun s27 =>
                    fLt (sI s27 9 i0 1 ((gI s27 9 i0 1) + ((1 : Int32)))) fun s28 =>
                    some ((1 : Int32), s28))) fun (j26 : fSt → Option (Int32 × fSt)) =>
                  if x4 = 0 then
                    (j26 s24)
                  else
                    (fLt (sI s24 9 i0 7 ((gI s24 9 i0 7) + ((1 : Int32)))) fun s29 =>
                    fIx (gI s24 9 i0 7) 3 <|
                    fLt (sA s29 9 i0 5 (upd (gA s29 9 i0 5) (gI s24 9 i0 7).toNatClampNeg (gI s29 9 i0 0))) fun s30 =>
                    j26 s30))
                else
                  (j21 s23)))) fun (j14 : fSt → Option (Int32 × fSt)) =>
            if ¬ (gI s11 5 0 6) = ((24 : Int32)) then
              (j14 s11)
            else
              (fBd (f_X5_advance  s11) fun _ s31 =>
              fBd (f_X11_isIn (gI s31 5 0 6) ((25 : Int32)) ((28 : Int32)) s31) fun x32 s33 =>
              if ¬ x32 = 0 then
                (j14 s33)
              else
                (fBd (f_X5_failHere  s33) fun x34 s35 =>
                fBo x34 (some (x34, s35)))))) fun (j12 : fSt → Option (Int32 × fSt)) =>
          if x4 = 0 then
            (j12 s5)
          else
            (if (gI s5 9 i0 7) < ((3 : Int32)) then
              (j12 s5)
            else
              (fBd (f_X5_fail ((7 : Int32)) s5) fun x36 s37 =>
              fBo x36 (some (x36, s37)))))
        else
          (j8 s5)))) fun (j6 : fSt → Option (Int32 × fSt)) =>
    if ¬ x4 = 0 then
      (j6 s2)
    else
      (fBd (f_X11_isIn (gI s2 5 0 6) ((19 : Int32)) ((23 : Int32)) s2) fun x38 s39 =>
      if ¬ x38 = 0 then
        (j6 s39)
      else
        (if (gI s39 5 0 6) = ((31 : Int32)) then
          (j6 s39)
        else
          (fBd (f_X5_failHere  s39) fun x40 s41 =>
          fBo x40 (some (x40, s41))))))) fun (j3 : Int32 → fSt → Option (Int32 × fSt)) =>
  fJn (fun (s42 : fSt) =>
    (j3 ((1 : Int32)) s42)) fun (j43 : fSt → Option (Int32 × fSt)) =>
  if (gI st 5 0 6) = ((24 : Int32)) then
    (j43 st)
  else
    (if ¬ (gI st 5 0 6) = ((29 : Int32)) then
      (j3 ((0 : Int32)) st)
    else
      (j43 st))

set_option maxHeartbeats 4000000 in
set_option maxRecDepth 100000 in
theorem c_X9_readStep (Δ : fDl) (hN : fNx Δ) (i0 : Nat) (i2 : Nat) (hi0 : i0 < fN Δ 9) (hi2 : i2 < fN Δ 7)  (st : fSt) : fMt eI Δ yX9_readStep cX9_readStep 4 (some .boolean) 6 [.ref (fad Δ 9 i0 0), .ref (fad Δ 5 0 0), .ref (fad Δ 7 i2 0)] st (f_X9_readStep i0 i2 st) := by
  unfold f_X9_readStep
  refine r_method (by decide +kernel) (Nat.le_of_ble_eq_true rfl) (fun Γ C => ?_)
  have C : fC Δ Γ cX9_readStep RX9 4 (some .boolean) 6 := C
  refine r_locs (lc' := [(0, .ref (fad Δ 9 i0 0)), (1, .ref (fad Δ 5 0 0)), (2, .ref (fad Δ 7 i2 0))]) [0, 1, 2] rfl ?_
  refine r_aload_n (q := 1) (i := 1) (z := 1) C dX9_readStep_0 rfl rfl rfl ?_
  refine g_X9_27 (q := 4) C (nk_5_0 hN) dX9_readStep_1 rfl ?_
  refine r_bipush (q := 6) (v := 24) C dX9_readStep_4 rfl (by decide) ?_
  refine r_join (fun j3 => ∀ (x1 : Int32) (s2 : fSt), fW Δ Γ 4 (fQ eI Δ Γ) 23 [(0, .ref (fad Δ 9 i0 0)), (1, .ref (fad Δ 5 0 0)), (2, .ref (fad Δ 7 i2 0))] [.int x1] s2 (j3 x1 s2)) ?_ (fun j3 hj3 => ?_)
  · intro x1 s2
    refine r_istore_n (q := 24) (i := 3) [(0, .ref (fad Δ 9 i0 0)), (1, .ref (fad Δ 5 0 0)), (2, .ref (fad Δ 7 i2 0))] C dX9_readStep_23 rfl rfl (by decide) rfl (fun x4 => ?_)
    refine r_iload_n (q := 25) (i := 3) (z := 0) C dX9_readStep_24 rfl rfl rfl ?_
    refine r_join (fun j6 => ∀  (s5 : fSt), fW Δ Γ 4 (fQ eI Δ Γ) 56 [(0, .ref (fad Δ 9 i0 0)), (1, .ref (fad Δ 5 0 0)), (2, .ref (fad Δ 7 i2 0)), (3, .int x4)] [] s5 (j6 s5)) ?_ (fun j6 hj6 => ?_)
    · intro s5
      refine r_aload_n (q := 57) (i := 0) (z := 0) C dX9_readStep_56 rfl rfl rfl ?_
      refine g_X9_62 (q := 60) C hi0 dX9_readStep_57 rfl ?_
      refine r_bipush (q := 62) (v := 30) C dX9_readStep_60 rfl (by decide) ?_
      refine r_join (fun j8 => ∀  (s7 : fSt), fW Δ Γ 4 (fQ eI Δ Γ) 74 [(1, .ref (fad Δ 5 0 0))] [] s7 (j8 s7)) ?_ (fun j8 hj8 => ?_)
      · intro s7
        refine r_aload_n (q := 75) (i := 1) (z := 0) C dX9_readStep_74 rfl rfl rfl ?_
        refine r_bipush (q := 77) (v := 6) C dX9_readStep_75 rfl (by decide) ?_
        refine r_callVI (q := 80) (As := [.int ((6 : Int32))]) wm_X9_65 yvX5_fail (c_X5_fail Δ hN ((6 : Int32)) s7) ⟨rfl, by decide⟩ C (nk_5_0 hN) (by decide) rfl (Nat.le_of_ble_eq_true rfl) dX9_readStep_77 rfl (fun x9 s10 => ?_)
        exact r_zret C dX9_readStep_80
      refine r_icmp_ge (q := 65) (tgt := 74) C dX9_readStep_62 (by decide) rfl ?_ ?_
      · refine r_locs (lc' := [(1, .ref (fad Δ 5 0 0))]) [1] rfl ?_
        exact hj8 s5
      · refine r_aload_n (q := 66) (i := 0) (z := 0) C dX9_readStep_65 rfl rfl rfl ?_
        refine g_X9_52 (q := 69) C hi0 dX9_readStep_66 rfl ?_
        refine r_bipush (q := 71) (v := 60) C dX9_readStep_69 rfl (by decide) ?_
        refine r_icmp_lt (q := 74) (tgt := 81) C dX9_readStep_71 (by decide) rfl ?_ ?_
        · refine r_iload_n (q := 82) (i := 3) (z := 3) C dX9_readStep_81 rfl rfl rfl ?_
          refine r_join (fun j12 => ∀  (s11 : fSt), fW Δ Γ 4 (fQ eI Δ Γ) 100 [(0, .ref (fad Δ 9 i0 0)), (1, .ref (fad Δ 5 0 0)), (2, .ref (fad Δ 7 i2 0)), (3, .int x4)] [] s11 (j12 s11)) ?_ (fun j12 hj12 => ?_)
          · intro s11
            refine r_aload_n (q := 101) (i := 1) (z := 1) C dX9_readStep_100 rfl rfl rfl ?_
            refine g_X9_27 (q := 104) C (nk_5_0 hN) dX9_readStep_101 rfl ?_
            refine r_bipush (q := 106) (v := 24) C dX9_readStep_104 rfl (by decide) ?_
            refine r_join (fun j14 => ∀  (s13 : fSt), fW Δ Γ 4 (fQ eI Δ Γ) 132 [(0, .ref (fad Δ 9 i0 0)), (1, .ref (fad Δ 5 0 0)), (2, .ref (fad Δ 7 i2 0)), (3, .int x4)] [] s13 (j14 s13)) ?_ (fun j14 hj14 => ?_)
            · intro s13
              refine r_aload_n (q := 133) (i := 0) (z := 0) C dX9_readStep_132 rfl rfl rfl ?_
              refine g_X9_11 (q := 136) C hi0 dX9_readStep_133 rfl ?_
              refine r_aload_n (q := 137) (i := 0) (z := 0) C dX9_readStep_136 rfl rfl rfl ?_
              refine g_X9_52 (q := 140) C hi0 dX9_readStep_137 rfl ?_
              refine r_aload_n (q := 141) (i := 1) (z := 1) C dX9_readStep_140 rfl rfl rfl ?_
              refine g_X9_27 (q := 144) C (nk_5_0 hN) dX9_readStep_141 rfl ?_
              refine r_ast (q := 145) q_9_1 h_9_1 C hi0 dX9_readStep_144 rfl (fun s15 => ?_)
              refine r_aload_n (q := 146) (i := 1) (z := 1) C dX9_readStep_145 rfl rfl rfl ?_
              refine r_callVV (q := 149) (As := []) wm_X9_55 yvX5_advance (c_X5_advance Δ hN s15) ⟨rfl, by decide⟩ C (nk_5_0 hN) (by decide) rfl (Nat.le_of_ble_eq_true rfl) dX9_readStep_146 rfl (fun _ s16 => ?_)
              refine r_aload_n (q := 150) (i := 1) (z := 1) C dX9_readStep_149 rfl rfl rfl ?_
              refine r_iconst (q := 151) (v := (-1)) C dX9_readStep_150 rfl (by decide) ?_
              refine p_X9_68 (q := 154) C (nk_5_0 hN) dX9_readStep_151 rfl (fun s17 => ?_)
              refine r_aload_n (q := 155) (i := 0) (z := 0) C dX9_readStep_154 rfl rfl rfl ?_
              refine r_aload_n (q := 156) (i := 1) (z := 1) C dX9_readStep_155 rfl rfl rfl ?_
              refine r_aload_n (q := 157) (i := 2) (z := 2) C dX9_readStep_156 rfl rfl rfl ?_
              refine r_callVI (q := 160) (As := [.ref (fad Δ 5 0 0), .ref (fad Δ 7 i2 0)]) wm_X9_71 yvX9_readRest (c_X9_readRest Δ hN i0 i2 hi0 hi2 s17) ⟨rfl, by decide⟩ C hi0 (by decide) rfl (Nat.le_of_ble_eq_true rfl) dX9_readStep_157 rfl (fun x18 s19 => ?_)
              refine r_join (fun j21 => ∀  (s20 : fSt), fW Δ Γ 4 (fQ eI Δ Γ) 172 [] [] s20 (j21 s20)) ?_ (fun j21 hj21 => ?_)
              · intro s20
                refine r_iconst (q := 173) (v := 0) C dX9_readStep_172 rfl (by decide) ?_
                exact r_zret0 (Or.inl rfl) C dX9_readStep_173
              refine r_if_eq (q := 163) (tgt := 172) C dX9_readStep_160 (by decide) rfl ?_ ?_
              · refine r_locs (lc' := []) [] rfl ?_
                exact hj21 s19
              · refine r_aload_n (q := 164) (i := 1) (z := 1) C dX9_readStep_163 rfl rfl rfl ?_
                refine r_bipush (q := 166) (v := 59) C dX9_readStep_164 rfl (by decide) ?_
                refine r_callVI (q := 169) (As := [.int ((59 : Int32))]) wm_X9_58 yvX5_take (c_X5_take Δ hN ((59 : Int32)) s19) ⟨rfl, by decide⟩ C (nk_5_0 hN) (by decide) rfl (Nat.le_of_ble_eq_true rfl) dX9_readStep_166 rfl (fun x22 s23 => ?_)
                refine r_if_ne (q := 172) (tgt := 174) C dX9_readStep_169 (by decide) rfl ?_ ?_
                · refine r_aload_n (q := 175) (i := 0) (z := 0) C dX9_readStep_174 rfl rfl rfl ?_
                  refine g_X9_15 (q := 178) C hi0 dX9_readStep_175 rfl ?_
                  refine r_aload_n (q := 179) (i := 0) (z := 0) C dX9_readStep_178 rfl rfl rfl ?_
                  refine g_X9_52 (q := 182) C hi0 dX9_readStep_179 rfl ?_
                  refine r_aload_n (q := 183) (i := 1) (z := 1) C dX9_readStep_182 rfl rfl rfl ?_
                  refine g_X9_68 (q := 186) C (nk_5_0 hN) dX9_readStep_183 rfl ?_
                  refine r_ast (q := 187) q_9_2 h_9_2 C hi0 dX9_readStep_186 rfl (fun s24 => ?_)
                  refine r_iload_n (q := 188) (i := 3) (z := 3) C dX9_readStep_187 rfl rfl rfl ?_
                  refine r_join (fun j26 => ∀  (s25 : fSt), fW Δ Γ 4 (fQ eI Δ Γ) 211 [(0, .ref (fad Δ 9 i0 0))] [] s25 (j26 s25)) ?_ (fun j26 hj26 => ?_)
                  · intro s25
                    refine r_aload_n (q := 212) (i := 0) (z := 0) C dX9_readStep_211 rfl rfl rfl ?_
                    refine r_dup (q := 213) C dX9_readStep_212 rfl rfl ?_
                    refine g_X9_52 (q := 216) C hi0 dX9_readStep_213 rfl ?_
                    refine r_iconst (q := 217) (v := 1) C dX9_readStep_216 rfl (by decide) ?_
                    refine r_iadd (q := 218) C dX9_readStep_217 rfl ?_
                    refine p_X9_52 (q := 221) C hi0 dX9_readStep_218 rfl (fun s27 => ?_)
                    refine r_aload_n (q := 222) (i := 0) (z := 0) C dX9_readStep_221 rfl rfl rfl ?_
                    refine r_dup (q := 223) C dX9_readStep_222 rfl rfl ?_
                    refine g_X9_62 (q := 226) C hi0 dX9_readStep_223 rfl ?_
                    refine r_iconst (q := 227) (v := 1) C dX9_readStep_226 rfl (by decide) ?_
                    refine r_iadd (q := 228) C dX9_readStep_227 rfl ?_
                    refine p_X9_62 (q := 231) C hi0 dX9_readStep_228 rfl (fun s28 => ?_)
                    refine r_iconst (q := 232) (v := 1) C dX9_readStep_231 rfl (by decide) ?_
                    exact r_zret0 (Or.inr rfl) C dX9_readStep_232
                  refine r_if_eq (q := 191) (tgt := 211) C dX9_readStep_188 (by decide) rfl ?_ ?_
                  · refine r_locs (lc' := [(0, .ref (fad Δ 9 i0 0))]) [0] rfl ?_
                    exact hj26 s24
                  · refine r_aload_n (q := 192) (i := 0) (z := 0) C dX9_readStep_191 rfl rfl rfl ?_
                    refine g_X9_24 (q := 195) C hi0 dX9_readStep_192 rfl ?_
                    refine r_aload_n (q := 196) (i := 0) (z := 0) C dX9_readStep_195 rfl rfl rfl ?_
                    refine r_dup (q := 197) C dX9_readStep_196 rfl rfl ?_
                    refine g_X9_41 (q := 200) C hi0 dX9_readStep_197 rfl ?_
                    refine r_dup_x1 (q := 201) C dX9_readStep_200 rfl rfl rfl ?_
                    refine r_iconst (q := 202) (v := 1) C dX9_readStep_201 rfl (by decide) ?_
                    refine r_iadd (q := 203) C dX9_readStep_202 rfl ?_
                    refine p_X9_41 (q := 206) C hi0 dX9_readStep_203 rfl (fun s29 => ?_)
                    refine r_aload_n (q := 207) (i := 0) (z := 0) C dX9_readStep_206 rfl rfl rfl ?_
                    refine g_X9_52 (q := 210) C hi0 dX9_readStep_207 rfl ?_
                    refine r_ast (q := 211) q_9_5 h_9_5 C hi0 dX9_readStep_210 rfl (fun s30 => ?_)
                    refine r_locs (lc' := [(0, .ref (fad Δ 9 i0 0))]) [0] rfl ?_
                    exact hj26 s30
                · refine r_locs (lc' := []) [] rfl ?_
                  exact hj21 s23
            refine r_icmp_ne (q := 109) (tgt := 132) C dX9_readStep_106 (by decide) rfl ?_ ?_
            · exact hj14 s11
            · refine r_aload_n (q := 110) (i := 1) (z := 1) C dX9_readStep_109 rfl rfl rfl ?_
              refine r_callVV (q := 113) (As := []) wm_X9_55 yvX5_advance (c_X5_advance Δ hN s11) ⟨rfl, by decide⟩ C (nk_5_0 hN) (by decide) rfl (Nat.le_of_ble_eq_true rfl) dX9_readStep_110 rfl (fun _ s31 => ?_)
              refine r_aload_n (q := 114) (i := 1) (z := 1) C dX9_readStep_113 rfl rfl rfl ?_
              refine g_X9_27 (q := 117) C (nk_5_0 hN) dX9_readStep_114 rfl ?_
              refine r_bipush (q := 119) (v := 25) C dX9_readStep_117 rfl (by decide) ?_
              refine r_bipush (q := 121) (v := 28) C dX9_readStep_119 rfl (by decide) ?_
              refine r_callSNI (q := 124) (As := [.int (gI s31 5 0 6), .int ((25 : Int32)), .int ((28 : Int32))]) wn_X9_48 ysX11_isIn (c_X11_isIn Δ hN (gI s31 5 0 6) ((25 : Int32)) ((28 : Int32)) s31) C (by decide) rfl (Nat.le_of_ble_eq_true rfl) dX9_readStep_121 rfl (fun x32 s33 => ?_)
              refine r_if_ne (q := 127) (tgt := 132) C dX9_readStep_124 (by decide) rfl ?_ ?_
              · exact hj14 s33
              · refine r_aload_n (q := 128) (i := 1) (z := 1) C dX9_readStep_127 rfl rfl rfl ?_
                refine r_callVI (q := 131) (As := []) wm_X9_44 yvX5_failHere (c_X5_failHere Δ hN s33) ⟨rfl, by decide⟩ C (nk_5_0 hN) (by decide) rfl (Nat.le_of_ble_eq_true rfl) dX9_readStep_128 rfl (fun x34 s35 => ?_)
                exact r_zret C dX9_readStep_131
          refine r_if_eq (q := 85) (tgt := 100) C dX9_readStep_82 (by decide) rfl ?_ ?_
          · exact hj12 s5
          · refine r_aload_n (q := 86) (i := 0) (z := 0) C dX9_readStep_85 rfl rfl rfl ?_
            refine g_X9_41 (q := 89) C hi0 dX9_readStep_86 rfl ?_
            refine r_iconst (q := 90) (v := 3) C dX9_readStep_89 rfl (by decide) ?_
            refine r_icmp_lt (q := 93) (tgt := 100) C dX9_readStep_90 (by decide) rfl ?_ ?_
            · exact hj12 s5
            · refine r_aload_n (q := 94) (i := 1) (z := 1) C dX9_readStep_93 rfl rfl rfl ?_
              refine r_bipush (q := 96) (v := 7) C dX9_readStep_94 rfl (by decide) ?_
              refine r_callVI (q := 99) (As := [.int ((7 : Int32))]) wm_X9_65 yvX5_fail (c_X5_fail Δ hN ((7 : Int32)) s5) ⟨rfl, by decide⟩ C (nk_5_0 hN) (by decide) rfl (Nat.le_of_ble_eq_true rfl) dX9_readStep_96 rfl (fun x36 s37 => ?_)
              exact r_zret C dX9_readStep_99
        · refine r_locs (lc' := [(1, .ref (fad Δ 5 0 0))]) [1] rfl ?_
          exact hj8 s5
    refine r_if_ne (q := 28) (tgt := 56) C dX9_readStep_25 (by decide) rfl ?_ ?_
    · refine r_locs (lc' := [(0, .ref (fad Δ 9 i0 0)), (1, .ref (fad Δ 5 0 0)), (2, .ref (fad Δ 7 i2 0)), (3, .int x4)]) [1, 2, 3, 0] rfl ?_
      exact hj6 s2
    · refine r_aload_n (q := 29) (i := 1) (z := 2) C dX9_readStep_28 rfl rfl rfl ?_
      refine g_X9_27 (q := 32) C (nk_5_0 hN) dX9_readStep_29 rfl ?_
      refine r_bipush (q := 34) (v := 19) C dX9_readStep_32 rfl (by decide) ?_
      refine r_bipush (q := 36) (v := 23) C dX9_readStep_34 rfl (by decide) ?_
      refine r_callSNI (q := 39) (As := [.int (gI s2 5 0 6), .int ((19 : Int32)), .int ((23 : Int32))]) wn_X9_48 ysX11_isIn (c_X11_isIn Δ hN (gI s2 5 0 6) ((19 : Int32)) ((23 : Int32)) s2) C (by decide) rfl (Nat.le_of_ble_eq_true rfl) dX9_readStep_36 rfl (fun x38 s39 => ?_)
      refine r_if_ne (q := 42) (tgt := 56) C dX9_readStep_39 (by decide) rfl ?_ ?_
      · refine r_locs (lc' := [(0, .ref (fad Δ 9 i0 0)), (1, .ref (fad Δ 5 0 0)), (2, .ref (fad Δ 7 i2 0)), (3, .int x4)]) [1, 2, 3, 0] rfl ?_
        exact hj6 s39
      · refine r_aload_n (q := 43) (i := 1) (z := 2) C dX9_readStep_42 rfl rfl rfl ?_
        refine g_X9_27 (q := 46) C (nk_5_0 hN) dX9_readStep_43 rfl ?_
        refine r_bipush (q := 48) (v := 31) C dX9_readStep_46 rfl (by decide) ?_
        refine r_icmp_eq (q := 51) (tgt := 56) C dX9_readStep_48 (by decide) rfl ?_ ?_
        · refine r_locs (lc' := [(0, .ref (fad Δ 9 i0 0)), (1, .ref (fad Δ 5 0 0)), (2, .ref (fad Δ 7 i2 0)), (3, .int x4)]) [1, 2, 3, 0] rfl ?_
          exact hj6 s39
        · refine r_aload_n (q := 52) (i := 1) (z := 2) C dX9_readStep_51 rfl rfl rfl ?_
          refine r_callVI (q := 55) (As := []) wm_X9_44 yvX5_failHere (c_X5_failHere Δ hN s39) ⟨rfl, by decide⟩ C (nk_5_0 hN) (by decide) rfl (Nat.le_of_ble_eq_true rfl) dX9_readStep_52 rfl (fun x40 s41 => ?_)
          exact r_zret C dX9_readStep_55
  refine r_join (fun j43 => ∀  (s42 : fSt), fW Δ Γ 4 (fQ eI Δ Γ) 18 [(0, .ref (fad Δ 9 i0 0)), (1, .ref (fad Δ 5 0 0)), (2, .ref (fad Δ 7 i2 0))] [] s42 (j43 s42)) ?_ (fun j43 hj43 => ?_)
  · intro s42
    refine r_iconst (q := 19) (v := 1) C dX9_readStep_18 rfl (by decide) ?_
    refine r_goto (q := 23) C dX9_readStep_19 (by decide) ?_
    exact hj3 ((1 : Int32)) s42
  refine r_icmp_eq (q := 9) (tgt := 18) C dX9_readStep_6 (by decide) rfl ?_ ?_
  · exact hj43 st
  · refine r_aload_n (q := 10) (i := 1) (z := 1) C dX9_readStep_9 rfl rfl rfl ?_
    refine g_X9_27 (q := 13) C (nk_5_0 hN) dX9_readStep_10 rfl ?_
    refine r_bipush (q := 15) (v := 29) C dX9_readStep_13 rfl (by decide) ?_
    refine r_icmp_ne (q := 18) (tgt := 22) C dX9_readStep_15 (by decide) rfl ?_ ?_
    · refine r_iconst (q := 23) (v := 0) C dX9_readStep_22 rfl (by decide) ?_
      exact hj3 ((0 : Int32)) st
    · exact hj43 st

noncomputable def f_X9_readFrom_L2 (i0 : Nat) (i2 : Nat) (k3 : fSt → Option (Int32 × fSt)) : Nat → Int32 → fSt → Option (Int32 × fSt)
  | 0, _, _ => none
  | n13 + 1, x11, s12 =>
      if ((300 : Int32)) ≤ x11 then
        (k3 s12)
      else
        (if (gI s12 5 0 6) = ((35 : Int32)) then
          (k3 s12)
        else
          (fJn (fun (x14 : Int32) (s15 : fSt) =>
            (fLt x14 fun (x17 : Int32) =>
            if ¬ x17 = 0 then
              (fLt (x11 + (1 : Int32)) fun (x18 : Int32) =>
              f_X9_readFrom_L2 i0 i2 k3 n13 x18 s15)
            else
              (some ((0 : Int32), s15)))) fun (j16 : Int32 → fSt → Option (Int32 × fSt)) =>
          if ¬ (gI s12 5 0 6) = ((30 : Int32)) then
            (fBd (f_X9_readStep i0 i2 s12) fun x19 s20 =>
            j16 x19 s20)
          else
            (fBd (f_X9_readEnd i0 s12) fun x21 s22 =>
            j16 x21 s22)))

noncomputable def f_X9_readFrom (i0 : Nat) (i2 : Nat) (st : fSt) : Option (Int32 × fSt) :=
  fLt ((0 : Int32)) fun (x1 : Int32) =>
  fJn (fun (s2 : fSt) =>
    (fJn (fun (x4 : Int32) (s5 : fSt) =>
      (fBo x4 (some (x4, s5)))) fun (j6 : Int32 → fSt → Option (Int32 × fSt)) =>
    fJn (fun (s7 : fSt) =>
      (j6 ((1 : Int32)) s7)) fun (j8 : fSt → Option (Int32 × fSt)) =>
    if (gI s2 9 i0 7) = 0 then
      (j8 s2)
    else
      (fBd (f_X5_failHere  s2) fun x9 s10 =>
      if x9 = 0 then
        (j6 ((0 : Int32)) s10)
      else
        (j8 s10)))) fun (k3 : fSt → Option (Int32 × fSt)) =>
  f_X9_readFrom_L2 i0 i2 k3 fF x1 st

set_option maxHeartbeats 4000000 in
set_option maxRecDepth 100000 in
theorem c_X9_readFrom (Δ : fDl) (hN : fNx Δ) (i0 : Nat) (i2 : Nat) (hi0 : i0 < fN Δ 9) (hi2 : i2 < fN Δ 7)  (st : fSt) : fMt eI Δ yX9_readFrom cX9_readFrom 5 (some .boolean) 7 [.ref (fad Δ 9 i0 0), .ref (fad Δ 5 0 0), .ref (fad Δ 7 i2 0)] st (f_X9_readFrom i0 i2 st) := by
  unfold f_X9_readFrom
  refine r_method (by decide +kernel) (Nat.le_of_ble_eq_true rfl) (fun Γ C => ?_)
  have C : fC Δ Γ cX9_readFrom RX9 5 (some .boolean) 7 := C
  refine r_locs (lc' := [(0, .ref (fad Δ 9 i0 0)), (1, .ref (fad Δ 5 0 0)), (2, .ref (fad Δ 7 i2 0))]) [0, 1, 2] rfl ?_
  refine r_iconst (q := 1) (v := 0) C dX9_readFrom_0 rfl (by decide) ?_
  refine r_istore_n (q := 2) (i := 3) [(0, .ref (fad Δ 9 i0 0)), (1, .ref (fad Δ 5 0 0)), (2, .ref (fad Δ 7 i2 0))] C dX9_readFrom_1 rfl rfl (by decide) rfl (fun x1 => ?_)
  refine r_join (fun k3 => ∀  (s2 : fSt), fW Δ Γ 5 (fQ eI Δ Γ) 56 [(0, .ref (fad Δ 9 i0 0)), (1, .ref (fad Δ 5 0 0))] [] s2 (k3 s2)) ?_ (fun k3 hk3 => ?_)
  · intro s2
    refine r_aload_n (q := 57) (i := 0) (z := 0) C dX9_readFrom_56 rfl rfl rfl ?_
    refine g_X9_41 (q := 60) C hi0 dX9_readFrom_57 rfl ?_
    refine r_join (fun j6 => ∀ (x4 : Int32) (s5 : fSt), fW Δ Γ 5 (fQ eI Δ Γ) 75 [] [.int x4] s5 (j6 x4 s5)) ?_ (fun j6 hj6 => ?_)
    · intro x4 s5
      exact r_zret C dX9_readFrom_75
    refine r_join (fun j8 => ∀  (s7 : fSt), fW Δ Γ 5 (fQ eI Δ Γ) 70 [] [] s7 (j8 s7)) ?_ (fun j8 hj8 => ?_)
    · intro s7
      refine r_iconst (q := 71) (v := 1) C dX9_readFrom_70 rfl (by decide) ?_
      refine r_goto (q := 75) C dX9_readFrom_71 (by decide) ?_
      exact hj6 ((1 : Int32)) s7
    refine r_if_eq (q := 63) (tgt := 70) C dX9_readFrom_60 (by decide) rfl ?_ ?_
    · refine r_locs (lc' := []) [] rfl ?_
      exact hj8 s2
    · refine r_aload_n (q := 64) (i := 1) (z := 1) C dX9_readFrom_63 rfl rfl rfl ?_
      refine r_callVI (q := 67) (As := []) wm_X9_44 yvX5_failHere (c_X5_failHere Δ hN s2) ⟨rfl, by decide⟩ C (nk_5_0 hN) (by decide) rfl (Nat.le_of_ble_eq_true rfl) dX9_readFrom_64 rfl (fun x9 s10 => ?_)
      refine r_if_eq (q := 70) (tgt := 74) C dX9_readFrom_67 (by decide) rfl ?_ ?_
      · refine r_iconst (q := 75) (v := 0) C dX9_readFrom_74 rfl (by decide) ?_
        refine r_locs (lc' := []) [] rfl ?_
        exact hj6 ((0 : Int32)) s10
      · refine r_locs (lc' := []) [] rfl ?_
        exact hj8 s10
  refine r_locs (lc' := [(0, .ref (fad Δ 9 i0 0)), (1, .ref (fad Δ 5 0 0)), (2, .ref (fad Δ 7 i2 0)), (3, .int x1)]) [1, 2, 3, 0] rfl ?_
  have L2 : ∀ (n13 : Nat) (x11 : Int32) (s12 : fSt), fW Δ Γ 5 (fQ eI Δ Γ) 2 [(0, .ref (fad Δ 9 i0 0)), (1, .ref (fad Δ 5 0 0)), (2, .ref (fad Δ 7 i2 0)), (3, .int x11)] [] s12 (f_X9_readFrom_L2 i0 i2 k3 n13 x11 s12) := by
    intro n13
    induction n13 with
    | zero =>
      intro x11 s12
      rw [f_X9_readFrom_L2]
      exact r_none
    | succ n13 ih_n13 =>
      intro x11 s12
      rw [f_X9_readFrom_L2]
      refine r_iload_n (q := 3) (i := 3) (z := 3) C dX9_readFrom_2 rfl rfl rfl ?_
      refine r_sipush (q := 6) (v := 300) C dX9_readFrom_3 rfl (by decide) ?_
      refine r_icmp_ge (q := 9) (tgt := 56) C dX9_readFrom_6 (by decide) rfl ?_ ?_
      · refine r_locs (lc' := [(0, .ref (fad Δ 9 i0 0)), (1, .ref (fad Δ 5 0 0))]) [0, 1] rfl ?_
        exact hk3 s12
      · refine r_aload_n (q := 10) (i := 1) (z := 1) C dX9_readFrom_9 rfl rfl rfl ?_
        refine g_X9_27 (q := 13) C (nk_5_0 hN) dX9_readFrom_10 rfl ?_
        refine r_bipush (q := 15) (v := 35) C dX9_readFrom_13 rfl (by decide) ?_
        refine r_icmp_eq (q := 18) (tgt := 56) C dX9_readFrom_15 (by decide) rfl ?_ ?_
        · refine r_locs (lc' := [(0, .ref (fad Δ 9 i0 0)), (1, .ref (fad Δ 5 0 0))]) [0, 1] rfl ?_
          exact hk3 s12
        · refine r_aload_n (q := 19) (i := 1) (z := 1) C dX9_readFrom_18 rfl rfl rfl ?_
          refine g_X9_27 (q := 22) C (nk_5_0 hN) dX9_readFrom_19 rfl ?_
          refine r_bipush (q := 24) (v := 30) C dX9_readFrom_22 rfl (by decide) ?_
          refine r_join (fun j16 => ∀ (x14 : Int32) (s15 : fSt), fW Δ Γ 5 (fQ eI Δ Γ) 41 [(0, .ref (fad Δ 9 i0 0)), (1, .ref (fad Δ 5 0 0)), (2, .ref (fad Δ 7 i2 0)), (3, .int x11)] [.int x14] s15 (j16 x14 s15)) ?_ (fun j16 hj16 => ?_)
          · intro x14 s15
            refine r_istore (q := 43) (i := 4) [(0, .ref (fad Δ 9 i0 0)), (1, .ref (fad Δ 5 0 0)), (2, .ref (fad Δ 7 i2 0)), (3, .int x11)] C dX9_readFrom_41 rfl (by decide) rfl (fun x17 => ?_)
            refine r_iload (q := 45) (i := 4) (z := 0) C dX9_readFrom_43 rfl rfl ?_
            refine r_if_ne (q := 48) (tgt := 50) C dX9_readFrom_45 (by decide) rfl ?_ ?_
            · refine r_iinc (q := 53) (z := 4) (d := 1) [(4, .int x17), (0, .ref (fad Δ 9 i0 0)), (1, .ref (fad Δ 5 0 0)), (2, .ref (fad Δ 7 i2 0))] C dX9_readFrom_50 rfl rfl (by decide) (by decide) rfl (fun x18 => ?_)
              refine r_goto (q := 2) C dX9_readFrom_53 (by decide) ?_
              refine r_locs (lc' := [(0, .ref (fad Δ 9 i0 0)), (1, .ref (fad Δ 5 0 0)), (2, .ref (fad Δ 7 i2 0)), (3, .int x18)]) [2, 3, 4, 0] rfl ?_
              exact ih_n13 x18 s15
            · refine r_iconst (q := 49) (v := 0) C dX9_readFrom_48 rfl (by decide) ?_
              exact r_zret0 (Or.inl rfl) C dX9_readFrom_49
          refine r_icmp_ne (q := 27) (tgt := 35) C dX9_readFrom_24 (by decide) rfl ?_ ?_
          · refine r_aload_n (q := 36) (i := 0) (z := 0) C dX9_readFrom_35 rfl rfl rfl ?_
            refine r_aload_n (q := 37) (i := 1) (z := 1) C dX9_readFrom_36 rfl rfl rfl ?_
            refine r_aload_n (q := 38) (i := 2) (z := 2) C dX9_readFrom_37 rfl rfl rfl ?_
            refine r_callVI (q := 41) (As := [.ref (fad Δ 5 0 0), .ref (fad Δ 7 i2 0)]) wm_X9_37 yvX9_readStep (c_X9_readStep Δ hN i0 i2 hi0 hi2 s12) ⟨rfl, by decide⟩ C hi0 (by decide) rfl (Nat.le_of_ble_eq_true rfl) dX9_readFrom_38 rfl (fun x19 s20 => ?_)
            exact hj16 x19 s20
          · refine r_aload_n (q := 28) (i := 0) (z := 0) C dX9_readFrom_27 rfl rfl rfl ?_
            refine r_aload_n (q := 29) (i := 1) (z := 1) C dX9_readFrom_28 rfl rfl rfl ?_
            refine r_callVI (q := 32) (As := [.ref (fad Δ 5 0 0)]) wm_X9_33 yvX9_readEnd (c_X9_readEnd Δ hN i0 hi0 s12) ⟨rfl, by decide⟩ C hi0 (by decide) rfl (Nat.le_of_ble_eq_true rfl) dX9_readFrom_29 rfl (fun x21 s22 => ?_)
            refine r_goto (q := 41) C dX9_readFrom_32 (by decide) ?_
            exact hj16 x21 s22
  exact L2 fF x1 st

noncomputable def f_X10_begin (i0 : Nat) (a1 : Int32) (a2 : Int32) (st : fSt) : Option (Unit × fSt) :=
  fBd (f_X3_sow ((i0 + 1)) a1 st) fun _ s1 =>
  fBo a2 <| fLt (sI s1 10 i0 2 a2) fun s2 =>
  fLt (sI s2 10 i0 4 ((0 : Int32))) fun s3 =>
  fLt (sI s3 10 i0 5 ((0 : Int32))) fun s4 =>
  fLt (sI s4 10 i0 6 ((0 : Int32))) fun s5 =>
  fLt (sI s5 10 i0 7 ((0 : Int32))) fun s6 =>
  fLt (sI s6 10 i0 8 ((0 : Int32))) fun s7 =>
  fLt (sI s7 10 i0 9 ((0 : Int32))) fun s8 =>
  fLt (sI s8 10 i0 10 ((-1 : Int32))) fun s9 =>
  some ((), s9)

set_option maxHeartbeats 4000000 in
set_option maxRecDepth 100000 in
theorem c_X10_begin (Δ : fDl) (hN : fNx Δ) (i0 : Nat) (a1 : Int32) (a2 : Int32) (hi0 : i0 < fN Δ 10)  (st : fSt) : fMt eV Δ yX10_begin cX10_begin 3 none 2 [.ref (fad Δ 10 i0 0), .int a1, .int a2] st (f_X10_begin i0 a1 a2 st) := by
  unfold f_X10_begin
  refine r_method (by decide +kernel) (Nat.le_of_ble_eq_true rfl) (fun Γ C => ?_)
  have C : fC Δ Γ cX10_begin RX10 3 none 2 := C
  refine r_locs (lc' := [(0, .ref (fad Δ 10 i0 0)), (1, .int a1), (2, .int a2)]) [0, 1, 2] rfl ?_
  refine r_aload_n (q := 1) (i := 0) (z := 0) C dX10_begin_0 rfl rfl rfl ?_
  refine g_X10_12 (q := 4) C hi0 dX10_begin_1 rfl ?_
  refine r_iload_n (q := 5) (i := 1) (z := 1) C dX10_begin_4 rfl rfl rfl ?_
  refine r_callVV (q := 8) (As := [.int a1]) wm_X10_67 yvX3_sow (c_X3_sow Δ hN ((i0 + 1)) a1 (nx_103 hN hi0) st) ⟨rfl, by decide⟩ C (nx_103 hN hi0) (by decide) rfl (Nat.le_of_ble_eq_true rfl) dX10_begin_5 rfl (fun _ s1 => ?_)
  refine r_aload_n (q := 9) (i := 0) (z := 0) C dX10_begin_8 rfl rfl rfl ?_
  refine r_iload_n (q := 10) (i := 2) (z := 2) C dX10_begin_9 rfl rfl rfl ?_
  refine p_X10_71 (q := 13) C hi0 dX10_begin_10 rfl (fun s2 => ?_)
  refine r_aload_n (q := 14) (i := 0) (z := 0) C dX10_begin_13 rfl rfl rfl ?_
  refine r_iconst (q := 15) (v := 0) C dX10_begin_14 rfl (by decide) ?_
  refine p_X10_74 (q := 18) C hi0 dX10_begin_15 rfl (fun s3 => ?_)
  refine r_aload_n (q := 19) (i := 0) (z := 0) C dX10_begin_18 rfl rfl rfl ?_
  refine r_iconst (q := 20) (v := 0) C dX10_begin_19 rfl (by decide) ?_
  refine p_X10_77 (q := 23) C hi0 dX10_begin_20 rfl (fun s4 => ?_)
  refine r_aload_n (q := 24) (i := 0) (z := 0) C dX10_begin_23 rfl rfl rfl ?_
  refine r_iconst (q := 25) (v := 0) C dX10_begin_24 rfl (by decide) ?_
  refine p_X10_49 (q := 28) C hi0 dX10_begin_25 rfl (fun s5 => ?_)
  refine r_aload_n (q := 29) (i := 0) (z := 0) C dX10_begin_28 rfl rfl rfl ?_
  refine r_iconst (q := 30) (v := 0) C dX10_begin_29 rfl (by decide) ?_
  refine p_X10_80 (q := 33) C hi0 dX10_begin_30 rfl (fun s6 => ?_)
  refine r_aload_n (q := 34) (i := 0) (z := 0) C dX10_begin_33 rfl rfl rfl ?_
  refine r_iconst (q := 35) (v := 0) C dX10_begin_34 rfl (by decide) ?_
  refine p_X10_83 (q := 38) C hi0 dX10_begin_35 rfl (fun s7 => ?_)
  refine r_aload_n (q := 39) (i := 0) (z := 0) C dX10_begin_38 rfl rfl rfl ?_
  refine r_iconst (q := 40) (v := 0) C dX10_begin_39 rfl (by decide) ?_
  refine p_X10_86 (q := 43) C hi0 dX10_begin_40 rfl (fun s8 => ?_)
  refine r_aload_n (q := 44) (i := 0) (z := 0) C dX10_begin_43 rfl rfl rfl ?_
  refine r_iconst (q := 45) (v := (-1)) C dX10_begin_44 rfl (by decide) ?_
  refine p_X10_89 (q := 48) C hi0 dX10_begin_45 rfl (fun s9 => ?_)
  exact r_vret C dX10_begin_48

noncomputable def f_X11_isBelow (a0 : Int32) (a1 : Int32) (st : fSt) : Option (Int32 × fSt) :=
  fJn (fun (x1 : Int32) (s2 : fSt) =>
    (fBo x1 (some (x1, s2)))) fun (j3 : Int32 → fSt → Option (Int32 × fSt)) =>
  fJn (fun (s4 : fSt) =>
    (j3 ((0 : Int32)) s4)) fun (j5 : fSt → Option (Int32 × fSt)) =>
  if a0 < 0 then
    (j5 st)
  else
    (if a1 ≤ a0 then
      (j5 st)
    else
      (j3 ((1 : Int32)) st))

set_option maxHeartbeats 4000000 in
set_option maxRecDepth 100000 in
theorem c_X11_isBelow (Δ : fDl) (hN : fNx Δ) (a0 : Int32) (a1 : Int32)  (st : fSt) : fMt eI Δ yX11_isBelow cX11_isBelow 2 (some .boolean) 1 [.int a0, .int a1] st (f_X11_isBelow a0 a1 st) := by
  unfold f_X11_isBelow
  refine r_method (by decide +kernel) (Nat.le_of_ble_eq_true rfl) (fun Γ C => ?_)
  have C : fC Δ Γ cX11_isBelow RX11 2 (some .boolean) 1 := C
  refine r_locs (lc' := [(0, .int a0), (1, .int a1)]) [0, 1] rfl ?_
  refine r_iload_n (q := 1) (i := 0) (z := 0) C dX11_isBelow_0 rfl rfl rfl ?_
  refine r_join (fun j3 => ∀ (x1 : Int32) (s2 : fSt), fW Δ Γ 2 (fQ eI Δ Γ) 14 [] [.int x1] s2 (j3 x1 s2)) ?_ (fun j3 hj3 => ?_)
  · intro x1 s2
    exact r_zret C dX11_isBelow_14
  refine r_join (fun j5 => ∀  (s4 : fSt), fW Δ Γ 2 (fQ eI Δ Γ) 13 [] [] s4 (j5 s4)) ?_ (fun j5 hj5 => ?_)
  · intro s4
    refine r_iconst (q := 14) (v := 0) C dX11_isBelow_13 rfl (by decide) ?_
    exact hj3 ((0 : Int32)) s4
  refine r_if_lt (q := 4) (tgt := 13) C dX11_isBelow_1 (by decide) rfl ?_ ?_
  · refine r_locs (lc' := []) [] rfl ?_
    exact hj5 st
  · refine r_iload_n (q := 5) (i := 0) (z := 0) C dX11_isBelow_4 rfl rfl rfl ?_
    refine r_iload_n (q := 6) (i := 1) (z := 1) C dX11_isBelow_5 rfl rfl rfl ?_
    refine r_icmp_ge (q := 9) (tgt := 13) C dX11_isBelow_6 (by decide) rfl ?_ ?_
    · refine r_locs (lc' := []) [] rfl ?_
      exact hj5 st
    · refine r_iconst (q := 10) (v := 1) C dX11_isBelow_9 rfl (by decide) ?_
      refine r_goto (q := 14) C dX11_isBelow_10 (by decide) ?_
      refine r_locs (lc' := []) [] rfl ?_
      exact hj3 ((1 : Int32)) st

noncomputable def f_X10_comeToEnd (i0 : Nat) (i1 : Nat) (a2 : Int32) (st : fSt) : Option (Int32 × fSt) :=
  fIx a2 60 <|
  fLt (gA st 9 i1 4 a2.toNatClampNeg) fun (x1 : Int32) =>
  fIx x1 60 <|
  if (gA st 9 i1 1 x1.toNatClampNeg) = ((29 : Int32)) then
    (fIx x1 60 <|
    fIx x1 60 <|
    fLt (sA st 10 i0 1 (upd (gA st 10 i0 1) x1.toNatClampNeg ((gA st 10 i0 1 x1.toNatClampNeg) - ((1 : Int32))))) fun s2 =>
    fIx x1 60 <|
    fJn (fun (x3 : Int32) (s4 : fSt) =>
      (some (x3, s4))) fun (j5 : Int32 → fSt → Option (Int32 × fSt)) =>
    if (gA s2 10 i0 1 x1.toNatClampNeg) ≤ 0 then
      (j5 (a2 + ((1 : Int32))) s2)
    else
      (j5 (x1 + ((1 : Int32))) s2))
  else
    (some (a2 + ((1 : Int32)), st))

set_option maxHeartbeats 4000000 in
set_option maxRecDepth 100000 in
theorem c_X10_comeToEnd (Δ : fDl) (hN : fNx Δ) (i0 : Nat) (i1 : Nat) (a2 : Int32) (hi0 : i0 < fN Δ 10) (hi1 : i1 < fN Δ 9)  (st : fSt) : fMt eI Δ yX10_comeToEnd cX10_comeToEnd 4 (some .int) 1 [.ref (fad Δ 10 i0 0), .ref (fad Δ 9 i1 0), .int a2] st (f_X10_comeToEnd i0 i1 a2 st) := by
  unfold f_X10_comeToEnd
  refine r_method (by decide +kernel) (Nat.le_of_ble_eq_true rfl) (fun Γ C => ?_)
  have C : fC Δ Γ cX10_comeToEnd RX10 4 (some .int) 1 := C
  refine r_locs (lc' := [(0, .ref (fad Δ 10 i0 0)), (1, .ref (fad Δ 9 i1 0)), (2, .int a2)]) [0, 1, 2] rfl ?_
  refine r_aload_n (q := 1) (i := 1) (z := 1) C dX10_comeToEnd_0 rfl rfl rfl ?_
  refine g_X10_92 (q := 4) C hi1 dX10_comeToEnd_1 rfl ?_
  refine r_iload_n (q := 5) (i := 2) (z := 2) C dX10_comeToEnd_4 rfl rfl rfl ?_
  refine r_ial (q := 6) q_9_4 h_9_4 C hi1 dX10_comeToEnd_5 rfl ?_
  refine r_istore_n (q := 7) (i := 3) [(0, .ref (fad Δ 10 i0 0)), (1, .ref (fad Δ 9 i1 0)), (2, .int a2)] C dX10_comeToEnd_6 rfl rfl (by decide) rfl (fun x1 => ?_)
  refine r_aload_n (q := 8) (i := 1) (z := 2) C dX10_comeToEnd_7 rfl rfl rfl ?_
  refine g_X10_52 (q := 11) C hi1 dX10_comeToEnd_8 rfl ?_
  refine r_iload_n (q := 12) (i := 3) (z := 0) C dX10_comeToEnd_11 rfl rfl rfl ?_
  refine r_ial (q := 13) q_9_1 h_9_1 C hi1 dX10_comeToEnd_12 rfl ?_
  refine r_bipush (q := 15) (v := 29) C dX10_comeToEnd_13 rfl (by decide) ?_
  refine r_icmp_eq (q := 18) (tgt := 22) C dX10_comeToEnd_15 (by decide) rfl ?_ ?_
  · refine r_aload_n (q := 23) (i := 0) (z := 1) C dX10_comeToEnd_22 rfl rfl rfl ?_
    refine g_X10_20 (q := 26) C hi0 dX10_comeToEnd_23 rfl ?_
    refine r_iload_n (q := 27) (i := 3) (z := 0) C dX10_comeToEnd_26 rfl rfl rfl ?_
    refine r_dup2 (q := 28) C dX10_comeToEnd_27 rfl rfl rfl ?_
    refine r_ial (q := 29) q_10_1 h_10_1 C hi0 dX10_comeToEnd_28 rfl ?_
    refine r_iconst (q := 30) (v := 1) C dX10_comeToEnd_29 rfl (by decide) ?_
    refine r_isub (q := 31) C dX10_comeToEnd_30 rfl ?_
    refine r_ast (q := 32) q_10_1 h_10_1 C hi0 dX10_comeToEnd_31 rfl (fun s2 => ?_)
    refine r_aload_n (q := 33) (i := 0) (z := 1) C dX10_comeToEnd_32 rfl rfl rfl ?_
    refine g_X10_20 (q := 36) C hi0 dX10_comeToEnd_33 rfl ?_
    refine r_iload_n (q := 37) (i := 3) (z := 0) C dX10_comeToEnd_36 rfl rfl rfl ?_
    refine r_ial (q := 38) q_10_1 h_10_1 C hi0 dX10_comeToEnd_37 rfl ?_
    refine r_join (fun j5 => ∀ (x3 : Int32) (s4 : fSt), fW Δ Γ 4 (fQ eI Δ Γ) 50 [] [.int x3] s4 (j5 x3 s4)) ?_ (fun j5 hj5 => ?_)
    · intro x3 s4
      exact r_iret C dX10_comeToEnd_50
    refine r_if_le (q := 41) (tgt := 47) C dX10_comeToEnd_38 (by decide) rfl ?_ ?_
    · refine r_iload_n (q := 48) (i := 2) (z := 3) C dX10_comeToEnd_47 rfl rfl rfl ?_
      refine r_iconst (q := 49) (v := 1) C dX10_comeToEnd_48 rfl (by decide) ?_
      refine r_iadd (q := 50) C dX10_comeToEnd_49 rfl ?_
      refine r_locs (lc' := []) [] rfl ?_
      exact hj5 (a2 + ((1 : Int32))) s2
    · refine r_iload_n (q := 42) (i := 3) (z := 0) C dX10_comeToEnd_41 rfl rfl rfl ?_
      refine r_iconst (q := 43) (v := 1) C dX10_comeToEnd_42 rfl (by decide) ?_
      refine r_iadd (q := 44) C dX10_comeToEnd_43 rfl ?_
      refine r_goto (q := 50) C dX10_comeToEnd_44 (by decide) ?_
      refine r_locs (lc' := []) [] rfl ?_
      exact hj5 (x1 + ((1 : Int32))) s2
  · refine r_iload_n (q := 19) (i := 2) (z := 3) C dX10_comeToEnd_18 rfl rfl rfl ?_
    refine r_iconst (q := 20) (v := 1) C dX10_comeToEnd_19 rfl (by decide) ?_
    refine r_iadd (q := 21) C dX10_comeToEnd_20 rfl ?_
    exact r_iret C dX10_comeToEnd_21

noncomputable def f_X10_playNight (i0 : Nat) (i1 : Nat) (a2 : Int32) (st : fSt) : Option (Unit × fSt) :=
  fBd (f_X2_canOpen i1 st) fun x1 s2 =>
  fJn (fun (s3 : fSt) =>
    (fLt (sI s3 10 i0 9 ((gI s3 10 i0 9) + ((1 : Int32)))) fun s5 =>
    some ((), s5))) fun (j4 : fSt → Option (Unit × fSt)) =>
  if x1 = 0 then
    (j4 s2)
  else
    (fNn (gP s2 2 i1 0) fun y6 =>
    if ¬ (gI s2 7 y6 3) = 0 then
      (fJn (fun (x7 : Int32) (s8 : fSt) =>
        (fBd (f_X3_playFor ((i0 + 1)) i1 x7 s8) fun _ s10 =>
        fLt (sI s10 10 i0 4 ((gI s10 10 i0 4) + ((1 : Int32)))) fun s11 =>
        fLt (sI s11 10 i0 7 ((gI s11 10 i0 7) ||| (gI s11 3 ((i0 + 1)) 0))) fun s12 =>
        fLt (sI s12 10 i0 8 ((gI s12 10 i0 8) + (gI s12 3 ((i0 + 1)) 3))) fun s13 =>
        fJn (fun (x14 : Int32) (s15 : fSt) =>
          (fLt (sI s15 10 i0 10 x14) fun s17 =>
          fLt (sI s17 10 i0 5 ((gI s17 10 i0 5) ||| (((1 : Int32)) <<< ((gI s17 10 i0 10) &&& 31)))) fun s18 =>
          fJn (fun (s19 : fSt) =>
            (some ((), s19))) fun (j20 : fSt → Option (Unit × fSt)) =>
          if (gI s18 10 i0 2) = 0 then
            (j20 s18)
          else
            (fBd (f_X0_note i1 ((i0 + 1)) s18) fun _ s21 =>
            j20 s21))) fun (j16 : Int32 → fSt → Option (Unit × fSt)) =>
        if ¬ (gI s13 3 ((i0 + 1)) 1) = ((-1 : Int32)) then
          (j16 (gI s13 3 ((i0 + 1)) 1) s13)
        else
          (j16 ((9 : Int32)) s13))) fun (j9 : Int32 → fSt → Option (Unit × fSt)) =>
      if ¬ a2 = ((-1 : Int32)) then
        (j9 a2 s2)
      else
        (fNn (gP s2 2 i1 0) fun y22 =>
        fBd (f_X3_drawKind ((i0 + 1)) y22 s2) fun x23 s24 =>
        j9 x23 s24))
    else
      (j4 s2))

set_option maxHeartbeats 4000000 in
set_option maxRecDepth 100000 in
theorem c_X10_playNight (Δ : fDl) (hN : fNx Δ) (i0 : Nat) (i1 : Nat) (a2 : Int32) (hi0 : i0 < fN Δ 10) (hi1 : i1 < fN Δ 2)  (st : fSt) : fMt eV Δ yX10_playNight cX10_playNight 3 none 5 [.ref (fad Δ 10 i0 0), .ref (fad Δ 2 i1 0), .int a2] st (f_X10_playNight i0 i1 a2 st) := by
  unfold f_X10_playNight
  refine r_method (by decide +kernel) (Nat.le_of_ble_eq_true rfl) (fun Γ C => ?_)
  have C : fC Δ Γ cX10_playNight RX10 3 none 5 := C
  refine r_locs (lc' := [(0, .ref (fad Δ 10 i0 0)), (1, .ref (fad Δ 2 i1 0)), (2, .int a2)]) [0, 1, 2] rfl ?_
  refine r_aload_n (q := 1) (i := 1) (z := 1) C dX10_playNight_0 rfl rfl rfl ?_
  refine r_callVI (q := 4) (As := []) wm_X10_118 yvX2_canOpen (c_X2_canOpen Δ hN i1 hi1 st) ⟨rfl, by decide⟩ C hi1 (by decide) rfl (Nat.le_of_ble_eq_true rfl) dX10_playNight_1 rfl (fun x1 s2 => ?_)
  refine r_join (fun j4 => ∀  (s3 : fSt), fW Δ Γ 3 (fQ eV Δ Γ) 17 [(0, .ref (fad Δ 10 i0 0))] [] s3 (j4 s3)) ?_ (fun j4 hj4 => ?_)
  · intro s3
    refine r_aload_n (q := 18) (i := 0) (z := 0) C dX10_playNight_17 rfl rfl rfl ?_
    refine r_dup (q := 19) C dX10_playNight_18 rfl rfl ?_
    refine g_X10_86 (q := 22) C hi0 dX10_playNight_19 rfl ?_
    refine r_iconst (q := 23) (v := 1) C dX10_playNight_22 rfl (by decide) ?_
    refine r_iadd (q := 24) C dX10_playNight_23 rfl ?_
    refine p_X10_86 (q := 27) C hi0 dX10_playNight_24 rfl (fun s5 => ?_)
    exact r_vret C dX10_playNight_27
  refine r_if_eq (q := 7) (tgt := 17) C dX10_playNight_4 (by decide) rfl ?_ ?_
  · refine r_locs (lc' := [(0, .ref (fad Δ 10 i0 0))]) [0] rfl ?_
    exact hj4 s2
  · refine r_aload_n (q := 8) (i := 1) (z := 1) C dX10_playNight_7 rfl rfl rfl ?_
    refine g_X10_122 (q := 11) C hi1 dX10_playNight_8 rfl ?_
    refine r_deref C (fun h => (h _ hi1).1) (fun y6 hy6 => ?_)
    refine g_X10_126 (q := 14) C hy6 dX10_playNight_11 rfl ?_
    refine r_if_ne (q := 17) (tgt := 28) C dX10_playNight_14 (by decide) rfl ?_ ?_
    · refine r_aload_n (q := 29) (i := 0) (z := 0) C dX10_playNight_28 rfl rfl rfl ?_
      refine g_X10_12 (q := 32) C hi0 dX10_playNight_29 rfl ?_
      refine r_aload_n (q := 33) (i := 1) (z := 1) C dX10_playNight_32 rfl rfl rfl ?_
      refine r_iload_n (q := 34) (i := 2) (z := 2) C dX10_playNight_33 rfl rfl rfl ?_
      refine r_iconst (q := 35) (v := (-1)) C dX10_playNight_34 rfl (by decide) ?_
      refine r_join (fun j9 => ∀ (x7 : Int32) (s8 : fSt), fW Δ Γ 3 (fQ eV Δ Γ) 53 [(0, .ref (fad Δ 10 i0 0)), (1, .ref (fad Δ 2 i1 0))] [.int x7, .ref (fad Δ 2 i1 0), .ref (fad Δ 3 ((i0 + 1)) 0)] s8 (j9 x7 s8)) ?_ (fun j9 hj9 => ?_)
      · intro x7 s8
        refine r_callVV (q := 56) (As := [.ref (fad Δ 2 i1 0), .int x7]) wm_X10_135 yvX3_playFor (c_X3_playFor Δ hN ((i0 + 1)) i1 x7 (nx_103 hN hi0) hi1 s8) ⟨rfl, by decide⟩ C (nx_103 hN hi0) (by decide) rfl (Nat.le_of_ble_eq_true rfl) dX10_playNight_53 rfl (fun _ s10 => ?_)
        refine r_aload_n (q := 57) (i := 0) (z := 0) C dX10_playNight_56 rfl rfl rfl ?_
        refine r_dup (q := 58) C dX10_playNight_57 rfl rfl ?_
        refine g_X10_74 (q := 61) C hi0 dX10_playNight_58 rfl ?_
        refine r_iconst (q := 62) (v := 1) C dX10_playNight_61 rfl (by decide) ?_
        refine r_iadd (q := 63) C dX10_playNight_62 rfl ?_
        refine p_X10_74 (q := 66) C hi0 dX10_playNight_63 rfl (fun s11 => ?_)
        refine r_aload_n (q := 67) (i := 0) (z := 0) C dX10_playNight_66 rfl rfl rfl ?_
        refine r_dup (q := 68) C dX10_playNight_67 rfl rfl ?_
        refine g_X10_80 (q := 71) C hi0 dX10_playNight_68 rfl ?_
        refine r_aload_n (q := 72) (i := 0) (z := 0) C dX10_playNight_71 rfl rfl rfl ?_
        refine g_X10_12 (q := 75) C hi0 dX10_playNight_72 rfl ?_
        refine g_X10_138 (q := 78) C (nx_103 hN hi0) dX10_playNight_75 rfl ?_
        refine r_ior (q := 79) C dX10_playNight_78 rfl ?_
        refine p_X10_80 (q := 82) C hi0 dX10_playNight_79 rfl (fun s12 => ?_)
        refine r_aload_n (q := 83) (i := 0) (z := 0) C dX10_playNight_82 rfl rfl rfl ?_
        refine r_dup (q := 84) C dX10_playNight_83 rfl rfl ?_
        refine g_X10_83 (q := 87) C hi0 dX10_playNight_84 rfl ?_
        refine r_aload_n (q := 88) (i := 0) (z := 0) C dX10_playNight_87 rfl rfl rfl ?_
        refine g_X10_12 (q := 91) C hi0 dX10_playNight_88 rfl ?_
        refine g_X10_139 (q := 94) C (nx_103 hN hi0) dX10_playNight_91 rfl ?_
        refine r_iadd (q := 95) C dX10_playNight_94 rfl ?_
        refine p_X10_83 (q := 98) C hi0 dX10_playNight_95 rfl (fun s13 => ?_)
        refine r_aload_n (q := 99) (i := 0) (z := 0) C dX10_playNight_98 rfl rfl rfl ?_
        refine r_aload_n (q := 100) (i := 0) (z := 0) C dX10_playNight_99 rfl rfl rfl ?_
        refine g_X10_12 (q := 103) C hi0 dX10_playNight_100 rfl ?_
        refine g_X10_140 (q := 106) C (nx_103 hN hi0) dX10_playNight_103 rfl ?_
        refine r_iconst (q := 107) (v := (-1)) C dX10_playNight_106 rfl (by decide) ?_
        refine r_join (fun j16 => ∀ (x14 : Int32) (s15 : fSt), fW Δ Γ 3 (fQ eV Δ Γ) 122 [(0, .ref (fad Δ 10 i0 0)), (1, .ref (fad Δ 2 i1 0))] [.int x14, .ref (fad Δ 10 i0 0)] s15 (j16 x14 s15)) ?_ (fun j16 hj16 => ?_)
        · intro x14 s15
          refine p_X10_89 (q := 125) C hi0 dX10_playNight_122 rfl (fun s17 => ?_)
          refine r_aload_n (q := 126) (i := 0) (z := 0) C dX10_playNight_125 rfl rfl rfl ?_
          refine r_dup (q := 127) C dX10_playNight_126 rfl rfl ?_
          refine g_X10_77 (q := 130) C hi0 dX10_playNight_127 rfl ?_
          refine r_iconst (q := 131) (v := 1) C dX10_playNight_130 rfl (by decide) ?_
          refine r_aload_n (q := 132) (i := 0) (z := 0) C dX10_playNight_131 rfl rfl rfl ?_
          refine g_X10_89 (q := 135) C hi0 dX10_playNight_132 rfl ?_
          refine r_ishl (q := 136) C dX10_playNight_135 rfl ?_
          refine r_ior (q := 137) C dX10_playNight_136 rfl ?_
          refine p_X10_77 (q := 140) C hi0 dX10_playNight_137 rfl (fun s18 => ?_)
          refine r_aload_n (q := 141) (i := 0) (z := 0) C dX10_playNight_140 rfl rfl rfl ?_
          refine g_X10_71 (q := 144) C hi0 dX10_playNight_141 rfl ?_
          refine r_join (fun j20 => ∀  (s19 : fSt), fW Δ Γ 3 (fQ eV Δ Γ) 158 [] [] s19 (j20 s19)) ?_ (fun j20 hj20 => ?_)
          · intro s19
            exact r_vret C dX10_playNight_158
          refine r_if_eq (q := 147) (tgt := 158) C dX10_playNight_144 (by decide) rfl ?_ ?_
          · refine r_locs (lc' := []) [] rfl ?_
            exact hj20 s18
          · refine r_aload_n (q := 148) (i := 1) (z := 1) C dX10_playNight_147 rfl rfl rfl ?_
            refine g_X10_143 (q := 151) C hi1 dX10_playNight_148 rfl ?_
            refine r_aload_n (q := 152) (i := 0) (z := 0) C dX10_playNight_151 rfl rfl rfl ?_
            refine g_X10_12 (q := 155) C hi0 dX10_playNight_152 rfl ?_
            refine r_callVV (q := 158) (As := [.ref (fad Δ 3 ((i0 + 1)) 0)]) wm_X10_147 yvX0_note (c_X0_note Δ hN i1 ((i0 + 1)) (nx_20 hN hi1) (nx_103 hN hi0) s18) ⟨rfl, by decide⟩ C (nx_20 hN hi1) (by decide) rfl (Nat.le_of_ble_eq_true rfl) dX10_playNight_155 rfl (fun _ s21 => ?_)
            refine r_locs (lc' := []) [] rfl ?_
            exact hj20 s21
        refine r_icmp_ne (q := 110) (tgt := 115) C dX10_playNight_107 (by decide) rfl ?_ ?_
        · refine r_aload_n (q := 116) (i := 0) (z := 0) C dX10_playNight_115 rfl rfl rfl ?_
          refine g_X10_12 (q := 119) C hi0 dX10_playNight_116 rfl ?_
          refine g_X10_140 (q := 122) C (nx_103 hN hi0) dX10_playNight_119 rfl ?_
          exact hj16 (gI s13 3 ((i0 + 1)) 1) s13
        · refine r_bipush (q := 112) (v := 9) C dX10_playNight_110 rfl (by decide) ?_
          refine r_goto (q := 122) C dX10_playNight_112 (by decide) ?_
          exact hj16 ((9 : Int32)) s13
      refine r_icmp_ne (q := 38) (tgt := 52) C dX10_playNight_35 (by decide) rfl ?_ ?_
      · refine r_iload_n (q := 53) (i := 2) (z := 2) C dX10_playNight_52 rfl rfl rfl ?_
        refine r_locs (lc' := [(0, .ref (fad Δ 10 i0 0)), (1, .ref (fad Δ 2 i1 0))]) [0, 1] rfl ?_
        exact hj9 a2 s2
      · refine r_aload_n (q := 39) (i := 0) (z := 0) C dX10_playNight_38 rfl rfl rfl ?_
        refine g_X10_12 (q := 42) C hi0 dX10_playNight_39 rfl ?_
        refine r_aload_n (q := 43) (i := 1) (z := 1) C dX10_playNight_42 rfl rfl rfl ?_
        refine g_X10_122 (q := 46) C hi1 dX10_playNight_43 rfl ?_
        refine r_deref C (fun h => (h _ hi1).1) (fun y22 hy22 => ?_)
        refine r_callVI (q := 49) (As := [.ref (fad Δ 7 y22 0)]) wm_X10_131 yvX3_drawKind (c_X3_drawKind Δ hN ((i0 + 1)) y22 (nx_103 hN hi0) hy22 s2) ⟨rfl, by decide⟩ C (nx_103 hN hi0) (by decide) rfl (Nat.le_of_ble_eq_true rfl) dX10_playNight_46 rfl (fun x23 s24 => ?_)
        refine r_goto (q := 53) C dX10_playNight_49 (by decide) ?_
        refine r_locs (lc' := [(0, .ref (fad Δ 10 i0 0)), (1, .ref (fad Δ 2 i1 0))]) [0, 1] rfl ?_
        exact hj9 x23 s24
    · refine r_locs (lc' := [(0, .ref (fad Δ 10 i0 0))]) [0] rfl ?_
      exact hj4 s2

noncomputable def f_X10_compares (a0 : Int32) (a1 : Int32) (a2 : Int32) (st : fSt) : Option (Int32 × fSt) :=
  if ¬ a0 = ((60 : Int32)) then
    (fJn (fun (x1 : Int32) (s2 : fSt) =>
      (fBo x1 (some (x1, s2)))) fun (j3 : Int32 → fSt → Option (Int32 × fSt)) =>
    if ¬ a0 = ((62 : Int32)) then
      (if ¬ a1 = a2 then
        (j3 ((0 : Int32)) st)
      else
        (j3 ((1 : Int32)) st))
    else
      (if a1 ≤ a2 then
        (j3 ((0 : Int32)) st)
      else
        (j3 ((1 : Int32)) st)))
  else
    (fJn (fun (x4 : Int32) (s5 : fSt) =>
      (fBo x4 (some (x4, s5)))) fun (j6 : Int32 → fSt → Option (Int32 × fSt)) =>
    if a2 ≤ a1 then
      (j6 ((0 : Int32)) st)
    else
      (j6 ((1 : Int32)) st))

set_option maxHeartbeats 4000000 in
set_option maxRecDepth 100000 in
theorem c_X10_compares (Δ : fDl) (hN : fNx Δ) (a0 : Int32) (a1 : Int32) (a2 : Int32)  (st : fSt) : fMt eI Δ yX10_compares cX10_compares 3 (some .boolean) 1 [.int a0, .int a1, .int a2] st (f_X10_compares a0 a1 a2 st) := by
  unfold f_X10_compares
  refine r_method (by decide +kernel) (Nat.le_of_ble_eq_true rfl) (fun Γ C => ?_)
  have C : fC Δ Γ cX10_compares RX10 3 (some .boolean) 1 := C
  refine r_locs (lc' := [(0, .int a0), (1, .int a1), (2, .int a2)]) [0, 1, 2] rfl ?_
  refine r_iload_n (q := 1) (i := 0) (z := 0) C dX10_compares_0 rfl rfl rfl ?_
  refine r_bipush (q := 3) (v := 60) C dX10_compares_1 rfl (by decide) ?_
  refine r_icmp_ne (q := 6) (tgt := 17) C dX10_compares_3 (by decide) rfl ?_ ?_
  · refine r_iload_n (q := 18) (i := 0) (z := 0) C dX10_compares_17 rfl rfl rfl ?_
    refine r_bipush (q := 20) (v := 62) C dX10_compares_18 rfl (by decide) ?_
    refine r_join (fun j3 => ∀ (x1 : Int32) (s2 : fSt), fW Δ Γ 3 (fQ eI Δ Γ) 46 [] [.int x1] s2 (j3 x1 s2)) ?_ (fun j3 hj3 => ?_)
    · intro x1 s2
      exact r_zret C dX10_compares_46
    refine r_icmp_ne (q := 23) (tgt := 36) C dX10_compares_20 (by decide) rfl ?_ ?_
    · refine r_iload_n (q := 37) (i := 1) (z := 1) C dX10_compares_36 rfl rfl rfl ?_
      refine r_iload_n (q := 38) (i := 2) (z := 2) C dX10_compares_37 rfl rfl rfl ?_
      refine r_icmp_ne (q := 41) (tgt := 45) C dX10_compares_38 (by decide) rfl ?_ ?_
      · refine r_iconst (q := 46) (v := 0) C dX10_compares_45 rfl (by decide) ?_
        refine r_locs (lc' := []) [] rfl ?_
        exact hj3 ((0 : Int32)) st
      · refine r_iconst (q := 42) (v := 1) C dX10_compares_41 rfl (by decide) ?_
        refine r_goto (q := 46) C dX10_compares_42 (by decide) ?_
        refine r_locs (lc' := []) [] rfl ?_
        exact hj3 ((1 : Int32)) st
    · refine r_iload_n (q := 24) (i := 1) (z := 1) C dX10_compares_23 rfl rfl rfl ?_
      refine r_iload_n (q := 25) (i := 2) (z := 2) C dX10_compares_24 rfl rfl rfl ?_
      refine r_icmp_le (q := 28) (tgt := 32) C dX10_compares_25 (by decide) rfl ?_ ?_
      · refine r_iconst (q := 33) (v := 0) C dX10_compares_32 rfl (by decide) ?_
        refine r_goto (q := 46) C dX10_compares_33 (by decide) ?_
        refine r_locs (lc' := []) [] rfl ?_
        exact hj3 ((0 : Int32)) st
      · refine r_iconst (q := 29) (v := 1) C dX10_compares_28 rfl (by decide) ?_
        refine r_goto (q := 46) C dX10_compares_29 (by decide) ?_
        refine r_locs (lc' := []) [] rfl ?_
        exact hj3 ((1 : Int32)) st
  · refine r_iload_n (q := 7) (i := 1) (z := 1) C dX10_compares_6 rfl rfl rfl ?_
    refine r_iload_n (q := 8) (i := 2) (z := 2) C dX10_compares_7 rfl rfl rfl ?_
    refine r_join (fun j6 => ∀ (x4 : Int32) (s5 : fSt), fW Δ Γ 3 (fQ eI Δ Γ) 16 [] [.int x4] s5 (j6 x4 s5)) ?_ (fun j6 hj6 => ?_)
    · intro x4 s5
      exact r_zret C dX10_compares_16
    refine r_icmp_ge (q := 11) (tgt := 15) C dX10_compares_8 (by decide) rfl ?_ ?_
    · refine r_iconst (q := 16) (v := 0) C dX10_compares_15 rfl (by decide) ?_
      refine r_locs (lc' := []) [] rfl ?_
      exact hj6 ((0 : Int32)) st
    · refine r_iconst (q := 12) (v := 1) C dX10_compares_11 rfl (by decide) ?_
      refine r_goto (q := 16) C dX10_compares_12 (by decide) ?_
      refine r_locs (lc' := []) [] rfl ?_
      exact hj6 ((1 : Int32)) st
