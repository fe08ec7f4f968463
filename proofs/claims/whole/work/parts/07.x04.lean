noncomputable def f_X6_showMore_L19 (a1 : Int32) (x3 : Int32) (x4 : Int32) : Nat → Int32 → fSt → Option (Unit × fSt)
  | 0, _, _ => none
  | n8 + 1, x6, s7 =>
      if (gI s7 6 0 2) ≤ x6 then
        (some ((), s7))
      else
        (fBd (f_X6_isOver x6 s7) fun x9 s10 =>
        fJn (fun (s11 : fSt) =>
          (fLt (x6 + (1 : Int32)) fun (x13 : Int32) =>
          f_X6_showMore_L19 a1 x3 x4 n8 x13 s11)) fun (j12 : fSt → Option (Unit × fSt)) =>
        if x9 = 0 then
          (j12 s10)
        else
          (fIx x6 2048 <|
          if ((gA s10 6 0 1 x6.toNatClampNeg) &&& x3) = 0 then
            (j12 s10)
          else
            (fIx x6 2048 <|
            fLt (a1 &&& ((gA s10 6 0 1 x6.toNatClampNeg) ^^^ ((-1 : Int32)))) fun (x14 : Int32) =>
            fIx x14 2048 <|
            fIx x14 2048 <|
            fLt (sA s10 6 0 2 (upd (gA s10 6 0 2) x14.toNatClampNeg (if x4 < (gA s10 6 0 2 x14.toNatClampNeg) then x4 else (gA s10 6 0 2 x14.toNatClampNeg)))) fun s15 =>
            j12 s15)))

noncomputable def f_X6_showMore (a1 : Int32) (st : fSt) : Option (Unit × fSt) :=
  fBd (f_X6_lastOf a1 st) fun x1 s2 =>
  fLt (((1 : Int32)) <<< (x1 &&& 31)) fun (x3 : Int32) =>
  fIx a1 2048 <|
  fLt ((gA s2 6 0 2 a1.toNatClampNeg) + ((1 : Int32))) fun (x4 : Int32) =>
  fLt ((0 : Int32)) fun (x5 : Int32) =>
  f_X6_showMore_L19 a1 x3 x4 fF x5 s2

set_option maxHeartbeats 4000000 in
set_option maxRecDepth 100000 in
theorem c_X6_showMore (Δ : fDl) (hN : fNx Δ) (a1 : Int32)  (st : fSt) : fMt eV Δ yX6_showMore cX6_showMore 6 none 3 [.ref (fad Δ 6 0 0), .int a1] st (f_X6_showMore a1 st) := by
  unfold f_X6_showMore
  refine r_method (by decide +kernel) (Nat.le_of_ble_eq_true rfl) (fun Γ C => ?_)
  have C : fC Δ Γ cX6_showMore RX6 6 none 3 := C
  refine r_locs (lc' := [(0, .ref (fad Δ 6 0 0)), (1, .int a1)]) [0, 1] rfl ?_
  refine r_iconst (q := 1) (v := 1) C dX6_showMore_0 rfl (by decide) ?_
  refine r_iload_n (q := 2) (i := 1) (z := 1) C dX6_showMore_1 rfl rfl rfl ?_
  refine r_callSI (q := 5) (As := [.int a1]) wm_X6_51 ysX6_lastOf (c_X6_lastOf Δ hN a1 st) C (by decide) rfl (Nat.le_of_ble_eq_true rfl) dX6_showMore_2 rfl (fun x1 s2 => ?_)
  refine r_ishl (q := 6) C dX6_showMore_5 rfl ?_
  refine r_istore_n (q := 7) (i := 2) [(0, .ref (fad Δ 6 0 0)), (1, .int a1)] C dX6_showMore_6 rfl rfl (by decide) rfl (fun x3 => ?_)
  refine r_aload_n (q := 8) (i := 0) (z := 1) C dX6_showMore_7 rfl rfl rfl ?_
  refine g_X6_15 (q := 11) C (nk_6_0 hN) dX6_showMore_8 rfl ?_
  refine r_iload_n (q := 12) (i := 1) (z := 2) C dX6_showMore_11 rfl rfl rfl ?_
  refine r_ial (q := 13) q_6_2 h_6_2 C (nk_6_0 hN) dX6_showMore_12 rfl ?_
  refine r_iconst (q := 14) (v := 1) C dX6_showMore_13 rfl (by decide) ?_
  refine r_iadd (q := 15) C dX6_showMore_14 rfl ?_
  refine r_istore_n (q := 16) (i := 3) [(2, .int x3), (0, .ref (fad Δ 6 0 0)), (1, .int a1)] C dX6_showMore_15 rfl rfl (by decide) rfl (fun x4 => ?_)
  refine r_iconst (q := 17) (v := 0) C dX6_showMore_16 rfl (by decide) ?_
  refine r_istore (q := 19) (i := 4) [(3, .int x4), (2, .int x3), (0, .ref (fad Δ 6 0 0)), (1, .int a1)] C dX6_showMore_17 rfl (by decide) rfl (fun x5 => ?_)
  refine r_locs (lc' := [(0, .ref (fad Δ 6 0 0)), (1, .int a1), (2, .int x3), (3, .int x4), (4, .int x5)]) [3, 4, 2, 1, 0] rfl ?_
  have L19 : ∀ (n8 : Nat) (x6 : Int32) (s7 : fSt), fW Δ Γ 6 (fQ eV Δ Γ) 19 [(0, .ref (fad Δ 6 0 0)), (1, .int a1), (2, .int x3), (3, .int x4), (4, .int x6)] [] s7 (f_X6_showMore_L19 a1 x3 x4 n8 x6 s7) := by
    intro n8
    induction n8 with
    | zero =>
      intro x6 s7
      rw [f_X6_showMore_L19]
      exact r_none
    | succ n8 ih_n8 =>
      intro x6 s7
      rw [f_X6_showMore_L19]
      refine r_iload (q := 21) (i := 4) (z := 4) C dX6_showMore_19 rfl rfl ?_
      refine r_aload_n (q := 22) (i := 0) (z := 0) C dX6_showMore_21 rfl rfl rfl ?_
      refine g_X6_18 (q := 25) C (nk_6_0 hN) dX6_showMore_22 rfl ?_
      refine r_icmp_ge (q := 28) (tgt := 86) C dX6_showMore_25 (by decide) rfl ?_ ?_
      · exact r_vret C dX6_showMore_86
      · refine r_aload_n (q := 29) (i := 0) (z := 0) C dX6_showMore_28 rfl rfl rfl ?_
        refine r_iload (q := 31) (i := 4) (z := 4) C dX6_showMore_29 rfl rfl ?_
        refine r_callVI (q := 34) (As := [.int x6]) wm_X6_67 yvX6_isOver (c_X6_isOver Δ hN x6 s7) ⟨rfl, by decide⟩ C (nk_6_0 hN) (by decide) rfl (Nat.le_of_ble_eq_true rfl) dX6_showMore_31 rfl (fun x9 s10 => ?_)
        refine r_join (fun j12 => ∀  (s11 : fSt), fW Δ Γ 6 (fQ eV Δ Γ) 80 [(0, .ref (fad Δ 6 0 0)), (1, .int a1), (2, .int x3), (3, .int x4), (4, .int x6)] [] s11 (j12 s11)) ?_ (fun j12 hj12 => ?_)
        · intro s11
          refine r_iinc (q := 83) (z := 4) (d := 1) [(0, .ref (fad Δ 6 0 0)), (1, .int a1), (2, .int x3), (3, .int x4)] C dX6_showMore_80 rfl rfl (by decide) (by decide) rfl (fun x13 => ?_)
          refine r_goto (q := 19) C dX6_showMore_83 (by decide) ?_
          refine r_locs (lc' := [(0, .ref (fad Δ 6 0 0)), (1, .int a1), (2, .int x3), (3, .int x4), (4, .int x13)]) [1, 2, 3, 4, 0] rfl ?_
          exact ih_n8 x13 s11
        refine r_if_eq (q := 37) (tgt := 80) C dX6_showMore_34 (by decide) rfl ?_ ?_
        · exact hj12 s10
        · refine r_aload_n (q := 38) (i := 0) (z := 0) C dX6_showMore_37 rfl rfl rfl ?_
          refine g_X6_11 (q := 41) C (nk_6_0 hN) dX6_showMore_38 rfl ?_
          refine r_iload (q := 43) (i := 4) (z := 4) C dX6_showMore_41 rfl rfl ?_
          refine r_ial (q := 44) q_6_1 h_6_1 C (nk_6_0 hN) dX6_showMore_43 rfl ?_
          refine r_iload_n (q := 45) (i := 2) (z := 2) C dX6_showMore_44 rfl rfl rfl ?_
          refine r_iand (q := 46) C dX6_showMore_45 rfl ?_
          refine r_if_eq (q := 49) (tgt := 80) C dX6_showMore_46 (by decide) rfl ?_ ?_
          · exact hj12 s10
          · refine r_iload_n (q := 50) (i := 1) (z := 1) C dX6_showMore_49 rfl rfl rfl ?_
            refine r_aload_n (q := 51) (i := 0) (z := 0) C dX6_showMore_50 rfl rfl rfl ?_
            refine g_X6_11 (q := 54) C (nk_6_0 hN) dX6_showMore_51 rfl ?_
            refine r_iload (q := 56) (i := 4) (z := 4) C dX6_showMore_54 rfl rfl ?_
            refine r_ial (q := 57) q_6_1 h_6_1 C (nk_6_0 hN) dX6_showMore_56 rfl ?_
            refine r_iconst (q := 58) (v := (-1)) C dX6_showMore_57 rfl (by decide) ?_
            refine r_ixor (q := 59) C dX6_showMore_58 rfl ?_
            refine r_iand (q := 60) C dX6_showMore_59 rfl ?_
            refine r_istore (q := 62) (i := 5) [(0, .ref (fad Δ 6 0 0)), (1, .int a1), (2, .int x3), (3, .int x4), (4, .int x6)] C dX6_showMore_60 rfl (by decide) rfl (fun x14 => ?_)
            refine r_aload_n (q := 63) (i := 0) (z := 1) C dX6_showMore_62 rfl rfl rfl ?_
            refine g_X6_15 (q := 66) C (nk_6_0 hN) dX6_showMore_63 rfl ?_
            refine r_iload (q := 68) (i := 5) (z := 0) C dX6_showMore_66 rfl rfl ?_
            refine r_aload_n (q := 69) (i := 0) (z := 1) C dX6_showMore_68 rfl rfl rfl ?_
            refine g_X6_15 (q := 72) C (nk_6_0 hN) dX6_showMore_69 rfl ?_
            refine r_iload (q := 74) (i := 5) (z := 0) C dX6_showMore_72 rfl rfl ?_
            refine r_ial (q := 75) q_6_2 h_6_2 C (nk_6_0 hN) dX6_showMore_74 rfl ?_
            refine r_iload_n (q := 76) (i := 3) (z := 4) C dX6_showMore_75 rfl rfl rfl ?_
            refine r_min (q := 79) wk_X6_80 mw_min.1 mw_min.2.1 mw_min.2.2 C (by decide) (Nat.le_of_ble_eq_true rfl) dX6_showMore_76 rfl ?_
            refine r_ast (q := 80) q_6_2 h_6_2 C (nk_6_0 hN) dX6_showMore_79 rfl (fun s15 => ?_)
            refine r_locs (lc' := [(0, .ref (fad Δ 6 0 0)), (1, .int a1), (2, .int x3), (3, .int x4), (4, .int x6)]) [1, 2, 3, 4, 5] rfl ?_
            exact hj12 s15
  exact L19 fF x5 s2

noncomputable def f_X6_fewestForAll_L36  : Nat → Int32 → fSt → Option (Int32 × fSt)
  | 0, _, _ => none
  | n9 + 1, x7, s8 =>
      if x7 ≤ 0 then
          (fIx ((0 : Int32)) 2048 <|
          some (gA s8 6 0 2 ((0 : Int32)).toNatClampNeg, s8))
        else
          (fIx x7 2048 <|
          fIx ((0 : Int32)) 2048 <|
          fJn (fun (s10 : fSt) =>
            (fLt (x7 + (-1 : Int32)) fun (x12 : Int32) =>
            f_X6_fewestForAll_L36 n9 x12 s10)) fun (j11 : fSt → Option (Int32 × fSt)) =>
          if (gA s8 6 0 2 ((0 : Int32)).toNatClampNeg) ≤ ((gA s8 6 0 2 x7.toNatClampNeg) + ((1 : Int32))) then
            (j11 s8)
          else
            (fBd (f_X6_showMore x7 s8) fun _ s13 =>
            j11 s13))

noncomputable def f_X6_fewestForAll  (st : fSt) : Option (Int32 × fSt) :=
  fBd (f_X6_canSee  st) fun x1 s2 =>
  fLt (x1 &&& ((gI s2 6 0 3) ^^^ ((-1 : Int32)))) fun (x3 : Int32) =>
  if ¬ x3 = 0 then
    (fBd (f_J7_fill_53178 6 0 2 2048 ((12 : Int32)) s2) fun _ s4 =>
    fIx x3 2048 <|
    fLt (sA s4 6 0 2 (upd (gA s4 6 0 2) x3.toNatClampNeg ((0 : Int32)))) fun s5 =>
    fLt x3 fun (x6 : Int32) =>
    f_X6_fewestForAll_L36 fF x6 s5)
  else
    (some ((1 : Int32), s2))

set_option maxHeartbeats 4000000 in
set_option maxRecDepth 100000 in
theorem c_X6_fewestForAll (Δ : fDl) (hN : fNx Δ)   (st : fSt) : fMt eI Δ yX6_fewestForAll cX6_fewestForAll 3 (some .int) 4 [.ref (fad Δ 6 0 0)] st (f_X6_fewestForAll  st) := by
  unfold f_X6_fewestForAll
  refine r_method (by decide +kernel) (Nat.le_of_ble_eq_true rfl) (fun Γ C => ?_)
  have C : fC Δ Γ cX6_fewestForAll RX6 3 (some .int) 4 := C
  refine r_locs (lc' := [(0, .ref (fad Δ 6 0 0))]) [0] rfl ?_
  refine r_aload_n (q := 1) (i := 0) (z := 0) C dX6_fewestForAll_0 rfl rfl rfl ?_
  refine r_callVI (q := 4) (As := []) wm_X6_94 yvX6_canSee (c_X6_canSee Δ hN st) ⟨rfl, by decide⟩ C (nk_6_0 hN) (by decide) rfl (Nat.le_of_ble_eq_true rfl) dX6_fewestForAll_1 rfl (fun x1 s2 => ?_)
  refine r_aload_n (q := 5) (i := 0) (z := 0) C dX6_fewestForAll_4 rfl rfl rfl ?_
  refine g_X6_31 (q := 8) C (nk_6_0 hN) dX6_fewestForAll_5 rfl ?_
  refine r_iconst (q := 9) (v := (-1)) C dX6_fewestForAll_8 rfl (by decide) ?_
  refine r_ixor (q := 10) C dX6_fewestForAll_9 rfl ?_
  refine r_iand (q := 11) C dX6_fewestForAll_10 rfl ?_
  refine r_istore_n (q := 12) (i := 1) [(0, .ref (fad Δ 6 0 0))] C dX6_fewestForAll_11 rfl rfl (by decide) rfl (fun x3 => ?_)
  refine r_iload_n (q := 13) (i := 1) (z := 0) C dX6_fewestForAll_12 rfl rfl rfl ?_
  refine r_if_ne (q := 16) (tgt := 18) C dX6_fewestForAll_13 (by decide) rfl ?_ ?_
  · refine r_aload_n (q := 19) (i := 0) (z := 1) C dX6_fewestForAll_18 rfl rfl rfl ?_
    refine g_X6_15 (q := 22) C (nk_6_0 hN) dX6_fewestForAll_19 rfl ?_
    refine r_bipush (q := 24) (v := 12) C dX6_fewestForAll_22 rfl (by decide) ?_
    refine r_callSV (q := 27) (As := [.ref (fad Δ 6 0 2), .int ((12 : Int32))]) wm_X6_98 ysJ7_fill_53178 (c_J7_fill_53178 Δ 6 0 2 2048 ((12 : Int32)) q_6_2 h_6_2 (nk_6_0 hN) s2) C (by decide) rfl (Nat.le_of_ble_eq_true rfl) dX6_fewestForAll_24 rfl (fun _ s4 => ?_)
    refine r_aload_n (q := 28) (i := 0) (z := 1) C dX6_fewestForAll_27 rfl rfl rfl ?_
    refine g_X6_15 (q := 31) C (nk_6_0 hN) dX6_fewestForAll_28 rfl ?_
    refine r_iload_n (q := 32) (i := 1) (z := 0) C dX6_fewestForAll_31 rfl rfl rfl ?_
    refine r_iconst (q := 33) (v := 0) C dX6_fewestForAll_32 rfl (by decide) ?_
    refine r_ast (q := 34) q_6_2 h_6_2 C (nk_6_0 hN) dX6_fewestForAll_33 rfl (fun s5 => ?_)
    refine r_iload_n (q := 35) (i := 1) (z := 0) C dX6_fewestForAll_34 rfl rfl rfl ?_
    refine r_istore_n (q := 36) (i := 2) [(1, .int x3), (0, .ref (fad Δ 6 0 0))] C dX6_fewestForAll_35 rfl rfl (by decide) rfl (fun x6 => ?_)
    refine r_locs (lc' := [(0, .ref (fad Δ 6 0 0)), (2, .int x6)]) [2, 0] rfl ?_
    have L36 : ∀ (n9 : Nat) (x7 : Int32) (s8 : fSt), fW Δ Γ 3 (fQ eI Δ Γ) 36 [(0, .ref (fad Δ 6 0 0)), (2, .int x7)] [] s8 (f_X6_fewestForAll_L36 n9 x7 s8) := by
      intro n9
      induction n9 with
      | zero =>
        intro x7 s8
        rw [f_X6_fewestForAll_L36]
        exact r_none
      | succ n9 ih_n9 =>
        intro x7 s8
        rw [f_X6_fewestForAll_L36]
        refine r_iload_n (q := 37) (i := 2) (z := 1) C dX6_fewestForAll_36 rfl rfl rfl ?_
        refine r_if_le (q := 40) (tgt := 68) C dX6_fewestForAll_37 (by decide) rfl ?_ ?_
        · refine r_aload_n (q := 69) (i := 0) (z := 0) C dX6_fewestForAll_68 rfl rfl rfl ?_
          refine g_X6_15 (q := 72) C (nk_6_0 hN) dX6_fewestForAll_69 rfl ?_
          refine r_iconst (q := 73) (v := 0) C dX6_fewestForAll_72 rfl (by decide) ?_
          refine r_ial (q := 74) q_6_2 h_6_2 C (nk_6_0 hN) dX6_fewestForAll_73 rfl ?_
          exact r_iret C dX6_fewestForAll_74
        · refine r_aload_n (q := 41) (i := 0) (z := 0) C dX6_fewestForAll_40 rfl rfl rfl ?_
          refine g_X6_15 (q := 44) C (nk_6_0 hN) dX6_fewestForAll_41 rfl ?_
          refine r_iload_n (q := 45) (i := 2) (z := 1) C dX6_fewestForAll_44 rfl rfl rfl ?_
          refine r_ial (q := 46) q_6_2 h_6_2 C (nk_6_0 hN) dX6_fewestForAll_45 rfl ?_
          refine r_iconst (q := 47) (v := 1) C dX6_fewestForAll_46 rfl (by decide) ?_
          refine r_iadd (q := 48) C dX6_fewestForAll_47 rfl ?_
          refine r_aload_n (q := 49) (i := 0) (z := 0) C dX6_fewestForAll_48 rfl rfl rfl ?_
          refine g_X6_15 (q := 52) C (nk_6_0 hN) dX6_fewestForAll_49 rfl ?_
          refine r_iconst (q := 53) (v := 0) C dX6_fewestForAll_52 rfl (by decide) ?_
          refine r_ial (q := 54) q_6_2 h_6_2 C (nk_6_0 hN) dX6_fewestForAll_53 rfl ?_
          refine r_join (fun j11 => ∀  (s10 : fSt), fW Δ Γ 3 (fQ eI Δ Γ) 62 [(0, .ref (fad Δ 6 0 0)), (2, .int x7)] [] s10 (j11 s10)) ?_ (fun j11 hj11 => ?_)
          · intro s10
            refine r_iinc (q := 65) (z := 1) (d := (-1)) [(0, .ref (fad Δ 6 0 0))] C dX6_fewestForAll_62 rfl rfl (by decide) (by decide) rfl (fun x12 => ?_)
            refine r_goto (q := 36) C dX6_fewestForAll_65 (by decide) ?_
            refine r_locs (lc' := [(0, .ref (fad Δ 6 0 0)), (2, .int x12)]) [1, 0] rfl ?_
            exact ih_n9 x12 s10
          refine r_icmp_ge (q := 57) (tgt := 62) C dX6_fewestForAll_54 (by decide) rfl ?_ ?_
          · exact hj11 s8
          · refine r_aload_n (q := 58) (i := 0) (z := 0) C dX6_fewestForAll_57 rfl rfl rfl ?_
            refine r_iload_n (q := 59) (i := 2) (z := 1) C dX6_fewestForAll_58 rfl rfl rfl ?_
            refine r_callVV (q := 62) (As := [.int x7]) wm_X6_104 yvX6_showMore (c_X6_showMore Δ hN x7 s8) ⟨rfl, by decide⟩ C (nk_6_0 hN) (by decide) rfl (Nat.le_of_ble_eq_true rfl) dX6_fewestForAll_59 rfl (fun _ s13 => ?_)
            exact hj11 s13
    exact L36 fF x6 s5
  · refine r_iconst (q := 17) (v := 1) C dX6_fewestForAll_16 rfl (by decide) ?_
    exact r_iret C dX6_fewestForAll_17

noncomputable def f_X7_isTaken (i0 : Nat) (a1 : Int64) (st : fSt) : Option (Int32 × fSt) :=
  fBd (f_X5_find 7 i0 1 6 (gI st 7 i0 0) a1 st) fun x1 s2 =>
  fJn (fun (x3 : Int32) (s4 : fSt) =>
    (fBo x3 (some (x3, s4)))) fun (j5 : Int32 → fSt → Option (Int32 × fSt)) =>
  fJn (fun (s6 : fSt) =>
    (j5 ((1 : Int32)) s6)) fun (j7 : fSt → Option (Int32 × fSt)) =>
  if ¬ x1 = ((-1 : Int32)) then
    (j7 s2)
  else
    (fBd (f_X5_find 7 i0 2 6 (gI s2 7 i0 1) a1 s2) fun x8 s9 =>
    if ¬ x8 = ((-1 : Int32)) then
      (j7 s9)
    else
      (fBd (f_X5_find 7 i0 3 12 (gI s9 7 i0 2) a1 s9) fun x10 s11 =>
      if ¬ x10 = ((-1 : Int32)) then
        (j7 s11)
      else
        (fBd (f_X5_find 7 i0 4 4 (gI s11 7 i0 3) a1 s11) fun x12 s13 =>
        if x12 = ((-1 : Int32)) then
          (j5 ((0 : Int32)) s13)
        else
          (j7 s13))))

set_option maxHeartbeats 4000000 in
set_option maxRecDepth 100000 in
theorem c_X7_isTaken (Δ : fDl) (hN : fNx Δ) (i0 : Nat) (a1 : Int64) (hi0 : i0 < fN Δ 7)  (st : fSt) : fMt eI Δ yX7_isTaken cX7_isTaken 3 (some .boolean) 2 [.ref (fad Δ 7 i0 0), .long a1] st (f_X7_isTaken i0 a1 st) := by
  unfold f_X7_isTaken
  refine r_method (by decide +kernel) (Nat.le_of_ble_eq_true rfl) (fun Γ C => ?_)
  have C : fC Δ Γ cX7_isTaken RX7 3 (some .boolean) 2 := C
  refine r_locs (lc' := [(0, .ref (fad Δ 7 i0 0)), (1, .long a1)]) [0, 1] rfl ?_
  refine r_aload_n (q := 1) (i := 0) (z := 0) C dX7_isTaken_0 rfl rfl rfl ?_
  refine g_X7_9 (q := 4) C hi0 dX7_isTaken_1 rfl ?_
  refine r_aload_n (q := 5) (i := 0) (z := 0) C dX7_isTaken_4 rfl rfl rfl ?_
  refine g_X7_78 (q := 8) C hi0 dX7_isTaken_5 rfl ?_
  refine r_lload_n (q := 9) (i := 1) (z := 1) C dX7_isTaken_8 rfl rfl rfl ?_
  refine r_callSI (q := 12) (As := [.ref (fad Δ 7 i0 1), .int (gI st 7 i0 0), .long a1]) wm_X7_133 ysX5_find (c_X5_find Δ hN 7 i0 1 6 (gI st 7 i0 0) a1 q_7_1 h_7_1 hi0 st) C (by decide) rfl (Nat.le_of_ble_eq_true rfl) dX7_isTaken_9 rfl (fun x1 s2 => ?_)
  refine r_iconst (q := 13) (v := (-1)) C dX7_isTaken_12 rfl (by decide) ?_
  refine r_join (fun j5 => ∀ (x3 : Int32) (s4 : fSt), fW Δ Γ 3 (fQ eI Δ Γ) 69 [] [.int x3] s4 (j5 x3 s4)) ?_ (fun j5 hj5 => ?_)
  · intro x3 s4
    exact r_zret C dX7_isTaken_69
  refine r_join (fun j7 => ∀  (s6 : fSt), fW Δ Γ 3 (fQ eI Δ Γ) 64 [] [] s6 (j7 s6)) ?_ (fun j7 hj7 => ?_)
  · intro s6
    refine r_iconst (q := 65) (v := 1) C dX7_isTaken_64 rfl (by decide) ?_
    refine r_goto (q := 69) C dX7_isTaken_65 (by decide) ?_
    exact hj5 ((1 : Int32)) s6
  refine r_icmp_ne (q := 16) (tgt := 64) C dX7_isTaken_13 (by decide) rfl ?_ ?_
  · refine r_locs (lc' := []) [] rfl ?_
    exact hj7 s2
  · refine r_aload_n (q := 17) (i := 0) (z := 0) C dX7_isTaken_16 rfl rfl rfl ?_
    refine g_X7_15 (q := 20) C hi0 dX7_isTaken_17 rfl ?_
    refine r_aload_n (q := 21) (i := 0) (z := 0) C dX7_isTaken_20 rfl rfl rfl ?_
    refine g_X7_89 (q := 24) C hi0 dX7_isTaken_21 rfl ?_
    refine r_lload_n (q := 25) (i := 1) (z := 1) C dX7_isTaken_24 rfl rfl rfl ?_
    refine r_callSI (q := 28) (As := [.ref (fad Δ 7 i0 2), .int (gI s2 7 i0 1), .long a1]) wm_X7_133 ysX5_find (c_X5_find Δ hN 7 i0 2 6 (gI s2 7 i0 1) a1 q_7_2 h_7_2 hi0 s2) C (by decide) rfl (Nat.le_of_ble_eq_true rfl) dX7_isTaken_25 rfl (fun x8 s9 => ?_)
    refine r_iconst (q := 29) (v := (-1)) C dX7_isTaken_28 rfl (by decide) ?_
    refine r_icmp_ne (q := 32) (tgt := 64) C dX7_isTaken_29 (by decide) rfl ?_ ?_
    · refine r_locs (lc' := []) [] rfl ?_
      exact hj7 s9
    · refine r_aload_n (q := 33) (i := 0) (z := 0) C dX7_isTaken_32 rfl rfl rfl ?_
      refine g_X7_18 (q := 36) C hi0 dX7_isTaken_33 rfl ?_
      refine r_aload_n (q := 37) (i := 0) (z := 0) C dX7_isTaken_36 rfl rfl rfl ?_
      refine g_X7_103 (q := 40) C hi0 dX7_isTaken_37 rfl ?_
      refine r_lload_n (q := 41) (i := 1) (z := 1) C dX7_isTaken_40 rfl rfl rfl ?_
      refine r_callSI (q := 44) (As := [.ref (fad Δ 7 i0 3), .int (gI s9 7 i0 2), .long a1]) wm_X7_133 ysX5_find (c_X5_find Δ hN 7 i0 3 12 (gI s9 7 i0 2) a1 q_7_3 h_7_3 hi0 s9) C (by decide) rfl (Nat.le_of_ble_eq_true rfl) dX7_isTaken_41 rfl (fun x10 s11 => ?_)
      refine r_iconst (q := 45) (v := (-1)) C dX7_isTaken_44 rfl (by decide) ?_
      refine r_icmp_ne (q := 48) (tgt := 64) C dX7_isTaken_45 (by decide) rfl ?_ ?_
      · refine r_locs (lc' := []) [] rfl ?_
        exact hj7 s11
      · refine r_aload_n (q := 49) (i := 0) (z := 0) C dX7_isTaken_48 rfl rfl rfl ?_
        refine g_X7_21 (q := 52) C hi0 dX7_isTaken_49 rfl ?_
        refine r_aload_n (q := 53) (i := 0) (z := 0) C dX7_isTaken_52 rfl rfl rfl ?_
        refine g_X7_116 (q := 56) C hi0 dX7_isTaken_53 rfl ?_
        refine r_lload_n (q := 57) (i := 1) (z := 1) C dX7_isTaken_56 rfl rfl rfl ?_
        refine r_callSI (q := 60) (As := [.ref (fad Δ 7 i0 4), .int (gI s11 7 i0 3), .long a1]) wm_X7_133 ysX5_find (c_X5_find Δ hN 7 i0 4 4 (gI s11 7 i0 3) a1 q_7_4 h_7_4 hi0 s11) C (by decide) rfl (Nat.le_of_ble_eq_true rfl) dX7_isTaken_57 rfl (fun x12 s13 => ?_)
        refine r_iconst (q := 61) (v := (-1)) C dX7_isTaken_60 rfl (by decide) ?_
        refine r_icmp_eq (q := 64) (tgt := 68) C dX7_isTaken_61 (by decide) rfl ?_ ?_
        · refine r_iconst (q := 69) (v := 0) C dX7_isTaken_68 rfl (by decide) ?_
          refine r_locs (lc' := []) [] rfl ?_
          exact hj5 ((0 : Int32)) s13
        · refine r_locs (lc' := []) [] rfl ?_
          exact hj7 s13

noncomputable def f_X7_readNew (i0 : Nat) (c2 : Nat) (i2 : Nat) (j2 : Nat) (n2 : Nat) (a3 : Int32) (st : fSt) : Option (Int32 × fSt) :=
  if a3 < (Int32.ofNat n2) then
    (fBd (f_X5_advance  st) fun _ s1 =>
    if (gI s1 5 0 6) = ((32 : Int32)) then
      (fBd (f_X7_isTaken i0 (gL s1 5 0 7) s1) fun x2 s3 =>
      if x2 = 0 then
        (fIx a3 n2 <|
        fLt (sB s3 c2 i2 j2 (vp_updL (gB s3 c2 i2 j2) a3.toNatClampNeg (gL s3 5 0 7))) fun s4 =>
        fBd (f_X5_advance  s4) fun _ s5 =>
        some ((1 : Int32), s5))
      else
        (fBd (f_X5_fail ((3 : Int32)) s3) fun x6 s7 =>
        fBo x6 (some (x6, s7))))
    else
      (fBd (f_X5_failHere  s1) fun x8 s9 =>
      fBo x8 (some (x8, s9))))
  else
    (fBd (f_X5_fail ((6 : Int32)) st) fun x10 s11 =>
    fBo x10 (some (x10, s11)))

set_option maxHeartbeats 4000000 in
set_option maxRecDepth 100000 in
theorem c_X7_readNew (Δ : fDl) (hN : fNx Δ) (i0 : Nat) (c2 : Nat) (i2 : Nat) (j2 : Nat) (n2 : Nat) (a3 : Int32) (hi0 : i0 < fN Δ 7) (hk2 : fAK c2 j2 = (3, n2)) (hj2 : c2 < 13 ∧ j2 ≠ 0 ∧ j2 ≤ fNA c2) (hi2 : i2 < fN Δ c2)  (st : fSt) : fMt eI Δ yX7_readNew cX7_readNew 4 (some .boolean) 4 [.ref (fad Δ 7 i0 0), .ref (fad Δ 5 0 0), .ref (fad Δ c2 i2 j2), .int a3] st (f_X7_readNew i0 c2 i2 j2 n2 a3 st) := by
  unfold f_X7_readNew
  refine r_method (by decide +kernel) (Nat.le_of_ble_eq_true rfl) (fun Γ C => ?_)
  have C : fC Δ Γ cX7_readNew RX7 4 (some .boolean) 4 := C
  refine r_locs (lc' := [(0, .ref (fad Δ 7 i0 0)), (1, .ref (fad Δ 5 0 0)), (2, .ref (fad Δ c2 i2 j2)), (3, .int a3)]) [0, 1, 2, 3] rfl ?_
  refine r_iload_n (q := 1) (i := 3) (z := 3) C dX7_readNew_0 rfl rfl rfl ?_
  refine r_aload_n (q := 2) (i := 2) (z := 2) C dX7_readNew_1 rfl rfl rfl ?_
  refine r_len (q := 3) (v := Int32.ofNat n2) hk2 (by decide) hj2 C hi2 rfl dX7_readNew_2 rfl ?_
  refine r_icmp_lt (q := 6) (tgt := 13) C dX7_readNew_3 (by decide) rfl ?_ ?_
  · refine r_aload_n (q := 14) (i := 1) (z := 1) C dX7_readNew_13 rfl rfl rfl ?_
    refine r_callVV (q := 17) (As := []) wm_X7_122 yvX5_advance (c_X5_advance Δ hN st) ⟨rfl, by decide⟩ C (nk_5_0 hN) (by decide) rfl (Nat.le_of_ble_eq_true rfl) dX7_readNew_14 rfl (fun _ s1 => ?_)
    refine r_aload_n (q := 18) (i := 1) (z := 1) C dX7_readNew_17 rfl rfl rfl ?_
    refine g_X7_55 (q := 21) C (nk_5_0 hN) dX7_readNew_18 rfl ?_
    refine r_bipush (q := 23) (v := 32) C dX7_readNew_21 rfl (by decide) ?_
    refine r_icmp_eq (q := 26) (tgt := 31) C dX7_readNew_23 (by decide) rfl ?_ ?_
    · refine r_aload_n (q := 32) (i := 0) (z := 0) C dX7_readNew_31 rfl rfl rfl ?_
      refine r_aload_n (q := 33) (i := 1) (z := 1) C dX7_readNew_32 rfl rfl rfl ?_
      refine g_X7_125 (q := 36) C (nk_5_0 hN) dX7_readNew_33 rfl ?_
      refine r_callVI (q := 39) (As := [.long (gL s1 5 0 7)]) wm_X7_129 yvX7_isTaken (c_X7_isTaken Δ hN i0 (gL s1 5 0 7) hi0 s1) ⟨rfl, by decide⟩ C hi0 (by decide) rfl (Nat.le_of_ble_eq_true rfl) dX7_readNew_36 rfl (fun x2 s3 => ?_)
      refine r_if_eq (q := 42) (tgt := 48) C dX7_readNew_39 (by decide) rfl ?_ ?_
      · refine r_aload_n (q := 49) (i := 2) (z := 2) C dX7_readNew_48 rfl rfl rfl ?_
        refine r_iload_n (q := 50) (i := 3) (z := 3) C dX7_readNew_49 rfl rfl rfl ?_
        refine r_aload_n (q := 51) (i := 1) (z := 1) C dX7_readNew_50 rfl rfl rfl ?_
        refine g_X7_125 (q := 54) C (nk_5_0 hN) dX7_readNew_51 rfl ?_
        refine r_lst (q := 55) hk2 hj2 C hi2 dX7_readNew_54 rfl (fun s4 => ?_)
        refine r_aload_n (q := 56) (i := 1) (z := 1) C dX7_readNew_55 rfl rfl rfl ?_
        refine r_callVV (q := 59) (As := []) wm_X7_122 yvX5_advance (c_X5_advance Δ hN s4) ⟨rfl, by decide⟩ C (nk_5_0 hN) (by decide) rfl (Nat.le_of_ble_eq_true rfl) dX7_readNew_56 rfl (fun _ s5 => ?_)
        refine r_iconst (q := 60) (v := 1) C dX7_readNew_59 rfl (by decide) ?_
        exact r_zret0 (Or.inr rfl) C dX7_readNew_60
      · refine r_aload_n (q := 43) (i := 1) (z := 1) C dX7_readNew_42 rfl rfl rfl ?_
        refine r_iconst (q := 44) (v := 3) C dX7_readNew_43 rfl (by decide) ?_
        refine r_callVI (q := 47) (As := [.int ((3 : Int32))]) wm_X7_119 yvX5_fail (c_X5_fail Δ hN ((3 : Int32)) s3) ⟨rfl, by decide⟩ C (nk_5_0 hN) (by decide) rfl (Nat.le_of_ble_eq_true rfl) dX7_readNew_44 rfl (fun x6 s7 => ?_)
        exact r_zret C dX7_readNew_47
    · refine r_aload_n (q := 27) (i := 1) (z := 1) C dX7_readNew_26 rfl rfl rfl ?_
      refine r_callVI (q := 30) (As := []) wm_X7_74 yvX5_failHere (c_X5_failHere Δ hN s1) ⟨rfl, by decide⟩ C (nk_5_0 hN) (by decide) rfl (Nat.le_of_ble_eq_true rfl) dX7_readNew_27 rfl (fun x8 s9 => ?_)
      exact r_zret C dX7_readNew_30
  · refine r_aload_n (q := 7) (i := 1) (z := 1) C dX7_readNew_6 rfl rfl rfl ?_
    refine r_bipush (q := 9) (v := 6) C dX7_readNew_7 rfl (by decide) ?_
    refine r_callVI (q := 12) (As := [.int ((6 : Int32))]) wm_X7_119 yvX5_fail (c_X5_fail Δ hN ((6 : Int32)) st) ⟨rfl, by decide⟩ C (nk_5_0 hN) (by decide) rfl (Nat.le_of_ble_eq_true rfl) dX7_readNew_9 rfl (fun x10 s11 => ?_)
    exact r_zret C dX7_readNew_12

noncomputable def f_X7_readRole (i0 : Nat) (st : fSt) : Option (Int32 × fSt) :=
  fBd (f_X7_readNew i0 7 i0 1 6 (gI st 7 i0 0) st) fun x1 s2 =>
  fJn (fun (s3 : fSt) =>
    (some ((0 : Int32), s3))) fun (j4 : fSt → Option (Int32 × fSt)) =>
  if x1 = 0 then
    (j4 s2)
  else
    (fBd (f_X5_take ((59 : Int32)) s2) fun x5 s6 =>
    if ¬ x5 = 0 then
      (fLt (sI s6 7 i0 0 ((gI s6 7 i0 0) + ((1 : Int32)))) fun s7 =>
      some ((1 : Int32), s7))
    else
      (j4 s6))

set_option maxHeartbeats 4000000 in
set_option maxRecDepth 100000 in
theorem c_X7_readRole (Δ : fDl) (hN : fNx Δ) (i0 : Nat) (hi0 : i0 < fN Δ 7)  (st : fSt) : fMt eI Δ yX7_readRole cX7_readRole 2 (some .boolean) 5 [.ref (fad Δ 7 i0 0), .ref (fad Δ 5 0 0)] st (f_X7_readRole i0 st) := by
  unfold f_X7_readRole
  refine r_method (by decide +kernel) (Nat.le_of_ble_eq_true rfl) (fun Γ C => ?_)
  have C : fC Δ Γ cX7_readRole RX7 2 (some .boolean) 5 := C
  refine r_locs (lc' := [(0, .ref (fad Δ 7 i0 0)), (1, .ref (fad Δ 5 0 0))]) [0, 1] rfl ?_
  refine r_aload_n (q := 1) (i := 0) (z := 0) C dX7_readRole_0 rfl rfl rfl ?_
  refine r_aload_n (q := 2) (i := 1) (z := 1) C dX7_readRole_1 rfl rfl rfl ?_
  refine r_aload_n (q := 3) (i := 0) (z := 0) C dX7_readRole_2 rfl rfl rfl ?_
  refine g_X7_9 (q := 6) C hi0 dX7_readRole_3 rfl ?_
  refine r_aload_n (q := 7) (i := 0) (z := 0) C dX7_readRole_6 rfl rfl rfl ?_
  refine g_X7_78 (q := 10) C hi0 dX7_readRole_7 rfl ?_
  refine r_callVI (q := 13) (As := [.ref (fad Δ 5 0 0), .ref (fad Δ 7 i0 1), .int (gI st 7 i0 0)]) wm_X7_81 yvX7_readNew (c_X7_readNew Δ hN i0 7 i0 1 6 (gI st 7 i0 0) hi0 q_7_1 h_7_1 hi0 st) ⟨rfl, by decide⟩ C hi0 (by decide) rfl (Nat.le_of_ble_eq_true rfl) dX7_readRole_10 rfl (fun x1 s2 => ?_)
  refine r_join (fun j4 => ∀  (s3 : fSt), fW Δ Γ 2 (fQ eI Δ Γ) 25 [] [] s3 (j4 s3)) ?_ (fun j4 hj4 => ?_)
  · intro s3
    refine r_iconst (q := 26) (v := 0) C dX7_readRole_25 rfl (by decide) ?_
    exact r_zret0 (Or.inl rfl) C dX7_readRole_26
  refine r_if_eq (q := 16) (tgt := 25) C dX7_readRole_13 (by decide) rfl ?_ ?_
  · refine r_locs (lc' := []) [] rfl ?_
    exact hj4 s2
  · refine r_aload_n (q := 17) (i := 1) (z := 1) C dX7_readRole_16 rfl rfl rfl ?_
    refine r_bipush (q := 19) (v := 59) C dX7_readRole_17 rfl (by decide) ?_
    refine r_callVI (q := 22) (As := [.int ((59 : Int32))]) wm_X7_85 yvX5_take (c_X5_take Δ hN ((59 : Int32)) s2) ⟨rfl, by decide⟩ C (nk_5_0 hN) (by decide) rfl (Nat.le_of_ble_eq_true rfl) dX7_readRole_19 rfl (fun x5 s6 => ?_)
    refine r_if_ne (q := 25) (tgt := 27) C dX7_readRole_22 (by decide) rfl ?_ ?_
    · refine r_aload_n (q := 28) (i := 0) (z := 0) C dX7_readRole_27 rfl rfl rfl ?_
      refine r_dup (q := 29) C dX7_readRole_28 rfl rfl ?_
      refine g_X7_78 (q := 32) C hi0 dX7_readRole_29 rfl ?_
      refine r_iconst (q := 33) (v := 1) C dX7_readRole_32 rfl (by decide) ?_
      refine r_iadd (q := 34) C dX7_readRole_33 rfl ?_
      refine p_X7_78 (q := 37) C hi0 dX7_readRole_34 rfl (fun s7 => ?_)
      refine r_iconst (q := 38) (v := 1) C dX7_readRole_37 rfl (by decide) ?_
      exact r_zret0 (Or.inr rfl) C dX7_readRole_38
    · refine r_locs (lc' := []) [] rfl ?_
      exact hj4 s6

noncomputable def f_X7_readRoles_L8 (i0 : Nat) (k6 : Int32 → fSt → Option (Int32 × fSt)) : Nat → Int32 → Int32 → fSt → Option (Int32 × fSt)
  | 0, _, _, _ => none
  | n10 + 1, x7, x8, s9 =>
      if ((6 : Int32)) < x8 then
        (k6 x7 s9)
      else
        (fJn (fun (s11 : fSt) =>
          (fBd (f_X5_find 7 i0 1 6 (gI s11 7 i0 0) (gL s11 5 0 7) s11) fun x13 s14 =>
          fLt x13 fun (x15 : Int32) =>
          fJn (fun (s16 : fSt) =>
            (fBd (f_X5_takeName 7 i0 1 6 (gI s16 7 i0 0) s16) fun x18 s19 =>
            if ¬ x18 = 0 then
              (fLt (x7 ||| (((1 : Int32)) <<< (x15 &&& 31))) fun (x20 : Int32) =>
              fLt (x8 + (1 : Int32)) fun (x21 : Int32) =>
              f_X7_readRoles_L8 i0 k6 n10 x20 x21 s19)
            else
              (some ((-1 : Int32), s19)))) fun (j17 : fSt → Option (Int32 × fSt)) =>
          if ¬ (gI s14 5 0 6) = ((32 : Int32)) then
            (j17 s14)
          else
            (if x15 = ((-1 : Int32)) then
              (j17 s14)
            else
              (if ((x7 >>> (x15 &&& 31)) &&& ((1 : Int32))) = 0 then
                (j17 s14)
              else
                (fBd (f_X5_fail ((5 : Int32)) s14) fun x22 s23 =>
                some ((-1 : Int32), s23)))))) fun (j12 : fSt → Option (Int32 × fSt)) =>
        if x8 = 0 then
          (j12 s9)
        else
          (if ¬ (gI s9 5 0 6) = ((32 : Int32)) then
            (k6 x7 s9)
          else
            (j12 s9)))

noncomputable def f_X7_readRoles (i0 : Nat) (st : fSt) : Option (Int32 × fSt) :=
  fBd (f_X5_advance  st) fun _ s1 =>
  fLt ((0 : Int32)) fun (x2 : Int32) =>
  fLt ((0 : Int32)) fun (x3 : Int32) =>
  fJn (fun (x4 : Int32) (s5 : fSt) =>
    (some (x4, s5))) fun (k6 : Int32 → fSt → Option (Int32 × fSt)) =>
  f_X7_readRoles_L8 i0 k6 fF x2 x3 s1

set_option maxHeartbeats 4000000 in
set_option maxRecDepth 100000 in
theorem c_X7_readRoles (Δ : fDl) (hN : fNx Δ) (i0 : Nat) (hi0 : i0 < fN Δ 7)  (st : fSt) : fMt eI Δ yX7_readRoles cX7_readRoles 5 (some .int) 5 [.ref (fad Δ 7 i0 0), .ref (fad Δ 5 0 0)] st (f_X7_readRoles i0 st) := by
  unfold f_X7_readRoles
  refine r_method (by decide +kernel) (Nat.le_of_ble_eq_true rfl) (fun Γ C => ?_)
  have C : fC Δ Γ cX7_readRoles RX7 5 (some .int) 5 := C
  refine r_locs (lc' := [(0, .ref (fad Δ 7 i0 0)), (1, .ref (fad Δ 5 0 0))]) [0, 1] rfl ?_
  refine r_aload_n (q := 1) (i := 1) (z := 1) C dX7_readRoles_0 rfl rfl rfl ?_
  refine r_callVV (q := 4) (As := []) wm_X7_122 yvX5_advance (c_X5_advance Δ hN st) ⟨rfl, by decide⟩ C (nk_5_0 hN) (by decide) rfl (Nat.le_of_ble_eq_true rfl) dX7_readRoles_1 rfl (fun _ s1 => ?_)
  refine r_iconst (q := 5) (v := 0) C dX7_readRoles_4 rfl (by decide) ?_
  refine r_istore_n (q := 6) (i := 2) [(0, .ref (fad Δ 7 i0 0)), (1, .ref (fad Δ 5 0 0))] C dX7_readRoles_5 rfl rfl (by decide) rfl (fun x2 => ?_)
  refine r_iconst (q := 7) (v := 0) C dX7_readRoles_6 rfl (by decide) ?_
  refine r_istore_n (q := 8) (i := 3) [(2, .int x2), (0, .ref (fad Δ 7 i0 0)), (1, .ref (fad Δ 5 0 0))] C dX7_readRoles_7 rfl rfl (by decide) rfl (fun x3 => ?_)
  refine r_join (fun k6 => ∀ (x4 : Int32) (s5 : fSt), fW Δ Γ 5 (fQ eI Δ Γ) 106 [(2, .int x4)] [] s5 (k6 x4 s5)) ?_ (fun k6 hk6 => ?_)
  · intro x4 s5
    refine r_iload_n (q := 107) (i := 2) (z := 0) C dX7_readRoles_106 rfl rfl rfl ?_
    exact r_iret C dX7_readRoles_107
  refine r_locs (lc' := [(0, .ref (fad Δ 7 i0 0)), (1, .ref (fad Δ 5 0 0)), (2, .int x2), (3, .int x3)]) [2, 3, 1, 0] rfl ?_
  have L8 : ∀ (n10 : Nat) (x7 : Int32) (x8 : Int32) (s9 : fSt), fW Δ Γ 5 (fQ eI Δ Γ) 8 [(0, .ref (fad Δ 7 i0 0)), (1, .ref (fad Δ 5 0 0)), (2, .int x7), (3, .int x8)] [] s9 (f_X7_readRoles_L8 i0 k6 n10 x7 x8 s9) := by
    intro n10
    induction n10 with
    | zero =>
      intro x7 x8 s9
      rw [f_X7_readRoles_L8]
      exact r_none
    | succ n10 ih_n10 =>
      intro x7 x8 s9
      rw [f_X7_readRoles_L8]
      refine r_iload_n (q := 9) (i := 3) (z := 3) C dX7_readRoles_8 rfl rfl rfl ?_
      refine r_bipush (q := 11) (v := 6) C dX7_readRoles_9 rfl (by decide) ?_
      refine r_icmp_gt (q := 14) (tgt := 106) C dX7_readRoles_11 (by decide) rfl ?_ ?_
      · refine r_locs (lc' := [(2, .int x7)]) [2] rfl ?_
        exact hk6 x7 s9
      · refine r_iload_n (q := 15) (i := 3) (z := 3) C dX7_readRoles_14 rfl rfl rfl ?_
        refine r_join (fun j12 => ∀  (s11 : fSt), fW Δ Γ 5 (fQ eI Δ Γ) 27 [(0, .ref (fad Δ 7 i0 0)), (1, .ref (fad Δ 5 0 0)), (2, .int x7), (3, .int x8)] [] s11 (j12 s11)) ?_ (fun j12 hj12 => ?_)
        · intro s11
          refine r_aload_n (q := 28) (i := 0) (z := 0) C dX7_readRoles_27 rfl rfl rfl ?_
          refine g_X7_9 (q := 31) C hi0 dX7_readRoles_28 rfl ?_
          refine r_aload_n (q := 32) (i := 0) (z := 0) C dX7_readRoles_31 rfl rfl rfl ?_
          refine g_X7_78 (q := 35) C hi0 dX7_readRoles_32 rfl ?_
          refine r_aload_n (q := 36) (i := 1) (z := 1) C dX7_readRoles_35 rfl rfl rfl ?_
          refine g_X7_125 (q := 39) C (nk_5_0 hN) dX7_readRoles_36 rfl ?_
          refine r_callSI (q := 42) (As := [.ref (fad Δ 7 i0 1), .int (gI s11 7 i0 0), .long (gL s11 5 0 7)]) wm_X7_133 ysX5_find (c_X5_find Δ hN 7 i0 1 6 (gI s11 7 i0 0) (gL s11 5 0 7) q_7_1 h_7_1 hi0 s11) C (by decide) rfl (Nat.le_of_ble_eq_true rfl) dX7_readRoles_39 rfl (fun x13 s14 => ?_)
          refine r_istore (q := 44) (i := 4) [(0, .ref (fad Δ 7 i0 0)), (1, .ref (fad Δ 5 0 0)), (2, .int x7), (3, .int x8)] C dX7_readRoles_42 rfl (by decide) rfl (fun x15 => ?_)
          refine r_aload_n (q := 45) (i := 1) (z := 2) C dX7_readRoles_44 rfl rfl rfl ?_
          refine g_X7_55 (q := 48) C (nk_5_0 hN) dX7_readRoles_45 rfl ?_
          refine r_bipush (q := 50) (v := 32) C dX7_readRoles_48 rfl (by decide) ?_
          refine r_join (fun j17 => ∀  (s16 : fSt), fW Δ Γ 5 (fQ eI Δ Γ) 76 [(0, .ref (fad Δ 7 i0 0)), (1, .ref (fad Δ 5 0 0)), (2, .int x7), (3, .int x8), (4, .int x15)] [] s16 (j17 s16)) ?_ (fun j17 hj17 => ?_)
          · intro s16
            refine r_aload_n (q := 77) (i := 1) (z := 1) C dX7_readRoles_76 rfl rfl rfl ?_
            refine r_aload_n (q := 78) (i := 0) (z := 0) C dX7_readRoles_77 rfl rfl rfl ?_
            refine g_X7_9 (q := 81) C hi0 dX7_readRoles_78 rfl ?_
            refine r_aload_n (q := 82) (i := 0) (z := 0) C dX7_readRoles_81 rfl rfl rfl ?_
            refine g_X7_78 (q := 85) C hi0 dX7_readRoles_82 rfl ?_
            refine r_callVI (q := 88) (As := [.ref (fad Δ 7 i0 1), .int (gI s16 7 i0 0)]) wm_X7_137 yvX5_takeName (c_X5_takeName Δ hN 7 i0 1 6 (gI s16 7 i0 0) q_7_1 h_7_1 hi0 s16) ⟨rfl, by decide⟩ C (nk_5_0 hN) (by decide) rfl (Nat.le_of_ble_eq_true rfl) dX7_readRoles_85 rfl (fun x18 s19 => ?_)
            refine r_if_ne (q := 91) (tgt := 93) C dX7_readRoles_88 (by decide) rfl ?_ ?_
            · refine r_iload_n (q := 94) (i := 2) (z := 2) C dX7_readRoles_93 rfl rfl rfl ?_
              refine r_iconst (q := 95) (v := 1) C dX7_readRoles_94 rfl (by decide) ?_
              refine r_iload (q := 97) (i := 4) (z := 4) C dX7_readRoles_95 rfl rfl ?_
              refine r_ishl (q := 98) C dX7_readRoles_97 rfl ?_
              refine r_ior (q := 99) C dX7_readRoles_98 rfl ?_
              refine r_istore_n (q := 100) (i := 2) [(0, .ref (fad Δ 7 i0 0)), (1, .ref (fad Δ 5 0 0)), (3, .int x8), (4, .int x15)] C dX7_readRoles_99 rfl rfl (by decide) rfl (fun x20 => ?_)
              refine r_iinc (q := 103) (z := 3) (d := 1) [(2, .int x20), (0, .ref (fad Δ 7 i0 0)), (1, .ref (fad Δ 5 0 0)), (4, .int x15)] C dX7_readRoles_100 rfl rfl (by decide) (by decide) rfl (fun x21 => ?_)
              refine r_goto (q := 8) C dX7_readRoles_103 (by decide) ?_
              refine r_locs (lc' := [(0, .ref (fad Δ 7 i0 0)), (1, .ref (fad Δ 5 0 0)), (2, .int x20), (3, .int x21)]) [2, 3, 1, 0] rfl ?_
              exact ih_n10 x20 x21 s19
            · refine r_iconst (q := 92) (v := (-1)) C dX7_readRoles_91 rfl (by decide) ?_
              exact r_iret C dX7_readRoles_92
          refine r_icmp_ne (q := 53) (tgt := 76) C dX7_readRoles_50 (by decide) rfl ?_ ?_
          · refine r_locs (lc' := [(0, .ref (fad Δ 7 i0 0)), (1, .ref (fad Δ 5 0 0)), (2, .int x7), (3, .int x8), (4, .int x15)]) [1, 2, 3, 4, 0] rfl ?_
            exact hj17 s14
          · refine r_iload (q := 55) (i := 4) (z := 0) C dX7_readRoles_53 rfl rfl ?_
            refine r_iconst (q := 56) (v := (-1)) C dX7_readRoles_55 rfl (by decide) ?_
            refine r_icmp_eq (q := 59) (tgt := 76) C dX7_readRoles_56 (by decide) rfl ?_ ?_
            · refine r_locs (lc' := [(0, .ref (fad Δ 7 i0 0)), (1, .ref (fad Δ 5 0 0)), (2, .int x7), (3, .int x8), (4, .int x15)]) [1, 2, 3, 4, 0] rfl ?_
              exact hj17 s14
            · refine r_iload_n (q := 60) (i := 2) (z := 3) C dX7_readRoles_59 rfl rfl rfl ?_
              refine r_iload (q := 62) (i := 4) (z := 0) C dX7_readRoles_60 rfl rfl ?_
              refine r_ishr (q := 63) C dX7_readRoles_62 rfl ?_
              refine r_iconst (q := 64) (v := 1) C dX7_readRoles_63 rfl (by decide) ?_
              refine r_iand (q := 65) C dX7_readRoles_64 rfl ?_
              refine r_if_eq (q := 68) (tgt := 76) C dX7_readRoles_65 (by decide) rfl ?_ ?_
              · refine r_locs (lc' := [(0, .ref (fad Δ 7 i0 0)), (1, .ref (fad Δ 5 0 0)), (2, .int x7), (3, .int x8), (4, .int x15)]) [1, 2, 3, 4, 0] rfl ?_
                exact hj17 s14
              · refine r_aload_n (q := 69) (i := 1) (z := 2) C dX7_readRoles_68 rfl rfl rfl ?_
                refine r_iconst (q := 70) (v := 5) C dX7_readRoles_69 rfl (by decide) ?_
                refine r_callVI (q := 73) (As := [.int ((5 : Int32))]) wm_X7_119 yvX5_fail (c_X5_fail Δ hN ((5 : Int32)) s14) ⟨rfl, by decide⟩ C (nk_5_0 hN) (by decide) rfl (Nat.le_of_ble_eq_true rfl) dX7_readRoles_70 rfl (fun x22 s23 => ?_)
                refine r_pop (q := 74) C dX7_readRoles_73 rfl rfl ?_
                refine r_iconst (q := 75) (v := (-1)) C dX7_readRoles_74 rfl (by decide) ?_
                exact r_iret C dX7_readRoles_75
        refine r_if_eq (q := 18) (tgt := 27) C dX7_readRoles_15 (by decide) rfl ?_ ?_
        · exact hj12 s9
        · refine r_aload_n (q := 19) (i := 1) (z := 1) C dX7_readRoles_18 rfl rfl rfl ?_
          refine g_X7_55 (q := 22) C (nk_5_0 hN) dX7_readRoles_19 rfl ?_
          refine r_bipush (q := 24) (v := 32) C dX7_readRoles_22 rfl (by decide) ?_
          refine r_icmp_ne (q := 27) (tgt := 106) C dX7_readRoles_24 (by decide) rfl ?_ ?_
          · refine r_locs (lc' := [(2, .int x7)]) [2] rfl ?_
            exact hk6 x7 s9
          · exact hj12 s9
  exact L8 fF x2 x3 s1

noncomputable def f_X7_readActor (i0 : Nat) (st : fSt) : Option (Int32 × fSt) :=
  fBd (f_X7_readNew i0 7 i0 2 6 (gI st 7 i0 1) st) fun x1 s2 =>
  fJn (fun (s3 : fSt) =>
    (some ((0 : Int32), s3))) fun (j4 : fSt → Option (Int32 × fSt)) =>
  if x1 = 0 then
    (j4 s2)
  else
    (fBd (f_X5_take ((2 : Int32)) s2) fun x5 s6 =>
    if x5 = 0 then
      (j4 s6)
    else
      (fBd (f_X5_takeNumber ((0 : Int32)) ((99 : Int32)) s6) fun x7 s8 =>
      if ¬ x7 = 0 then
        (fIx (gI s8 7 i0 1) 6 <|
        fLt (sA s8 7 i0 5 (upd (gA s8 7 i0 5) (gI s8 7 i0 1).toNatClampNeg (gI s8 5 0 9))) fun s9 =>
        fBd (f_X5_take ((3 : Int32)) s9) fun x10 s11 =>
        fJn (fun (s12 : fSt) =>
          (some ((0 : Int32), s12))) fun (j13 : fSt → Option (Int32 × fSt)) =>
        if x10 = 0 then
          (j13 s11)
        else
          (fBd (f_X5_takeNumber ((0 : Int32)) ((999 : Int32)) s11) fun x14 s15 =>
          if ¬ x14 = 0 then
            (fIx (gI s15 7 i0 1) 6 <|
            fLt (sA s15 7 i0 6 (upd (gA s15 7 i0 6) (gI s15 7 i0 1).toNatClampNeg (gI s15 5 0 9))) fun s16 =>
            fJn (fun (x17 : Int32) (s18 : fSt) =>
              (fIx (gI s16 7 i0 1) 6 <|
              fLt (sA s18 7 i0 7 (upd (gA s18 7 i0 7) (gI s16 7 i0 1).toNatClampNeg x17)) fun s20 =>
              fIx (gI s20 7 i0 1) 6 <|
              fJn (fun (s21 : fSt) =>
                (some ((0 : Int32), s21))) fun (j22 : fSt → Option (Int32 × fSt)) =>
              if (gA s20 7 i0 7 (gI s20 7 i0 1).toNatClampNeg) = ((-1 : Int32)) then
                (j22 s20)
              else
                (fBd (f_X5_take ((59 : Int32)) s20) fun x23 s24 =>
                if ¬ x23 = 0 then
                  (fLt (sI s24 7 i0 1 ((gI s24 7 i0 1) + ((1 : Int32)))) fun s25 =>
                  some ((1 : Int32), s25))
                else
                  (j22 s24)))) fun (j19 : Int32 → fSt → Option (Int32 × fSt)) =>
            if ¬ (gI s16 5 0 6) = ((4 : Int32)) then
              (j19 ((0 : Int32)) s16)
            else
              (fBd (f_X7_readRoles i0 s16) fun x26 s27 =>
              j19 x26 s27))
          else
            (j13 s15)))
      else
        (j4 s8)))

set_option maxHeartbeats 4000000 in
set_option maxRecDepth 100000 in
theorem c_X7_readActor (Δ : fDl) (hN : fNx Δ) (i0 : Nat) (hi0 : i0 < fN Δ 7)  (st : fSt) : fMt eI Δ yX7_readActor cX7_readActor 2 (some .boolean) 6 [.ref (fad Δ 7 i0 0), .ref (fad Δ 5 0 0)] st (f_X7_readActor i0 st) := by
  unfold f_X7_readActor
  refine r_method (by decide +kernel) (Nat.le_of_ble_eq_true rfl) (fun Γ C => ?_)
  have C : fC Δ Γ cX7_readActor RX7 2 (some .boolean) 6 := C
  refine r_locs (lc' := [(0, .ref (fad Δ 7 i0 0)), (1, .ref (fad Δ 5 0 0))]) [0, 1] rfl ?_
  refine r_aload_n (q := 1) (i := 0) (z := 0) C dX7_readActor_0 rfl rfl rfl ?_
  refine r_aload_n (q := 2) (i := 1) (z := 1) C dX7_readActor_1 rfl rfl rfl ?_
  refine r_aload_n (q := 3) (i := 0) (z := 0) C dX7_readActor_2 rfl rfl rfl ?_
  refine g_X7_15 (q := 6) C hi0 dX7_readActor_3 rfl ?_
  refine r_aload_n (q := 7) (i := 0) (z := 0) C dX7_readActor_6 rfl rfl rfl ?_
  refine g_X7_89 (q := 10) C hi0 dX7_readActor_7 rfl ?_
  refine r_callVI (q := 13) (As := [.ref (fad Δ 5 0 0), .ref (fad Δ 7 i0 2), .int (gI st 7 i0 1)]) wm_X7_81 yvX7_readNew (c_X7_readNew Δ hN i0 7 i0 2 6 (gI st 7 i0 1) hi0 q_7_2 h_7_2 hi0 st) ⟨rfl, by decide⟩ C hi0 (by decide) rfl (Nat.le_of_ble_eq_true rfl) dX7_readActor_10 rfl (fun x1 s2 => ?_)
  refine r_join (fun j4 => ∀  (s3 : fSt), fW Δ Γ 2 (fQ eI Δ Γ) 34 [] [] s3 (j4 s3)) ?_ (fun j4 hj4 => ?_)
  · intro s3
    refine r_iconst (q := 35) (v := 0) C dX7_readActor_34 rfl (by decide) ?_
    exact r_zret0 (Or.inl rfl) C dX7_readActor_35
  refine r_if_eq (q := 16) (tgt := 34) C dX7_readActor_13 (by decide) rfl ?_ ?_
  · refine r_locs (lc' := []) [] rfl ?_
    exact hj4 s2
  · refine r_aload_n (q := 17) (i := 1) (z := 1) C dX7_readActor_16 rfl rfl rfl ?_
    refine r_iconst (q := 18) (v := 2) C dX7_readActor_17 rfl (by decide) ?_
    refine r_callVI (q := 21) (As := [.int ((2 : Int32))]) wm_X7_85 yvX5_take (c_X5_take Δ hN ((2 : Int32)) s2) ⟨rfl, by decide⟩ C (nk_5_0 hN) (by decide) rfl (Nat.le_of_ble_eq_true rfl) dX7_readActor_18 rfl (fun x5 s6 => ?_)
    refine r_if_eq (q := 24) (tgt := 34) C dX7_readActor_21 (by decide) rfl ?_ ?_
    · refine r_locs (lc' := []) [] rfl ?_
      exact hj4 s6
    · refine r_aload_n (q := 25) (i := 1) (z := 1) C dX7_readActor_24 rfl rfl rfl ?_
      refine r_iconst (q := 26) (v := 0) C dX7_readActor_25 rfl (by decide) ?_
      refine r_bipush (q := 28) (v := 99) C dX7_readActor_26 rfl (by decide) ?_
      refine r_callVI (q := 31) (As := [.int ((0 : Int32)), .int ((99 : Int32))]) wm_X7_92 yvX5_takeNumber (c_X5_takeNumber Δ hN ((0 : Int32)) ((99 : Int32)) s6) ⟨rfl, by decide⟩ C (nk_5_0 hN) (by decide) rfl (Nat.le_of_ble_eq_true rfl) dX7_readActor_28 rfl (fun x7 s8 => ?_)
      refine r_if_ne (q := 34) (tgt := 36) C dX7_readActor_31 (by decide) rfl ?_ ?_
      · refine r_aload_n (q := 37) (i := 0) (z := 0) C dX7_readActor_36 rfl rfl rfl ?_
        refine g_X7_24 (q := 40) C hi0 dX7_readActor_37 rfl ?_
        refine r_aload_n (q := 41) (i := 0) (z := 0) C dX7_readActor_40 rfl rfl rfl ?_
        refine g_X7_89 (q := 44) C hi0 dX7_readActor_41 rfl ?_
        refine r_aload_n (q := 45) (i := 1) (z := 1) C dX7_readActor_44 rfl rfl rfl ?_
        refine g_X7_96 (q := 48) C (nk_5_0 hN) dX7_readActor_45 rfl ?_
        refine r_ast (q := 49) q_7_5 h_7_5 C hi0 dX7_readActor_48 rfl (fun s9 => ?_)
        refine r_aload_n (q := 50) (i := 1) (z := 1) C dX7_readActor_49 rfl rfl rfl ?_
        refine r_iconst (q := 51) (v := 3) C dX7_readActor_50 rfl (by decide) ?_
        refine r_callVI (q := 54) (As := [.int ((3 : Int32))]) wm_X7_85 yvX5_take (c_X5_take Δ hN ((3 : Int32)) s9) ⟨rfl, by decide⟩ C (nk_5_0 hN) (by decide) rfl (Nat.le_of_ble_eq_true rfl) dX7_readActor_51 rfl (fun x10 s11 => ?_)
        refine r_join (fun j13 => ∀  (s12 : fSt), fW Δ Γ 2 (fQ eI Δ Γ) 68 [] [] s12 (j13 s12)) ?_ (fun j13 hj13 => ?_)
        · intro s12
          refine r_iconst (q := 69) (v := 0) C dX7_readActor_68 rfl (by decide) ?_
          exact r_zret0 (Or.inl rfl) C dX7_readActor_69
        refine r_if_eq (q := 57) (tgt := 68) C dX7_readActor_54 (by decide) rfl ?_ ?_
        · refine r_locs (lc' := []) [] rfl ?_
          exact hj13 s11
        · refine r_aload_n (q := 58) (i := 1) (z := 1) C dX7_readActor_57 rfl rfl rfl ?_
          refine r_iconst (q := 59) (v := 0) C dX7_readActor_58 rfl (by decide) ?_
          refine r_sipush (q := 62) (v := 999) C dX7_readActor_59 rfl (by decide) ?_
          refine r_callVI (q := 65) (As := [.int ((0 : Int32)), .int ((999 : Int32))]) wm_X7_92 yvX5_takeNumber (c_X5_takeNumber Δ hN ((0 : Int32)) ((999 : Int32)) s11) ⟨rfl, by decide⟩ C (nk_5_0 hN) (by decide) rfl (Nat.le_of_ble_eq_true rfl) dX7_readActor_62 rfl (fun x14 s15 => ?_)
          refine r_if_ne (q := 68) (tgt := 70) C dX7_readActor_65 (by decide) rfl ?_ ?_
          · refine r_aload_n (q := 71) (i := 0) (z := 0) C dX7_readActor_70 rfl rfl rfl ?_
            refine g_X7_28 (q := 74) C hi0 dX7_readActor_71 rfl ?_
            refine r_aload_n (q := 75) (i := 0) (z := 0) C dX7_readActor_74 rfl rfl rfl ?_
            refine g_X7_89 (q := 78) C hi0 dX7_readActor_75 rfl ?_
            refine r_aload_n (q := 79) (i := 1) (z := 1) C dX7_readActor_78 rfl rfl rfl ?_
            refine g_X7_96 (q := 82) C (nk_5_0 hN) dX7_readActor_79 rfl ?_
            refine r_ast (q := 83) q_7_6 h_7_6 C hi0 dX7_readActor_82 rfl (fun s16 => ?_)
            refine r_aload_n (q := 84) (i := 0) (z := 0) C dX7_readActor_83 rfl rfl rfl ?_
            refine g_X7_31 (q := 87) C hi0 dX7_readActor_84 rfl ?_
            refine r_aload_n (q := 88) (i := 0) (z := 0) C dX7_readActor_87 rfl rfl rfl ?_
            refine g_X7_89 (q := 91) C hi0 dX7_readActor_88 rfl ?_
            refine r_aload_n (q := 92) (i := 1) (z := 1) C dX7_readActor_91 rfl rfl rfl ?_
            refine g_X7_55 (q := 95) C (nk_5_0 hN) dX7_readActor_92 rfl ?_
            refine r_iconst (q := 96) (v := 4) C dX7_readActor_95 rfl (by decide) ?_
            refine r_join (fun j19 => ∀ (x17 : Int32) (s18 : fSt), fW Δ Γ 2 (fQ eI Δ Γ) 108 [(0, .ref (fad Δ 7 i0 0)), (1, .ref (fad Δ 5 0 0))] [.int x17, .int (gI s16 7 i0 1), .ref (fad Δ 7 i0 7)] s18 (j19 x17 s18)) ?_ (fun j19 hj19 => ?_)
            · intro x17 s18
              refine r_ast (q := 109) q_7_7 h_7_7 C hi0 dX7_readActor_108 rfl (fun s20 => ?_)
              refine r_aload_n (q := 110) (i := 0) (z := 0) C dX7_readActor_109 rfl rfl rfl ?_
              refine g_X7_31 (q := 113) C hi0 dX7_readActor_110 rfl ?_
              refine r_aload_n (q := 114) (i := 0) (z := 0) C dX7_readActor_113 rfl rfl rfl ?_
              refine g_X7_89 (q := 117) C hi0 dX7_readActor_114 rfl ?_
              refine r_ial (q := 118) q_7_7 h_7_7 C hi0 dX7_readActor_117 rfl ?_
              refine r_iconst (q := 119) (v := (-1)) C dX7_readActor_118 rfl (by decide) ?_
              refine r_join (fun j22 => ∀  (s21 : fSt), fW Δ Γ 2 (fQ eI Δ Γ) 131 [] [] s21 (j22 s21)) ?_ (fun j22 hj22 => ?_)
              · intro s21
                refine r_iconst (q := 132) (v := 0) C dX7_readActor_131 rfl (by decide) ?_
                exact r_zret0 (Or.inl rfl) C dX7_readActor_132
              refine r_icmp_eq (q := 122) (tgt := 131) C dX7_readActor_119 (by decide) rfl ?_ ?_
              · refine r_locs (lc' := []) [] rfl ?_
                exact hj22 s20
              · refine r_aload_n (q := 123) (i := 1) (z := 1) C dX7_readActor_122 rfl rfl rfl ?_
                refine r_bipush (q := 125) (v := 59) C dX7_readActor_123 rfl (by decide) ?_
                refine r_callVI (q := 128) (As := [.int ((59 : Int32))]) wm_X7_85 yvX5_take (c_X5_take Δ hN ((59 : Int32)) s20) ⟨rfl, by decide⟩ C (nk_5_0 hN) (by decide) rfl (Nat.le_of_ble_eq_true rfl) dX7_readActor_125 rfl (fun x23 s24 => ?_)
                refine r_if_ne (q := 131) (tgt := 133) C dX7_readActor_128 (by decide) rfl ?_ ?_
                · refine r_aload_n (q := 134) (i := 0) (z := 0) C dX7_readActor_133 rfl rfl rfl ?_
                  refine r_dup (q := 135) C dX7_readActor_134 rfl rfl ?_
                  refine g_X7_89 (q := 138) C hi0 dX7_readActor_135 rfl ?_
                  refine r_iconst (q := 139) (v := 1) C dX7_readActor_138 rfl (by decide) ?_
                  refine r_iadd (q := 140) C dX7_readActor_139 rfl ?_
                  refine p_X7_89 (q := 143) C hi0 dX7_readActor_140 rfl (fun s25 => ?_)
                  refine r_iconst (q := 144) (v := 1) C dX7_readActor_143 rfl (by decide) ?_
                  exact r_zret0 (Or.inr rfl) C dX7_readActor_144
                · refine r_locs (lc' := []) [] rfl ?_
                  exact hj22 s24
            refine r_icmp_ne (q := 99) (tgt := 107) C dX7_readActor_96 (by decide) rfl ?_ ?_
            · refine r_iconst (q := 108) (v := 0) C dX7_readActor_107 rfl (by decide) ?_
              exact hj19 ((0 : Int32)) s16
            · refine r_aload_n (q := 100) (i := 0) (z := 0) C dX7_readActor_99 rfl rfl rfl ?_
              refine r_aload_n (q := 101) (i := 1) (z := 1) C dX7_readActor_100 rfl rfl rfl ?_
              refine r_callVI (q := 104) (As := [.ref (fad Δ 5 0 0)]) wm_X7_99 yvX7_readRoles (c_X7_readRoles Δ hN i0 hi0 s16) ⟨rfl, by decide⟩ C hi0 (by decide) rfl (Nat.le_of_ble_eq_true rfl) dX7_readActor_101 rfl (fun x26 s27 => ?_)
              refine r_goto (q := 108) C dX7_readActor_104 (by decide) ?_
              exact hj19 x26 s27
          · refine r_locs (lc' := []) [] rfl ?_
            exact hj13 s15
      · refine r_locs (lc' := []) [] rfl ?_
        exact hj4 s8

noncomputable def f_X7_readEnding (i0 : Nat) (st : fSt) : Option (Int32 × fSt) :=
  fIx (gI st 7 i0 2) 12 <|
  fLt (sA st 7 i0 10 (upd (gA st 7 i0 10) (gI st 7 i0 2).toNatClampNeg ((-1 : Int32)))) fun s1 =>
  fJn (fun (s2 : fSt) =>
    (some ((1 : Int32), s2))) fun (j3 : fSt → Option (Int32 × fSt)) =>
  if ¬ (gI s1 5 0 6) = ((8 : Int32)) then
    (j3 s1)
  else
    (fBd (f_X5_advance  s1) fun _ s4 =>
    fBd (f_X5_takeNumber ((0 : Int32)) ((8 : Int32)) s4) fun x5 s6 =>
    if ¬ x5 = 0 then
      (fIx (gI s6 7 i0 2) 12 <|
      fLt (sA s6 7 i0 10 (upd (gA s6 7 i0 10) (gI s6 7 i0 2).toNatClampNeg (gI s6 5 0 9))) fun s7 =>
      j3 s7)
    else
      (some ((0 : Int32), s6)))

set_option maxHeartbeats 4000000 in
set_option maxRecDepth 100000 in
theorem c_X7_readEnding (Δ : fDl) (hN : fNx Δ) (i0 : Nat) (hi0 : i0 < fN Δ 7)  (st : fSt) : fMt eI Δ yX7_readEnding cX7_readEnding 2 (some .boolean) 5 [.ref (fad Δ 7 i0 0), .ref (fad Δ 5 0 0)] st (f_X7_readEnding i0 st) := by
  unfold f_X7_readEnding
  refine r_method (by decide +kernel) (Nat.le_of_ble_eq_true rfl) (fun Γ C => ?_)
  have C : fC Δ Γ cX7_readEnding RX7 2 (some .boolean) 5 := C
  refine r_locs (lc' := [(0, .ref (fad Δ 7 i0 0)), (1, .ref (fad Δ 5 0 0))]) [0, 1] rfl ?_
  refine r_aload_n (q := 1) (i := 0) (z := 0) C dX7_readEnding_0 rfl rfl rfl ?_
  refine g_X7_40 (q := 4) C hi0 dX7_readEnding_1 rfl ?_
  refine r_aload_n (q := 5) (i := 0) (z := 0) C dX7_readEnding_4 rfl rfl rfl ?_
  refine g_X7_103 (q := 8) C hi0 dX7_readEnding_5 rfl ?_
  refine r_iconst (q := 9) (v := (-1)) C dX7_readEnding_8 rfl (by decide) ?_
  refine r_ast (q := 10) q_7_10 h_7_10 C hi0 dX7_readEnding_9 rfl (fun s1 => ?_)
  refine r_aload_n (q := 11) (i := 1) (z := 1) C dX7_readEnding_10 rfl rfl rfl ?_
  refine g_X7_55 (q := 14) C (nk_5_0 hN) dX7_readEnding_11 rfl ?_
  refine r_bipush (q := 16) (v := 8) C dX7_readEnding_14 rfl (by decide) ?_
  refine r_join (fun j3 => ∀  (s2 : fSt), fW Δ Γ 2 (fQ eI Δ Γ) 48 [] [] s2 (j3 s2)) ?_ (fun j3 hj3 => ?_)
  · intro s2
    refine r_iconst (q := 49) (v := 1) C dX7_readEnding_48 rfl (by decide) ?_
    exact r_zret0 (Or.inr rfl) C dX7_readEnding_49
  refine r_icmp_ne (q := 19) (tgt := 48) C dX7_readEnding_16 (by decide) rfl ?_ ?_
  · refine r_locs (lc' := []) [] rfl ?_
    exact hj3 s1
  · refine r_aload_n (q := 20) (i := 1) (z := 1) C dX7_readEnding_19 rfl rfl rfl ?_
    refine r_callVV (q := 23) (As := []) wm_X7_122 yvX5_advance (c_X5_advance Δ hN s1) ⟨rfl, by decide⟩ C (nk_5_0 hN) (by decide) rfl (Nat.le_of_ble_eq_true rfl) dX7_readEnding_20 rfl (fun _ s4 => ?_)
    refine r_aload_n (q := 24) (i := 1) (z := 1) C dX7_readEnding_23 rfl rfl rfl ?_
    refine r_iconst (q := 25) (v := 0) C dX7_readEnding_24 rfl (by decide) ?_
    refine r_bipush (q := 27) (v := 8) C dX7_readEnding_25 rfl (by decide) ?_
    refine r_callVI (q := 30) (As := [.int ((0 : Int32)), .int ((8 : Int32))]) wm_X7_92 yvX5_takeNumber (c_X5_takeNumber Δ hN ((0 : Int32)) ((8 : Int32)) s4) ⟨rfl, by decide⟩ C (nk_5_0 hN) (by decide) rfl (Nat.le_of_ble_eq_true rfl) dX7_readEnding_27 rfl (fun x5 s6 => ?_)
    refine r_if_ne (q := 33) (tgt := 35) C dX7_readEnding_30 (by decide) rfl ?_ ?_
    · refine r_aload_n (q := 36) (i := 0) (z := 0) C dX7_readEnding_35 rfl rfl rfl ?_
      refine g_X7_40 (q := 39) C hi0 dX7_readEnding_36 rfl ?_
      refine r_aload_n (q := 40) (i := 0) (z := 0) C dX7_readEnding_39 rfl rfl rfl ?_
      refine g_X7_103 (q := 43) C hi0 dX7_readEnding_40 rfl ?_
      refine r_aload_n (q := 44) (i := 1) (z := 1) C dX7_readEnding_43 rfl rfl rfl ?_
      refine g_X7_96 (q := 47) C (nk_5_0 hN) dX7_readEnding_44 rfl ?_
      refine r_ast (q := 48) q_7_10 h_7_10 C hi0 dX7_readEnding_47 rfl (fun s7 => ?_)
      refine r_locs (lc' := []) [] rfl ?_
      exact hj3 s7
    · refine r_iconst (q := 34) (v := 0) C dX7_readEnding_33 rfl (by decide) ?_
      exact r_zret0 (Or.inl rfl) C dX7_readEnding_34

noncomputable def f_X7_readWay (i0 : Nat) (a2 : Int32) (st : fSt) : Option (Int32 × fSt) :=
  fIx (((gI st 7 i0 2) * ((4 : Int32))) + a2) 48 <|
  fLt (sA st 7 i0 11 (upd (gA st 7 i0 11) (((gI st 7 i0 2) * ((4 : Int32))) + a2).toNatClampNeg ((-1 : Int32)))) fun s1 =>
  fJn (fun (s2 : fSt) =>
    (some ((1 : Int32), s2))) fun (j3 : fSt → Option (Int32 × fSt)) =>
  if ¬ (gI s1 5 0 6) = (((9 : Int32)) + a2) then
    (j3 s1)
  else
    (fBd (f_X5_advance  s1) fun _ s4 =>
    fBd (f_X5_takeName 7 i0 3 12 (gI s4 7 i0 2) s4) fun x5 s6 =>
    if ¬ x5 = 0 then
      (fIx (((gI s6 7 i0 2) * ((4 : Int32))) + a2) 48 <|
      fLt (sA s6 7 i0 11 (upd (gA s6 7 i0 11) (((gI s6 7 i0 2) * ((4 : Int32))) + a2).toNatClampNeg (gI s6 5 0 9))) fun s7 =>
      j3 s7)
    else
      (some ((0 : Int32), s6)))

set_option maxHeartbeats 4000000 in
set_option maxRecDepth 100000 in
theorem c_X7_readWay (Δ : fDl) (hN : fNx Δ) (i0 : Nat) (a2 : Int32) (hi0 : i0 < fN Δ 7)  (st : fSt) : fMt eI Δ yX7_readWay cX7_readWay 3 (some .boolean) 5 [.ref (fad Δ 7 i0 0), .ref (fad Δ 5 0 0), .int a2] st (f_X7_readWay i0 a2 st) := by
  unfold f_X7_readWay
  refine r_method (by decide +kernel) (Nat.le_of_ble_eq_true rfl) (fun Γ C => ?_)
  have C : fC Δ Γ cX7_readWay RX7 3 (some .boolean) 5 := C
  refine r_locs (lc' := [(0, .ref (fad Δ 7 i0 0)), (1, .ref (fad Δ 5 0 0)), (2, .int a2)]) [0, 1, 2] rfl ?_
  refine r_aload_n (q := 1) (i := 0) (z := 0) C dX7_readWay_0 rfl rfl rfl ?_
  refine g_X7_43 (q := 4) C hi0 dX7_readWay_1 rfl ?_
  refine r_aload_n (q := 5) (i := 0) (z := 0) C dX7_readWay_4 rfl rfl rfl ?_
  refine g_X7_103 (q := 8) C hi0 dX7_readWay_5 rfl ?_
  refine r_iconst (q := 9) (v := 4) C dX7_readWay_8 rfl (by decide) ?_
  refine r_imul (q := 10) C dX7_readWay_9 rfl ?_
  refine r_iload_n (q := 11) (i := 2) (z := 2) C dX7_readWay_10 rfl rfl rfl ?_
  refine r_iadd (q := 12) C dX7_readWay_11 rfl ?_
  refine r_iconst (q := 13) (v := (-1)) C dX7_readWay_12 rfl (by decide) ?_
  refine r_ast (q := 14) q_7_11 h_7_11 C hi0 dX7_readWay_13 rfl (fun s1 => ?_)
  refine r_aload_n (q := 15) (i := 1) (z := 1) C dX7_readWay_14 rfl rfl rfl ?_
  refine g_X7_55 (q := 18) C (nk_5_0 hN) dX7_readWay_15 rfl ?_
  refine r_bipush (q := 20) (v := 9) C dX7_readWay_18 rfl (by decide) ?_
  refine r_iload_n (q := 21) (i := 2) (z := 2) C dX7_readWay_20 rfl rfl rfl ?_
  refine r_iadd (q := 22) C dX7_readWay_21 rfl ?_
  refine r_join (fun j3 => ∀  (s2 : fSt), fW Δ Γ 3 (fQ eI Δ Γ) 63 [] [] s2 (j3 s2)) ?_ (fun j3 hj3 => ?_)
  · intro s2
    refine r_iconst (q := 64) (v := 1) C dX7_readWay_63 rfl (by decide) ?_
    exact r_zret0 (Or.inr rfl) C dX7_readWay_64
  refine r_icmp_ne (q := 25) (tgt := 63) C dX7_readWay_22 (by decide) rfl ?_ ?_
  · refine r_locs (lc' := []) [] rfl ?_
    exact hj3 s1
  · refine r_aload_n (q := 26) (i := 1) (z := 1) C dX7_readWay_25 rfl rfl rfl ?_
    refine r_callVV (q := 29) (As := []) wm_X7_122 yvX5_advance (c_X5_advance Δ hN s1) ⟨rfl, by decide⟩ C (nk_5_0 hN) (by decide) rfl (Nat.le_of_ble_eq_true rfl) dX7_readWay_26 rfl (fun _ s4 => ?_)
    refine r_aload_n (q := 30) (i := 1) (z := 1) C dX7_readWay_29 rfl rfl rfl ?_
    refine r_aload_n (q := 31) (i := 0) (z := 0) C dX7_readWay_30 rfl rfl rfl ?_
    refine g_X7_18 (q := 34) C hi0 dX7_readWay_31 rfl ?_
    refine r_aload_n (q := 35) (i := 0) (z := 0) C dX7_readWay_34 rfl rfl rfl ?_
    refine g_X7_103 (q := 38) C hi0 dX7_readWay_35 rfl ?_
    refine r_callVI (q := 41) (As := [.ref (fad Δ 7 i0 3), .int (gI s4 7 i0 2)]) wm_X7_137 yvX5_takeName (c_X5_takeName Δ hN 7 i0 3 12 (gI s4 7 i0 2) q_7_3 h_7_3 hi0 s4) ⟨rfl, by decide⟩ C (nk_5_0 hN) (by decide) rfl (Nat.le_of_ble_eq_true rfl) dX7_readWay_38 rfl (fun x5 s6 => ?_)
    refine r_if_ne (q := 44) (tgt := 46) C dX7_readWay_41 (by decide) rfl ?_ ?_
    · refine r_aload_n (q := 47) (i := 0) (z := 0) C dX7_readWay_46 rfl rfl rfl ?_
      refine g_X7_43 (q := 50) C hi0 dX7_readWay_47 rfl ?_
      refine r_aload_n (q := 51) (i := 0) (z := 0) C dX7_readWay_50 rfl rfl rfl ?_
      refine g_X7_103 (q := 54) C hi0 dX7_readWay_51 rfl ?_
      refine r_iconst (q := 55) (v := 4) C dX7_readWay_54 rfl (by decide) ?_
      refine r_imul (q := 56) C dX7_readWay_55 rfl ?_
      refine r_iload_n (q := 57) (i := 2) (z := 2) C dX7_readWay_56 rfl rfl rfl ?_
      refine r_iadd (q := 58) C dX7_readWay_57 rfl ?_
      refine r_aload_n (q := 59) (i := 1) (z := 1) C dX7_readWay_58 rfl rfl rfl ?_
      refine g_X7_96 (q := 62) C (nk_5_0 hN) dX7_readWay_59 rfl ?_
      refine r_ast (q := 63) q_7_11 h_7_11 C hi0 dX7_readWay_62 rfl (fun s7 => ?_)
      refine r_locs (lc' := []) [] rfl ?_
      exact hj3 s7
    · refine r_iconst (q := 45) (v := 0) C dX7_readWay_44 rfl (by decide) ?_
      exact r_zret0 (Or.inl rfl) C dX7_readWay_45

noncomputable def f_X7_readVictim (i0 : Nat) (st : fSt) : Option (Int32 × fSt) :=
  fIx (gI st 7 i0 2) 12 <|
  fLt (sA st 7 i0 12 (upd (gA st 7 i0 12) (gI st 7 i0 2).toNatClampNeg ((-1 : Int32)))) fun s1 =>
  fJn (fun (s2 : fSt) =>
    (some ((1 : Int32), s2))) fun (j3 : fSt → Option (Int32 × fSt)) =>
  if ¬ (gI s1 5 0 6) = ((13 : Int32)) then
    (j3 s1)
  else
    (fBd (f_X5_advance  s1) fun _ s4 =>
    fBd (f_X5_takeName 7 i0 1 6 (gI s4 7 i0 0) s4) fun x5 s6 =>
    if ¬ x5 = 0 then
      (fIx (gI s6 7 i0 2) 12 <|
      fLt (sA s6 7 i0 12 (upd (gA s6 7 i0 12) (gI s6 7 i0 2).toNatClampNeg (gI s6 5 0 9))) fun s7 =>
      j3 s7)
    else
      (some ((0 : Int32), s6)))

set_option maxHeartbeats 4000000 in
set_option maxRecDepth 100000 in
theorem c_X7_readVictim (Δ : fDl) (hN : fNx Δ) (i0 : Nat) (hi0 : i0 < fN Δ 7)  (st : fSt) : fMt eI Δ yX7_readVictim cX7_readVictim 2 (some .boolean) 5 [.ref (fad Δ 7 i0 0), .ref (fad Δ 5 0 0)] st (f_X7_readVictim i0 st) := by
  unfold f_X7_readVictim
  refine r_method (by decide +kernel) (Nat.le_of_ble_eq_true rfl) (fun Γ C => ?_)
  have C : fC Δ Γ cX7_readVictim RX7 2 (some .boolean) 5 := C
  refine r_locs (lc' := [(0, .ref (fad Δ 7 i0 0)), (1, .ref (fad Δ 5 0 0))]) [0, 1] rfl ?_
  refine r_aload_n (q := 1) (i := 0) (z := 0) C dX7_readVictim_0 rfl rfl rfl ?_
  refine g_X7_46 (q := 4) C hi0 dX7_readVictim_1 rfl ?_
  refine r_aload_n (q := 5) (i := 0) (z := 0) C dX7_readVictim_4 rfl rfl rfl ?_
  refine g_X7_103 (q := 8) C hi0 dX7_readVictim_5 rfl ?_
  refine r_iconst (q := 9) (v := (-1)) C dX7_readVictim_8 rfl (by decide) ?_
  refine r_ast (q := 10) q_7_12 h_7_12 C hi0 dX7_readVictim_9 rfl (fun s1 => ?_)
  refine r_aload_n (q := 11) (i := 1) (z := 1) C dX7_readVictim_10 rfl rfl rfl ?_
  refine g_X7_55 (q := 14) C (nk_5_0 hN) dX7_readVictim_11 rfl ?_
  refine r_bipush (q := 16) (v := 13) C dX7_readVictim_14 rfl (by decide) ?_
  refine r_join (fun j3 => ∀  (s2 : fSt), fW Δ Γ 2 (fQ eI Δ Γ) 53 [] [] s2 (j3 s2)) ?_ (fun j3 hj3 => ?_)
  · intro s2
    refine r_iconst (q := 54) (v := 1) C dX7_readVictim_53 rfl (by decide) ?_
    exact r_zret0 (Or.inr rfl) C dX7_readVictim_54
  refine r_icmp_ne (q := 19) (tgt := 53) C dX7_readVictim_16 (by decide) rfl ?_ ?_
  · refine r_locs (lc' := []) [] rfl ?_
    exact hj3 s1
  · refine r_aload_n (q := 20) (i := 1) (z := 1) C dX7_readVictim_19 rfl rfl rfl ?_
    refine r_callVV (q := 23) (As := []) wm_X7_122 yvX5_advance (c_X5_advance Δ hN s1) ⟨rfl, by decide⟩ C (nk_5_0 hN) (by decide) rfl (Nat.le_of_ble_eq_true rfl) dX7_readVictim_20 rfl (fun _ s4 => ?_)
    refine r_aload_n (q := 24) (i := 1) (z := 1) C dX7_readVictim_23 rfl rfl rfl ?_
    refine r_aload_n (q := 25) (i := 0) (z := 0) C dX7_readVictim_24 rfl rfl rfl ?_
    refine g_X7_9 (q := 28) C hi0 dX7_readVictim_25 rfl ?_
    refine r_aload_n (q := 29) (i := 0) (z := 0) C dX7_readVictim_28 rfl rfl rfl ?_
    refine g_X7_78 (q := 32) C hi0 dX7_readVictim_29 rfl ?_
    refine r_callVI (q := 35) (As := [.ref (fad Δ 7 i0 1), .int (gI s4 7 i0 0)]) wm_X7_137 yvX5_takeName (c_X5_takeName Δ hN 7 i0 1 6 (gI s4 7 i0 0) q_7_1 h_7_1 hi0 s4) ⟨rfl, by decide⟩ C (nk_5_0 hN) (by decide) rfl (Nat.le_of_ble_eq_true rfl) dX7_readVictim_32 rfl (fun x5 s6 => ?_)
    refine r_if_ne (q := 38) (tgt := 40) C dX7_readVictim_35 (by decide) rfl ?_ ?_
    · refine r_aload_n (q := 41) (i := 0) (z := 0) C dX7_readVictim_40 rfl rfl rfl ?_
      refine g_X7_46 (q := 44) C hi0 dX7_readVictim_41 rfl ?_
      refine r_aload_n (q := 45) (i := 0) (z := 0) C dX7_readVictim_44 rfl rfl rfl ?_
      refine g_X7_103 (q := 48) C hi0 dX7_readVictim_45 rfl ?_
      refine r_aload_n (q := 49) (i := 1) (z := 1) C dX7_readVictim_48 rfl rfl rfl ?_
      refine g_X7_96 (q := 52) C (nk_5_0 hN) dX7_readVictim_49 rfl ?_
      refine r_ast (q := 53) q_7_12 h_7_12 C hi0 dX7_readVictim_52 rfl (fun s7 => ?_)
      refine r_locs (lc' := []) [] rfl ?_
      exact hj3 s7
    · refine r_iconst (q := 39) (v := 0) C dX7_readVictim_38 rfl (by decide) ?_
      exact r_zret0 (Or.inl rfl) C dX7_readVictim_39

noncomputable def f_X7_readScene_L102 (i0 : Nat) (k20 : fSt → Option (Int32 × fSt)) : Nat → Int32 → fSt → Option (Int32 × fSt)
  | 0, _, _ => none
  | n30 + 1, x28, s29 =>
      if ((4 : Int32)) ≤ x28 then
                    (k20 s29)
                  else
                    (fBd (f_X7_readWay i0 x28 s29) fun x31 s32 =>
                    if ¬ x31 = 0 then
                      (fLt (x28 + (1 : Int32)) fun (x33 : Int32) =>
                      f_X7_readScene_L102 i0 k20 n30 x33 s32)
                    else
                      (some ((0 : Int32), s32)))

noncomputable def f_X7_readScene (i0 : Nat) (st : fSt) : Option (Int32 × fSt) :=
  fBd (f_X7_readNew i0 7 i0 3 12 (gI st 7 i0 2) st) fun x1 s2 =>
  fJn (fun (s3 : fSt) =>
    (some ((0 : Int32), s3))) fun (j4 : fSt → Option (Int32 × fSt)) =>
  if x1 = 0 then
    (j4 s2)
  else
    (fBd (f_X5_take ((6 : Int32)) s2) fun x5 s6 =>
    if x5 = 0 then
      (j4 s6)
    else
      (fBd (f_X5_takeNumber ((1 : Int32)) ((20 : Int32)) s6) fun x7 s8 =>
      if ¬ x7 = 0 then
        (fIx (gI s8 7 i0 2) 12 <|
        fLt (sA s8 7 i0 8 (upd (gA s8 7 i0 8) (gI s8 7 i0 2).toNatClampNeg (gI s8 5 0 9))) fun s9 =>
        fJn (fun (x10 : Int32) (s11 : fSt) =>
          (fIx (gI s9 7 i0 2) 12 <|
          fLt (sA s11 7 i0 9 (upd (gA s11 7 i0 9) (gI s9 7 i0 2).toNatClampNeg x10)) fun s13 =>
          fIx (gI s13 7 i0 2) 12 <|
          fJn (fun (s14 : fSt) =>
            (some ((0 : Int32), s14))) fun (j15 : fSt → Option (Int32 × fSt)) =>
          if (gA s13 7 i0 9 (gI s13 7 i0 2).toNatClampNeg) = ((-1 : Int32)) then
            (j15 s13)
          else
            (fBd (f_X7_readEnding i0 s13) fun x16 s17 =>
            if ¬ x16 = 0 then
              (fLt ((0 : Int32)) fun (x18 : Int32) =>
              fJn (fun (s19 : fSt) =>
                (fBd (f_X7_readVictim i0 s19) fun x21 s22 =>
                fJn (fun (s23 : fSt) =>
                  (some ((0 : Int32), s23))) fun (j24 : fSt → Option (Int32 × fSt)) =>
                if x21 = 0 then
                  (j24 s22)
                else
                  (fBd (f_X5_take ((59 : Int32)) s22) fun x25 s26 =>
                  if ¬ x25 = 0 then
                    (fLt (sI s26 7 i0 2 ((gI s26 7 i0 2) + ((1 : Int32)))) fun s27 =>
                    some ((1 : Int32), s27))
                  else
                    (j24 s26)))) fun (k20 : fSt → Option (Int32 × fSt)) =>
              f_X7_readScene_L102 i0 k20 fF x18 s17)
            else
              (j15 s17)))) fun (j12 : Int32 → fSt → Option (Int32 × fSt)) =>
        if ¬ (gI s9 5 0 6) = ((7 : Int32)) then
          (j12 ((0 : Int32)) s9)
        else
          (fBd (f_X7_readRoles i0 s9) fun x34 s35 =>
          j12 x34 s35))
      else
        (j4 s8)))

set_option maxHeartbeats 4000000 in
set_option maxRecDepth 100000 in
theorem c_X7_readScene (Δ : fDl) (hN : fNx Δ) (i0 : Nat) (hi0 : i0 < fN Δ 7)  (st : fSt) : fMt eI Δ yX7_readScene cX7_readScene 3 (some .boolean) 6 [.ref (fad Δ 7 i0 0), .ref (fad Δ 5 0 0)] st (f_X7_readScene i0 st) := by
  unfold f_X7_readScene
  refine r_method (by decide +kernel) (Nat.le_of_ble_eq_true rfl) (fun Γ C => ?_)
  have C : fC Δ Γ cX7_readScene RX7 3 (some .boolean) 6 := C
  refine r_locs (lc' := [(0, .ref (fad Δ 7 i0 0)), (1, .ref (fad Δ 5 0 0))]) [0, 1] rfl ?_
  refine r_aload_n (q := 1) (i := 0) (z := 0) C dX7_readScene_0 rfl rfl rfl ?_
  refine r_aload_n (q := 2) (i := 1) (z := 1) C dX7_readScene_1 rfl rfl rfl ?_
  refine r_aload_n (q := 3) (i := 0) (z := 0) C dX7_readScene_2 rfl rfl rfl ?_
  refine g_X7_18 (q := 6) C hi0 dX7_readScene_3 rfl ?_
  refine r_aload_n (q := 7) (i := 0) (z := 0) C dX7_readScene_6 rfl rfl rfl ?_
  refine g_X7_103 (q := 10) C hi0 dX7_readScene_7 rfl ?_
  refine r_callVI (q := 13) (As := [.ref (fad Δ 5 0 0), .ref (fad Δ 7 i0 3), .int (gI st 7 i0 2)]) wm_X7_81 yvX7_readNew (c_X7_readNew Δ hN i0 7 i0 3 12 (gI st 7 i0 2) hi0 q_7_3 h_7_3 hi0 st) ⟨rfl, by decide⟩ C hi0 (by decide) rfl (Nat.le_of_ble_eq_true rfl) dX7_readScene_10 rfl (fun x1 s2 => ?_)
  refine r_join (fun j4 => ∀  (s3 : fSt), fW Δ Γ 3 (fQ eI Δ Γ) 35 [] [] s3 (j4 s3)) ?_ (fun j4 hj4 => ?_)
  · intro s3
    refine r_iconst (q := 36) (v := 0) C dX7_readScene_35 rfl (by decide) ?_
    exact r_zret0 (Or.inl rfl) C dX7_readScene_36
  refine r_if_eq (q := 16) (tgt := 35) C dX7_readScene_13 (by decide) rfl ?_ ?_
  · refine r_locs (lc' := []) [] rfl ?_
    exact hj4 s2
  · refine r_aload_n (q := 17) (i := 1) (z := 1) C dX7_readScene_16 rfl rfl rfl ?_
    refine r_bipush (q := 19) (v := 6) C dX7_readScene_17 rfl (by decide) ?_
    refine r_callVI (q := 22) (As := [.int ((6 : Int32))]) wm_X7_85 yvX5_take (c_X5_take Δ hN ((6 : Int32)) s2) ⟨rfl, by decide⟩ C (nk_5_0 hN) (by decide) rfl (Nat.le_of_ble_eq_true rfl) dX7_readScene_19 rfl (fun x5 s6 => ?_)
    refine r_if_eq (q := 25) (tgt := 35) C dX7_readScene_22 (by decide) rfl ?_ ?_
    · refine r_locs (lc' := []) [] rfl ?_
      exact hj4 s6
    · refine r_aload_n (q := 26) (i := 1) (z := 1) C dX7_readScene_25 rfl rfl rfl ?_
      refine r_iconst (q := 27) (v := 1) C dX7_readScene_26 rfl (by decide) ?_
      refine r_bipush (q := 29) (v := 20) C dX7_readScene_27 rfl (by decide) ?_
      refine r_callVI (q := 32) (As := [.int ((1 : Int32)), .int ((20 : Int32))]) wm_X7_92 yvX5_takeNumber (c_X5_takeNumber Δ hN ((1 : Int32)) ((20 : Int32)) s6) ⟨rfl, by decide⟩ C (nk_5_0 hN) (by decide) rfl (Nat.le_of_ble_eq_true rfl) dX7_readScene_29 rfl (fun x7 s8 => ?_)
      refine r_if_ne (q := 35) (tgt := 37) C dX7_readScene_32 (by decide) rfl ?_ ?_
      · refine r_aload_n (q := 38) (i := 0) (z := 0) C dX7_readScene_37 rfl rfl rfl ?_
        refine g_X7_34 (q := 41) C hi0 dX7_readScene_38 rfl ?_
        refine r_aload_n (q := 42) (i := 0) (z := 0) C dX7_readScene_41 rfl rfl rfl ?_
        refine g_X7_103 (q := 45) C hi0 dX7_readScene_42 rfl ?_
        refine r_aload_n (q := 46) (i := 1) (z := 1) C dX7_readScene_45 rfl rfl rfl ?_
        refine g_X7_96 (q := 49) C (nk_5_0 hN) dX7_readScene_46 rfl ?_
        refine r_ast (q := 50) q_7_8 h_7_8 C hi0 dX7_readScene_49 rfl (fun s9 => ?_)
        refine r_aload_n (q := 51) (i := 0) (z := 0) C dX7_readScene_50 rfl rfl rfl ?_
        refine g_X7_37 (q := 54) C hi0 dX7_readScene_51 rfl ?_
        refine r_aload_n (q := 55) (i := 0) (z := 0) C dX7_readScene_54 rfl rfl rfl ?_
        refine g_X7_103 (q := 58) C hi0 dX7_readScene_55 rfl ?_
        refine r_aload_n (q := 59) (i := 1) (z := 1) C dX7_readScene_58 rfl rfl rfl ?_
        refine g_X7_55 (q := 62) C (nk_5_0 hN) dX7_readScene_59 rfl ?_
        refine r_bipush (q := 64) (v := 7) C dX7_readScene_62 rfl (by decide) ?_
        refine r_join (fun j12 => ∀ (x10 : Int32) (s11 : fSt), fW Δ Γ 3 (fQ eI Δ Γ) 76 [(0, .ref (fad Δ 7 i0 0)), (1, .ref (fad Δ 5 0 0))] [.int x10, .int (gI s9 7 i0 2), .ref (fad Δ 7 i0 9)] s11 (j12 x10 s11)) ?_ (fun j12 hj12 => ?_)
        · intro x10 s11
          refine r_ast (q := 77) q_7_9 h_7_9 C hi0 dX7_readScene_76 rfl (fun s13 => ?_)
          refine r_aload_n (q := 78) (i := 0) (z := 0) C dX7_readScene_77 rfl rfl rfl ?_
          refine g_X7_37 (q := 81) C hi0 dX7_readScene_78 rfl ?_
          refine r_aload_n (q := 82) (i := 0) (z := 0) C dX7_readScene_81 rfl rfl rfl ?_
          refine g_X7_103 (q := 85) C hi0 dX7_readScene_82 rfl ?_
          refine r_ial (q := 86) q_7_9 h_7_9 C hi0 dX7_readScene_85 rfl ?_
          refine r_iconst (q := 87) (v := (-1)) C dX7_readScene_86 rfl (by decide) ?_
          refine r_join (fun j15 => ∀  (s14 : fSt), fW Δ Γ 3 (fQ eI Δ Γ) 98 [] [] s14 (j15 s14)) ?_ (fun j15 hj15 => ?_)
          · intro s14
            refine r_iconst (q := 99) (v := 0) C dX7_readScene_98 rfl (by decide) ?_
            exact r_zret0 (Or.inl rfl) C dX7_readScene_99
          refine r_icmp_eq (q := 90) (tgt := 98) C dX7_readScene_87 (by decide) rfl ?_ ?_
          · refine r_locs (lc' := []) [] rfl ?_
            exact hj15 s13
          · refine r_aload_n (q := 91) (i := 0) (z := 0) C dX7_readScene_90 rfl rfl rfl ?_
            refine r_aload_n (q := 92) (i := 1) (z := 1) C dX7_readScene_91 rfl rfl rfl ?_
            refine r_callVI (q := 95) (As := [.ref (fad Δ 5 0 0)]) wm_X7_106 yvX7_readEnding (c_X7_readEnding Δ hN i0 hi0 s13) ⟨rfl, by decide⟩ C hi0 (by decide) rfl (Nat.le_of_ble_eq_true rfl) dX7_readScene_92 rfl (fun x16 s17 => ?_)
            refine r_if_ne (q := 98) (tgt := 100) C dX7_readScene_95 (by decide) rfl ?_ ?_
            · refine r_iconst (q := 101) (v := 0) C dX7_readScene_100 rfl (by decide) ?_
              refine r_istore_n (q := 102) (i := 2) [(0, .ref (fad Δ 7 i0 0)), (1, .ref (fad Δ 5 0 0))] C dX7_readScene_101 rfl rfl (by decide) rfl (fun x18 => ?_)
              refine r_join (fun k20 => ∀  (s19 : fSt), fW Δ Γ 3 (fQ eI Δ Γ) 124 [(0, .ref (fad Δ 7 i0 0)), (1, .ref (fad Δ 5 0 0))] [] s19 (k20 s19)) ?_ (fun k20 hk20 => ?_)
              · intro s19
                refine r_aload_n (q := 125) (i := 0) (z := 0) C dX7_readScene_124 rfl rfl rfl ?_
                refine r_aload_n (q := 126) (i := 1) (z := 1) C dX7_readScene_125 rfl rfl rfl ?_
                refine r_callVI (q := 129) (As := [.ref (fad Δ 5 0 0)]) wm_X7_113 yvX7_readVictim (c_X7_readVictim Δ hN i0 hi0 s19) ⟨rfl, by decide⟩ C hi0 (by decide) rfl (Nat.le_of_ble_eq_true rfl) dX7_readScene_126 rfl (fun x21 s22 => ?_)
                refine r_join (fun j24 => ∀  (s23 : fSt), fW Δ Γ 3 (fQ eI Δ Γ) 141 [] [] s23 (j24 s23)) ?_ (fun j24 hj24 => ?_)
                · intro s23
                  refine r_iconst (q := 142) (v := 0) C dX7_readScene_141 rfl (by decide) ?_
                  exact r_zret0 (Or.inl rfl) C dX7_readScene_142
                refine r_if_eq (q := 132) (tgt := 141) C dX7_readScene_129 (by decide) rfl ?_ ?_
                · refine r_locs (lc' := []) [] rfl ?_
                  exact hj24 s22
                · refine r_aload_n (q := 133) (i := 1) (z := 1) C dX7_readScene_132 rfl rfl rfl ?_
                  refine r_bipush (q := 135) (v := 59) C dX7_readScene_133 rfl (by decide) ?_
                  refine r_callVI (q := 138) (As := [.int ((59 : Int32))]) wm_X7_85 yvX5_take (c_X5_take Δ hN ((59 : Int32)) s22) ⟨rfl, by decide⟩ C (nk_5_0 hN) (by decide) rfl (Nat.le_of_ble_eq_true rfl) dX7_readScene_135 rfl (fun x25 s26 => ?_)
                  refine r_if_ne (q := 141) (tgt := 143) C dX7_readScene_138 (by decide) rfl ?_ ?_
                  · refine r_aload_n (q := 144) (i := 0) (z := 0) C dX7_readScene_143 rfl rfl rfl ?_
                    refine r_dup (q := 145) C dX7_readScene_144 rfl rfl ?_
                    refine g_X7_103 (q := 148) C hi0 dX7_readScene_145 rfl ?_
                    refine r_iconst (q := 149) (v := 1) C dX7_readScene_148 rfl (by decide) ?_
                    refine r_iadd (q := 150) C dX7_readScene_149 rfl ?_
                    refine p_X7_103 (q := 153) C hi0 dX7_readScene_150 rfl (fun s27 => ?_)
                    refine r_iconst (q := 154) (v := 1) C dX7_readScene_153 rfl (by decide) ?_
                    exact r_zret0 (Or.inr rfl) C dX7_readScene_154
                  · refine r_locs (lc' := []) [] rfl ?_
                    exact hj24 s26
              refine r_locs (lc' := [(0, .ref (fad Δ 7 i0 0)), (1, .ref (fad Δ 5 0 0)), (2, .int x18)]) [1, 2, 0] rfl ?_
              have L102 : ∀ (n30 : Nat) (x28 : Int32) (s29 : fSt), fW Δ Γ 3 (fQ eI Δ Γ) 102 [(0, .ref (fad Δ 7 i0 0)), (1, .ref (fad Δ 5 0 0)), (2, .int x28)] [] s29 (f_X7_readScene_L102 i0 k20 n30 x28 s29) := by
                intro n30
                induction n30 with
                | zero =>
                  intro x28 s29
                  rw [f_X7_readScene_L102]
                  exact r_none
                | succ n30 ih_n30 =>
                  intro x28 s29
                  rw [f_X7_readScene_L102]
                  refine r_iload_n (q := 103) (i := 2) (z := 2) C dX7_readScene_102 rfl rfl rfl ?_
                  refine r_iconst (q := 104) (v := 4) C dX7_readScene_103 rfl (by decide) ?_
                  refine r_icmp_ge (q := 107) (tgt := 124) C dX7_readScene_104 (by decide) rfl ?_ ?_
                  · refine r_locs (lc' := [(0, .ref (fad Δ 7 i0 0)), (1, .ref (fad Δ 5 0 0))]) [0, 1] rfl ?_
                    exact hk20 s29
                  · refine r_aload_n (q := 108) (i := 0) (z := 0) C dX7_readScene_107 rfl rfl rfl ?_
                    refine r_aload_n (q := 109) (i := 1) (z := 1) C dX7_readScene_108 rfl rfl rfl ?_
                    refine r_iload_n (q := 110) (i := 2) (z := 2) C dX7_readScene_109 rfl rfl rfl ?_
                    refine r_callVI (q := 113) (As := [.ref (fad Δ 5 0 0), .int x28]) wm_X7_109 yvX7_readWay (c_X7_readWay Δ hN i0 x28 hi0 s29) ⟨rfl, by decide⟩ C hi0 (by decide) rfl (Nat.le_of_ble_eq_true rfl) dX7_readScene_110 rfl (fun x31 s32 => ?_)
                    refine r_if_ne (q := 116) (tgt := 118) C dX7_readScene_113 (by decide) rfl ?_ ?_
                    · refine r_iinc (q := 121) (z := 2) (d := 1) [(0, .ref (fad Δ 7 i0 0)), (1, .ref (fad Δ 5 0 0))] C dX7_readScene_118 rfl rfl (by decide) (by decide) rfl (fun x33 => ?_)
                      refine r_goto (q := 102) C dX7_readScene_121 (by decide) ?_
                      refine r_locs (lc' := [(0, .ref (fad Δ 7 i0 0)), (1, .ref (fad Δ 5 0 0)), (2, .int x33)]) [1, 2, 0] rfl ?_
                      exact ih_n30 x33 s32
                    · refine r_iconst (q := 117) (v := 0) C dX7_readScene_116 rfl (by decide) ?_
                      exact r_zret0 (Or.inl rfl) C dX7_readScene_117
              exact L102 fF x18 s17
            · refine r_locs (lc' := []) [] rfl ?_
              exact hj15 s17
        refine r_icmp_ne (q := 67) (tgt := 75) C dX7_readScene_64 (by decide) rfl ?_ ?_
        · refine r_iconst (q := 76) (v := 0) C dX7_readScene_75 rfl (by decide) ?_
          exact hj12 ((0 : Int32)) s9
        · refine r_aload_n (q := 68) (i := 0) (z := 0) C dX7_readScene_67 rfl rfl rfl ?_
          refine r_aload_n (q := 69) (i := 1) (z := 1) C dX7_readScene_68 rfl rfl rfl ?_
          refine r_callVI (q := 72) (As := [.ref (fad Δ 5 0 0)]) wm_X7_99 yvX7_readRoles (c_X7_readRoles Δ hN i0 hi0 s9) ⟨rfl, by decide⟩ C hi0 (by decide) rfl (Nat.le_of_ble_eq_true rfl) dX7_readScene_69 rfl (fun x34 s35 => ?_)
          refine r_goto (q := 76) C dX7_readScene_72 (by decide) ?_
          exact hj12 x34 s35
      · refine r_locs (lc' := []) [] rfl ?_
        exact hj4 s8

noncomputable def f_X7_readKind_L55 (i0 : Nat) (k14 : Int32 → fSt → Option (Int32 × fSt)) (k20 : fSt → Option (Int32 × fSt)) : Nat → Int32 → Int32 → fSt → Option (Int32 × fSt)
  | 0, _, _, _ => none
  | n24 + 1, x21, x22, s23 =>
      if ((4 : Int32)) ≤ x22 then
              (k14 x21 s23)
            else
              (fBd (f_X5_take ((((16 : Int32)) + x22) - ((1 : Int32))) s23) fun x25 s26 =>
              if x25 = 0 then
                (k20 s26)
              else
                (fBd (f_X5_takeNumber ((0 : Int32)) x21 s26) fun x27 s28 =>
                if ¬ x27 = 0 then
                  (fIx (((gI s28 7 i0 3) * ((4 : Int32))) + x22) 16 <|
                  fLt (sA s28 7 i0 14 (upd (gA s28 7 i0 14) (((gI s28 7 i0 3) * ((4 : Int32))) + x22).toNatClampNeg (gI s28 5 0 9))) fun s29 =>
                  fLt (x21 - (gI s29 5 0 9)) fun (x30 : Int32) =>
                  fLt (x22 + (1 : Int32)) fun (x31 : Int32) =>
                  f_X7_readKind_L55 i0 k14 k20 n24 x30 x31 s29)
                else
                  (k20 s28)))

noncomputable def f_X7_readKind (i0 : Nat) (st : fSt) : Option (Int32 × fSt) :=
  fBd (f_X7_readNew i0 7 i0 4 4 (gI st 7 i0 3) st) fun x1 s2 =>
  fJn (fun (s3 : fSt) =>
    (some ((0 : Int32), s3))) fun (j4 : fSt → Option (Int32 × fSt)) =>
  if x1 = 0 then
    (j4 s2)
  else
    (fBd (f_X5_take ((15 : Int32)) s2) fun x5 s6 =>
    if x5 = 0 then
      (j4 s6)
    else
      (fBd (f_X5_takeNumber ((1 : Int32)) ((30 : Int32)) s6) fun x7 s8 =>
      if ¬ x7 = 0 then
        (fIx (gI s8 7 i0 3) 4 <|
        fLt (sA s8 7 i0 13 (upd (gA s8 7 i0 13) (gI s8 7 i0 3).toNatClampNeg (gI s8 5 0 9))) fun s9 =>
        fLt ((16 : Int32)) fun (x10 : Int32) =>
        fLt ((1 : Int32)) fun (x11 : Int32) =>
        fJn (fun (x12 : Int32) (s13 : fSt) =>
          (fIx ((gI s13 7 i0 3) * ((4 : Int32))) 16 <|
          fLt (sA s13 7 i0 14 (upd (gA s13 7 i0 14) ((gI s13 7 i0 3) * ((4 : Int32))).toNatClampNeg x12)) fun s15 =>
          fBd (f_X5_take ((59 : Int32)) s15) fun x16 s17 =>
          if ¬ x16 = 0 then
            (fLt (sI s17 7 i0 3 ((gI s17 7 i0 3) + ((1 : Int32)))) fun s18 =>
            some ((1 : Int32), s18))
          else
            (some ((0 : Int32), s17)))) fun (k14 : Int32 → fSt → Option (Int32 × fSt)) =>
        fJn (fun (s19 : fSt) =>
          (some ((0 : Int32), s19))) fun (k20 : fSt → Option (Int32 × fSt)) =>
        f_X7_readKind_L55 i0 k14 k20 fF x10 x11 s9)
      else
        (j4 s8)))

set_option maxHeartbeats 4000000 in
set_option maxRecDepth 100000 in
theorem c_X7_readKind (Δ : fDl) (hN : fNx Δ) (i0 : Nat) (hi0 : i0 < fN Δ 7)  (st : fSt) : fMt eI Δ yX7_readKind cX7_readKind 4 (some .boolean) 5 [.ref (fad Δ 7 i0 0), .ref (fad Δ 5 0 0)] st (f_X7_readKind i0 st) := by
  unfold f_X7_readKind
  refine r_method (by decide +kernel) (Nat.le_of_ble_eq_true rfl) (fun Γ C => ?_)
  have C : fC Δ Γ cX7_readKind RX7 4 (some .boolean) 5 := C
  refine r_locs (lc' := [(0, .ref (fad Δ 7 i0 0)), (1, .ref (fad Δ 5 0 0))]) [0, 1] rfl ?_
  refine r_aload_n (q := 1) (i := 0) (z := 0) C dX7_readKind_0 rfl rfl rfl ?_
  refine r_aload_n (q := 2) (i := 1) (z := 1) C dX7_readKind_1 rfl rfl rfl ?_
  refine r_aload_n (q := 3) (i := 0) (z := 0) C dX7_readKind_2 rfl rfl rfl ?_
  refine g_X7_21 (q := 6) C hi0 dX7_readKind_3 rfl ?_
  refine r_aload_n (q := 7) (i := 0) (z := 0) C dX7_readKind_6 rfl rfl rfl ?_
  refine g_X7_116 (q := 10) C hi0 dX7_readKind_7 rfl ?_
  refine r_callVI (q := 13) (As := [.ref (fad Δ 5 0 0), .ref (fad Δ 7 i0 4), .int (gI st 7 i0 3)]) wm_X7_81 yvX7_readNew (c_X7_readNew Δ hN i0 7 i0 4 4 (gI st 7 i0 3) hi0 q_7_4 h_7_4 hi0 st) ⟨rfl, by decide⟩ C hi0 (by decide) rfl (Nat.le_of_ble_eq_true rfl) dX7_readKind_10 rfl (fun x1 s2 => ?_)
  refine r_join (fun j4 => ∀  (s3 : fSt), fW Δ Γ 4 (fQ eI Δ Γ) 35 [] [] s3 (j4 s3)) ?_ (fun j4 hj4 => ?_)
  · intro s3
    refine r_iconst (q := 36) (v := 0) C dX7_readKind_35 rfl (by decide) ?_
    exact r_zret0 (Or.inl rfl) C dX7_readKind_36
  refine r_if_eq (q := 16) (tgt := 35) C dX7_readKind_13 (by decide) rfl ?_ ?_
  · refine r_locs (lc' := []) [] rfl ?_
    exact hj4 s2
  · refine r_aload_n (q := 17) (i := 1) (z := 1) C dX7_readKind_16 rfl rfl rfl ?_
    refine r_bipush (q := 19) (v := 15) C dX7_readKind_17 rfl (by decide) ?_
    refine r_callVI (q := 22) (As := [.int ((15 : Int32))]) wm_X7_85 yvX5_take (c_X5_take Δ hN ((15 : Int32)) s2) ⟨rfl, by decide⟩ C (nk_5_0 hN) (by decide) rfl (Nat.le_of_ble_eq_true rfl) dX7_readKind_19 rfl (fun x5 s6 => ?_)
    refine r_if_eq (q := 25) (tgt := 35) C dX7_readKind_22 (by decide) rfl ?_ ?_
    · refine r_locs (lc' := []) [] rfl ?_
      exact hj4 s6
    · refine r_aload_n (q := 26) (i := 1) (z := 1) C dX7_readKind_25 rfl rfl rfl ?_
      refine r_iconst (q := 27) (v := 1) C dX7_readKind_26 rfl (by decide) ?_
      refine r_bipush (q := 29) (v := 30) C dX7_readKind_27 rfl (by decide) ?_
      refine r_callVI (q := 32) (As := [.int ((1 : Int32)), .int ((30 : Int32))]) wm_X7_92 yvX5_takeNumber (c_X5_takeNumber Δ hN ((1 : Int32)) ((30 : Int32)) s6) ⟨rfl, by decide⟩ C (nk_5_0 hN) (by decide) rfl (Nat.le_of_ble_eq_true rfl) dX7_readKind_29 rfl (fun x7 s8 => ?_)
      refine r_if_ne (q := 35) (tgt := 37) C dX7_readKind_32 (by decide) rfl ?_ ?_
      · refine r_aload_n (q := 38) (i := 0) (z := 0) C dX7_readKind_37 rfl rfl rfl ?_
        refine g_X7_49 (q := 41) C hi0 dX7_readKind_38 rfl ?_
        refine r_aload_n (q := 42) (i := 0) (z := 0) C dX7_readKind_41 rfl rfl rfl ?_
        refine g_X7_116 (q := 45) C hi0 dX7_readKind_42 rfl ?_
        refine r_aload_n (q := 46) (i := 1) (z := 1) C dX7_readKind_45 rfl rfl rfl ?_
        refine g_X7_96 (q := 49) C (nk_5_0 hN) dX7_readKind_46 rfl ?_
        refine r_ast (q := 50) q_7_13 h_7_13 C hi0 dX7_readKind_49 rfl (fun s9 => ?_)
        refine r_bipush (q := 52) (v := 16) C dX7_readKind_50 rfl (by decide) ?_
        refine r_istore_n (q := 53) (i := 2) [(0, .ref (fad Δ 7 i0 0)), (1, .ref (fad Δ 5 0 0))] C dX7_readKind_52 rfl rfl (by decide) rfl (fun x10 => ?_)
        refine r_iconst (q := 54) (v := 1) C dX7_readKind_53 rfl (by decide) ?_
        refine r_istore_n (q := 55) (i := 3) [(2, .int x10), (0, .ref (fad Δ 7 i0 0)), (1, .ref (fad Δ 5 0 0))] C dX7_readKind_54 rfl rfl (by decide) rfl (fun x11 => ?_)
        refine r_join (fun k14 => ∀ (x12 : Int32) (s13 : fSt), fW Δ Γ 4 (fQ eI Δ Γ) 114 [(0, .ref (fad Δ 7 i0 0)), (1, .ref (fad Δ 5 0 0)), (2, .int x12)] [] s13 (k14 x12 s13)) ?_ (fun k14 hk14 => ?_)
        · intro x12 s13
          refine r_aload_n (q := 115) (i := 0) (z := 0) C dX7_readKind_114 rfl rfl rfl ?_
          refine g_X7_52 (q := 118) C hi0 dX7_readKind_115 rfl ?_
          refine r_aload_n (q := 119) (i := 0) (z := 0) C dX7_readKind_118 rfl rfl rfl ?_
          refine g_X7_116 (q := 122) C hi0 dX7_readKind_119 rfl ?_
          refine r_iconst (q := 123) (v := 4) C dX7_readKind_122 rfl (by decide) ?_
          refine r_imul (q := 124) C dX7_readKind_123 rfl ?_
          refine r_iload_n (q := 125) (i := 2) (z := 2) C dX7_readKind_124 rfl rfl rfl ?_
          refine r_ast (q := 126) q_7_14 h_7_14 C hi0 dX7_readKind_125 rfl (fun s15 => ?_)
          refine r_aload_n (q := 127) (i := 1) (z := 1) C dX7_readKind_126 rfl rfl rfl ?_
          refine r_bipush (q := 129) (v := 59) C dX7_readKind_127 rfl (by decide) ?_
          refine r_callVI (q := 132) (As := [.int ((59 : Int32))]) wm_X7_85 yvX5_take (c_X5_take Δ hN ((59 : Int32)) s15) ⟨rfl, by decide⟩ C (nk_5_0 hN) (by decide) rfl (Nat.le_of_ble_eq_true rfl) dX7_readKind_129 rfl (fun x16 s17 => ?_)
          refine r_if_ne (q := 135) (tgt := 137) C dX7_readKind_132 (by decide) rfl ?_ ?_
          · refine r_aload_n (q := 138) (i := 0) (z := 0) C dX7_readKind_137 rfl rfl rfl ?_
            refine r_dup (q := 139) C dX7_readKind_138 rfl rfl ?_
            refine g_X7_116 (q := 142) C hi0 dX7_readKind_139 rfl ?_
            refine r_iconst (q := 143) (v := 1) C dX7_readKind_142 rfl (by decide) ?_
            refine r_iadd (q := 144) C dX7_readKind_143 rfl ?_
            refine p_X7_116 (q := 147) C hi0 dX7_readKind_144 rfl (fun s18 => ?_)
            refine r_iconst (q := 148) (v := 1) C dX7_readKind_147 rfl (by decide) ?_
            exact r_zret0 (Or.inr rfl) C dX7_readKind_148
          · refine r_iconst (q := 136) (v := 0) C dX7_readKind_135 rfl (by decide) ?_
            exact r_zret0 (Or.inl rfl) C dX7_readKind_136
        refine r_join (fun k20 => ∀  (s19 : fSt), fW Δ Γ 4 (fQ eI Δ Γ) 82 [] [] s19 (k20 s19)) ?_ (fun k20 hk20 => ?_)
        · intro s19
          refine r_iconst (q := 83) (v := 0) C dX7_readKind_82 rfl (by decide) ?_
          exact r_zret0 (Or.inl rfl) C dX7_readKind_83
        refine r_locs (lc' := [(0, .ref (fad Δ 7 i0 0)), (1, .ref (fad Δ 5 0 0)), (2, .int x10), (3, .int x11)]) [2, 3, 1, 0] rfl ?_
        have L55 : ∀ (n24 : Nat) (x21 : Int32) (x22 : Int32) (s23 : fSt), fW Δ Γ 4 (fQ eI Δ Γ) 55 [(0, .ref (fad Δ 7 i0 0)), (1, .ref (fad Δ 5 0 0)), (2, .int x21), (3, .int x22)] [] s23 (f_X7_readKind_L55 i0 k14 k20 n24 x21 x22 s23) := by
          intro n24
          induction n24 with
          | zero =>
            intro x21 x22 s23
            rw [f_X7_readKind_L55]
            exact r_none
          | succ n24 ih_n24 =>
            intro x21 x22 s23
            rw [f_X7_readKind_L55]
            refine r_iload_n (q := 56) (i := 3) (z := 3) C dX7_readKind_55 rfl rfl rfl ?_
            refine r_iconst (q := 57) (v := 4) C dX7_readKind_56 rfl (by decide) ?_
            refine r_icmp_ge (q := 60) (tgt := 114) C dX7_readKind_57 (by decide) rfl ?_ ?_
            · refine r_locs (lc' := [(0, .ref (fad Δ 7 i0 0)), (1, .ref (fad Δ 5 0 0)), (2, .int x21)]) [0, 1, 2] rfl ?_
              exact hk14 x21 s23
            · refine r_aload_n (q := 61) (i := 1) (z := 1) C dX7_readKind_60 rfl rfl rfl ?_
              refine r_bipush (q := 63) (v := 16) C dX7_readKind_61 rfl (by decide) ?_
              refine r_iload_n (q := 64) (i := 3) (z := 3) C dX7_readKind_63 rfl rfl rfl ?_
              refine r_iadd (q := 65) C dX7_readKind_64 rfl ?_
              refine r_iconst (q := 66) (v := 1) C dX7_readKind_65 rfl (by decide) ?_
              refine r_isub (q := 67) C dX7_readKind_66 rfl ?_
              refine r_callVI (q := 70) (As := [.int ((((16 : Int32)) + x22) - ((1 : Int32)))]) wm_X7_85 yvX5_take (c_X5_take Δ hN ((((16 : Int32)) + x22) - ((1 : Int32))) s23) ⟨rfl, by decide⟩ C (nk_5_0 hN) (by decide) rfl (Nat.le_of_ble_eq_true rfl) dX7_readKind_67 rfl (fun x25 s26 => ?_)
              refine r_if_eq (q := 73) (tgt := 82) C dX7_readKind_70 (by decide) rfl ?_ ?_
              · refine r_locs (lc' := []) [] rfl ?_
                exact hk20 s26
              · refine r_aload_n (q := 74) (i := 1) (z := 1) C dX7_readKind_73 rfl rfl rfl ?_
                refine r_iconst (q := 75) (v := 0) C dX7_readKind_74 rfl (by decide) ?_
                refine r_iload_n (q := 76) (i := 2) (z := 2) C dX7_readKind_75 rfl rfl rfl ?_
                refine r_callVI (q := 79) (As := [.int ((0 : Int32)), .int x21]) wm_X7_92 yvX5_takeNumber (c_X5_takeNumber Δ hN ((0 : Int32)) x21 s26) ⟨rfl, by decide⟩ C (nk_5_0 hN) (by decide) rfl (Nat.le_of_ble_eq_true rfl) dX7_readKind_76 rfl (fun x27 s28 => ?_)
                refine r_if_ne (q := 82) (tgt := 84) C dX7_readKind_79 (by decide) rfl ?_ ?_
                · refine r_aload_n (q := 85) (i := 0) (z := 0) C dX7_readKind_84 rfl rfl rfl ?_
                  refine g_X7_52 (q := 88) C hi0 dX7_readKind_85 rfl ?_
                  refine r_aload_n (q := 89) (i := 0) (z := 0) C dX7_readKind_88 rfl rfl rfl ?_
                  refine g_X7_116 (q := 92) C hi0 dX7_readKind_89 rfl ?_
                  refine r_iconst (q := 93) (v := 4) C dX7_readKind_92 rfl (by decide) ?_
                  refine r_imul (q := 94) C dX7_readKind_93 rfl ?_
                  refine r_iload_n (q := 95) (i := 3) (z := 3) C dX7_readKind_94 rfl rfl rfl ?_
                  refine r_iadd (q := 96) C dX7_readKind_95 rfl ?_
                  refine r_aload_n (q := 97) (i := 1) (z := 1) C dX7_readKind_96 rfl rfl rfl ?_
                  refine g_X7_96 (q := 100) C (nk_5_0 hN) dX7_readKind_97 rfl ?_
                  refine r_ast (q := 101) q_7_14 h_7_14 C hi0 dX7_readKind_100 rfl (fun s29 => ?_)
                  refine r_iload_n (q := 102) (i := 2) (z := 2) C dX7_readKind_101 rfl rfl rfl ?_
                  refine r_aload_n (q := 103) (i := 1) (z := 1) C dX7_readKind_102 rfl rfl rfl ?_
                  refine g_X7_96 (q := 106) C (nk_5_0 hN) dX7_readKind_103 rfl ?_
                  refine r_isub (q := 107) C dX7_readKind_106 rfl ?_
                  refine r_istore_n (q := 108) (i := 2) [(0, .ref (fad Δ 7 i0 0)), (1, .ref (fad Δ 5 0 0)), (3, .int x22)] C dX7_readKind_107 rfl rfl (by decide) rfl (fun x30 => ?_)
                  refine r_iinc (q := 111) (z := 3) (d := 1) [(2, .int x30), (0, .ref (fad Δ 7 i0 0)), (1, .ref (fad Δ 5 0 0))] C dX7_readKind_108 rfl rfl (by decide) (by decide) rfl (fun x31 => ?_)
                  refine r_goto (q := 55) C dX7_readKind_111 (by decide) ?_
                  refine r_locs (lc' := [(0, .ref (fad Δ 7 i0 0)), (1, .ref (fad Δ 5 0 0)), (2, .int x30), (3, .int x31)]) [2, 3, 1, 0] rfl ?_
                  exact ih_n24 x30 x31 s29
                · refine r_locs (lc' := []) [] rfl ?_
                  exact hk20 s28
        exact L55 fF x10 x11 s9
      · refine r_locs (lc' := []) [] rfl ?_
        exact hj4 s8

noncomputable def f_X7_readFrom_L4 (i0 : Nat) (k5 : Int32 → fSt → Option (Int32 × fSt)) : Nat → Int32 → Int32 → fSt → Option (Int32 × fSt)
  | 0, _, _, _ => none
  | n9 + 1, x6, x7, s8 =>
      if ((900 : Int32)) ≤ x7 then
        (k5 x6 s8)
      else
        (if x6 = 0 then
          (k5 x6 s8)
        else
          (if (gI s8 5 0 6) = ((35 : Int32)) then
            (k5 x6 s8)
          else
            (fJn (fun (x10 : Int32) (s11 : fSt) =>
              (fLt (x7 + (1 : Int32)) fun (x13 : Int32) =>
              f_X7_readFrom_L4 i0 k5 n9 x10 x13 s11)) fun (j12 : Int32 → fSt → Option (Int32 × fSt)) =>
            if (gI s8 5 0 6) = (0 : Int32) then
              (fBd (f_X7_readRole i0 s8) fun x15 s16 =>
              fLt x15 fun (x17 : Int32) =>
              j12 x17 s16)
            else
            if (gI s8 5 0 6) = (1 : Int32) then
              (fBd (f_X7_readActor i0 s8) fun x19 s20 =>
              fLt x19 fun (x21 : Int32) =>
              j12 x21 s20)
            else
            if (gI s8 5 0 6) = (5 : Int32) then
              (fBd (f_X7_readScene i0 s8) fun x23 s24 =>
              fLt x23 fun (x25 : Int32) =>
              j12 x25 s24)
            else
            if (gI s8 5 0 6) = (14 : Int32) then
              (fBd (f_X7_readKind i0 s8) fun x27 s28 =>
              fLt x27 fun (x29 : Int32) =>
              j12 x29 s28)
            else
            fBd (f_X5_failHere  s8) fun x30 s31 =>
            fLt x30 fun (x32 : Int32) =>
            j12 x32 s31)))

noncomputable def f_X7_readFrom (i0 : Nat) (st : fSt) : Option (Int32 × fSt) :=
  fLt ((1 : Int32)) fun (x1 : Int32) =>
  fLt ((0 : Int32)) fun (x2 : Int32) =>
  fJn (fun (x3 : Int32) (s4 : fSt) =>
    (fBo x3 (some (x3, s4)))) fun (k5 : Int32 → fSt → Option (Int32 × fSt)) =>
  f_X7_readFrom_L4 i0 k5 fF x1 x2 st

set_option maxHeartbeats 4000000 in
set_option maxRecDepth 100000 in
theorem c_X7_readFrom (Δ : fDl) (hN : fNx Δ) (i0 : Nat) (hi0 : i0 < fN Δ 7)  (st : fSt) : fMt eI Δ yX7_readFrom cX7_readFrom 4 (some .boolean) 7 [.ref (fad Δ 7 i0 0), .ref (fad Δ 5 0 0)] st (f_X7_readFrom i0 st) := by
  unfold f_X7_readFrom
  refine r_method (by decide +kernel) (Nat.le_of_ble_eq_true rfl) (fun Γ C => ?_)
  have C : fC Δ Γ cX7_readFrom RX7 4 (some .boolean) 7 := C
  refine r_locs (lc' := [(0, .ref (fad Δ 7 i0 0)), (1, .ref (fad Δ 5 0 0))]) [0, 1] rfl ?_
  refine r_iconst (q := 1) (v := 1) C dX7_readFrom_0 rfl (by decide) ?_
  refine r_istore_n (q := 2) (i := 2) [(0, .ref (fad Δ 7 i0 0)), (1, .ref (fad Δ 5 0 0))] C dX7_readFrom_1 rfl rfl (by decide) rfl (fun x1 => ?_)
  refine r_iconst (q := 3) (v := 0) C dX7_readFrom_2 rfl (by decide) ?_
  refine r_istore_n (q := 4) (i := 3) [(2, .int x1), (0, .ref (fad Δ 7 i0 0)), (1, .ref (fad Δ 5 0 0))] C dX7_readFrom_3 rfl rfl (by decide) rfl (fun x2 => ?_)
  refine r_join (fun k5 => ∀ (x3 : Int32) (s4 : fSt), fW Δ Γ 4 (fQ eI Δ Γ) 119 [(2, .int x3)] [] s4 (k5 x3 s4)) ?_ (fun k5 hk5 => ?_)
  · intro x3 s4
    refine r_iload_n (q := 120) (i := 2) (z := 0) C dX7_readFrom_119 rfl rfl rfl ?_
    exact r_zret C dX7_readFrom_120
  refine r_locs (lc' := [(0, .ref (fad Δ 7 i0 0)), (1, .ref (fad Δ 5 0 0)), (2, .int x1), (3, .int x2)]) [2, 3, 1, 0] rfl ?_
  have L4 : ∀ (n9 : Nat) (x6 : Int32) (x7 : Int32) (s8 : fSt), fW Δ Γ 4 (fQ eI Δ Γ) 4 [(0, .ref (fad Δ 7 i0 0)), (1, .ref (fad Δ 5 0 0)), (2, .int x6), (3, .int x7)] [] s8 (f_X7_readFrom_L4 i0 k5 n9 x6 x7 s8) := by
    intro n9
    induction n9 with
    | zero =>
      intro x6 x7 s8
      rw [f_X7_readFrom_L4]
      exact r_none
    | succ n9 ih_n9 =>
      intro x6 x7 s8
      rw [f_X7_readFrom_L4]
      refine r_iload_n (q := 5) (i := 3) (z := 3) C dX7_readFrom_4 rfl rfl rfl ?_
      refine r_sipush (q := 8) (v := 900) C dX7_readFrom_5 rfl (by decide) ?_
      refine r_icmp_ge (q := 11) (tgt := 119) C dX7_readFrom_8 (by decide) rfl ?_ ?_
      · refine r_locs (lc' := [(2, .int x6)]) [2] rfl ?_
        exact hk5 x6 s8
      · refine r_iload_n (q := 12) (i := 2) (z := 2) C dX7_readFrom_11 rfl rfl rfl ?_
        refine r_if_eq (q := 15) (tgt := 119) C dX7_readFrom_12 (by decide) rfl ?_ ?_
        · refine r_locs (lc' := [(2, .int x6)]) [2] rfl ?_
          exact hk5 x6 s8
        · refine r_aload_n (q := 16) (i := 1) (z := 1) C dX7_readFrom_15 rfl rfl rfl ?_
          refine g_X7_55 (q := 19) C (nk_5_0 hN) dX7_readFrom_16 rfl ?_
          refine r_bipush (q := 21) (v := 35) C dX7_readFrom_19 rfl (by decide) ?_
          refine r_icmp_eq (q := 24) (tgt := 119) C dX7_readFrom_21 (by decide) rfl ?_ ?_
          · refine r_locs (lc' := [(2, .int x6)]) [2] rfl ?_
            exact hk5 x6 s8
          · refine r_aload_n (q := 25) (i := 1) (z := 1) C dX7_readFrom_24 rfl rfl rfl ?_
            refine g_X7_55 (q := 28) C (nk_5_0 hN) dX7_readFrom_25 rfl ?_
            refine r_join (fun j12 => ∀ (x10 : Int32) (s11 : fSt), fW Δ Γ 4 (fQ eI Δ Γ) 113 [(0, .ref (fad Δ 7 i0 0)), (1, .ref (fad Δ 5 0 0)), (2, .int x10), (3, .int x7)] [] s11 (j12 x10 s11)) ?_ (fun j12 hj12 => ?_)
            · intro x10 s11
              refine r_iinc (q := 116) (z := 3) (d := 1) [(0, .ref (fad Δ 7 i0 0)), (1, .ref (fad Δ 5 0 0)), (2, .int x10)] C dX7_readFrom_113 rfl rfl (by decide) (by decide) rfl (fun x13 => ?_)
              refine r_goto (q := 4) C dX7_readFrom_116 (by decide) ?_
              refine r_locs (lc' := [(0, .ref (fad Δ 7 i0 0)), (1, .ref (fad Δ 5 0 0)), (2, .int x10), (3, .int x13)]) [1, 2, 3, 0] rfl ?_
              exact ih_n9 x10 x13 s11
            refine r_bif (fun hs14 => ?_) (fun hs14 => ?_)
            · refine r_lsw (tgt := 72) (off := 44) C dX7_readFrom_28 (by decide) (by rw [hs14]; decide) (by decide) ?_
              refine r_aload_n (q := 73) (i := 0) (z := 0) C dX7_readFrom_72 rfl rfl rfl ?_
              refine r_aload_n (q := 74) (i := 1) (z := 1) C dX7_readFrom_73 rfl rfl rfl ?_
              refine r_callVI (q := 77) (As := [.ref (fad Δ 5 0 0)]) wm_X7_61 yvX7_readRole (c_X7_readRole Δ hN i0 hi0 s8) ⟨rfl, by decide⟩ C hi0 (by decide) rfl (Nat.le_of_ble_eq_true rfl) dX7_readFrom_74 rfl (fun x15 s16 => ?_)
              refine r_istore_n (q := 78) (i := 2) [(0, .ref (fad Δ 7 i0 0)), (1, .ref (fad Δ 5 0 0)), (3, .int x7)] C dX7_readFrom_77 rfl rfl (by decide) rfl (fun x17 => ?_)
              refine r_goto (q := 113) C dX7_readFrom_78 (by decide) ?_
              refine r_locs (lc' := [(0, .ref (fad Δ 7 i0 0)), (1, .ref (fad Δ 5 0 0)), (2, .int x17), (3, .int x7)]) [1, 2, 0, 3] rfl ?_
              exact hj12 x17 s16
            refine r_bif (fun hs18 => ?_) (fun hs18 => ?_)
            · refine r_lsw (tgt := 81) (off := 53) C dX7_readFrom_28 (by decide) (by rw [hs18]; decide) (by decide) ?_
              refine r_aload_n (q := 82) (i := 0) (z := 0) C dX7_readFrom_81 rfl rfl rfl ?_
              refine r_aload_n (q := 83) (i := 1) (z := 1) C dX7_readFrom_82 rfl rfl rfl ?_
              refine r_callVI (q := 86) (As := [.ref (fad Δ 5 0 0)]) wm_X7_65 yvX7_readActor (c_X7_readActor Δ hN i0 hi0 s8) ⟨rfl, by decide⟩ C hi0 (by decide) rfl (Nat.le_of_ble_eq_true rfl) dX7_readFrom_83 rfl (fun x19 s20 => ?_)
              refine r_istore_n (q := 87) (i := 2) [(0, .ref (fad Δ 7 i0 0)), (1, .ref (fad Δ 5 0 0)), (3, .int x7)] C dX7_readFrom_86 rfl rfl (by decide) rfl (fun x21 => ?_)
              refine r_goto (q := 113) C dX7_readFrom_87 (by decide) ?_
              refine r_locs (lc' := [(0, .ref (fad Δ 7 i0 0)), (1, .ref (fad Δ 5 0 0)), (2, .int x21), (3, .int x7)]) [1, 2, 0, 3] rfl ?_
              exact hj12 x21 s20
            refine r_bif (fun hs22 => ?_) (fun hs22 => ?_)
            · refine r_lsw (tgt := 90) (off := 62) C dX7_readFrom_28 (by decide) (by rw [hs22]; decide) (by decide) ?_
              refine r_aload_n (q := 91) (i := 0) (z := 0) C dX7_readFrom_90 rfl rfl rfl ?_
              refine r_aload_n (q := 92) (i := 1) (z := 1) C dX7_readFrom_91 rfl rfl rfl ?_
              refine r_callVI (q := 95) (As := [.ref (fad Δ 5 0 0)]) wm_X7_68 yvX7_readScene (c_X7_readScene Δ hN i0 hi0 s8) ⟨rfl, by decide⟩ C hi0 (by decide) rfl (Nat.le_of_ble_eq_true rfl) dX7_readFrom_92 rfl (fun x23 s24 => ?_)
              refine r_istore_n (q := 96) (i := 2) [(0, .ref (fad Δ 7 i0 0)), (1, .ref (fad Δ 5 0 0)), (3, .int x7)] C dX7_readFrom_95 rfl rfl (by decide) rfl (fun x25 => ?_)
              refine r_goto (q := 113) C dX7_readFrom_96 (by decide) ?_
              refine r_locs (lc' := [(0, .ref (fad Δ 7 i0 0)), (1, .ref (fad Δ 5 0 0)), (2, .int x25), (3, .int x7)]) [1, 2, 0, 3] rfl ?_
              exact hj12 x25 s24
            refine r_bif (fun hs26 => ?_) (fun hs26 => ?_)
            · refine r_lsw (tgt := 99) (off := 71) C dX7_readFrom_28 (by decide) (by rw [hs26]; decide) (by decide) ?_
              refine r_aload_n (q := 100) (i := 0) (z := 0) C dX7_readFrom_99 rfl rfl rfl ?_
              refine r_aload_n (q := 101) (i := 1) (z := 1) C dX7_readFrom_100 rfl rfl rfl ?_
              refine r_callVI (q := 104) (As := [.ref (fad Δ 5 0 0)]) wm_X7_71 yvX7_readKind (c_X7_readKind Δ hN i0 hi0 s8) ⟨rfl, by decide⟩ C hi0 (by decide) rfl (Nat.le_of_ble_eq_true rfl) dX7_readFrom_101 rfl (fun x27 s28 => ?_)
              refine r_istore_n (q := 105) (i := 2) [(0, .ref (fad Δ 7 i0 0)), (1, .ref (fad Δ 5 0 0)), (3, .int x7)] C dX7_readFrom_104 rfl rfl (by decide) rfl (fun x29 => ?_)
              refine r_goto (q := 113) C dX7_readFrom_105 (by decide) ?_
              refine r_locs (lc' := [(0, .ref (fad Δ 7 i0 0)), (1, .ref (fad Δ 5 0 0)), (2, .int x29), (3, .int x7)]) [1, 2, 0, 3] rfl ?_
              exact hj12 x29 s28
            refine r_lsw (tgt := 108) (off := 80) C dX7_readFrom_28 (by decide) (by have ehs14 := fNe hs14 0 (by decide); have ehs18 := fNe hs18 1 (by decide); have ehs22 := fNe hs22 5 (by decide); have ehs26 := fNe hs26 14 (by decide); simp only [Op.lookupswitch.offset]; repeat rw [if_neg (by omega)]) (by decide) ?_
            refine r_aload_n (q := 109) (i := 1) (z := 1) C dX7_readFrom_108 rfl rfl rfl ?_
            refine r_callVI (q := 112) (As := []) wm_X7_74 yvX5_failHere (c_X5_failHere Δ hN s8) ⟨rfl, by decide⟩ C (nk_5_0 hN) (by decide) rfl (Nat.le_of_ble_eq_true rfl) dX7_readFrom_109 rfl (fun x30 s31 => ?_)
            refine r_istore_n (q := 113) (i := 2) [(0, .ref (fad Δ 7 i0 0)), (1, .ref (fad Δ 5 0 0)), (3, .int x7)] C dX7_readFrom_112 rfl rfl (by decide) rfl (fun x32 => ?_)
            refine r_locs (lc' := [(0, .ref (fad Δ 7 i0 0)), (1, .ref (fad Δ 5 0 0)), (2, .int x32), (3, .int x7)]) [1, 2, 0, 3] rfl ?_
            exact hj12 x32 s31
  exact L4 fF x1 x2 st

noncomputable def f_X7_ofScene (i0 : Nat) (a1 : Int32) (a2 : Int32) (st : fSt) : Option (Int32 × fSt) :=
  if a2 = (0 : Int32) then
    (fIx a1 12 <|
    some (gA st 7 i0 8 a1.toNatClampNeg, st))
  else
  if a2 = (1 : Int32) then
    (fIx a1 12 <|
    some (gA st 7 i0 9 a1.toNatClampNeg, st))
  else
  if a2 = (2 : Int32) then
    (fIx a1 12 <|
    some (gA st 7 i0 10 a1.toNatClampNeg, st))
  else
  if a2 = (7 : Int32) then
    (fIx a1 12 <|
    some (gA st 7 i0 12 a1.toNatClampNeg, st))
  else
  if a2 = (8 : Int32) then
    (fBd (f_X7_breathsOfScene i0 a1 st) fun x6 s7 =>
    some (x6, s7))
  else
  fBd (f_X11_isIn a2 ((3 : Int32)) ((6 : Int32)) st) fun x8 s9 =>
  fJn (fun (x10 : Int32) (s11 : fSt) =>
    (some (x10, s11))) fun (j12 : Int32 → fSt → Option (Int32 × fSt)) =>
  if x8 = 0 then
    (j12 ((-1 : Int32)) s9)
  else
    (fIx (((a1 * ((4 : Int32))) + a2) - ((3 : Int32))) 48 <|
    j12 (gA s9 7 i0 11 (((a1 * ((4 : Int32))) + a2) - ((3 : Int32))).toNatClampNeg) s9)

set_option maxHeartbeats 4000000 in
set_option maxRecDepth 100000 in
theorem c_X7_ofScene (Δ : fDl) (hN : fNx Δ) (i0 : Nat) (a1 : Int32) (a2 : Int32) (hi0 : i0 < fN Δ 7)  (st : fSt) : fMt eI Δ yX7_ofScene cX7_ofScene 3 (some .int) 3 [.ref (fad Δ 7 i0 0), .int a1, .int a2] st (f_X7_ofScene i0 a1 a2 st) := by
  unfold f_X7_ofScene
  refine r_method (by decide +kernel) (Nat.le_of_ble_eq_true rfl) (fun Γ C => ?_)
  have C : fC Δ Γ cX7_ofScene RX7 3 (some .int) 3 := C
  refine r_locs (lc' := [(0, .ref (fad Δ 7 i0 0)), (1, .int a1), (2, .int a2)]) [0, 1, 2] rfl ?_
  refine r_iload_n (q := 1) (i := 2) (z := 2) C dX7_ofScene_0 rfl rfl rfl ?_
  refine r_bif (fun hs1 => ?_) (fun hs1 => ?_)
  · refine r_tsHit (tgt := 52) (n := 0) C dX7_ofScene_1 hs1 (by decide) (by decide) (by decide) rfl (by decide) ?_
    refine r_aload_n (q := 53) (i := 0) (z := 0) C dX7_ofScene_52 rfl rfl rfl ?_
    refine g_X7_34 (q := 56) C hi0 dX7_ofScene_53 rfl ?_
    refine r_iload_n (q := 57) (i := 1) (z := 1) C dX7_ofScene_56 rfl rfl rfl ?_
    refine r_ial (q := 58) q_7_8 h_7_8 C hi0 dX7_ofScene_57 rfl ?_
    exact r_iret C dX7_ofScene_58
  refine r_bif (fun hs2 => ?_) (fun hs2 => ?_)
  · refine r_tsHit (tgt := 59) (n := 1) C dX7_ofScene_1 hs2 (by decide) (by decide) (by decide) rfl (by decide) ?_
    refine r_aload_n (q := 60) (i := 0) (z := 0) C dX7_ofScene_59 rfl rfl rfl ?_
    refine g_X7_37 (q := 63) C hi0 dX7_ofScene_60 rfl ?_
    refine r_iload_n (q := 64) (i := 1) (z := 1) C dX7_ofScene_63 rfl rfl rfl ?_
    refine r_ial (q := 65) q_7_9 h_7_9 C hi0 dX7_ofScene_64 rfl ?_
    exact r_iret C dX7_ofScene_65
  refine r_bif (fun hs3 => ?_) (fun hs3 => ?_)
  · refine r_tsHit (tgt := 66) (n := 2) C dX7_ofScene_1 hs3 (by decide) (by decide) (by decide) rfl (by decide) ?_
    refine r_aload_n (q := 67) (i := 0) (z := 0) C dX7_ofScene_66 rfl rfl rfl ?_
    refine g_X7_40 (q := 70) C hi0 dX7_ofScene_67 rfl ?_
    refine r_iload_n (q := 71) (i := 1) (z := 1) C dX7_ofScene_70 rfl rfl rfl ?_
    refine r_ial (q := 72) q_7_10 h_7_10 C hi0 dX7_ofScene_71 rfl ?_
    exact r_iret C dX7_ofScene_72
  refine r_bif (fun hs4 => ?_) (fun hs4 => ?_)
  · refine r_tsHit (tgt := 73) (n := 7) C dX7_ofScene_1 hs4 (by decide) (by decide) (by decide) rfl (by decide) ?_
    refine r_aload_n (q := 74) (i := 0) (z := 0) C dX7_ofScene_73 rfl rfl rfl ?_
    refine g_X7_46 (q := 77) C hi0 dX7_ofScene_74 rfl ?_
    refine r_iload_n (q := 78) (i := 1) (z := 1) C dX7_ofScene_77 rfl rfl rfl ?_
    refine r_ial (q := 79) q_7_12 h_7_12 C hi0 dX7_ofScene_78 rfl ?_
    exact r_iret C dX7_ofScene_79
  refine r_bif (fun hs5 => ?_) (fun hs5 => ?_)
  · refine r_tsHit (tgt := 80) (n := 8) C dX7_ofScene_1 hs5 (by decide) (by decide) (by decide) rfl (by decide) ?_
    refine r_aload_n (q := 81) (i := 0) (z := 0) C dX7_ofScene_80 rfl rfl rfl ?_
    refine r_iload_n (q := 82) (i := 1) (z := 1) C dX7_ofScene_81 rfl rfl rfl ?_
    refine r_callVI (q := 85) (As := [.int a1]) wm_X7_141 yvX7_breathsOfScene (c_X7_breathsOfScene Δ hN i0 a1 hi0 st) ⟨rfl, by decide⟩ C hi0 (by decide) rfl (Nat.le_of_ble_eq_true rfl) dX7_ofScene_82 rfl (fun x6 s7 => ?_)
    exact r_iret C dX7_ofScene_85
  refine r_tsHole (tgt := 86) C dX7_ofScene_1 (by decide) (fun off o1 o2 ho => by have ehs1 := fNe hs1 0 (by decide); have ehs2 := fNe hs2 1 (by decide); have ehs3 := fNe hs3 2 (by decide); have ehs4 := fNe hs4 7 (by decide); have ehs5 := fNe hs5 8 (by decide); have oo : (a2).toInt = 3 ∨ (a2).toInt = 4 ∨ (a2).toInt = 5 ∨ (a2).toInt = 6 := (by omega); rcases oo with qq | qq | qq | qq <;> (rw [qq] at ho; simp at ho; omega)) (by decide) ?_
  refine r_iload_n (q := 87) (i := 2) (z := 2) C dX7_ofScene_86 rfl rfl rfl ?_
  refine r_iconst (q := 88) (v := 3) C dX7_ofScene_87 rfl (by decide) ?_
  refine r_bipush (q := 90) (v := 6) C dX7_ofScene_88 rfl (by decide) ?_
  refine r_callSNI (q := 93) (As := [.int a2, .int ((3 : Int32)), .int ((6 : Int32))]) wn_X7_145 ysX11_isIn (c_X11_isIn Δ hN a2 ((3 : Int32)) ((6 : Int32)) st) C (by decide) rfl (Nat.le_of_ble_eq_true rfl) dX7_ofScene_90 rfl (fun x8 s9 => ?_)
  refine r_join (fun j12 => ∀ (x10 : Int32) (s11 : fSt), fW Δ Γ 3 (fQ eI Δ Γ) 112 [] [.int x10] s11 (j12 x10 s11)) ?_ (fun j12 hj12 => ?_)
  · intro x10 s11
    exact r_iret C dX7_ofScene_112
  refine r_if_eq (q := 96) (tgt := 111) C dX7_ofScene_93 (by decide) rfl ?_ ?_
  · refine r_iconst (q := 112) (v := (-1)) C dX7_ofScene_111 rfl (by decide) ?_
    refine r_locs (lc' := []) [] rfl ?_
    exact hj12 ((-1 : Int32)) s9
  · refine r_aload_n (q := 97) (i := 0) (z := 0) C dX7_ofScene_96 rfl rfl rfl ?_
    refine g_X7_43 (q := 100) C hi0 dX7_ofScene_97 rfl ?_
    refine r_iload_n (q := 101) (i := 1) (z := 1) C dX7_ofScene_100 rfl rfl rfl ?_
    refine r_iconst (q := 102) (v := 4) C dX7_ofScene_101 rfl (by decide) ?_
    refine r_imul (q := 103) C dX7_ofScene_102 rfl ?_
    refine r_iload_n (q := 104) (i := 2) (z := 2) C dX7_ofScene_103 rfl rfl rfl ?_
    refine r_iadd (q := 105) C dX7_ofScene_104 rfl ?_
    refine r_iconst (q := 106) (v := 3) C dX7_ofScene_105 rfl (by decide) ?_
    refine r_isub (q := 107) C dX7_ofScene_106 rfl ?_
    refine r_ial (q := 108) q_7_11 h_7_11 C hi0 dX7_ofScene_107 rfl ?_
    refine r_goto (q := 112) C dX7_ofScene_108 (by decide) ?_
    refine r_locs (lc' := []) [] rfl ?_
    exact hj12 (gA s9 7 i0 11 (((a1 * ((4 : Int32))) + a2) - ((3 : Int32))).toNatClampNeg) s9

noncomputable def f_X7_allScenes (i0 : Nat) (st : fSt) : Option (Int32 × fSt) :=
  some ((((1 : Int32)) <<< ((gI st 7 i0 2) &&& 31)) - ((1 : Int32)), st)

set_option maxHeartbeats 4000000 in
set_option maxRecDepth 100000 in
theorem c_X7_allScenes (Δ : fDl) (hN : fNx Δ) (i0 : Nat) (hi0 : i0 < fN Δ 7)  (st : fSt) : fMt eI Δ yX7_allScenes cX7_allScenes 1 (some .int) 1 [.ref (fad Δ 7 i0 0)] st (f_X7_allScenes i0 st) := by
  unfold f_X7_allScenes
  refine r_method (by decide +kernel) (Nat.le_of_ble_eq_true rfl) (fun Γ C => ?_)
  have C : fC Δ Γ cX7_allScenes RX7 1 (some .int) 1 := C
  refine r_locs (lc' := [(0, .ref (fad Δ 7 i0 0))]) [0] rfl ?_
  refine r_iconst (q := 1) (v := 1) C dX7_allScenes_0 rfl (by decide) ?_
  refine r_aload_n (q := 2) (i := 0) (z := 0) C dX7_allScenes_1 rfl rfl rfl ?_
  refine g_X7_103 (q := 5) C hi0 dX7_allScenes_2 rfl ?_
  refine r_ishl (q := 6) C dX7_allScenes_5 rfl ?_
  refine r_iconst (q := 7) (v := 1) C dX7_allScenes_6 rfl (by decide) ?_
  refine r_isub (q := 8) C dX7_allScenes_7 rfl ?_
  exact r_iret C dX7_allScenes_8
