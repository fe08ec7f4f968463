noncomputable def f_X11_steer (a1 : Int32) (st : fSt) : Option (Int32 × fSt) :=
  fBd (f_X11_isIn a1 ((0 : Int32)) ((9 : Int32)) st) fun x1 s2 =>
  if ¬ x1 = 0 then
    (fBd (f_X6_findAll 0 s2) fun _ s3 =>
    fNn (gP s3 2 0 0) fun y4 =>
    fBd (f_X6_shortestTo y4 a1 s3) fun x5 s6 =>
    fLt x5 fun (x7 : Int32) =>
    if ¬ x7 = 0 then
      (fBd (f_X6_steerTo 0 a1 x7 s6) fun _ s8 =>
      fLt (sI s8 11 0 17 x7) fun s9 =>
      fBd (f_X11_answer x7 s9) fun x10 s11 =>
      some (x10, s11))
    else
      (fBd (f_X11_fail ((8 : Int32)) s6) fun x12 s13 =>
      some (x12, s13)))
  else
    (fBd (f_X11_fail ((5 : Int32)) s2) fun x14 s15 =>
    some (x14, s15))

set_option maxHeartbeats 4000000 in
set_option maxRecDepth 100000 in
theorem c_X11_steer (Δ : fDl) (hN : fNx Δ) (a1 : Int32)  (st : fSt) : fMt eI Δ yX11_steer cX11_steer 3 (some .int) 6 [.ref (fad Δ 11 0 0), .int a1] st (f_X11_steer a1 st) := by
  unfold f_X11_steer
  refine r_method (by decide +kernel) (Nat.le_of_ble_eq_true rfl) (fun Γ C => ?_)
  have C : fC Δ Γ cX11_steer RX11 3 (some .int) 6 := C
  refine r_locs (lc' := [(0, .ref (fad Δ 11 0 0)), (1, .int a1)]) [0, 1] rfl ?_
  refine r_iload_n (q := 1) (i := 1) (z := 1) C dX11_steer_0 rfl rfl rfl ?_
  refine r_iconst (q := 2) (v := 0) C dX11_steer_1 rfl (by decide) ?_
  refine r_bipush (q := 4) (v := 9) C dX11_steer_2 rfl (by decide) ?_
  refine r_callSI (q := 7) (As := [.int a1, .int ((0 : Int32)), .int ((9 : Int32))]) wm_X11_127 ysX11_isIn (c_X11_isIn Δ hN a1 ((0 : Int32)) ((9 : Int32)) st) C (by decide) rfl (Nat.le_of_ble_eq_true rfl) dX11_steer_4 rfl (fun x1 s2 => ?_)
  refine r_if_ne (q := 10) (tgt := 16) C dX11_steer_7 (by decide) rfl ?_ ?_
  · refine r_aload_n (q := 17) (i := 0) (z := 0) C dX11_steer_16 rfl rfl rfl ?_
    refine g_X11_66 (q := 20) C (nk_11_0 hN) dX11_steer_17 rfl ?_
    refine r_aload_n (q := 21) (i := 0) (z := 0) C dX11_steer_20 rfl rfl rfl ?_
    refine g_X11_41 (q := 24) C (nk_11_0 hN) dX11_steer_21 rfl ?_
    refine r_callVV (q := 27) (As := [.ref (fad Δ 2 0 0)]) wm_X11_350 yvX6_findAll (c_X6_findAll Δ hN 0 (nk_2_0 hN) s2) ⟨rfl, by decide⟩ C (nk_6_0 hN) (by decide) rfl (Nat.le_of_ble_eq_true rfl) dX11_steer_24 rfl (fun _ s3 => ?_)
    refine r_aload_n (q := 28) (i := 0) (z := 0) C dX11_steer_27 rfl rfl rfl ?_
    refine g_X11_66 (q := 31) C (nk_11_0 hN) dX11_steer_28 rfl ?_
    refine r_aload_n (q := 32) (i := 0) (z := 0) C dX11_steer_31 rfl rfl rfl ?_
    refine g_X11_41 (q := 35) C (nk_11_0 hN) dX11_steer_32 rfl ?_
    refine g_X11_92 (q := 38) C (nk_2_0 hN) dX11_steer_35 rfl ?_
    refine r_deref C (fun h => (h _ (nk_2_0 hN)).1) (fun y4 hy4 => ?_)
    refine r_iload_n (q := 39) (i := 1) (z := 1) C dX11_steer_38 rfl rfl rfl ?_
    refine r_callVI (q := 42) (As := [.ref (fad Δ 7 y4 0), .int a1]) wm_X11_373 yvX6_shortestTo (c_X6_shortestTo Δ hN y4 a1 hy4 s3) ⟨rfl, by decide⟩ C (nk_6_0 hN) (by decide) rfl (Nat.le_of_ble_eq_true rfl) dX11_steer_39 rfl (fun x5 s6 => ?_)
    refine r_istore_n (q := 43) (i := 2) [(0, .ref (fad Δ 11 0 0)), (1, .int a1)] C dX11_steer_42 rfl rfl (by decide) rfl (fun x7 => ?_)
    refine r_iload_n (q := 44) (i := 2) (z := 0) C dX11_steer_43 rfl rfl rfl ?_
    refine r_if_ne (q := 47) (tgt := 54) C dX11_steer_44 (by decide) rfl ?_ ?_
    · refine r_aload_n (q := 55) (i := 0) (z := 1) C dX11_steer_54 rfl rfl rfl ?_
      refine g_X11_66 (q := 58) C (nk_11_0 hN) dX11_steer_55 rfl ?_
      refine r_aload_n (q := 59) (i := 0) (z := 1) C dX11_steer_58 rfl rfl rfl ?_
      refine g_X11_41 (q := 62) C (nk_11_0 hN) dX11_steer_59 rfl ?_
      refine r_iload_n (q := 63) (i := 1) (z := 2) C dX11_steer_62 rfl rfl rfl ?_
      refine r_iload_n (q := 64) (i := 2) (z := 0) C dX11_steer_63 rfl rfl rfl ?_
      refine r_aload_n (q := 65) (i := 0) (z := 1) C dX11_steer_64 rfl rfl rfl ?_
      refine g_X11_87 (q := 68) C (nk_11_0 hN) dX11_steer_65 rfl ?_
      refine r_callVV (q := 71) (As := [.ref (fad Δ 2 0 0), .int a1, .int x7, .ref (fad Δ 11 0 3)]) wm_X11_376 yvX6_steerTo (c_X6_steerTo Δ hN 0 a1 x7 (nk_2_0 hN) s6) ⟨rfl, by decide⟩ C (nk_6_0 hN) (by decide) rfl (Nat.le_of_ble_eq_true rfl) dX11_steer_68 rfl (fun _ s8 => ?_)
      refine r_aload_n (q := 72) (i := 0) (z := 1) C dX11_steer_71 rfl rfl rfl ?_
      refine r_iload_n (q := 73) (i := 2) (z := 0) C dX11_steer_72 rfl rfl rfl ?_
      refine p_X11_380 (q := 76) C (nk_11_0 hN) dX11_steer_73 rfl (fun s9 => ?_)
      refine r_aload_n (q := 77) (i := 0) (z := 1) C dX11_steer_76 rfl rfl rfl ?_
      refine r_iload_n (q := 78) (i := 2) (z := 0) C dX11_steer_77 rfl rfl rfl ?_
      refine r_callVI (q := 81) (As := [.int x7]) wm_X11_190 yvX11_answer (c_X11_answer Δ hN x7 s9) ⟨rfl, by decide⟩ C (nk_11_0 hN) (by decide) rfl (Nat.le_of_ble_eq_true rfl) dX11_steer_78 rfl (fun x10 s11 => ?_)
      exact r_iret C dX11_steer_81
    · refine r_aload_n (q := 48) (i := 0) (z := 1) C dX11_steer_47 rfl rfl rfl ?_
      refine r_bipush (q := 50) (v := 8) C dX11_steer_48 rfl (by decide) ?_
      refine r_callVI (q := 53) (As := [.int ((8 : Int32))]) wm_X11_143 yvX11_fail (c_X11_fail Δ hN ((8 : Int32)) s6) ⟨rfl, by decide⟩ C (nk_11_0 hN) (by decide) rfl (Nat.le_of_ble_eq_true rfl) dX11_steer_50 rfl (fun x12 s13 => ?_)
      exact r_iret C dX11_steer_53
  · refine r_aload_n (q := 11) (i := 0) (z := 0) C dX11_steer_10 rfl rfl rfl ?_
    refine r_iconst (q := 12) (v := 5) C dX11_steer_11 rfl (by decide) ?_
    refine r_callVI (q := 15) (As := [.int ((5 : Int32))]) wm_X11_143 yvX11_fail (c_X11_fail Δ hN ((5 : Int32)) s2) ⟨rfl, by decide⟩ C (nk_11_0 hN) (by decide) rfl (Nat.le_of_ble_eq_true rfl) dX11_steer_12 rfl (fun x14 s15 => ?_)
    exact r_iret C dX11_steer_15

noncomputable def f_X11_steerAt (a1 : Int32) (st : fSt) : Option (Int32 × fSt) :=
  fBd (f_X11_isBelow a1 (gI st 11 0 17) st) fun x1 s2 =>
  fJn (fun (x3 : Int32) (s4 : fSt) =>
    (some (x3, s4))) fun (j5 : Int32 → fSt → Option (Int32 × fSt)) =>
  fJn (fun (s6 : fSt) =>
    (fBd (f_X11_fail ((8 : Int32)) s6) fun x8 s9 =>
    j5 x8 s9)) fun (j7 : fSt → Option (Int32 × fSt)) =>
  if x1 = 0 then
    (j7 s2)
  else
    (if ((12 : Int32)) ≤ a1 then
      (j7 s2)
    else
      (fIx a1 12 <|
      fBd (f_X11_answer (gA s2 11 0 3 a1.toNatClampNeg) s2) fun x10 s11 =>
      j5 x10 s11))

set_option maxHeartbeats 4000000 in
set_option maxRecDepth 100000 in
theorem c_X11_steerAt (Δ : fDl) (hN : fNx Δ) (a1 : Int32)  (st : fSt) : fMt eI Δ yX11_steerAt cX11_steerAt 2 (some .int) 2 [.ref (fad Δ 11 0 0), .int a1] st (f_X11_steerAt a1 st) := by
  unfold f_X11_steerAt
  refine r_method (by decide +kernel) (Nat.le_of_ble_eq_true rfl) (fun Γ C => ?_)
  have C : fC Δ Γ cX11_steerAt RX11 2 (some .int) 2 := C
  refine r_locs (lc' := [(0, .ref (fad Δ 11 0 0)), (1, .int a1)]) [0, 1] rfl ?_
  refine r_iload_n (q := 1) (i := 1) (z := 1) C dX11_steerAt_0 rfl rfl rfl ?_
  refine r_aload_n (q := 2) (i := 0) (z := 0) C dX11_steerAt_1 rfl rfl rfl ?_
  refine g_X11_380 (q := 5) C (nk_11_0 hN) dX11_steerAt_2 rfl ?_
  refine r_callSI (q := 8) (As := [.int a1, .int (gI st 11 0 17)]) wm_X11_117 ysX11_isBelow (c_X11_isBelow Δ hN a1 (gI st 11 0 17) st) C (by decide) rfl (Nat.le_of_ble_eq_true rfl) dX11_steerAt_5 rfl (fun x1 s2 => ?_)
  refine r_join (fun j5 => ∀ (x3 : Int32) (s4 : fSt), fW Δ Γ 2 (fQ eI Δ Γ) 36 [] [.int x3] s4 (j5 x3 s4)) ?_ (fun j5 hj5 => ?_)
  · intro x3 s4
    exact r_iret C dX11_steerAt_36
  refine r_join (fun j7 => ∀  (s6 : fSt), fW Δ Γ 2 (fQ eI Δ Γ) 30 [(0, .ref (fad Δ 11 0 0))] [] s6 (j7 s6)) ?_ (fun j7 hj7 => ?_)
  · intro s6
    refine r_aload_n (q := 31) (i := 0) (z := 0) C dX11_steerAt_30 rfl rfl rfl ?_
    refine r_bipush (q := 33) (v := 8) C dX11_steerAt_31 rfl (by decide) ?_
    refine r_callVI (q := 36) (As := [.int ((8 : Int32))]) wm_X11_143 yvX11_fail (c_X11_fail Δ hN ((8 : Int32)) s6) ⟨rfl, by decide⟩ C (nk_11_0 hN) (by decide) rfl (Nat.le_of_ble_eq_true rfl) dX11_steerAt_33 rfl (fun x8 s9 => ?_)
    refine r_locs (lc' := []) [] rfl ?_
    exact hj5 x8 s9
  refine r_if_eq (q := 11) (tgt := 30) C dX11_steerAt_8 (by decide) rfl ?_ ?_
  · refine r_locs (lc' := [(0, .ref (fad Δ 11 0 0))]) [0] rfl ?_
    exact hj7 s2
  · refine r_iload_n (q := 12) (i := 1) (z := 1) C dX11_steerAt_11 rfl rfl rfl ?_
    refine r_bipush (q := 14) (v := 12) C dX11_steerAt_12 rfl (by decide) ?_
    refine r_icmp_ge (q := 17) (tgt := 30) C dX11_steerAt_14 (by decide) rfl ?_ ?_
    · refine r_locs (lc' := [(0, .ref (fad Δ 11 0 0))]) [0] rfl ?_
      exact hj7 s2
    · refine r_aload_n (q := 18) (i := 0) (z := 0) C dX11_steerAt_17 rfl rfl rfl ?_
      refine r_aload_n (q := 19) (i := 0) (z := 0) C dX11_steerAt_18 rfl rfl rfl ?_
      refine g_X11_87 (q := 22) C (nk_11_0 hN) dX11_steerAt_19 rfl ?_
      refine r_iload_n (q := 23) (i := 1) (z := 1) C dX11_steerAt_22 rfl rfl rfl ?_
      refine r_ial (q := 24) q_11_3 h_11_3 C (nk_11_0 hN) dX11_steerAt_23 rfl ?_
      refine r_callVI (q := 27) (As := [.int (gA s2 11 0 3 a1.toNatClampNeg)]) wm_X11_190 yvX11_answer (c_X11_answer Δ hN (gA s2 11 0 3 a1.toNatClampNeg) s2) ⟨rfl, by decide⟩ C (nk_11_0 hN) (by decide) rfl (Nat.le_of_ble_eq_true rfl) dX11_steerAt_24 rfl (fun x10 s11 => ?_)
      refine r_goto (q := 36) C dX11_steerAt_27 (by decide) ?_
      refine r_locs (lc' := []) [] rfl ?_
      exact hj5 x10 s11

noncomputable def f_X11_death_L63 (a1 : Int32) (x5 : Int64) (k12 : Int64 → Int32 → fSt → Option (Int32 × fSt)) : Nat → Int64 → Int32 → Int32 → fSt → Option (Int32 × fSt)
  | 0, _, _, _, _ => none
  | n23 + 1, x19, x20, x21, s22 =>
      fNn (gP s22 2 0 0) fun y24 =>
        if (gI s22 7 y24 0) ≤ x21 then
          (k12 x19 x20 s22)
        else
          (fBd (f_X4_gather 0 ((-1 : Int32)) ((gI s22 2 0 3) ||| (((1 : Int32)) <<< (x21 &&& 31))) s22) fun _ s25 =>
          fIx a1 10 <|
          fLt (if 0 < ((gB s25 4 0 2 a1.toNatClampNeg) - x5) then ((gB s25 4 0 2 a1.toNatClampNeg) - x5) else -((gB s25 4 0 2 a1.toNatClampNeg) - x5)) fun (x26 : Int64) =>
          fJn (fun (x27 : Int64) (x28 : Int32) (s29 : fSt) =>
            (fLt (x21 + (1 : Int32)) fun (x31 : Int32) =>
            f_X11_death_L63 a1 x5 k12 n23 x27 x28 x31 s29)) fun (j30 : Int64 → Int32 → fSt → Option (Int32 × fSt)) =>
          if (lg_cmp x26 x19) ≤ 0 then
            (j30 x19 x20 s25)
          else
            (fLt x26 fun (x32 : Int64) =>
            fLt x21 fun (x33 : Int32) =>
            j30 x32 x33 s25))

noncomputable def f_X11_death (a1 : Int32) (st : fSt) : Option (Int32 × fSt) :=
  fBd (f_X11_isIn a1 ((0 : Int32)) ((9 : Int32)) st) fun x1 s2 =>
  if ¬ x1 = 0 then
    (fBd (f_X4_gather 0 ((-1 : Int32)) (gI s2 2 0 3) s2) fun _ s3 =>
    fLt (gL s3 4 0 3) fun (x4 : Int64) =>
    fIx a1 10 <|
    fLt (gB s3 4 0 2 a1.toNatClampNeg) fun (x5 : Int64) =>
    fLt ((0 : Int64)) fun (x6 : Int64) =>
    fLt ((-1 : Int32)) fun (x7 : Int32) =>
    fLt ((0 : Int32)) fun (x8 : Int32) =>
    fJn (fun (x9 : Int64) (x10 : Int32) (s11 : fSt) =>
      (if ¬ x10 = ((-1 : Int32)) then
        (fBd (f_X11_tellFraction x9 x4 s11) fun x13 s14 =>
        fBd (f_X11_answer x10 s14) fun x15 s16 =>
        some (x15, s16))
      else
        (fBd (f_X11_fail ((8 : Int32)) s11) fun x17 s18 =>
        some (x17, s18)))) fun (k12 : Int64 → Int32 → fSt → Option (Int32 × fSt)) =>
    f_X11_death_L63 a1 x5 k12 fF x6 x7 x8 s3)
  else
    (fBd (f_X11_fail ((5 : Int32)) s2) fun x34 s35 =>
    some (x34, s35))

set_option maxHeartbeats 4000000 in
set_option maxRecDepth 100000 in
theorem c_X11_death (Δ : fDl) (hN : fNx Δ) (a1 : Int32)  (st : fSt) : fMt eI Δ yX11_death cX11_death 12 (some .int) 6 [.ref (fad Δ 11 0 0), .int a1] st (f_X11_death a1 st) := by
  unfold f_X11_death
  refine r_method (by decide +kernel) (Nat.le_of_ble_eq_true rfl) (fun Γ C => ?_)
  have C : fC Δ Γ cX11_death RX11 12 (some .int) 6 := C
  refine r_locs (lc' := [(0, .ref (fad Δ 11 0 0)), (1, .int a1)]) [0, 1] rfl ?_
  refine r_iload_n (q := 1) (i := 1) (z := 1) C dX11_death_0 rfl rfl rfl ?_
  refine r_iconst (q := 2) (v := 0) C dX11_death_1 rfl (by decide) ?_
  refine r_bipush (q := 4) (v := 9) C dX11_death_2 rfl (by decide) ?_
  refine r_callSI (q := 7) (As := [.int a1, .int ((0 : Int32)), .int ((9 : Int32))]) wm_X11_127 ysX11_isIn (c_X11_isIn Δ hN a1 ((0 : Int32)) ((9 : Int32)) st) C (by decide) rfl (Nat.le_of_ble_eq_true rfl) dX11_death_4 rfl (fun x1 s2 => ?_)
  refine r_if_ne (q := 10) (tgt := 16) C dX11_death_7 (by decide) rfl ?_ ?_
  · refine r_aload_n (q := 17) (i := 0) (z := 0) C dX11_death_16 rfl rfl rfl ?_
    refine g_X11_59 (q := 20) C (nk_11_0 hN) dX11_death_17 rfl ?_
    refine r_aload_n (q := 21) (i := 0) (z := 0) C dX11_death_20 rfl rfl rfl ?_
    refine g_X11_41 (q := 24) C (nk_11_0 hN) dX11_death_21 rfl ?_
    refine r_iconst (q := 25) (v := (-1)) C dX11_death_24 rfl (by decide) ?_
    refine r_aload_n (q := 26) (i := 0) (z := 0) C dX11_death_25 rfl rfl rfl ?_
    refine g_X11_41 (q := 29) C (nk_11_0 hN) dX11_death_26 rfl ?_
    refine g_X11_230 (q := 32) C (nk_2_0 hN) dX11_death_29 rfl ?_
    refine r_callVV (q := 35) (As := [.ref (fad Δ 2 0 0), .int ((-1 : Int32)), .int (gI s2 2 0 3)]) wm_X11_329 yvX4_gather (c_X4_gather Δ hN 0 ((-1 : Int32)) (gI s2 2 0 3) (nk_2_0 hN) s2) ⟨rfl, by decide⟩ C (nk_4_0 hN) (by decide) rfl (Nat.le_of_ble_eq_true rfl) dX11_death_32 rfl (fun _ s3 => ?_)
    refine r_aload_n (q := 36) (i := 0) (z := 0) C dX11_death_35 rfl rfl rfl ?_
    refine g_X11_59 (q := 39) C (nk_11_0 hN) dX11_death_36 rfl ?_
    refine g_X11_336 (q := 42) C (nk_4_0 hN) dX11_death_39 rfl ?_
    refine r_lstore_n (q := 43) (i := 2) [(0, .ref (fad Δ 11 0 0)), (1, .int a1)] C dX11_death_42 rfl rfl (by decide) rfl (fun x4 => ?_)
    refine r_aload_n (q := 44) (i := 0) (z := 1) C dX11_death_43 rfl rfl rfl ?_
    refine g_X11_59 (q := 47) C (nk_11_0 hN) dX11_death_44 rfl ?_
    refine g_X11_333 (q := 50) C (nk_4_0 hN) dX11_death_47 rfl ?_
    refine r_iload_n (q := 51) (i := 1) (z := 2) C dX11_death_50 rfl rfl rfl ?_
    refine r_lal (q := 52) q_4_2 h_4_2 C (nk_4_0 hN) dX11_death_51 rfl ?_
    refine r_lstore (q := 54) (i := 4) [(2, .long x4), (0, .ref (fad Δ 11 0 0)), (1, .int a1)] C dX11_death_52 rfl (by decide) rfl (fun x5 => ?_)
    refine r_lconst (q := 55) (v := 0) C dX11_death_54 rfl (by decide) ?_
    refine r_lstore (q := 57) (i := 6) [(4, .long x5), (2, .long x4), (0, .ref (fad Δ 11 0 0)), (1, .int a1)] C dX11_death_55 rfl (by decide) rfl (fun x6 => ?_)
    refine r_iconst (q := 58) (v := (-1)) C dX11_death_57 rfl (by decide) ?_
    refine r_istore (q := 60) (i := 8) [(6, .long x6), (4, .long x5), (2, .long x4), (0, .ref (fad Δ 11 0 0)), (1, .int a1)] C dX11_death_58 rfl (by decide) rfl (fun x7 => ?_)
    refine r_iconst (q := 61) (v := 0) C dX11_death_60 rfl (by decide) ?_
    refine r_istore (q := 63) (i := 9) [(8, .int x7), (6, .long x6), (4, .long x5), (2, .long x4), (0, .ref (fad Δ 11 0 0)), (1, .int a1)] C dX11_death_61 rfl (by decide) rfl (fun x8 => ?_)
    refine r_join (fun k12 => ∀ (x9 : Int64) (x10 : Int32) (s11 : fSt), fW Δ Γ 12 (fQ eI Δ Γ) 141 [(0, .ref (fad Δ 11 0 0)), (2, .long x4), (6, .long x9), (8, .int x10)] [] s11 (k12 x9 x10 s11)) ?_ (fun k12 hk12 => ?_)
    · intro x9 x10 s11
      refine r_iload (q := 143) (i := 8) (z := 3) C dX11_death_141 rfl rfl ?_
      refine r_iconst (q := 144) (v := (-1)) C dX11_death_143 rfl (by decide) ?_
      refine r_icmp_ne (q := 147) (tgt := 154) C dX11_death_144 (by decide) rfl ?_ ?_
      · refine r_aload_n (q := 155) (i := 0) (z := 0) C dX11_death_154 rfl rfl rfl ?_
        refine r_lload (q := 157) (i := 6) (z := 2) C dX11_death_155 rfl rfl ?_
        refine r_lload_n (q := 158) (i := 2) (z := 1) C dX11_death_157 rfl rfl rfl ?_
        refine r_callVI (q := 161) (As := [.long x9, .long x4]) wm_X11_339 yvX11_tellFraction (c_X11_tellFraction Δ hN x9 x4 s11) ⟨rfl, by decide⟩ C (nk_11_0 hN) (by decide) rfl (Nat.le_of_ble_eq_true rfl) dX11_death_158 rfl (fun x13 s14 => ?_)
        refine r_pop (q := 162) C dX11_death_161 rfl rfl ?_
        refine r_aload_n (q := 163) (i := 0) (z := 0) C dX11_death_162 rfl rfl rfl ?_
        refine r_iload (q := 165) (i := 8) (z := 3) C dX11_death_163 rfl rfl ?_
        refine r_callVI (q := 168) (As := [.int x10]) wm_X11_190 yvX11_answer (c_X11_answer Δ hN x10 s14) ⟨rfl, by decide⟩ C (nk_11_0 hN) (by decide) rfl (Nat.le_of_ble_eq_true rfl) dX11_death_165 rfl (fun x15 s16 => ?_)
        exact r_iret C dX11_death_168
      · refine r_aload_n (q := 148) (i := 0) (z := 0) C dX11_death_147 rfl rfl rfl ?_
        refine r_bipush (q := 150) (v := 8) C dX11_death_148 rfl (by decide) ?_
        refine r_callVI (q := 153) (As := [.int ((8 : Int32))]) wm_X11_143 yvX11_fail (c_X11_fail Δ hN ((8 : Int32)) s11) ⟨rfl, by decide⟩ C (nk_11_0 hN) (by decide) rfl (Nat.le_of_ble_eq_true rfl) dX11_death_150 rfl (fun x17 s18 => ?_)
        exact r_iret C dX11_death_153
    refine r_locs (lc' := [(0, .ref (fad Δ 11 0 0)), (1, .int a1), (2, .long x4), (4, .long x5), (6, .long x6), (8, .int x7), (9, .int x8)]) [5, 6, 4, 3, 2, 1, 0] rfl ?_
    have L63 : ∀ (n23 : Nat) (x19 : Int64) (x20 : Int32) (x21 : Int32) (s22 : fSt), fW Δ Γ 12 (fQ eI Δ Γ) 63 [(0, .ref (fad Δ 11 0 0)), (1, .int a1), (2, .long x4), (4, .long x5), (6, .long x19), (8, .int x20), (9, .int x21)] [] s22 (f_X11_death_L63 a1 x5 k12 n23 x19 x20 x21 s22) := by
      intro n23
      induction n23 with
      | zero =>
        intro x19 x20 x21 s22
        rw [f_X11_death_L63]
        exact r_none
      | succ n23 ih_n23 =>
        intro x19 x20 x21 s22
        rw [f_X11_death_L63]
        refine r_iload (q := 65) (i := 9) (z := 6) C dX11_death_63 rfl rfl ?_
        refine r_aload_n (q := 66) (i := 0) (z := 0) C dX11_death_65 rfl rfl rfl ?_
        refine g_X11_41 (q := 69) C (nk_11_0 hN) dX11_death_66 rfl ?_
        refine g_X11_92 (q := 72) C (nk_2_0 hN) dX11_death_69 rfl ?_
        refine r_deref C (fun h => (h _ (nk_2_0 hN)).1) (fun y24 hy24 => ?_)
        refine g_X11_124 (q := 75) C hy24 dX11_death_72 rfl ?_
        refine r_icmp_ge (q := 78) (tgt := 141) C dX11_death_75 (by decide) rfl ?_ ?_
        · refine r_locs (lc' := [(0, .ref (fad Δ 11 0 0)), (2, .long x4), (6, .long x19), (8, .int x20)]) [0, 2, 4, 5] rfl ?_
          exact hk12 x19 x20 s22
        · refine r_aload_n (q := 79) (i := 0) (z := 0) C dX11_death_78 rfl rfl rfl ?_
          refine g_X11_59 (q := 82) C (nk_11_0 hN) dX11_death_79 rfl ?_
          refine r_aload_n (q := 83) (i := 0) (z := 0) C dX11_death_82 rfl rfl rfl ?_
          refine g_X11_41 (q := 86) C (nk_11_0 hN) dX11_death_83 rfl ?_
          refine r_iconst (q := 87) (v := (-1)) C dX11_death_86 rfl (by decide) ?_
          refine r_aload_n (q := 88) (i := 0) (z := 0) C dX11_death_87 rfl rfl rfl ?_
          refine g_X11_41 (q := 91) C (nk_11_0 hN) dX11_death_88 rfl ?_
          refine g_X11_230 (q := 94) C (nk_2_0 hN) dX11_death_91 rfl ?_
          refine r_iconst (q := 95) (v := 1) C dX11_death_94 rfl (by decide) ?_
          refine r_iload (q := 97) (i := 9) (z := 6) C dX11_death_95 rfl rfl ?_
          refine r_ishl (q := 98) C dX11_death_97 rfl ?_
          refine r_ior (q := 99) C dX11_death_98 rfl ?_
          refine r_callVV (q := 102) (As := [.ref (fad Δ 2 0 0), .int ((-1 : Int32)), .int ((gI s22 2 0 3) ||| (((1 : Int32)) <<< (x21 &&& 31)))]) wm_X11_329 yvX4_gather (c_X4_gather Δ hN 0 ((-1 : Int32)) ((gI s22 2 0 3) ||| (((1 : Int32)) <<< (x21 &&& 31))) (nk_2_0 hN) s22) ⟨rfl, by decide⟩ C (nk_4_0 hN) (by decide) rfl (Nat.le_of_ble_eq_true rfl) dX11_death_99 rfl (fun _ s25 => ?_)
          refine r_aload_n (q := 103) (i := 0) (z := 0) C dX11_death_102 rfl rfl rfl ?_
          refine g_X11_59 (q := 106) C (nk_11_0 hN) dX11_death_103 rfl ?_
          refine g_X11_333 (q := 109) C (nk_4_0 hN) dX11_death_106 rfl ?_
          refine r_iload_n (q := 110) (i := 1) (z := 1) C dX11_death_109 rfl rfl rfl ?_
          refine r_lal (q := 111) q_4_2 h_4_2 C (nk_4_0 hN) dX11_death_110 rfl ?_
          refine r_lload (q := 113) (i := 4) (z := 3) C dX11_death_111 rfl rfl ?_
          refine r_lsub (q := 114) C dX11_death_113 rfl ?_
          refine r_labs (q := 117) wk_X11_383 mw_labs.1 mw_labs.2.1 mw_labs.2.2 C (by decide) (Nat.le_of_ble_eq_true rfl) dX11_death_114 rfl ?_
          refine r_lstore (q := 119) (i := 10) [(0, .ref (fad Δ 11 0 0)), (1, .int a1), (2, .long x4), (4, .long x5), (6, .long x19), (8, .int x20), (9, .int x21)] C dX11_death_117 rfl (by decide) rfl (fun x26 => ?_)
          refine r_lload (q := 121) (i := 10) (z := 0) C dX11_death_119 rfl rfl ?_
          refine r_lload (q := 123) (i := 6) (z := 5) C dX11_death_121 rfl rfl ?_
          refine r_lcmp (q := 124) C dX11_death_123 rfl ?_
          refine r_join (fun j30 => ∀ (x27 : Int64) (x28 : Int32) (s29 : fSt), fW Δ Γ 12 (fQ eI Δ Γ) 135 [(0, .ref (fad Δ 11 0 0)), (1, .int a1), (2, .long x4), (4, .long x5), (6, .long x27), (8, .int x28), (9, .int x21)] [] s29 (j30 x27 x28 s29)) ?_ (fun j30 hj30 => ?_)
          · intro x27 x28 s29
            refine r_iinc (q := 138) (z := 6) (d := 1) [(0, .ref (fad Δ 11 0 0)), (1, .int a1), (2, .long x4), (4, .long x5), (6, .long x27), (8, .int x28)] C dX11_death_135 rfl rfl (by decide) (by decide) rfl (fun x31 => ?_)
            refine r_goto (q := 63) C dX11_death_138 (by decide) ?_
            refine r_locs (lc' := [(0, .ref (fad Δ 11 0 0)), (1, .int a1), (2, .long x4), (4, .long x5), (6, .long x27), (8, .int x28), (9, .int x31)]) [1, 2, 3, 4, 5, 6, 0] rfl ?_
            exact ih_n23 x27 x28 x31 s29
          refine r_if_le (q := 127) (tgt := 135) C dX11_death_124 (by decide) rfl ?_ ?_
          · refine r_locs (lc' := [(0, .ref (fad Δ 11 0 0)), (1, .int a1), (2, .long x4), (4, .long x5), (6, .long x19), (8, .int x20), (9, .int x21)]) [1, 2, 3, 4, 5, 6, 7] rfl ?_
            exact hj30 x19 x20 s25
          · refine r_lload (q := 129) (i := 10) (z := 0) C dX11_death_127 rfl rfl ?_
            refine r_lstore (q := 131) (i := 6) [(10, .long x26), (0, .ref (fad Δ 11 0 0)), (1, .int a1), (2, .long x4), (4, .long x5), (8, .int x20), (9, .int x21)] C dX11_death_129 rfl (by decide) rfl (fun x32 => ?_)
            refine r_iload (q := 133) (i := 9) (z := 7) C dX11_death_131 rfl rfl ?_
            refine r_istore (q := 135) (i := 8) [(6, .long x32), (10, .long x26), (0, .ref (fad Δ 11 0 0)), (1, .int a1), (2, .long x4), (4, .long x5), (9, .int x21)] C dX11_death_133 rfl (by decide) rfl (fun x33 => ?_)
            refine r_locs (lc' := [(0, .ref (fad Δ 11 0 0)), (1, .int a1), (2, .long x4), (4, .long x5), (6, .long x32), (8, .int x33), (9, .int x21)]) [3, 4, 5, 6, 1, 0, 7] rfl ?_
            exact hj30 x32 x33 s25
    exact L63 fF x6 x7 x8 s3
  · refine r_aload_n (q := 11) (i := 0) (z := 0) C dX11_death_10 rfl rfl rfl ?_
    refine r_iconst (q := 12) (v := 5) C dX11_death_11 rfl (by decide) ?_
    refine r_callVI (q := 15) (As := [.int ((5 : Int32))]) wm_X11_143 yvX11_fail (c_X11_fail Δ hN ((5 : Int32)) s2) ⟨rfl, by decide⟩ C (nk_11_0 hN) (by decide) rfl (Nat.le_of_ble_eq_true rfl) dX11_death_12 rfl (fun x34 s35 => ?_)
    exact r_iret C dX11_death_15

noncomputable def f_X11_cast (a1 : Int32) (st : fSt) : Option (Int32 × fSt) :=
  fBd (f_X11_isIn a1 ((1 : Int32)) ((7 : Int32)) st) fun x1 s2 =>
  if ¬ x1 = 0 then
    (fNn (gP s2 2 0 0) fun y3 =>
    fBd (f_X7_rolesInAny y3 s2) fun x4 s5 =>
    if ¬ x4 = 0 then
      (fNn (gP s5 2 0 0) fun y6 =>
      fBd (f_X1_findBest y6 a1 s5) fun x7 s8 =>
      fLt x7 fun (x9 : Int32) =>
      fJn (fun (x10 : Int32) (s11 : fSt) =>
        (some (x10, s11))) fun (j12 : Int32 → fSt → Option (Int32 × fSt)) =>
      if ¬ x9 = ((-1 : Int32)) then
        (fBd (f_X11_answer x9 s8) fun x13 s14 =>
        j12 x13 s14)
      else
        (fBd (f_X11_fail ((9 : Int32)) s8) fun x15 s16 =>
        j12 x15 s16))
    else
      (fBd (f_X11_fail ((8 : Int32)) s5) fun x17 s18 =>
      some (x17, s18)))
  else
    (fBd (f_X11_fail ((5 : Int32)) s2) fun x19 s20 =>
    some (x19, s20))

set_option maxHeartbeats 4000000 in
set_option maxRecDepth 100000 in
theorem c_X11_cast (Δ : fDl) (hN : fNx Δ) (a1 : Int32)  (st : fSt) : fMt eI Δ yX11_cast cX11_cast 3 (some .int) 19 [.ref (fad Δ 11 0 0), .int a1] st (f_X11_cast a1 st) := by
  unfold f_X11_cast
  refine r_method (by decide +kernel) (Nat.le_of_ble_eq_true rfl) (fun Γ C => ?_)
  have C : fC Δ Γ cX11_cast RX11 3 (some .int) 19 := C
  refine r_locs (lc' := [(0, .ref (fad Δ 11 0 0)), (1, .int a1)]) [0, 1] rfl ?_
  refine r_iload_n (q := 1) (i := 1) (z := 1) C dX11_cast_0 rfl rfl rfl ?_
  refine r_iconst (q := 2) (v := 1) C dX11_cast_1 rfl (by decide) ?_
  refine r_bipush (q := 4) (v := 7) C dX11_cast_2 rfl (by decide) ?_
  refine r_callSI (q := 7) (As := [.int a1, .int ((1 : Int32)), .int ((7 : Int32))]) wm_X11_127 ysX11_isIn (c_X11_isIn Δ hN a1 ((1 : Int32)) ((7 : Int32)) st) C (by decide) rfl (Nat.le_of_ble_eq_true rfl) dX11_cast_4 rfl (fun x1 s2 => ?_)
  refine r_if_ne (q := 10) (tgt := 16) C dX11_cast_7 (by decide) rfl ?_ ?_
  · refine r_aload_n (q := 17) (i := 0) (z := 0) C dX11_cast_16 rfl rfl rfl ?_
    refine g_X11_41 (q := 20) C (nk_11_0 hN) dX11_cast_17 rfl ?_
    refine g_X11_92 (q := 23) C (nk_2_0 hN) dX11_cast_20 rfl ?_
    refine r_deref C (fun h => (h _ (nk_2_0 hN)).1) (fun y3 hy3 => ?_)
    refine r_callVI (q := 26) (As := []) wm_X11_387 yvX7_rolesInAny (c_X7_rolesInAny Δ hN y3 hy3 s2) ⟨rfl, by decide⟩ C hy3 (by decide) rfl (Nat.le_of_ble_eq_true rfl) dX11_cast_23 rfl (fun x4 s5 => ?_)
    refine r_if_ne (q := 29) (tgt := 36) C dX11_cast_26 (by decide) rfl ?_ ?_
    · refine r_aload_n (q := 37) (i := 0) (z := 0) C dX11_cast_36 rfl rfl rfl ?_
      refine g_X11_73 (q := 40) C (nk_11_0 hN) dX11_cast_37 rfl ?_
      refine r_aload_n (q := 41) (i := 0) (z := 0) C dX11_cast_40 rfl rfl rfl ?_
      refine g_X11_41 (q := 44) C (nk_11_0 hN) dX11_cast_41 rfl ?_
      refine g_X11_92 (q := 47) C (nk_2_0 hN) dX11_cast_44 rfl ?_
      refine r_deref C (fun h => (h _ (nk_2_0 hN)).1) (fun y6 hy6 => ?_)
      refine r_iload_n (q := 48) (i := 1) (z := 1) C dX11_cast_47 rfl rfl rfl ?_
      refine r_callVI (q := 51) (As := [.ref (fad Δ 7 y6 0), .int a1]) wm_X11_390 yvX1_findBest (c_X1_findBest Δ hN y6 a1 hy6 s5) ⟨rfl, by decide⟩ C (nk_1_0 hN) (by decide) rfl (Nat.le_of_ble_eq_true rfl) dX11_cast_48 rfl (fun x7 s8 => ?_)
      refine r_istore_n (q := 52) (i := 2) [(0, .ref (fad Δ 11 0 0)), (1, .int a1)] C dX11_cast_51 rfl rfl (by decide) rfl (fun x9 => ?_)
      refine r_iload_n (q := 53) (i := 2) (z := 0) C dX11_cast_52 rfl rfl rfl ?_
      refine r_iconst (q := 54) (v := (-1)) C dX11_cast_53 rfl (by decide) ?_
      refine r_join (fun j12 => ∀ (x10 : Int32) (s11 : fSt), fW Δ Γ 3 (fQ eI Δ Γ) 71 [] [.int x10] s11 (j12 x10 s11)) ?_ (fun j12 hj12 => ?_)
      · intro x10 s11
        exact r_iret C dX11_cast_71
      refine r_icmp_ne (q := 57) (tgt := 66) C dX11_cast_54 (by decide) rfl ?_ ?_
      · refine r_aload_n (q := 67) (i := 0) (z := 1) C dX11_cast_66 rfl rfl rfl ?_
        refine r_iload_n (q := 68) (i := 2) (z := 0) C dX11_cast_67 rfl rfl rfl ?_
        refine r_callVI (q := 71) (As := [.int x9]) wm_X11_190 yvX11_answer (c_X11_answer Δ hN x9 s8) ⟨rfl, by decide⟩ C (nk_11_0 hN) (by decide) rfl (Nat.le_of_ble_eq_true rfl) dX11_cast_68 rfl (fun x13 s14 => ?_)
        refine r_locs (lc' := []) [] rfl ?_
        exact hj12 x13 s14
      · refine r_aload_n (q := 58) (i := 0) (z := 1) C dX11_cast_57 rfl rfl rfl ?_
        refine r_bipush (q := 60) (v := 9) C dX11_cast_58 rfl (by decide) ?_
        refine r_callVI (q := 63) (As := [.int ((9 : Int32))]) wm_X11_143 yvX11_fail (c_X11_fail Δ hN ((9 : Int32)) s8) ⟨rfl, by decide⟩ C (nk_11_0 hN) (by decide) rfl (Nat.le_of_ble_eq_true rfl) dX11_cast_60 rfl (fun x15 s16 => ?_)
        refine r_goto (q := 71) C dX11_cast_63 (by decide) ?_
        refine r_locs (lc' := []) [] rfl ?_
        exact hj12 x15 s16
    · refine r_aload_n (q := 30) (i := 0) (z := 0) C dX11_cast_29 rfl rfl rfl ?_
      refine r_bipush (q := 32) (v := 8) C dX11_cast_30 rfl (by decide) ?_
      refine r_callVI (q := 35) (As := [.int ((8 : Int32))]) wm_X11_143 yvX11_fail (c_X11_fail Δ hN ((8 : Int32)) s5) ⟨rfl, by decide⟩ C (nk_11_0 hN) (by decide) rfl (Nat.le_of_ble_eq_true rfl) dX11_cast_32 rfl (fun x17 s18 => ?_)
      exact r_iret C dX11_cast_35
  · refine r_aload_n (q := 11) (i := 0) (z := 0) C dX11_cast_10 rfl rfl rfl ?_
    refine r_iconst (q := 12) (v := 5) C dX11_cast_11 rfl (by decide) ?_
    refine r_callVI (q := 15) (As := [.int ((5 : Int32))]) wm_X11_143 yvX11_fail (c_X11_fail Δ hN ((5 : Int32)) s2) ⟨rfl, by decide⟩ C (nk_11_0 hN) (by decide) rfl (Nat.le_of_ble_eq_true rfl) dX11_cast_12 rfl (fun x19 s20 => ?_)
    exact r_iret C dX11_cast_15

noncomputable def f_X11_castAt (a1 : Int32) (st : fSt) : Option (Int32 × fSt) :=
  fBd (f_X11_isBelow a1 ((6 : Int32)) st) fun x1 s2 =>
  if ¬ x1 = 0 then
    (fIx a1 6 <|
    fLt (gA s2 1 0 1 a1.toNatClampNeg) fun (x3 : Int32) =>
    fJn (fun (x4 : Int32) (s5 : fSt) =>
      (some (x4, s5))) fun (j6 : Int32 → fSt → Option (Int32 × fSt)) =>
    if ¬ x3 = ((-1 : Int32)) then
      (fBd (f_X11_answer x3 s2) fun x7 s8 =>
      j6 x7 s8)
    else
      (fBd (f_X11_fail ((8 : Int32)) s2) fun x9 s10 =>
      j6 x9 s10))
  else
    (fBd (f_X11_fail ((5 : Int32)) s2) fun x11 s12 =>
    some (x11, s12))

set_option maxHeartbeats 4000000 in
set_option maxRecDepth 100000 in
theorem c_X11_castAt (Δ : fDl) (hN : fNx Δ) (a1 : Int32)  (st : fSt) : fMt eI Δ yX11_castAt cX11_castAt 3 (some .int) 2 [.ref (fad Δ 11 0 0), .int a1] st (f_X11_castAt a1 st) := by
  unfold f_X11_castAt
  refine r_method (by decide +kernel) (Nat.le_of_ble_eq_true rfl) (fun Γ C => ?_)
  have C : fC Δ Γ cX11_castAt RX11 3 (some .int) 2 := C
  refine r_locs (lc' := [(0, .ref (fad Δ 11 0 0)), (1, .int a1)]) [0, 1] rfl ?_
  refine r_iload_n (q := 1) (i := 1) (z := 1) C dX11_castAt_0 rfl rfl rfl ?_
  refine r_bipush (q := 3) (v := 6) C dX11_castAt_1 rfl (by decide) ?_
  refine r_callSI (q := 6) (As := [.int a1, .int ((6 : Int32))]) wm_X11_117 ysX11_isBelow (c_X11_isBelow Δ hN a1 ((6 : Int32)) st) C (by decide) rfl (Nat.le_of_ble_eq_true rfl) dX11_castAt_3 rfl (fun x1 s2 => ?_)
  refine r_if_ne (q := 9) (tgt := 15) C dX11_castAt_6 (by decide) rfl ?_ ?_
  · refine r_aload_n (q := 16) (i := 0) (z := 0) C dX11_castAt_15 rfl rfl rfl ?_
    refine g_X11_73 (q := 19) C (nk_11_0 hN) dX11_castAt_16 rfl ?_
    refine g_X11_393 (q := 22) C (nk_1_0 hN) dX11_castAt_19 rfl ?_
    refine r_iload_n (q := 23) (i := 1) (z := 1) C dX11_castAt_22 rfl rfl rfl ?_
    refine r_ial (q := 24) q_1_1 h_1_1 C (nk_1_0 hN) dX11_castAt_23 rfl ?_
    refine r_istore_n (q := 25) (i := 2) [(0, .ref (fad Δ 11 0 0)), (1, .int a1)] C dX11_castAt_24 rfl rfl (by decide) rfl (fun x3 => ?_)
    refine r_iload_n (q := 26) (i := 2) (z := 0) C dX11_castAt_25 rfl rfl rfl ?_
    refine r_iconst (q := 27) (v := (-1)) C dX11_castAt_26 rfl (by decide) ?_
    refine r_join (fun j6 => ∀ (x4 : Int32) (s5 : fSt), fW Δ Γ 3 (fQ eI Δ Γ) 44 [] [.int x4] s5 (j6 x4 s5)) ?_ (fun j6 hj6 => ?_)
    · intro x4 s5
      exact r_iret C dX11_castAt_44
    refine r_icmp_ne (q := 30) (tgt := 39) C dX11_castAt_27 (by decide) rfl ?_ ?_
    · refine r_aload_n (q := 40) (i := 0) (z := 1) C dX11_castAt_39 rfl rfl rfl ?_
      refine r_iload_n (q := 41) (i := 2) (z := 0) C dX11_castAt_40 rfl rfl rfl ?_
      refine r_callVI (q := 44) (As := [.int x3]) wm_X11_190 yvX11_answer (c_X11_answer Δ hN x3 s2) ⟨rfl, by decide⟩ C (nk_11_0 hN) (by decide) rfl (Nat.le_of_ble_eq_true rfl) dX11_castAt_41 rfl (fun x7 s8 => ?_)
      refine r_locs (lc' := []) [] rfl ?_
      exact hj6 x7 s8
    · refine r_aload_n (q := 31) (i := 0) (z := 1) C dX11_castAt_30 rfl rfl rfl ?_
      refine r_bipush (q := 33) (v := 8) C dX11_castAt_31 rfl (by decide) ?_
      refine r_callVI (q := 36) (As := [.int ((8 : Int32))]) wm_X11_143 yvX11_fail (c_X11_fail Δ hN ((8 : Int32)) s2) ⟨rfl, by decide⟩ C (nk_11_0 hN) (by decide) rfl (Nat.le_of_ble_eq_true rfl) dX11_castAt_33 rfl (fun x9 s10 => ?_)
      refine r_goto (q := 44) C dX11_castAt_36 (by decide) ?_
      refine r_locs (lc' := []) [] rfl ?_
      exact hj6 x9 s10
  · refine r_aload_n (q := 10) (i := 0) (z := 0) C dX11_castAt_9 rfl rfl rfl ?_
    refine r_iconst (q := 11) (v := 5) C dX11_castAt_10 rfl (by decide) ?_
    refine r_callVI (q := 14) (As := [.int ((5 : Int32))]) wm_X11_143 yvX11_fail (c_X11_fail Δ hN ((5 : Int32)) s2) ⟨rfl, by decide⟩ C (nk_11_0 hN) (by decide) rfl (Nat.le_of_ble_eq_true rfl) dX11_castAt_11 rfl (fun x11 s12 => ?_)
    exact r_iret C dX11_castAt_14

noncomputable def f_X11_breaths (a1 : Int32) (a2 : Int32) (st : fSt) : Option (Int32 × fSt) :=
  fBd (f_X11_hasRole a1 st) fun x1 s2 =>
  if ¬ x1 = 0 then
    (fBd (f_X11_isIn a2 ((1 : Int32)) ((7 : Int32)) s2) fun x3 s4 =>
    if ¬ x3 = 0 then
      (fNn (gP s4 2 0 0) fun y5 =>
      fBd (f_X7_linesOfRole y5 a1 s4) fun x6 s7 =>
      fBd (f_X11_answer (x6 * a2) s7) fun x8 s9 =>
      some (x8, s9))
    else
      (fBd (f_X11_fail ((5 : Int32)) s4) fun x10 s11 =>
      some (x10, s11)))
  else
    (fBd (f_X11_fail ((2 : Int32)) s2) fun x12 s13 =>
    some (x12, s13))

set_option maxHeartbeats 4000000 in
set_option maxRecDepth 100000 in
theorem c_X11_breaths (Δ : fDl) (hN : fNx Δ) (a1 : Int32) (a2 : Int32)  (st : fSt) : fMt eI Δ yX11_breaths cX11_breaths 3 (some .int) 3 [.ref (fad Δ 11 0 0), .int a1, .int a2] st (f_X11_breaths a1 a2 st) := by
  unfold f_X11_breaths
  refine r_method (by decide +kernel) (Nat.le_of_ble_eq_true rfl) (fun Γ C => ?_)
  have C : fC Δ Γ cX11_breaths RX11 3 (some .int) 3 := C
  refine r_locs (lc' := [(0, .ref (fad Δ 11 0 0)), (1, .int a1), (2, .int a2)]) [0, 1, 2] rfl ?_
  refine r_aload_n (q := 1) (i := 0) (z := 0) C dX11_breaths_0 rfl rfl rfl ?_
  refine r_iload_n (q := 2) (i := 1) (z := 1) C dX11_breaths_1 rfl rfl rfl ?_
  refine r_callVI (q := 5) (As := [.int a1]) wm_X11_265 yvX11_hasRole (c_X11_hasRole Δ hN a1 st) ⟨rfl, by decide⟩ C (nk_11_0 hN) (by decide) rfl (Nat.le_of_ble_eq_true rfl) dX11_breaths_2 rfl (fun x1 s2 => ?_)
  refine r_if_ne (q := 8) (tgt := 14) C dX11_breaths_5 (by decide) rfl ?_ ?_
  · refine r_iload_n (q := 15) (i := 2) (z := 2) C dX11_breaths_14 rfl rfl rfl ?_
    refine r_iconst (q := 16) (v := 1) C dX11_breaths_15 rfl (by decide) ?_
    refine r_bipush (q := 18) (v := 7) C dX11_breaths_16 rfl (by decide) ?_
    refine r_callSI (q := 21) (As := [.int a2, .int ((1 : Int32)), .int ((7 : Int32))]) wm_X11_127 ysX11_isIn (c_X11_isIn Δ hN a2 ((1 : Int32)) ((7 : Int32)) s2) C (by decide) rfl (Nat.le_of_ble_eq_true rfl) dX11_breaths_18 rfl (fun x3 s4 => ?_)
    refine r_if_ne (q := 24) (tgt := 30) C dX11_breaths_21 (by decide) rfl ?_ ?_
    · refine r_aload_n (q := 31) (i := 0) (z := 0) C dX11_breaths_30 rfl rfl rfl ?_
      refine r_aload_n (q := 32) (i := 0) (z := 0) C dX11_breaths_31 rfl rfl rfl ?_
      refine g_X11_41 (q := 35) C (nk_11_0 hN) dX11_breaths_32 rfl ?_
      refine g_X11_92 (q := 38) C (nk_2_0 hN) dX11_breaths_35 rfl ?_
      refine r_deref C (fun h => (h _ (nk_2_0 hN)).1) (fun y5 hy5 => ?_)
      refine r_iload_n (q := 39) (i := 1) (z := 1) C dX11_breaths_38 rfl rfl rfl ?_
      refine r_callVI (q := 42) (As := [.int a1]) wm_X11_396 yvX7_linesOfRole (c_X7_linesOfRole Δ hN y5 a1 hy5 s4) ⟨rfl, by decide⟩ C hy5 (by decide) rfl (Nat.le_of_ble_eq_true rfl) dX11_breaths_39 rfl (fun x6 s7 => ?_)
      refine r_iload_n (q := 43) (i := 2) (z := 2) C dX11_breaths_42 rfl rfl rfl ?_
      refine r_imul (q := 44) C dX11_breaths_43 rfl ?_
      refine r_callVI (q := 47) (As := [.int (x6 * a2)]) wm_X11_190 yvX11_answer (c_X11_answer Δ hN (x6 * a2) s7) ⟨rfl, by decide⟩ C (nk_11_0 hN) (by decide) rfl (Nat.le_of_ble_eq_true rfl) dX11_breaths_44 rfl (fun x8 s9 => ?_)
      exact r_iret C dX11_breaths_47
    · refine r_aload_n (q := 25) (i := 0) (z := 0) C dX11_breaths_24 rfl rfl rfl ?_
      refine r_iconst (q := 26) (v := 5) C dX11_breaths_25 rfl (by decide) ?_
      refine r_callVI (q := 29) (As := [.int ((5 : Int32))]) wm_X11_143 yvX11_fail (c_X11_fail Δ hN ((5 : Int32)) s4) ⟨rfl, by decide⟩ C (nk_11_0 hN) (by decide) rfl (Nat.le_of_ble_eq_true rfl) dX11_breaths_26 rfl (fun x10 s11 => ?_)
      exact r_iret C dX11_breaths_29
  · refine r_aload_n (q := 9) (i := 0) (z := 0) C dX11_breaths_8 rfl rfl rfl ?_
    refine r_iconst (q := 10) (v := 2) C dX11_breaths_9 rfl (by decide) ?_
    refine r_callVI (q := 13) (As := [.int ((2 : Int32))]) wm_X11_143 yvX11_fail (c_X11_fail Δ hN ((2 : Int32)) s2) ⟨rfl, by decide⟩ C (nk_11_0 hN) (by decide) rfl (Nat.le_of_ble_eq_true rfl) dX11_breaths_10 rfl (fun x12 s13 => ?_)
    exact r_iret C dX11_breaths_13

noncomputable def f_X11_run (a1 : Int32) (st : fSt) : Option (Int32 × fSt) :=
  fBd (f_X11_isIn a1 ((0 : Int32)) ((9999 : Int32)) st) fun x1 s2 =>
  if ¬ x1 = 0 then
    (fNu (gP s2 2 0 1) (
      fBd (f_X11_fail ((8 : Int32)) s2) fun x4 s5 =>
      some (x4, s5))
      fun y3 =>
      fBd (f_X10_go 0 0 a1 ((1 : Int32)) s2) fun _ s6 =>
      fBd (f_X11_answer (gI s6 10 0 4) s6) fun x7 s8 =>
      some (x7, s8))
  else
    (fBd (f_X11_fail ((5 : Int32)) s2) fun x9 s10 =>
    some (x9, s10))

set_option maxHeartbeats 4000000 in
set_option maxRecDepth 100000 in
theorem c_X11_run (Δ : fDl) (hN : fNx Δ) (a1 : Int32)  (st : fSt) : fMt eI Δ yX11_run cX11_run 2 (some .int) 8 [.ref (fad Δ 11 0 0), .int a1] st (f_X11_run a1 st) := by
  unfold f_X11_run
  refine r_method (by decide +kernel) (Nat.le_of_ble_eq_true rfl) (fun Γ C => ?_)
  have C : fC Δ Γ cX11_run RX11 2 (some .int) 8 := C
  refine r_locs (lc' := [(0, .ref (fad Δ 11 0 0)), (1, .int a1)]) [0, 1] rfl ?_
  refine r_iload_n (q := 1) (i := 1) (z := 1) C dX11_run_0 rfl rfl rfl ?_
  refine r_iconst (q := 2) (v := 0) C dX11_run_1 rfl (by decide) ?_
  refine r_sipush (q := 5) (v := 9999) C dX11_run_2 rfl (by decide) ?_
  refine r_callSI (q := 8) (As := [.int a1, .int ((0 : Int32)), .int ((9999 : Int32))]) wm_X11_127 ysX11_isIn (c_X11_isIn Δ hN a1 ((0 : Int32)) ((9999 : Int32)) st) C (by decide) rfl (Nat.le_of_ble_eq_true rfl) dX11_run_5 rfl (fun x1 s2 => ?_)
  refine r_if_ne (q := 11) (tgt := 17) C dX11_run_8 (by decide) rfl ?_ ?_
  · refine r_aload_n (q := 18) (i := 0) (z := 0) C dX11_run_17 rfl rfl rfl ?_
    refine g_X11_41 (q := 21) C (nk_11_0 hN) dX11_run_18 rfl ?_
    refine g_X11_204 (q := 24) C (nk_2_0 hN) dX11_run_21 rfl ?_
    refine r_nul C (fun h => (h _ (nk_2_0 hN)).2) ?_ (fun y3 hy3 => ?_)
    · refine r_nnN (q := 27) C dX11_run_24 rfl ?_
      refine r_aload_n (q := 28) (i := 0) (z := 0) C dX11_run_27 rfl rfl rfl ?_
      refine r_bipush (q := 30) (v := 8) C dX11_run_28 rfl (by decide) ?_
      refine r_callVI (q := 33) (As := [.int ((8 : Int32))]) wm_X11_143 yvX11_fail (c_X11_fail Δ hN ((8 : Int32)) s2) ⟨rfl, by decide⟩ C (nk_11_0 hN) (by decide) rfl (Nat.le_of_ble_eq_true rfl) dX11_run_30 rfl (fun x4 s5 => ?_)
      exact r_iret C dX11_run_33
    · refine r_nnR (q := 34) C dX11_run_24 (by decide) ?_
      refine r_aload_n (q := 35) (i := 0) (z := 0) C dX11_run_34 rfl rfl rfl ?_
      refine g_X11_80 (q := 38) C (nk_11_0 hN) dX11_run_35 rfl ?_
      refine r_aload_n (q := 39) (i := 0) (z := 0) C dX11_run_38 rfl rfl rfl ?_
      refine g_X11_41 (q := 42) C (nk_11_0 hN) dX11_run_39 rfl ?_
      refine r_iload_n (q := 43) (i := 1) (z := 1) C dX11_run_42 rfl rfl rfl ?_
      refine r_iconst (q := 44) (v := 1) C dX11_run_43 rfl (by decide) ?_
      refine r_callVV (q := 47) (As := [.ref (fad Δ 2 0 0), .int a1, .int ((1 : Int32))]) wm_X11_399 yvX10_go (c_X10_go Δ hN 0 0 a1 ((1 : Int32)) (nk_10_0 hN) (nk_2_0 hN) s2) ⟨rfl, by decide⟩ C (nk_10_0 hN) (by decide) rfl (Nat.le_of_ble_eq_true rfl) dX11_run_44 rfl (fun _ s6 => ?_)
      refine r_aload_n (q := 48) (i := 0) (z := 0) C dX11_run_47 rfl rfl rfl ?_
      refine r_aload_n (q := 49) (i := 0) (z := 0) C dX11_run_48 rfl rfl rfl ?_
      refine g_X11_80 (q := 52) C (nk_11_0 hN) dX11_run_49 rfl ?_
      refine g_X11_403 (q := 55) C (nk_10_0 hN) dX11_run_52 rfl ?_
      refine r_callVI (q := 58) (As := [.int (gI s6 10 0 4)]) wm_X11_190 yvX11_answer (c_X11_answer Δ hN (gI s6 10 0 4) s6) ⟨rfl, by decide⟩ C (nk_11_0 hN) (by decide) rfl (Nat.le_of_ble_eq_true rfl) dX11_run_55 rfl (fun x7 s8 => ?_)
      exact r_iret C dX11_run_58
  · refine r_aload_n (q := 12) (i := 0) (z := 0) C dX11_run_11 rfl rfl rfl ?_
    refine r_iconst (q := 13) (v := 5) C dX11_run_12 rfl (by decide) ?_
    refine r_callVI (q := 16) (As := [.int ((5 : Int32))]) wm_X11_143 yvX11_fail (c_X11_fail Δ hN ((5 : Int32)) s2) ⟨rfl, by decide⟩ C (nk_11_0 hN) (by decide) rfl (Nat.le_of_ble_eq_true rfl) dX11_run_13 rfl (fun x9 s10 => ?_)
    exact r_iret C dX11_run_16

noncomputable def f_X11_ran (a1 : Int32) (st : fSt) : Option (Int32 × fSt) :=
  fBd (f_X11_isIn a1 ((0 : Int32)) ((4 : Int32)) st) fun x1 s2 =>
  if ¬ x1 = 0 then
    (fJn (fun (x3 : Int32) (s4 : fSt) =>
      (some (x3, s4))) fun (j5 : Int32 → fSt → Option (Int32 × fSt)) =>
    if (gI s2 10 0 3) = 0 then
      (fBd (f_X11_fail ((8 : Int32)) s2) fun x6 s7 =>
      j5 x6 s7)
    else
      (fBd (f_X10_told 0 a1 s2) fun x8 s9 =>
      fBd (f_X11_answer x8 s9) fun x10 s11 =>
      j5 x10 s11))
  else
    (fBd (f_X11_fail ((5 : Int32)) s2) fun x12 s13 =>
    some (x12, s13))

set_option maxHeartbeats 4000000 in
set_option maxRecDepth 100000 in
theorem c_X11_ran (Δ : fDl) (hN : fNx Δ) (a1 : Int32)  (st : fSt) : fMt eI Δ yX11_ran cX11_ran 2 (some .int) 2 [.ref (fad Δ 11 0 0), .int a1] st (f_X11_ran a1 st) := by
  unfold f_X11_ran
  refine r_method (by decide +kernel) (Nat.le_of_ble_eq_true rfl) (fun Γ C => ?_)
  have C : fC Δ Γ cX11_ran RX11 2 (some .int) 2 := C
  refine r_locs (lc' := [(0, .ref (fad Δ 11 0 0)), (1, .int a1)]) [0, 1] rfl ?_
  refine r_iload_n (q := 1) (i := 1) (z := 1) C dX11_ran_0 rfl rfl rfl ?_
  refine r_iconst (q := 2) (v := 0) C dX11_ran_1 rfl (by decide) ?_
  refine r_iconst (q := 3) (v := 4) C dX11_ran_2 rfl (by decide) ?_
  refine r_callSI (q := 6) (As := [.int a1, .int ((0 : Int32)), .int ((4 : Int32))]) wm_X11_127 ysX11_isIn (c_X11_isIn Δ hN a1 ((0 : Int32)) ((4 : Int32)) st) C (by decide) rfl (Nat.le_of_ble_eq_true rfl) dX11_ran_3 rfl (fun x1 s2 => ?_)
  refine r_if_ne (q := 9) (tgt := 15) C dX11_ran_6 (by decide) rfl ?_ ?_
  · refine r_aload_n (q := 16) (i := 0) (z := 0) C dX11_ran_15 rfl rfl rfl ?_
    refine g_X11_80 (q := 19) C (nk_11_0 hN) dX11_ran_16 rfl ?_
    refine g_X11_406 (q := 22) C (nk_10_0 hN) dX11_ran_19 rfl ?_
    refine r_join (fun j5 => ∀ (x3 : Int32) (s4 : fSt), fW Δ Γ 2 (fQ eI Δ Γ) 46 [] [.int x3] s4 (j5 x3 s4)) ?_ (fun j5 hj5 => ?_)
    · intro x3 s4
      exact r_iret C dX11_ran_46
    refine r_if_eq (q := 25) (tgt := 40) C dX11_ran_22 (by decide) rfl ?_ ?_
    · refine r_aload_n (q := 41) (i := 0) (z := 0) C dX11_ran_40 rfl rfl rfl ?_
      refine r_bipush (q := 43) (v := 8) C dX11_ran_41 rfl (by decide) ?_
      refine r_callVI (q := 46) (As := [.int ((8 : Int32))]) wm_X11_143 yvX11_fail (c_X11_fail Δ hN ((8 : Int32)) s2) ⟨rfl, by decide⟩ C (nk_11_0 hN) (by decide) rfl (Nat.le_of_ble_eq_true rfl) dX11_ran_43 rfl (fun x6 s7 => ?_)
      refine r_locs (lc' := []) [] rfl ?_
      exact hj5 x6 s7
    · refine r_aload_n (q := 26) (i := 0) (z := 0) C dX11_ran_25 rfl rfl rfl ?_
      refine r_aload_n (q := 27) (i := 0) (z := 0) C dX11_ran_26 rfl rfl rfl ?_
      refine g_X11_80 (q := 30) C (nk_11_0 hN) dX11_ran_27 rfl ?_
      refine r_iload_n (q := 31) (i := 1) (z := 1) C dX11_ran_30 rfl rfl rfl ?_
      refine r_callVI (q := 34) (As := [.int a1]) wm_X11_409 yvX10_told (c_X10_told Δ hN 0 a1 (nk_10_0 hN) s2) ⟨rfl, by decide⟩ C (nk_10_0 hN) (by decide) rfl (Nat.le_of_ble_eq_true rfl) dX11_ran_31 rfl (fun x8 s9 => ?_)
      refine r_callVI (q := 37) (As := [.int x8]) wm_X11_190 yvX11_answer (c_X11_answer Δ hN x8 s9) ⟨rfl, by decide⟩ C (nk_11_0 hN) (by decide) rfl (Nat.le_of_ble_eq_true rfl) dX11_ran_34 rfl (fun x10 s11 => ?_)
      refine r_goto (q := 46) C dX11_ran_37 (by decide) ?_
      refine r_locs (lc' := []) [] rfl ?_
      exact hj5 x10 s11
  · refine r_aload_n (q := 10) (i := 0) (z := 0) C dX11_ran_9 rfl rfl rfl ?_
    refine r_iconst (q := 11) (v := 5) C dX11_ran_10 rfl (by decide) ?_
    refine r_callVI (q := 14) (As := [.int ((5 : Int32))]) wm_X11_143 yvX11_fail (c_X11_fail Δ hN ((5 : Int32)) s2) ⟨rfl, by decide⟩ C (nk_11_0 hN) (by decide) rfl (Nat.le_of_ble_eq_true rfl) dX11_ran_11 rfl (fun x12 s13 => ?_)
    exact r_iret C dX11_ran_14

noncomputable def f_X11_often_L77 (a1 : Int32) (a2 : Int32) (a3 : Int32) : Nat → Int32 → Int32 → fSt → Option (Int32 × fSt)
  | 0, _, _, _ => none
  | n19 + 1, x16, x17, s18 =>
      if a3 ≤ x17 then
                  (fBd (f_X11_tellFraction x16.toInt64 a3.toInt64 s18) fun x20 s21 =>
                  fBo x20 (some (x20, s21)))
                else
                  (fBd (f_X10_go 1 0 (a2 + x17) ((0 : Int32)) s18) fun _ s22 =>
                  fLt (x16 + (((gI s22 10 1 5) >>> (a1 &&& 31)) &&& ((1 : Int32)))) fun (x23 : Int32) =>
                  fLt (x17 + (1 : Int32)) fun (x24 : Int32) =>
                  f_X11_often_L77 a1 a2 a3 n19 x23 x24 s22)

noncomputable def f_X11_often (a1 : Int32) (a2 : Int32) (a3 : Int32) (st : fSt) : Option (Int32 × fSt) :=
  fBd (f_X11_isIn a1 ((0 : Int32)) ((9 : Int32)) st) fun x1 s2 =>
  fJn (fun (s3 : fSt) =>
    (fBd (f_X11_refuse ((5 : Int32)) s3) fun x5 s6 =>
    fBo x5 (some (x5, s6)))) fun (j4 : fSt → Option (Int32 × fSt)) =>
  if x1 = 0 then
    (j4 s2)
  else
    (fBd (f_X11_isIn a2 ((0 : Int32)) ((9999 : Int32)) s2) fun x7 s8 =>
    if x7 = 0 then
      (j4 s8)
    else
      (fBd (f_X11_isIn a3 ((1 : Int32)) ((20 : Int32)) s8) fun x9 s10 =>
      if ¬ x9 = 0 then
        (if ((a2 + a3) - ((1 : Int32))) ≤ ((9999 : Int32)) then
          (fNu (gP s10 2 0 1) (
            fBd (f_X11_refuse ((8 : Int32)) s10) fun x12 s13 =>
            fBo x12 (some (x12, s13)))
            fun y11 =>
            fLt ((0 : Int32)) fun (x14 : Int32) =>
            fLt ((0 : Int32)) fun (x15 : Int32) =>
            f_X11_often_L77 a1 a2 a3 fF x14 x15 s10)
        else
          (fBd (f_X11_refuse ((5 : Int32)) s10) fun x25 s26 =>
          fBo x25 (some (x25, s26))))
      else
        (j4 s10)))

set_option maxHeartbeats 4000000 in
set_option maxRecDepth 100000 in
theorem c_X11_often (Δ : fDl) (hN : fNx Δ) (a1 : Int32) (a2 : Int32) (a3 : Int32)  (st : fSt) : fMt eI Δ yX11_often cX11_often 6 (some .boolean) 8 [.ref (fad Δ 11 0 0), .int a1, .int a2, .int a3] st (f_X11_often a1 a2 a3 st) := by
  unfold f_X11_often
  refine r_method (by decide +kernel) (Nat.le_of_ble_eq_true rfl) (fun Γ C => ?_)
  have C : fC Δ Γ cX11_often RX11 6 (some .boolean) 8 := C
  refine r_locs (lc' := [(0, .ref (fad Δ 11 0 0)), (1, .int a1), (2, .int a2), (3, .int a3)]) [0, 1, 2, 3] rfl ?_
  refine r_iload_n (q := 1) (i := 1) (z := 1) C dX11_often_0 rfl rfl rfl ?_
  refine r_iconst (q := 2) (v := 0) C dX11_often_1 rfl (by decide) ?_
  refine r_bipush (q := 4) (v := 9) C dX11_often_2 rfl (by decide) ?_
  refine r_callSI (q := 7) (As := [.int a1, .int ((0 : Int32)), .int ((9 : Int32))]) wm_X11_127 ysX11_isIn (c_X11_isIn Δ hN a1 ((0 : Int32)) ((9 : Int32)) st) C (by decide) rfl (Nat.le_of_ble_eq_true rfl) dX11_often_4 rfl (fun x1 s2 => ?_)
  refine r_join (fun j4 => ∀  (s3 : fSt), fW Δ Γ 6 (fQ eI Δ Γ) 31 [(0, .ref (fad Δ 11 0 0))] [] s3 (j4 s3)) ?_ (fun j4 hj4 => ?_)
  · intro s3
    refine r_aload_n (q := 32) (i := 0) (z := 0) C dX11_often_31 rfl rfl rfl ?_
    refine r_iconst (q := 33) (v := 5) C dX11_often_32 rfl (by decide) ?_
    refine r_callVI (q := 36) (As := [.int ((5 : Int32))]) wm_X11_106 yvX11_refuse (c_X11_refuse Δ hN ((5 : Int32)) s3) ⟨rfl, by decide⟩ C (nk_11_0 hN) (by decide) rfl (Nat.le_of_ble_eq_true rfl) dX11_often_33 rfl (fun x5 s6 => ?_)
    exact r_zret C dX11_often_36
  refine r_if_eq (q := 10) (tgt := 31) C dX11_often_7 (by decide) rfl ?_ ?_
  · refine r_locs (lc' := [(0, .ref (fad Δ 11 0 0))]) [0] rfl ?_
    exact hj4 s2
  · refine r_iload_n (q := 11) (i := 2) (z := 2) C dX11_often_10 rfl rfl rfl ?_
    refine r_iconst (q := 12) (v := 0) C dX11_often_11 rfl (by decide) ?_
    refine r_sipush (q := 15) (v := 9999) C dX11_often_12 rfl (by decide) ?_
    refine r_callSI (q := 18) (As := [.int a2, .int ((0 : Int32)), .int ((9999 : Int32))]) wm_X11_127 ysX11_isIn (c_X11_isIn Δ hN a2 ((0 : Int32)) ((9999 : Int32)) s2) C (by decide) rfl (Nat.le_of_ble_eq_true rfl) dX11_often_15 rfl (fun x7 s8 => ?_)
    refine r_if_eq (q := 21) (tgt := 31) C dX11_often_18 (by decide) rfl ?_ ?_
    · refine r_locs (lc' := [(0, .ref (fad Δ 11 0 0))]) [0] rfl ?_
      exact hj4 s8
    · refine r_iload_n (q := 22) (i := 3) (z := 3) C dX11_often_21 rfl rfl rfl ?_
      refine r_iconst (q := 23) (v := 1) C dX11_often_22 rfl (by decide) ?_
      refine r_bipush (q := 25) (v := 20) C dX11_often_23 rfl (by decide) ?_
      refine r_callSI (q := 28) (As := [.int a3, .int ((1 : Int32)), .int ((20 : Int32))]) wm_X11_127 ysX11_isIn (c_X11_isIn Δ hN a3 ((1 : Int32)) ((20 : Int32)) s8) C (by decide) rfl (Nat.le_of_ble_eq_true rfl) dX11_often_25 rfl (fun x9 s10 => ?_)
      refine r_if_ne (q := 31) (tgt := 37) C dX11_often_28 (by decide) rfl ?_ ?_
      · refine r_iload_n (q := 38) (i := 2) (z := 2) C dX11_often_37 rfl rfl rfl ?_
        refine r_iload_n (q := 39) (i := 3) (z := 3) C dX11_often_38 rfl rfl rfl ?_
        refine r_iadd (q := 40) C dX11_often_39 rfl ?_
        refine r_iconst (q := 41) (v := 1) C dX11_often_40 rfl (by decide) ?_
        refine r_isub (q := 42) C dX11_often_41 rfl ?_
        refine r_sipush (q := 45) (v := 9999) C dX11_often_42 rfl (by decide) ?_
        refine r_icmp_le (q := 48) (tgt := 54) C dX11_often_45 (by decide) rfl ?_ ?_
        · refine r_aload_n (q := 55) (i := 0) (z := 0) C dX11_often_54 rfl rfl rfl ?_
          refine g_X11_41 (q := 58) C (nk_11_0 hN) dX11_often_55 rfl ?_
          refine g_X11_204 (q := 61) C (nk_2_0 hN) dX11_often_58 rfl ?_
          refine r_nul C (fun h => (h _ (nk_2_0 hN)).2) ?_ (fun y11 hy11 => ?_)
          · refine r_nnN (q := 64) C dX11_often_61 rfl ?_
            refine r_aload_n (q := 65) (i := 0) (z := 0) C dX11_often_64 rfl rfl rfl ?_
            refine r_bipush (q := 67) (v := 8) C dX11_often_65 rfl (by decide) ?_
            refine r_callVI (q := 70) (As := [.int ((8 : Int32))]) wm_X11_106 yvX11_refuse (c_X11_refuse Δ hN ((8 : Int32)) s10) ⟨rfl, by decide⟩ C (nk_11_0 hN) (by decide) rfl (Nat.le_of_ble_eq_true rfl) dX11_often_67 rfl (fun x12 s13 => ?_)
            exact r_zret C dX11_often_70
          · refine r_nnR (q := 71) C dX11_often_61 (by decide) ?_
            refine r_iconst (q := 72) (v := 0) C dX11_often_71 rfl (by decide) ?_
            refine r_istore (q := 74) (i := 4) [(0, .ref (fad Δ 11 0 0)), (1, .int a1), (2, .int a2), (3, .int a3)] C dX11_often_72 rfl (by decide) rfl (fun x14 => ?_)
            refine r_iconst (q := 75) (v := 0) C dX11_often_74 rfl (by decide) ?_
            refine r_istore (q := 77) (i := 5) [(4, .int x14), (0, .ref (fad Δ 11 0 0)), (1, .int a1), (2, .int a2), (3, .int a3)] C dX11_often_75 rfl (by decide) rfl (fun x15 => ?_)
            refine r_locs (lc' := [(0, .ref (fad Δ 11 0 0)), (1, .int a1), (2, .int a2), (3, .int a3), (4, .int x14), (5, .int x15)]) [2, 3, 4, 5, 1, 0] rfl ?_
            have L77 : ∀ (n19 : Nat) (x16 : Int32) (x17 : Int32) (s18 : fSt), fW Δ Γ 6 (fQ eI Δ Γ) 77 [(0, .ref (fad Δ 11 0 0)), (1, .int a1), (2, .int a2), (3, .int a3), (4, .int x16), (5, .int x17)] [] s18 (f_X11_often_L77 a1 a2 a3 n19 x16 x17 s18) := by
              intro n19
              induction n19 with
              | zero =>
                intro x16 x17 s18
                rw [f_X11_often_L77]
                exact r_none
              | succ n19 ih_n19 =>
                intro x16 x17 s18
                rw [f_X11_often_L77]
                refine r_iload (q := 79) (i := 5) (z := 5) C dX11_often_77 rfl rfl ?_
                refine r_iload_n (q := 80) (i := 3) (z := 3) C dX11_often_79 rfl rfl rfl ?_
                refine r_icmp_ge (q := 83) (tgt := 121) C dX11_often_80 (by decide) rfl ?_ ?_
                · refine r_aload_n (q := 122) (i := 0) (z := 0) C dX11_often_121 rfl rfl rfl ?_
                  refine r_iload (q := 124) (i := 4) (z := 4) C dX11_often_122 rfl rfl ?_
                  refine r_i2l (q := 125) C dX11_often_124 rfl ?_
                  refine r_iload_n (q := 126) (i := 3) (z := 3) C dX11_often_125 rfl rfl rfl ?_
                  refine r_i2l (q := 127) C dX11_often_126 rfl ?_
                  refine r_callVI (q := 130) (As := [.long x16.toInt64, .long a3.toInt64]) wm_X11_339 yvX11_tellFraction (c_X11_tellFraction Δ hN x16.toInt64 a3.toInt64 s18) ⟨rfl, by decide⟩ C (nk_11_0 hN) (by decide) rfl (Nat.le_of_ble_eq_true rfl) dX11_often_127 rfl (fun x20 s21 => ?_)
                  exact r_zret C dX11_often_130
                · refine r_aload_n (q := 84) (i := 0) (z := 0) C dX11_often_83 rfl rfl rfl ?_
                  refine g_X11_84 (q := 87) C (nk_11_0 hN) dX11_often_84 rfl ?_
                  refine r_aload_n (q := 88) (i := 0) (z := 0) C dX11_often_87 rfl rfl rfl ?_
                  refine g_X11_41 (q := 91) C (nk_11_0 hN) dX11_often_88 rfl ?_
                  refine r_iload_n (q := 92) (i := 2) (z := 2) C dX11_often_91 rfl rfl rfl ?_
                  refine r_iload (q := 94) (i := 5) (z := 5) C dX11_often_92 rfl rfl ?_
                  refine r_iadd (q := 95) C dX11_often_94 rfl ?_
                  refine r_iconst (q := 96) (v := 0) C dX11_often_95 rfl (by decide) ?_
                  refine r_callVV (q := 99) (As := [.ref (fad Δ 2 0 0), .int (a2 + x17), .int ((0 : Int32))]) wm_X11_399 yvX10_go (c_X10_go Δ hN 1 0 (a2 + x17) ((0 : Int32)) (nk_10_1 hN) (nk_2_0 hN) s18) ⟨rfl, by decide⟩ C (nk_10_1 hN) (by decide) rfl (Nat.le_of_ble_eq_true rfl) dX11_often_96 rfl (fun _ s22 => ?_)
                  refine r_iload (q := 101) (i := 4) (z := 4) C dX11_often_99 rfl rfl ?_
                  refine r_aload_n (q := 102) (i := 0) (z := 0) C dX11_often_101 rfl rfl rfl ?_
                  refine g_X11_84 (q := 105) C (nk_11_0 hN) dX11_often_102 rfl ?_
                  refine g_X11_412 (q := 108) C (nk_10_1 hN) dX11_often_105 rfl ?_
                  refine r_iload_n (q := 109) (i := 1) (z := 1) C dX11_often_108 rfl rfl rfl ?_
                  refine r_ishr (q := 110) C dX11_often_109 rfl ?_
                  refine r_iconst (q := 111) (v := 1) C dX11_often_110 rfl (by decide) ?_
                  refine r_iand (q := 112) C dX11_often_111 rfl ?_
                  refine r_iadd (q := 113) C dX11_often_112 rfl ?_
                  refine r_istore (q := 115) (i := 4) [(0, .ref (fad Δ 11 0 0)), (1, .int a1), (2, .int a2), (3, .int a3), (5, .int x17)] C dX11_often_113 rfl (by decide) rfl (fun x23 => ?_)
                  refine r_iinc (q := 118) (z := 5) (d := 1) [(4, .int x23), (0, .ref (fad Δ 11 0 0)), (1, .int a1), (2, .int a2), (3, .int a3)] C dX11_often_115 rfl rfl (by decide) (by decide) rfl (fun x24 => ?_)
                  refine r_goto (q := 77) C dX11_often_118 (by decide) ?_
                  refine r_locs (lc' := [(0, .ref (fad Δ 11 0 0)), (1, .int a1), (2, .int a2), (3, .int a3), (4, .int x23), (5, .int x24)]) [2, 3, 4, 5, 1, 0] rfl ?_
                  exact ih_n19 x23 x24 s22
            exact L77 fF x14 x15 s10
        · refine r_aload_n (q := 49) (i := 0) (z := 0) C dX11_often_48 rfl rfl rfl ?_
          refine r_iconst (q := 50) (v := 5) C dX11_often_49 rfl (by decide) ?_
          refine r_callVI (q := 53) (As := [.int ((5 : Int32))]) wm_X11_106 yvX11_refuse (c_X11_refuse Δ hN ((5 : Int32)) s10) ⟨rfl, by decide⟩ C (nk_11_0 hN) (by decide) rfl (Nat.le_of_ble_eq_true rfl) dX11_often_50 rfl (fun x25 s26 => ?_)
          exact r_zret C dX11_often_53
      · refine r_locs (lc' := [(0, .ref (fad Δ 11 0 0))]) [0] rfl ?_
        exact hj4 s10

noncomputable def f_X11_mark  (st : fSt) : Option (Int32 × fSt) :=
  fBd (f_X11_isBelow (gI st 11 0 9) ((3 : Int32)) st) fun x1 s2 =>
  if ¬ x1 = 0 then
    (fLt (sI s2 11 0 9 ((gI s2 11 0 9) + ((1 : Int32)))) fun s3 =>
    fIx (gI s2 11 0 9) 3 <|
    fBd (f_X2_takeFrom (((gI s2 11 0 9).toNatClampNeg + 1)) 0 s3) fun _ s5 =>
    fBd (f_X11_answer (gI s5 11 0 9) s5) fun x6 s7 =>
    some (x6, s7))
  else
    (fBd (f_X11_fail ((7 : Int32)) s2) fun x8 s9 =>
    some (x8, s9))

set_option maxHeartbeats 4000000 in
set_option maxRecDepth 100000 in
theorem c_X11_mark (Δ : fDl) (hN : fNx Δ)   (st : fSt) : fMt eI Δ yX11_mark cX11_mark 1 (some .int) 3 [.ref (fad Δ 11 0 0)] st (f_X11_mark  st) := by
  unfold f_X11_mark
  refine r_method (by decide +kernel) (Nat.le_of_ble_eq_true rfl) (fun Γ C => ?_)
  have C : fC Δ Γ cX11_mark RX11 1 (some .int) 3 := C
  refine r_locs (lc' := [(0, .ref (fad Δ 11 0 0))]) [0] rfl ?_
  refine r_aload_n (q := 1) (i := 0) (z := 0) C dX11_mark_0 rfl rfl rfl ?_
  refine g_X11_415 (q := 4) C (nk_11_0 hN) dX11_mark_1 rfl ?_
  refine r_iconst (q := 5) (v := 3) C dX11_mark_4 rfl (by decide) ?_
  refine r_callSI (q := 8) (As := [.int (gI st 11 0 9), .int ((3 : Int32))]) wm_X11_117 ysX11_isBelow (c_X11_isBelow Δ hN (gI st 11 0 9) ((3 : Int32)) st) C (by decide) rfl (Nat.le_of_ble_eq_true rfl) dX11_mark_5 rfl (fun x1 s2 => ?_)
  refine r_if_ne (q := 11) (tgt := 18) C dX11_mark_8 (by decide) rfl ?_ ?_
  · refine r_aload_n (q := 19) (i := 0) (z := 0) C dX11_mark_18 rfl rfl rfl ?_
    refine g_X11_45 (q := 22) C (nk_11_0 hN) dX11_mark_19 rfl ?_
    refine r_aload_n (q := 23) (i := 0) (z := 0) C dX11_mark_22 rfl rfl rfl ?_
    refine r_dup (q := 24) C dX11_mark_23 rfl rfl ?_
    refine g_X11_415 (q := 27) C (nk_11_0 hN) dX11_mark_24 rfl ?_
    refine r_dup_x1 (q := 28) C dX11_mark_27 rfl rfl rfl ?_
    refine r_iconst (q := 29) (v := 1) C dX11_mark_28 rfl (by decide) ?_
    refine r_iadd (q := 30) C dX11_mark_29 rfl ?_
    refine p_X11_415 (q := 33) C (nk_11_0 hN) dX11_mark_30 rfl (fun s3 => ?_)
    refine r_qal2 (q := 34) q_11_2 h_11_2 C (nk_11_0 hN) (nx_42 hN) dX11_mark_33 rfl (fun hq4 => ?_)
    refine r_aload_n (q := 35) (i := 0) (z := 0) C dX11_mark_34 rfl rfl rfl ?_
    refine g_X11_41 (q := 38) C (nk_11_0 hN) dX11_mark_35 rfl ?_
    refine r_callVV (q := 41) (As := [.ref (fad Δ 2 0 0)]) wm_X11_418 yvX2_takeFrom (c_X2_takeFrom Δ hN (((gI s2 11 0 9).toNatClampNeg + 1)) 0 hq4 (nk_2_0 hN) s3) ⟨rfl, by decide⟩ C hq4 (by decide) rfl (Nat.le_of_ble_eq_true rfl) dX11_mark_38 rfl (fun _ s5 => ?_)
    refine r_aload_n (q := 42) (i := 0) (z := 0) C dX11_mark_41 rfl rfl rfl ?_
    refine r_aload_n (q := 43) (i := 0) (z := 0) C dX11_mark_42 rfl rfl rfl ?_
    refine g_X11_415 (q := 46) C (nk_11_0 hN) dX11_mark_43 rfl ?_
    refine r_callVI (q := 49) (As := [.int (gI s5 11 0 9)]) wm_X11_190 yvX11_answer (c_X11_answer Δ hN (gI s5 11 0 9) s5) ⟨rfl, by decide⟩ C (nk_11_0 hN) (by decide) rfl (Nat.le_of_ble_eq_true rfl) dX11_mark_46 rfl (fun x6 s7 => ?_)
    exact r_iret C dX11_mark_49
  · refine r_aload_n (q := 12) (i := 0) (z := 0) C dX11_mark_11 rfl rfl rfl ?_
    refine r_bipush (q := 14) (v := 7) C dX11_mark_12 rfl (by decide) ?_
    refine r_callVI (q := 17) (As := [.int ((7 : Int32))]) wm_X11_143 yvX11_fail (c_X11_fail Δ hN ((7 : Int32)) s2) ⟨rfl, by decide⟩ C (nk_11_0 hN) (by decide) rfl (Nat.le_of_ble_eq_true rfl) dX11_mark_14 rfl (fun x8 s9 => ?_)
    exact r_iret C dX11_mark_17

noncomputable def f_X11_back  (st : fSt) : Option (Int32 × fSt) :=
  fBd (f_X11_isIn (gI st 11 0 9) ((1 : Int32)) ((3 : Int32)) st) fun x1 s2 =>
  if ¬ x1 = 0 then
    (fLt (sI s2 11 0 9 ((gI s2 11 0 9) - ((1 : Int32)))) fun s3 =>
    fIx ((gI s2 11 0 9) - ((1 : Int32))) 3 <|
    fBd (f_X2_takeFrom 0 ((((gI s2 11 0 9) - ((1 : Int32))).toNatClampNeg + 1)) s3) fun _ s5 =>
    fBd (f_X11_answer (gI s5 11 0 9) s5) fun x6 s7 =>
    some (x6, s7))
  else
    (fBd (f_X11_fail ((8 : Int32)) s2) fun x8 s9 =>
    some (x8, s9))

set_option maxHeartbeats 4000000 in
set_option maxRecDepth 100000 in
theorem c_X11_back (Δ : fDl) (hN : fNx Δ)   (st : fSt) : fMt eI Δ yX11_back cX11_back 1 (some .int) 3 [.ref (fad Δ 11 0 0)] st (f_X11_back  st) := by
  unfold f_X11_back
  refine r_method (by decide +kernel) (Nat.le_of_ble_eq_true rfl) (fun Γ C => ?_)
  have C : fC Δ Γ cX11_back RX11 1 (some .int) 3 := C
  refine r_locs (lc' := [(0, .ref (fad Δ 11 0 0))]) [0] rfl ?_
  refine r_aload_n (q := 1) (i := 0) (z := 0) C dX11_back_0 rfl rfl rfl ?_
  refine g_X11_415 (q := 4) C (nk_11_0 hN) dX11_back_1 rfl ?_
  refine r_iconst (q := 5) (v := 1) C dX11_back_4 rfl (by decide) ?_
  refine r_iconst (q := 6) (v := 3) C dX11_back_5 rfl (by decide) ?_
  refine r_callSI (q := 9) (As := [.int (gI st 11 0 9), .int ((1 : Int32)), .int ((3 : Int32))]) wm_X11_127 ysX11_isIn (c_X11_isIn Δ hN (gI st 11 0 9) ((1 : Int32)) ((3 : Int32)) st) C (by decide) rfl (Nat.le_of_ble_eq_true rfl) dX11_back_6 rfl (fun x1 s2 => ?_)
  refine r_if_ne (q := 12) (tgt := 19) C dX11_back_9 (by decide) rfl ?_ ?_
  · refine r_aload_n (q := 20) (i := 0) (z := 0) C dX11_back_19 rfl rfl rfl ?_
    refine g_X11_41 (q := 23) C (nk_11_0 hN) dX11_back_20 rfl ?_
    refine r_aload_n (q := 24) (i := 0) (z := 0) C dX11_back_23 rfl rfl rfl ?_
    refine g_X11_45 (q := 27) C (nk_11_0 hN) dX11_back_24 rfl ?_
    refine r_aload_n (q := 28) (i := 0) (z := 0) C dX11_back_27 rfl rfl rfl ?_
    refine r_dup (q := 29) C dX11_back_28 rfl rfl ?_
    refine g_X11_415 (q := 32) C (nk_11_0 hN) dX11_back_29 rfl ?_
    refine r_iconst (q := 33) (v := 1) C dX11_back_32 rfl (by decide) ?_
    refine r_isub (q := 34) C dX11_back_33 rfl ?_
    refine r_dup_x1 (q := 35) C dX11_back_34 rfl rfl rfl ?_
    refine p_X11_415 (q := 38) C (nk_11_0 hN) dX11_back_35 rfl (fun s3 => ?_)
    refine r_qal2 (q := 39) q_11_2 h_11_2 C (nk_11_0 hN) (nx_42 hN) dX11_back_38 rfl (fun hq4 => ?_)
    refine r_callVV (q := 42) (As := [.ref (fad Δ 2 ((((gI s2 11 0 9) - ((1 : Int32))).toNatClampNeg + 1)) 0)]) wm_X11_418 yvX2_takeFrom (c_X2_takeFrom Δ hN 0 ((((gI s2 11 0 9) - ((1 : Int32))).toNatClampNeg + 1)) (nk_2_0 hN) hq4 s3) ⟨rfl, by decide⟩ C (nk_2_0 hN) (by decide) rfl (Nat.le_of_ble_eq_true rfl) dX11_back_39 rfl (fun _ s5 => ?_)
    refine r_aload_n (q := 43) (i := 0) (z := 0) C dX11_back_42 rfl rfl rfl ?_
    refine r_aload_n (q := 44) (i := 0) (z := 0) C dX11_back_43 rfl rfl rfl ?_
    refine g_X11_415 (q := 47) C (nk_11_0 hN) dX11_back_44 rfl ?_
    refine r_callVI (q := 50) (As := [.int (gI s5 11 0 9)]) wm_X11_190 yvX11_answer (c_X11_answer Δ hN (gI s5 11 0 9) s5) ⟨rfl, by decide⟩ C (nk_11_0 hN) (by decide) rfl (Nat.le_of_ble_eq_true rfl) dX11_back_47 rfl (fun x6 s7 => ?_)
    exact r_iret C dX11_back_50
  · refine r_aload_n (q := 13) (i := 0) (z := 0) C dX11_back_12 rfl rfl rfl ?_
    refine r_bipush (q := 15) (v := 8) C dX11_back_13 rfl (by decide) ?_
    refine r_callVI (q := 18) (As := [.int ((8 : Int32))]) wm_X11_143 yvX11_fail (c_X11_fail Δ hN ((8 : Int32)) s2) ⟨rfl, by decide⟩ C (nk_11_0 hN) (by decide) rfl (Nat.le_of_ble_eq_true rfl) dX11_back_15 rfl (fun x8 s9 => ?_)
    exact r_iret C dX11_back_18
