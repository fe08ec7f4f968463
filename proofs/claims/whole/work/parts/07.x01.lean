noncomputable def f_J6_numberOfTrailingZeros_0f7a4 (a0 : Int32) (st : fSt) : Option (Int32 × fSt) :=
  fLt ((a0 ^^^ ((-1 : Int32))) &&& (a0 - ((1 : Int32)))) fun (x1 : Int32) =>
  if 0 < x1 then
    (fLt ((1 : Int32)) fun (x2 : Int32) =>
    fJn (fun (x3 : Int32) (x4 : Int32) (s5 : fSt) =>
      (fJn (fun (x7 : Int32) (x8 : Int32) (s9 : fSt) =>
        (fJn (fun (x11 : Int32) (x12 : Int32) (s13 : fSt) =>
          (fJn (fun (x15 : Int32) (x16 : Int32) (s17 : fSt) =>
            (some (x16 + ((x15.toUInt32 >>> (((1 : Int32)).toUInt32 &&& Int32.toUInt32 31)).toInt32), s17))) fun (j18 : Int32 → Int32 → fSt → Option (Int32 × fSt)) =>
          if x11 ≤ ((4 : Int32)) then
            (j18 x11 x12 s13)
          else
            (fLt (x12 + (2 : Int32)) fun (x19 : Int32) =>
            fLt ((x11.toUInt32 >>> (((2 : Int32)).toUInt32 &&& Int32.toUInt32 31)).toInt32) fun (x20 : Int32) =>
            j18 x20 x19 s13))) fun (j14 : Int32 → Int32 → fSt → Option (Int32 × fSt)) =>
        if x7 ≤ ((16 : Int32)) then
          (j14 x7 x8 s9)
        else
          (fLt (x8 + (4 : Int32)) fun (x21 : Int32) =>
          fLt ((x7.toUInt32 >>> (((4 : Int32)).toUInt32 &&& Int32.toUInt32 31)).toInt32) fun (x22 : Int32) =>
          j14 x22 x21 s9))) fun (j10 : Int32 → Int32 → fSt → Option (Int32 × fSt)) =>
      if x3 ≤ ((256 : Int32)) then
        (j10 x3 x4 s5)
      else
        (fLt (x4 + (8 : Int32)) fun (x23 : Int32) =>
        fLt ((x3.toUInt32 >>> (((8 : Int32)).toUInt32 &&& Int32.toUInt32 31)).toInt32) fun (x24 : Int32) =>
        j10 x24 x23 s5))) fun (j6 : Int32 → Int32 → fSt → Option (Int32 × fSt)) =>
    if x1 ≤ ((65536 : Int32)) then
      (j6 x1 x2 st)
    else
      (fLt (x2 + (16 : Int32)) fun (x25 : Int32) =>
      fLt ((x1.toUInt32 >>> (((16 : Int32)).toUInt32 &&& Int32.toUInt32 31)).toInt32) fun (x26 : Int32) =>
      j6 x26 x25 st))
  else
    (some (x1 &&& ((32 : Int32)), st))

set_option maxHeartbeats 4000000 in
set_option maxRecDepth 100000 in
theorem c_J6_numberOfTrailingZeros_0f7a4 (Δ : fDl) (a0 : Int32)  (st : fSt) : fMt eI Δ yJ6_numberOfTrailingZeros_0f7a4 cJ6_numberOfTrailingZeros_0f7a4 2 (some .int) 1 [.int a0] st (f_J6_numberOfTrailingZeros_0f7a4 a0 st) := by
  unfold f_J6_numberOfTrailingZeros_0f7a4
  refine r_method (by decide +kernel) (Nat.le_of_ble_eq_true rfl) (fun Γ C => ?_)
  have C : fC Δ Γ cJ6_numberOfTrailingZeros_0f7a4 RJ6 2 (some .int) 1 := C
  refine r_locs (lc' := [(0, .int a0)]) [0] rfl ?_
  refine r_iload_n (q := 1) (i := 0) (z := 0) C dJ6_numberOfTrailingZeros_0f7a4_0 rfl rfl rfl ?_
  refine r_iconst (q := 2) (v := (-1)) C dJ6_numberOfTrailingZeros_0f7a4_1 rfl (by decide) ?_
  refine r_ixor (q := 3) C dJ6_numberOfTrailingZeros_0f7a4_2 rfl ?_
  refine r_iload_n (q := 4) (i := 0) (z := 0) C dJ6_numberOfTrailingZeros_0f7a4_3 rfl rfl rfl ?_
  refine r_iconst (q := 5) (v := 1) C dJ6_numberOfTrailingZeros_0f7a4_4 rfl (by decide) ?_
  refine r_isub (q := 6) C dJ6_numberOfTrailingZeros_0f7a4_5 rfl ?_
  refine r_iand (q := 7) C dJ6_numberOfTrailingZeros_0f7a4_6 rfl ?_
  refine r_istore_n (q := 8) (i := 0) [] C dJ6_numberOfTrailingZeros_0f7a4_7 rfl rfl (by decide) rfl (fun x1 => ?_)
  refine r_iload_n (q := 9) (i := 0) (z := 0) C dJ6_numberOfTrailingZeros_0f7a4_8 rfl rfl rfl ?_
  refine r_if_gt (q := 12) (tgt := 17) C dJ6_numberOfTrailingZeros_0f7a4_9 (by decide) rfl ?_ ?_
  · refine r_iconst (q := 18) (v := 1) C dJ6_numberOfTrailingZeros_0f7a4_17 rfl (by decide) ?_
    refine r_istore_n (q := 19) (i := 1) [(0, .int x1)] C dJ6_numberOfTrailingZeros_0f7a4_18 rfl rfl (by decide) rfl (fun x2 => ?_)
    refine r_iload_n (q := 20) (i := 0) (z := 1) C dJ6_numberOfTrailingZeros_0f7a4_19 rfl rfl rfl ?_
    refine r_ldcw (q := 23) C dJ6_numberOfTrailingZeros_0f7a4_20 rfl wc_J6_264 ?_
    refine r_join (fun j6 => ∀ (x3 : Int32) (x4 : Int32) (s5 : fSt), fW Δ Γ 2 (fQ eI Δ Γ) 34 [(0, .int x3), (1, .int x4)] [] s5 (j6 x3 x4 s5)) ?_ (fun j6 hj6 => ?_)
    · intro x3 x4 s5
      refine r_iload_n (q := 35) (i := 0) (z := 0) C dJ6_numberOfTrailingZeros_0f7a4_34 rfl rfl rfl ?_
      refine r_sipush (q := 38) (v := 256) C dJ6_numberOfTrailingZeros_0f7a4_35 rfl (by decide) ?_
      refine r_join (fun j10 => ∀ (x7 : Int32) (x8 : Int32) (s9 : fSt), fW Δ Γ 2 (fQ eI Δ Γ) 49 [(0, .int x7), (1, .int x8)] [] s9 (j10 x7 x8 s9)) ?_ (fun j10 hj10 => ?_)
      · intro x7 x8 s9
        refine r_iload_n (q := 50) (i := 0) (z := 0) C dJ6_numberOfTrailingZeros_0f7a4_49 rfl rfl rfl ?_
        refine r_bipush (q := 52) (v := 16) C dJ6_numberOfTrailingZeros_0f7a4_50 rfl (by decide) ?_
        refine r_join (fun j14 => ∀ (x11 : Int32) (x12 : Int32) (s13 : fSt), fW Δ Γ 2 (fQ eI Δ Γ) 62 [(0, .int x11), (1, .int x12)] [] s13 (j14 x11 x12 s13)) ?_ (fun j14 hj14 => ?_)
        · intro x11 x12 s13
          refine r_iload_n (q := 63) (i := 0) (z := 0) C dJ6_numberOfTrailingZeros_0f7a4_62 rfl rfl rfl ?_
          refine r_iconst (q := 64) (v := 4) C dJ6_numberOfTrailingZeros_0f7a4_63 rfl (by decide) ?_
          refine r_join (fun j18 => ∀ (x15 : Int32) (x16 : Int32) (s17 : fSt), fW Δ Γ 2 (fQ eI Δ Γ) 74 [(0, .int x15), (1, .int x16)] [] s17 (j18 x15 x16 s17)) ?_ (fun j18 hj18 => ?_)
          · intro x15 x16 s17
            refine r_iload_n (q := 75) (i := 1) (z := 1) C dJ6_numberOfTrailingZeros_0f7a4_74 rfl rfl rfl ?_
            refine r_iload_n (q := 76) (i := 0) (z := 0) C dJ6_numberOfTrailingZeros_0f7a4_75 rfl rfl rfl ?_
            refine r_iconst (q := 77) (v := 1) C dJ6_numberOfTrailingZeros_0f7a4_76 rfl (by decide) ?_
            refine r_iushr (q := 78) C dJ6_numberOfTrailingZeros_0f7a4_77 rfl ?_
            refine r_iadd (q := 79) C dJ6_numberOfTrailingZeros_0f7a4_78 rfl ?_
            exact r_iret C dJ6_numberOfTrailingZeros_0f7a4_79
          refine r_icmp_le (q := 67) (tgt := 74) C dJ6_numberOfTrailingZeros_0f7a4_64 (by decide) rfl ?_ ?_
          · exact hj18 x11 x12 s13
          · refine r_iinc (q := 70) (z := 1) (d := 2) [(0, .int x11)] C dJ6_numberOfTrailingZeros_0f7a4_67 rfl rfl (by decide) (by decide) rfl (fun x19 => ?_)
            refine r_iload_n (q := 71) (i := 0) (z := 1) C dJ6_numberOfTrailingZeros_0f7a4_70 rfl rfl rfl ?_
            refine r_iconst (q := 72) (v := 2) C dJ6_numberOfTrailingZeros_0f7a4_71 rfl (by decide) ?_
            refine r_iushr (q := 73) C dJ6_numberOfTrailingZeros_0f7a4_72 rfl ?_
            refine r_istore_n (q := 74) (i := 0) [(1, .int x19)] C dJ6_numberOfTrailingZeros_0f7a4_73 rfl rfl (by decide) rfl (fun x20 => ?_)
            exact hj18 x20 x19 s13
        refine r_icmp_le (q := 55) (tgt := 62) C dJ6_numberOfTrailingZeros_0f7a4_52 (by decide) rfl ?_ ?_
        · exact hj14 x7 x8 s9
        · refine r_iinc (q := 58) (z := 1) (d := 4) [(0, .int x7)] C dJ6_numberOfTrailingZeros_0f7a4_55 rfl rfl (by decide) (by decide) rfl (fun x21 => ?_)
          refine r_iload_n (q := 59) (i := 0) (z := 1) C dJ6_numberOfTrailingZeros_0f7a4_58 rfl rfl rfl ?_
          refine r_iconst (q := 60) (v := 4) C dJ6_numberOfTrailingZeros_0f7a4_59 rfl (by decide) ?_
          refine r_iushr (q := 61) C dJ6_numberOfTrailingZeros_0f7a4_60 rfl ?_
          refine r_istore_n (q := 62) (i := 0) [(1, .int x21)] C dJ6_numberOfTrailingZeros_0f7a4_61 rfl rfl (by decide) rfl (fun x22 => ?_)
          exact hj14 x22 x21 s9
      refine r_icmp_le (q := 41) (tgt := 49) C dJ6_numberOfTrailingZeros_0f7a4_38 (by decide) rfl ?_ ?_
      · exact hj10 x3 x4 s5
      · refine r_iinc (q := 44) (z := 1) (d := 8) [(0, .int x3)] C dJ6_numberOfTrailingZeros_0f7a4_41 rfl rfl (by decide) (by decide) rfl (fun x23 => ?_)
        refine r_iload_n (q := 45) (i := 0) (z := 1) C dJ6_numberOfTrailingZeros_0f7a4_44 rfl rfl rfl ?_
        refine r_bipush (q := 47) (v := 8) C dJ6_numberOfTrailingZeros_0f7a4_45 rfl (by decide) ?_
        refine r_iushr (q := 48) C dJ6_numberOfTrailingZeros_0f7a4_47 rfl ?_
        refine r_istore_n (q := 49) (i := 0) [(1, .int x23)] C dJ6_numberOfTrailingZeros_0f7a4_48 rfl rfl (by decide) rfl (fun x24 => ?_)
        exact hj10 x24 x23 s5
    refine r_icmp_le (q := 26) (tgt := 34) C dJ6_numberOfTrailingZeros_0f7a4_23 (by decide) rfl ?_ ?_
    · refine r_locs (lc' := [(0, .int x1), (1, .int x2)]) [1, 0] rfl ?_
      exact hj6 x1 x2 st
    · refine r_iinc (q := 29) (z := 0) (d := 16) [(0, .int x1)] C dJ6_numberOfTrailingZeros_0f7a4_26 rfl rfl (by decide) (by decide) rfl (fun x25 => ?_)
      refine r_iload_n (q := 30) (i := 0) (z := 1) C dJ6_numberOfTrailingZeros_0f7a4_29 rfl rfl rfl ?_
      refine r_bipush (q := 32) (v := 16) C dJ6_numberOfTrailingZeros_0f7a4_30 rfl (by decide) ?_
      refine r_iushr (q := 33) C dJ6_numberOfTrailingZeros_0f7a4_32 rfl ?_
      refine r_istore_n (q := 34) (i := 0) [(1, .int x25)] C dJ6_numberOfTrailingZeros_0f7a4_33 rfl rfl (by decide) rfl (fun x26 => ?_)
      exact hj6 x26 x25 st
  · refine r_iload_n (q := 13) (i := 0) (z := 0) C dJ6_numberOfTrailingZeros_0f7a4_12 rfl rfl rfl ?_
    refine r_bipush (q := 15) (v := 32) C dJ6_numberOfTrailingZeros_0f7a4_13 rfl (by decide) ?_
    refine r_iand (q := 16) C dJ6_numberOfTrailingZeros_0f7a4_15 rfl ?_
    exact r_iret C dJ6_numberOfTrailingZeros_0f7a4_16

noncomputable def f_J6_bitCount_0f7a4 (a0 : Int32) (st : fSt) : Option (Int32 × fSt) :=
  fLt (a0 - (((a0.toUInt32 >>> (((1 : Int32)).toUInt32 &&& Int32.toUInt32 31)).toInt32) &&& ((1431655765 : Int32)))) fun (x1 : Int32) =>
  fLt ((x1 &&& ((858993459 : Int32))) + (((x1.toUInt32 >>> (((2 : Int32)).toUInt32 &&& Int32.toUInt32 31)).toInt32) &&& ((858993459 : Int32)))) fun (x2 : Int32) =>
  fLt ((x2 + ((x2.toUInt32 >>> (((4 : Int32)).toUInt32 &&& Int32.toUInt32 31)).toInt32)) &&& ((252645135 : Int32))) fun (x3 : Int32) =>
  fLt (x3 + ((x3.toUInt32 >>> (((8 : Int32)).toUInt32 &&& Int32.toUInt32 31)).toInt32)) fun (x4 : Int32) =>
  fLt (x4 + ((x4.toUInt32 >>> (((16 : Int32)).toUInt32 &&& Int32.toUInt32 31)).toInt32)) fun (x5 : Int32) =>
  some (x5 &&& ((63 : Int32)), st)

set_option maxHeartbeats 4000000 in
set_option maxRecDepth 100000 in
theorem c_J6_bitCount_0f7a4 (Δ : fDl) (a0 : Int32)  (st : fSt) : fMt eI Δ yJ6_bitCount_0f7a4 cJ6_bitCount_0f7a4 1 (some .int) 1 [.int a0] st (f_J6_bitCount_0f7a4 a0 st) := by
  unfold f_J6_bitCount_0f7a4
  refine r_method (by decide +kernel) (Nat.le_of_ble_eq_true rfl) (fun Γ C => ?_)
  have C : fC Δ Γ cJ6_bitCount_0f7a4 RJ6 1 (some .int) 1 := C
  refine r_locs (lc' := [(0, .int a0)]) [0] rfl ?_
  refine r_iload_n (q := 1) (i := 0) (z := 0) C dJ6_bitCount_0f7a4_0 rfl rfl rfl ?_
  refine r_iload_n (q := 2) (i := 0) (z := 0) C dJ6_bitCount_0f7a4_1 rfl rfl rfl ?_
  refine r_iconst (q := 3) (v := 1) C dJ6_bitCount_0f7a4_2 rfl (by decide) ?_
  refine r_iushr (q := 4) C dJ6_bitCount_0f7a4_3 rfl ?_
  refine r_ldcw (q := 7) C dJ6_bitCount_0f7a4_4 rfl wc_J6_265 ?_
  refine r_iand (q := 8) C dJ6_bitCount_0f7a4_7 rfl ?_
  refine r_isub (q := 9) C dJ6_bitCount_0f7a4_8 rfl ?_
  refine r_istore_n (q := 10) (i := 0) [] C dJ6_bitCount_0f7a4_9 rfl rfl (by decide) rfl (fun x1 => ?_)
  refine r_iload_n (q := 11) (i := 0) (z := 0) C dJ6_bitCount_0f7a4_10 rfl rfl rfl ?_
  refine r_ldcw (q := 14) C dJ6_bitCount_0f7a4_11 rfl wc_J6_266 ?_
  refine r_iand (q := 15) C dJ6_bitCount_0f7a4_14 rfl ?_
  refine r_iload_n (q := 16) (i := 0) (z := 0) C dJ6_bitCount_0f7a4_15 rfl rfl rfl ?_
  refine r_iconst (q := 17) (v := 2) C dJ6_bitCount_0f7a4_16 rfl (by decide) ?_
  refine r_iushr (q := 18) C dJ6_bitCount_0f7a4_17 rfl ?_
  refine r_ldcw (q := 21) C dJ6_bitCount_0f7a4_18 rfl wc_J6_266 ?_
  refine r_iand (q := 22) C dJ6_bitCount_0f7a4_21 rfl ?_
  refine r_iadd (q := 23) C dJ6_bitCount_0f7a4_22 rfl ?_
  refine r_istore_n (q := 24) (i := 0) [] C dJ6_bitCount_0f7a4_23 rfl rfl (by decide) rfl (fun x2 => ?_)
  refine r_iload_n (q := 25) (i := 0) (z := 0) C dJ6_bitCount_0f7a4_24 rfl rfl rfl ?_
  refine r_iload_n (q := 26) (i := 0) (z := 0) C dJ6_bitCount_0f7a4_25 rfl rfl rfl ?_
  refine r_iconst (q := 27) (v := 4) C dJ6_bitCount_0f7a4_26 rfl (by decide) ?_
  refine r_iushr (q := 28) C dJ6_bitCount_0f7a4_27 rfl ?_
  refine r_iadd (q := 29) C dJ6_bitCount_0f7a4_28 rfl ?_
  refine r_ldcw (q := 32) C dJ6_bitCount_0f7a4_29 rfl wc_J6_267 ?_
  refine r_iand (q := 33) C dJ6_bitCount_0f7a4_32 rfl ?_
  refine r_istore_n (q := 34) (i := 0) [] C dJ6_bitCount_0f7a4_33 rfl rfl (by decide) rfl (fun x3 => ?_)
  refine r_iload_n (q := 35) (i := 0) (z := 0) C dJ6_bitCount_0f7a4_34 rfl rfl rfl ?_
  refine r_iload_n (q := 36) (i := 0) (z := 0) C dJ6_bitCount_0f7a4_35 rfl rfl rfl ?_
  refine r_bipush (q := 38) (v := 8) C dJ6_bitCount_0f7a4_36 rfl (by decide) ?_
  refine r_iushr (q := 39) C dJ6_bitCount_0f7a4_38 rfl ?_
  refine r_iadd (q := 40) C dJ6_bitCount_0f7a4_39 rfl ?_
  refine r_istore_n (q := 41) (i := 0) [] C dJ6_bitCount_0f7a4_40 rfl rfl (by decide) rfl (fun x4 => ?_)
  refine r_iload_n (q := 42) (i := 0) (z := 0) C dJ6_bitCount_0f7a4_41 rfl rfl rfl ?_
  refine r_iload_n (q := 43) (i := 0) (z := 0) C dJ6_bitCount_0f7a4_42 rfl rfl rfl ?_
  refine r_bipush (q := 45) (v := 16) C dJ6_bitCount_0f7a4_43 rfl (by decide) ?_
  refine r_iushr (q := 46) C dJ6_bitCount_0f7a4_45 rfl ?_
  refine r_iadd (q := 47) C dJ6_bitCount_0f7a4_46 rfl ?_
  refine r_istore_n (q := 48) (i := 0) [] C dJ6_bitCount_0f7a4_47 rfl rfl (by decide) rfl (fun x5 => ?_)
  refine r_iload_n (q := 49) (i := 0) (z := 0) C dJ6_bitCount_0f7a4_48 rfl rfl rfl ?_
  refine r_bipush (q := 51) (v := 63) C dJ6_bitCount_0f7a4_49 rfl (by decide) ?_
  refine r_iand (q := 52) C dJ6_bitCount_0f7a4_51 rfl ?_
  exact r_iret C dJ6_bitCount_0f7a4_52

noncomputable def f_J7_fill_d0a16_L6 (c0 : Nat) (i0 : Nat) (j0 : Nat) (n0 : Nat) (a1 : Int64) (x2 : Int32) : Nat → Int32 → fSt → Option (Unit × fSt)
  | 0, _, _ => none
  | n5 + 1, x3, s4 =>
      if x2 ≤ x3 then
        (some ((), s4))
      else
        (fIx x3 n0 <|
        fLt (sB s4 c0 i0 j0 (vp_updL (gB s4 c0 i0 j0) x3.toNatClampNeg a1)) fun s6 =>
        fLt (x3 + (1 : Int32)) fun (x7 : Int32) =>
        f_J7_fill_d0a16_L6 c0 i0 j0 n0 a1 x2 n5 x7 s6)

noncomputable def f_J7_fill_d0a16 (c0 : Nat) (i0 : Nat) (j0 : Nat) (n0 : Nat) (a1 : Int64) (st : fSt) : Option (Unit × fSt) :=
  fLt ((0 : Int32)) fun (x1 : Int32) =>
  fLt (Int32.ofNat n0) fun (x2 : Int32) =>
  f_J7_fill_d0a16_L6 c0 i0 j0 n0 a1 x2 fF x1 st

set_option maxHeartbeats 4000000 in
set_option maxRecDepth 100000 in
theorem c_J7_fill_d0a16 (Δ : fDl) (c0 : Nat) (i0 : Nat) (j0 : Nat) (n0 : Nat) (a1 : Int64) (hk0 : fAK c0 j0 = (3, n0)) (hj0 : c0 < 13 ∧ j0 ≠ 0 ∧ j0 ≤ fNA c0) (hi0 : i0 < fN Δ c0)  (st : fSt) : fMt eV Δ yJ7_fill_d0a16 cJ7_fill_d0a16 5 none 1 [.ref (fad Δ c0 i0 j0), .long a1] st (f_J7_fill_d0a16 c0 i0 j0 n0 a1 st) := by
  unfold f_J7_fill_d0a16
  refine r_method (by decide +kernel) (Nat.le_of_ble_eq_true rfl) (fun Γ C => ?_)
  have C : fC Δ Γ cJ7_fill_d0a16 RJ7 5 none 1 := C
  refine r_locs (lc' := [(0, .ref (fad Δ c0 i0 j0)), (1, .long a1)]) [0, 1] rfl ?_
  refine r_iconst (q := 1) (v := 0) C dJ7_fill_d0a16_0 rfl (by decide) ?_
  refine r_istore_n (q := 2) (i := 3) [(0, .ref (fad Δ c0 i0 j0)), (1, .long a1)] C dJ7_fill_d0a16_1 rfl rfl (by decide) rfl (fun x1 => ?_)
  refine r_aload_n (q := 3) (i := 0) (z := 1) C dJ7_fill_d0a16_2 rfl rfl rfl ?_
  refine r_len (q := 4) (v := Int32.ofNat n0) hk0 (by decide) hj0 C hi0 rfl dJ7_fill_d0a16_3 rfl ?_
  refine r_istore (q := 6) (i := 4) [(3, .int x1), (0, .ref (fad Δ c0 i0 j0)), (1, .long a1)] C dJ7_fill_d0a16_4 rfl (by decide) rfl (fun x2 => ?_)
  refine r_locs (lc' := [(0, .ref (fad Δ c0 i0 j0)), (1, .long a1), (3, .int x1), (4, .int x2)]) [2, 3, 1, 0] rfl ?_
  have L6 : ∀ (n5 : Nat) (x3 : Int32) (s4 : fSt), fW Δ Γ 5 (fQ eV Δ Γ) 6 [(0, .ref (fad Δ c0 i0 j0)), (1, .long a1), (3, .int x3), (4, .int x2)] [] s4 (f_J7_fill_d0a16_L6 c0 i0 j0 n0 a1 x2 n5 x3 s4) := by
    intro n5
    induction n5 with
    | zero =>
      intro x3 s4
      rw [f_J7_fill_d0a16_L6]
      exact r_none
    | succ n5 ih_n5 =>
      intro x3 s4
      rw [f_J7_fill_d0a16_L6]
      refine r_iload_n (q := 7) (i := 3) (z := 2) C dJ7_fill_d0a16_6 rfl rfl rfl ?_
      refine r_iload (q := 9) (i := 4) (z := 3) C dJ7_fill_d0a16_7 rfl rfl ?_
      refine r_icmp_ge (q := 12) (tgt := 22) C dJ7_fill_d0a16_9 (by decide) rfl ?_ ?_
      · exact r_vret C dJ7_fill_d0a16_22
      · refine r_aload_n (q := 13) (i := 0) (z := 0) C dJ7_fill_d0a16_12 rfl rfl rfl ?_
        refine r_iload_n (q := 14) (i := 3) (z := 2) C dJ7_fill_d0a16_13 rfl rfl rfl ?_
        refine r_lload_n (q := 15) (i := 1) (z := 1) C dJ7_fill_d0a16_14 rfl rfl rfl ?_
        refine r_lst (q := 16) hk0 hj0 C hi0 dJ7_fill_d0a16_15 rfl (fun s6 => ?_)
        refine r_iinc (q := 19) (z := 2) (d := 1) [(0, .ref (fad Δ c0 i0 j0)), (1, .long a1), (4, .int x2)] C dJ7_fill_d0a16_16 rfl rfl (by decide) (by decide) rfl (fun x7 => ?_)
        refine r_goto (q := 6) C dJ7_fill_d0a16_19 (by decide) ?_
        refine r_locs (lc' := [(0, .ref (fad Δ c0 i0 j0)), (1, .long a1), (3, .int x7), (4, .int x2)]) [1, 2, 0, 3] rfl ?_
        exact ih_n5 x7 s6
  exact L6 fF x1 st

noncomputable def f_J7_fill_53178_L5 (c0 : Nat) (i0 : Nat) (j0 : Nat) (n0 : Nat) (a1 : Int32) (x2 : Int32) : Nat → Int32 → fSt → Option (Unit × fSt)
  | 0, _, _ => none
  | n5 + 1, x3, s4 =>
      if x2 ≤ x3 then
        (some ((), s4))
      else
        (fIx x3 n0 <|
        fLt (sA s4 c0 i0 j0 (upd (gA s4 c0 i0 j0) x3.toNatClampNeg a1)) fun s6 =>
        fLt (x3 + (1 : Int32)) fun (x7 : Int32) =>
        f_J7_fill_53178_L5 c0 i0 j0 n0 a1 x2 n5 x7 s6)

noncomputable def f_J7_fill_53178 (c0 : Nat) (i0 : Nat) (j0 : Nat) (n0 : Nat) (a1 : Int32) (st : fSt) : Option (Unit × fSt) :=
  fLt ((0 : Int32)) fun (x1 : Int32) =>
  fLt (Int32.ofNat n0) fun (x2 : Int32) =>
  f_J7_fill_53178_L5 c0 i0 j0 n0 a1 x2 fF x1 st

set_option maxHeartbeats 4000000 in
set_option maxRecDepth 100000 in
theorem c_J7_fill_53178 (Δ : fDl) (c0 : Nat) (i0 : Nat) (j0 : Nat) (n0 : Nat) (a1 : Int32) (hk0 : fAK c0 j0 = (0, n0)) (hj0 : c0 < 13 ∧ j0 ≠ 0 ∧ j0 ≤ fNA c0) (hi0 : i0 < fN Δ c0)  (st : fSt) : fMt eV Δ yJ7_fill_53178 cJ7_fill_53178 4 none 1 [.ref (fad Δ c0 i0 j0), .int a1] st (f_J7_fill_53178 c0 i0 j0 n0 a1 st) := by
  unfold f_J7_fill_53178
  refine r_method (by decide +kernel) (Nat.le_of_ble_eq_true rfl) (fun Γ C => ?_)
  have C : fC Δ Γ cJ7_fill_53178 RJ7 4 none 1 := C
  refine r_locs (lc' := [(0, .ref (fad Δ c0 i0 j0)), (1, .int a1)]) [0, 1] rfl ?_
  refine r_iconst (q := 1) (v := 0) C dJ7_fill_53178_0 rfl (by decide) ?_
  refine r_istore_n (q := 2) (i := 2) [(0, .ref (fad Δ c0 i0 j0)), (1, .int a1)] C dJ7_fill_53178_1 rfl rfl (by decide) rfl (fun x1 => ?_)
  refine r_aload_n (q := 3) (i := 0) (z := 1) C dJ7_fill_53178_2 rfl rfl rfl ?_
  refine r_len (q := 4) (v := Int32.ofNat n0) hk0 (by decide) hj0 C hi0 rfl dJ7_fill_53178_3 rfl ?_
  refine r_istore_n (q := 5) (i := 3) [(2, .int x1), (0, .ref (fad Δ c0 i0 j0)), (1, .int a1)] C dJ7_fill_53178_4 rfl rfl (by decide) rfl (fun x2 => ?_)
  refine r_locs (lc' := [(0, .ref (fad Δ c0 i0 j0)), (1, .int a1), (2, .int x1), (3, .int x2)]) [2, 3, 1, 0] rfl ?_
  have L5 : ∀ (n5 : Nat) (x3 : Int32) (s4 : fSt), fW Δ Γ 4 (fQ eV Δ Γ) 5 [(0, .ref (fad Δ c0 i0 j0)), (1, .int a1), (2, .int x3), (3, .int x2)] [] s4 (f_J7_fill_53178_L5 c0 i0 j0 n0 a1 x2 n5 x3 s4) := by
    intro n5
    induction n5 with
    | zero =>
      intro x3 s4
      rw [f_J7_fill_53178_L5]
      exact r_none
    | succ n5 ih_n5 =>
      intro x3 s4
      rw [f_J7_fill_53178_L5]
      refine r_iload_n (q := 6) (i := 2) (z := 2) C dJ7_fill_53178_5 rfl rfl rfl ?_
      refine r_iload_n (q := 7) (i := 3) (z := 3) C dJ7_fill_53178_6 rfl rfl rfl ?_
      refine r_icmp_ge (q := 10) (tgt := 20) C dJ7_fill_53178_7 (by decide) rfl ?_ ?_
      · exact r_vret C dJ7_fill_53178_20
      · refine r_aload_n (q := 11) (i := 0) (z := 0) C dJ7_fill_53178_10 rfl rfl rfl ?_
        refine r_iload_n (q := 12) (i := 2) (z := 2) C dJ7_fill_53178_11 rfl rfl rfl ?_
        refine r_iload_n (q := 13) (i := 1) (z := 1) C dJ7_fill_53178_12 rfl rfl rfl ?_
        refine r_ast (q := 14) hk0 hj0 C hi0 dJ7_fill_53178_13 rfl (fun s6 => ?_)
        refine r_iinc (q := 17) (z := 2) (d := 1) [(0, .ref (fad Δ c0 i0 j0)), (1, .int a1), (3, .int x2)] C dJ7_fill_53178_14 rfl rfl (by decide) (by decide) rfl (fun x7 => ?_)
        refine r_goto (q := 5) C dJ7_fill_53178_17 (by decide) ?_
        refine r_locs (lc' := [(0, .ref (fad Δ c0 i0 j0)), (1, .int a1), (2, .int x7), (3, .int x2)]) [1, 2, 0, 3] rfl ?_
        exact ih_n5 x7 s6
  exact L5 fF x1 st

noncomputable def f_X0_clear (i0 : Nat) (st : fSt) : Option (Unit × fSt) :=
  fLt (sI st 0 i0 0 ((0 : Int32))) fun s1 =>
  some ((), s1)

set_option maxHeartbeats 4000000 in
set_option maxRecDepth 100000 in
theorem c_X0_clear (Δ : fDl) (hN : fNx Δ) (i0 : Nat) (hi0 : i0 < fN Δ 0)  (st : fSt) : fMt eV Δ yX0_clear cX0_clear 1 none 1 [.ref (fad Δ 0 i0 0)] st (f_X0_clear i0 st) := by
  unfold f_X0_clear
  refine r_method (by decide +kernel) (Nat.le_of_ble_eq_true rfl) (fun Γ C => ?_)
  have C : fC Δ Γ cX0_clear RX0 1 none 1 := C
  refine r_locs (lc' := [(0, .ref (fad Δ 0 i0 0))]) [0] rfl ?_
  refine r_aload_n (q := 1) (i := 0) (z := 0) C dX0_clear_0 rfl rfl rfl ?_
  refine r_iconst (q := 2) (v := 0) C dX0_clear_1 rfl (by decide) ?_
  refine p_X0_13 (q := 5) C hi0 dX0_clear_2 rfl (fun s1 => ?_)
  exact r_vret C dX0_clear_5

noncomputable def f_X0_takeFrom (i0 : Nat) (i1 : Nat) (st : fSt) : Option (Unit × fSt) :=
  fLt (sI st 0 i0 0 (gI st 0 i1 0)) fun s1 =>
  fCp ((0 : Int32)) ((0 : Int32)) ((80 : Int32)) 80 80 <|
  fLt (sA s1 0 i0 1 (va_cpy (gA s1 0 i1 1) (gA s1 0 i0 1) ((0 : Int32)).toNatClampNeg ((0 : Int32)).toNatClampNeg ((80 : Int32)).toNatClampNeg)) fun s2 =>
  some ((), s2)

set_option maxHeartbeats 4000000 in
set_option maxRecDepth 100000 in
theorem c_X0_takeFrom (Δ : fDl) (hN : fNx Δ) (i0 : Nat) (i1 : Nat) (hi0 : i0 < fN Δ 0) (hi1 : i1 < fN Δ 0)  (st : fSt) : fMt eV Δ yX0_takeFrom cX0_takeFrom 2 none 1 [.ref (fad Δ 0 i0 0), .ref (fad Δ 0 i1 0)] st (f_X0_takeFrom i0 i1 st) := by
  unfold f_X0_takeFrom
  refine r_method (by decide +kernel) (Nat.le_of_ble_eq_true rfl) (fun Γ C => ?_)
  have C : fC Δ Γ cX0_takeFrom RX0 2 none 1 := C
  refine r_locs (lc' := [(0, .ref (fad Δ 0 i0 0)), (1, .ref (fad Δ 0 i1 0))]) [0, 1] rfl ?_
  refine r_aload_n (q := 1) (i := 0) (z := 0) C dX0_takeFrom_0 rfl rfl rfl ?_
  refine r_aload_n (q := 2) (i := 1) (z := 1) C dX0_takeFrom_1 rfl rfl rfl ?_
  refine g_X0_13 (q := 5) C hi1 dX0_takeFrom_2 rfl ?_
  refine p_X0_13 (q := 8) C hi0 dX0_takeFrom_5 rfl (fun s1 => ?_)
  refine r_aload_n (q := 9) (i := 1) (z := 1) C dX0_takeFrom_8 rfl rfl rfl ?_
  refine g_X0_9 (q := 12) C hi1 dX0_takeFrom_9 rfl ?_
  refine r_iconst (q := 13) (v := 0) C dX0_takeFrom_12 rfl (by decide) ?_
  refine r_aload_n (q := 14) (i := 0) (z := 0) C dX0_takeFrom_13 rfl rfl rfl ?_
  refine g_X0_9 (q := 17) C hi0 dX0_takeFrom_14 rfl ?_
  refine r_iconst (q := 18) (v := 0) C dX0_takeFrom_17 rfl (by decide) ?_
  refine r_aload_n (q := 19) (i := 0) (z := 0) C dX0_takeFrom_18 rfl rfl rfl ?_
  refine g_X0_9 (q := 22) C hi0 dX0_takeFrom_19 rfl ?_
  refine r_len (q := 23) (v := (80 : Int32)) q_0_1 (by decide) h_0_1 C hi0 rfl dX0_takeFrom_22 rfl ?_
  refine r_copyI (q := 26) wk_X0_17 mw_copy.1 mw_copy.2.1 mw_copy.2.2 q_0_1 q_0_1 h_0_1 h_0_1 C (by decide) (Nat.le_of_ble_eq_true rfl) hi1 hi0 dX0_takeFrom_23 rfl (fun s2 => ?_)
  exact r_vret C dX0_takeFrom_26

noncomputable def f_X0_note (i0 : Nat) (i1 : Nat) (st : fSt) : Option (Unit × fSt) :=
  fCp ((0 : Int32)) ((4 : Int32)) (((80 : Int32)) - ((4 : Int32))) 80 80 <|
  fLt (sA st 0 i0 1 (va_cpy (gA st 0 i0 1) (gA st 0 i0 1) ((0 : Int32)).toNatClampNeg ((4 : Int32)).toNatClampNeg (((80 : Int32)) - ((4 : Int32))).toNatClampNeg)) fun s1 =>
  fIx ((0 : Int32)) 80 <|
  fLt (sA s1 0 i0 1 (upd (gA s1 0 i0 1) ((0 : Int32)).toNatClampNeg (gI s1 3 i1 0))) fun s2 =>
  fIx ((1 : Int32)) 80 <|
  fLt (sA s2 0 i0 1 (upd (gA s2 0 i0 1) ((1 : Int32)).toNatClampNeg (gI s2 3 i1 1))) fun s3 =>
  fIx ((2 : Int32)) 80 <|
  fLt (sA s3 0 i0 1 (upd (gA s3 0 i0 1) ((2 : Int32)).toNatClampNeg (gI s3 3 i1 2))) fun s4 =>
  fIx ((3 : Int32)) 80 <|
  fLt (sA s4 0 i0 1 (upd (gA s4 0 i0 1) ((3 : Int32)).toNatClampNeg (gI s4 3 i1 3))) fun s5 =>
  fLt (sI s5 0 i0 0 (if ((20 : Int32)) < ((gI s5 0 i0 0) + ((1 : Int32))) then ((20 : Int32)) else ((gI s5 0 i0 0) + ((1 : Int32))))) fun s6 =>
  some ((), s6)

set_option maxHeartbeats 4000000 in
set_option maxRecDepth 100000 in
theorem c_X0_note (Δ : fDl) (hN : fNx Δ) (i0 : Nat) (i1 : Nat) (hi0 : i0 < fN Δ 0) (hi1 : i1 < fN Δ 3)  (st : fSt) : fMt eV Δ yX0_note cX0_note 2 none 1 [.ref (fad Δ 0 i0 0), .ref (fad Δ 3 i1 0)] st (f_X0_note i0 i1 st) := by
  unfold f_X0_note
  refine r_method (by decide +kernel) (Nat.le_of_ble_eq_true rfl) (fun Γ C => ?_)
  have C : fC Δ Γ cX0_note RX0 2 none 1 := C
  refine r_locs (lc' := [(0, .ref (fad Δ 0 i0 0)), (1, .ref (fad Δ 3 i1 0))]) [0, 1] rfl ?_
  refine r_aload_n (q := 1) (i := 0) (z := 0) C dX0_note_0 rfl rfl rfl ?_
  refine g_X0_9 (q := 4) C hi0 dX0_note_1 rfl ?_
  refine r_iconst (q := 5) (v := 0) C dX0_note_4 rfl (by decide) ?_
  refine r_aload_n (q := 6) (i := 0) (z := 0) C dX0_note_5 rfl rfl rfl ?_
  refine g_X0_9 (q := 9) C hi0 dX0_note_6 rfl ?_
  refine r_iconst (q := 10) (v := 4) C dX0_note_9 rfl (by decide) ?_
  refine r_aload_n (q := 11) (i := 0) (z := 0) C dX0_note_10 rfl rfl rfl ?_
  refine g_X0_9 (q := 14) C hi0 dX0_note_11 rfl ?_
  refine r_len (q := 15) (v := (80 : Int32)) q_0_1 (by decide) h_0_1 C hi0 rfl dX0_note_14 rfl ?_
  refine r_iconst (q := 16) (v := 4) C dX0_note_15 rfl (by decide) ?_
  refine r_isub (q := 17) C dX0_note_16 rfl ?_
  refine r_copyI (q := 20) wk_X0_17 mw_copy.1 mw_copy.2.1 mw_copy.2.2 q_0_1 q_0_1 h_0_1 h_0_1 C (by decide) (Nat.le_of_ble_eq_true rfl) hi0 hi0 dX0_note_17 rfl (fun s1 => ?_)
  refine r_aload_n (q := 21) (i := 0) (z := 0) C dX0_note_20 rfl rfl rfl ?_
  refine g_X0_9 (q := 24) C hi0 dX0_note_21 rfl ?_
  refine r_iconst (q := 25) (v := 0) C dX0_note_24 rfl (by decide) ?_
  refine r_aload_n (q := 26) (i := 1) (z := 1) C dX0_note_25 rfl rfl rfl ?_
  refine g_X0_23 (q := 29) C hi1 dX0_note_26 rfl ?_
  refine r_ast (q := 30) q_0_1 h_0_1 C hi0 dX0_note_29 rfl (fun s2 => ?_)
  refine r_aload_n (q := 31) (i := 0) (z := 0) C dX0_note_30 rfl rfl rfl ?_
  refine g_X0_9 (q := 34) C hi0 dX0_note_31 rfl ?_
  refine r_iconst (q := 35) (v := 1) C dX0_note_34 rfl (by decide) ?_
  refine r_aload_n (q := 36) (i := 1) (z := 1) C dX0_note_35 rfl rfl rfl ?_
  refine g_X0_28 (q := 39) C hi1 dX0_note_36 rfl ?_
  refine r_ast (q := 40) q_0_1 h_0_1 C hi0 dX0_note_39 rfl (fun s3 => ?_)
  refine r_aload_n (q := 41) (i := 0) (z := 0) C dX0_note_40 rfl rfl rfl ?_
  refine g_X0_9 (q := 44) C hi0 dX0_note_41 rfl ?_
  refine r_iconst (q := 45) (v := 2) C dX0_note_44 rfl (by decide) ?_
  refine r_aload_n (q := 46) (i := 1) (z := 1) C dX0_note_45 rfl rfl rfl ?_
  refine g_X0_31 (q := 49) C hi1 dX0_note_46 rfl ?_
  refine r_ast (q := 50) q_0_1 h_0_1 C hi0 dX0_note_49 rfl (fun s4 => ?_)
  refine r_aload_n (q := 51) (i := 0) (z := 0) C dX0_note_50 rfl rfl rfl ?_
  refine g_X0_9 (q := 54) C hi0 dX0_note_51 rfl ?_
  refine r_iconst (q := 55) (v := 3) C dX0_note_54 rfl (by decide) ?_
  refine r_aload_n (q := 56) (i := 1) (z := 1) C dX0_note_55 rfl rfl rfl ?_
  refine g_X0_34 (q := 59) C hi1 dX0_note_56 rfl ?_
  refine r_ast (q := 60) q_0_1 h_0_1 C hi0 dX0_note_59 rfl (fun s5 => ?_)
  refine r_aload_n (q := 61) (i := 0) (z := 0) C dX0_note_60 rfl rfl rfl ?_
  refine r_aload_n (q := 62) (i := 0) (z := 0) C dX0_note_61 rfl rfl rfl ?_
  refine g_X0_13 (q := 65) C hi0 dX0_note_62 rfl ?_
  refine r_iconst (q := 66) (v := 1) C dX0_note_65 rfl (by decide) ?_
  refine r_iadd (q := 67) C dX0_note_66 rfl ?_
  refine r_bipush (q := 69) (v := 20) C dX0_note_67 rfl (by decide) ?_
  refine r_min (q := 72) wk_X0_37 mw_min.1 mw_min.2.1 mw_min.2.2 C (by decide) (Nat.le_of_ble_eq_true rfl) dX0_note_69 rfl ?_
  refine p_X0_13 (q := 75) C hi0 dX0_note_72 rfl (fun s6 => ?_)
  exact r_vret C dX0_note_75

noncomputable def f_X0_entry (i0 : Nat) (a1 : Int32) (a2 : Int32) (st : fSt) : Option (Int32 × fSt) :=
  fIx ((a1 * ((4 : Int32))) + a2) 80 <|
  some (gA st 0 i0 1 ((a1 * ((4 : Int32))) + a2).toNatClampNeg, st)

set_option maxHeartbeats 4000000 in
set_option maxRecDepth 100000 in
theorem c_X0_entry (Δ : fDl) (hN : fNx Δ) (i0 : Nat) (a1 : Int32) (a2 : Int32) (hi0 : i0 < fN Δ 0)  (st : fSt) : fMt eI Δ yX0_entry cX0_entry 3 (some .int) 1 [.ref (fad Δ 0 i0 0), .int a1, .int a2] st (f_X0_entry i0 a1 a2 st) := by
  unfold f_X0_entry
  refine r_method (by decide +kernel) (Nat.le_of_ble_eq_true rfl) (fun Γ C => ?_)
  have C : fC Δ Γ cX0_entry RX0 3 (some .int) 1 := C
  refine r_locs (lc' := [(0, .ref (fad Δ 0 i0 0)), (1, .int a1), (2, .int a2)]) [0, 1, 2] rfl ?_
  refine r_aload_n (q := 1) (i := 0) (z := 0) C dX0_entry_0 rfl rfl rfl ?_
  refine g_X0_9 (q := 4) C hi0 dX0_entry_1 rfl ?_
  refine r_iload_n (q := 5) (i := 1) (z := 1) C dX0_entry_4 rfl rfl rfl ?_
  refine r_iconst (q := 6) (v := 4) C dX0_entry_5 rfl (by decide) ?_
  refine r_imul (q := 7) C dX0_entry_6 rfl ?_
  refine r_iload_n (q := 8) (i := 2) (z := 2) C dX0_entry_7 rfl rfl rfl ?_
  refine r_iadd (q := 9) C dX0_entry_8 rfl ?_
  refine r_ial (q := 10) q_0_1 h_0_1 C hi0 dX0_entry_9 rfl ?_
  exact r_iret C dX0_entry_10

noncomputable def f_X0_seenInAll_L4 (i0 : Nat) : Nat → Int32 → Int32 → fSt → Option (Int32 × fSt)
  | 0, _, _, _ => none
  | n6 + 1, x3, x4, s5 =>
      if (gI s5 0 i0 0) ≤ x4 then
        (some (x3, s5))
      else
        (fBd (f_X0_entry i0 x4 ((0 : Int32)) s5) fun x7 s8 =>
        fLt (x3 ||| x7) fun (x9 : Int32) =>
        fLt (x4 + (1 : Int32)) fun (x10 : Int32) =>
        f_X0_seenInAll_L4 i0 n6 x9 x10 s8)

noncomputable def f_X0_seenInAll (i0 : Nat) (st : fSt) : Option (Int32 × fSt) :=
  fLt ((0 : Int32)) fun (x1 : Int32) =>
  fLt ((0 : Int32)) fun (x2 : Int32) =>
  f_X0_seenInAll_L4 i0 fF x1 x2 st

set_option maxHeartbeats 4000000 in
set_option maxRecDepth 100000 in
theorem c_X0_seenInAll (Δ : fDl) (hN : fNx Δ) (i0 : Nat) (hi0 : i0 < fN Δ 0)  (st : fSt) : fMt eI Δ yX0_seenInAll cX0_seenInAll 3 (some .int) 2 [.ref (fad Δ 0 i0 0)] st (f_X0_seenInAll i0 st) := by
  unfold f_X0_seenInAll
  refine r_method (by decide +kernel) (Nat.le_of_ble_eq_true rfl) (fun Γ C => ?_)
  have C : fC Δ Γ cX0_seenInAll RX0 3 (some .int) 2 := C
  refine r_locs (lc' := [(0, .ref (fad Δ 0 i0 0))]) [0] rfl ?_
  refine r_iconst (q := 1) (v := 0) C dX0_seenInAll_0 rfl (by decide) ?_
  refine r_istore_n (q := 2) (i := 1) [(0, .ref (fad Δ 0 i0 0))] C dX0_seenInAll_1 rfl rfl (by decide) rfl (fun x1 => ?_)
  refine r_iconst (q := 3) (v := 0) C dX0_seenInAll_2 rfl (by decide) ?_
  refine r_istore_n (q := 4) (i := 2) [(1, .int x1), (0, .ref (fad Δ 0 i0 0))] C dX0_seenInAll_3 rfl rfl (by decide) rfl (fun x2 => ?_)
  refine r_locs (lc' := [(0, .ref (fad Δ 0 i0 0)), (1, .int x1), (2, .int x2)]) [2, 1, 0] rfl ?_
  have L4 : ∀ (n6 : Nat) (x3 : Int32) (x4 : Int32) (s5 : fSt), fW Δ Γ 3 (fQ eI Δ Γ) 4 [(0, .ref (fad Δ 0 i0 0)), (1, .int x3), (2, .int x4)] [] s5 (f_X0_seenInAll_L4 i0 n6 x3 x4 s5) := by
    intro n6
    induction n6 with
    | zero =>
      intro x3 x4 s5
      rw [f_X0_seenInAll_L4]
      exact r_none
    | succ n6 ih_n6 =>
      intro x3 x4 s5
      rw [f_X0_seenInAll_L4]
      refine r_iload_n (q := 5) (i := 2) (z := 2) C dX0_seenInAll_4 rfl rfl rfl ?_
      refine r_aload_n (q := 6) (i := 0) (z := 0) C dX0_seenInAll_5 rfl rfl rfl ?_
      refine g_X0_13 (q := 9) C hi0 dX0_seenInAll_6 rfl ?_
      refine r_icmp_ge (q := 12) (tgt := 27) C dX0_seenInAll_9 (by decide) rfl ?_ ?_
      · refine r_iload_n (q := 28) (i := 1) (z := 1) C dX0_seenInAll_27 rfl rfl rfl ?_
        exact r_iret C dX0_seenInAll_28
      · refine r_iload_n (q := 13) (i := 1) (z := 1) C dX0_seenInAll_12 rfl rfl rfl ?_
        refine r_aload_n (q := 14) (i := 0) (z := 0) C dX0_seenInAll_13 rfl rfl rfl ?_
        refine r_iload_n (q := 15) (i := 2) (z := 2) C dX0_seenInAll_14 rfl rfl rfl ?_
        refine r_iconst (q := 16) (v := 0) C dX0_seenInAll_15 rfl (by decide) ?_
        refine r_callVI (q := 19) (As := [.int x4, .int ((0 : Int32))]) wm_X0_43 yvX0_entry (c_X0_entry Δ hN i0 x4 ((0 : Int32)) hi0 s5) ⟨rfl, by decide⟩ C hi0 (by decide) rfl (Nat.le_of_ble_eq_true rfl) dX0_seenInAll_16 rfl (fun x7 s8 => ?_)
        refine r_ior (q := 20) C dX0_seenInAll_19 rfl ?_
        refine r_istore_n (q := 21) (i := 1) [(0, .ref (fad Δ 0 i0 0)), (2, .int x4)] C dX0_seenInAll_20 rfl rfl (by decide) rfl (fun x9 => ?_)
        refine r_iinc (q := 24) (z := 2) (d := 1) [(1, .int x9), (0, .ref (fad Δ 0 i0 0))] C dX0_seenInAll_21 rfl rfl (by decide) (by decide) rfl (fun x10 => ?_)
        refine r_goto (q := 4) C dX0_seenInAll_24 (by decide) ?_
        refine r_locs (lc' := [(0, .ref (fad Δ 0 i0 0)), (1, .int x9), (2, .int x10)]) [2, 1, 0] rfl ?_
        exact ih_n6 x9 x10 s8
  exact L4 fF x1 x2 st

noncomputable def f_X0_timesSeen_L4 (i0 : Nat) (a1 : Int32) : Nat → Int32 → Int32 → fSt → Option (Int32 × fSt)
  | 0, _, _, _ => none
  | n6 + 1, x3, x4, s5 =>
      if (gI s5 0 i0 0) ≤ x4 then
        (some (x3, s5))
      else
        (fBd (f_X0_entry i0 x4 ((0 : Int32)) s5) fun x7 s8 =>
        fLt (x3 + ((x7 >>> (a1 &&& 31)) &&& ((1 : Int32)))) fun (x9 : Int32) =>
        fLt (x4 + (1 : Int32)) fun (x10 : Int32) =>
        f_X0_timesSeen_L4 i0 a1 n6 x9 x10 s8)

noncomputable def f_X0_timesSeen (i0 : Nat) (a1 : Int32) (st : fSt) : Option (Int32 × fSt) :=
  fLt ((0 : Int32)) fun (x1 : Int32) =>
  fLt ((0 : Int32)) fun (x2 : Int32) =>
  f_X0_timesSeen_L4 i0 a1 fF x1 x2 st

set_option maxHeartbeats 4000000 in
set_option maxRecDepth 100000 in
theorem c_X0_timesSeen (Δ : fDl) (hN : fNx Δ) (i0 : Nat) (a1 : Int32) (hi0 : i0 < fN Δ 0)  (st : fSt) : fMt eI Δ yX0_timesSeen cX0_timesSeen 4 (some .int) 2 [.ref (fad Δ 0 i0 0), .int a1] st (f_X0_timesSeen i0 a1 st) := by
  unfold f_X0_timesSeen
  refine r_method (by decide +kernel) (Nat.le_of_ble_eq_true rfl) (fun Γ C => ?_)
  have C : fC Δ Γ cX0_timesSeen RX0 4 (some .int) 2 := C
  refine r_locs (lc' := [(0, .ref (fad Δ 0 i0 0)), (1, .int a1)]) [0, 1] rfl ?_
  refine r_iconst (q := 1) (v := 0) C dX0_timesSeen_0 rfl (by decide) ?_
  refine r_istore_n (q := 2) (i := 2) [(0, .ref (fad Δ 0 i0 0)), (1, .int a1)] C dX0_timesSeen_1 rfl rfl (by decide) rfl (fun x1 => ?_)
  refine r_iconst (q := 3) (v := 0) C dX0_timesSeen_2 rfl (by decide) ?_
  refine r_istore_n (q := 4) (i := 3) [(2, .int x1), (0, .ref (fad Δ 0 i0 0)), (1, .int a1)] C dX0_timesSeen_3 rfl rfl (by decide) rfl (fun x2 => ?_)
  refine r_locs (lc' := [(0, .ref (fad Δ 0 i0 0)), (1, .int a1), (2, .int x1), (3, .int x2)]) [2, 3, 1, 0] rfl ?_
  have L4 : ∀ (n6 : Nat) (x3 : Int32) (x4 : Int32) (s5 : fSt), fW Δ Γ 4 (fQ eI Δ Γ) 4 [(0, .ref (fad Δ 0 i0 0)), (1, .int a1), (2, .int x3), (3, .int x4)] [] s5 (f_X0_timesSeen_L4 i0 a1 n6 x3 x4 s5) := by
    intro n6
    induction n6 with
    | zero =>
      intro x3 x4 s5
      rw [f_X0_timesSeen_L4]
      exact r_none
    | succ n6 ih_n6 =>
      intro x3 x4 s5
      rw [f_X0_timesSeen_L4]
      refine r_iload_n (q := 5) (i := 3) (z := 3) C dX0_timesSeen_4 rfl rfl rfl ?_
      refine r_aload_n (q := 6) (i := 0) (z := 0) C dX0_timesSeen_5 rfl rfl rfl ?_
      refine g_X0_13 (q := 9) C hi0 dX0_timesSeen_6 rfl ?_
      refine r_icmp_ge (q := 12) (tgt := 31) C dX0_timesSeen_9 (by decide) rfl ?_ ?_
      · refine r_iload_n (q := 32) (i := 2) (z := 2) C dX0_timesSeen_31 rfl rfl rfl ?_
        exact r_iret C dX0_timesSeen_32
      · refine r_iload_n (q := 13) (i := 2) (z := 2) C dX0_timesSeen_12 rfl rfl rfl ?_
        refine r_aload_n (q := 14) (i := 0) (z := 0) C dX0_timesSeen_13 rfl rfl rfl ?_
        refine r_iload_n (q := 15) (i := 3) (z := 3) C dX0_timesSeen_14 rfl rfl rfl ?_
        refine r_iconst (q := 16) (v := 0) C dX0_timesSeen_15 rfl (by decide) ?_
        refine r_callVI (q := 19) (As := [.int x4, .int ((0 : Int32))]) wm_X0_43 yvX0_entry (c_X0_entry Δ hN i0 x4 ((0 : Int32)) hi0 s5) ⟨rfl, by decide⟩ C hi0 (by decide) rfl (Nat.le_of_ble_eq_true rfl) dX0_timesSeen_16 rfl (fun x7 s8 => ?_)
        refine r_iload_n (q := 20) (i := 1) (z := 1) C dX0_timesSeen_19 rfl rfl rfl ?_
        refine r_ishr (q := 21) C dX0_timesSeen_20 rfl ?_
        refine r_iconst (q := 22) (v := 1) C dX0_timesSeen_21 rfl (by decide) ?_
        refine r_iand (q := 23) C dX0_timesSeen_22 rfl ?_
        refine r_iadd (q := 24) C dX0_timesSeen_23 rfl ?_
        refine r_istore_n (q := 25) (i := 2) [(0, .ref (fad Δ 0 i0 0)), (1, .int a1), (3, .int x4)] C dX0_timesSeen_24 rfl rfl (by decide) rfl (fun x9 => ?_)
        refine r_iinc (q := 28) (z := 3) (d := 1) [(2, .int x9), (0, .ref (fad Δ 0 i0 0)), (1, .int a1)] C dX0_timesSeen_25 rfl rfl (by decide) (by decide) rfl (fun x10 => ?_)
        refine r_goto (q := 4) C dX0_timesSeen_28 (by decide) ?_
        refine r_locs (lc' := [(0, .ref (fad Δ 0 i0 0)), (1, .int a1), (2, .int x9), (3, .int x10)]) [2, 3, 1, 0] rfl ?_
        exact ih_n6 x9 x10 s8
  exact L4 fF x1 x2 st

noncomputable def f_X0_seenWith_L4 (i0 : Nat) (a1 : Int32) : Nat → Int32 → Int32 → fSt → Option (Int32 × fSt)
  | 0, _, _, _ => none
  | n6 + 1, x3, x4, s5 =>
      if (gI s5 0 i0 0) ≤ x4 then
        (some (x3, s5))
      else
        (fBd (f_X0_entry i0 x4 ((1 : Int32)) s5) fun x7 s8 =>
        fJn (fun (x9 : Int32) (s10 : fSt) =>
          (fLt (x4 + (1 : Int32)) fun (x12 : Int32) =>
          f_X0_seenWith_L4 i0 a1 n6 x9 x12 s10)) fun (j11 : Int32 → fSt → Option (Int32 × fSt)) =>
        if ¬ x7 = a1 then
          (j11 x3 s8)
        else
          (fBd (f_X0_entry i0 x4 ((0 : Int32)) s8) fun x13 s14 =>
          fLt (x3 ||| x13) fun (x15 : Int32) =>
          j11 x15 s14))

noncomputable def f_X0_seenWith (i0 : Nat) (a1 : Int32) (st : fSt) : Option (Int32 × fSt) :=
  fLt ((0 : Int32)) fun (x1 : Int32) =>
  fLt ((0 : Int32)) fun (x2 : Int32) =>
  f_X0_seenWith_L4 i0 a1 fF x1 x2 st

set_option maxHeartbeats 4000000 in
set_option maxRecDepth 100000 in
theorem c_X0_seenWith (Δ : fDl) (hN : fNx Δ) (i0 : Nat) (a1 : Int32) (hi0 : i0 < fN Δ 0)  (st : fSt) : fMt eI Δ yX0_seenWith cX0_seenWith 4 (some .int) 2 [.ref (fad Δ 0 i0 0), .int a1] st (f_X0_seenWith i0 a1 st) := by
  unfold f_X0_seenWith
  refine r_method (by decide +kernel) (Nat.le_of_ble_eq_true rfl) (fun Γ C => ?_)
  have C : fC Δ Γ cX0_seenWith RX0 4 (some .int) 2 := C
  refine r_locs (lc' := [(0, .ref (fad Δ 0 i0 0)), (1, .int a1)]) [0, 1] rfl ?_
  refine r_iconst (q := 1) (v := 0) C dX0_seenWith_0 rfl (by decide) ?_
  refine r_istore_n (q := 2) (i := 2) [(0, .ref (fad Δ 0 i0 0)), (1, .int a1)] C dX0_seenWith_1 rfl rfl (by decide) rfl (fun x1 => ?_)
  refine r_iconst (q := 3) (v := 0) C dX0_seenWith_2 rfl (by decide) ?_
  refine r_istore_n (q := 4) (i := 3) [(2, .int x1), (0, .ref (fad Δ 0 i0 0)), (1, .int a1)] C dX0_seenWith_3 rfl rfl (by decide) rfl (fun x2 => ?_)
  refine r_locs (lc' := [(0, .ref (fad Δ 0 i0 0)), (1, .int a1), (2, .int x1), (3, .int x2)]) [2, 3, 1, 0] rfl ?_
  have L4 : ∀ (n6 : Nat) (x3 : Int32) (x4 : Int32) (s5 : fSt), fW Δ Γ 4 (fQ eI Δ Γ) 4 [(0, .ref (fad Δ 0 i0 0)), (1, .int a1), (2, .int x3), (3, .int x4)] [] s5 (f_X0_seenWith_L4 i0 a1 n6 x3 x4 s5) := by
    intro n6
    induction n6 with
    | zero =>
      intro x3 x4 s5
      rw [f_X0_seenWith_L4]
      exact r_none
    | succ n6 ih_n6 =>
      intro x3 x4 s5
      rw [f_X0_seenWith_L4]
      refine r_iload_n (q := 5) (i := 3) (z := 3) C dX0_seenWith_4 rfl rfl rfl ?_
      refine r_aload_n (q := 6) (i := 0) (z := 0) C dX0_seenWith_5 rfl rfl rfl ?_
      refine g_X0_13 (q := 9) C hi0 dX0_seenWith_6 rfl ?_
      refine r_icmp_ge (q := 12) (tgt := 37) C dX0_seenWith_9 (by decide) rfl ?_ ?_
      · refine r_iload_n (q := 38) (i := 2) (z := 2) C dX0_seenWith_37 rfl rfl rfl ?_
        exact r_iret C dX0_seenWith_38
      · refine r_aload_n (q := 13) (i := 0) (z := 0) C dX0_seenWith_12 rfl rfl rfl ?_
        refine r_iload_n (q := 14) (i := 3) (z := 3) C dX0_seenWith_13 rfl rfl rfl ?_
        refine r_iconst (q := 15) (v := 1) C dX0_seenWith_14 rfl (by decide) ?_
        refine r_callVI (q := 18) (As := [.int x4, .int ((1 : Int32))]) wm_X0_43 yvX0_entry (c_X0_entry Δ hN i0 x4 ((1 : Int32)) hi0 s5) ⟨rfl, by decide⟩ C hi0 (by decide) rfl (Nat.le_of_ble_eq_true rfl) dX0_seenWith_15 rfl (fun x7 s8 => ?_)
        refine r_iload_n (q := 19) (i := 1) (z := 1) C dX0_seenWith_18 rfl rfl rfl ?_
        refine r_join (fun j11 => ∀ (x9 : Int32) (s10 : fSt), fW Δ Γ 4 (fQ eI Δ Γ) 31 [(0, .ref (fad Δ 0 i0 0)), (1, .int a1), (2, .int x9), (3, .int x4)] [] s10 (j11 x9 s10)) ?_ (fun j11 hj11 => ?_)
        · intro x9 s10
          refine r_iinc (q := 34) (z := 3) (d := 1) [(0, .ref (fad Δ 0 i0 0)), (1, .int a1), (2, .int x9)] C dX0_seenWith_31 rfl rfl (by decide) (by decide) rfl (fun x12 => ?_)
          refine r_goto (q := 4) C dX0_seenWith_34 (by decide) ?_
          refine r_locs (lc' := [(0, .ref (fad Δ 0 i0 0)), (1, .int a1), (2, .int x9), (3, .int x12)]) [1, 2, 3, 0] rfl ?_
          exact ih_n6 x9 x12 s10
        refine r_icmp_ne (q := 22) (tgt := 31) C dX0_seenWith_19 (by decide) rfl ?_ ?_
        · exact hj11 x3 s8
        · refine r_iload_n (q := 23) (i := 2) (z := 2) C dX0_seenWith_22 rfl rfl rfl ?_
          refine r_aload_n (q := 24) (i := 0) (z := 0) C dX0_seenWith_23 rfl rfl rfl ?_
          refine r_iload_n (q := 25) (i := 3) (z := 3) C dX0_seenWith_24 rfl rfl rfl ?_
          refine r_iconst (q := 26) (v := 0) C dX0_seenWith_25 rfl (by decide) ?_
          refine r_callVI (q := 29) (As := [.int x4, .int ((0 : Int32))]) wm_X0_43 yvX0_entry (c_X0_entry Δ hN i0 x4 ((0 : Int32)) hi0 s8) ⟨rfl, by decide⟩ C hi0 (by decide) rfl (Nat.le_of_ble_eq_true rfl) dX0_seenWith_26 rfl (fun x13 s14 => ?_)
          refine r_ior (q := 30) C dX0_seenWith_29 rfl ?_
          refine r_istore_n (q := 31) (i := 2) [(0, .ref (fad Δ 0 i0 0)), (1, .int a1), (3, .int x4)] C dX0_seenWith_30 rfl rfl (by decide) rfl (fun x15 => ?_)
          refine r_locs (lc' := [(0, .ref (fad Δ 0 i0 0)), (1, .int a1), (2, .int x15), (3, .int x4)]) [1, 2, 0, 3] rfl ?_
          exact hj11 x15 s14
  exact L4 fF x1 x2 st

noncomputable def f_X7_linesOfRole_L4 (i0 : Nat) (a1 : Int32) : Nat → Int32 → Int32 → fSt → Option (Int32 × fSt)
  | 0, _, _, _ => none
  | n6 + 1, x3, x4, s5 =>
      if (gI s5 7 i0 2) ≤ x4 then
        (some (x3, s5))
      else
        (fIx x4 12 <|
        fIx x4 12 <|
        fLt (x3 + ((gA s5 7 i0 8 x4.toNatClampNeg) * (((gA s5 7 i0 9 x4.toNatClampNeg) >>> (a1 &&& 31)) &&& ((1 : Int32))))) fun (x7 : Int32) =>
        fLt (x4 + (1 : Int32)) fun (x8 : Int32) =>
        f_X7_linesOfRole_L4 i0 a1 n6 x7 x8 s5)

noncomputable def f_X7_linesOfRole (i0 : Nat) (a1 : Int32) (st : fSt) : Option (Int32 × fSt) :=
  fLt ((0 : Int32)) fun (x1 : Int32) =>
  fLt ((0 : Int32)) fun (x2 : Int32) =>
  f_X7_linesOfRole_L4 i0 a1 fF x1 x2 st

set_option maxHeartbeats 4000000 in
set_option maxRecDepth 100000 in
theorem c_X7_linesOfRole (Δ : fDl) (hN : fNx Δ) (i0 : Nat) (a1 : Int32) (hi0 : i0 < fN Δ 7)  (st : fSt) : fMt eI Δ yX7_linesOfRole cX7_linesOfRole 4 (some .int) 1 [.ref (fad Δ 7 i0 0), .int a1] st (f_X7_linesOfRole i0 a1 st) := by
  unfold f_X7_linesOfRole
  refine r_method (by decide +kernel) (Nat.le_of_ble_eq_true rfl) (fun Γ C => ?_)
  have C : fC Δ Γ cX7_linesOfRole RX7 4 (some .int) 1 := C
  refine r_locs (lc' := [(0, .ref (fad Δ 7 i0 0)), (1, .int a1)]) [0, 1] rfl ?_
  refine r_iconst (q := 1) (v := 0) C dX7_linesOfRole_0 rfl (by decide) ?_
  refine r_istore_n (q := 2) (i := 2) [(0, .ref (fad Δ 7 i0 0)), (1, .int a1)] C dX7_linesOfRole_1 rfl rfl (by decide) rfl (fun x1 => ?_)
  refine r_iconst (q := 3) (v := 0) C dX7_linesOfRole_2 rfl (by decide) ?_
  refine r_istore_n (q := 4) (i := 3) [(2, .int x1), (0, .ref (fad Δ 7 i0 0)), (1, .int a1)] C dX7_linesOfRole_3 rfl rfl (by decide) rfl (fun x2 => ?_)
  refine r_locs (lc' := [(0, .ref (fad Δ 7 i0 0)), (1, .int a1), (2, .int x1), (3, .int x2)]) [2, 3, 1, 0] rfl ?_
  have L4 : ∀ (n6 : Nat) (x3 : Int32) (x4 : Int32) (s5 : fSt), fW Δ Γ 4 (fQ eI Δ Γ) 4 [(0, .ref (fad Δ 7 i0 0)), (1, .int a1), (2, .int x3), (3, .int x4)] [] s5 (f_X7_linesOfRole_L4 i0 a1 n6 x3 x4 s5) := by
    intro n6
    induction n6 with
    | zero =>
      intro x3 x4 s5
      rw [f_X7_linesOfRole_L4]
      exact r_none
    | succ n6 ih_n6 =>
      intro x3 x4 s5
      rw [f_X7_linesOfRole_L4]
      refine r_iload_n (q := 5) (i := 3) (z := 3) C dX7_linesOfRole_4 rfl rfl rfl ?_
      refine r_aload_n (q := 6) (i := 0) (z := 0) C dX7_linesOfRole_5 rfl rfl rfl ?_
      refine g_X7_103 (q := 9) C hi0 dX7_linesOfRole_6 rfl ?_
      refine r_icmp_ge (q := 12) (tgt := 38) C dX7_linesOfRole_9 (by decide) rfl ?_ ?_
      · refine r_iload_n (q := 39) (i := 2) (z := 2) C dX7_linesOfRole_38 rfl rfl rfl ?_
        exact r_iret C dX7_linesOfRole_39
      · refine r_iload_n (q := 13) (i := 2) (z := 2) C dX7_linesOfRole_12 rfl rfl rfl ?_
        refine r_aload_n (q := 14) (i := 0) (z := 0) C dX7_linesOfRole_13 rfl rfl rfl ?_
        refine g_X7_34 (q := 17) C hi0 dX7_linesOfRole_14 rfl ?_
        refine r_iload_n (q := 18) (i := 3) (z := 3) C dX7_linesOfRole_17 rfl rfl rfl ?_
        refine r_ial (q := 19) q_7_8 h_7_8 C hi0 dX7_linesOfRole_18 rfl ?_
        refine r_aload_n (q := 20) (i := 0) (z := 0) C dX7_linesOfRole_19 rfl rfl rfl ?_
        refine g_X7_37 (q := 23) C hi0 dX7_linesOfRole_20 rfl ?_
        refine r_iload_n (q := 24) (i := 3) (z := 3) C dX7_linesOfRole_23 rfl rfl rfl ?_
        refine r_ial (q := 25) q_7_9 h_7_9 C hi0 dX7_linesOfRole_24 rfl ?_
        refine r_iload_n (q := 26) (i := 1) (z := 1) C dX7_linesOfRole_25 rfl rfl rfl ?_
        refine r_ishr (q := 27) C dX7_linesOfRole_26 rfl ?_
        refine r_iconst (q := 28) (v := 1) C dX7_linesOfRole_27 rfl (by decide) ?_
        refine r_iand (q := 29) C dX7_linesOfRole_28 rfl ?_
        refine r_imul (q := 30) C dX7_linesOfRole_29 rfl ?_
        refine r_iadd (q := 31) C dX7_linesOfRole_30 rfl ?_
        refine r_istore_n (q := 32) (i := 2) [(0, .ref (fad Δ 7 i0 0)), (1, .int a1), (3, .int x4)] C dX7_linesOfRole_31 rfl rfl (by decide) rfl (fun x7 => ?_)
        refine r_iinc (q := 35) (z := 3) (d := 1) [(2, .int x7), (0, .ref (fad Δ 7 i0 0)), (1, .int a1)] C dX7_linesOfRole_32 rfl rfl (by decide) (by decide) rfl (fun x8 => ?_)
        refine r_goto (q := 4) C dX7_linesOfRole_35 (by decide) ?_
        refine r_locs (lc' := [(0, .ref (fad Δ 7 i0 0)), (1, .int a1), (2, .int x7), (3, .int x8)]) [2, 3, 1, 0] rfl ?_
        exact ih_n6 x7 x8 s5
  exact L4 fF x1 x2 st

noncomputable def f_X7_rolesBeside_L4 (i0 : Nat) (a1 : Int32) : Nat → Int32 → Int32 → fSt → Option (Int32 × fSt)
  | 0, _, _, _ => none
  | n6 + 1, x3, x4, s5 =>
      if (gI s5 7 i0 2) ≤ x4 then
        (some (x3, s5))
      else
        (fIx x4 12 <|
        fJn (fun (x7 : Int32) (s8 : fSt) =>
          (fLt (x4 + (1 : Int32)) fun (x10 : Int32) =>
          f_X7_rolesBeside_L4 i0 a1 n6 x7 x10 s8)) fun (j9 : Int32 → fSt → Option (Int32 × fSt)) =>
        if (((gA s5 7 i0 9 x4.toNatClampNeg) >>> (a1 &&& 31)) &&& ((1 : Int32))) = 0 then
          (j9 x3 s5)
        else
          (fIx x4 12 <|
          fLt (x3 ||| (gA s5 7 i0 9 x4.toNatClampNeg)) fun (x11 : Int32) =>
          j9 x11 s5))

noncomputable def f_X7_rolesBeside (i0 : Nat) (a1 : Int32) (st : fSt) : Option (Int32 × fSt) :=
  fLt ((0 : Int32)) fun (x1 : Int32) =>
  fLt ((0 : Int32)) fun (x2 : Int32) =>
  f_X7_rolesBeside_L4 i0 a1 fF x1 x2 st

set_option maxHeartbeats 4000000 in
set_option maxRecDepth 100000 in
theorem c_X7_rolesBeside (Δ : fDl) (hN : fNx Δ) (i0 : Nat) (a1 : Int32) (hi0 : i0 < fN Δ 7)  (st : fSt) : fMt eI Δ yX7_rolesBeside cX7_rolesBeside 4 (some .int) 1 [.ref (fad Δ 7 i0 0), .int a1] st (f_X7_rolesBeside i0 a1 st) := by
  unfold f_X7_rolesBeside
  refine r_method (by decide +kernel) (Nat.le_of_ble_eq_true rfl) (fun Γ C => ?_)
  have C : fC Δ Γ cX7_rolesBeside RX7 4 (some .int) 1 := C
  refine r_locs (lc' := [(0, .ref (fad Δ 7 i0 0)), (1, .int a1)]) [0, 1] rfl ?_
  refine r_iconst (q := 1) (v := 0) C dX7_rolesBeside_0 rfl (by decide) ?_
  refine r_istore_n (q := 2) (i := 2) [(0, .ref (fad Δ 7 i0 0)), (1, .int a1)] C dX7_rolesBeside_1 rfl rfl (by decide) rfl (fun x1 => ?_)
  refine r_iconst (q := 3) (v := 0) C dX7_rolesBeside_2 rfl (by decide) ?_
  refine r_istore_n (q := 4) (i := 3) [(2, .int x1), (0, .ref (fad Δ 7 i0 0)), (1, .int a1)] C dX7_rolesBeside_3 rfl rfl (by decide) rfl (fun x2 => ?_)
  refine r_locs (lc' := [(0, .ref (fad Δ 7 i0 0)), (1, .int a1), (2, .int x1), (3, .int x2)]) [2, 3, 1, 0] rfl ?_
  have L4 : ∀ (n6 : Nat) (x3 : Int32) (x4 : Int32) (s5 : fSt), fW Δ Γ 4 (fQ eI Δ Γ) 4 [(0, .ref (fad Δ 7 i0 0)), (1, .int a1), (2, .int x3), (3, .int x4)] [] s5 (f_X7_rolesBeside_L4 i0 a1 n6 x3 x4 s5) := by
    intro n6
    induction n6 with
    | zero =>
      intro x3 x4 s5
      rw [f_X7_rolesBeside_L4]
      exact r_none
    | succ n6 ih_n6 =>
      intro x3 x4 s5
      rw [f_X7_rolesBeside_L4]
      refine r_iload_n (q := 5) (i := 3) (z := 3) C dX7_rolesBeside_4 rfl rfl rfl ?_
      refine r_aload_n (q := 6) (i := 0) (z := 0) C dX7_rolesBeside_5 rfl rfl rfl ?_
      refine g_X7_103 (q := 9) C hi0 dX7_rolesBeside_6 rfl ?_
      refine r_icmp_ge (q := 12) (tgt := 40) C dX7_rolesBeside_9 (by decide) rfl ?_ ?_
      · refine r_iload_n (q := 41) (i := 2) (z := 2) C dX7_rolesBeside_40 rfl rfl rfl ?_
        exact r_iret C dX7_rolesBeside_41
      · refine r_aload_n (q := 13) (i := 0) (z := 0) C dX7_rolesBeside_12 rfl rfl rfl ?_
        refine g_X7_37 (q := 16) C hi0 dX7_rolesBeside_13 rfl ?_
        refine r_iload_n (q := 17) (i := 3) (z := 3) C dX7_rolesBeside_16 rfl rfl rfl ?_
        refine r_ial (q := 18) q_7_9 h_7_9 C hi0 dX7_rolesBeside_17 rfl ?_
        refine r_iload_n (q := 19) (i := 1) (z := 1) C dX7_rolesBeside_18 rfl rfl rfl ?_
        refine r_ishr (q := 20) C dX7_rolesBeside_19 rfl ?_
        refine r_iconst (q := 21) (v := 1) C dX7_rolesBeside_20 rfl (by decide) ?_
        refine r_iand (q := 22) C dX7_rolesBeside_21 rfl ?_
        refine r_join (fun j9 => ∀ (x7 : Int32) (s8 : fSt), fW Δ Γ 4 (fQ eI Δ Γ) 34 [(0, .ref (fad Δ 7 i0 0)), (1, .int a1), (2, .int x7), (3, .int x4)] [] s8 (j9 x7 s8)) ?_ (fun j9 hj9 => ?_)
        · intro x7 s8
          refine r_iinc (q := 37) (z := 3) (d := 1) [(0, .ref (fad Δ 7 i0 0)), (1, .int a1), (2, .int x7)] C dX7_rolesBeside_34 rfl rfl (by decide) (by decide) rfl (fun x10 => ?_)
          refine r_goto (q := 4) C dX7_rolesBeside_37 (by decide) ?_
          refine r_locs (lc' := [(0, .ref (fad Δ 7 i0 0)), (1, .int a1), (2, .int x7), (3, .int x10)]) [1, 2, 3, 0] rfl ?_
          exact ih_n6 x7 x10 s8
        refine r_if_eq (q := 25) (tgt := 34) C dX7_rolesBeside_22 (by decide) rfl ?_ ?_
        · exact hj9 x3 s5
        · refine r_iload_n (q := 26) (i := 2) (z := 2) C dX7_rolesBeside_25 rfl rfl rfl ?_
          refine r_aload_n (q := 27) (i := 0) (z := 0) C dX7_rolesBeside_26 rfl rfl rfl ?_
          refine g_X7_37 (q := 30) C hi0 dX7_rolesBeside_27 rfl ?_
          refine r_iload_n (q := 31) (i := 3) (z := 3) C dX7_rolesBeside_30 rfl rfl rfl ?_
          refine r_ial (q := 32) q_7_9 h_7_9 C hi0 dX7_rolesBeside_31 rfl ?_
          refine r_ior (q := 33) C dX7_rolesBeside_32 rfl ?_
          refine r_istore_n (q := 34) (i := 2) [(0, .ref (fad Δ 7 i0 0)), (1, .int a1), (3, .int x4)] C dX7_rolesBeside_33 rfl rfl (by decide) rfl (fun x11 => ?_)
          refine r_locs (lc' := [(0, .ref (fad Δ 7 i0 0)), (1, .int a1), (2, .int x11), (3, .int x4)]) [1, 2, 0, 3] rfl ?_
          exact hj9 x11 s5
  exact L4 fF x1 x2 st

noncomputable def f_X1_mayPlay (i1 : Nat) (a2 : Int32) (a3 : Int32) (st : fSt) : Option (Int32 × fSt) :=
  fIx a2 6 <|
  fJn (fun (x1 : Int32) (s2 : fSt) =>
    (fBo x1 (some (x1, s2)))) fun (j3 : Int32 → fSt → Option (Int32 × fSt)) =>
  fJn (fun (s4 : fSt) =>
    (j3 ((0 : Int32)) s4)) fun (j5 : fSt → Option (Int32 × fSt)) =>
  if ¬ (((gA st 7 i1 7 a2.toNatClampNeg) >>> (a3 &&& 31)) &&& ((1 : Int32))) = 0 then
    (j5 st)
  else
    (fIx a2 6 <|
    fIx a3 6 <|
    if ¬ ((gA st 1 0 6 a2.toNatClampNeg) &&& (gA st 1 0 5 a3.toNatClampNeg)) = 0 then
      (j5 st)
    else
      (fIx a2 6 <|
      fIx a3 6 <|
      fIx a2 6 <|
      if (gA st 7 i1 6 a2.toNatClampNeg) < ((gA st 1 0 7 a2.toNatClampNeg) + (gA st 1 0 4 a3.toNatClampNeg)) then
        (j5 st)
      else
        (j3 ((1 : Int32)) st)))

set_option maxHeartbeats 4000000 in
set_option maxRecDepth 100000 in
theorem c_X1_mayPlay (Δ : fDl) (hN : fNx Δ) (i1 : Nat) (a2 : Int32) (a3 : Int32) (hi1 : i1 < fN Δ 7)  (st : fSt) : fMt eI Δ yX1_mayPlay cX1_mayPlay 4 (some .boolean) 1 [.ref (fad Δ 1 0 0), .ref (fad Δ 7 i1 0), .int a2, .int a3] st (f_X1_mayPlay i1 a2 a3 st) := by
  unfold f_X1_mayPlay
  refine r_method (by decide +kernel) (Nat.le_of_ble_eq_true rfl) (fun Γ C => ?_)
  have C : fC Δ Γ cX1_mayPlay RX1 4 (some .boolean) 1 := C
  refine r_locs (lc' := [(0, .ref (fad Δ 1 0 0)), (1, .ref (fad Δ 7 i1 0)), (2, .int a2), (3, .int a3)]) [0, 1, 2, 3] rfl ?_
  refine r_aload_n (q := 1) (i := 1) (z := 1) C dX1_mayPlay_0 rfl rfl rfl ?_
  refine g_X1_78 (q := 4) C hi1 dX1_mayPlay_1 rfl ?_
  refine r_iload_n (q := 5) (i := 2) (z := 2) C dX1_mayPlay_4 rfl rfl rfl ?_
  refine r_ial (q := 6) q_7_7 h_7_7 C hi1 dX1_mayPlay_5 rfl ?_
  refine r_iload_n (q := 7) (i := 3) (z := 3) C dX1_mayPlay_6 rfl rfl rfl ?_
  refine r_ishr (q := 8) C dX1_mayPlay_7 rfl ?_
  refine r_iconst (q := 9) (v := 1) C dX1_mayPlay_8 rfl (by decide) ?_
  refine r_iand (q := 10) C dX1_mayPlay_9 rfl ?_
  refine r_join (fun j3 => ∀ (x1 : Int32) (s2 : fSt), fW Δ Γ 4 (fQ eI Δ Γ) 56 [] [.int x1] s2 (j3 x1 s2)) ?_ (fun j3 hj3 => ?_)
  · intro x1 s2
    exact r_zret C dX1_mayPlay_56
  refine r_join (fun j5 => ∀  (s4 : fSt), fW Δ Γ 4 (fQ eI Δ Γ) 55 [] [] s4 (j5 s4)) ?_ (fun j5 hj5 => ?_)
  · intro s4
    refine r_iconst (q := 56) (v := 0) C dX1_mayPlay_55 rfl (by decide) ?_
    exact hj3 ((0 : Int32)) s4
  refine r_if_ne (q := 13) (tgt := 55) C dX1_mayPlay_10 (by decide) rfl ?_ ?_
  · refine r_locs (lc' := []) [] rfl ?_
    exact hj5 st
  · refine r_aload_n (q := 14) (i := 0) (z := 0) C dX1_mayPlay_13 rfl rfl rfl ?_
    refine g_X1_27 (q := 17) C (nk_1_0 hN) dX1_mayPlay_14 rfl ?_
    refine r_iload_n (q := 18) (i := 2) (z := 2) C dX1_mayPlay_17 rfl rfl rfl ?_
    refine r_ial (q := 19) q_1_6 h_1_6 C (nk_1_0 hN) dX1_mayPlay_18 rfl ?_
    refine r_aload_n (q := 20) (i := 0) (z := 0) C dX1_mayPlay_19 rfl rfl rfl ?_
    refine g_X1_24 (q := 23) C (nk_1_0 hN) dX1_mayPlay_20 rfl ?_
    refine r_iload_n (q := 24) (i := 3) (z := 3) C dX1_mayPlay_23 rfl rfl rfl ?_
    refine r_ial (q := 25) q_1_5 h_1_5 C (nk_1_0 hN) dX1_mayPlay_24 rfl ?_
    refine r_iand (q := 26) C dX1_mayPlay_25 rfl ?_
    refine r_if_ne (q := 29) (tgt := 55) C dX1_mayPlay_26 (by decide) rfl ?_ ?_
    · refine r_locs (lc' := []) [] rfl ?_
      exact hj5 st
    · refine r_aload_n (q := 30) (i := 0) (z := 0) C dX1_mayPlay_29 rfl rfl rfl ?_
      refine g_X1_30 (q := 33) C (nk_1_0 hN) dX1_mayPlay_30 rfl ?_
      refine r_iload_n (q := 34) (i := 2) (z := 2) C dX1_mayPlay_33 rfl rfl rfl ?_
      refine r_ial (q := 35) q_1_7 h_1_7 C (nk_1_0 hN) dX1_mayPlay_34 rfl ?_
      refine r_aload_n (q := 36) (i := 0) (z := 0) C dX1_mayPlay_35 rfl rfl rfl ?_
      refine g_X1_21 (q := 39) C (nk_1_0 hN) dX1_mayPlay_36 rfl ?_
      refine r_iload_n (q := 40) (i := 3) (z := 3) C dX1_mayPlay_39 rfl rfl rfl ?_
      refine r_ial (q := 41) q_1_4 h_1_4 C (nk_1_0 hN) dX1_mayPlay_40 rfl ?_
      refine r_iadd (q := 42) C dX1_mayPlay_41 rfl ?_
      refine r_aload_n (q := 43) (i := 1) (z := 1) C dX1_mayPlay_42 rfl rfl rfl ?_
      refine g_X1_81 (q := 46) C hi1 dX1_mayPlay_43 rfl ?_
      refine r_iload_n (q := 47) (i := 2) (z := 2) C dX1_mayPlay_46 rfl rfl rfl ?_
      refine r_ial (q := 48) q_7_6 h_7_6 C hi1 dX1_mayPlay_47 rfl ?_
      refine r_icmp_gt (q := 51) (tgt := 55) C dX1_mayPlay_48 (by decide) rfl ?_ ?_
      · refine r_locs (lc' := []) [] rfl ?_
        exact hj5 st
      · refine r_iconst (q := 52) (v := 1) C dX1_mayPlay_51 rfl (by decide) ?_
        refine r_goto (q := 56) C dX1_mayPlay_52 (by decide) ?_
        refine r_locs (lc' := []) [] rfl ?_
        exact hj3 ((1 : Int32)) st

noncomputable def f_X1_tryActors_L3 (rec : Nat → Int32 → Int32 → fSt → Option (Unit × fSt)) (i1 : Nat) (a2 : Int32) (a3 : Int32) : Nat → Int32 → fSt → Option (Unit × fSt)
  | 0, _, _ => none
  | n4 + 1, x2, s3 =>
      if (gI s3 7 i1 1) ≤ x2 then
        (some ((), s3))
      else
        (fBd (f_X1_mayPlay i1 x2 a2 s3) fun x5 s6 =>
        fJn (fun (s7 : fSt) =>
          (fLt (x2 + (1 : Int32)) fun (x9 : Int32) =>
          f_X1_tryActors_L3 rec i1 a2 a3 n4 x9 s7)) fun (j8 : fSt → Option (Unit × fSt)) =>
        if x5 = 0 then
          (j8 s6)
        else
          (fIx a2 6 <|
          fLt (sA s6 1 0 2 (upd (gA s6 1 0 2) a2.toNatClampNeg x2)) fun s10 =>
          fIx x2 6 <|
          fIx x2 6 <|
          fLt (sA s10 1 0 6 (upd (gA s10 1 0 6) x2.toNatClampNeg ((gA s10 1 0 6 x2.toNatClampNeg) ||| (((1 : Int32)) <<< (a2 &&& 31))))) fun s11 =>
          fIx x2 6 <|
          fIx a2 6 <|
          fIx x2 6 <|
          fLt (sA s11 1 0 7 (upd (gA s11 1 0 7) x2.toNatClampNeg ((gA s11 1 0 7 x2.toNatClampNeg) + (gA s11 1 0 4 a2.toNatClampNeg)))) fun s12 =>
          fIx a2 6 <|
          fIx x2 6 <|
          fBd (rec i1 (a2 + ((1 : Int32))) (a3 + ((gA s12 1 0 4 a2.toNatClampNeg) * (gA s12 7 i1 5 x2.toNatClampNeg))) s12) fun _ s13 =>
          fIx x2 6 <|
          fIx a2 6 <|
          fIx x2 6 <|
          fLt (sA s13 1 0 7 (upd (gA s13 1 0 7) x2.toNatClampNeg ((gA s13 1 0 7 x2.toNatClampNeg) - (gA s13 1 0 4 a2.toNatClampNeg)))) fun s14 =>
          fIx x2 6 <|
          fIx x2 6 <|
          fLt (sA s14 1 0 6 (upd (gA s14 1 0 6) x2.toNatClampNeg ((gA s14 1 0 6 x2.toNatClampNeg) &&& ((((1 : Int32)) <<< (a2 &&& 31)) ^^^ ((-1 : Int32)))))) fun s15 =>
          j8 s15))

noncomputable def f_X1_tryActors (rec : Nat → Int32 → Int32 → fSt → Option (Unit × fSt)) (i1 : Nat) (a2 : Int32) (a3 : Int32) (st : fSt) : Option (Unit × fSt) :=
  fLt ((0 : Int32)) fun (x1 : Int32) =>
  f_X1_tryActors_L3 rec i1 a2 a3 fF x1 st

set_option maxHeartbeats 4000000 in
set_option maxRecDepth 100000 in
theorem c_X1_tryActors (Δ : fDl) (hN : fNx Δ) (lv0 : Nat) (hlv : 1 ≤ lv0) (rec : Nat → Int32 → Int32 → fSt → Option (Unit × fSt)) (hrec : ∀ (i1 : Nat) (a2 : Int32) (a3 : Int32) (hi1 : i1 < fN Δ 7) (st : fSt), fMt eV Δ yX1_choose cX1_choose 5 none lv0 [.ref (fad Δ 1 0 0), .ref (fad Δ 7 i1 0), .int a2, .int a3] st (rec i1 a2 a3 st)) (i1 : Nat) (a2 : Int32) (a3 : Int32) (hi1 : i1 < fN Δ 7) (st : fSt) : fMt eV Δ yX1_tryActors cX1_tryActors 5 none (lv0 + 1) [.ref (fad Δ 1 0 0), .ref (fad Δ 7 i1 0), .int a2, .int a3] st (f_X1_tryActors rec i1 a2 a3 st) := by
  unfold f_X1_tryActors
  refine r_method (by decide +kernel) (Nat.le_of_ble_eq_true rfl) (fun Γ C => ?_)
  have C : fC Δ Γ cX1_tryActors RX1 5 none (lv0 + 1) := C
  refine r_locs (lc' := [(0, .ref (fad Δ 1 0 0)), (1, .ref (fad Δ 7 i1 0)), (2, .int a2), (3, .int a3)]) [0, 1, 2, 3] rfl ?_
  refine r_iconst (q := 1) (v := 0) C dX1_tryActors_0 rfl (by decide) ?_
  refine r_istore (q := 3) (i := 4) [(0, .ref (fad Δ 1 0 0)), (1, .ref (fad Δ 7 i1 0)), (2, .int a2), (3, .int a3)] C dX1_tryActors_1 rfl (by decide) rfl (fun x1 => ?_)
  refine r_locs (lc' := [(0, .ref (fad Δ 1 0 0)), (1, .ref (fad Δ 7 i1 0)), (2, .int a2), (3, .int a3), (4, .int x1)]) [1, 2, 3, 4, 0] rfl ?_
  have L3 : ∀ (n4 : Nat) (x2 : Int32) (s3 : fSt), fW Δ Γ 5 (fQ eV Δ Γ) 3 [(0, .ref (fad Δ 1 0 0)), (1, .ref (fad Δ 7 i1 0)), (2, .int a2), (3, .int a3), (4, .int x2)] [] s3 (f_X1_tryActors_L3 rec i1 a2 a3 n4 x2 s3) := by
    intro n4
    induction n4 with
    | zero =>
      intro x2 s3
      rw [f_X1_tryActors_L3]
      exact r_none
    | succ n4 ih_n4 =>
      intro x2 s3
      rw [f_X1_tryActors_L3]
      refine r_iload (q := 5) (i := 4) (z := 4) C dX1_tryActors_3 rfl rfl ?_
      refine r_aload_n (q := 6) (i := 1) (z := 1) C dX1_tryActors_5 rfl rfl rfl ?_
      refine g_X1_68 (q := 9) C hi1 dX1_tryActors_6 rfl ?_
      refine r_icmp_ge (q := 12) (tgt := 121) C dX1_tryActors_9 (by decide) rfl ?_ ?_
      · exact r_vret C dX1_tryActors_121
      · refine r_aload_n (q := 13) (i := 0) (z := 0) C dX1_tryActors_12 rfl rfl rfl ?_
        refine r_aload_n (q := 14) (i := 1) (z := 1) C dX1_tryActors_13 rfl rfl rfl ?_
        refine r_iload (q := 16) (i := 4) (z := 4) C dX1_tryActors_14 rfl rfl ?_
        refine r_iload_n (q := 17) (i := 2) (z := 2) C dX1_tryActors_16 rfl rfl rfl ?_
        refine r_callVI (q := 20) (As := [.ref (fad Δ 7 i1 0), .int x2, .int a2]) wm_X1_71 yvX1_mayPlay (c_X1_mayPlay Δ hN i1 x2 a2 hi1 s3) ⟨rfl, by decide⟩ C (nk_1_0 hN) (by omega) rfl (Nat.le_of_ble_eq_true rfl) dX1_tryActors_17 rfl (fun x5 s6 => ?_)
        refine r_join (fun j8 => ∀  (s7 : fSt), fW Δ Γ 5 (fQ eV Δ Γ) 115 [(0, .ref (fad Δ 1 0 0)), (1, .ref (fad Δ 7 i1 0)), (2, .int a2), (3, .int a3), (4, .int x2)] [] s7 (j8 s7)) ?_ (fun j8 hj8 => ?_)
        · intro s7
          refine r_iinc (q := 118) (z := 4) (d := 1) [(0, .ref (fad Δ 1 0 0)), (1, .ref (fad Δ 7 i1 0)), (2, .int a2), (3, .int a3)] C dX1_tryActors_115 rfl rfl (by decide) (by decide) rfl (fun x9 => ?_)
          refine r_goto (q := 3) C dX1_tryActors_118 (by decide) ?_
          refine r_locs (lc' := [(0, .ref (fad Δ 1 0 0)), (1, .ref (fad Δ 7 i1 0)), (2, .int a2), (3, .int a3), (4, .int x9)]) [1, 2, 3, 4, 0] rfl ?_
          exact ih_n4 x9 s7
        refine r_if_eq (q := 23) (tgt := 115) C dX1_tryActors_20 (by decide) rfl ?_ ?_
        · exact hj8 s6
        · refine r_aload_n (q := 24) (i := 0) (z := 0) C dX1_tryActors_23 rfl rfl rfl ?_
          refine g_X1_15 (q := 27) C (nk_1_0 hN) dX1_tryActors_24 rfl ?_
          refine r_iload_n (q := 28) (i := 2) (z := 2) C dX1_tryActors_27 rfl rfl rfl ?_
          refine r_iload (q := 30) (i := 4) (z := 4) C dX1_tryActors_28 rfl rfl ?_
          refine r_ast (q := 31) q_1_2 h_1_2 C (nk_1_0 hN) dX1_tryActors_30 rfl (fun s10 => ?_)
          refine r_aload_n (q := 32) (i := 0) (z := 0) C dX1_tryActors_31 rfl rfl rfl ?_
          refine g_X1_27 (q := 35) C (nk_1_0 hN) dX1_tryActors_32 rfl ?_
          refine r_iload (q := 37) (i := 4) (z := 4) C dX1_tryActors_35 rfl rfl ?_
          refine r_dup2 (q := 38) C dX1_tryActors_37 rfl rfl rfl ?_
          refine r_ial (q := 39) q_1_6 h_1_6 C (nk_1_0 hN) dX1_tryActors_38 rfl ?_
          refine r_iconst (q := 40) (v := 1) C dX1_tryActors_39 rfl (by decide) ?_
          refine r_iload_n (q := 41) (i := 2) (z := 2) C dX1_tryActors_40 rfl rfl rfl ?_
          refine r_ishl (q := 42) C dX1_tryActors_41 rfl ?_
          refine r_ior (q := 43) C dX1_tryActors_42 rfl ?_
          refine r_ast (q := 44) q_1_6 h_1_6 C (nk_1_0 hN) dX1_tryActors_43 rfl (fun s11 => ?_)
          refine r_aload_n (q := 45) (i := 0) (z := 0) C dX1_tryActors_44 rfl rfl rfl ?_
          refine g_X1_30 (q := 48) C (nk_1_0 hN) dX1_tryActors_45 rfl ?_
          refine r_iload (q := 50) (i := 4) (z := 4) C dX1_tryActors_48 rfl rfl ?_
          refine r_dup2 (q := 51) C dX1_tryActors_50 rfl rfl rfl ?_
          refine r_ial (q := 52) q_1_7 h_1_7 C (nk_1_0 hN) dX1_tryActors_51 rfl ?_
          refine r_aload_n (q := 53) (i := 0) (z := 0) C dX1_tryActors_52 rfl rfl rfl ?_
          refine g_X1_21 (q := 56) C (nk_1_0 hN) dX1_tryActors_53 rfl ?_
          refine r_iload_n (q := 57) (i := 2) (z := 2) C dX1_tryActors_56 rfl rfl rfl ?_
          refine r_ial (q := 58) q_1_4 h_1_4 C (nk_1_0 hN) dX1_tryActors_57 rfl ?_
          refine r_iadd (q := 59) C dX1_tryActors_58 rfl ?_
          refine r_ast (q := 60) q_1_7 h_1_7 C (nk_1_0 hN) dX1_tryActors_59 rfl (fun s12 => ?_)
          refine r_aload_n (q := 61) (i := 0) (z := 0) C dX1_tryActors_60 rfl rfl rfl ?_
          refine r_aload_n (q := 62) (i := 1) (z := 1) C dX1_tryActors_61 rfl rfl rfl ?_
          refine r_iload_n (q := 63) (i := 2) (z := 2) C dX1_tryActors_62 rfl rfl rfl ?_
          refine r_iconst (q := 64) (v := 1) C dX1_tryActors_63 rfl (by decide) ?_
          refine r_iadd (q := 65) C dX1_tryActors_64 rfl ?_
          refine r_iload_n (q := 66) (i := 3) (z := 3) C dX1_tryActors_65 rfl rfl rfl ?_
          refine r_aload_n (q := 67) (i := 0) (z := 0) C dX1_tryActors_66 rfl rfl rfl ?_
          refine g_X1_21 (q := 70) C (nk_1_0 hN) dX1_tryActors_67 rfl ?_
          refine r_iload_n (q := 71) (i := 2) (z := 2) C dX1_tryActors_70 rfl rfl rfl ?_
          refine r_ial (q := 72) q_1_4 h_1_4 C (nk_1_0 hN) dX1_tryActors_71 rfl ?_
          refine r_aload_n (q := 73) (i := 1) (z := 1) C dX1_tryActors_72 rfl rfl rfl ?_
          refine g_X1_75 (q := 76) C hi1 dX1_tryActors_73 rfl ?_
          refine r_iload (q := 78) (i := 4) (z := 4) C dX1_tryActors_76 rfl rfl ?_
          refine r_ial (q := 79) q_7_5 h_7_5 C hi1 dX1_tryActors_78 rfl ?_
          refine r_imul (q := 80) C dX1_tryActors_79 rfl ?_
          refine r_iadd (q := 81) C dX1_tryActors_80 rfl ?_
          refine r_callVV (q := 84) (As := [.ref (fad Δ 7 i1 0), .int (a2 + ((1 : Int32))), .int (a3 + ((gA s12 1 0 4 a2.toNatClampNeg) * (gA s12 7 i1 5 x2.toNatClampNeg)))]) wm_X1_55 yvX1_choose (hrec i1 (a2 + ((1 : Int32))) (a3 + ((gA s12 1 0 4 a2.toNatClampNeg) * (gA s12 7 i1 5 x2.toNatClampNeg))) hi1 s12) ⟨rfl, by decide⟩ C (nk_1_0 hN) (Nat.le_refl _) rfl (Nat.le_of_ble_eq_true rfl) dX1_tryActors_81 rfl (fun _ s13 => ?_)
          refine r_aload_n (q := 85) (i := 0) (z := 0) C dX1_tryActors_84 rfl rfl rfl ?_
          refine g_X1_30 (q := 88) C (nk_1_0 hN) dX1_tryActors_85 rfl ?_
          refine r_iload (q := 90) (i := 4) (z := 4) C dX1_tryActors_88 rfl rfl ?_
          refine r_dup2 (q := 91) C dX1_tryActors_90 rfl rfl rfl ?_
          refine r_ial (q := 92) q_1_7 h_1_7 C (nk_1_0 hN) dX1_tryActors_91 rfl ?_
          refine r_aload_n (q := 93) (i := 0) (z := 0) C dX1_tryActors_92 rfl rfl rfl ?_
          refine g_X1_21 (q := 96) C (nk_1_0 hN) dX1_tryActors_93 rfl ?_
          refine r_iload_n (q := 97) (i := 2) (z := 2) C dX1_tryActors_96 rfl rfl rfl ?_
          refine r_ial (q := 98) q_1_4 h_1_4 C (nk_1_0 hN) dX1_tryActors_97 rfl ?_
          refine r_isub (q := 99) C dX1_tryActors_98 rfl ?_
          refine r_ast (q := 100) q_1_7 h_1_7 C (nk_1_0 hN) dX1_tryActors_99 rfl (fun s14 => ?_)
          refine r_aload_n (q := 101) (i := 0) (z := 0) C dX1_tryActors_100 rfl rfl rfl ?_
          refine g_X1_27 (q := 104) C (nk_1_0 hN) dX1_tryActors_101 rfl ?_
          refine r_iload (q := 106) (i := 4) (z := 4) C dX1_tryActors_104 rfl rfl ?_
          refine r_dup2 (q := 107) C dX1_tryActors_106 rfl rfl rfl ?_
          refine r_ial (q := 108) q_1_6 h_1_6 C (nk_1_0 hN) dX1_tryActors_107 rfl ?_
          refine r_iconst (q := 109) (v := 1) C dX1_tryActors_108 rfl (by decide) ?_
          refine r_iload_n (q := 110) (i := 2) (z := 2) C dX1_tryActors_109 rfl rfl rfl ?_
          refine r_ishl (q := 111) C dX1_tryActors_110 rfl ?_
          refine r_iconst (q := 112) (v := (-1)) C dX1_tryActors_111 rfl (by decide) ?_
          refine r_ixor (q := 113) C dX1_tryActors_112 rfl ?_
          refine r_iand (q := 114) C dX1_tryActors_113 rfl ?_
          refine r_ast (q := 115) q_1_6 h_1_6 C (nk_1_0 hN) dX1_tryActors_114 rfl (fun s15 => ?_)
          exact hj8 s15
  exact L3 fF x1 st

noncomputable def f_X1_choose_L20 (i1 : Nat) (k6 : Int32 → fSt → Option (Unit × fSt)) : Nat → Int32 → fSt → Option (Unit × fSt)
  | 0, _, _ => none
  | n14 + 1, x12, s13 =>
      if (gI s13 7 i1 0) ≤ x12 then
          (k6 x12 s13)
        else
          (if ((6 : Int32)) ≤ x12 then
            (k6 x12 s13)
          else
            (fIx x12 6 <|
            if ¬ (gA s13 1 0 5 x12.toNatClampNeg) = 0 then
              (k6 x12 s13)
            else
              (fLt (x12 + (1 : Int32)) fun (x15 : Int32) =>
              f_X1_choose_L20 i1 k6 n14 x15 s13)))

noncomputable def f_X1_choose_b (rec : Nat → Int32 → Int32 → fSt → Option (Unit × fSt)) (i1 : Nat) (a2 : Int32) (a3 : Int32) (st : fSt) : Option (Unit × fSt) :=
  fJn (fun (s1 : fSt) =>
    (fLt a2 fun (x3 : Int32) =>
    fJn (fun (x4 : Int32) (s5 : fSt) =>
      (fJn (fun (s7 : fSt) =>
        (fLt (sI s7 1 0 7 a3) fun s9 =>
        fCp ((0 : Int32)) ((0 : Int32)) ((6 : Int32)) 6 6 <|
        fLt (sA s9 1 0 3 (va_cpy (gA s9 1 0 2) (gA s9 1 0 3) ((0 : Int32)).toNatClampNeg ((0 : Int32)).toNatClampNeg ((6 : Int32)).toNatClampNeg)) fun s10 =>
        some ((), s10))) fun (j8 : fSt → Option (Unit × fSt)) =>
      if (gI s5 7 i1 0) ≤ x4 then
        (j8 s5)
      else
        (if x4 < ((6 : Int32)) then
          (fBd (f_X1_tryActors rec i1 x4 a3 s5) fun _ s11 =>
          some ((), s11))
        else
          (j8 s5)))) fun (k6 : Int32 → fSt → Option (Unit × fSt)) =>
    f_X1_choose_L20 i1 k6 fF x3 s1)) fun (j2 : fSt → Option (Unit × fSt)) =>
  if (gI st 1 0 7) = ((-1 : Int32)) then
    (j2 st)
  else
    (if a3 < (gI st 1 0 7) then
      (j2 st)
    else
      (some ((), st)))

set_option maxHeartbeats 4000000 in
set_option maxRecDepth 100000 in
theorem c_X1_choose_b (Δ : fDl) (hN : fNx Δ) (lv0 : Nat) (hlv : 1 ≤ lv0) (rec : Nat → Int32 → Int32 → fSt → Option (Unit × fSt)) (hrec : ∀ (i1 : Nat) (a2 : Int32) (a3 : Int32) (hi1 : i1 < fN Δ 7) (st : fSt), fMt eV Δ yX1_choose cX1_choose 5 none lv0 [.ref (fad Δ 1 0 0), .ref (fad Δ 7 i1 0), .int a2, .int a3] st (rec i1 a2 a3 st)) (i1 : Nat) (a2 : Int32) (a3 : Int32) (hi1 : i1 < fN Δ 7) (st : fSt) : fMt eV Δ yX1_choose cX1_choose 5 none (lv0 + 2) [.ref (fad Δ 1 0 0), .ref (fad Δ 7 i1 0), .int a2, .int a3] st (f_X1_choose_b rec i1 a2 a3 st) := by
  unfold f_X1_choose_b
  refine r_method (by decide +kernel) (Nat.le_of_ble_eq_true rfl) (fun Γ C => ?_)
  have C : fC Δ Γ cX1_choose RX1 5 none (lv0 + 2) := C
  refine r_locs (lc' := [(0, .ref (fad Δ 1 0 0)), (1, .ref (fad Δ 7 i1 0)), (2, .int a2), (3, .int a3)]) [0, 1, 2, 3] rfl ?_
  refine r_aload_n (q := 1) (i := 0) (z := 0) C dX1_choose_0 rfl rfl rfl ?_
  refine g_X1_52 (q := 4) C (nk_1_0 hN) dX1_choose_1 rfl ?_
  refine r_iconst (q := 5) (v := (-1)) C dX1_choose_4 rfl (by decide) ?_
  refine r_join (fun j2 => ∀  (s1 : fSt), fW Δ Γ 5 (fQ eV Δ Γ) 17 [(0, .ref (fad Δ 1 0 0)), (1, .ref (fad Δ 7 i1 0)), (2, .int a2), (3, .int a3)] [] s1 (j2 s1)) ?_ (fun j2 hj2 => ?_)
  · intro s1
    refine r_iload_n (q := 18) (i := 2) (z := 2) C dX1_choose_17 rfl rfl rfl ?_
    refine r_istore (q := 20) (i := 4) [(0, .ref (fad Δ 1 0 0)), (1, .ref (fad Δ 7 i1 0)), (2, .int a2), (3, .int a3)] C dX1_choose_18 rfl (by decide) rfl (fun x3 => ?_)
    refine r_join (fun k6 => ∀ (x4 : Int32) (s5 : fSt), fW Δ Γ 5 (fQ eV Δ Γ) 52 [(0, .ref (fad Δ 1 0 0)), (1, .ref (fad Δ 7 i1 0)), (3, .int a3), (4, .int x4)] [] s5 (k6 x4 s5)) ?_ (fun k6 hk6 => ?_)
    · intro x4 s5
      refine r_iload (q := 54) (i := 4) (z := 3) C dX1_choose_52 rfl rfl ?_
      refine r_aload_n (q := 55) (i := 1) (z := 1) C dX1_choose_54 rfl rfl rfl ?_
      refine g_X1_39 (q := 58) C hi1 dX1_choose_55 rfl ?_
      refine r_join (fun j8 => ∀  (s7 : fSt), fW Δ Γ 5 (fQ eV Δ Γ) 68 [(0, .ref (fad Δ 1 0 0)), (3, .int a3)] [] s7 (j8 s7)) ?_ (fun j8 hj8 => ?_)
      · intro s7
        refine r_aload_n (q := 69) (i := 0) (z := 0) C dX1_choose_68 rfl rfl rfl ?_
        refine r_iload_n (q := 70) (i := 3) (z := 1) C dX1_choose_69 rfl rfl rfl ?_
        refine p_X1_52 (q := 73) C (nk_1_0 hN) dX1_choose_70 rfl (fun s9 => ?_)
        refine r_aload_n (q := 74) (i := 0) (z := 0) C dX1_choose_73 rfl rfl rfl ?_
        refine g_X1_15 (q := 77) C (nk_1_0 hN) dX1_choose_74 rfl ?_
        refine r_iconst (q := 78) (v := 0) C dX1_choose_77 rfl (by decide) ?_
        refine r_aload_n (q := 79) (i := 0) (z := 0) C dX1_choose_78 rfl rfl rfl ?_
        refine g_X1_18 (q := 82) C (nk_1_0 hN) dX1_choose_79 rfl ?_
        refine r_iconst (q := 83) (v := 0) C dX1_choose_82 rfl (by decide) ?_
        refine r_bipush (q := 85) (v := 6) C dX1_choose_83 rfl (by decide) ?_
        refine r_copyI (q := 88) wk_X1_59 mw_copy.1 mw_copy.2.1 mw_copy.2.2 q_1_2 q_1_3 h_1_2 h_1_3 C (by omega) (Nat.le_of_ble_eq_true rfl) (nk_1_0 hN) (nk_1_0 hN) dX1_choose_85 rfl (fun s10 => ?_)
        exact r_vret C dX1_choose_88
      refine r_icmp_ge (q := 61) (tgt := 68) C dX1_choose_58 (by decide) rfl ?_ ?_
      · refine r_locs (lc' := [(0, .ref (fad Δ 1 0 0)), (3, .int a3)]) [0, 2] rfl ?_
        exact hj8 s5
      · refine r_iload (q := 63) (i := 4) (z := 3) C dX1_choose_61 rfl rfl ?_
        refine r_bipush (q := 65) (v := 6) C dX1_choose_63 rfl (by decide) ?_
        refine r_icmp_lt (q := 68) (tgt := 89) C dX1_choose_65 (by decide) rfl ?_ ?_
        · refine r_aload_n (q := 90) (i := 0) (z := 0) C dX1_choose_89 rfl rfl rfl ?_
          refine r_aload_n (q := 91) (i := 1) (z := 1) C dX1_choose_90 rfl rfl rfl ?_
          refine r_iload (q := 93) (i := 4) (z := 3) C dX1_choose_91 rfl rfl ?_
          refine r_iload_n (q := 94) (i := 3) (z := 2) C dX1_choose_93 rfl rfl rfl ?_
          refine r_callVV (q := 97) (As := [.ref (fad Δ 7 i1 0), .int x4, .int a3]) wm_X1_65 yvX1_tryActors (c_X1_tryActors Δ hN lv0 hlv rec hrec i1 x4 a3 hi1 s5) ⟨rfl, by decide⟩ C (nk_1_0 hN) (Nat.le_refl _) rfl (Nat.le_of_ble_eq_true rfl) dX1_choose_94 rfl (fun _ s11 => ?_)
          exact r_vret C dX1_choose_97
        · refine r_locs (lc' := [(0, .ref (fad Δ 1 0 0)), (3, .int a3)]) [0, 2] rfl ?_
          exact hj8 s5
    refine r_locs (lc' := [(0, .ref (fad Δ 1 0 0)), (1, .ref (fad Δ 7 i1 0)), (3, .int a3), (4, .int x3)]) [1, 2, 4, 0] rfl ?_
    have L20 : ∀ (n14 : Nat) (x12 : Int32) (s13 : fSt), fW Δ Γ 5 (fQ eV Δ Γ) 20 [(0, .ref (fad Δ 1 0 0)), (1, .ref (fad Δ 7 i1 0)), (3, .int a3), (4, .int x12)] [] s13 (f_X1_choose_L20 i1 k6 n14 x12 s13) := by
      intro n14
      induction n14 with
      | zero =>
        intro x12 s13
        rw [f_X1_choose_L20]
        exact r_none
      | succ n14 ih_n14 =>
        intro x12 s13
        rw [f_X1_choose_L20]
        refine r_iload (q := 22) (i := 4) (z := 3) C dX1_choose_20 rfl rfl ?_
        refine r_aload_n (q := 23) (i := 1) (z := 1) C dX1_choose_22 rfl rfl rfl ?_
        refine g_X1_39 (q := 26) C hi1 dX1_choose_23 rfl ?_
        refine r_icmp_ge (q := 29) (tgt := 52) C dX1_choose_26 (by decide) rfl ?_ ?_
        · exact hk6 x12 s13
        · refine r_iload (q := 31) (i := 4) (z := 3) C dX1_choose_29 rfl rfl ?_
          refine r_bipush (q := 33) (v := 6) C dX1_choose_31 rfl (by decide) ?_
          refine r_icmp_ge (q := 36) (tgt := 52) C dX1_choose_33 (by decide) rfl ?_ ?_
          · exact hk6 x12 s13
          · refine r_aload_n (q := 37) (i := 0) (z := 0) C dX1_choose_36 rfl rfl rfl ?_
            refine g_X1_24 (q := 40) C (nk_1_0 hN) dX1_choose_37 rfl ?_
            refine r_iload (q := 42) (i := 4) (z := 3) C dX1_choose_40 rfl rfl ?_
            refine r_ial (q := 43) q_1_5 h_1_5 C (nk_1_0 hN) dX1_choose_42 rfl ?_
            refine r_if_ne (q := 46) (tgt := 52) C dX1_choose_43 (by decide) rfl ?_ ?_
            · exact hk6 x12 s13
            · refine r_iinc (q := 49) (z := 3) (d := 1) [(0, .ref (fad Δ 1 0 0)), (1, .ref (fad Δ 7 i1 0)), (3, .int a3)] C dX1_choose_46 rfl rfl (by decide) (by decide) rfl (fun x15 => ?_)
              refine r_goto (q := 20) C dX1_choose_49 (by decide) ?_
              refine r_locs (lc' := [(0, .ref (fad Δ 1 0 0)), (1, .ref (fad Δ 7 i1 0)), (3, .int a3), (4, .int x15)]) [1, 2, 3, 0] rfl ?_
              exact ih_n14 x15 s13
    exact L20 fF x3 s1
  refine r_icmp_eq (q := 8) (tgt := 17) C dX1_choose_5 (by decide) rfl ?_ ?_
  · exact hj2 st
  · refine r_iload_n (q := 9) (i := 3) (z := 3) C dX1_choose_8 rfl rfl rfl ?_
    refine r_aload_n (q := 10) (i := 0) (z := 0) C dX1_choose_9 rfl rfl rfl ?_
    refine g_X1_52 (q := 13) C (nk_1_0 hN) dX1_choose_10 rfl ?_
    refine r_icmp_lt (q := 16) (tgt := 17) C dX1_choose_13 (by decide) rfl ?_ ?_
    · exact hj2 st
    · exact r_vret C dX1_choose_16

noncomputable def f_X1_choose : Nat → Nat → Int32 → Int32 → fSt → Option (Unit × fSt)
  | 0 => fun _ _ _ _ => none
  | n + 1 => f_X1_choose_b (f_X1_choose n)

theorem c_X1_choose (Δ : fDl) (hN : fNx Δ) (n : Nat) (i1 : Nat) (a2 : Int32) (a3 : Int32) (hi1 : i1 < fN Δ 7) (st : fSt) : fMt eV Δ yX1_choose cX1_choose 5 none (1 + 2 * n) [.ref (fad Δ 1 0 0), .ref (fad Δ 7 i1 0), .int a2, .int a3] st (f_X1_choose n i1 a2 a3 st) := by
  revert i1 a2 a3 hi1 st
  induction n with
  | zero => intros; exact fun _ _ h => by cases h
  | succ n ih =>
    intro i1 a2 a3 hi1 st
    exact c_X1_choose_b Δ hN (1 + 2 * n) (by omega) (f_X1_choose n) ih i1 a2 a3 hi1 st

noncomputable def f_X1_findBest_L2 (i1 : Nat) (a2 : Int32) (k3 : fSt → Option (Int32 × fSt)) : Nat → Int32 → fSt → Option (Int32 × fSt)
  | 0, _, _ => none
  | n14 + 1, x12, s13 =>
      if (gI s13 7 i1 0) ≤ x12 then
        (k3 s13)
      else
        (fBd (f_X7_linesOfRole i1 x12 s13) fun x15 s16 =>
        fIx x12 6 <|
        fLt (sA s16 1 0 4 (upd (gA s16 1 0 4) x12.toNatClampNeg (x15 * a2))) fun s17 =>
        fBd (f_X7_rolesBeside i1 x12 s17) fun x18 s19 =>
        fIx x12 6 <|
        fLt (sA s19 1 0 5 (upd (gA s19 1 0 5) x12.toNatClampNeg x18)) fun s20 =>
        fLt (x12 + (1 : Int32)) fun (x21 : Int32) =>
        f_X1_findBest_L2 i1 a2 k3 n14 x21 s20)

noncomputable def f_X1_findBest (i1 : Nat) (a2 : Int32) (st : fSt) : Option (Int32 × fSt) :=
  fLt ((0 : Int32)) fun (x1 : Int32) =>
  fJn (fun (s2 : fSt) =>
    (fBd (f_J7_fill_53178 1 0 2 6 ((-1 : Int32)) s2) fun _ s4 =>
    fBd (f_J7_fill_53178 1 0 6 6 ((0 : Int32)) s4) fun _ s5 =>
    fBd (f_J7_fill_53178 1 0 7 6 ((0 : Int32)) s5) fun _ s6 =>
    fLt (sI s6 1 0 7 ((-1 : Int32))) fun s7 =>
    fBd (f_X1_choose 8 i1 ((0 : Int32)) ((0 : Int32)) s7) fun _ s8 =>
    fJn (fun (s9 : fSt) =>
      (some (gI s9 1 0 7, s9))) fun (j10 : fSt → Option (Int32 × fSt)) =>
    if (gI s8 1 0 7) = ((-1 : Int32)) then
      (j10 s8)
    else
      (fCp ((0 : Int32)) ((0 : Int32)) ((6 : Int32)) 6 6 <|
      fLt (sA s8 1 0 1 (va_cpy (gA s8 1 0 3) (gA s8 1 0 1) ((0 : Int32)).toNatClampNeg ((0 : Int32)).toNatClampNeg ((6 : Int32)).toNatClampNeg)) fun s11 =>
      j10 s11))) fun (k3 : fSt → Option (Int32 × fSt)) =>
  f_X1_findBest_L2 i1 a2 k3 fF x1 st

set_option maxHeartbeats 4000000 in
set_option maxRecDepth 100000 in
theorem c_X1_findBest (Δ : fDl) (hN : fNx Δ) (i1 : Nat) (a2 : Int32) (hi1 : i1 < fN Δ 7)  (st : fSt) : fMt eI Δ yX1_findBest cX1_findBest 4 (some .int) 18 [.ref (fad Δ 1 0 0), .ref (fad Δ 7 i1 0), .int a2] st (f_X1_findBest i1 a2 st) := by
  unfold f_X1_findBest
  refine r_method (by decide +kernel) (Nat.le_of_ble_eq_true rfl) (fun Γ C => ?_)
  have C : fC Δ Γ cX1_findBest RX1 4 (some .int) 18 := C
  refine r_locs (lc' := [(0, .ref (fad Δ 1 0 0)), (1, .ref (fad Δ 7 i1 0)), (2, .int a2)]) [0, 1, 2] rfl ?_
  refine r_iconst (q := 1) (v := 0) C dX1_findBest_0 rfl (by decide) ?_
  refine r_istore_n (q := 2) (i := 3) [(0, .ref (fad Δ 1 0 0)), (1, .ref (fad Δ 7 i1 0)), (2, .int a2)] C dX1_findBest_1 rfl rfl (by decide) rfl (fun x1 => ?_)
  refine r_join (fun k3 => ∀  (s2 : fSt), fW Δ Γ 4 (fQ eI Δ Γ) 40 [(0, .ref (fad Δ 1 0 0)), (1, .ref (fad Δ 7 i1 0))] [] s2 (k3 s2)) ?_ (fun k3 hk3 => ?_)
  · intro s2
    refine r_aload_n (q := 41) (i := 0) (z := 0) C dX1_findBest_40 rfl rfl rfl ?_
    refine g_X1_15 (q := 44) C (nk_1_0 hN) dX1_findBest_41 rfl ?_
    refine r_iconst (q := 45) (v := (-1)) C dX1_findBest_44 rfl (by decide) ?_
    refine r_callSV (q := 48) (As := [.ref (fad Δ 1 0 2), .int ((-1 : Int32))]) wm_X1_33 ysJ7_fill_53178 (c_J7_fill_53178 Δ 1 0 2 6 ((-1 : Int32)) q_1_2 h_1_2 (nk_1_0 hN) s2) C (by decide) rfl (Nat.le_of_ble_eq_true rfl) dX1_findBest_45 rfl (fun _ s4 => ?_)
    refine r_aload_n (q := 49) (i := 0) (z := 0) C dX1_findBest_48 rfl rfl rfl ?_
    refine g_X1_27 (q := 52) C (nk_1_0 hN) dX1_findBest_49 rfl ?_
    refine r_iconst (q := 53) (v := 0) C dX1_findBest_52 rfl (by decide) ?_
    refine r_callSV (q := 56) (As := [.ref (fad Δ 1 0 6), .int ((0 : Int32))]) wm_X1_33 ysJ7_fill_53178 (c_J7_fill_53178 Δ 1 0 6 6 ((0 : Int32)) q_1_6 h_1_6 (nk_1_0 hN) s4) C (by decide) rfl (Nat.le_of_ble_eq_true rfl) dX1_findBest_53 rfl (fun _ s5 => ?_)
    refine r_aload_n (q := 57) (i := 0) (z := 0) C dX1_findBest_56 rfl rfl rfl ?_
    refine g_X1_30 (q := 60) C (nk_1_0 hN) dX1_findBest_57 rfl ?_
    refine r_iconst (q := 61) (v := 0) C dX1_findBest_60 rfl (by decide) ?_
    refine r_callSV (q := 64) (As := [.ref (fad Δ 1 0 7), .int ((0 : Int32))]) wm_X1_33 ysJ7_fill_53178 (c_J7_fill_53178 Δ 1 0 7 6 ((0 : Int32)) q_1_7 h_1_7 (nk_1_0 hN) s5) C (by decide) rfl (Nat.le_of_ble_eq_true rfl) dX1_findBest_61 rfl (fun _ s6 => ?_)
    refine r_aload_n (q := 65) (i := 0) (z := 0) C dX1_findBest_64 rfl rfl rfl ?_
    refine r_iconst (q := 66) (v := (-1)) C dX1_findBest_65 rfl (by decide) ?_
    refine p_X1_52 (q := 69) C (nk_1_0 hN) dX1_findBest_66 rfl (fun s7 => ?_)
    refine r_aload_n (q := 70) (i := 0) (z := 0) C dX1_findBest_69 rfl rfl rfl ?_
    refine r_aload_n (q := 71) (i := 1) (z := 1) C dX1_findBest_70 rfl rfl rfl ?_
    refine r_iconst (q := 72) (v := 0) C dX1_findBest_71 rfl (by decide) ?_
    refine r_iconst (q := 73) (v := 0) C dX1_findBest_72 rfl (by decide) ?_
    refine r_callVV (q := 76) (As := [.ref (fad Δ 7 i1 0), .int ((0 : Int32)), .int ((0 : Int32))]) wm_X1_55 yvX1_choose (c_X1_choose Δ hN 8 i1 ((0 : Int32)) ((0 : Int32)) hi1 s7) ⟨rfl, by decide⟩ C (nk_1_0 hN) (by decide) rfl (Nat.le_of_ble_eq_true rfl) dX1_findBest_73 rfl (fun _ s8 => ?_)
    refine r_aload_n (q := 77) (i := 0) (z := 0) C dX1_findBest_76 rfl rfl rfl ?_
    refine g_X1_52 (q := 80) C (nk_1_0 hN) dX1_findBest_77 rfl ?_
    refine r_iconst (q := 81) (v := (-1)) C dX1_findBest_80 rfl (by decide) ?_
    refine r_join (fun j10 => ∀  (s9 : fSt), fW Δ Γ 4 (fQ eI Δ Γ) 99 [(0, .ref (fad Δ 1 0 0))] [] s9 (j10 s9)) ?_ (fun j10 hj10 => ?_)
    · intro s9
      refine r_aload_n (q := 100) (i := 0) (z := 0) C dX1_findBest_99 rfl rfl rfl ?_
      refine g_X1_52 (q := 103) C (nk_1_0 hN) dX1_findBest_100 rfl ?_
      exact r_iret C dX1_findBest_103
    refine r_icmp_eq (q := 84) (tgt := 99) C dX1_findBest_81 (by decide) rfl ?_ ?_
    · refine r_locs (lc' := [(0, .ref (fad Δ 1 0 0))]) [0] rfl ?_
      exact hj10 s8
    · refine r_aload_n (q := 85) (i := 0) (z := 0) C dX1_findBest_84 rfl rfl rfl ?_
      refine g_X1_18 (q := 88) C (nk_1_0 hN) dX1_findBest_85 rfl ?_
      refine r_iconst (q := 89) (v := 0) C dX1_findBest_88 rfl (by decide) ?_
      refine r_aload_n (q := 90) (i := 0) (z := 0) C dX1_findBest_89 rfl rfl rfl ?_
      refine g_X1_9 (q := 93) C (nk_1_0 hN) dX1_findBest_90 rfl ?_
      refine r_iconst (q := 94) (v := 0) C dX1_findBest_93 rfl (by decide) ?_
      refine r_bipush (q := 96) (v := 6) C dX1_findBest_94 rfl (by decide) ?_
      refine r_copyI (q := 99) wk_X1_59 mw_copy.1 mw_copy.2.1 mw_copy.2.2 q_1_3 q_1_1 h_1_3 h_1_1 C (by decide) (Nat.le_of_ble_eq_true rfl) (nk_1_0 hN) (nk_1_0 hN) dX1_findBest_96 rfl (fun s11 => ?_)
      refine r_locs (lc' := [(0, .ref (fad Δ 1 0 0))]) [0] rfl ?_
      exact hj10 s11
  refine r_locs (lc' := [(0, .ref (fad Δ 1 0 0)), (1, .ref (fad Δ 7 i1 0)), (2, .int a2), (3, .int x1)]) [1, 2, 3, 0] rfl ?_
  have L2 : ∀ (n14 : Nat) (x12 : Int32) (s13 : fSt), fW Δ Γ 4 (fQ eI Δ Γ) 2 [(0, .ref (fad Δ 1 0 0)), (1, .ref (fad Δ 7 i1 0)), (2, .int a2), (3, .int x12)] [] s13 (f_X1_findBest_L2 i1 a2 k3 n14 x12 s13) := by
    intro n14
    induction n14 with
    | zero =>
      intro x12 s13
      rw [f_X1_findBest_L2]
      exact r_none
    | succ n14 ih_n14 =>
      intro x12 s13
      rw [f_X1_findBest_L2]
      refine r_iload_n (q := 3) (i := 3) (z := 3) C dX1_findBest_2 rfl rfl rfl ?_
      refine r_aload_n (q := 4) (i := 1) (z := 1) C dX1_findBest_3 rfl rfl rfl ?_
      refine g_X1_39 (q := 7) C hi1 dX1_findBest_4 rfl ?_
      refine r_icmp_ge (q := 10) (tgt := 40) C dX1_findBest_7 (by decide) rfl ?_ ?_
      · refine r_locs (lc' := [(0, .ref (fad Δ 1 0 0)), (1, .ref (fad Δ 7 i1 0))]) [0, 1] rfl ?_
        exact hk3 s13
      · refine r_aload_n (q := 11) (i := 0) (z := 0) C dX1_findBest_10 rfl rfl rfl ?_
        refine g_X1_21 (q := 14) C (nk_1_0 hN) dX1_findBest_11 rfl ?_
        refine r_iload_n (q := 15) (i := 3) (z := 3) C dX1_findBest_14 rfl rfl rfl ?_
        refine r_aload_n (q := 16) (i := 1) (z := 1) C dX1_findBest_15 rfl rfl rfl ?_
        refine r_iload_n (q := 17) (i := 3) (z := 3) C dX1_findBest_16 rfl rfl rfl ?_
        refine r_callVI (q := 20) (As := [.int x12]) wm_X1_45 yvX7_linesOfRole (c_X7_linesOfRole Δ hN i1 x12 hi1 s13) ⟨rfl, by decide⟩ C hi1 (by decide) rfl (Nat.le_of_ble_eq_true rfl) dX1_findBest_17 rfl (fun x15 s16 => ?_)
        refine r_iload_n (q := 21) (i := 2) (z := 2) C dX1_findBest_20 rfl rfl rfl ?_
        refine r_imul (q := 22) C dX1_findBest_21 rfl ?_
        refine r_ast (q := 23) q_1_4 h_1_4 C (nk_1_0 hN) dX1_findBest_22 rfl (fun s17 => ?_)
        refine r_aload_n (q := 24) (i := 0) (z := 0) C dX1_findBest_23 rfl rfl rfl ?_
        refine g_X1_24 (q := 27) C (nk_1_0 hN) dX1_findBest_24 rfl ?_
        refine r_iload_n (q := 28) (i := 3) (z := 3) C dX1_findBest_27 rfl rfl rfl ?_
        refine r_aload_n (q := 29) (i := 1) (z := 1) C dX1_findBest_28 rfl rfl rfl ?_
        refine r_iload_n (q := 30) (i := 3) (z := 3) C dX1_findBest_29 rfl rfl rfl ?_
        refine r_callVI (q := 33) (As := [.int x12]) wm_X1_49 yvX7_rolesBeside (c_X7_rolesBeside Δ hN i1 x12 hi1 s17) ⟨rfl, by decide⟩ C hi1 (by decide) rfl (Nat.le_of_ble_eq_true rfl) dX1_findBest_30 rfl (fun x18 s19 => ?_)
        refine r_ast (q := 34) q_1_5 h_1_5 C (nk_1_0 hN) dX1_findBest_33 rfl (fun s20 => ?_)
        refine r_iinc (q := 37) (z := 3) (d := 1) [(0, .ref (fad Δ 1 0 0)), (1, .ref (fad Δ 7 i1 0)), (2, .int a2)] C dX1_findBest_34 rfl rfl (by decide) (by decide) rfl (fun x21 => ?_)
        refine r_goto (q := 2) C dX1_findBest_37 (by decide) ?_
        refine r_locs (lc' := [(0, .ref (fad Δ 1 0 0)), (1, .ref (fad Δ 7 i1 0)), (2, .int a2), (3, .int x21)]) [1, 2, 3, 0] rfl ?_
        exact ih_n14 x21 s20
  exact L2 fF x1 st

noncomputable def f_X2_takeFrom (i0 : Nat) (i1 : Nat) (st : fSt) : Option (Unit × fSt) :=
  fLt (sP st 2 i0 0 (gP st 2 i1 0)) fun s1 =>
  fLt (sP s1 2 i0 1 (gP s1 2 i1 1)) fun s2 =>
  fLt (sI s2 2 i0 2 (gI s2 2 i1 2)) fun s3 =>
  fLt (sI s3 2 i0 3 (gI s3 2 i1 3)) fun s4 =>
  fBd (f_X0_takeFrom i0 i1 s4) fun _ s5 =>
  some ((), s5)

set_option maxHeartbeats 4000000 in
set_option maxRecDepth 100000 in
theorem c_X2_takeFrom (Δ : fDl) (hN : fNx Δ) (i0 : Nat) (i1 : Nat) (hi0 : i0 < fN Δ 2) (hi1 : i1 < fN Δ 2)  (st : fSt) : fMt eV Δ yX2_takeFrom cX2_takeFrom 2 none 2 [.ref (fad Δ 2 i0 0), .ref (fad Δ 2 i1 0)] st (f_X2_takeFrom i0 i1 st) := by
  unfold f_X2_takeFrom
  refine r_method (by decide +kernel) (Nat.le_of_ble_eq_true rfl) (fun Γ C => ?_)
  have C : fC Δ Γ cX2_takeFrom RX2 2 none 2 := C
  refine r_locs (lc' := [(0, .ref (fad Δ 2 i0 0)), (1, .ref (fad Δ 2 i1 0))]) [0, 1] rfl ?_
  refine r_aload_n (q := 1) (i := 0) (z := 0) C dX2_takeFrom_0 rfl rfl rfl ?_
  refine r_aload_n (q := 2) (i := 1) (z := 1) C dX2_takeFrom_1 rfl rfl rfl ?_
  refine g_X2_18 (q := 5) C hi1 dX2_takeFrom_2 rfl ?_
  refine p_X2_18 (q := 8) (x := (gP st 2 i1 0)) C hi0 (fun h => (h _ hi1).1) dX2_takeFrom_5 rfl (fun s1 => ?_)
  refine r_aload_n (q := 9) (i := 0) (z := 0) C dX2_takeFrom_8 rfl rfl rfl ?_
  refine r_aload_n (q := 10) (i := 1) (z := 1) C dX2_takeFrom_9 rfl rfl rfl ?_
  refine g_X2_22 (q := 13) C hi1 dX2_takeFrom_10 rfl ?_
  refine p_X2_22 (q := 16) (x := (gP s1 2 i1 1)) C hi0 (fun h => (h _ hi1).2) dX2_takeFrom_13 rfl (fun s2 => ?_)
  refine r_aload_n (q := 17) (i := 0) (z := 0) C dX2_takeFrom_16 rfl rfl rfl ?_
  refine r_aload_n (q := 18) (i := 1) (z := 1) C dX2_takeFrom_17 rfl rfl rfl ?_
  refine g_X2_26 (q := 21) C hi1 dX2_takeFrom_18 rfl ?_
  refine p_X2_26 (q := 24) C hi0 dX2_takeFrom_21 rfl (fun s3 => ?_)
  refine r_aload_n (q := 25) (i := 0) (z := 0) C dX2_takeFrom_24 rfl rfl rfl ?_
  refine r_aload_n (q := 26) (i := 1) (z := 1) C dX2_takeFrom_25 rfl rfl rfl ?_
  refine g_X2_30 (q := 29) C hi1 dX2_takeFrom_26 rfl ?_
  refine p_X2_30 (q := 32) C hi0 dX2_takeFrom_29 rfl (fun s4 => ?_)
  refine r_aload_n (q := 33) (i := 0) (z := 0) C dX2_takeFrom_32 rfl rfl rfl ?_
  refine g_X2_12 (q := 36) C hi0 dX2_takeFrom_33 rfl ?_
  refine r_aload_n (q := 37) (i := 1) (z := 1) C dX2_takeFrom_36 rfl rfl rfl ?_
  refine g_X2_12 (q := 40) C hi1 dX2_takeFrom_37 rfl ?_
  refine r_callVV (q := 43) (As := [.ref (fad Δ 0 i1 0)]) wm_X2_33 yvX0_takeFrom (c_X0_takeFrom Δ hN i0 i1 (nx_20 hN hi0) (nx_20 hN hi1) s4) ⟨rfl, by decide⟩ C (nx_20 hN hi0) (by decide) rfl (Nat.le_of_ble_eq_true rfl) dX2_takeFrom_40 rfl (fun _ s5 => ?_)
  exact r_vret C dX2_takeFrom_43

noncomputable def f_X2_raise (i0 : Nat) (i1 : Nat) (st : fSt) : Option (Unit × fSt) :=
  fLt (sP st 2 i0 0 (i1 + 1)) fun s1 =>
  fLt (sP s1 2 i0 1 0) fun s2 =>
  fLt (sI s2 2 i0 2 ((0 : Int32))) fun s3 =>
  fLt (sI s3 2 i0 3 ((0 : Int32))) fun s4 =>
  fBd (f_X0_clear i0 s4) fun _ s5 =>
  some ((), s5)

set_option maxHeartbeats 4000000 in
set_option maxRecDepth 100000 in
theorem c_X2_raise (Δ : fDl) (hN : fNx Δ) (i0 : Nat) (i1 : Nat) (hi0 : i0 < fN Δ 2) (hi1 : i1 < fN Δ 7)  (st : fSt) : fMt eV Δ yX2_raise cX2_raise 2 none 2 [.ref (fad Δ 2 i0 0), .ref (fad Δ 7 i1 0)] st (f_X2_raise i0 i1 st) := by
  unfold f_X2_raise
  refine r_method (by decide +kernel) (Nat.le_of_ble_eq_true rfl) (fun Γ C => ?_)
  have C : fC Δ Γ cX2_raise RX2 2 none 2 := C
  refine r_locs (lc' := [(0, .ref (fad Δ 2 i0 0)), (1, .ref (fad Δ 7 i1 0))]) [0, 1] rfl ?_
  refine r_aload_n (q := 1) (i := 0) (z := 0) C dX2_raise_0 rfl rfl rfl ?_
  refine r_aload_n (q := 2) (i := 1) (z := 1) C dX2_raise_1 rfl rfl rfl ?_
  refine p_X2_18 (q := 5) (x := (i1 + 1)) C hi0 (fun _ => hi1) dX2_raise_2 rfl (fun s1 => ?_)
  refine r_aload_n (q := 6) (i := 0) (z := 0) C dX2_raise_5 rfl rfl rfl ?_
  refine r_null (q := 7) C dX2_raise_6 rfl ?_
  refine p_X2_22 (q := 10) (x := 0) C hi0 (fun _ => Nat.zero_le _) dX2_raise_7 rfl (fun s2 => ?_)
  refine r_aload_n (q := 11) (i := 0) (z := 0) C dX2_raise_10 rfl rfl rfl ?_
  refine r_iconst (q := 12) (v := 0) C dX2_raise_11 rfl (by decide) ?_
  refine p_X2_26 (q := 15) C hi0 dX2_raise_12 rfl (fun s3 => ?_)
  refine r_aload_n (q := 16) (i := 0) (z := 0) C dX2_raise_15 rfl rfl rfl ?_
  refine r_iconst (q := 17) (v := 0) C dX2_raise_16 rfl (by decide) ?_
  refine p_X2_30 (q := 20) C hi0 dX2_raise_17 rfl (fun s4 => ?_)
  refine r_aload_n (q := 21) (i := 0) (z := 0) C dX2_raise_20 rfl rfl rfl ?_
  refine g_X2_12 (q := 24) C hi0 dX2_raise_21 rfl ?_
  refine r_callVV (q := 27) (As := []) wm_X2_37 yvX0_clear (c_X0_clear Δ hN i0 (nx_20 hN hi0) s4) ⟨rfl, by decide⟩ C (nx_20 hN hi0) (by decide) rfl (Nat.le_of_ble_eq_true rfl) dX2_raise_24 rfl (fun _ s5 => ?_)
  exact r_vret C dX2_raise_27

noncomputable def f_X2_setBarred (i0 : Nat) (a1 : Int32) (a2 : Int32) (st : fSt) : Option (Unit × fSt) :=
  fJn (fun (x1 : Int32) (s2 : fSt) =>
    (fLt (sI s2 2 i0 2 x1) fun s4 =>
    some ((), s4))) fun (j3 : Int32 → fSt → Option (Unit × fSt)) =>
  if a2 = 0 then
    (j3 ((gI st 2 i0 2) &&& ((((1 : Int32)) <<< (a1 &&& 31)) ^^^ ((-1 : Int32)))) st)
  else
    (j3 ((gI st 2 i0 2) ||| (((1 : Int32)) <<< (a1 &&& 31))) st)

set_option maxHeartbeats 4000000 in
set_option maxRecDepth 100000 in
theorem c_X2_setBarred (Δ : fDl) (hN : fNx Δ) (i0 : Nat) (a1 : Int32) (a2 : Int32) (hi0 : i0 < fN Δ 2)  (st : fSt) : fMt eV Δ yX2_setBarred cX2_setBarred 3 none 1 [.ref (fad Δ 2 i0 0), .int a1, .int a2] st (f_X2_setBarred i0 a1 a2 st) := by
  unfold f_X2_setBarred
  refine r_method (by decide +kernel) (Nat.le_of_ble_eq_true rfl) (fun Γ C => ?_)
  have C : fC Δ Γ cX2_setBarred RX2 3 none 1 := C
  refine r_locs (lc' := [(0, .ref (fad Δ 2 i0 0)), (1, .int a1), (2, .int a2)]) [0, 1, 2] rfl ?_
  refine r_aload_n (q := 1) (i := 0) (z := 0) C dX2_setBarred_0 rfl rfl rfl ?_
  refine r_iload_n (q := 2) (i := 2) (z := 2) C dX2_setBarred_1 rfl rfl rfl ?_
  refine r_join (fun j3 => ∀ (x1 : Int32) (s2 : fSt), fW Δ Γ 3 (fQ eV Δ Γ) 26 [] [.int x1, .ref (fad Δ 2 i0 0)] s2 (j3 x1 s2)) ?_ (fun j3 hj3 => ?_)
  · intro x1 s2
    refine p_X2_26 (q := 29) C hi0 dX2_setBarred_26 rfl (fun s4 => ?_)
    exact r_vret C dX2_setBarred_29
  refine r_if_eq (q := 5) (tgt := 16) C dX2_setBarred_2 (by decide) rfl ?_ ?_
  · refine r_aload_n (q := 17) (i := 0) (z := 0) C dX2_setBarred_16 rfl rfl rfl ?_
    refine g_X2_26 (q := 20) C hi0 dX2_setBarred_17 rfl ?_
    refine r_iconst (q := 21) (v := 1) C dX2_setBarred_20 rfl (by decide) ?_
    refine r_iload_n (q := 22) (i := 1) (z := 1) C dX2_setBarred_21 rfl rfl rfl ?_
    refine r_ishl (q := 23) C dX2_setBarred_22 rfl ?_
    refine r_iconst (q := 24) (v := (-1)) C dX2_setBarred_23 rfl (by decide) ?_
    refine r_ixor (q := 25) C dX2_setBarred_24 rfl ?_
    refine r_iand (q := 26) C dX2_setBarred_25 rfl ?_
    refine r_locs (lc' := []) [] rfl ?_
    exact hj3 ((gI st 2 i0 2) &&& ((((1 : Int32)) <<< (a1 &&& 31)) ^^^ ((-1 : Int32)))) st
  · refine r_aload_n (q := 6) (i := 0) (z := 0) C dX2_setBarred_5 rfl rfl rfl ?_
    refine g_X2_26 (q := 9) C hi0 dX2_setBarred_6 rfl ?_
    refine r_iconst (q := 10) (v := 1) C dX2_setBarred_9 rfl (by decide) ?_
    refine r_iload_n (q := 11) (i := 1) (z := 1) C dX2_setBarred_10 rfl rfl rfl ?_
    refine r_ishl (q := 12) C dX2_setBarred_11 rfl ?_
    refine r_ior (q := 13) C dX2_setBarred_12 rfl ?_
    refine r_goto (q := 26) C dX2_setBarred_13 (by decide) ?_
    refine r_locs (lc' := []) [] rfl ?_
    exact hj3 ((gI st 2 i0 2) ||| (((1 : Int32)) <<< (a1 &&& 31))) st

noncomputable def f_X2_setDead (i0 : Nat) (a1 : Int32) (a2 : Int32) (st : fSt) : Option (Unit × fSt) :=
  fJn (fun (x1 : Int32) (s2 : fSt) =>
    (fLt (sI s2 2 i0 3 x1) fun s4 =>
    some ((), s4))) fun (j3 : Int32 → fSt → Option (Unit × fSt)) =>
  if a2 = 0 then
    (j3 ((gI st 2 i0 3) &&& ((((1 : Int32)) <<< (a1 &&& 31)) ^^^ ((-1 : Int32)))) st)
  else
    (j3 ((gI st 2 i0 3) ||| (((1 : Int32)) <<< (a1 &&& 31))) st)

set_option maxHeartbeats 4000000 in
set_option maxRecDepth 100000 in
theorem c_X2_setDead (Δ : fDl) (hN : fNx Δ) (i0 : Nat) (a1 : Int32) (a2 : Int32) (hi0 : i0 < fN Δ 2)  (st : fSt) : fMt eV Δ yX2_setDead cX2_setDead 3 none 1 [.ref (fad Δ 2 i0 0), .int a1, .int a2] st (f_X2_setDead i0 a1 a2 st) := by
  unfold f_X2_setDead
  refine r_method (by decide +kernel) (Nat.le_of_ble_eq_true rfl) (fun Γ C => ?_)
  have C : fC Δ Γ cX2_setDead RX2 3 none 1 := C
  refine r_locs (lc' := [(0, .ref (fad Δ 2 i0 0)), (1, .int a1), (2, .int a2)]) [0, 1, 2] rfl ?_
  refine r_aload_n (q := 1) (i := 0) (z := 0) C dX2_setDead_0 rfl rfl rfl ?_
  refine r_iload_n (q := 2) (i := 2) (z := 2) C dX2_setDead_1 rfl rfl rfl ?_
  refine r_join (fun j3 => ∀ (x1 : Int32) (s2 : fSt), fW Δ Γ 3 (fQ eV Δ Γ) 26 [] [.int x1, .ref (fad Δ 2 i0 0)] s2 (j3 x1 s2)) ?_ (fun j3 hj3 => ?_)
  · intro x1 s2
    refine p_X2_30 (q := 29) C hi0 dX2_setDead_26 rfl (fun s4 => ?_)
    exact r_vret C dX2_setDead_29
  refine r_if_eq (q := 5) (tgt := 16) C dX2_setDead_2 (by decide) rfl ?_ ?_
  · refine r_aload_n (q := 17) (i := 0) (z := 0) C dX2_setDead_16 rfl rfl rfl ?_
    refine g_X2_30 (q := 20) C hi0 dX2_setDead_17 rfl ?_
    refine r_iconst (q := 21) (v := 1) C dX2_setDead_20 rfl (by decide) ?_
    refine r_iload_n (q := 22) (i := 1) (z := 1) C dX2_setDead_21 rfl rfl rfl ?_
    refine r_ishl (q := 23) C dX2_setDead_22 rfl ?_
    refine r_iconst (q := 24) (v := (-1)) C dX2_setDead_23 rfl (by decide) ?_
    refine r_ixor (q := 25) C dX2_setDead_24 rfl ?_
    refine r_iand (q := 26) C dX2_setDead_25 rfl ?_
    refine r_locs (lc' := []) [] rfl ?_
    exact hj3 ((gI st 2 i0 3) &&& ((((1 : Int32)) <<< (a1 &&& 31)) ^^^ ((-1 : Int32)))) st
  · refine r_aload_n (q := 6) (i := 0) (z := 0) C dX2_setDead_5 rfl rfl rfl ?_
    refine g_X2_30 (q := 9) C hi0 dX2_setDead_6 rfl ?_
    refine r_iconst (q := 10) (v := 1) C dX2_setDead_9 rfl (by decide) ?_
    refine r_iload_n (q := 11) (i := 1) (z := 1) C dX2_setDead_10 rfl rfl rfl ?_
    refine r_ishl (q := 12) C dX2_setDead_11 rfl ?_
    refine r_ior (q := 13) C dX2_setDead_12 rfl ?_
    refine r_goto (q := 26) C dX2_setDead_13 (by decide) ?_
    refine r_locs (lc' := []) [] rfl ?_
    exact hj3 ((gI st 2 i0 3) ||| (((1 : Int32)) <<< (a1 &&& 31))) st

noncomputable def f_X2_playable (i0 : Nat) (a1 : Int32) (a2 : Int32) (st : fSt) : Option (Int32 × fSt) :=
  fJn (fun (s1 : fSt) =>
    (some ((-1 : Int32), s1))) fun (j2 : fSt → Option (Int32 × fSt)) =>
  if a1 < 0 then
    (j2 st)
  else
    (fNn (gP st 2 i0 0) fun y3 =>
    if (gI st 7 y3 2) ≤ a1 then
      (j2 st)
    else
      (if (((gI st 2 i0 2) >>> (a1 &&& 31)) &&& ((1 : Int32))) = 0 then
        (fNn (gP st 2 i0 0) fun y4 =>
        fIx a1 12 <|
        fJn (fun (x5 : Int32) (s6 : fSt) =>
          (some (x5, s6))) fun (j7 : Int32 → fSt → Option (Int32 × fSt)) =>
        if ¬ ((gA st 7 y4 9 a1.toNatClampNeg) &&& a2) = 0 then
          (j7 ((-1 : Int32)) st)
        else
          (j7 a1 st))
      else
        (j2 st)))

set_option maxHeartbeats 4000000 in
set_option maxRecDepth 100000 in
theorem c_X2_playable (Δ : fDl) (hN : fNx Δ) (i0 : Nat) (a1 : Int32) (a2 : Int32) (hi0 : i0 < fN Δ 2)  (st : fSt) : fMt eI Δ yX2_playable cX2_playable 3 (some .int) 1 [.ref (fad Δ 2 i0 0), .int a1, .int a2] st (f_X2_playable i0 a1 a2 st) := by
  unfold f_X2_playable
  refine r_method (by decide +kernel) (Nat.le_of_ble_eq_true rfl) (fun Γ C => ?_)
  have C : fC Δ Γ cX2_playable RX2 3 (some .int) 1 := C
  refine r_locs (lc' := [(0, .ref (fad Δ 2 i0 0)), (1, .int a1), (2, .int a2)]) [0, 1, 2] rfl ?_
  refine r_iload_n (q := 1) (i := 1) (z := 1) C dX2_playable_0 rfl rfl rfl ?_
  refine r_join (fun j2 => ∀  (s1 : fSt), fW Δ Γ 3 (fQ eI Δ Γ) 26 [] [] s1 (j2 s1)) ?_ (fun j2 hj2 => ?_)
  · intro s1
    refine r_iconst (q := 27) (v := (-1)) C dX2_playable_26 rfl (by decide) ?_
    exact r_iret C dX2_playable_27
  refine r_if_lt (q := 4) (tgt := 26) C dX2_playable_1 (by decide) rfl ?_ ?_
  · refine r_locs (lc' := []) [] rfl ?_
    exact hj2 st
  · refine r_iload_n (q := 5) (i := 1) (z := 1) C dX2_playable_4 rfl rfl rfl ?_
    refine r_aload_n (q := 6) (i := 0) (z := 0) C dX2_playable_5 rfl rfl rfl ?_
    refine g_X2_18 (q := 9) C hi0 dX2_playable_6 rfl ?_
    refine r_deref C (fun h => (h _ hi0).1) (fun y3 hy3 => ?_)
    refine g_X2_44 (q := 12) C hy3 dX2_playable_9 rfl ?_
    refine r_icmp_ge (q := 15) (tgt := 26) C dX2_playable_12 (by decide) rfl ?_ ?_
    · refine r_locs (lc' := []) [] rfl ?_
      exact hj2 st
    · refine r_aload_n (q := 16) (i := 0) (z := 0) C dX2_playable_15 rfl rfl rfl ?_
      refine g_X2_26 (q := 19) C hi0 dX2_playable_16 rfl ?_
      refine r_iload_n (q := 20) (i := 1) (z := 1) C dX2_playable_19 rfl rfl rfl ?_
      refine r_ishr (q := 21) C dX2_playable_20 rfl ?_
      refine r_iconst (q := 22) (v := 1) C dX2_playable_21 rfl (by decide) ?_
      refine r_iand (q := 23) C dX2_playable_22 rfl ?_
      refine r_if_eq (q := 26) (tgt := 28) C dX2_playable_23 (by decide) rfl ?_ ?_
      · refine r_aload_n (q := 29) (i := 0) (z := 0) C dX2_playable_28 rfl rfl rfl ?_
        refine g_X2_18 (q := 32) C hi0 dX2_playable_29 rfl ?_
        refine r_deref C (fun h => (h _ hi0).1) (fun y4 hy4 => ?_)
        refine g_X2_57 (q := 35) C hy4 dX2_playable_32 rfl ?_
        refine r_iload_n (q := 36) (i := 1) (z := 1) C dX2_playable_35 rfl rfl rfl ?_
        refine r_ial (q := 37) q_7_9 h_7_9 C hy4 dX2_playable_36 rfl ?_
        refine r_iload_n (q := 38) (i := 2) (z := 2) C dX2_playable_37 rfl rfl rfl ?_
        refine r_iand (q := 39) C dX2_playable_38 rfl ?_
        refine r_join (fun j7 => ∀ (x5 : Int32) (s6 : fSt), fW Δ Γ 3 (fQ eI Δ Γ) 47 [] [.int x5] s6 (j7 x5 s6)) ?_ (fun j7 hj7 => ?_)
        · intro x5 s6
          exact r_iret C dX2_playable_47
        refine r_if_ne (q := 42) (tgt := 46) C dX2_playable_39 (by decide) rfl ?_ ?_
        · refine r_iconst (q := 47) (v := (-1)) C dX2_playable_46 rfl (by decide) ?_
          refine r_locs (lc' := []) [] rfl ?_
          exact hj7 ((-1 : Int32)) st
        · refine r_iload_n (q := 43) (i := 1) (z := 1) C dX2_playable_42 rfl rfl rfl ?_
          refine r_goto (q := 47) C dX2_playable_43 (by decide) ?_
          refine r_locs (lc' := []) [] rfl ?_
          exact hj7 a1 st
      · refine r_locs (lc' := []) [] rfl ?_
        exact hj2 st

noncomputable def f_X2_opening (i0 : Nat) (a1 : Int32) (st : fSt) : Option (Int32 × fSt) :=
  fNn (gP st 2 i0 0) fun y1 =>
  fBd (f_X2_playable i0 ((gI st 7 y1 2) - ((1 : Int32))) a1 st) fun x2 s3 =>
  some (x2, s3)

set_option maxHeartbeats 4000000 in
set_option maxRecDepth 100000 in
theorem c_X2_opening (Δ : fDl) (hN : fNx Δ) (i0 : Nat) (a1 : Int32) (hi0 : i0 < fN Δ 2)  (st : fSt) : fMt eI Δ yX2_opening cX2_opening 2 (some .int) 2 [.ref (fad Δ 2 i0 0), .int a1] st (f_X2_opening i0 a1 st) := by
  unfold f_X2_opening
  refine r_method (by decide +kernel) (Nat.le_of_ble_eq_true rfl) (fun Γ C => ?_)
  have C : fC Δ Γ cX2_opening RX2 2 (some .int) 2 := C
  refine r_locs (lc' := [(0, .ref (fad Δ 2 i0 0)), (1, .int a1)]) [0, 1] rfl ?_
  refine r_aload_n (q := 1) (i := 0) (z := 0) C dX2_opening_0 rfl rfl rfl ?_
  refine r_aload_n (q := 2) (i := 0) (z := 0) C dX2_opening_1 rfl rfl rfl ?_
  refine g_X2_18 (q := 5) C hi0 dX2_opening_2 rfl ?_
  refine r_deref C (fun h => (h _ hi0).1) (fun y1 hy1 => ?_)
  refine g_X2_44 (q := 8) C hy1 dX2_opening_5 rfl ?_
  refine r_iconst (q := 9) (v := 1) C dX2_opening_8 rfl (by decide) ?_
  refine r_isub (q := 10) C dX2_opening_9 rfl ?_
  refine r_iload_n (q := 11) (i := 1) (z := 1) C dX2_opening_10 rfl rfl rfl ?_
  refine r_callVI (q := 14) (As := [.int ((gI st 7 y1 2) - ((1 : Int32))), .int a1]) wm_X2_49 yvX2_playable (c_X2_playable Δ hN i0 ((gI st 7 y1 2) - ((1 : Int32))) a1 hi0 st) ⟨rfl, by decide⟩ C hi0 (by decide) rfl (Nat.le_of_ble_eq_true rfl) dX2_opening_11 rfl (fun x2 s3 => ?_)
  exact r_iret C dX2_opening_14

noncomputable def f_X2_canOpen (i0 : Nat) (st : fSt) : Option (Int32 × fSt) :=
  fBd (f_X2_opening i0 (gI st 2 i0 3) st) fun x1 s2 =>
  fJn (fun (x3 : Int32) (s4 : fSt) =>
    (fBo x3 (some (x3, s4)))) fun (j5 : Int32 → fSt → Option (Int32 × fSt)) =>
  if x1 = ((-1 : Int32)) then
    (j5 ((0 : Int32)) s2)
  else
    (j5 ((1 : Int32)) s2)

set_option maxHeartbeats 4000000 in
set_option maxRecDepth 100000 in
theorem c_X2_canOpen (Δ : fDl) (hN : fNx Δ) (i0 : Nat) (hi0 : i0 < fN Δ 2)  (st : fSt) : fMt eI Δ yX2_canOpen cX2_canOpen 1 (some .boolean) 3 [.ref (fad Δ 2 i0 0)] st (f_X2_canOpen i0 st) := by
  unfold f_X2_canOpen
  refine r_method (by decide +kernel) (Nat.le_of_ble_eq_true rfl) (fun Γ C => ?_)
  have C : fC Δ Γ cX2_canOpen RX2 1 (some .boolean) 3 := C
  refine r_locs (lc' := [(0, .ref (fad Δ 2 i0 0))]) [0] rfl ?_
  refine r_aload_n (q := 1) (i := 0) (z := 0) C dX2_canOpen_0 rfl rfl rfl ?_
  refine r_aload_n (q := 2) (i := 0) (z := 0) C dX2_canOpen_1 rfl rfl rfl ?_
  refine g_X2_30 (q := 5) C hi0 dX2_canOpen_2 rfl ?_
  refine r_callVI (q := 8) (As := [.int (gI st 2 i0 3)]) wm_X2_40 yvX2_opening (c_X2_opening Δ hN i0 (gI st 2 i0 3) hi0 st) ⟨rfl, by decide⟩ C hi0 (by decide) rfl (Nat.le_of_ble_eq_true rfl) dX2_canOpen_5 rfl (fun x1 s2 => ?_)
  refine r_iconst (q := 9) (v := (-1)) C dX2_canOpen_8 rfl (by decide) ?_
  refine r_join (fun j5 => ∀ (x3 : Int32) (s4 : fSt), fW Δ Γ 1 (fQ eI Δ Γ) 17 [] [.int x3] s4 (j5 x3 s4)) ?_ (fun j5 hj5 => ?_)
  · intro x3 s4
    exact r_zret C dX2_canOpen_17
  refine r_icmp_eq (q := 12) (tgt := 16) C dX2_canOpen_9 (by decide) rfl ?_ ?_
  · refine r_iconst (q := 17) (v := 0) C dX2_canOpen_16 rfl (by decide) ?_
    refine r_locs (lc' := []) [] rfl ?_
    exact hj5 ((0 : Int32)) s2
  · refine r_iconst (q := 13) (v := 1) C dX2_canOpen_12 rfl (by decide) ?_
    refine r_goto (q := 17) C dX2_canOpen_13 (by decide) ?_
    refine r_locs (lc' := []) [] rfl ?_
    exact hj5 ((1 : Int32)) s2

noncomputable def f_X2_onward (i0 : Nat) (a1 : Int32) (a2 : Int32) (a3 : Int32) (st : fSt) : Option (Int32 × fSt) :=
  fNn (gP st 2 i0 0) fun y1 =>
  fIx ((a1 * ((4 : Int32))) + a2) 48 <|
  fLt (gA st 7 y1 11 ((a1 * ((4 : Int32))) + a2).toNatClampNeg) fun (x2 : Int32) =>
  fJn (fun (x3 : Int32) (s4 : fSt) =>
    (fBd (f_X2_playable i0 x3 a3 s4) fun x6 s7 =>
    some (x6, s7))) fun (j5 : Int32 → fSt → Option (Int32 × fSt)) =>
  if ¬ x2 = ((-1 : Int32)) then
    (j5 x2 st)
  else
    (fNn (gP st 2 i0 0) fun y8 =>
    fIx (a1 * ((4 : Int32))) 48 <|
    j5 (gA st 7 y8 11 (a1 * ((4 : Int32))).toNatClampNeg) st)

set_option maxHeartbeats 4000000 in
set_option maxRecDepth 100000 in
theorem c_X2_onward (Δ : fDl) (hN : fNx Δ) (i0 : Nat) (a1 : Int32) (a2 : Int32) (a3 : Int32) (hi0 : i0 < fN Δ 2)  (st : fSt) : fMt eI Δ yX2_onward cX2_onward 5 (some .int) 2 [.ref (fad Δ 2 i0 0), .int a1, .int a2, .int a3] st (f_X2_onward i0 a1 a2 a3 st) := by
  unfold f_X2_onward
  refine r_method (by decide +kernel) (Nat.le_of_ble_eq_true rfl) (fun Γ C => ?_)
  have C : fC Δ Γ cX2_onward RX2 5 (some .int) 2 := C
  refine r_locs (lc' := [(0, .ref (fad Δ 2 i0 0)), (1, .int a1), (2, .int a2), (3, .int a3)]) [0, 1, 2, 3] rfl ?_
  refine r_aload_n (q := 1) (i := 0) (z := 0) C dX2_onward_0 rfl rfl rfl ?_
  refine g_X2_18 (q := 4) C hi0 dX2_onward_1 rfl ?_
  refine r_deref C (fun h => (h _ hi0).1) (fun y1 hy1 => ?_)
  refine g_X2_53 (q := 7) C hy1 dX2_onward_4 rfl ?_
  refine r_iload_n (q := 8) (i := 1) (z := 1) C dX2_onward_7 rfl rfl rfl ?_
  refine r_iconst (q := 9) (v := 4) C dX2_onward_8 rfl (by decide) ?_
  refine r_imul (q := 10) C dX2_onward_9 rfl ?_
  refine r_iload_n (q := 11) (i := 2) (z := 2) C dX2_onward_10 rfl rfl rfl ?_
  refine r_iadd (q := 12) C dX2_onward_11 rfl ?_
  refine r_ial (q := 13) q_7_11 h_7_11 C hy1 dX2_onward_12 rfl ?_
  refine r_istore (q := 15) (i := 4) [(0, .ref (fad Δ 2 i0 0)), (1, .int a1), (2, .int a2), (3, .int a3)] C dX2_onward_13 rfl (by decide) rfl (fun x2 => ?_)
  refine r_aload_n (q := 16) (i := 0) (z := 1) C dX2_onward_15 rfl rfl rfl ?_
  refine r_iload (q := 18) (i := 4) (z := 0) C dX2_onward_16 rfl rfl ?_
  refine r_iconst (q := 19) (v := (-1)) C dX2_onward_18 rfl (by decide) ?_
  refine r_join (fun j5 => ∀ (x3 : Int32) (s4 : fSt), fW Δ Γ 5 (fQ eI Δ Γ) 38 [(3, .int a3)] [.int x3, .ref (fad Δ 2 i0 0)] s4 (j5 x3 s4)) ?_ (fun j5 hj5 => ?_)
  · intro x3 s4
    refine r_iload_n (q := 39) (i := 3) (z := 0) C dX2_onward_38 rfl rfl rfl ?_
    refine r_callVI (q := 42) (As := [.int x3, .int a3]) wm_X2_49 yvX2_playable (c_X2_playable Δ hN i0 x3 a3 hi0 s4) ⟨rfl, by decide⟩ C hi0 (by decide) rfl (Nat.le_of_ble_eq_true rfl) dX2_onward_39 rfl (fun x6 s7 => ?_)
    exact r_iret C dX2_onward_42
  refine r_icmp_ne (q := 22) (tgt := 36) C dX2_onward_19 (by decide) rfl ?_ ?_
  · refine r_iload (q := 38) (i := 4) (z := 0) C dX2_onward_36 rfl rfl ?_
    refine r_locs (lc' := [(3, .int a3)]) [4] rfl ?_
    exact hj5 x2 st
  · refine r_aload_n (q := 23) (i := 0) (z := 1) C dX2_onward_22 rfl rfl rfl ?_
    refine g_X2_18 (q := 26) C hi0 dX2_onward_23 rfl ?_
    refine r_deref C (fun h => (h _ hi0).1) (fun y8 hy8 => ?_)
    refine g_X2_53 (q := 29) C hy8 dX2_onward_26 rfl ?_
    refine r_iload_n (q := 30) (i := 1) (z := 2) C dX2_onward_29 rfl rfl rfl ?_
    refine r_iconst (q := 31) (v := 4) C dX2_onward_30 rfl (by decide) ?_
    refine r_imul (q := 32) C dX2_onward_31 rfl ?_
    refine r_ial (q := 33) q_7_11 h_7_11 C hy8 dX2_onward_32 rfl ?_
    refine r_goto (q := 38) C dX2_onward_33 (by decide) ?_
    refine r_locs (lc' := [(3, .int a3)]) [4] rfl ?_
    exact hj5 (gA st 7 y8 11 (a1 * ((4 : Int32))).toNatClampNeg) st
