noncomputable def f_X12_look2 (a1 : Int32) (st : fSt) : Option (Int32 × fSt) :=
  fJn (fun (x1 : Int32) (s2 : fSt) =>
    (some (x1, s2))) fun (j3 : Int32 → fSt → Option (Int32 × fSt)) =>
  if (gI st 12 0 9) ≤ a1 then
    (j3 ((0 : Int32)) st)
  else
    (fIx a1 900 <|
    j3 ((gA st 12 0 4 a1.toNatClampNeg) &&& ((255 : Int32))) st)

set_option maxHeartbeats 4000000 in
set_option maxRecDepth 100000 in
theorem c_X12_look2 (Δ : fDl) (hN : fNm Δ) (a1 : Int32)  (st : fSt) : fMt eI Δ yX12_look2 cX12_look2 2 (some .int) 1 [.ref (fad Δ 12 0 0), .int a1] st (f_X12_look2 a1 st) := by
  unfold f_X12_look2
  refine r_method (by decide +kernel) (Nat.le_of_ble_eq_true rfl) (fun Γ C => ?_)
  have C : fC Δ Γ cX12_look2 RX12 2 (some .int) 1 := C
  refine r_locs (lc' := [(0, .ref (fad Δ 12 0 0)), (1, .int a1)]) [0, 1] rfl ?_
  refine r_iload_n (q := 1) (i := 1) (z := 1) C dX12_look2_0 rfl rfl rfl ?_
  refine r_aload_n (q := 2) (i := 0) (z := 0) C dX12_look2_1 rfl rfl rfl ?_
  refine g_X12_133 (q := 5) C (nm_12 hN) dX12_look2_2 rfl ?_
  refine r_join (fun j3 => ∀ (x1 : Int32) (s2 : fSt), fW Δ Γ 2 (fQ eI Δ Γ) 22 [] [.int x1] s2 (j3 x1 s2)) ?_ (fun j3 hj3 => ?_)
  · intro x1 s2
    exact r_iret C dX12_look2_22
  refine r_icmp_ge (q := 8) (tgt := 21) C dX12_look2_5 (by decide) rfl ?_ ?_
  · refine r_iconst (q := 22) (v := 0) C dX12_look2_21 rfl (by decide) ?_
    refine r_locs (lc' := []) [] rfl ?_
    exact hj3 ((0 : Int32)) st
  · refine r_aload_n (q := 9) (i := 0) (z := 0) C dX12_look2_8 rfl rfl rfl ?_
    refine g_X12_24 (q := 12) C (nm_12 hN) dX12_look2_9 rfl ?_
    refine r_iload_n (q := 13) (i := 1) (z := 1) C dX12_look2_12 rfl rfl rfl ?_
    refine r_bal (q := 14) q_12_4 h_12_4 C (nm_12 hN) dX12_look2_13 rfl ?_
    refine r_sipush (q := 17) (v := 255) C dX12_look2_14 rfl (by decide) ?_
    refine r_iand (q := 18) C dX12_look2_17 rfl ?_
    refine r_goto (q := 22) C dX12_look2_18 (by decide) ?_
    refine r_locs (lc' := []) [] rfl ?_
    exact hj3 ((gA st 12 0 4 a1.toNatClampNeg) &&& ((255 : Int32))) st

noncomputable def f_X12_isLetter (a0 : Int32) (st : fSt) : Option (Int32 × fSt) :=
  fJn (fun (x1 : Int32) (s2 : fSt) =>
    (fBo x1 (some (x1, s2)))) fun (j3 : Int32 → fSt → Option (Int32 × fSt)) =>
  fJn (fun (s4 : fSt) =>
    (j3 ((0 : Int32)) s4)) fun (j5 : fSt → Option (Int32 × fSt)) =>
  if a0 < ((97 : Int32)) then
    (j5 st)
  else
    (if ((122 : Int32)) < a0 then
      (j5 st)
    else
      (j3 ((1 : Int32)) st))

set_option maxHeartbeats 4000000 in
set_option maxRecDepth 100000 in
theorem c_X12_isLetter (Δ : fDl) (hN : fNm Δ) (a0 : Int32)  (st : fSt) : fMt eI Δ yX12_isLetter cX12_isLetter 1 (some .boolean) 1 [.int a0] st (f_X12_isLetter a0 st) := by
  unfold f_X12_isLetter
  refine r_method (by decide +kernel) (Nat.le_of_ble_eq_true rfl) (fun Γ C => ?_)
  have C : fC Δ Γ cX12_isLetter RX12 1 (some .boolean) 1 := C
  refine r_locs (lc' := [(0, .int a0)]) [0] rfl ?_
  refine r_iload_n (q := 1) (i := 0) (z := 0) C dX12_isLetter_0 rfl rfl rfl ?_
  refine r_bipush (q := 3) (v := 97) C dX12_isLetter_1 rfl (by decide) ?_
  refine r_join (fun j3 => ∀ (x1 : Int32) (s2 : fSt), fW Δ Γ 1 (fQ eI Δ Γ) 17 [] [.int x1] s2 (j3 x1 s2)) ?_ (fun j3 hj3 => ?_)
  · intro x1 s2
    exact r_zret C dX12_isLetter_17
  refine r_join (fun j5 => ∀  (s4 : fSt), fW Δ Γ 1 (fQ eI Δ Γ) 16 [] [] s4 (j5 s4)) ?_ (fun j5 hj5 => ?_)
  · intro s4
    refine r_iconst (q := 17) (v := 0) C dX12_isLetter_16 rfl (by decide) ?_
    exact hj3 ((0 : Int32)) s4
  refine r_icmp_lt (q := 6) (tgt := 16) C dX12_isLetter_3 (by decide) rfl ?_ ?_
  · refine r_locs (lc' := []) [] rfl ?_
    exact hj5 st
  · refine r_iload_n (q := 7) (i := 0) (z := 0) C dX12_isLetter_6 rfl rfl rfl ?_
    refine r_bipush (q := 9) (v := 122) C dX12_isLetter_7 rfl (by decide) ?_
    refine r_icmp_gt (q := 12) (tgt := 16) C dX12_isLetter_9 (by decide) rfl ?_ ?_
    · refine r_locs (lc' := []) [] rfl ?_
      exact hj5 st
    · refine r_iconst (q := 13) (v := 1) C dX12_isLetter_12 rfl (by decide) ?_
      refine r_goto (q := 17) C dX12_isLetter_13 (by decide) ?_
      refine r_locs (lc' := []) [] rfl ?_
      exact hj3 ((1 : Int32)) st

noncomputable def f_X12_isDigit (a0 : Int32) (st : fSt) : Option (Int32 × fSt) :=
  fJn (fun (x1 : Int32) (s2 : fSt) =>
    (fBo x1 (some (x1, s2)))) fun (j3 : Int32 → fSt → Option (Int32 × fSt)) =>
  fJn (fun (s4 : fSt) =>
    (j3 ((0 : Int32)) s4)) fun (j5 : fSt → Option (Int32 × fSt)) =>
  if a0 < ((48 : Int32)) then
    (j5 st)
  else
    (if ((57 : Int32)) < a0 then
      (j5 st)
    else
      (j3 ((1 : Int32)) st))

set_option maxHeartbeats 4000000 in
set_option maxRecDepth 100000 in
theorem c_X12_isDigit (Δ : fDl) (hN : fNm Δ) (a0 : Int32)  (st : fSt) : fMt eI Δ yX12_isDigit cX12_isDigit 1 (some .boolean) 1 [.int a0] st (f_X12_isDigit a0 st) := by
  unfold f_X12_isDigit
  refine r_method (by decide +kernel) (Nat.le_of_ble_eq_true rfl) (fun Γ C => ?_)
  have C : fC Δ Γ cX12_isDigit RX12 1 (some .boolean) 1 := C
  refine r_locs (lc' := [(0, .int a0)]) [0] rfl ?_
  refine r_iload_n (q := 1) (i := 0) (z := 0) C dX12_isDigit_0 rfl rfl rfl ?_
  refine r_bipush (q := 3) (v := 48) C dX12_isDigit_1 rfl (by decide) ?_
  refine r_join (fun j3 => ∀ (x1 : Int32) (s2 : fSt), fW Δ Γ 1 (fQ eI Δ Γ) 17 [] [.int x1] s2 (j3 x1 s2)) ?_ (fun j3 hj3 => ?_)
  · intro x1 s2
    exact r_zret C dX12_isDigit_17
  refine r_join (fun j5 => ∀  (s4 : fSt), fW Δ Γ 1 (fQ eI Δ Γ) 16 [] [] s4 (j5 s4)) ?_ (fun j5 hj5 => ?_)
  · intro s4
    refine r_iconst (q := 17) (v := 0) C dX12_isDigit_16 rfl (by decide) ?_
    exact hj3 ((0 : Int32)) s4
  refine r_icmp_lt (q := 6) (tgt := 16) C dX12_isDigit_3 (by decide) rfl ?_ ?_
  · refine r_locs (lc' := []) [] rfl ?_
    exact hj5 st
  · refine r_iload_n (q := 7) (i := 0) (z := 0) C dX12_isDigit_6 rfl rfl rfl ?_
    refine r_bipush (q := 9) (v := 57) C dX12_isDigit_7 rfl (by decide) ?_
    refine r_icmp_gt (q := 12) (tgt := 16) C dX12_isDigit_9 (by decide) rfl ?_ ?_
    · refine r_locs (lc' := []) [] rfl ?_
      exact hj5 st
    · refine r_iconst (q := 13) (v := 1) C dX12_isDigit_12 rfl (by decide) ?_
      refine r_goto (q := 17) C dX12_isDigit_13 (by decide) ?_
      refine r_locs (lc' := []) [] rfl ?_
      exact hj3 ((1 : Int32)) st

noncomputable def f_X12_isSignByte (a1 : Int32) (st : fSt) : Option (Int32 × fSt) :=
  fJn (fun (x1 : Int32) (s2 : fSt) =>
    (fBo x1 (some (x1, s2)))) fun (j3 : Int32 → fSt → Option (Int32 × fSt)) =>
  fJn (fun (s4 : fSt) =>
    (j3 ((1 : Int32)) s4)) fun (j5 : fSt → Option (Int32 × fSt)) =>
  if a1 = ((59 : Int32)) then
    (j5 st)
  else
    (if a1 = ((60 : Int32)) then
      (j5 st)
    else
      (if a1 = ((62 : Int32)) then
        (j5 st)
      else
        (if ¬ a1 = ((61 : Int32)) then
          (j3 ((0 : Int32)) st)
        else
          (j5 st))))

set_option maxHeartbeats 4000000 in
set_option maxRecDepth 100000 in
theorem c_X12_isSignByte (Δ : fDl) (hN : fNm Δ) (a1 : Int32)  (st : fSt) : fMt eI Δ yX12_isSignByte cX12_isSignByte 2 (some .boolean) 1 [.ref (fad Δ 12 0 0), .int a1] st (f_X12_isSignByte a1 st) := by
  unfold f_X12_isSignByte
  refine r_method (by decide +kernel) (Nat.le_of_ble_eq_true rfl) (fun Γ C => ?_)
  have C : fC Δ Γ cX12_isSignByte RX12 2 (some .boolean) 1 := C
  refine r_locs (lc' := [(0, .ref (fad Δ 12 0 0)), (1, .int a1)]) [0, 1] rfl ?_
  refine r_iload_n (q := 1) (i := 1) (z := 1) C dX12_isSignByte_0 rfl rfl rfl ?_
  refine r_bipush (q := 3) (v := 59) C dX12_isSignByte_1 rfl (by decide) ?_
  refine r_join (fun j3 => ∀ (x1 : Int32) (s2 : fSt), fW Δ Γ 2 (fQ eI Δ Γ) 29 [] [.int x1] s2 (j3 x1 s2)) ?_ (fun j3 hj3 => ?_)
  · intro x1 s2
    exact r_zret C dX12_isSignByte_29
  refine r_join (fun j5 => ∀  (s4 : fSt), fW Δ Γ 2 (fQ eI Δ Γ) 24 [] [] s4 (j5 s4)) ?_ (fun j5 hj5 => ?_)
  · intro s4
    refine r_iconst (q := 25) (v := 1) C dX12_isSignByte_24 rfl (by decide) ?_
    refine r_goto (q := 29) C dX12_isSignByte_25 (by decide) ?_
    exact hj3 ((1 : Int32)) s4
  refine r_icmp_eq (q := 6) (tgt := 24) C dX12_isSignByte_3 (by decide) rfl ?_ ?_
  · refine r_locs (lc' := []) [] rfl ?_
    exact hj5 st
  · refine r_iload_n (q := 7) (i := 1) (z := 1) C dX12_isSignByte_6 rfl rfl rfl ?_
    refine r_bipush (q := 9) (v := 60) C dX12_isSignByte_7 rfl (by decide) ?_
    refine r_icmp_eq (q := 12) (tgt := 24) C dX12_isSignByte_9 (by decide) rfl ?_ ?_
    · refine r_locs (lc' := []) [] rfl ?_
      exact hj5 st
    · refine r_iload_n (q := 13) (i := 1) (z := 1) C dX12_isSignByte_12 rfl rfl rfl ?_
      refine r_bipush (q := 15) (v := 62) C dX12_isSignByte_13 rfl (by decide) ?_
      refine r_icmp_eq (q := 18) (tgt := 24) C dX12_isSignByte_15 (by decide) rfl ?_ ?_
      · refine r_locs (lc' := []) [] rfl ?_
        exact hj5 st
      · refine r_iload_n (q := 19) (i := 1) (z := 1) C dX12_isSignByte_18 rfl rfl rfl ?_
        refine r_bipush (q := 21) (v := 61) C dX12_isSignByte_19 rfl (by decide) ?_
        refine r_icmp_ne (q := 24) (tgt := 28) C dX12_isSignByte_21 (by decide) rfl ?_ ?_
        · refine r_iconst (q := 29) (v := 0) C dX12_isSignByte_28 rfl (by decide) ?_
          refine r_locs (lc' := []) [] rfl ?_
          exact hj3 ((0 : Int32)) st
        · refine r_locs (lc' := []) [] rfl ?_
          exact hj5 st

noncomputable def f_X12_next_L210 (k24 : fSt → Option (Unit × fSt)) : Nat → fSt → Option (Unit × fSt)
  | 0, _ => none
  | n30 + 1, s29 =>
      fBd (f_X12_look2 (gI s29 12 0 16) s29) fun x31 s32 =>
              fBd (f_X12_isDigit x31 s32) fun x33 s34 =>
              if x33 = 0 then
                (k24 s34)
              else
                (fJn (fun (s35 : fSt) =>
                  (fLt (sI s35 12 0 16 ((gI s35 12 0 16) + ((1 : Int32)))) fun s37 =>
                  f_X12_next_L210 k24 n30 s37)) fun (j36 : fSt → Option (Unit × fSt)) =>
                if ((4 : Int32)) ≤ ((gI s34 12 0 16) - (gI s34 12 0 15)) then
                  (j36 s34)
                else
                  (fBd (f_X12_look2 (gI s34 12 0 16) s34) fun x38 s39 =>
                  fLt (sI s39 12 0 17 (((((10 : Int32)) * (gI s34 12 0 17)) + x38) - ((48 : Int32)))) fun s40 =>
                  j36 s40))

noncomputable def f_X12_next_L109 (k44 : fSt → Option (Unit × fSt)) : Nat → fSt → Option (Unit × fSt)
  | 0, _ => none
  | n47 + 1, s46 =>
      fBd (f_X12_look2 (gI s46 12 0 16) s46) fun x48 s49 =>
            fBd (f_X12_isLetter x48 s49) fun x50 s51 =>
            if x50 = 0 then
              (k44 s51)
            else
              (fJn (fun (x52 : Int64) (s53 : fSt) =>
                (fLt (sL s53 12 0 19 x52) fun s55 =>
                fLt (sI s55 12 0 16 ((gI s55 12 0 16) + ((1 : Int32)))) fun s56 =>
                f_X12_next_L109 k44 n47 s56)) fun (j54 : Int64 → fSt → Option (Unit × fSt)) =>
              if ((8 : Int32)) ≤ ((gI s51 12 0 16) - (gI s51 12 0 15)) then
                (j54 ((-1 : Int64)) s51)
              else
                (fBd (f_X12_look2 (gI s51 12 0 16) s51) fun x57 s58 =>
                j54 ((((gL s51 12 0 19) * ((32 : Int64))) + x57.toInt64) - ((96 : Int64))) s58))

noncomputable def f_X12_next_L8 (k3 : fSt → Option (Unit × fSt)) : Nat → fSt → Option (Unit × fSt)
  | 0, _ => none
  | n61 + 1, s60 =>
      if (gI s60 12 0 9) ≤ (gI s60 12 0 15) then
        (k3 s60)
      else
        (fBd (f_X12_look2 (gI s60 12 0 15) s60) fun x62 s63 =>
        fJn (fun (s64 : fSt) =>
          (fLt (sI s64 12 0 15 ((gI s64 12 0 15) + ((1 : Int32)))) fun s66 =>
          f_X12_next_L8 k3 n61 s66)) fun (j65 : fSt → Option (Unit × fSt)) =>
        if x62 = ((10 : Int32)) then
          (j65 s63)
        else
          (fBd (f_X12_look2 (gI s63 12 0 15) s63) fun x67 s68 =>
          if ¬ x67 = ((32 : Int32)) then
            (k3 s68)
          else
            (j65 s68)))

noncomputable def f_X12_next  (st : fSt) : Option (Unit × fSt) :=
  fLt (sI st 12 0 15 (gI st 12 0 16)) fun s1 =>
  fJn (fun (s2 : fSt) =>
    (fLt (sI s2 12 0 16 (gI s2 12 0 15)) fun s4 =>
    if (gI s4 12 0 15) < (gI s4 12 0 9) then
      (fBd (f_X12_look2 (gI s4 12 0 15) s4) fun x5 s6 =>
      fLt x5 fun (x7 : Int32) =>
      fBd (f_X12_isLetter x7 s6) fun x8 s9 =>
      fJn (fun (s10 : fSt) =>
        (some ((), s10))) fun (j11 : fSt → Option (Unit × fSt)) =>
      if x8 = 0 then
        (fBd (f_X12_isDigit x7 s9) fun x12 s13 =>
        if x12 = 0 then
          (fLt (sI s13 12 0 16 ((gI s13 12 0 15) + ((1 : Int32)))) fun s14 =>
          fLt (sI s14 12 0 17 x7) fun s15 =>
          fBd (f_X12_isSignByte x7 s15) fun x16 s17 =>
          fJn (fun (x18 : Int32) (s19 : fSt) =>
            (fLt (sI s19 12 0 14 x18) fun s21 =>
            j11 s21)) fun (j20 : Int32 → fSt → Option (Unit × fSt)) =>
          if x16 = 0 then
            (j20 ((4 : Int32)) s17)
          else
            (j20 ((3 : Int32)) s17))
        else
          (fLt (sI s13 12 0 17 ((0 : Int32))) fun s22 =>
          fJn (fun (s23 : fSt) =>
            (fJn (fun (x25 : Int32) (s26 : fSt) =>
              (fLt (sI s26 12 0 14 x25) fun s28 =>
              j11 s28)) fun (j27 : Int32 → fSt → Option (Unit × fSt)) =>
            if ((gI s23 12 0 16) - (gI s23 12 0 15)) ≤ ((4 : Int32)) then
              (j27 ((2 : Int32)) s23)
            else
              (j27 ((4 : Int32)) s23))) fun (k24 : fSt → Option (Unit × fSt)) =>
          f_X12_next_L210 k24 fF s22))
      else
        (fLt (sI s9 12 0 14 ((1 : Int32))) fun s41 =>
        fLt (sL s41 12 0 19 ((0 : Int64))) fun s42 =>
        fJn (fun (s43 : fSt) =>
          (fLt (sI s43 12 0 18 ((gI s43 12 0 16) - (gI s43 12 0 15))) fun s45 =>
          j11 s45)) fun (k44 : fSt → Option (Unit × fSt)) =>
        f_X12_next_L109 k44 fF s42))
    else
      (fLt (sI s4 12 0 14 ((0 : Int32))) fun s59 =>
      some ((), s59)))) fun (k3 : fSt → Option (Unit × fSt)) =>
  f_X12_next_L8 k3 fF s1

set_option maxHeartbeats 4000000 in
set_option maxRecDepth 100000 in
theorem c_X12_next (Δ : fDl) (hN : fNm Δ)   (st : fSt) : fMt eV Δ yX12_next cX12_next 2 none 2 [.ref (fad Δ 12 0 0)] st (f_X12_next  st) := by
  unfold f_X12_next
  refine r_method (by decide +kernel) (Nat.le_of_ble_eq_true rfl) (fun Γ C => ?_)
  have C : fC Δ Γ cX12_next RX12 2 none 2 := C
  refine r_locs (lc' := [(0, .ref (fad Δ 12 0 0))]) [0] rfl ?_
  refine r_aload_n (q := 1) (i := 0) (z := 0) C dX12_next_0 rfl rfl rfl ?_
  refine r_aload_n (q := 2) (i := 0) (z := 0) C dX12_next_1 rfl rfl rfl ?_
  refine g_X12_136 (q := 5) C (nm_12 hN) dX12_next_2 rfl ?_
  refine p_X12_139 (q := 8) C (nm_12 hN) dX12_next_5 rfl (fun s1 => ?_)
  refine r_join (fun k3 => ∀  (s2 : fSt), fW Δ Γ 2 (fQ eV Δ Γ) 58 [(0, .ref (fad Δ 12 0 0))] [] s2 (k3 s2)) ?_ (fun k3 hk3 => ?_)
  · intro s2
    refine r_aload_n (q := 59) (i := 0) (z := 0) C dX12_next_58 rfl rfl rfl ?_
    refine r_aload_n (q := 60) (i := 0) (z := 0) C dX12_next_59 rfl rfl rfl ?_
    refine g_X12_139 (q := 63) C (nm_12 hN) dX12_next_60 rfl ?_
    refine p_X12_136 (q := 66) C (nm_12 hN) dX12_next_63 rfl (fun s4 => ?_)
    refine r_aload_n (q := 67) (i := 0) (z := 0) C dX12_next_66 rfl rfl rfl ?_
    refine g_X12_139 (q := 70) C (nm_12 hN) dX12_next_67 rfl ?_
    refine r_aload_n (q := 71) (i := 0) (z := 0) C dX12_next_70 rfl rfl rfl ?_
    refine g_X12_133 (q := 74) C (nm_12 hN) dX12_next_71 rfl ?_
    refine r_icmp_lt (q := 77) (tgt := 83) C dX12_next_74 (by decide) rfl ?_ ?_
    · refine r_aload_n (q := 84) (i := 0) (z := 0) C dX12_next_83 rfl rfl rfl ?_
      refine r_aload_n (q := 85) (i := 0) (z := 0) C dX12_next_84 rfl rfl rfl ?_
      refine g_X12_139 (q := 88) C (nm_12 hN) dX12_next_85 rfl ?_
      refine r_callVI (q := 91) (As := [.int (gI s4 12 0 15)]) wm_X12_142 yvX12_look2 (c_X12_look2 Δ hN (gI s4 12 0 15) s4) ⟨rfl, by decide⟩ C (nm_12 hN) (by decide) rfl (Nat.le_of_ble_eq_true rfl) dX12_next_88 rfl (fun x5 s6 => ?_)
      refine r_istore_n (q := 92) (i := 1) [(0, .ref (fad Δ 12 0 0))] C dX12_next_91 rfl rfl (by decide) rfl (fun x7 => ?_)
      refine r_iload_n (q := 93) (i := 1) (z := 0) C dX12_next_92 rfl rfl rfl ?_
      refine r_callSI (q := 96) (As := [.int x7]) wm_X12_148 ysX12_isLetter (c_X12_isLetter Δ hN x7 s6) C (by decide) rfl (Nat.le_of_ble_eq_true rfl) dX12_next_93 rfl (fun x8 s9 => ?_)
      refine r_join (fun j11 => ∀  (s10 : fSt), fW Δ Γ 2 (fQ eV Δ Γ) 330 [] [] s10 (j11 s10)) ?_ (fun j11 hj11 => ?_)
      · intro s10
        exact r_vret C dX12_next_330
      refine r_if_eq (q := 99) (tgt := 198) C dX12_next_96 (by decide) rfl ?_ ?_
      · refine r_iload_n (q := 199) (i := 1) (z := 0) C dX12_next_198 rfl rfl rfl ?_
        refine r_callSI (q := 202) (As := [.int x7]) wm_X12_161 ysX12_isDigit (c_X12_isDigit Δ hN x7 s9) C (by decide) rfl (Nat.le_of_ble_eq_true rfl) dX12_next_199 rfl (fun x12 s13 => ?_)
        refine r_if_eq (q := 205) (tgt := 298) C dX12_next_202 (by decide) rfl ?_ ?_
        · refine r_aload_n (q := 299) (i := 0) (z := 1) C dX12_next_298 rfl rfl rfl ?_
          refine r_aload_n (q := 300) (i := 0) (z := 1) C dX12_next_299 rfl rfl rfl ?_
          refine g_X12_139 (q := 303) C (nm_12 hN) dX12_next_300 rfl ?_
          refine r_iconst (q := 304) (v := 1) C dX12_next_303 rfl (by decide) ?_
          refine r_iadd (q := 305) C dX12_next_304 rfl ?_
          refine p_X12_136 (q := 308) C (nm_12 hN) dX12_next_305 rfl (fun s14 => ?_)
          refine r_aload_n (q := 309) (i := 0) (z := 1) C dX12_next_308 rfl rfl rfl ?_
          refine r_iload_n (q := 310) (i := 1) (z := 0) C dX12_next_309 rfl rfl rfl ?_
          refine p_X12_164 (q := 313) C (nm_12 hN) dX12_next_310 rfl (fun s15 => ?_)
          refine r_aload_n (q := 314) (i := 0) (z := 1) C dX12_next_313 rfl rfl rfl ?_
          refine r_aload_n (q := 315) (i := 0) (z := 1) C dX12_next_314 rfl rfl rfl ?_
          refine r_iload_n (q := 316) (i := 1) (z := 0) C dX12_next_315 rfl rfl rfl ?_
          refine r_callVI (q := 319) (As := [.int x7]) wm_X12_167 yvX12_isSignByte (c_X12_isSignByte Δ hN x7 s15) ⟨rfl, by decide⟩ C (nm_12 hN) (by decide) rfl (Nat.le_of_ble_eq_true rfl) dX12_next_316 rfl (fun x16 s17 => ?_)
          refine r_join (fun j20 => ∀ (x18 : Int32) (s19 : fSt), fW Δ Γ 2 (fQ eV Δ Γ) 327 [] [.int x18, .ref (fad Δ 12 0 0)] s19 (j20 x18 s19)) ?_ (fun j20 hj20 => ?_)
          · intro x18 s19
            refine p_X12_145 (q := 330) C (nm_12 hN) dX12_next_327 rfl (fun s21 => ?_)
            exact hj11 s21
          refine r_if_eq (q := 322) (tgt := 326) C dX12_next_319 (by decide) rfl ?_ ?_
          · refine r_iconst (q := 327) (v := 4) C dX12_next_326 rfl (by decide) ?_
            refine r_locs (lc' := []) [] rfl ?_
            exact hj20 ((4 : Int32)) s17
          · refine r_iconst (q := 323) (v := 3) C dX12_next_322 rfl (by decide) ?_
            refine r_goto (q := 327) C dX12_next_323 (by decide) ?_
            refine r_locs (lc' := []) [] rfl ?_
            exact hj20 ((3 : Int32)) s17
        · refine r_aload_n (q := 206) (i := 0) (z := 1) C dX12_next_205 rfl rfl rfl ?_
          refine r_iconst (q := 207) (v := 0) C dX12_next_206 rfl (by decide) ?_
          refine p_X12_164 (q := 210) C (nm_12 hN) dX12_next_207 rfl (fun s22 => ?_)
          refine r_join (fun k24 => ∀  (s23 : fSt), fW Δ Γ 2 (fQ eV Δ Γ) 273 [(0, .ref (fad Δ 12 0 0))] [] s23 (k24 s23)) ?_ (fun k24 hk24 => ?_)
          · intro s23
            refine r_aload_n (q := 274) (i := 0) (z := 0) C dX12_next_273 rfl rfl rfl ?_
            refine r_aload_n (q := 275) (i := 0) (z := 0) C dX12_next_274 rfl rfl rfl ?_
            refine g_X12_136 (q := 278) C (nm_12 hN) dX12_next_275 rfl ?_
            refine r_aload_n (q := 279) (i := 0) (z := 0) C dX12_next_278 rfl rfl rfl ?_
            refine g_X12_139 (q := 282) C (nm_12 hN) dX12_next_279 rfl ?_
            refine r_isub (q := 283) C dX12_next_282 rfl ?_
            refine r_iconst (q := 284) (v := 4) C dX12_next_283 rfl (by decide) ?_
            refine r_join (fun j27 => ∀ (x25 : Int32) (s26 : fSt), fW Δ Γ 2 (fQ eV Δ Γ) 292 [] [.int x25, .ref (fad Δ 12 0 0)] s26 (j27 x25 s26)) ?_ (fun j27 hj27 => ?_)
            · intro x25 s26
              refine p_X12_145 (q := 295) C (nm_12 hN) dX12_next_292 rfl (fun s28 => ?_)
              refine r_goto (q := 330) C dX12_next_295 (by decide) ?_
              exact hj11 s28
            refine r_icmp_le (q := 287) (tgt := 291) C dX12_next_284 (by decide) rfl ?_ ?_
            · refine r_iconst (q := 292) (v := 2) C dX12_next_291 rfl (by decide) ?_
              refine r_locs (lc' := []) [] rfl ?_
              exact hj27 ((2 : Int32)) s23
            · refine r_iconst (q := 288) (v := 4) C dX12_next_287 rfl (by decide) ?_
              refine r_goto (q := 292) C dX12_next_288 (by decide) ?_
              refine r_locs (lc' := []) [] rfl ?_
              exact hj27 ((4 : Int32)) s23
          refine r_locs (lc' := [(0, .ref (fad Δ 12 0 0))]) [1] rfl ?_
          have L210 : ∀ (n30 : Nat)  (s29 : fSt), fW Δ Γ 2 (fQ eV Δ Γ) 210 [(0, .ref (fad Δ 12 0 0))] [] s29 (f_X12_next_L210 k24 n30 s29) := by
            intro n30
            induction n30 with
            | zero =>
              intro s29
              rw [f_X12_next_L210]
              exact r_none
            | succ n30 ih_n30 =>
              intro s29
              rw [f_X12_next_L210]
              refine r_aload_n (q := 211) (i := 0) (z := 0) C dX12_next_210 rfl rfl rfl ?_
              refine r_aload_n (q := 212) (i := 0) (z := 0) C dX12_next_211 rfl rfl rfl ?_
              refine g_X12_136 (q := 215) C (nm_12 hN) dX12_next_212 rfl ?_
              refine r_callVI (q := 218) (As := [.int (gI s29 12 0 16)]) wm_X12_142 yvX12_look2 (c_X12_look2 Δ hN (gI s29 12 0 16) s29) ⟨rfl, by decide⟩ C (nm_12 hN) (by decide) rfl (Nat.le_of_ble_eq_true rfl) dX12_next_215 rfl (fun x31 s32 => ?_)
              refine r_callSI (q := 221) (As := [.int x31]) wm_X12_161 ysX12_isDigit (c_X12_isDigit Δ hN x31 s32) C (by decide) rfl (Nat.le_of_ble_eq_true rfl) dX12_next_218 rfl (fun x33 s34 => ?_)
              refine r_if_eq (q := 224) (tgt := 273) C dX12_next_221 (by decide) rfl ?_ ?_
              · exact hk24 s34
              · refine r_aload_n (q := 225) (i := 0) (z := 0) C dX12_next_224 rfl rfl rfl ?_
                refine g_X12_136 (q := 228) C (nm_12 hN) dX12_next_225 rfl ?_
                refine r_aload_n (q := 229) (i := 0) (z := 0) C dX12_next_228 rfl rfl rfl ?_
                refine g_X12_139 (q := 232) C (nm_12 hN) dX12_next_229 rfl ?_
                refine r_isub (q := 233) C dX12_next_232 rfl ?_
                refine r_iconst (q := 234) (v := 4) C dX12_next_233 rfl (by decide) ?_
                refine r_join (fun j36 => ∀  (s35 : fSt), fW Δ Γ 2 (fQ eV Δ Γ) 260 [(0, .ref (fad Δ 12 0 0))] [] s35 (j36 s35)) ?_ (fun j36 hj36 => ?_)
                · intro s35
                  refine r_aload_n (q := 261) (i := 0) (z := 0) C dX12_next_260 rfl rfl rfl ?_
                  refine r_dup (q := 262) C dX12_next_261 rfl rfl ?_
                  refine g_X12_136 (q := 265) C (nm_12 hN) dX12_next_262 rfl ?_
                  refine r_iconst (q := 266) (v := 1) C dX12_next_265 rfl (by decide) ?_
                  refine r_iadd (q := 267) C dX12_next_266 rfl ?_
                  refine p_X12_136 (q := 270) C (nm_12 hN) dX12_next_267 rfl (fun s37 => ?_)
                  refine r_goto (q := 210) C dX12_next_270 (by decide) ?_
                  exact ih_n30 s37
                refine r_icmp_ge (q := 237) (tgt := 260) C dX12_next_234 (by decide) rfl ?_ ?_
                · exact hj36 s34
                · refine r_aload_n (q := 238) (i := 0) (z := 0) C dX12_next_237 rfl rfl rfl ?_
                  refine r_bipush (q := 240) (v := 10) C dX12_next_238 rfl (by decide) ?_
                  refine r_aload_n (q := 241) (i := 0) (z := 0) C dX12_next_240 rfl rfl rfl ?_
                  refine g_X12_164 (q := 244) C (nm_12 hN) dX12_next_241 rfl ?_
                  refine r_imul (q := 245) C dX12_next_244 rfl ?_
                  refine r_aload_n (q := 246) (i := 0) (z := 0) C dX12_next_245 rfl rfl rfl ?_
                  refine r_aload_n (q := 247) (i := 0) (z := 0) C dX12_next_246 rfl rfl rfl ?_
                  refine g_X12_136 (q := 250) C (nm_12 hN) dX12_next_247 rfl ?_
                  refine r_callVI (q := 253) (As := [.int (gI s34 12 0 16)]) wm_X12_142 yvX12_look2 (c_X12_look2 Δ hN (gI s34 12 0 16) s34) ⟨rfl, by decide⟩ C (nm_12 hN) (by decide) rfl (Nat.le_of_ble_eq_true rfl) dX12_next_250 rfl (fun x38 s39 => ?_)
                  refine r_iadd (q := 254) C dX12_next_253 rfl ?_
                  refine r_bipush (q := 256) (v := 48) C dX12_next_254 rfl (by decide) ?_
                  refine r_isub (q := 257) C dX12_next_256 rfl ?_
                  refine p_X12_164 (q := 260) C (nm_12 hN) dX12_next_257 rfl (fun s40 => ?_)
                  exact hj36 s40
          exact L210 fF s22
      · refine r_aload_n (q := 100) (i := 0) (z := 1) C dX12_next_99 rfl rfl rfl ?_
        refine r_iconst (q := 101) (v := 1) C dX12_next_100 rfl (by decide) ?_
        refine p_X12_145 (q := 104) C (nm_12 hN) dX12_next_101 rfl (fun s41 => ?_)
        refine r_aload_n (q := 105) (i := 0) (z := 1) C dX12_next_104 rfl rfl rfl ?_
        refine r_lconst (q := 106) (v := 0) C dX12_next_105 rfl (by decide) ?_
        refine p_X12_151 (q := 109) C (nm_12 hN) dX12_next_106 rfl (fun s42 => ?_)
        refine r_join (fun k44 => ∀  (s43 : fSt), fW Δ Γ 2 (fQ eV Δ Γ) 182 [(0, .ref (fad Δ 12 0 0))] [] s43 (k44 s43)) ?_ (fun k44 hk44 => ?_)
        · intro s43
          refine r_aload_n (q := 183) (i := 0) (z := 0) C dX12_next_182 rfl rfl rfl ?_
          refine r_aload_n (q := 184) (i := 0) (z := 0) C dX12_next_183 rfl rfl rfl ?_
          refine g_X12_136 (q := 187) C (nm_12 hN) dX12_next_184 rfl ?_
          refine r_aload_n (q := 188) (i := 0) (z := 0) C dX12_next_187 rfl rfl rfl ?_
          refine g_X12_139 (q := 191) C (nm_12 hN) dX12_next_188 rfl ?_
          refine r_isub (q := 192) C dX12_next_191 rfl ?_
          refine p_X12_158 (q := 195) C (nm_12 hN) dX12_next_192 rfl (fun s45 => ?_)
          refine r_goto (q := 330) C dX12_next_195 (by decide) ?_
          refine r_locs (lc' := []) [] rfl ?_
          exact hj11 s45
        refine r_locs (lc' := [(0, .ref (fad Δ 12 0 0))]) [1] rfl ?_
        have L109 : ∀ (n47 : Nat)  (s46 : fSt), fW Δ Γ 2 (fQ eV Δ Γ) 109 [(0, .ref (fad Δ 12 0 0))] [] s46 (f_X12_next_L109 k44 n47 s46) := by
          intro n47
          induction n47 with
          | zero =>
            intro s46
            rw [f_X12_next_L109]
            exact r_none
          | succ n47 ih_n47 =>
            intro s46
            rw [f_X12_next_L109]
            refine r_aload_n (q := 110) (i := 0) (z := 0) C dX12_next_109 rfl rfl rfl ?_
            refine r_aload_n (q := 111) (i := 0) (z := 0) C dX12_next_110 rfl rfl rfl ?_
            refine g_X12_136 (q := 114) C (nm_12 hN) dX12_next_111 rfl ?_
            refine r_callVI (q := 117) (As := [.int (gI s46 12 0 16)]) wm_X12_142 yvX12_look2 (c_X12_look2 Δ hN (gI s46 12 0 16) s46) ⟨rfl, by decide⟩ C (nm_12 hN) (by decide) rfl (Nat.le_of_ble_eq_true rfl) dX12_next_114 rfl (fun x48 s49 => ?_)
            refine r_callSI (q := 120) (As := [.int x48]) wm_X12_148 ysX12_isLetter (c_X12_isLetter Δ hN x48 s49) C (by decide) rfl (Nat.le_of_ble_eq_true rfl) dX12_next_117 rfl (fun x50 s51 => ?_)
            refine r_if_eq (q := 123) (tgt := 182) C dX12_next_120 (by decide) rfl ?_ ?_
            · exact hk44 s51
            · refine r_aload_n (q := 124) (i := 0) (z := 0) C dX12_next_123 rfl rfl rfl ?_
              refine r_aload_n (q := 125) (i := 0) (z := 0) C dX12_next_124 rfl rfl rfl ?_
              refine g_X12_136 (q := 128) C (nm_12 hN) dX12_next_125 rfl ?_
              refine r_aload_n (q := 129) (i := 0) (z := 0) C dX12_next_128 rfl rfl rfl ?_
              refine g_X12_139 (q := 132) C (nm_12 hN) dX12_next_129 rfl ?_
              refine r_isub (q := 133) C dX12_next_132 rfl ?_
              refine r_bipush (q := 135) (v := 8) C dX12_next_133 rfl (by decide) ?_
              refine r_join (fun j54 => ∀ (x52 : Int64) (s53 : fSt), fW Δ Γ 2 (fQ eV Δ Γ) 166 [(0, .ref (fad Δ 12 0 0))] [.long x52, .ref (fad Δ 12 0 0)] s53 (j54 x52 s53)) ?_ (fun j54 hj54 => ?_)
              · intro x52 s53
                refine p_X12_151 (q := 169) C (nm_12 hN) dX12_next_166 rfl (fun s55 => ?_)
                refine r_aload_n (q := 170) (i := 0) (z := 0) C dX12_next_169 rfl rfl rfl ?_
                refine r_dup (q := 171) C dX12_next_170 rfl rfl ?_
                refine g_X12_136 (q := 174) C (nm_12 hN) dX12_next_171 rfl ?_
                refine r_iconst (q := 175) (v := 1) C dX12_next_174 rfl (by decide) ?_
                refine r_iadd (q := 176) C dX12_next_175 rfl ?_
                refine p_X12_136 (q := 179) C (nm_12 hN) dX12_next_176 rfl (fun s56 => ?_)
                refine r_goto (q := 109) C dX12_next_179 (by decide) ?_
                exact ih_n47 s56
              refine r_icmp_ge (q := 138) (tgt := 163) C dX12_next_135 (by decide) rfl ?_ ?_
              · refine r_ldc2 (q := 166) C dX12_next_163 rfl wl_X12_125 ?_
                exact hj54 ((-1 : Int64)) s51
              · refine r_aload_n (q := 139) (i := 0) (z := 0) C dX12_next_138 rfl rfl rfl ?_
                refine g_X12_151 (q := 142) C (nm_12 hN) dX12_next_139 rfl ?_
                refine r_ldc2 (q := 145) C dX12_next_142 rfl wl_X12_154 ?_
                refine r_lmul (q := 146) C dX12_next_145 rfl ?_
                refine r_aload_n (q := 147) (i := 0) (z := 0) C dX12_next_146 rfl rfl rfl ?_
                refine r_aload_n (q := 148) (i := 0) (z := 0) C dX12_next_147 rfl rfl rfl ?_
                refine g_X12_136 (q := 151) C (nm_12 hN) dX12_next_148 rfl ?_
                refine r_callVI (q := 154) (As := [.int (gI s51 12 0 16)]) wm_X12_142 yvX12_look2 (c_X12_look2 Δ hN (gI s51 12 0 16) s51) ⟨rfl, by decide⟩ C (nm_12 hN) (by decide) rfl (Nat.le_of_ble_eq_true rfl) dX12_next_151 rfl (fun x57 s58 => ?_)
                refine r_i2l (q := 155) C dX12_next_154 rfl ?_
                refine r_ladd (q := 156) C dX12_next_155 rfl ?_
                refine r_ldc2 (q := 159) C dX12_next_156 rfl wl_X12_156 ?_
                refine r_lsub (q := 160) C dX12_next_159 rfl ?_
                refine r_goto (q := 166) C dX12_next_160 (by decide) ?_
                exact hj54 ((((gL s51 12 0 19) * ((32 : Int64))) + x57.toInt64) - ((96 : Int64))) s58
        exact L109 fF s42
    · refine r_aload_n (q := 78) (i := 0) (z := 0) C dX12_next_77 rfl rfl rfl ?_
      refine r_iconst (q := 79) (v := 0) C dX12_next_78 rfl (by decide) ?_
      refine p_X12_145 (q := 82) C (nm_12 hN) dX12_next_79 rfl (fun s59 => ?_)
      exact r_vret C dX12_next_82
  have L8 : ∀ (n61 : Nat)  (s60 : fSt), fW Δ Γ 2 (fQ eV Δ Γ) 8 [(0, .ref (fad Δ 12 0 0))] [] s60 (f_X12_next_L8 k3 n61 s60) := by
    intro n61
    induction n61 with
    | zero =>
      intro s60
      rw [f_X12_next_L8]
      exact r_none
    | succ n61 ih_n61 =>
      intro s60
      rw [f_X12_next_L8]
      refine r_aload_n (q := 9) (i := 0) (z := 0) C dX12_next_8 rfl rfl rfl ?_
      refine g_X12_139 (q := 12) C (nm_12 hN) dX12_next_9 rfl ?_
      refine r_aload_n (q := 13) (i := 0) (z := 0) C dX12_next_12 rfl rfl rfl ?_
      refine g_X12_133 (q := 16) C (nm_12 hN) dX12_next_13 rfl ?_
      refine r_icmp_ge (q := 19) (tgt := 58) C dX12_next_16 (by decide) rfl ?_ ?_
      · exact hk3 s60
      · refine r_aload_n (q := 20) (i := 0) (z := 0) C dX12_next_19 rfl rfl rfl ?_
        refine r_aload_n (q := 21) (i := 0) (z := 0) C dX12_next_20 rfl rfl rfl ?_
        refine g_X12_139 (q := 24) C (nm_12 hN) dX12_next_21 rfl ?_
        refine r_callVI (q := 27) (As := [.int (gI s60 12 0 15)]) wm_X12_142 yvX12_look2 (c_X12_look2 Δ hN (gI s60 12 0 15) s60) ⟨rfl, by decide⟩ C (nm_12 hN) (by decide) rfl (Nat.le_of_ble_eq_true rfl) dX12_next_24 rfl (fun x62 s63 => ?_)
        refine r_bipush (q := 29) (v := 10) C dX12_next_27 rfl (by decide) ?_
        refine r_join (fun j65 => ∀  (s64 : fSt), fW Δ Γ 2 (fQ eV Δ Γ) 45 [(0, .ref (fad Δ 12 0 0))] [] s64 (j65 s64)) ?_ (fun j65 hj65 => ?_)
        · intro s64
          refine r_aload_n (q := 46) (i := 0) (z := 0) C dX12_next_45 rfl rfl rfl ?_
          refine r_dup (q := 47) C dX12_next_46 rfl rfl ?_
          refine g_X12_139 (q := 50) C (nm_12 hN) dX12_next_47 rfl ?_
          refine r_iconst (q := 51) (v := 1) C dX12_next_50 rfl (by decide) ?_
          refine r_iadd (q := 52) C dX12_next_51 rfl ?_
          refine p_X12_139 (q := 55) C (nm_12 hN) dX12_next_52 rfl (fun s66 => ?_)
          refine r_goto (q := 8) C dX12_next_55 (by decide) ?_
          exact ih_n61 s66
        refine r_icmp_eq (q := 32) (tgt := 45) C dX12_next_29 (by decide) rfl ?_ ?_
        · exact hj65 s63
        · refine r_aload_n (q := 33) (i := 0) (z := 0) C dX12_next_32 rfl rfl rfl ?_
          refine r_aload_n (q := 34) (i := 0) (z := 0) C dX12_next_33 rfl rfl rfl ?_
          refine g_X12_139 (q := 37) C (nm_12 hN) dX12_next_34 rfl ?_
          refine r_callVI (q := 40) (As := [.int (gI s63 12 0 15)]) wm_X12_142 yvX12_look2 (c_X12_look2 Δ hN (gI s63 12 0 15) s63) ⟨rfl, by decide⟩ C (nm_12 hN) (by decide) rfl (Nat.le_of_ble_eq_true rfl) dX12_next_37 rfl (fun x67 s68 => ?_)
          refine r_bipush (q := 42) (v := 32) C dX12_next_40 rfl (by decide) ?_
          refine r_icmp_ne (q := 45) (tgt := 58) C dX12_next_42 (by decide) rfl ?_ ?_
          · exact hk3 s68
          · exact hj65 s68
  exact L8 fF s1

noncomputable def f_X12_count (a1 : Int32) (a2 : Int32) (st : fSt) : Option (Int32 × fSt) :=
  fJn (fun (s1 : fSt) =>
    (fJn (fun (s3 : fSt) =>
      (if (gI s3 12 0 12) ≤ 0 then
        (fLt (gI s3 12 0 17) fun (x5 : Int32) =>
        fBd (f_X12_next  s3) fun _ s6 =>
        some (x5, s6))
      else
        (some ((0 : Int32), s3)))) fun (j4 : fSt → Option (Int32 × fSt)) =>
    if ¬ (gI s1 12 0 12) = 0 then
      (j4 s1)
    else
      (fBd (f_X12_isIn ((gI s1 12 0 17).toInt64) a1.toInt64 a2.toInt64 s1) fun x7 s8 =>
      if ¬ x7 = 0 then
        (j4 s8)
      else
        (fBd (f_X12_fail ((4 : Int32)) (gI s8 12 0 15) s8) fun _ s9 =>
        j4 s9)))) fun (j2 : fSt → Option (Int32 × fSt)) =>
  if ¬ (gI st 12 0 12) = 0 then
    (j2 st)
  else
    (if (gI st 12 0 14) = ((2 : Int32)) then
      (j2 st)
    else
      (fBd (f_X12_wrong  st) fun _ s10 =>
      j2 s10))

set_option maxHeartbeats 4000000 in
set_option maxRecDepth 100000 in
theorem c_X12_count (Δ : fDl) (hN : fNm Δ) (a1 : Int32) (a2 : Int32)  (st : fSt) : fMt eI Δ yX12_count cX12_count 4 (some .int) 3 [.ref (fad Δ 12 0 0), .int a1, .int a2] st (f_X12_count a1 a2 st) := by
  unfold f_X12_count
  refine r_method (by decide +kernel) (Nat.le_of_ble_eq_true rfl) (fun Γ C => ?_)
  have C : fC Δ Γ cX12_count RX12 4 (some .int) 3 := C
  refine r_locs (lc' := [(0, .ref (fad Δ 12 0 0)), (1, .int a1), (2, .int a2)]) [0, 1, 2] rfl ?_
  refine r_aload_n (q := 1) (i := 0) (z := 0) C dX12_count_0 rfl rfl rfl ?_
  refine g_X12_249 (q := 4) C (nm_12 hN) dX12_count_1 rfl ?_
  refine r_join (fun j2 => ∀  (s1 : fSt), fW Δ Γ 4 (fQ eI Δ Γ) 19 [(0, .ref (fad Δ 12 0 0)), (1, .int a1), (2, .int a2)] [] s1 (j2 s1)) ?_ (fun j2 hj2 => ?_)
  · intro s1
    refine r_aload_n (q := 20) (i := 0) (z := 0) C dX12_count_19 rfl rfl rfl ?_
    refine g_X12_249 (q := 23) C (nm_12 hN) dX12_count_20 rfl ?_
    refine r_join (fun j4 => ∀  (s3 : fSt), fW Δ Γ 4 (fQ eI Δ Γ) 50 [(0, .ref (fad Δ 12 0 0))] [] s3 (j4 s3)) ?_ (fun j4 hj4 => ?_)
    · intro s3
      refine r_aload_n (q := 51) (i := 0) (z := 0) C dX12_count_50 rfl rfl rfl ?_
      refine g_X12_249 (q := 54) C (nm_12 hN) dX12_count_51 rfl ?_
      refine r_if_le (q := 57) (tgt := 59) C dX12_count_54 (by decide) rfl ?_ ?_
      · refine r_aload_n (q := 60) (i := 0) (z := 0) C dX12_count_59 rfl rfl rfl ?_
        refine g_X12_164 (q := 63) C (nm_12 hN) dX12_count_60 rfl ?_
        refine r_istore_n (q := 64) (i := 3) [(0, .ref (fad Δ 12 0 0))] C dX12_count_63 rfl rfl (by decide) rfl (fun x5 => ?_)
        refine r_aload_n (q := 65) (i := 0) (z := 1) C dX12_count_64 rfl rfl rfl ?_
        refine r_callVV (q := 68) (As := []) wm_X12_259 yvX12_next (c_X12_next Δ hN s3) ⟨rfl, by decide⟩ C (nm_12 hN) (by decide) rfl (Nat.le_of_ble_eq_true rfl) dX12_count_65 rfl (fun _ s6 => ?_)
        refine r_iload_n (q := 69) (i := 3) (z := 0) C dX12_count_68 rfl rfl rfl ?_
        exact r_iret C dX12_count_69
      · refine r_iconst (q := 58) (v := 0) C dX12_count_57 rfl (by decide) ?_
        exact r_iret C dX12_count_58
    refine r_if_ne (q := 26) (tgt := 50) C dX12_count_23 (by decide) rfl ?_ ?_
    · refine r_locs (lc' := [(0, .ref (fad Δ 12 0 0))]) [0] rfl ?_
      exact hj4 s1
    · refine r_aload_n (q := 27) (i := 0) (z := 0) C dX12_count_26 rfl rfl rfl ?_
      refine g_X12_164 (q := 30) C (nm_12 hN) dX12_count_27 rfl ?_
      refine r_i2l (q := 31) C dX12_count_30 rfl ?_
      refine r_iload_n (q := 32) (i := 1) (z := 1) C dX12_count_31 rfl rfl rfl ?_
      refine r_i2l (q := 33) C dX12_count_32 rfl ?_
      refine r_iload_n (q := 34) (i := 2) (z := 2) C dX12_count_33 rfl rfl rfl ?_
      refine r_i2l (q := 35) C dX12_count_34 rfl ?_
      refine r_callSI (q := 38) (As := [.long ((gI s1 12 0 17).toInt64), .long a1.toInt64, .long a2.toInt64]) wm_X12_129 ysX12_isIn (c_X12_isIn Δ hN ((gI s1 12 0 17).toInt64) a1.toInt64 a2.toInt64 s1) C (by decide) rfl (Nat.le_of_ble_eq_true rfl) dX12_count_35 rfl (fun x7 s8 => ?_)
      refine r_if_ne (q := 41) (tgt := 50) C dX12_count_38 (by decide) rfl ?_ ?_
      · refine r_locs (lc' := [(0, .ref (fad Δ 12 0 0))]) [0] rfl ?_
        exact hj4 s8
      · refine r_aload_n (q := 42) (i := 0) (z := 0) C dX12_count_41 rfl rfl rfl ?_
        refine r_iconst (q := 43) (v := 4) C dX12_count_42 rfl (by decide) ?_
        refine r_aload_n (q := 44) (i := 0) (z := 0) C dX12_count_43 rfl rfl rfl ?_
        refine g_X12_139 (q := 47) C (nm_12 hN) dX12_count_44 rfl ?_
        refine r_callVV (q := 50) (As := [.int ((4 : Int32)), .int (gI s8 12 0 15)]) wm_X12_255 yvX12_fail (c_X12_fail Δ hN ((4 : Int32)) (gI s8 12 0 15) s8) ⟨rfl, by decide⟩ C (nm_12 hN) (by decide) rfl (Nat.le_of_ble_eq_true rfl) dX12_count_47 rfl (fun _ s9 => ?_)
        refine r_locs (lc' := [(0, .ref (fad Δ 12 0 0))]) [0] rfl ?_
        exact hj4 s9
  refine r_if_ne (q := 7) (tgt := 19) C dX12_count_4 (by decide) rfl ?_ ?_
  · exact hj2 st
  · refine r_aload_n (q := 8) (i := 0) (z := 0) C dX12_count_7 rfl rfl rfl ?_
    refine g_X12_145 (q := 11) C (nm_12 hN) dX12_count_8 rfl ?_
    refine r_iconst (q := 12) (v := 2) C dX12_count_11 rfl (by decide) ?_
    refine r_icmp_eq (q := 15) (tgt := 19) C dX12_count_12 (by decide) rfl ?_ ?_
    · exact hj2 st
    · refine r_aload_n (q := 16) (i := 0) (z := 0) C dX12_count_15 rfl rfl rfl ?_
      refine r_callVV (q := 19) (As := []) wm_X12_262 yvX12_wrong (c_X12_wrong Δ hN st) ⟨rfl, by decide⟩ C (nm_12 hN) (by decide) rfl (Nat.le_of_ble_eq_true rfl) dX12_count_16 rfl (fun _ s10 => ?_)
      exact hj2 s10

noncomputable def f_X12_cut (a0 : Int32) (a1 : Int64) (st : fSt) : Option (Int64 × fSt) :=
  fJn (fun (x1 : Int64) (s2 : fSt) =>
    (some (x1, s2))) fun (j3 : Int64 → fSt → Option (Int64 × fSt)) =>
  if ¬ a0 = 0 then
    (if ¬ a0 = ((1 : Int32)) then
      (if ¬ a0 = ((2 : Int32)) then
        (j3 a1 st)
      else
        (j3 a1.toInt32.toInt64 st))
    else
      (j3 a1.toInt32.toInt16.toInt32.toInt64 st))
  else
    (j3 a1.toInt32.toInt8.toInt32.toInt64 st)

set_option maxHeartbeats 4000000 in
set_option maxRecDepth 100000 in
theorem c_X12_cut (Δ : fDl) (hN : fNm Δ) (a0 : Int32) (a1 : Int64)  (st : fSt) : fMt eL Δ yX12_cut cX12_cut 3 (some .long) 1 [.int a0, .long a1] st (f_X12_cut a0 a1 st) := by
  unfold f_X12_cut
  refine r_method (by decide +kernel) (Nat.le_of_ble_eq_true rfl) (fun Γ C => ?_)
  have C : fC Δ Γ cX12_cut RX12 3 (some .long) 1 := C
  refine r_locs (lc' := [(0, .int a0), (1, .long a1)]) [0, 1] rfl ?_
  refine r_iload_n (q := 1) (i := 0) (z := 0) C dX12_cut_0 rfl rfl rfl ?_
  refine r_join (fun j3 => ∀ (x1 : Int64) (s2 : fSt), fW Δ Γ 3 (fQ eL Δ Γ) 35 [] [.long x1] s2 (j3 x1 s2)) ?_ (fun j3 hj3 => ?_)
  · intro x1 s2
    exact r_lret C dX12_cut_35
  refine r_if_ne (q := 4) (tgt := 11) C dX12_cut_1 (by decide) rfl ?_ ?_
  · refine r_iload_n (q := 12) (i := 0) (z := 0) C dX12_cut_11 rfl rfl rfl ?_
    refine r_iconst (q := 13) (v := 1) C dX12_cut_12 rfl (by decide) ?_
    refine r_icmp_ne (q := 16) (tgt := 23) C dX12_cut_13 (by decide) rfl ?_ ?_
    · refine r_iload_n (q := 24) (i := 0) (z := 0) C dX12_cut_23 rfl rfl rfl ?_
      refine r_iconst (q := 25) (v := 2) C dX12_cut_24 rfl (by decide) ?_
      refine r_icmp_ne (q := 28) (tgt := 34) C dX12_cut_25 (by decide) rfl ?_ ?_
      · refine r_lload_n (q := 35) (i := 1) (z := 1) C dX12_cut_34 rfl rfl rfl ?_
        refine r_locs (lc' := []) [] rfl ?_
        exact hj3 a1 st
      · refine r_lload_n (q := 29) (i := 1) (z := 1) C dX12_cut_28 rfl rfl rfl ?_
        refine r_l2i (q := 30) C dX12_cut_29 rfl ?_
        refine r_i2l (q := 31) C dX12_cut_30 rfl ?_
        refine r_goto (q := 35) C dX12_cut_31 (by decide) ?_
        refine r_locs (lc' := []) [] rfl ?_
        exact hj3 a1.toInt32.toInt64 st
    · refine r_lload_n (q := 17) (i := 1) (z := 1) C dX12_cut_16 rfl rfl rfl ?_
      refine r_l2i (q := 18) C dX12_cut_17 rfl ?_
      refine r_i2s (q := 19) C dX12_cut_18 rfl ?_
      refine r_i2l (q := 20) C dX12_cut_19 rfl ?_
      refine r_goto (q := 35) C dX12_cut_20 (by decide) ?_
      refine r_locs (lc' := []) [] rfl ?_
      exact hj3 a1.toInt32.toInt16.toInt32.toInt64 st
  · refine r_lload_n (q := 5) (i := 1) (z := 1) C dX12_cut_4 rfl rfl rfl ?_
    refine r_l2i (q := 6) C dX12_cut_5 rfl ?_
    refine r_i2b (q := 7) C dX12_cut_6 rfl ?_
    refine r_i2l (q := 8) C dX12_cut_7 rfl ?_
    refine r_goto (q := 35) C dX12_cut_8 (by decide) ?_
    refine r_locs (lc' := []) [] rfl ?_
    exact hj3 a1.toInt32.toInt8.toInt32.toInt64 st

noncomputable def f_X12_sums_L138 (x22 : Int32) (k28 : fSt → Option (Unit × fSt)) : Nat → Int32 → fSt → Option (Unit × fSt)
  | 0, _, _ => none
  | n33 + 1, x31, s32 =>
      if ((12 : Int32)) ≤ x31 then
                        (k28 s32)
                      else
                        (fIx x31 12 <|
                        fIx x31 12 <|
                        fIx x31 12 <|
                        fLt (sB s32 12 0 13 (vp_updL (gB s32 12 0 13) x31.toNatClampNeg ((gB s32 12 0 13 x31.toNatClampNeg) + (x22.toInt64 * (gB s32 12 0 9 x31.toNatClampNeg))))) fun s34 =>
                        fLt (x31 + (1 : Int32)) fun (x35 : Int32) =>
                        f_X12_sums_L138 x22 k28 n33 x35 s34)

noncomputable def f_X12_sums_L102 (x22 : Int32) (k25 : fSt → Option (Unit × fSt)) : Nat → Int32 → fSt → Option (Unit × fSt)
  | 0, _, _ => none
  | n38 + 1, x36, s37 =>
      if ((10 : Int32)) ≤ x36 then
                      (k25 s37)
                    else
                      (fIx x36 10 <|
                      fIx x36 10 <|
                      fIx x36 10 <|
                      fLt (sB s37 12 0 12 (vp_updL (gB s37 12 0 12) x36.toNatClampNeg ((gB s37 12 0 12 x36.toNatClampNeg) + (x22.toInt64 * (gB s37 12 0 8 x36.toNatClampNeg))))) fun s39 =>
                      fLt (x36 + (1 : Int32)) fun (x40 : Int32) =>
                      f_X12_sums_L102 x22 k25 n38 x40 s39)

noncomputable def f_X12_sums_L54 (a1 : Int32) : Nat → Int32 → fSt → Option (Unit × fSt)
  | 0, _, _ => none
  | n12 + 1, x10, s11 =>
      fIx ((3 : Int32)) 2150 <|
          if (gA s11 12 0 5 ((3 : Int32)).toNatClampNeg) ≤ x10 then
            (some ((), s11))
          else
            (fJn (fun (s13 : fSt) =>
              (fLt (x10 + (1 : Int32)) fun (x15 : Int32) =>
              f_X12_sums_L54 a1 n12 x15 s13)) fun (j14 : fSt → Option (Unit × fSt)) =>
            fJn (fun (s16 : fSt) =>
              (fBd (f_X12_goAll x10 s16) fun _ s18 =>
              fJn (fun (x19 : Int32) (s20 : fSt) =>
                (fLt x19 fun (x22 : Int32) =>
                fLt ((0 : Int32)) fun (x23 : Int32) =>
                fJn (fun (s24 : fSt) =>
                  (fLt ((0 : Int32)) fun (x26 : Int32) =>
                  fJn (fun (s27 : fSt) =>
                    (fLt (sL s27 12 0 41 ((gL s27 12 0 41) + (x22.toInt64 * (gL s27 12 0 31)))) fun s29 =>
                    fLt (sL s29 12 0 42 ((gL s29 12 0 42) + (x22.toInt64 * ((17592186044416 : Int64))))) fun s30 =>
                    j14 s30)) fun (k28 : fSt → Option (Unit × fSt)) =>
                  f_X12_sums_L138 x22 k28 fF x26 s24)) fun (k25 : fSt → Option (Unit × fSt)) =>
                f_X12_sums_L102 x22 k25 fF x23 s20)) fun (j21 : Int32 → fSt → Option (Unit × fSt)) =>
              if 0 ≤ a1 then
                (j21 ((1 : Int32)) s18)
              else
                (fIx (((121 : Int32)) + x10) 2150 <|
                j21 (gA s18 12 0 5 (((121 : Int32)) + x10).toNatClampNeg) s18))) fun (j17 : fSt → Option (Unit × fSt)) =>
            if a1 < 0 then
              (j17 s11)
            else
              (if x10 = a1 then
                (j17 s11)
              else
                (j14 s11)))

noncomputable def f_X12_sums_L23 (k6 : fSt → Option (Unit × fSt)) : Nat → Int32 → fSt → Option (Unit × fSt)
  | 0, _, _ => none
  | n43 + 1, x41, s42 =>
      if ((12 : Int32)) ≤ x41 then
          (k6 s42)
        else
          (fIx x41 12 <|
          fLt (sB s42 12 0 13 (vp_updL (gB s42 12 0 13) x41.toNatClampNeg ((0 : Int64)))) fun s44 =>
          fLt (x41 + (1 : Int32)) fun (x45 : Int32) =>
          f_X12_sums_L23 k6 n43 x45 s44)

noncomputable def f_X12_sums_L2 (k3 : fSt → Option (Unit × fSt)) : Nat → Int32 → fSt → Option (Unit × fSt)
  | 0, _, _ => none
  | n48 + 1, x46, s47 =>
      if ((10 : Int32)) ≤ x46 then
        (k3 s47)
      else
        (fIx x46 10 <|
        fLt (sB s47 12 0 12 (vp_updL (gB s47 12 0 12) x46.toNatClampNeg ((0 : Int64)))) fun s49 =>
        fLt (x46 + (1 : Int32)) fun (x50 : Int32) =>
        f_X12_sums_L2 k3 n48 x50 s49)

noncomputable def f_X12_sums (a1 : Int32) (st : fSt) : Option (Unit × fSt) :=
  fLt ((0 : Int32)) fun (x1 : Int32) =>
  fJn (fun (s2 : fSt) =>
    (fLt ((0 : Int32)) fun (x4 : Int32) =>
    fJn (fun (s5 : fSt) =>
      (fLt (sL s5 12 0 41 ((0 : Int64))) fun s7 =>
      fLt (sL s7 12 0 42 ((0 : Int64))) fun s8 =>
      fLt ((0 : Int32)) fun (x9 : Int32) =>
      f_X12_sums_L54 a1 fF x9 s8)) fun (k6 : fSt → Option (Unit × fSt)) =>
    f_X12_sums_L23 k6 fF x4 s2)) fun (k3 : fSt → Option (Unit × fSt)) =>
  f_X12_sums_L2 k3 fF x1 st

set_option maxHeartbeats 4000000 in
set_option maxRecDepth 100000 in
theorem c_X12_sums (Δ : fDl) (hN : fNm Δ) (a1 : Int32)  (st : fSt) : fMt eV Δ yX12_sums cX12_sums 5 none 19 [.ref (fad Δ 12 0 0), .int a1] st (f_X12_sums a1 st) := by
  unfold f_X12_sums
  refine r_method (by decide +kernel) (Nat.le_of_ble_eq_true rfl) (fun Γ C => ?_)
  have C : fC Δ Γ cX12_sums RX12 5 none 19 := C
  refine r_locs (lc' := [(0, .ref (fad Δ 12 0 0)), (1, .int a1)]) [0, 1] rfl ?_
  refine r_iconst (q := 1) (v := 0) C dX12_sums_0 rfl (by decide) ?_
  refine r_istore_n (q := 2) (i := 2) [(0, .ref (fad Δ 12 0 0)), (1, .int a1)] C dX12_sums_1 rfl rfl (by decide) rfl (fun x1 => ?_)
  refine r_join (fun k3 => ∀  (s2 : fSt), fW Δ Γ 5 (fQ eV Δ Γ) 21 [(0, .ref (fad Δ 12 0 0)), (1, .int a1)] [] s2 (k3 s2)) ?_ (fun k3 hk3 => ?_)
  · intro s2
    refine r_iconst (q := 22) (v := 0) C dX12_sums_21 rfl (by decide) ?_
    refine r_istore_n (q := 23) (i := 2) [(0, .ref (fad Δ 12 0 0)), (1, .int a1)] C dX12_sums_22 rfl rfl (by decide) rfl (fun x4 => ?_)
    refine r_join (fun k6 => ∀  (s5 : fSt), fW Δ Γ 5 (fQ eV Δ Γ) 42 [(0, .ref (fad Δ 12 0 0)), (1, .int a1)] [] s5 (k6 s5)) ?_ (fun k6 hk6 => ?_)
    · intro s5
      refine r_aload_n (q := 43) (i := 0) (z := 0) C dX12_sums_42 rfl rfl rfl ?_
      refine r_lconst (q := 44) (v := 0) C dX12_sums_43 rfl (by decide) ?_
      refine p_X12_486 (q := 47) C (nm_12 hN) dX12_sums_44 rfl (fun s7 => ?_)
      refine r_aload_n (q := 48) (i := 0) (z := 0) C dX12_sums_47 rfl rfl rfl ?_
      refine r_lconst (q := 49) (v := 0) C dX12_sums_48 rfl (by decide) ?_
      refine p_X12_489 (q := 52) C (nm_12 hN) dX12_sums_49 rfl (fun s8 => ?_)
      refine r_iconst (q := 53) (v := 0) C dX12_sums_52 rfl (by decide) ?_
      refine r_istore_n (q := 54) (i := 2) [(0, .ref (fad Δ 12 0 0)), (1, .int a1)] C dX12_sums_53 rfl rfl (by decide) rfl (fun x9 => ?_)
      refine r_locs (lc' := [(0, .ref (fad Δ 12 0 0)), (1, .int a1), (2, .int x9)]) [1, 2, 0] rfl ?_
      have L54 : ∀ (n12 : Nat) (x10 : Int32) (s11 : fSt), fW Δ Γ 5 (fQ eV Δ Γ) 54 [(0, .ref (fad Δ 12 0 0)), (1, .int a1), (2, .int x10)] [] s11 (f_X12_sums_L54 a1 n12 x10 s11) := by
        intro n12
        induction n12 with
        | zero =>
          intro x10 s11
          rw [f_X12_sums_L54]
          exact r_none
        | succ n12 ih_n12 =>
          intro x10 s11
          rw [f_X12_sums_L54]
          refine r_iload_n (q := 55) (i := 2) (z := 2) C dX12_sums_54 rfl rfl rfl ?_
          refine r_aload_n (q := 56) (i := 0) (z := 0) C dX12_sums_55 rfl rfl rfl ?_
          refine g_X12_35 (q := 59) C (nm_12 hN) dX12_sums_56 rfl ?_
          refine r_iconst (q := 60) (v := 3) C dX12_sums_59 rfl (by decide) ?_
          refine r_ial (q := 61) q_12_5 h_12_5 C (nm_12 hN) dX12_sums_60 rfl ?_
          refine r_icmp_ge (q := 64) (tgt := 208) C dX12_sums_61 (by decide) rfl ?_ ?_
          · exact r_vret C dX12_sums_208
          · refine r_iload_n (q := 65) (i := 1) (z := 1) C dX12_sums_64 rfl rfl rfl ?_
            refine r_join (fun j14 => ∀  (s13 : fSt), fW Δ Γ 5 (fQ eV Δ Γ) 202 [(0, .ref (fad Δ 12 0 0)), (1, .int a1), (2, .int x10)] [] s13 (j14 s13)) ?_ (fun j14 hj14 => ?_)
            · intro s13
              refine r_iinc (q := 205) (z := 2) (d := 1) [(0, .ref (fad Δ 12 0 0)), (1, .int a1)] C dX12_sums_202 rfl rfl (by decide) (by decide) rfl (fun x15 => ?_)
              refine r_goto (q := 54) C dX12_sums_205 (by decide) ?_
              refine r_locs (lc' := [(0, .ref (fad Δ 12 0 0)), (1, .int a1), (2, .int x15)]) [1, 2, 0] rfl ?_
              exact ih_n12 x15 s13
            refine r_join (fun j17 => ∀  (s16 : fSt), fW Δ Γ 5 (fQ eV Δ Γ) 76 [(0, .ref (fad Δ 12 0 0)), (1, .int a1), (2, .int x10)] [] s16 (j17 s16)) ?_ (fun j17 hj17 => ?_)
            · intro s16
              refine r_aload_n (q := 77) (i := 0) (z := 0) C dX12_sums_76 rfl rfl rfl ?_
              refine r_iload_n (q := 78) (i := 2) (z := 2) C dX12_sums_77 rfl rfl rfl ?_
              refine r_callVV (q := 81) (As := [.int x10]) wm_X12_492 yvX12_goAll (c_X12_goAll Δ hN x10 s16) ⟨rfl, by decide⟩ C (nm_12 hN) (by decide) rfl (Nat.le_of_ble_eq_true rfl) dX12_sums_78 rfl (fun _ s18 => ?_)
              refine r_iload_n (q := 82) (i := 1) (z := 1) C dX12_sums_81 rfl rfl rfl ?_
              refine r_join (fun j21 => ∀ (x19 : Int32) (s20 : fSt), fW Δ Γ 5 (fQ eV Δ Γ) 98 [(0, .ref (fad Δ 12 0 0)), (1, .int a1), (2, .int x10)] [.int x19] s20 (j21 x19 s20)) ?_ (fun j21 hj21 => ?_)
              · intro x19 s20
                refine r_istore_n (q := 99) (i := 3) [(0, .ref (fad Δ 12 0 0)), (1, .int a1), (2, .int x10)] C dX12_sums_98 rfl rfl (by decide) rfl (fun x22 => ?_)
                refine r_iconst (q := 100) (v := 0) C dX12_sums_99 rfl (by decide) ?_
                refine r_istore (q := 102) (i := 4) [(3, .int x22), (0, .ref (fad Δ 12 0 0)), (1, .int a1), (2, .int x10)] C dX12_sums_100 rfl (by decide) rfl (fun x23 => ?_)
                refine r_join (fun k25 => ∀  (s24 : fSt), fW Δ Γ 5 (fQ eV Δ Γ) 135 [(0, .ref (fad Δ 12 0 0)), (1, .int a1), (2, .int x10), (3, .int x22)] [] s24 (k25 s24)) ?_ (fun k25 hk25 => ?_)
                · intro s24
                  refine r_iconst (q := 136) (v := 0) C dX12_sums_135 rfl (by decide) ?_
                  refine r_istore (q := 138) (i := 4) [(0, .ref (fad Δ 12 0 0)), (1, .int a1), (2, .int x10), (3, .int x22)] C dX12_sums_136 rfl (by decide) rfl (fun x26 => ?_)
                  refine r_join (fun k28 => ∀  (s27 : fSt), fW Δ Γ 5 (fQ eV Δ Γ) 171 [(0, .ref (fad Δ 12 0 0)), (1, .int a1), (2, .int x10), (3, .int x22)] [] s27 (k28 s27)) ?_ (fun k28 hk28 => ?_)
                  · intro s27
                    refine r_aload_n (q := 172) (i := 0) (z := 0) C dX12_sums_171 rfl rfl rfl ?_
                    refine r_dup (q := 173) C dX12_sums_172 rfl rfl ?_
                    refine g_X12_486 (q := 176) C (nm_12 hN) dX12_sums_173 rfl ?_
                    refine r_iload_n (q := 177) (i := 3) (z := 3) C dX12_sums_176 rfl rfl rfl ?_
                    refine r_i2l (q := 178) C dX12_sums_177 rfl ?_
                    refine r_aload_n (q := 179) (i := 0) (z := 0) C dX12_sums_178 rfl rfl rfl ?_
                    refine g_X12_444 (q := 182) C (nm_12 hN) dX12_sums_179 rfl ?_
                    refine r_lmul (q := 183) C dX12_sums_182 rfl ?_
                    refine r_ladd (q := 184) C dX12_sums_183 rfl ?_
                    refine p_X12_486 (q := 187) C (nm_12 hN) dX12_sums_184 rfl (fun s29 => ?_)
                    refine r_aload_n (q := 188) (i := 0) (z := 0) C dX12_sums_187 rfl rfl rfl ?_
                    refine r_dup (q := 189) C dX12_sums_188 rfl rfl ?_
                    refine g_X12_489 (q := 192) C (nm_12 hN) dX12_sums_189 rfl ?_
                    refine r_iload_n (q := 193) (i := 3) (z := 3) C dX12_sums_192 rfl rfl rfl ?_
                    refine r_i2l (q := 194) C dX12_sums_193 rfl ?_
                    refine r_ldc2 (q := 197) C dX12_sums_194 rfl wl_X12_484 ?_
                    refine r_lmul (q := 198) C dX12_sums_197 rfl ?_
                    refine r_ladd (q := 199) C dX12_sums_198 rfl ?_
                    refine p_X12_489 (q := 202) C (nm_12 hN) dX12_sums_199 rfl (fun s30 => ?_)
                    refine r_locs (lc' := [(0, .ref (fad Δ 12 0 0)), (1, .int a1), (2, .int x10)]) [0, 1, 2] rfl ?_
                    exact hj14 s30
                  refine r_locs (lc' := [(0, .ref (fad Δ 12 0 0)), (1, .int a1), (2, .int x10), (3, .int x22), (4, .int x26)]) [1, 2, 3, 4, 0] rfl ?_
                  have L138 : ∀ (n33 : Nat) (x31 : Int32) (s32 : fSt), fW Δ Γ 5 (fQ eV Δ Γ) 138 [(0, .ref (fad Δ 12 0 0)), (1, .int a1), (2, .int x10), (3, .int x22), (4, .int x31)] [] s32 (f_X12_sums_L138 x22 k28 n33 x31 s32) := by
                    intro n33
                    induction n33 with
                    | zero =>
                      intro x31 s32
                      rw [f_X12_sums_L138]
                      exact r_none
                    | succ n33 ih_n33 =>
                      intro x31 s32
                      rw [f_X12_sums_L138]
                      refine r_iload (q := 140) (i := 4) (z := 4) C dX12_sums_138 rfl rfl ?_
                      refine r_bipush (q := 142) (v := 12) C dX12_sums_140 rfl (by decide) ?_
                      refine r_icmp_ge (q := 145) (tgt := 171) C dX12_sums_142 (by decide) rfl ?_ ?_
                      · refine r_locs (lc' := [(0, .ref (fad Δ 12 0 0)), (1, .int a1), (2, .int x10), (3, .int x22)]) [0, 1, 2, 3] rfl ?_
                        exact hk28 s32
                      · refine r_aload_n (q := 146) (i := 0) (z := 0) C dX12_sums_145 rfl rfl rfl ?_
                        refine g_X12_60 (q := 149) C (nm_12 hN) dX12_sums_146 rfl ?_
                        refine r_iload (q := 151) (i := 4) (z := 4) C dX12_sums_149 rfl rfl ?_
                        refine r_dup2 (q := 152) C dX12_sums_151 rfl rfl rfl ?_
                        refine r_lal (q := 153) q_12_13 h_12_13 C (nm_12 hN) dX12_sums_152 rfl ?_
                        refine r_iload_n (q := 154) (i := 3) (z := 3) C dX12_sums_153 rfl rfl rfl ?_
                        refine r_i2l (q := 155) C dX12_sums_154 rfl ?_
                        refine r_aload_n (q := 156) (i := 0) (z := 0) C dX12_sums_155 rfl rfl rfl ?_
                        refine g_X12_47 (q := 159) C (nm_12 hN) dX12_sums_156 rfl ?_
                        refine r_iload (q := 161) (i := 4) (z := 4) C dX12_sums_159 rfl rfl ?_
                        refine r_lal (q := 162) q_12_9 h_12_9 C (nm_12 hN) dX12_sums_161 rfl ?_
                        refine r_lmul (q := 163) C dX12_sums_162 rfl ?_
                        refine r_ladd (q := 164) C dX12_sums_163 rfl ?_
                        refine r_lst (q := 165) q_12_13 h_12_13 C (nm_12 hN) dX12_sums_164 rfl (fun s34 => ?_)
                        refine r_iinc (q := 168) (z := 4) (d := 1) [(0, .ref (fad Δ 12 0 0)), (1, .int a1), (2, .int x10), (3, .int x22)] C dX12_sums_165 rfl rfl (by decide) (by decide) rfl (fun x35 => ?_)
                        refine r_goto (q := 138) C dX12_sums_168 (by decide) ?_
                        refine r_locs (lc' := [(0, .ref (fad Δ 12 0 0)), (1, .int a1), (2, .int x10), (3, .int x22), (4, .int x35)]) [1, 2, 3, 4, 0] rfl ?_
                        exact ih_n33 x35 s34
                  exact L138 fF x26 s24
                refine r_locs (lc' := [(0, .ref (fad Δ 12 0 0)), (1, .int a1), (2, .int x10), (3, .int x22), (4, .int x23)]) [2, 3, 4, 1, 0] rfl ?_
                have L102 : ∀ (n38 : Nat) (x36 : Int32) (s37 : fSt), fW Δ Γ 5 (fQ eV Δ Γ) 102 [(0, .ref (fad Δ 12 0 0)), (1, .int a1), (2, .int x10), (3, .int x22), (4, .int x36)] [] s37 (f_X12_sums_L102 x22 k25 n38 x36 s37) := by
                  intro n38
                  induction n38 with
                  | zero =>
                    intro x36 s37
                    rw [f_X12_sums_L102]
                    exact r_none
                  | succ n38 ih_n38 =>
                    intro x36 s37
                    rw [f_X12_sums_L102]
                    refine r_iload (q := 104) (i := 4) (z := 4) C dX12_sums_102 rfl rfl ?_
                    refine r_bipush (q := 106) (v := 10) C dX12_sums_104 rfl (by decide) ?_
                    refine r_icmp_ge (q := 109) (tgt := 135) C dX12_sums_106 (by decide) rfl ?_ ?_
                    · refine r_locs (lc' := [(0, .ref (fad Δ 12 0 0)), (1, .int a1), (2, .int x10), (3, .int x22)]) [0, 1, 2, 3] rfl ?_
                      exact hk25 s37
                    · refine r_aload_n (q := 110) (i := 0) (z := 0) C dX12_sums_109 rfl rfl rfl ?_
                      refine g_X12_57 (q := 113) C (nm_12 hN) dX12_sums_110 rfl ?_
                      refine r_iload (q := 115) (i := 4) (z := 4) C dX12_sums_113 rfl rfl ?_
                      refine r_dup2 (q := 116) C dX12_sums_115 rfl rfl rfl ?_
                      refine r_lal (q := 117) q_12_12 h_12_12 C (nm_12 hN) dX12_sums_116 rfl ?_
                      refine r_iload_n (q := 118) (i := 3) (z := 3) C dX12_sums_117 rfl rfl rfl ?_
                      refine r_i2l (q := 119) C dX12_sums_118 rfl ?_
                      refine r_aload_n (q := 120) (i := 0) (z := 0) C dX12_sums_119 rfl rfl rfl ?_
                      refine g_X12_44 (q := 123) C (nm_12 hN) dX12_sums_120 rfl ?_
                      refine r_iload (q := 125) (i := 4) (z := 4) C dX12_sums_123 rfl rfl ?_
                      refine r_lal (q := 126) q_12_8 h_12_8 C (nm_12 hN) dX12_sums_125 rfl ?_
                      refine r_lmul (q := 127) C dX12_sums_126 rfl ?_
                      refine r_ladd (q := 128) C dX12_sums_127 rfl ?_
                      refine r_lst (q := 129) q_12_12 h_12_12 C (nm_12 hN) dX12_sums_128 rfl (fun s39 => ?_)
                      refine r_iinc (q := 132) (z := 4) (d := 1) [(0, .ref (fad Δ 12 0 0)), (1, .int a1), (2, .int x10), (3, .int x22)] C dX12_sums_129 rfl rfl (by decide) (by decide) rfl (fun x40 => ?_)
                      refine r_goto (q := 102) C dX12_sums_132 (by decide) ?_
                      refine r_locs (lc' := [(0, .ref (fad Δ 12 0 0)), (1, .int a1), (2, .int x10), (3, .int x22), (4, .int x40)]) [1, 2, 3, 4, 0] rfl ?_
                      exact ih_n38 x40 s39
                exact L102 fF x23 s20
              refine r_if_ge (q := 85) (tgt := 97) C dX12_sums_82 (by decide) rfl ?_ ?_
              · refine r_iconst (q := 98) (v := 1) C dX12_sums_97 rfl (by decide) ?_
                exact hj21 ((1 : Int32)) s18
              · refine r_aload_n (q := 86) (i := 0) (z := 0) C dX12_sums_85 rfl rfl rfl ?_
                refine g_X12_35 (q := 89) C (nm_12 hN) dX12_sums_86 rfl ?_
                refine r_bipush (q := 91) (v := 121) C dX12_sums_89 rfl (by decide) ?_
                refine r_iload_n (q := 92) (i := 2) (z := 2) C dX12_sums_91 rfl rfl rfl ?_
                refine r_iadd (q := 93) C dX12_sums_92 rfl ?_
                refine r_ial (q := 94) q_12_5 h_12_5 C (nm_12 hN) dX12_sums_93 rfl ?_
                refine r_goto (q := 98) C dX12_sums_94 (by decide) ?_
                exact hj21 (gA s18 12 0 5 (((121 : Int32)) + x10).toNatClampNeg) s18
            refine r_if_lt (q := 68) (tgt := 76) C dX12_sums_65 (by decide) rfl ?_ ?_
            · exact hj17 s11
            · refine r_iload_n (q := 69) (i := 2) (z := 2) C dX12_sums_68 rfl rfl rfl ?_
              refine r_iload_n (q := 70) (i := 1) (z := 1) C dX12_sums_69 rfl rfl rfl ?_
              refine r_icmp_eq (q := 73) (tgt := 76) C dX12_sums_70 (by decide) rfl ?_ ?_
              · exact hj17 s11
              · refine r_goto (q := 202) C dX12_sums_73 (by decide) ?_
                exact hj14 s11
      exact L54 fF x9 s8
    refine r_locs (lc' := [(0, .ref (fad Δ 12 0 0)), (1, .int a1), (2, .int x4)]) [1, 2, 0] rfl ?_
    have L23 : ∀ (n43 : Nat) (x41 : Int32) (s42 : fSt), fW Δ Γ 5 (fQ eV Δ Γ) 23 [(0, .ref (fad Δ 12 0 0)), (1, .int a1), (2, .int x41)] [] s42 (f_X12_sums_L23 k6 n43 x41 s42) := by
      intro n43
      induction n43 with
      | zero =>
        intro x41 s42
        rw [f_X12_sums_L23]
        exact r_none
      | succ n43 ih_n43 =>
        intro x41 s42
        rw [f_X12_sums_L23]
        refine r_iload_n (q := 24) (i := 2) (z := 2) C dX12_sums_23 rfl rfl rfl ?_
        refine r_bipush (q := 26) (v := 12) C dX12_sums_24 rfl (by decide) ?_
        refine r_icmp_ge (q := 29) (tgt := 42) C dX12_sums_26 (by decide) rfl ?_ ?_
        · refine r_locs (lc' := [(0, .ref (fad Δ 12 0 0)), (1, .int a1)]) [0, 1] rfl ?_
          exact hk6 s42
        · refine r_aload_n (q := 30) (i := 0) (z := 0) C dX12_sums_29 rfl rfl rfl ?_
          refine g_X12_60 (q := 33) C (nm_12 hN) dX12_sums_30 rfl ?_
          refine r_iload_n (q := 34) (i := 2) (z := 2) C dX12_sums_33 rfl rfl rfl ?_
          refine r_lconst (q := 35) (v := 0) C dX12_sums_34 rfl (by decide) ?_
          refine r_lst (q := 36) q_12_13 h_12_13 C (nm_12 hN) dX12_sums_35 rfl (fun s44 => ?_)
          refine r_iinc (q := 39) (z := 2) (d := 1) [(0, .ref (fad Δ 12 0 0)), (1, .int a1)] C dX12_sums_36 rfl rfl (by decide) (by decide) rfl (fun x45 => ?_)
          refine r_goto (q := 23) C dX12_sums_39 (by decide) ?_
          refine r_locs (lc' := [(0, .ref (fad Δ 12 0 0)), (1, .int a1), (2, .int x45)]) [1, 2, 0] rfl ?_
          exact ih_n43 x45 s44
    exact L23 fF x4 s2
  refine r_locs (lc' := [(0, .ref (fad Δ 12 0 0)), (1, .int a1), (2, .int x1)]) [1, 2, 0] rfl ?_
  have L2 : ∀ (n48 : Nat) (x46 : Int32) (s47 : fSt), fW Δ Γ 5 (fQ eV Δ Γ) 2 [(0, .ref (fad Δ 12 0 0)), (1, .int a1), (2, .int x46)] [] s47 (f_X12_sums_L2 k3 n48 x46 s47) := by
    intro n48
    induction n48 with
    | zero =>
      intro x46 s47
      rw [f_X12_sums_L2]
      exact r_none
    | succ n48 ih_n48 =>
      intro x46 s47
      rw [f_X12_sums_L2]
      refine r_iload_n (q := 3) (i := 2) (z := 2) C dX12_sums_2 rfl rfl rfl ?_
      refine r_bipush (q := 5) (v := 10) C dX12_sums_3 rfl (by decide) ?_
      refine r_icmp_ge (q := 8) (tgt := 21) C dX12_sums_5 (by decide) rfl ?_ ?_
      · refine r_locs (lc' := [(0, .ref (fad Δ 12 0 0)), (1, .int a1)]) [0, 1] rfl ?_
        exact hk3 s47
      · refine r_aload_n (q := 9) (i := 0) (z := 0) C dX12_sums_8 rfl rfl rfl ?_
        refine g_X12_57 (q := 12) C (nm_12 hN) dX12_sums_9 rfl ?_
        refine r_iload_n (q := 13) (i := 2) (z := 2) C dX12_sums_12 rfl rfl rfl ?_
        refine r_lconst (q := 14) (v := 0) C dX12_sums_13 rfl (by decide) ?_
        refine r_lst (q := 15) q_12_12 h_12_12 C (nm_12 hN) dX12_sums_14 rfl (fun s49 => ?_)
        refine r_iinc (q := 18) (z := 2) (d := 1) [(0, .ref (fad Δ 12 0 0)), (1, .int a1)] C dX12_sums_15 rfl rfl (by decide) (by decide) rfl (fun x50 => ?_)
        refine r_goto (q := 2) C dX12_sums_18 (by decide) ?_
        refine r_locs (lc' := [(0, .ref (fad Δ 12 0 0)), (1, .int a1), (2, .int x50)]) [1, 2, 0] rfl ?_
        exact ih_n48 x50 s49
  exact L2 fF x1 st

noncomputable def f_X12_fraction (a1 : Int64) (a3 : Int64) (st : fSt) : Option (Int32 × fSt) :=
  fBd (f_X12_common a1 a3 st) fun x1 s2 =>
  fLt x1 fun (x3 : Int64) =>
  fNz x3 <|
  fLt (sL s2 12 0 2 (a1 / x3)) fun s4 =>
  fNz x3 <|
  fLt (sL s4 12 0 3 (a3 / x3)) fun s5 =>
  some ((1 : Int32), s5)

set_option maxHeartbeats 4000000 in
set_option maxRecDepth 100000 in
theorem c_X12_fraction (Δ : fDl) (hN : fNm Δ) (a1 : Int64) (a3 : Int64)  (st : fSt) : fMt eI Δ yX12_fraction cX12_fraction 7 (some .boolean) 2 [.ref (fad Δ 12 0 0), .long a1, .long a3] st (f_X12_fraction a1 a3 st) := by
  unfold f_X12_fraction
  refine r_method (by decide +kernel) (Nat.le_of_ble_eq_true rfl) (fun Γ C => ?_)
  have C : fC Δ Γ cX12_fraction RX12 7 (some .boolean) 2 := C
  refine r_locs (lc' := [(0, .ref (fad Δ 12 0 0)), (1, .long a1), (3, .long a3)]) [0, 1, 2] rfl ?_
  refine r_lload_n (q := 1) (i := 1) (z := 1) C dX12_fraction_0 rfl rfl rfl ?_
  refine r_lload_n (q := 2) (i := 3) (z := 2) C dX12_fraction_1 rfl rfl rfl ?_
  refine r_callSL (q := 5) (As := [.long a1, .long a3]) wm_X12_105 ysX12_common (c_X12_common Δ hN a1 a3 st) C (by decide) rfl (Nat.le_of_ble_eq_true rfl) dX12_fraction_2 rfl (fun x1 s2 => ?_)
  refine r_lstore (q := 7) (i := 5) [(0, .ref (fad Δ 12 0 0)), (1, .long a1), (3, .long a3)] C dX12_fraction_5 rfl (by decide) rfl (fun x3 => ?_)
  refine r_aload_n (q := 8) (i := 0) (z := 1) C dX12_fraction_7 rfl rfl rfl ?_
  refine r_lload_n (q := 9) (i := 1) (z := 2) C dX12_fraction_8 rfl rfl rfl ?_
  refine r_lload (q := 11) (i := 5) (z := 0) C dX12_fraction_9 rfl rfl ?_
  refine r_ldiv (q := 12) C dX12_fraction_11 rfl ?_
  refine p_X12_96 (q := 15) C (nm_12 hN) dX12_fraction_12 rfl (fun s4 => ?_)
  refine r_aload_n (q := 16) (i := 0) (z := 1) C dX12_fraction_15 rfl rfl rfl ?_
  refine r_lload_n (q := 17) (i := 3) (z := 3) C dX12_fraction_16 rfl rfl rfl ?_
  refine r_lload (q := 19) (i := 5) (z := 0) C dX12_fraction_17 rfl rfl ?_
  refine r_ldiv (q := 20) C dX12_fraction_19 rfl ?_
  refine p_X12_7 (q := 23) C (nm_12 hN) dX12_fraction_20 rfl (fun s5 => ?_)
  refine r_iconst (q := 24) (v := 1) C dX12_fraction_23 rfl (by decide) ?_
  exact r_zret0 (Or.inr rfl) C dX12_fraction_24

noncomputable def f_X12_death_L55 (a1 : Int32) (x6 : Int64) (k14 : Int32 → Int64 → fSt → Option (Int32 × fSt)) : Nat → Int32 → Int64 → Int32 → fSt → Option (Int32 × fSt)
  | 0, _, _, _, _ => none
  | n23 + 1, x19, x20, x21, s22 =>
      fIx ((0 : Int32)) 2150 <|
        if (gA s22 12 0 5 ((0 : Int32)).toNatClampNeg) ≤ x21 then
          (k14 x19 x20 s22)
        else
          (fIx ((5 : Int32)) 2150 <|
          fBd (f_X12_has (gA s22 12 0 5 ((5 : Int32)).toNatClampNeg) x21 s22) fun x24 s25 =>
          fJn (fun (x26 : Int32) (x27 : Int64) (s28 : fSt) =>
            (fLt (x21 + (1 : Int32)) fun (x30 : Int32) =>
            f_X12_death_L55 a1 x6 k14 n23 x26 x27 x30 s28)) fun (j29 : Int32 → Int64 → fSt → Option (Int32 × fSt)) =>
          if x24 = 0 then
            (fIx ((5 : Int32)) 2150 <|
            fIx ((5 : Int32)) 2150 <|
            fLt (sA s25 12 0 5 (upd (gA s25 12 0 5) ((5 : Int32)).toNatClampNeg ((gA s25 12 0 5 ((5 : Int32)).toNatClampNeg) ||| (((1 : Int32)) <<< (x21 &&& 31))))) fun s31 =>
            fBd (f_X12_sums ((-1 : Int32)) s31) fun _ s32 =>
            fIx ((5 : Int32)) 2150 <|
            fIx ((5 : Int32)) 2150 <|
            fLt (sA s32 12 0 5 (upd (gA s32 12 0 5) ((5 : Int32)).toNatClampNeg ((gA s32 12 0 5 ((5 : Int32)).toNatClampNeg) &&& ((((1 : Int32)) <<< (x21 &&& 31)) ^^^ ((-1 : Int32)))))) fun s33 =>
            fIx a1 10 <|
            if 0 < (lg_cmp (if 0 < ((gB s33 12 0 12 a1.toNatClampNeg) - x6) then ((gB s33 12 0 12 a1.toNatClampNeg) - x6) else -((gB s33 12 0 12 a1.toNatClampNeg) - x6)) x20) then
              (fIx a1 10 <|
              fLt (if 0 < ((gB s33 12 0 12 a1.toNatClampNeg) - x6) then ((gB s33 12 0 12 a1.toNatClampNeg) - x6) else -((gB s33 12 0 12 a1.toNatClampNeg) - x6)) fun (x34 : Int64) =>
              fLt x21 fun (x35 : Int32) =>
              j29 x35 x34 s33)
            else
              (j29 x19 x20 s33))
          else
            (j29 x19 x20 s25))

noncomputable def f_X12_death (a1 : Int32) (st : fSt) : Option (Int32 × fSt) :=
  fLt (sI st 12 0 1 ((0 : Int32))) fun s1 =>
  fLt (sI s1 12 0 0 ((0 : Int32))) fun s2 =>
  fBd (f_X12_isIn a1.toInt64 ((0 : Int64)) ((9 : Int64)) s2) fun x3 s4 =>
  if ¬ x3 = 0 then
    (fBd (f_X12_sums ((-1 : Int32)) s4) fun _ s5 =>
    fIx a1 10 <|
    fLt (gB s5 12 0 12 a1.toNatClampNeg) fun (x6 : Int64) =>
    fLt (gL s5 12 0 42) fun (x7 : Int64) =>
    fLt ((-1 : Int32)) fun (x8 : Int32) =>
    fLt ((0 : Int64)) fun (x9 : Int64) =>
    fLt ((0 : Int32)) fun (x10 : Int32) =>
    fJn (fun (x11 : Int32) (x12 : Int64) (s13 : fSt) =>
      (if 0 ≤ x11 then
        (fBd (f_X12_fraction x12 x7 s13) fun x15 s16 =>
        some (x11, s16))
      else
        (fBd (f_X12_refuse ((8 : Int32)) s13) fun x17 s18 =>
        some (x17, s18)))) fun (k14 : Int32 → Int64 → fSt → Option (Int32 × fSt)) =>
    f_X12_death_L55 a1 x6 k14 fF x8 x9 x10 s5)
  else
    (fBd (f_X12_refuse ((5 : Int32)) s4) fun x36 s37 =>
    some (x36, s37))

set_option maxHeartbeats 4000000 in
set_option maxRecDepth 100000 in
theorem c_X12_death (Δ : fDl) (hN : fNm Δ) (a1 : Int32)  (st : fSt) : fMt eI Δ yX12_death cX12_death 10 (some .int) 20 [.ref (fad Δ 12 0 0), .int a1] st (f_X12_death a1 st) := by
  unfold f_X12_death
  refine r_method (by decide +kernel) (Nat.le_of_ble_eq_true rfl) (fun Γ C => ?_)
  have C : fC Δ Γ cX12_death RX12 10 (some .int) 20 := C
  refine r_locs (lc' := [(0, .ref (fad Δ 12 0 0)), (1, .int a1)]) [0, 1] rfl ?_
  refine r_aload_n (q := 1) (i := 0) (z := 0) C dX12_death_0 rfl rfl rfl ?_
  refine r_iconst (q := 2) (v := 0) C dX12_death_1 rfl (by decide) ?_
  refine p_X12_90 (q := 5) C (nm_12 hN) dX12_death_2 rfl (fun s1 => ?_)
  refine r_aload_n (q := 6) (i := 0) (z := 0) C dX12_death_5 rfl rfl rfl ?_
  refine r_iconst (q := 7) (v := 0) C dX12_death_6 rfl (by decide) ?_
  refine p_X12_93 (q := 10) C (nm_12 hN) dX12_death_7 rfl (fun s2 => ?_)
  refine r_iload_n (q := 11) (i := 1) (z := 1) C dX12_death_10 rfl rfl rfl ?_
  refine r_i2l (q := 12) C dX12_death_11 rfl ?_
  refine r_lconst (q := 13) (v := 0) C dX12_death_12 rfl (by decide) ?_
  refine r_ldc2 (q := 16) C dX12_death_13 rfl wl_X12_498 ?_
  refine r_callSI (q := 19) (As := [.long a1.toInt64, .long ((0 : Int64)), .long ((9 : Int64))]) wm_X12_129 ysX12_isIn (c_X12_isIn Δ hN a1.toInt64 ((0 : Int64)) ((9 : Int64)) s2) C (by decide) rfl (Nat.le_of_ble_eq_true rfl) dX12_death_16 rfl (fun x3 s4 => ?_)
  refine r_if_ne (q := 22) (tgt := 28) C dX12_death_19 (by decide) rfl ?_ ?_
  · refine r_aload_n (q := 29) (i := 0) (z := 0) C dX12_death_28 rfl rfl rfl ?_
    refine r_iconst (q := 30) (v := (-1)) C dX12_death_29 rfl (by decide) ?_
    refine r_callVV (q := 33) (As := [.int ((-1 : Int32))]) wm_X12_503 yvX12_sums (c_X12_sums Δ hN ((-1 : Int32)) s4) ⟨rfl, by decide⟩ C (nm_12 hN) (by decide) rfl (Nat.le_of_ble_eq_true rfl) dX12_death_30 rfl (fun _ s5 => ?_)
    refine r_aload_n (q := 34) (i := 0) (z := 0) C dX12_death_33 rfl rfl rfl ?_
    refine g_X12_57 (q := 37) C (nm_12 hN) dX12_death_34 rfl ?_
    refine r_iload_n (q := 38) (i := 1) (z := 1) C dX12_death_37 rfl rfl rfl ?_
    refine r_lal (q := 39) q_12_12 h_12_12 C (nm_12 hN) dX12_death_38 rfl ?_
    refine r_lstore_n (q := 40) (i := 2) [(0, .ref (fad Δ 12 0 0)), (1, .int a1)] C dX12_death_39 rfl rfl (by decide) rfl (fun x6 => ?_)
    refine r_aload_n (q := 41) (i := 0) (z := 1) C dX12_death_40 rfl rfl rfl ?_
    refine g_X12_489 (q := 44) C (nm_12 hN) dX12_death_41 rfl ?_
    refine r_lstore (q := 46) (i := 4) [(2, .long x6), (0, .ref (fad Δ 12 0 0)), (1, .int a1)] C dX12_death_44 rfl (by decide) rfl (fun x7 => ?_)
    refine r_iconst (q := 47) (v := (-1)) C dX12_death_46 rfl (by decide) ?_
    refine r_istore (q := 49) (i := 6) [(4, .long x7), (2, .long x6), (0, .ref (fad Δ 12 0 0)), (1, .int a1)] C dX12_death_47 rfl (by decide) rfl (fun x8 => ?_)
    refine r_lconst (q := 50) (v := 0) C dX12_death_49 rfl (by decide) ?_
    refine r_lstore (q := 52) (i := 7) [(6, .int x8), (4, .long x7), (2, .long x6), (0, .ref (fad Δ 12 0 0)), (1, .int a1)] C dX12_death_50 rfl (by decide) rfl (fun x9 => ?_)
    refine r_iconst (q := 53) (v := 0) C dX12_death_52 rfl (by decide) ?_
    refine r_istore (q := 55) (i := 9) [(7, .long x9), (6, .int x8), (4, .long x7), (2, .long x6), (0, .ref (fad Δ 12 0 0)), (1, .int a1)] C dX12_death_53 rfl (by decide) rfl (fun x10 => ?_)
    refine r_join (fun k14 => ∀ (x11 : Int32) (x12 : Int64) (s13 : fSt), fW Δ Γ 10 (fQ eI Δ Γ) 159 [(0, .ref (fad Δ 12 0 0)), (4, .long x7), (6, .int x11), (7, .long x12)] [] s13 (k14 x11 x12 s13)) ?_ (fun k14 hk14 => ?_)
    · intro x11 x12 s13
      refine r_iload (q := 161) (i := 6) (z := 2) C dX12_death_159 rfl rfl ?_
      refine r_if_ge (q := 164) (tgt := 171) C dX12_death_161 (by decide) rfl ?_ ?_
      · refine r_aload_n (q := 172) (i := 0) (z := 0) C dX12_death_171 rfl rfl rfl ?_
        refine r_lload (q := 174) (i := 7) (z := 3) C dX12_death_172 rfl rfl ?_
        refine r_lload (q := 176) (i := 4) (z := 1) C dX12_death_174 rfl rfl ?_
        refine r_callVI (q := 179) (As := [.long x12, .long x7]) wm_X12_506 yvX12_fraction (c_X12_fraction Δ hN x12 x7 s13) ⟨rfl, by decide⟩ C (nm_12 hN) (by decide) rfl (Nat.le_of_ble_eq_true rfl) dX12_death_176 rfl (fun x15 s16 => ?_)
        refine r_pop (q := 180) C dX12_death_179 rfl rfl ?_
        refine r_iload (q := 182) (i := 6) (z := 2) C dX12_death_180 rfl rfl ?_
        exact r_iret C dX12_death_182
      · refine r_aload_n (q := 165) (i := 0) (z := 0) C dX12_death_164 rfl rfl rfl ?_
        refine r_bipush (q := 167) (v := 8) C dX12_death_165 rfl (by decide) ?_
        refine r_callVI (q := 170) (As := [.int ((8 : Int32))]) wm_X12_348 yvX12_refuse (c_X12_refuse Δ hN ((8 : Int32)) s13) ⟨rfl, by decide⟩ C (nm_12 hN) (by decide) rfl (Nat.le_of_ble_eq_true rfl) dX12_death_167 rfl (fun x17 s18 => ?_)
        exact r_iret C dX12_death_170
    refine r_locs (lc' := [(0, .ref (fad Δ 12 0 0)), (1, .int a1), (2, .long x6), (4, .long x7), (6, .int x8), (7, .long x9), (9, .int x10)]) [5, 6, 4, 3, 2, 1, 0] rfl ?_
    have L55 : ∀ (n23 : Nat) (x19 : Int32) (x20 : Int64) (x21 : Int32) (s22 : fSt), fW Δ Γ 10 (fQ eI Δ Γ) 55 [(0, .ref (fad Δ 12 0 0)), (1, .int a1), (2, .long x6), (4, .long x7), (6, .int x19), (7, .long x20), (9, .int x21)] [] s22 (f_X12_death_L55 a1 x6 k14 n23 x19 x20 x21 s22) := by
      intro n23
      induction n23 with
      | zero =>
        intro x19 x20 x21 s22
        rw [f_X12_death_L55]
        exact r_none
      | succ n23 ih_n23 =>
        intro x19 x20 x21 s22
        rw [f_X12_death_L55]
        refine r_iload (q := 57) (i := 9) (z := 6) C dX12_death_55 rfl rfl ?_
        refine r_aload_n (q := 58) (i := 0) (z := 0) C dX12_death_57 rfl rfl rfl ?_
        refine g_X12_35 (q := 61) C (nm_12 hN) dX12_death_58 rfl ?_
        refine r_iconst (q := 62) (v := 0) C dX12_death_61 rfl (by decide) ?_
        refine r_ial (q := 63) q_12_5 h_12_5 C (nm_12 hN) dX12_death_62 rfl ?_
        refine r_icmp_ge (q := 66) (tgt := 159) C dX12_death_63 (by decide) rfl ?_ ?_
        · refine r_locs (lc' := [(0, .ref (fad Δ 12 0 0)), (4, .long x7), (6, .int x19), (7, .long x20)]) [0, 3, 4, 5] rfl ?_
          exact hk14 x19 x20 s22
        · refine r_aload_n (q := 67) (i := 0) (z := 0) C dX12_death_66 rfl rfl rfl ?_
          refine g_X12_35 (q := 70) C (nm_12 hN) dX12_death_67 rfl ?_
          refine r_iconst (q := 71) (v := 5) C dX12_death_70 rfl (by decide) ?_
          refine r_ial (q := 72) q_12_5 h_12_5 C (nm_12 hN) dX12_death_71 rfl ?_
          refine r_iload (q := 74) (i := 9) (z := 6) C dX12_death_72 rfl rfl ?_
          refine r_callSI (q := 77) (As := [.int (gA s22 12 0 5 ((5 : Int32)).toNatClampNeg), .int x21]) wm_X12_373 ysX12_has (c_X12_has Δ hN (gA s22 12 0 5 ((5 : Int32)).toNatClampNeg) x21 s22) C (by decide) rfl (Nat.le_of_ble_eq_true rfl) dX12_death_74 rfl (fun x24 s25 => ?_)
          refine r_join (fun j29 => ∀ (x26 : Int32) (x27 : Int64) (s28 : fSt), fW Δ Γ 10 (fQ eI Δ Γ) 153 [(0, .ref (fad Δ 12 0 0)), (1, .int a1), (2, .long x6), (4, .long x7), (6, .int x26), (7, .long x27), (9, .int x21)] [] s28 (j29 x26 x27 s28)) ?_ (fun j29 hj29 => ?_)
          · intro x26 x27 s28
            refine r_iinc (q := 156) (z := 6) (d := 1) [(0, .ref (fad Δ 12 0 0)), (1, .int a1), (2, .long x6), (4, .long x7), (6, .int x26), (7, .long x27)] C dX12_death_153 rfl rfl (by decide) (by decide) rfl (fun x30 => ?_)
            refine r_goto (q := 55) C dX12_death_156 (by decide) ?_
            refine r_locs (lc' := [(0, .ref (fad Δ 12 0 0)), (1, .int a1), (2, .long x6), (4, .long x7), (6, .int x26), (7, .long x27), (9, .int x30)]) [1, 2, 3, 4, 5, 6, 0] rfl ?_
            exact ih_n23 x26 x27 x30 s28
          refine r_if_eq (q := 80) (tgt := 83) C dX12_death_77 (by decide) rfl ?_ ?_
          · refine r_aload_n (q := 84) (i := 0) (z := 0) C dX12_death_83 rfl rfl rfl ?_
            refine g_X12_35 (q := 87) C (nm_12 hN) dX12_death_84 rfl ?_
            refine r_iconst (q := 88) (v := 5) C dX12_death_87 rfl (by decide) ?_
            refine r_dup2 (q := 89) C dX12_death_88 rfl rfl rfl ?_
            refine r_ial (q := 90) q_12_5 h_12_5 C (nm_12 hN) dX12_death_89 rfl ?_
            refine r_iconst (q := 91) (v := 1) C dX12_death_90 rfl (by decide) ?_
            refine r_iload (q := 93) (i := 9) (z := 6) C dX12_death_91 rfl rfl ?_
            refine r_ishl (q := 94) C dX12_death_93 rfl ?_
            refine r_ior (q := 95) C dX12_death_94 rfl ?_
            refine r_ast (q := 96) q_12_5 h_12_5 C (nm_12 hN) dX12_death_95 rfl (fun s31 => ?_)
            refine r_aload_n (q := 97) (i := 0) (z := 0) C dX12_death_96 rfl rfl rfl ?_
            refine r_iconst (q := 98) (v := (-1)) C dX12_death_97 rfl (by decide) ?_
            refine r_callVV (q := 101) (As := [.int ((-1 : Int32))]) wm_X12_503 yvX12_sums (c_X12_sums Δ hN ((-1 : Int32)) s31) ⟨rfl, by decide⟩ C (nm_12 hN) (by decide) rfl (Nat.le_of_ble_eq_true rfl) dX12_death_98 rfl (fun _ s32 => ?_)
            refine r_aload_n (q := 102) (i := 0) (z := 0) C dX12_death_101 rfl rfl rfl ?_
            refine g_X12_35 (q := 105) C (nm_12 hN) dX12_death_102 rfl ?_
            refine r_iconst (q := 106) (v := 5) C dX12_death_105 rfl (by decide) ?_
            refine r_dup2 (q := 107) C dX12_death_106 rfl rfl rfl ?_
            refine r_ial (q := 108) q_12_5 h_12_5 C (nm_12 hN) dX12_death_107 rfl ?_
            refine r_iconst (q := 109) (v := 1) C dX12_death_108 rfl (by decide) ?_
            refine r_iload (q := 111) (i := 9) (z := 6) C dX12_death_109 rfl rfl ?_
            refine r_ishl (q := 112) C dX12_death_111 rfl ?_
            refine r_iconst (q := 113) (v := (-1)) C dX12_death_112 rfl (by decide) ?_
            refine r_ixor (q := 114) C dX12_death_113 rfl ?_
            refine r_iand (q := 115) C dX12_death_114 rfl ?_
            refine r_ast (q := 116) q_12_5 h_12_5 C (nm_12 hN) dX12_death_115 rfl (fun s33 => ?_)
            refine r_aload_n (q := 117) (i := 0) (z := 0) C dX12_death_116 rfl rfl rfl ?_
            refine g_X12_57 (q := 120) C (nm_12 hN) dX12_death_117 rfl ?_
            refine r_iload_n (q := 121) (i := 1) (z := 1) C dX12_death_120 rfl rfl rfl ?_
            refine r_lal (q := 122) q_12_12 h_12_12 C (nm_12 hN) dX12_death_121 rfl ?_
            refine r_lload_n (q := 123) (i := 2) (z := 2) C dX12_death_122 rfl rfl rfl ?_
            refine r_lsub (q := 124) C dX12_death_123 rfl ?_
            refine r_labs (q := 127) wk_X12_99 mw_labs.1 mw_labs.2.1 mw_labs.2.2 C (by decide) (Nat.le_of_ble_eq_true rfl) dX12_death_124 rfl ?_
            refine r_lload (q := 129) (i := 7) (z := 5) C dX12_death_127 rfl rfl ?_
            refine r_lcmp (q := 130) C dX12_death_129 rfl ?_
            refine r_if_gt (q := 133) (tgt := 136) C dX12_death_130 (by decide) rfl ?_ ?_
            · refine r_aload_n (q := 137) (i := 0) (z := 0) C dX12_death_136 rfl rfl rfl ?_
              refine g_X12_57 (q := 140) C (nm_12 hN) dX12_death_137 rfl ?_
              refine r_iload_n (q := 141) (i := 1) (z := 1) C dX12_death_140 rfl rfl rfl ?_
              refine r_lal (q := 142) q_12_12 h_12_12 C (nm_12 hN) dX12_death_141 rfl ?_
              refine r_lload_n (q := 143) (i := 2) (z := 2) C dX12_death_142 rfl rfl rfl ?_
              refine r_lsub (q := 144) C dX12_death_143 rfl ?_
              refine r_labs (q := 147) wk_X12_99 mw_labs.1 mw_labs.2.1 mw_labs.2.2 C (by decide) (Nat.le_of_ble_eq_true rfl) dX12_death_144 rfl ?_
              refine r_lstore (q := 149) (i := 7) [(0, .ref (fad Δ 12 0 0)), (1, .int a1), (2, .long x6), (4, .long x7), (6, .int x19), (9, .int x21)] C dX12_death_147 rfl (by decide) rfl (fun x34 => ?_)
              refine r_iload (q := 151) (i := 9) (z := 6) C dX12_death_149 rfl rfl ?_
              refine r_istore (q := 153) (i := 6) [(7, .long x34), (0, .ref (fad Δ 12 0 0)), (1, .int a1), (2, .long x6), (4, .long x7), (9, .int x21)] C dX12_death_151 rfl (by decide) rfl (fun x35 => ?_)
              refine r_locs (lc' := [(0, .ref (fad Δ 12 0 0)), (1, .int a1), (2, .long x6), (4, .long x7), (6, .int x35), (7, .long x34), (9, .int x21)]) [2, 3, 4, 5, 0, 1, 6] rfl ?_
              exact hj29 x35 x34 s33
            · refine r_goto (q := 153) C dX12_death_133 (by decide) ?_
              exact hj29 x19 x20 s33
          · refine r_goto (q := 153) C dX12_death_80 (by decide) ?_
            exact hj29 x19 x20 s25
    exact L55 fF x8 x9 x10 s5
  · refine r_aload_n (q := 23) (i := 0) (z := 0) C dX12_death_22 rfl rfl rfl ?_
    refine r_iconst (q := 24) (v := 5) C dX12_death_23 rfl (by decide) ?_
    refine r_callVI (q := 27) (As := [.int ((5 : Int32))]) wm_X12_348 yvX12_refuse (c_X12_refuse Δ hN ((5 : Int32)) s4) ⟨rfl, by decide⟩ C (nm_12 hN) (by decide) rfl (Nat.le_of_ble_eq_true rfl) dX12_death_24 rfl (fun x36 s37 => ?_)
    exact r_iret C dX12_death_27

noncomputable def f_X12_draw (a1 : Int32) (st : fSt) : Option (Int32 × fSt) :=
  fNz ((65536 : Int32)) <|
  fLt (sI st 12 0 28 ((((gI st 12 0 28) * ((2903 : Int32))) + ((7187 : Int32))) - (((gI st 12 0 28) * ((2903 : Int32))) + ((7187 : Int32))) / ((65536 : Int32)) * ((65536 : Int32)))) fun s1 =>
  fNz ((8 : Int32)) <|
  fNz a1 <|
  some (((gI s1 12 0 28) / ((8 : Int32))) - ((gI s1 12 0 28) / ((8 : Int32))) / a1 * a1, s1)

set_option maxHeartbeats 4000000 in
set_option maxRecDepth 100000 in
theorem c_X12_draw (Δ : fDl) (hN : fNm Δ) (a1 : Int32)  (st : fSt) : fMt eI Δ yX12_draw cX12_draw 2 (some .int) 1 [.ref (fad Δ 12 0 0), .int a1] st (f_X12_draw a1 st) := by
  unfold f_X12_draw
  refine r_method (by decide +kernel) (Nat.le_of_ble_eq_true rfl) (fun Γ C => ?_)
  have C : fC Δ Γ cX12_draw RX12 2 (some .int) 1 := C
  refine r_locs (lc' := [(0, .ref (fad Δ 12 0 0)), (1, .int a1)]) [0, 1] rfl ?_
  refine r_aload_n (q := 1) (i := 0) (z := 0) C dX12_draw_0 rfl rfl rfl ?_
  refine r_aload_n (q := 2) (i := 0) (z := 0) C dX12_draw_1 rfl rfl rfl ?_
  refine g_X12_418 (q := 5) C (nm_12 hN) dX12_draw_2 rfl ?_
  refine r_sipush (q := 8) (v := 2903) C dX12_draw_5 rfl (by decide) ?_
  refine r_imul (q := 9) C dX12_draw_8 rfl ?_
  refine r_sipush (q := 12) (v := 7187) C dX12_draw_9 rfl (by decide) ?_
  refine r_iadd (q := 13) C dX12_draw_12 rfl ?_
  refine r_ldcw (q := 16) C dX12_draw_13 rfl wc_X12_421 ?_
  refine r_irem (q := 17) C dX12_draw_16 rfl ?_
  refine p_X12_418 (q := 20) C (nm_12 hN) dX12_draw_17 rfl (fun s1 => ?_)
  refine r_aload_n (q := 21) (i := 0) (z := 0) C dX12_draw_20 rfl rfl rfl ?_
  refine g_X12_418 (q := 24) C (nm_12 hN) dX12_draw_21 rfl ?_
  refine r_bipush (q := 26) (v := 8) C dX12_draw_24 rfl (by decide) ?_
  refine r_idiv (q := 27) C dX12_draw_26 rfl ?_
  refine r_iload_n (q := 28) (i := 1) (z := 1) C dX12_draw_27 rfl rfl rfl ?_
  refine r_irem (q := 29) C dX12_draw_28 rfl ?_
  exact r_iret C dX12_draw_29

noncomputable def f_X12_drawnKind_L11  : Nat → Int32 → Int32 → fSt → Option (Int32 × fSt)
  | 0, _, _, _ => none
  | n10 + 1, x7, x8, s9 =>
      fIx (((121 : Int32)) + x8) 2150 <|
      if x7 < (gA s9 12 0 5 (((121 : Int32)) + x8).toNatClampNeg) then
        (some (x8, s9))
      else
        (fIx (((121 : Int32)) + x8) 2150 <|
        fLt (x7 - (gA s9 12 0 5 (((121 : Int32)) + x8).toNatClampNeg)) fun (x11 : Int32) =>
        fLt (x8 + (1 : Int32)) fun (x12 : Int32) =>
        f_X12_drawnKind_L11 n10 x11 x12 s9)

noncomputable def f_X12_drawnKind  (st : fSt) : Option (Int32 × fSt) :=
  fBd (f_X12_allLots  st) fun x1 s2 =>
  fBd (f_X12_draw x1 s2) fun x3 s4 =>
  fLt x3 fun (x5 : Int32) =>
  fLt ((0 : Int32)) fun (x6 : Int32) =>
  f_X12_drawnKind_L11 fF x5 x6 s4

set_option maxHeartbeats 4000000 in
set_option maxRecDepth 100000 in
theorem c_X12_drawnKind (Δ : fDl) (hN : fNm Δ)   (st : fSt) : fMt eI Δ yX12_drawnKind cX12_drawnKind 3 (some .int) 2 [.ref (fad Δ 12 0 0)] st (f_X12_drawnKind  st) := by
  unfold f_X12_drawnKind
  refine r_method (by decide +kernel) (Nat.le_of_ble_eq_true rfl) (fun Γ C => ?_)
  have C : fC Δ Γ cX12_drawnKind RX12 3 (some .int) 2 := C
  refine r_locs (lc' := [(0, .ref (fad Δ 12 0 0))]) [0] rfl ?_
  refine r_aload_n (q := 1) (i := 0) (z := 0) C dX12_drawnKind_0 rfl rfl rfl ?_
  refine r_aload_n (q := 2) (i := 0) (z := 0) C dX12_drawnKind_1 rfl rfl rfl ?_
  refine r_callVI (q := 5) (As := []) wm_X12_422 yvX12_allLots (c_X12_allLots Δ hN st) ⟨rfl, by decide⟩ C (nm_12 hN) (by decide) rfl (Nat.le_of_ble_eq_true rfl) dX12_drawnKind_2 rfl (fun x1 s2 => ?_)
  refine r_callVI (q := 8) (As := [.int x1]) wm_X12_425 yvX12_draw (c_X12_draw Δ hN x1 s2) ⟨rfl, by decide⟩ C (nm_12 hN) (by decide) rfl (Nat.le_of_ble_eq_true rfl) dX12_drawnKind_5 rfl (fun x3 s4 => ?_)
  refine r_istore_n (q := 9) (i := 1) [(0, .ref (fad Δ 12 0 0))] C dX12_drawnKind_8 rfl rfl (by decide) rfl (fun x5 => ?_)
  refine r_iconst (q := 10) (v := 0) C dX12_drawnKind_9 rfl (by decide) ?_
  refine r_istore_n (q := 11) (i := 2) [(1, .int x5), (0, .ref (fad Δ 12 0 0))] C dX12_drawnKind_10 rfl rfl (by decide) rfl (fun x6 => ?_)
  refine r_locs (lc' := [(0, .ref (fad Δ 12 0 0)), (1, .int x5), (2, .int x6)]) [2, 1, 0] rfl ?_
  have L11 : ∀ (n10 : Nat) (x7 : Int32) (x8 : Int32) (s9 : fSt), fW Δ Γ 3 (fQ eI Δ Γ) 11 [(0, .ref (fad Δ 12 0 0)), (1, .int x7), (2, .int x8)] [] s9 (f_X12_drawnKind_L11 n10 x7 x8 s9) := by
    intro n10
    induction n10 with
    | zero =>
      intro x7 x8 s9
      rw [f_X12_drawnKind_L11]
      exact r_none
    | succ n10 ih_n10 =>
      intro x7 x8 s9
      rw [f_X12_drawnKind_L11]
      refine r_iload_n (q := 12) (i := 1) (z := 1) C dX12_drawnKind_11 rfl rfl rfl ?_
      refine r_aload_n (q := 13) (i := 0) (z := 0) C dX12_drawnKind_12 rfl rfl rfl ?_
      refine g_X12_35 (q := 16) C (nm_12 hN) dX12_drawnKind_13 rfl ?_
      refine r_bipush (q := 18) (v := 121) C dX12_drawnKind_16 rfl (by decide) ?_
      refine r_iload_n (q := 19) (i := 2) (z := 2) C dX12_drawnKind_18 rfl rfl rfl ?_
      refine r_iadd (q := 20) C dX12_drawnKind_19 rfl ?_
      refine r_ial (q := 21) q_12_5 h_12_5 C (nm_12 hN) dX12_drawnKind_20 rfl ?_
      refine r_icmp_lt (q := 24) (tgt := 42) C dX12_drawnKind_21 (by decide) rfl ?_ ?_
      · refine r_iload_n (q := 43) (i := 2) (z := 2) C dX12_drawnKind_42 rfl rfl rfl ?_
        exact r_iret C dX12_drawnKind_43
      · refine r_iload_n (q := 25) (i := 1) (z := 1) C dX12_drawnKind_24 rfl rfl rfl ?_
        refine r_aload_n (q := 26) (i := 0) (z := 0) C dX12_drawnKind_25 rfl rfl rfl ?_
        refine g_X12_35 (q := 29) C (nm_12 hN) dX12_drawnKind_26 rfl ?_
        refine r_bipush (q := 31) (v := 121) C dX12_drawnKind_29 rfl (by decide) ?_
        refine r_iload_n (q := 32) (i := 2) (z := 2) C dX12_drawnKind_31 rfl rfl rfl ?_
        refine r_iadd (q := 33) C dX12_drawnKind_32 rfl ?_
        refine r_ial (q := 34) q_12_5 h_12_5 C (nm_12 hN) dX12_drawnKind_33 rfl ?_
        refine r_isub (q := 35) C dX12_drawnKind_34 rfl ?_
        refine r_istore_n (q := 36) (i := 1) [(0, .ref (fad Δ 12 0 0)), (2, .int x8)] C dX12_drawnKind_35 rfl rfl (by decide) rfl (fun x11 => ?_)
        refine r_iinc (q := 39) (z := 2) (d := 1) [(1, .int x11), (0, .ref (fad Δ 12 0 0))] C dX12_drawnKind_36 rfl rfl (by decide) (by decide) rfl (fun x12 => ?_)
        refine r_goto (q := 11) C dX12_drawnKind_39 (by decide) ?_
        refine r_locs (lc' := [(0, .ref (fad Δ 12 0 0)), (1, .int x11), (2, .int x12)]) [2, 1, 0] rfl ?_
        exact ih_n10 x11 x12 s9
  exact L11 fF x5 x6 s4

noncomputable def f_X12_raises  (st : fSt) : Option (Unit × fSt) :=
  fLt (sI st 12 0 25 ((0 : Int32))) fun s1 =>
  fLt (sI s1 12 0 27 ((0 : Int32))) fun s2 =>
  some ((), s2)

set_option maxHeartbeats 4000000 in
set_option maxRecDepth 100000 in
theorem c_X12_raises (Δ : fDl) (hN : fNm Δ)   (st : fSt) : fMt eV Δ yX12_raises cX12_raises 1 none 1 [.ref (fad Δ 12 0 0)] st (f_X12_raises  st) := by
  unfold f_X12_raises
  refine r_method (by decide +kernel) (Nat.le_of_ble_eq_true rfl) (fun Γ C => ?_)
  have C : fC Δ Γ cX12_raises RX12 1 none 1 := C
  refine r_locs (lc' := [(0, .ref (fad Δ 12 0 0))]) [0] rfl ?_
  refine r_aload_n (q := 1) (i := 0) (z := 0) C dX12_raises_0 rfl rfl rfl ?_
  refine r_iconst (q := 2) (v := 0) C dX12_raises_1 rfl (by decide) ?_
  refine p_X12_382 (q := 5) C (nm_12 hN) dX12_raises_2 rfl (fun s1 => ?_)
  refine r_aload_n (q := 6) (i := 0) (z := 0) C dX12_raises_5 rfl rfl rfl ?_
  refine r_iconst (q := 7) (v := 0) C dX12_raises_6 rfl (by decide) ?_
  refine p_X12_388 (q := 10) C (nm_12 hN) dX12_raises_7 rfl (fun s2 => ?_)
  exact r_vret C dX12_raises_10

noncomputable def f_X12_sees (a1 : Int32) (st : fSt) : Option (Unit × fSt) :=
  fLt (sI st 12 0 25 ((gI st 12 0 25) ||| (((1 : Int32)) <<< (a1 &&& 31)))) fun s1 =>
  fIx (((49 : Int32)) + a1) 2150 <|
  fLt (sI s1 12 0 26 (gA s1 12 0 5 (((49 : Int32)) + a1).toNatClampNeg)) fun s2 =>
  fBd (f_X12_breathsOf a1 s2) fun x3 s4 =>
  fLt (sI s4 12 0 27 ((gI s2 12 0 27) + x3)) fun s5 =>
  some ((), s5)

set_option maxHeartbeats 4000000 in
set_option maxRecDepth 100000 in
theorem c_X12_sees (Δ : fDl) (hN : fNm Δ) (a1 : Int32)  (st : fSt) : fMt eV Δ yX12_sees cX12_sees 2 none 3 [.ref (fad Δ 12 0 0), .int a1] st (f_X12_sees a1 st) := by
  unfold f_X12_sees
  refine r_method (by decide +kernel) (Nat.le_of_ble_eq_true rfl) (fun Γ C => ?_)
  have C : fC Δ Γ cX12_sees RX12 2 none 3 := C
  refine r_locs (lc' := [(0, .ref (fad Δ 12 0 0)), (1, .int a1)]) [0, 1] rfl ?_
  refine r_aload_n (q := 1) (i := 0) (z := 0) C dX12_sees_0 rfl rfl rfl ?_
  refine r_dup (q := 2) C dX12_sees_1 rfl rfl ?_
  refine g_X12_382 (q := 5) C (nm_12 hN) dX12_sees_2 rfl ?_
  refine r_iconst (q := 6) (v := 1) C dX12_sees_5 rfl (by decide) ?_
  refine r_iload_n (q := 7) (i := 1) (z := 1) C dX12_sees_6 rfl rfl rfl ?_
  refine r_ishl (q := 8) C dX12_sees_7 rfl ?_
  refine r_ior (q := 9) C dX12_sees_8 rfl ?_
  refine p_X12_382 (q := 12) C (nm_12 hN) dX12_sees_9 rfl (fun s1 => ?_)
  refine r_aload_n (q := 13) (i := 0) (z := 0) C dX12_sees_12 rfl rfl rfl ?_
  refine r_aload_n (q := 14) (i := 0) (z := 0) C dX12_sees_13 rfl rfl rfl ?_
  refine g_X12_35 (q := 17) C (nm_12 hN) dX12_sees_14 rfl ?_
  refine r_bipush (q := 19) (v := 49) C dX12_sees_17 rfl (by decide) ?_
  refine r_iload_n (q := 20) (i := 1) (z := 1) C dX12_sees_19 rfl rfl rfl ?_
  refine r_iadd (q := 21) C dX12_sees_20 rfl ?_
  refine r_ial (q := 22) q_12_5 h_12_5 C (nm_12 hN) dX12_sees_21 rfl ?_
  refine p_X12_385 (q := 25) C (nm_12 hN) dX12_sees_22 rfl (fun s2 => ?_)
  refine r_aload_n (q := 26) (i := 0) (z := 0) C dX12_sees_25 rfl rfl rfl ?_
  refine r_dup (q := 27) C dX12_sees_26 rfl rfl ?_
  refine g_X12_388 (q := 30) C (nm_12 hN) dX12_sees_27 rfl ?_
  refine r_aload_n (q := 31) (i := 0) (z := 0) C dX12_sees_30 rfl rfl rfl ?_
  refine r_iload_n (q := 32) (i := 1) (z := 1) C dX12_sees_31 rfl rfl rfl ?_
  refine r_callVI (q := 35) (As := [.int a1]) wm_X12_357 yvX12_breathsOf (c_X12_breathsOf Δ hN a1 s2) ⟨rfl, by decide⟩ C (nm_12 hN) (by decide) rfl (Nat.le_of_ble_eq_true rfl) dX12_sees_32 rfl (fun x3 s4 => ?_)
  refine r_iadd (q := 36) C dX12_sees_35 rfl ?_
  refine p_X12_388 (q := 39) C (nm_12 hN) dX12_sees_36 rfl (fun s5 => ?_)
  exact r_vret C dX12_sees_39

noncomputable def f_X12_drawnAct (a1 : Int32) (st : fSt) : Option (Int32 × fSt) :=
  fBd (f_X12_draw ((16 : Int32)) st) fun x1 s2 =>
  fLt x1 fun (x3 : Int32) =>
  fIx (((125 : Int32)) + a1) 2150 <|
  if (gA s2 12 0 5 (((125 : Int32)) + a1).toNatClampNeg) ≤ x3 then
    (fIx (((125 : Int32)) + a1) 2150 <|
    fIx (((129 : Int32)) + a1) 2150 <|
    if ((gA s2 12 0 5 (((125 : Int32)) + a1).toNatClampNeg) + (gA s2 12 0 5 (((129 : Int32)) + a1).toNatClampNeg)) ≤ x3 then
      (fIx (((125 : Int32)) + a1) 2150 <|
      fIx (((129 : Int32)) + a1) 2150 <|
      fIx (((133 : Int32)) + a1) 2150 <|
      fJn (fun (x4 : Int32) (s5 : fSt) =>
        (some (x4, s5))) fun (j6 : Int32 → fSt → Option (Int32 × fSt)) =>
      if (((gA s2 12 0 5 (((125 : Int32)) + a1).toNatClampNeg) + (gA s2 12 0 5 (((129 : Int32)) + a1).toNatClampNeg)) + (gA s2 12 0 5 (((133 : Int32)) + a1).toNatClampNeg)) ≤ x3 then
        (j6 ((0 : Int32)) s2)
      else
        (j6 ((3 : Int32)) s2))
    else
      (some ((2 : Int32), s2)))
  else
    (some ((1 : Int32), s2))

set_option maxHeartbeats 4000000 in
set_option maxRecDepth 100000 in
theorem c_X12_drawnAct (Δ : fDl) (hN : fNm Δ) (a1 : Int32)  (st : fSt) : fMt eI Δ yX12_drawnAct cX12_drawnAct 3 (some .int) 2 [.ref (fad Δ 12 0 0), .int a1] st (f_X12_drawnAct a1 st) := by
  unfold f_X12_drawnAct
  refine r_method (by decide +kernel) (Nat.le_of_ble_eq_true rfl) (fun Γ C => ?_)
  have C : fC Δ Γ cX12_drawnAct RX12 3 (some .int) 2 := C
  refine r_locs (lc' := [(0, .ref (fad Δ 12 0 0)), (1, .int a1)]) [0, 1] rfl ?_
  refine r_aload_n (q := 1) (i := 0) (z := 0) C dX12_drawnAct_0 rfl rfl rfl ?_
  refine r_bipush (q := 3) (v := 16) C dX12_drawnAct_1 rfl (by decide) ?_
  refine r_callVI (q := 6) (As := [.int ((16 : Int32))]) wm_X12_425 yvX12_draw (c_X12_draw Δ hN ((16 : Int32)) st) ⟨rfl, by decide⟩ C (nm_12 hN) (by decide) rfl (Nat.le_of_ble_eq_true rfl) dX12_drawnAct_3 rfl (fun x1 s2 => ?_)
  refine r_istore_n (q := 7) (i := 2) [(0, .ref (fad Δ 12 0 0)), (1, .int a1)] C dX12_drawnAct_6 rfl rfl (by decide) rfl (fun x3 => ?_)
  refine r_iload_n (q := 8) (i := 2) (z := 0) C dX12_drawnAct_7 rfl rfl rfl ?_
  refine r_aload_n (q := 9) (i := 0) (z := 1) C dX12_drawnAct_8 rfl rfl rfl ?_
  refine g_X12_35 (q := 12) C (nm_12 hN) dX12_drawnAct_9 rfl ?_
  refine r_bipush (q := 14) (v := 125) C dX12_drawnAct_12 rfl (by decide) ?_
  refine r_iload_n (q := 15) (i := 1) (z := 2) C dX12_drawnAct_14 rfl rfl rfl ?_
  refine r_iadd (q := 16) C dX12_drawnAct_15 rfl ?_
  refine r_ial (q := 17) q_12_5 h_12_5 C (nm_12 hN) dX12_drawnAct_16 rfl ?_
  refine r_icmp_ge (q := 20) (tgt := 22) C dX12_drawnAct_17 (by decide) rfl ?_ ?_
  · refine r_iload_n (q := 23) (i := 2) (z := 0) C dX12_drawnAct_22 rfl rfl rfl ?_
    refine r_aload_n (q := 24) (i := 0) (z := 1) C dX12_drawnAct_23 rfl rfl rfl ?_
    refine g_X12_35 (q := 27) C (nm_12 hN) dX12_drawnAct_24 rfl ?_
    refine r_bipush (q := 29) (v := 125) C dX12_drawnAct_27 rfl (by decide) ?_
    refine r_iload_n (q := 30) (i := 1) (z := 2) C dX12_drawnAct_29 rfl rfl rfl ?_
    refine r_iadd (q := 31) C dX12_drawnAct_30 rfl ?_
    refine r_ial (q := 32) q_12_5 h_12_5 C (nm_12 hN) dX12_drawnAct_31 rfl ?_
    refine r_aload_n (q := 33) (i := 0) (z := 1) C dX12_drawnAct_32 rfl rfl rfl ?_
    refine g_X12_35 (q := 36) C (nm_12 hN) dX12_drawnAct_33 rfl ?_
    refine r_sipush (q := 39) (v := 129) C dX12_drawnAct_36 rfl (by decide) ?_
    refine r_iload_n (q := 40) (i := 1) (z := 2) C dX12_drawnAct_39 rfl rfl rfl ?_
    refine r_iadd (q := 41) C dX12_drawnAct_40 rfl ?_
    refine r_ial (q := 42) q_12_5 h_12_5 C (nm_12 hN) dX12_drawnAct_41 rfl ?_
    refine r_iadd (q := 43) C dX12_drawnAct_42 rfl ?_
    refine r_icmp_ge (q := 46) (tgt := 48) C dX12_drawnAct_43 (by decide) rfl ?_ ?_
    · refine r_iload_n (q := 49) (i := 2) (z := 0) C dX12_drawnAct_48 rfl rfl rfl ?_
      refine r_aload_n (q := 50) (i := 0) (z := 1) C dX12_drawnAct_49 rfl rfl rfl ?_
      refine g_X12_35 (q := 53) C (nm_12 hN) dX12_drawnAct_50 rfl ?_
      refine r_bipush (q := 55) (v := 125) C dX12_drawnAct_53 rfl (by decide) ?_
      refine r_iload_n (q := 56) (i := 1) (z := 2) C dX12_drawnAct_55 rfl rfl rfl ?_
      refine r_iadd (q := 57) C dX12_drawnAct_56 rfl ?_
      refine r_ial (q := 58) q_12_5 h_12_5 C (nm_12 hN) dX12_drawnAct_57 rfl ?_
      refine r_aload_n (q := 59) (i := 0) (z := 1) C dX12_drawnAct_58 rfl rfl rfl ?_
      refine g_X12_35 (q := 62) C (nm_12 hN) dX12_drawnAct_59 rfl ?_
      refine r_sipush (q := 65) (v := 129) C dX12_drawnAct_62 rfl (by decide) ?_
      refine r_iload_n (q := 66) (i := 1) (z := 2) C dX12_drawnAct_65 rfl rfl rfl ?_
      refine r_iadd (q := 67) C dX12_drawnAct_66 rfl ?_
      refine r_ial (q := 68) q_12_5 h_12_5 C (nm_12 hN) dX12_drawnAct_67 rfl ?_
      refine r_iadd (q := 69) C dX12_drawnAct_68 rfl ?_
      refine r_aload_n (q := 70) (i := 0) (z := 1) C dX12_drawnAct_69 rfl rfl rfl ?_
      refine g_X12_35 (q := 73) C (nm_12 hN) dX12_drawnAct_70 rfl ?_
      refine r_sipush (q := 76) (v := 133) C dX12_drawnAct_73 rfl (by decide) ?_
      refine r_iload_n (q := 77) (i := 1) (z := 2) C dX12_drawnAct_76 rfl rfl rfl ?_
      refine r_iadd (q := 78) C dX12_drawnAct_77 rfl ?_
      refine r_ial (q := 79) q_12_5 h_12_5 C (nm_12 hN) dX12_drawnAct_78 rfl ?_
      refine r_iadd (q := 80) C dX12_drawnAct_79 rfl ?_
      refine r_join (fun j6 => ∀ (x4 : Int32) (s5 : fSt), fW Δ Γ 3 (fQ eI Δ Γ) 88 [] [.int x4] s5 (j6 x4 s5)) ?_ (fun j6 hj6 => ?_)
      · intro x4 s5
        exact r_iret C dX12_drawnAct_88
      refine r_icmp_ge (q := 83) (tgt := 87) C dX12_drawnAct_80 (by decide) rfl ?_ ?_
      · refine r_iconst (q := 88) (v := 0) C dX12_drawnAct_87 rfl (by decide) ?_
        refine r_locs (lc' := []) [] rfl ?_
        exact hj6 ((0 : Int32)) s2
      · refine r_iconst (q := 84) (v := 3) C dX12_drawnAct_83 rfl (by decide) ?_
        refine r_goto (q := 88) C dX12_drawnAct_84 (by decide) ?_
        refine r_locs (lc' := []) [] rfl ?_
        exact hj6 ((3 : Int32)) s2
    · refine r_iconst (q := 47) (v := 2) C dX12_drawnAct_46 rfl (by decide) ?_
      exact r_iret C dX12_drawnAct_47
  · refine r_iconst (q := 21) (v := 1) C dX12_drawnAct_20 rfl (by decide) ?_
    exact r_iret C dX12_drawnAct_21

noncomputable def f_X12_playFor_L15 (a1 : Int32) : Nat → Int32 → Int32 → fSt → Option (Unit × fSt)
  | 0, _, _, _ => none
  | n7 + 1, x4, x5, s6 =>
      if x4 < 0 then
        (fBd (f_X12_books a1 s6) fun _ s8 =>
        some ((), s8))
      else
        (fBd (f_X12_sees x4 s6) fun _ s9 =>
        fBd (f_X12_drawnAct a1 s9) fun x10 s11 =>
        fBd (f_X12_behind2 x4 x10 x5 s11) fun x12 s13 =>
        fLt x12 fun (x14 : Int32) =>
        fBd (f_X12_kills x4 x5 s13) fun x15 s16 =>
        fLt x15 fun (x17 : Int32) =>
        fLt x14 fun (x18 : Int32) =>
        f_X12_playFor_L15 a1 n7 x18 x17 s16)

noncomputable def f_X12_playFor (a1 : Int32) (st : fSt) : Option (Unit × fSt) :=
  fBd (f_X12_raises  st) fun _ s1 =>
  fIx ((2 : Int32)) 2150 <|
  fLt ((gA s1 12 0 5 ((2 : Int32)).toNatClampNeg) - ((1 : Int32))) fun (x2 : Int32) =>
  fLt ((0 : Int32)) fun (x3 : Int32) =>
  f_X12_playFor_L15 a1 fF x2 x3 s1

set_option maxHeartbeats 4000000 in
set_option maxRecDepth 100000 in
theorem c_X12_playFor (Δ : fDl) (hN : fNm Δ) (a1 : Int32)  (st : fSt) : fMt eV Δ yX12_playFor cX12_playFor 5 none 4 [.ref (fad Δ 12 0 0), .int a1] st (f_X12_playFor a1 st) := by
  unfold f_X12_playFor
  refine r_method (by decide +kernel) (Nat.le_of_ble_eq_true rfl) (fun Γ C => ?_)
  have C : fC Δ Γ cX12_playFor RX12 5 none 4 := C
  refine r_locs (lc' := [(0, .ref (fad Δ 12 0 0)), (1, .int a1)]) [0, 1] rfl ?_
  refine r_aload_n (q := 1) (i := 0) (z := 0) C dX12_playFor_0 rfl rfl rfl ?_
  refine r_callVV (q := 4) (As := []) wm_X12_406 yvX12_raises (c_X12_raises Δ hN st) ⟨rfl, by decide⟩ C (nm_12 hN) (by decide) rfl (Nat.le_of_ble_eq_true rfl) dX12_playFor_1 rfl (fun _ s1 => ?_)
  refine r_aload_n (q := 5) (i := 0) (z := 0) C dX12_playFor_4 rfl rfl rfl ?_
  refine g_X12_35 (q := 8) C (nm_12 hN) dX12_playFor_5 rfl ?_
  refine r_iconst (q := 9) (v := 2) C dX12_playFor_8 rfl (by decide) ?_
  refine r_ial (q := 10) q_12_5 h_12_5 C (nm_12 hN) dX12_playFor_9 rfl ?_
  refine r_iconst (q := 11) (v := 1) C dX12_playFor_10 rfl (by decide) ?_
  refine r_isub (q := 12) C dX12_playFor_11 rfl ?_
  refine r_istore_n (q := 13) (i := 2) [(0, .ref (fad Δ 12 0 0)), (1, .int a1)] C dX12_playFor_12 rfl rfl (by decide) rfl (fun x2 => ?_)
  refine r_iconst (q := 14) (v := 0) C dX12_playFor_13 rfl (by decide) ?_
  refine r_istore_n (q := 15) (i := 3) [(2, .int x2), (0, .ref (fad Δ 12 0 0)), (1, .int a1)] C dX12_playFor_14 rfl rfl (by decide) rfl (fun x3 => ?_)
  refine r_locs (lc' := [(0, .ref (fad Δ 12 0 0)), (1, .int a1), (2, .int x2), (3, .int x3)]) [2, 3, 1, 0] rfl ?_
  have L15 : ∀ (n7 : Nat) (x4 : Int32) (x5 : Int32) (s6 : fSt), fW Δ Γ 5 (fQ eV Δ Γ) 15 [(0, .ref (fad Δ 12 0 0)), (1, .int a1), (2, .int x4), (3, .int x5)] [] s6 (f_X12_playFor_L15 a1 n7 x4 x5 s6) := by
    intro n7
    induction n7 with
    | zero =>
      intro x4 x5 s6
      rw [f_X12_playFor_L15]
      exact r_none
    | succ n7 ih_n7 =>
      intro x4 x5 s6
      rw [f_X12_playFor_L15]
      refine r_iload_n (q := 16) (i := 2) (z := 2) C dX12_playFor_15 rfl rfl rfl ?_
      refine r_if_lt (q := 19) (tgt := 50) C dX12_playFor_16 (by decide) rfl ?_ ?_
      · refine r_aload_n (q := 51) (i := 0) (z := 0) C dX12_playFor_50 rfl rfl rfl ?_
        refine r_iload_n (q := 52) (i := 1) (z := 1) C dX12_playFor_51 rfl rfl rfl ?_
        refine r_callVV (q := 55) (As := [.int a1]) wm_X12_415 yvX12_books (c_X12_books Δ hN a1 s6) ⟨rfl, by decide⟩ C (nm_12 hN) (by decide) rfl (Nat.le_of_ble_eq_true rfl) dX12_playFor_52 rfl (fun _ s8 => ?_)
        exact r_vret C dX12_playFor_55
      · refine r_aload_n (q := 20) (i := 0) (z := 0) C dX12_playFor_19 rfl rfl rfl ?_
        refine r_iload_n (q := 21) (i := 2) (z := 2) C dX12_playFor_20 rfl rfl rfl ?_
        refine r_callVV (q := 24) (As := [.int x4]) wm_X12_409 yvX12_sees (c_X12_sees Δ hN x4 s6) ⟨rfl, by decide⟩ C (nm_12 hN) (by decide) rfl (Nat.le_of_ble_eq_true rfl) dX12_playFor_21 rfl (fun _ s9 => ?_)
        refine r_aload_n (q := 25) (i := 0) (z := 0) C dX12_playFor_24 rfl rfl rfl ?_
        refine r_iload_n (q := 26) (i := 2) (z := 2) C dX12_playFor_25 rfl rfl rfl ?_
        refine r_aload_n (q := 27) (i := 0) (z := 0) C dX12_playFor_26 rfl rfl rfl ?_
        refine r_iload_n (q := 28) (i := 1) (z := 1) C dX12_playFor_27 rfl rfl rfl ?_
        refine r_callVI (q := 31) (As := [.int a1]) wm_X12_428 yvX12_drawnAct (c_X12_drawnAct Δ hN a1 s9) ⟨rfl, by decide⟩ C (nm_12 hN) (by decide) rfl (Nat.le_of_ble_eq_true rfl) dX12_playFor_28 rfl (fun x10 s11 => ?_)
        refine r_iload_n (q := 32) (i := 3) (z := 3) C dX12_playFor_31 rfl rfl rfl ?_
        refine r_callVI (q := 35) (As := [.int x4, .int x10, .int x5]) wm_X12_412 yvX12_behind2 (c_X12_behind2 Δ hN x4 x10 x5 s11) ⟨rfl, by decide⟩ C (nm_12 hN) (by decide) rfl (Nat.le_of_ble_eq_true rfl) dX12_playFor_32 rfl (fun x12 s13 => ?_)
        refine r_istore (q := 37) (i := 4) [(0, .ref (fad Δ 12 0 0)), (1, .int a1), (2, .int x4), (3, .int x5)] C dX12_playFor_35 rfl (by decide) rfl (fun x14 => ?_)
        refine r_aload_n (q := 38) (i := 0) (z := 1) C dX12_playFor_37 rfl rfl rfl ?_
        refine r_iload_n (q := 39) (i := 2) (z := 3) C dX12_playFor_38 rfl rfl rfl ?_
        refine r_iload_n (q := 40) (i := 3) (z := 4) C dX12_playFor_39 rfl rfl rfl ?_
        refine r_callVI (q := 43) (As := [.int x4, .int x5]) wm_X12_379 yvX12_kills (c_X12_kills Δ hN x4 x5 s13) ⟨rfl, by decide⟩ C (nm_12 hN) (by decide) rfl (Nat.le_of_ble_eq_true rfl) dX12_playFor_40 rfl (fun x15 s16 => ?_)
        refine r_istore_n (q := 44) (i := 3) [(4, .int x14), (0, .ref (fad Δ 12 0 0)), (1, .int a1), (2, .int x4)] C dX12_playFor_43 rfl rfl (by decide) rfl (fun x17 => ?_)
        refine r_iload (q := 46) (i := 4) (z := 1) C dX12_playFor_44 rfl rfl ?_
        refine r_istore_n (q := 47) (i := 2) [(3, .int x17), (4, .int x14), (0, .ref (fad Δ 12 0 0)), (1, .int a1)] C dX12_playFor_46 rfl rfl (by decide) rfl (fun x18 => ?_)
        refine r_goto (q := 15) C dX12_playFor_47 (by decide) ?_
        refine r_locs (lc' := [(0, .ref (fad Δ 12 0 0)), (1, .int a1), (2, .int x18), (3, .int x17)]) [3, 4, 0, 1] rfl ?_
        exact ih_n7 x18 x17 s16
  exact L15 fF x2 x3 s1
