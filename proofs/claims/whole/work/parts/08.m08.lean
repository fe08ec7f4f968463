noncomputable def f_X12_readRole  (st : fSt) : Option (Unit × fSt) :=
  fIx ((1720 : Int32)) 2150 <|
  fJn (fun (s1 : fSt) =>
    (if (gI s1 12 0 12) ≤ 0 then
      (fIx ((1720 : Int32)) 2150 <|
      fBd (f_X12_readNew ((0 : Int32)) (gA s1 12 0 5 ((1720 : Int32)).toNatClampNeg) s1) fun _ s3 =>
      fJn (fun (s4 : fSt) =>
        (some ((), s4))) fun (j5 : fSt → Option (Unit × fSt)) =>
      if ¬ (gI s3 12 0 12) = 0 then
        (j5 s3)
      else
        (fIx ((1720 : Int32)) 2150 <|
        fIx ((1720 : Int32)) 2150 <|
        fLt (sA s3 12 0 5 (upd (gA s3 12 0 5) ((1720 : Int32)).toNatClampNeg ((gA s3 12 0 5 ((1720 : Int32)).toNatClampNeg) + ((1 : Int32))))) fun s6 =>
        j5 s6))
    else
      (some ((), s1)))) fun (j2 : fSt → Option (Unit × fSt)) =>
  if ¬ (gA st 12 0 5 ((1720 : Int32)).toNatClampNeg) = ((6 : Int32)) then
    (j2 st)
  else
    (fBd (f_X12_fail ((6 : Int32)) (gI st 12 0 15) st) fun _ s7 =>
    j2 s7)

set_option maxHeartbeats 4000000 in
set_option maxRecDepth 100000 in
theorem c_X12_readRole (Δ : fDl) (hN : fNm Δ)   (st : fSt) : fMt eV Δ yX12_readRole cX12_readRole 1 none 6 [.ref (fad Δ 12 0 0)] st (f_X12_readRole  st) := by
  unfold f_X12_readRole
  refine r_method (by decide +kernel) (Nat.le_of_ble_eq_true rfl) (fun Γ C => ?_)
  have C : fC Δ Γ cX12_readRole RX12 1 none 6 := C
  refine r_locs (lc' := [(0, .ref (fad Δ 12 0 0))]) [0] rfl ?_
  refine r_aload_n (q := 1) (i := 0) (z := 0) C dX12_readRole_0 rfl rfl rfl ?_
  refine g_X12_35 (q := 4) C (nm_12 hN) dX12_readRole_1 rfl ?_
  refine r_sipush (q := 7) (v := 1720) C dX12_readRole_4 rfl (by decide) ?_
  refine r_ial (q := 8) q_12_5 h_12_5 C (nm_12 hN) dX12_readRole_7 rfl ?_
  refine r_bipush (q := 10) (v := 6) C dX12_readRole_8 rfl (by decide) ?_
  refine r_join (fun j2 => ∀  (s1 : fSt), fW Δ Γ 1 (fQ eV Δ Γ) 23 [(0, .ref (fad Δ 12 0 0))] [] s1 (j2 s1)) ?_ (fun j2 hj2 => ?_)
  · intro s1
    refine r_aload_n (q := 24) (i := 0) (z := 0) C dX12_readRole_23 rfl rfl rfl ?_
    refine g_X12_249 (q := 27) C (nm_12 hN) dX12_readRole_24 rfl ?_
    refine r_if_le (q := 30) (tgt := 31) C dX12_readRole_27 (by decide) rfl ?_ ?_
    · refine r_aload_n (q := 32) (i := 0) (z := 0) C dX12_readRole_31 rfl rfl rfl ?_
      refine r_iconst (q := 33) (v := 0) C dX12_readRole_32 rfl (by decide) ?_
      refine r_aload_n (q := 34) (i := 0) (z := 0) C dX12_readRole_33 rfl rfl rfl ?_
      refine g_X12_35 (q := 37) C (nm_12 hN) dX12_readRole_34 rfl ?_
      refine r_sipush (q := 40) (v := 1720) C dX12_readRole_37 rfl (by decide) ?_
      refine r_ial (q := 41) q_12_5 h_12_5 C (nm_12 hN) dX12_readRole_40 rfl ?_
      refine r_callVV (q := 44) (As := [.int ((0 : Int32)), .int (gA s1 12 0 5 ((1720 : Int32)).toNatClampNeg)]) wm_X12_289 yvX12_readNew (c_X12_readNew Δ hN ((0 : Int32)) (gA s1 12 0 5 ((1720 : Int32)).toNatClampNeg) s1) ⟨rfl, by decide⟩ C (nm_12 hN) (by decide) rfl (Nat.le_of_ble_eq_true rfl) dX12_readRole_41 rfl (fun _ s3 => ?_)
      refine r_aload_n (q := 45) (i := 0) (z := 0) C dX12_readRole_44 rfl rfl rfl ?_
      refine g_X12_249 (q := 48) C (nm_12 hN) dX12_readRole_45 rfl ?_
      refine r_join (fun j5 => ∀  (s4 : fSt), fW Δ Γ 1 (fQ eV Δ Γ) 63 [] [] s4 (j5 s4)) ?_ (fun j5 hj5 => ?_)
      · intro s4
        exact r_vret C dX12_readRole_63
      refine r_if_ne (q := 51) (tgt := 63) C dX12_readRole_48 (by decide) rfl ?_ ?_
      · refine r_locs (lc' := []) [] rfl ?_
        exact hj5 s3
      · refine r_aload_n (q := 52) (i := 0) (z := 0) C dX12_readRole_51 rfl rfl rfl ?_
        refine g_X12_35 (q := 55) C (nm_12 hN) dX12_readRole_52 rfl ?_
        refine r_sipush (q := 58) (v := 1720) C dX12_readRole_55 rfl (by decide) ?_
        refine r_dup2 (q := 59) C dX12_readRole_58 rfl rfl rfl ?_
        refine r_ial (q := 60) q_12_5 h_12_5 C (nm_12 hN) dX12_readRole_59 rfl ?_
        refine r_iconst (q := 61) (v := 1) C dX12_readRole_60 rfl (by decide) ?_
        refine r_iadd (q := 62) C dX12_readRole_61 rfl ?_
        refine r_ast (q := 63) q_12_5 h_12_5 C (nm_12 hN) dX12_readRole_62 rfl (fun s6 => ?_)
        refine r_locs (lc' := []) [] rfl ?_
        exact hj5 s6
    · exact r_vret C dX12_readRole_30
  refine r_icmp_ne (q := 13) (tgt := 23) C dX12_readRole_10 (by decide) rfl ?_ ?_
  · exact hj2 st
  · refine r_aload_n (q := 14) (i := 0) (z := 0) C dX12_readRole_13 rfl rfl rfl ?_
    refine r_bipush (q := 16) (v := 6) C dX12_readRole_14 rfl (by decide) ?_
    refine r_aload_n (q := 17) (i := 0) (z := 0) C dX12_readRole_16 rfl rfl rfl ?_
    refine g_X12_139 (q := 20) C (nm_12 hN) dX12_readRole_17 rfl ?_
    refine r_callVV (q := 23) (As := [.int ((6 : Int32)), .int (gI st 12 0 15)]) wm_X12_255 yvX12_fail (c_X12_fail Δ hN ((6 : Int32)) (gI st 12 0 15) st) ⟨rfl, by decide⟩ C (nm_12 hN) (by decide) rfl (Nat.le_of_ble_eq_true rfl) dX12_readRole_20 rfl (fun _ s7 => ?_)
    exact hj2 s7

noncomputable def f_X12_readWay (a1 : Int32) (st : fSt) : Option (Int32 × fSt) :=
  fJn (fun (s1 : fSt) =>
    (some ((-1 : Int32), s1))) fun (j2 : fSt → Option (Int32 × fSt)) =>
  if 0 < (gI st 12 0 12) then
    (j2 st)
  else
    (if ¬ a1 = 0 then
      (fBd (f_X12_next  st) fun _ s3 =>
      fIx ((1722 : Int32)) 2150 <|
      fBd (f_X12_readTold ((4 : Int32)) ((12 : Int32)) (gA s3 12 0 5 ((1722 : Int32)).toNatClampNeg) s3) fun x4 s5 =>
      some (x4, s5))
    else
      (j2 st))

set_option maxHeartbeats 4000000 in
set_option maxRecDepth 100000 in
theorem c_X12_readWay (Δ : fDl) (hN : fNm Δ) (a1 : Int32)  (st : fSt) : fMt eI Δ yX12_readWay cX12_readWay 2 (some .int) 6 [.ref (fad Δ 12 0 0), .int a1] st (f_X12_readWay a1 st) := by
  unfold f_X12_readWay
  refine r_method (by decide +kernel) (Nat.le_of_ble_eq_true rfl) (fun Γ C => ?_)
  have C : fC Δ Γ cX12_readWay RX12 2 (some .int) 6 := C
  refine r_locs (lc' := [(0, .ref (fad Δ 12 0 0)), (1, .int a1)]) [0, 1] rfl ?_
  refine r_aload_n (q := 1) (i := 0) (z := 0) C dX12_readWay_0 rfl rfl rfl ?_
  refine g_X12_249 (q := 4) C (nm_12 hN) dX12_readWay_1 rfl ?_
  refine r_join (fun j2 => ∀  (s1 : fSt), fW Δ Γ 2 (fQ eI Δ Γ) 11 [] [] s1 (j2 s1)) ?_ (fun j2 hj2 => ?_)
  · intro s1
    refine r_iconst (q := 12) (v := (-1)) C dX12_readWay_11 rfl (by decide) ?_
    exact r_iret C dX12_readWay_12
  refine r_if_gt (q := 7) (tgt := 11) C dX12_readWay_4 (by decide) rfl ?_ ?_
  · refine r_locs (lc' := []) [] rfl ?_
    exact hj2 st
  · refine r_iload_n (q := 8) (i := 1) (z := 1) C dX12_readWay_7 rfl rfl rfl ?_
    refine r_if_ne (q := 11) (tgt := 13) C dX12_readWay_8 (by decide) rfl ?_ ?_
    · refine r_aload_n (q := 14) (i := 0) (z := 0) C dX12_readWay_13 rfl rfl rfl ?_
      refine r_callVV (q := 17) (As := []) wm_X12_259 yvX12_next (c_X12_next Δ hN st) ⟨rfl, by decide⟩ C (nm_12 hN) (by decide) rfl (Nat.le_of_ble_eq_true rfl) dX12_readWay_14 rfl (fun _ s3 => ?_)
      refine r_aload_n (q := 18) (i := 0) (z := 0) C dX12_readWay_17 rfl rfl rfl ?_
      refine r_iconst (q := 19) (v := 4) C dX12_readWay_18 rfl (by decide) ?_
      refine r_bipush (q := 21) (v := 12) C dX12_readWay_19 rfl (by decide) ?_
      refine r_aload_n (q := 22) (i := 0) (z := 0) C dX12_readWay_21 rfl rfl rfl ?_
      refine g_X12_35 (q := 25) C (nm_12 hN) dX12_readWay_22 rfl ?_
      refine r_sipush (q := 28) (v := 1722) C dX12_readWay_25 rfl (by decide) ?_
      refine r_ial (q := 29) q_12_5 h_12_5 C (nm_12 hN) dX12_readWay_28 rfl ?_
      refine r_callVI (q := 32) (As := [.int ((4 : Int32)), .int ((12 : Int32)), .int (gA s3 12 0 5 ((1722 : Int32)).toNatClampNeg)]) wm_X12_286 yvX12_readTold (c_X12_readTold Δ hN ((4 : Int32)) ((12 : Int32)) (gA s3 12 0 5 ((1722 : Int32)).toNatClampNeg) s3) ⟨rfl, by decide⟩ C (nm_12 hN) (by decide) rfl (Nat.le_of_ble_eq_true rfl) dX12_readWay_29 rfl (fun x4 s5 => ?_)
      exact r_iret C dX12_readWay_32
    · refine r_locs (lc' := []) [] rfl ?_
      exact hj2 st

noncomputable def f_X12_readScene  (st : fSt) : Option (Unit × fSt) :=
  fIx ((1722 : Int32)) 2150 <|
  fLt (gA st 12 0 5 ((1722 : Int32)).toNatClampNeg) fun (x1 : Int32) =>
  fJn (fun (s2 : fSt) =>
    (if (gI s2 12 0 12) ≤ 0 then
      (fBd (f_X12_readNew ((12 : Int32)) x1 s2) fun _ s4 =>
      fBd (f_X12_isLines  s4) fun x5 s6 =>
      fBd (f_X12_must x5 s6) fun _ s7 =>
      fBd (f_X12_count ((1 : Int32)) ((20 : Int32)) s7) fun x8 s9 =>
      fIx (((1745 : Int32)) + x1) 2150 <|
      fLt (sA s9 12 0 5 (upd (gA s9 12 0 5) (((1745 : Int32)) + x1).toNatClampNeg x8)) fun s10 =>
      fJn (fun (x11 : Int32) (s12 : fSt) =>
        (fIx (((1757 : Int32)) + x1) 2150 <|
        fLt (sA s12 12 0 5 (upd (gA s12 12 0 5) (((1757 : Int32)) + x1).toNatClampNeg x11)) fun s14 =>
        fIx (((1769 : Int32)) + x1) 2150 <|
        fLt (sA s14 12 0 5 (upd (gA s14 12 0 5) (((1769 : Int32)) + x1).toNatClampNeg ((-1 : Int32)))) fun s15 =>
        fJn (fun (s16 : fSt) =>
          (fBd (f_X12_isThen  s16) fun x18 s19 =>
          fBd (f_X12_readWay x18 s19) fun x20 s21 =>
          fIx (((1781 : Int32)) + x1) 2150 <|
          fLt (sA s21 12 0 5 (upd (gA s21 12 0 5) (((1781 : Int32)) + x1).toNatClampNeg x20)) fun s22 =>
          fBd (f_X12_isTear  s22) fun x23 s24 =>
          fBd (f_X12_readWay x23 s24) fun x25 s26 =>
          fIx (((1793 : Int32)) + x1) 2150 <|
          fLt (sA s26 12 0 5 (upd (gA s26 12 0 5) (((1793 : Int32)) + x1).toNatClampNeg x25)) fun s27 =>
          fBd (f_X12_isLaugh  s27) fun x28 s29 =>
          fBd (f_X12_readWay x28 s29) fun x30 s31 =>
          fIx (((1805 : Int32)) + x1) 2150 <|
          fLt (sA s31 12 0 5 (upd (gA s31 12 0 5) (((1805 : Int32)) + x1).toNatClampNeg x30)) fun s32 =>
          fBd (f_X12_isSleep  s32) fun x33 s34 =>
          fBd (f_X12_readWay x33 s34) fun x35 s36 =>
          fIx (((1817 : Int32)) + x1) 2150 <|
          fLt (sA s36 12 0 5 (upd (gA s36 12 0 5) (((1817 : Int32)) + x1).toNatClampNeg x35)) fun s37 =>
          fIx (((1829 : Int32)) + x1) 2150 <|
          fLt (sA s37 12 0 5 (upd (gA s37 12 0 5) (((1829 : Int32)) + x1).toNatClampNeg ((-1 : Int32)))) fun s38 =>
          fJn (fun (s39 : fSt) =>
            (fJn (fun (s41 : fSt) =>
              (some ((), s41))) fun (j42 : fSt → Option (Unit × fSt)) =>
            if ¬ (gI s39 12 0 12) = 0 then
              (j42 s39)
            else
              (fIx ((1722 : Int32)) 2150 <|
              fIx ((1722 : Int32)) 2150 <|
              fLt (sA s39 12 0 5 (upd (gA s39 12 0 5) ((1722 : Int32)).toNatClampNeg ((gA s39 12 0 5 ((1722 : Int32)).toNatClampNeg) + ((1 : Int32))))) fun s43 =>
              j42 s43))) fun (j40 : fSt → Option (Unit × fSt)) =>
          if ¬ (gI s38 12 0 12) = 0 then
            (j40 s38)
          else
            (fBd (f_X12_isKills  s38) fun x44 s45 =>
            if x44 = 0 then
              (j40 s45)
            else
              (fBd (f_X12_next  s45) fun _ s46 =>
              fIx ((1720 : Int32)) 2150 <|
              fBd (f_X12_readTold ((4 : Int32)) ((0 : Int32)) (gA s46 12 0 5 ((1720 : Int32)).toNatClampNeg) s46) fun x47 s48 =>
              fIx (((1829 : Int32)) + x1) 2150 <|
              fLt (sA s48 12 0 5 (upd (gA s48 12 0 5) (((1829 : Int32)) + x1).toNatClampNeg x47)) fun s49 =>
              j40 s49)))) fun (j17 : fSt → Option (Unit × fSt)) =>
        if ¬ (gI s15 12 0 12) = 0 then
          (j17 s15)
        else
          (fBd (f_X12_isEnds  s15) fun x50 s51 =>
          if x50 = 0 then
            (j17 s51)
          else
            (fBd (f_X12_next  s51) fun _ s52 =>
            fBd (f_X12_count ((0 : Int32)) ((8 : Int32)) s52) fun x53 s54 =>
            fIx (((1769 : Int32)) + x1) 2150 <|
            fLt (sA s54 12 0 5 (upd (gA s54 12 0 5) (((1769 : Int32)) + x1).toNatClampNeg x53)) fun s55 =>
            j17 s55)))) fun (j13 : Int32 → fSt → Option (Unit × fSt)) =>
      fJn (fun (s56 : fSt) =>
        (j13 ((0 : Int32)) s56)) fun (j57 : fSt → Option (Unit × fSt)) =>
      if ¬ (gI s10 12 0 12) = 0 then
        (j57 s10)
      else
        (fBd (f_X12_isWith  s10) fun x58 s59 =>
        if x58 = 0 then
          (j57 s59)
        else
          (fBd (f_X12_readRoles  s59) fun x60 s61 =>
          j13 x60 s61)))
    else
      (some ((), s2)))) fun (j3 : fSt → Option (Unit × fSt)) =>
  if ¬ x1 = ((12 : Int32)) then
    (j3 st)
  else
    (fBd (f_X12_fail ((6 : Int32)) (gI st 12 0 15) st) fun _ s62 =>
    j3 s62)

set_option maxHeartbeats 4000000 in
set_option maxRecDepth 100000 in
theorem c_X12_readScene (Δ : fDl) (hN : fNm Δ)   (st : fSt) : fMt eV Δ yX12_readScene cX12_readScene 2 none 7 [.ref (fad Δ 12 0 0)] st (f_X12_readScene  st) := by
  unfold f_X12_readScene
  refine r_method (by decide +kernel) (Nat.le_of_ble_eq_true rfl) (fun Γ C => ?_)
  have C : fC Δ Γ cX12_readScene RX12 2 none 7 := C
  refine r_locs (lc' := [(0, .ref (fad Δ 12 0 0))]) [0] rfl ?_
  refine r_aload_n (q := 1) (i := 0) (z := 0) C dX12_readScene_0 rfl rfl rfl ?_
  refine g_X12_35 (q := 4) C (nm_12 hN) dX12_readScene_1 rfl ?_
  refine r_sipush (q := 7) (v := 1722) C dX12_readScene_4 rfl (by decide) ?_
  refine r_ial (q := 8) q_12_5 h_12_5 C (nm_12 hN) dX12_readScene_7 rfl ?_
  refine r_istore_n (q := 9) (i := 1) [(0, .ref (fad Δ 12 0 0))] C dX12_readScene_8 rfl rfl (by decide) rfl (fun x1 => ?_)
  refine r_iload_n (q := 10) (i := 1) (z := 0) C dX12_readScene_9 rfl rfl rfl ?_
  refine r_bipush (q := 12) (v := 12) C dX12_readScene_10 rfl (by decide) ?_
  refine r_join (fun j3 => ∀  (s2 : fSt), fW Δ Γ 2 (fQ eV Δ Γ) 25 [(0, .ref (fad Δ 12 0 0)), (1, .int x1)] [] s2 (j3 s2)) ?_ (fun j3 hj3 => ?_)
  · intro s2
    refine r_aload_n (q := 26) (i := 0) (z := 0) C dX12_readScene_25 rfl rfl rfl ?_
    refine g_X12_249 (q := 29) C (nm_12 hN) dX12_readScene_26 rfl ?_
    refine r_if_le (q := 32) (tgt := 33) C dX12_readScene_29 (by decide) rfl ?_ ?_
    · refine r_aload_n (q := 34) (i := 0) (z := 0) C dX12_readScene_33 rfl rfl rfl ?_
      refine r_bipush (q := 36) (v := 12) C dX12_readScene_34 rfl (by decide) ?_
      refine r_iload_n (q := 37) (i := 1) (z := 1) C dX12_readScene_36 rfl rfl rfl ?_
      refine r_callVV (q := 40) (As := [.int ((12 : Int32)), .int x1]) wm_X12_289 yvX12_readNew (c_X12_readNew Δ hN ((12 : Int32)) x1 s2) ⟨rfl, by decide⟩ C (nm_12 hN) (by decide) rfl (Nat.le_of_ble_eq_true rfl) dX12_readScene_37 rfl (fun _ s4 => ?_)
      refine r_aload_n (q := 41) (i := 0) (z := 0) C dX12_readScene_40 rfl rfl rfl ?_
      refine r_aload_n (q := 42) (i := 0) (z := 0) C dX12_readScene_41 rfl rfl rfl ?_
      refine r_callVI (q := 45) (As := []) wm_X12_197 yvX12_isLines (c_X12_isLines Δ hN s4) ⟨rfl, by decide⟩ C (nm_12 hN) (by decide) rfl (Nat.le_of_ble_eq_true rfl) dX12_readScene_42 rfl (fun x5 s6 => ?_)
      refine r_callVV (q := 48) (As := [.int x5]) wm_X12_282 yvX12_must (c_X12_must Δ hN x5 s6) ⟨rfl, by decide⟩ C (nm_12 hN) (by decide) rfl (Nat.le_of_ble_eq_true rfl) dX12_readScene_45 rfl (fun _ s7 => ?_)
      refine r_aload_n (q := 49) (i := 0) (z := 0) C dX12_readScene_48 rfl rfl rfl ?_
      refine g_X12_35 (q := 52) C (nm_12 hN) dX12_readScene_49 rfl ?_
      refine r_sipush (q := 55) (v := 1745) C dX12_readScene_52 rfl (by decide) ?_
      refine r_iload_n (q := 56) (i := 1) (z := 1) C dX12_readScene_55 rfl rfl rfl ?_
      refine r_iadd (q := 57) C dX12_readScene_56 rfl ?_
      refine r_aload_n (q := 58) (i := 0) (z := 0) C dX12_readScene_57 rfl rfl rfl ?_
      refine r_iconst (q := 59) (v := 1) C dX12_readScene_58 rfl (by decide) ?_
      refine r_bipush (q := 61) (v := 20) C dX12_readScene_59 rfl (by decide) ?_
      refine r_callVI (q := 64) (As := [.int ((1 : Int32)), .int ((20 : Int32))]) wm_X12_292 yvX12_count (c_X12_count Δ hN ((1 : Int32)) ((20 : Int32)) s7) ⟨rfl, by decide⟩ C (nm_12 hN) (by decide) rfl (Nat.le_of_ble_eq_true rfl) dX12_readScene_61 rfl (fun x8 s9 => ?_)
      refine r_ast (q := 65) q_12_5 h_12_5 C (nm_12 hN) dX12_readScene_64 rfl (fun s10 => ?_)
      refine r_aload_n (q := 66) (i := 0) (z := 0) C dX12_readScene_65 rfl rfl rfl ?_
      refine g_X12_35 (q := 69) C (nm_12 hN) dX12_readScene_66 rfl ?_
      refine r_sipush (q := 72) (v := 1757) C dX12_readScene_69 rfl (by decide) ?_
      refine r_iload_n (q := 73) (i := 1) (z := 1) C dX12_readScene_72 rfl rfl rfl ?_
      refine r_iadd (q := 74) C dX12_readScene_73 rfl ?_
      refine r_aload_n (q := 75) (i := 0) (z := 0) C dX12_readScene_74 rfl rfl rfl ?_
      refine g_X12_249 (q := 78) C (nm_12 hN) dX12_readScene_75 rfl ?_
      refine r_join (fun j13 => ∀ (x11 : Int32) (s12 : fSt), fW Δ Γ 2 (fQ eV Δ Γ) 96 [(0, .ref (fad Δ 12 0 0)), (1, .int x1)] [.int x11, .int (((1757 : Int32)) + x1), .ref (fad Δ 12 0 5)] s12 (j13 x11 s12)) ?_ (fun j13 hj13 => ?_)
      · intro x11 s12
        refine r_ast (q := 97) q_12_5 h_12_5 C (nm_12 hN) dX12_readScene_96 rfl (fun s14 => ?_)
        refine r_aload_n (q := 98) (i := 0) (z := 0) C dX12_readScene_97 rfl rfl rfl ?_
        refine g_X12_35 (q := 101) C (nm_12 hN) dX12_readScene_98 rfl ?_
        refine r_sipush (q := 104) (v := 1769) C dX12_readScene_101 rfl (by decide) ?_
        refine r_iload_n (q := 105) (i := 1) (z := 1) C dX12_readScene_104 rfl rfl rfl ?_
        refine r_iadd (q := 106) C dX12_readScene_105 rfl ?_
        refine r_iconst (q := 107) (v := (-1)) C dX12_readScene_106 rfl (by decide) ?_
        refine r_ast (q := 108) q_12_5 h_12_5 C (nm_12 hN) dX12_readScene_107 rfl (fun s15 => ?_)
        refine r_aload_n (q := 109) (i := 0) (z := 0) C dX12_readScene_108 rfl rfl rfl ?_
        refine g_X12_249 (q := 112) C (nm_12 hN) dX12_readScene_109 rfl ?_
        refine r_join (fun j17 => ∀  (s16 : fSt), fW Δ Γ 2 (fQ eV Δ Γ) 143 [(0, .ref (fad Δ 12 0 0)), (1, .int x1)] [] s16 (j17 s16)) ?_ (fun j17 hj17 => ?_)
        · intro s16
          refine r_aload_n (q := 144) (i := 0) (z := 0) C dX12_readScene_143 rfl rfl rfl ?_
          refine g_X12_35 (q := 147) C (nm_12 hN) dX12_readScene_144 rfl ?_
          refine r_sipush (q := 150) (v := 1781) C dX12_readScene_147 rfl (by decide) ?_
          refine r_iload_n (q := 151) (i := 1) (z := 1) C dX12_readScene_150 rfl rfl rfl ?_
          refine r_iadd (q := 152) C dX12_readScene_151 rfl ?_
          refine r_aload_n (q := 153) (i := 0) (z := 0) C dX12_readScene_152 rfl rfl rfl ?_
          refine r_aload_n (q := 154) (i := 0) (z := 0) C dX12_readScene_153 rfl rfl rfl ?_
          refine r_callVI (q := 157) (As := []) wm_X12_206 yvX12_isThen (c_X12_isThen Δ hN s16) ⟨rfl, by decide⟩ C (nm_12 hN) (by decide) rfl (Nat.le_of_ble_eq_true rfl) dX12_readScene_154 rfl (fun x18 s19 => ?_)
          refine r_callVI (q := 160) (As := [.int x18]) wm_X12_298 yvX12_readWay (c_X12_readWay Δ hN x18 s19) ⟨rfl, by decide⟩ C (nm_12 hN) (by decide) rfl (Nat.le_of_ble_eq_true rfl) dX12_readScene_157 rfl (fun x20 s21 => ?_)
          refine r_ast (q := 161) q_12_5 h_12_5 C (nm_12 hN) dX12_readScene_160 rfl (fun s22 => ?_)
          refine r_aload_n (q := 162) (i := 0) (z := 0) C dX12_readScene_161 rfl rfl rfl ?_
          refine g_X12_35 (q := 165) C (nm_12 hN) dX12_readScene_162 rfl ?_
          refine r_sipush (q := 168) (v := 1793) C dX12_readScene_165 rfl (by decide) ?_
          refine r_iload_n (q := 169) (i := 1) (z := 1) C dX12_readScene_168 rfl rfl rfl ?_
          refine r_iadd (q := 170) C dX12_readScene_169 rfl ?_
          refine r_aload_n (q := 171) (i := 0) (z := 0) C dX12_readScene_170 rfl rfl rfl ?_
          refine r_aload_n (q := 172) (i := 0) (z := 0) C dX12_readScene_171 rfl rfl rfl ?_
          refine r_callVI (q := 175) (As := []) wm_X12_209 yvX12_isTear (c_X12_isTear Δ hN s22) ⟨rfl, by decide⟩ C (nm_12 hN) (by decide) rfl (Nat.le_of_ble_eq_true rfl) dX12_readScene_172 rfl (fun x23 s24 => ?_)
          refine r_callVI (q := 178) (As := [.int x23]) wm_X12_298 yvX12_readWay (c_X12_readWay Δ hN x23 s24) ⟨rfl, by decide⟩ C (nm_12 hN) (by decide) rfl (Nat.le_of_ble_eq_true rfl) dX12_readScene_175 rfl (fun x25 s26 => ?_)
          refine r_ast (q := 179) q_12_5 h_12_5 C (nm_12 hN) dX12_readScene_178 rfl (fun s27 => ?_)
          refine r_aload_n (q := 180) (i := 0) (z := 0) C dX12_readScene_179 rfl rfl rfl ?_
          refine g_X12_35 (q := 183) C (nm_12 hN) dX12_readScene_180 rfl ?_
          refine r_sipush (q := 186) (v := 1805) C dX12_readScene_183 rfl (by decide) ?_
          refine r_iload_n (q := 187) (i := 1) (z := 1) C dX12_readScene_186 rfl rfl rfl ?_
          refine r_iadd (q := 188) C dX12_readScene_187 rfl ?_
          refine r_aload_n (q := 189) (i := 0) (z := 0) C dX12_readScene_188 rfl rfl rfl ?_
          refine r_aload_n (q := 190) (i := 0) (z := 0) C dX12_readScene_189 rfl rfl rfl ?_
          refine r_callVI (q := 193) (As := []) wm_X12_212 yvX12_isLaugh (c_X12_isLaugh Δ hN s27) ⟨rfl, by decide⟩ C (nm_12 hN) (by decide) rfl (Nat.le_of_ble_eq_true rfl) dX12_readScene_190 rfl (fun x28 s29 => ?_)
          refine r_callVI (q := 196) (As := [.int x28]) wm_X12_298 yvX12_readWay (c_X12_readWay Δ hN x28 s29) ⟨rfl, by decide⟩ C (nm_12 hN) (by decide) rfl (Nat.le_of_ble_eq_true rfl) dX12_readScene_193 rfl (fun x30 s31 => ?_)
          refine r_ast (q := 197) q_12_5 h_12_5 C (nm_12 hN) dX12_readScene_196 rfl (fun s32 => ?_)
          refine r_aload_n (q := 198) (i := 0) (z := 0) C dX12_readScene_197 rfl rfl rfl ?_
          refine g_X12_35 (q := 201) C (nm_12 hN) dX12_readScene_198 rfl ?_
          refine r_sipush (q := 204) (v := 1817) C dX12_readScene_201 rfl (by decide) ?_
          refine r_iload_n (q := 205) (i := 1) (z := 1) C dX12_readScene_204 rfl rfl rfl ?_
          refine r_iadd (q := 206) C dX12_readScene_205 rfl ?_
          refine r_aload_n (q := 207) (i := 0) (z := 0) C dX12_readScene_206 rfl rfl rfl ?_
          refine r_aload_n (q := 208) (i := 0) (z := 0) C dX12_readScene_207 rfl rfl rfl ?_
          refine r_callVI (q := 211) (As := []) wm_X12_215 yvX12_isSleep (c_X12_isSleep Δ hN s32) ⟨rfl, by decide⟩ C (nm_12 hN) (by decide) rfl (Nat.le_of_ble_eq_true rfl) dX12_readScene_208 rfl (fun x33 s34 => ?_)
          refine r_callVI (q := 214) (As := [.int x33]) wm_X12_298 yvX12_readWay (c_X12_readWay Δ hN x33 s34) ⟨rfl, by decide⟩ C (nm_12 hN) (by decide) rfl (Nat.le_of_ble_eq_true rfl) dX12_readScene_211 rfl (fun x35 s36 => ?_)
          refine r_ast (q := 215) q_12_5 h_12_5 C (nm_12 hN) dX12_readScene_214 rfl (fun s37 => ?_)
          refine r_aload_n (q := 216) (i := 0) (z := 0) C dX12_readScene_215 rfl rfl rfl ?_
          refine g_X12_35 (q := 219) C (nm_12 hN) dX12_readScene_216 rfl ?_
          refine r_sipush (q := 222) (v := 1829) C dX12_readScene_219 rfl (by decide) ?_
          refine r_iload_n (q := 223) (i := 1) (z := 1) C dX12_readScene_222 rfl rfl rfl ?_
          refine r_iadd (q := 224) C dX12_readScene_223 rfl ?_
          refine r_iconst (q := 225) (v := (-1)) C dX12_readScene_224 rfl (by decide) ?_
          refine r_ast (q := 226) q_12_5 h_12_5 C (nm_12 hN) dX12_readScene_225 rfl (fun s38 => ?_)
          refine r_aload_n (q := 227) (i := 0) (z := 0) C dX12_readScene_226 rfl rfl rfl ?_
          refine g_X12_249 (q := 230) C (nm_12 hN) dX12_readScene_227 rfl ?_
          refine r_join (fun j40 => ∀  (s39 : fSt), fW Δ Γ 2 (fQ eV Δ Γ) 268 [(0, .ref (fad Δ 12 0 0))] [] s39 (j40 s39)) ?_ (fun j40 hj40 => ?_)
          · intro s39
            refine r_aload_n (q := 269) (i := 0) (z := 0) C dX12_readScene_268 rfl rfl rfl ?_
            refine g_X12_249 (q := 272) C (nm_12 hN) dX12_readScene_269 rfl ?_
            refine r_join (fun j42 => ∀  (s41 : fSt), fW Δ Γ 2 (fQ eV Δ Γ) 287 [] [] s41 (j42 s41)) ?_ (fun j42 hj42 => ?_)
            · intro s41
              exact r_vret C dX12_readScene_287
            refine r_if_ne (q := 275) (tgt := 287) C dX12_readScene_272 (by decide) rfl ?_ ?_
            · refine r_locs (lc' := []) [] rfl ?_
              exact hj42 s39
            · refine r_aload_n (q := 276) (i := 0) (z := 0) C dX12_readScene_275 rfl rfl rfl ?_
              refine g_X12_35 (q := 279) C (nm_12 hN) dX12_readScene_276 rfl ?_
              refine r_sipush (q := 282) (v := 1722) C dX12_readScene_279 rfl (by decide) ?_
              refine r_dup2 (q := 283) C dX12_readScene_282 rfl rfl rfl ?_
              refine r_ial (q := 284) q_12_5 h_12_5 C (nm_12 hN) dX12_readScene_283 rfl ?_
              refine r_iconst (q := 285) (v := 1) C dX12_readScene_284 rfl (by decide) ?_
              refine r_iadd (q := 286) C dX12_readScene_285 rfl ?_
              refine r_ast (q := 287) q_12_5 h_12_5 C (nm_12 hN) dX12_readScene_286 rfl (fun s43 => ?_)
              refine r_locs (lc' := []) [] rfl ?_
              exact hj42 s43
          refine r_if_ne (q := 233) (tgt := 268) C dX12_readScene_230 (by decide) rfl ?_ ?_
          · refine r_locs (lc' := [(0, .ref (fad Δ 12 0 0))]) [0] rfl ?_
            exact hj40 s38
          · refine r_aload_n (q := 234) (i := 0) (z := 0) C dX12_readScene_233 rfl rfl rfl ?_
            refine r_callVI (q := 237) (As := []) wm_X12_218 yvX12_isKills (c_X12_isKills Δ hN s38) ⟨rfl, by decide⟩ C (nm_12 hN) (by decide) rfl (Nat.le_of_ble_eq_true rfl) dX12_readScene_234 rfl (fun x44 s45 => ?_)
            refine r_if_eq (q := 240) (tgt := 268) C dX12_readScene_237 (by decide) rfl ?_ ?_
            · refine r_locs (lc' := [(0, .ref (fad Δ 12 0 0))]) [0] rfl ?_
              exact hj40 s45
            · refine r_aload_n (q := 241) (i := 0) (z := 0) C dX12_readScene_240 rfl rfl rfl ?_
              refine r_callVV (q := 244) (As := []) wm_X12_259 yvX12_next (c_X12_next Δ hN s45) ⟨rfl, by decide⟩ C (nm_12 hN) (by decide) rfl (Nat.le_of_ble_eq_true rfl) dX12_readScene_241 rfl (fun _ s46 => ?_)
              refine r_aload_n (q := 245) (i := 0) (z := 0) C dX12_readScene_244 rfl rfl rfl ?_
              refine g_X12_35 (q := 248) C (nm_12 hN) dX12_readScene_245 rfl ?_
              refine r_sipush (q := 251) (v := 1829) C dX12_readScene_248 rfl (by decide) ?_
              refine r_iload_n (q := 252) (i := 1) (z := 1) C dX12_readScene_251 rfl rfl rfl ?_
              refine r_iadd (q := 253) C dX12_readScene_252 rfl ?_
              refine r_aload_n (q := 254) (i := 0) (z := 0) C dX12_readScene_253 rfl rfl rfl ?_
              refine r_iconst (q := 255) (v := 4) C dX12_readScene_254 rfl (by decide) ?_
              refine r_iconst (q := 256) (v := 0) C dX12_readScene_255 rfl (by decide) ?_
              refine r_aload_n (q := 257) (i := 0) (z := 0) C dX12_readScene_256 rfl rfl rfl ?_
              refine g_X12_35 (q := 260) C (nm_12 hN) dX12_readScene_257 rfl ?_
              refine r_sipush (q := 263) (v := 1720) C dX12_readScene_260 rfl (by decide) ?_
              refine r_ial (q := 264) q_12_5 h_12_5 C (nm_12 hN) dX12_readScene_263 rfl ?_
              refine r_callVI (q := 267) (As := [.int ((4 : Int32)), .int ((0 : Int32)), .int (gA s46 12 0 5 ((1720 : Int32)).toNatClampNeg)]) wm_X12_286 yvX12_readTold (c_X12_readTold Δ hN ((4 : Int32)) ((0 : Int32)) (gA s46 12 0 5 ((1720 : Int32)).toNatClampNeg) s46) ⟨rfl, by decide⟩ C (nm_12 hN) (by decide) rfl (Nat.le_of_ble_eq_true rfl) dX12_readScene_264 rfl (fun x47 s48 => ?_)
              refine r_ast (q := 268) q_12_5 h_12_5 C (nm_12 hN) dX12_readScene_267 rfl (fun s49 => ?_)
              refine r_locs (lc' := [(0, .ref (fad Δ 12 0 0))]) [0] rfl ?_
              exact hj40 s49
        refine r_if_ne (q := 115) (tgt := 143) C dX12_readScene_112 (by decide) rfl ?_ ?_
        · exact hj17 s15
        · refine r_aload_n (q := 116) (i := 0) (z := 0) C dX12_readScene_115 rfl rfl rfl ?_
          refine r_callVI (q := 119) (As := []) wm_X12_203 yvX12_isEnds (c_X12_isEnds Δ hN s15) ⟨rfl, by decide⟩ C (nm_12 hN) (by decide) rfl (Nat.le_of_ble_eq_true rfl) dX12_readScene_116 rfl (fun x50 s51 => ?_)
          refine r_if_eq (q := 122) (tgt := 143) C dX12_readScene_119 (by decide) rfl ?_ ?_
          · exact hj17 s51
          · refine r_aload_n (q := 123) (i := 0) (z := 0) C dX12_readScene_122 rfl rfl rfl ?_
            refine r_callVV (q := 126) (As := []) wm_X12_259 yvX12_next (c_X12_next Δ hN s51) ⟨rfl, by decide⟩ C (nm_12 hN) (by decide) rfl (Nat.le_of_ble_eq_true rfl) dX12_readScene_123 rfl (fun _ s52 => ?_)
            refine r_aload_n (q := 127) (i := 0) (z := 0) C dX12_readScene_126 rfl rfl rfl ?_
            refine g_X12_35 (q := 130) C (nm_12 hN) dX12_readScene_127 rfl ?_
            refine r_sipush (q := 133) (v := 1769) C dX12_readScene_130 rfl (by decide) ?_
            refine r_iload_n (q := 134) (i := 1) (z := 1) C dX12_readScene_133 rfl rfl rfl ?_
            refine r_iadd (q := 135) C dX12_readScene_134 rfl ?_
            refine r_aload_n (q := 136) (i := 0) (z := 0) C dX12_readScene_135 rfl rfl rfl ?_
            refine r_iconst (q := 137) (v := 0) C dX12_readScene_136 rfl (by decide) ?_
            refine r_bipush (q := 139) (v := 8) C dX12_readScene_137 rfl (by decide) ?_
            refine r_callVI (q := 142) (As := [.int ((0 : Int32)), .int ((8 : Int32))]) wm_X12_292 yvX12_count (c_X12_count Δ hN ((0 : Int32)) ((8 : Int32)) s52) ⟨rfl, by decide⟩ C (nm_12 hN) (by decide) rfl (Nat.le_of_ble_eq_true rfl) dX12_readScene_139 rfl (fun x53 s54 => ?_)
            refine r_ast (q := 143) q_12_5 h_12_5 C (nm_12 hN) dX12_readScene_142 rfl (fun s55 => ?_)
            exact hj17 s55
      refine r_join (fun j57 => ∀  (s56 : fSt), fW Δ Γ 2 (fQ eV Δ Γ) 95 [(0, .ref (fad Δ 12 0 0)), (1, .int x1)] [.int (((1757 : Int32)) + x1), .ref (fad Δ 12 0 5)] s56 (j57 s56)) ?_ (fun j57 hj57 => ?_)
      · intro s56
        refine r_iconst (q := 96) (v := 0) C dX12_readScene_95 rfl (by decide) ?_
        exact hj13 ((0 : Int32)) s56
      refine r_if_ne (q := 81) (tgt := 95) C dX12_readScene_78 (by decide) rfl ?_ ?_
      · exact hj57 s10
      · refine r_aload_n (q := 82) (i := 0) (z := 0) C dX12_readScene_81 rfl rfl rfl ?_
        refine r_callVI (q := 85) (As := []) wm_X12_200 yvX12_isWith (c_X12_isWith Δ hN s10) ⟨rfl, by decide⟩ C (nm_12 hN) (by decide) rfl (Nat.le_of_ble_eq_true rfl) dX12_readScene_82 rfl (fun x58 s59 => ?_)
        refine r_if_eq (q := 88) (tgt := 95) C dX12_readScene_85 (by decide) rfl ?_ ?_
        · exact hj57 s59
        · refine r_aload_n (q := 89) (i := 0) (z := 0) C dX12_readScene_88 rfl rfl rfl ?_
          refine r_callVI (q := 92) (As := []) wm_X12_295 yvX12_readRoles (c_X12_readRoles Δ hN s59) ⟨rfl, by decide⟩ C (nm_12 hN) (by decide) rfl (Nat.le_of_ble_eq_true rfl) dX12_readScene_89 rfl (fun x60 s61 => ?_)
          refine r_goto (q := 96) C dX12_readScene_92 (by decide) ?_
          exact hj13 x60 s61
    · exact r_vret C dX12_readScene_32
  refine r_icmp_ne (q := 15) (tgt := 25) C dX12_readScene_12 (by decide) rfl ?_ ?_
  · refine r_locs (lc' := [(0, .ref (fad Δ 12 0 0)), (1, .int x1)]) [1, 0] rfl ?_
    exact hj3 st
  · refine r_aload_n (q := 16) (i := 0) (z := 1) C dX12_readScene_15 rfl rfl rfl ?_
    refine r_bipush (q := 18) (v := 6) C dX12_readScene_16 rfl (by decide) ?_
    refine r_aload_n (q := 19) (i := 0) (z := 1) C dX12_readScene_18 rfl rfl rfl ?_
    refine g_X12_139 (q := 22) C (nm_12 hN) dX12_readScene_19 rfl ?_
    refine r_callVV (q := 25) (As := [.int ((6 : Int32)), .int (gI st 12 0 15)]) wm_X12_255 yvX12_fail (c_X12_fail Δ hN ((6 : Int32)) (gI st 12 0 15) st) ⟨rfl, by decide⟩ C (nm_12 hN) (by decide) rfl (Nat.le_of_ble_eq_true rfl) dX12_readScene_22 rfl (fun _ s62 => ?_)
    refine r_locs (lc' := [(0, .ref (fad Δ 12 0 0)), (1, .int x1)]) [1, 0] rfl ?_
    exact hj3 s62

noncomputable def f_X12_readStep_L141 (rec : Int32 → fSt → Option (Unit × fSt)) (a1 : Int32) (x7 : Int32) (k23 : fSt → Option (Unit × fSt)) : Nat → fSt → Option (Unit × fSt)
  | 0, _ => none
  | n34 + 1, s33 =>
      if x7 = 0 then
                  (k23 s33)
                else
                  (if ¬ (gI s33 12 0 12) = 0 then
                    (k23 s33)
                  else
                    (fBd (f_X12_isEnd  s33) fun x35 s36 =>
                    if ¬ x35 = 0 then
                      (k23 s36)
                    else
                      (fBd (rec (a1 + ((1 : Int32))) s36) fun _ s37 =>
                      f_X12_readStep_L141 rec a1 x7 k23 n34 s37)))

noncomputable def f_X12_readStep_b (rec : Int32 → fSt → Option (Unit × fSt)) (a1 : Int32) (st : fSt) : Option (Unit × fSt) :=
  fBd (f_X12_stepWord  st) fun x1 s2 =>
  fLt x1 fun (x3 : Int32) =>
  fJn (fun (x4 : Int32) (s5 : fSt) =>
    (fLt x4 fun (x7 : Int32) =>
    fJn (fun (s8 : fSt) =>
      (fJn (fun (s10 : fSt) =>
        (fJn (fun (s12 : fSt) =>
          (if (gI s12 12 0 12) ≤ 0 then
            (fLt (((1939 : Int32)) + (((7 : Int32)) * (gI s12 12 0 24))) fun (x14 : Int32) =>
            fLt (sI s12 12 0 24 ((gI s12 12 0 24) + ((1 : Int32)))) fun s15 =>
            fBd (f_X12_next  s15) fun _ s16 =>
            fIx x14 2150 <|
            fLt (sA s16 12 0 5 (upd (gA s16 12 0 5) x14.toNatClampNeg x3)) fun s17 =>
            fBd (f_X12_readRest x14 s17) fun _ s18 =>
            fBd (f_X12_isSign ((59 : Int32)) s18) fun x19 s20 =>
            fBd (f_X12_must x19 s20) fun _ s21 =>
            fJn (fun (s22 : fSt) =>
              (fJn (fun (s24 : fSt) =>
                (fIx (x14 + ((6 : Int32))) 2150 <|
                fLt (sA s24 12 0 5 (upd (gA s24 12 0 5) (x14 + ((6 : Int32))).toNatClampNeg (gI s24 12 0 24))) fun s26 =>
                some ((), s26))) fun (j25 : fSt → Option (Unit × fSt)) =>
              if x7 = 0 then
                (j25 s22)
              else
                (fBd (f_X12_isEnd  s22) fun x27 s28 =>
                fBd (f_X12_must x27 s28) fun _ s29 =>
                fBd (f_X12_isSign ((59 : Int32)) s29) fun x30 s31 =>
                fBd (f_X12_must x30 s31) fun _ s32 =>
                j25 s32))) fun (k23 : fSt → Option (Unit × fSt)) =>
            f_X12_readStep_L141 rec a1 x7 k23 fF s21)
          else
            (some ((), s12)))) fun (j13 : fSt → Option (Unit × fSt)) =>
        if ¬ (gI s10 12 0 12) = 0 then
          (j13 s10)
        else
          (if x7 = 0 then
            (j13 s10)
          else
            (if ¬ a1 = ((3 : Int32)) then
              (j13 s10)
            else
              (fBd (f_X12_fail ((7 : Int32)) (gI s10 12 0 15) s10) fun _ s38 =>
              j13 s38))))) fun (j11 : fSt → Option (Unit × fSt)) =>
      if ¬ (gI s8 12 0 12) = 0 then
        (j11 s8)
      else
        (if ¬ (gI s8 12 0 24) = ((30 : Int32)) then
          (j11 s8)
        else
          (fBd (f_X12_fail ((6 : Int32)) (gI s8 12 0 15) s8) fun _ s39 =>
          j11 s39)))) fun (j9 : fSt → Option (Unit × fSt)) =>
    if 0 ≤ x3 then
      (j9 s5)
    else
      (fBd (f_X12_wrong  s5) fun _ s40 =>
      j9 s40))) fun (j6 : Int32 → fSt → Option (Unit × fSt)) =>
  fJn (fun (s41 : fSt) =>
    (j6 ((1 : Int32)) s41)) fun (j42 : fSt → Option (Unit × fSt)) =>
  if x3 = ((5 : Int32)) then
    (j42 s2)
  else
    (if ¬ x3 = ((6 : Int32)) then
      (j6 ((0 : Int32)) s2)
    else
      (j42 s2))

set_option maxHeartbeats 4000000 in
set_option maxRecDepth 100000 in
theorem c_X12_readStep_b (Δ : fDl) (hN : fNm Δ) (lv0 : Nat) (hlv : 8 ≤ lv0) (rec : Int32 → fSt → Option (Unit × fSt)) (hrec : ∀ (a1 : Int32) (st : fSt), fMt eV Δ yX12_readStep cX12_readStep 5 none lv0 [.ref (fad Δ 12 0 0), .int a1] st (rec a1 st)) (a1 : Int32) (st : fSt) : fMt eV Δ yX12_readStep cX12_readStep 5 none (lv0 + 1) [.ref (fad Δ 12 0 0), .int a1] st (f_X12_readStep_b rec a1 st) := by
  unfold f_X12_readStep_b
  refine r_method (by decide +kernel) (Nat.le_of_ble_eq_true rfl) (fun Γ C => ?_)
  have C : fC Δ Γ cX12_readStep RX12 5 none (lv0 + 1) := C
  refine r_locs (lc' := [(0, .ref (fad Δ 12 0 0)), (1, .int a1)]) [0, 1] rfl ?_
  refine r_aload_n (q := 1) (i := 0) (z := 0) C dX12_readStep_0 rfl rfl rfl ?_
  refine r_callVI (q := 4) (As := []) wm_X12_236 yvX12_stepWord (c_X12_stepWord Δ hN st) ⟨rfl, by decide⟩ C (nm_12 hN) (by omega) rfl (Nat.le_of_ble_eq_true rfl) dX12_readStep_1 rfl (fun x1 s2 => ?_)
  refine r_istore_n (q := 5) (i := 2) [(0, .ref (fad Δ 12 0 0)), (1, .int a1)] C dX12_readStep_4 rfl rfl (by decide) rfl (fun x3 => ?_)
  refine r_iload_n (q := 6) (i := 2) (z := 0) C dX12_readStep_5 rfl rfl rfl ?_
  refine r_iconst (q := 7) (v := 5) C dX12_readStep_6 rfl (by decide) ?_
  refine r_join (fun j6 => ∀ (x4 : Int32) (s5 : fSt), fW Δ Γ 5 (fQ eV Δ Γ) 21 [(0, .ref (fad Δ 12 0 0)), (1, .int a1), (2, .int x3)] [.int x4] s5 (j6 x4 s5)) ?_ (fun j6 hj6 => ?_)
  · intro x4 s5
    refine r_istore_n (q := 22) (i := 3) [(0, .ref (fad Δ 12 0 0)), (1, .int a1), (2, .int x3)] C dX12_readStep_21 rfl rfl (by decide) rfl (fun x7 => ?_)
    refine r_iload_n (q := 23) (i := 2) (z := 3) C dX12_readStep_22 rfl rfl rfl ?_
    refine r_join (fun j9 => ∀  (s8 : fSt), fW Δ Γ 5 (fQ eV Δ Γ) 30 [(0, .ref (fad Δ 12 0 0)), (1, .int a1), (2, .int x3), (3, .int x7)] [] s8 (j9 s8)) ?_ (fun j9 hj9 => ?_)
    · intro s8
      refine r_aload_n (q := 31) (i := 0) (z := 0) C dX12_readStep_30 rfl rfl rfl ?_
      refine g_X12_249 (q := 34) C (nm_12 hN) dX12_readStep_31 rfl ?_
      refine r_join (fun j11 => ∀  (s10 : fSt), fW Δ Γ 5 (fQ eV Δ Γ) 56 [(0, .ref (fad Δ 12 0 0)), (1, .int a1), (2, .int x3), (3, .int x7)] [] s10 (j11 s10)) ?_ (fun j11 hj11 => ?_)
      · intro s10
        refine r_aload_n (q := 57) (i := 0) (z := 0) C dX12_readStep_56 rfl rfl rfl ?_
        refine g_X12_249 (q := 60) C (nm_12 hN) dX12_readStep_57 rfl ?_
        refine r_join (fun j13 => ∀  (s12 : fSt), fW Δ Γ 5 (fQ eV Δ Γ) 82 [(0, .ref (fad Δ 12 0 0)), (1, .int a1), (2, .int x3), (3, .int x7)] [] s12 (j13 s12)) ?_ (fun j13 hj13 => ?_)
        · intro s12
          refine r_aload_n (q := 83) (i := 0) (z := 0) C dX12_readStep_82 rfl rfl rfl ?_
          refine g_X12_249 (q := 86) C (nm_12 hN) dX12_readStep_83 rfl ?_
          refine r_if_le (q := 89) (tgt := 90) C dX12_readStep_86 (by decide) rfl ?_ ?_
          · refine r_sipush (q := 93) (v := 1939) C dX12_readStep_90 rfl (by decide) ?_
            refine r_bipush (q := 95) (v := 7) C dX12_readStep_93 rfl (by decide) ?_
            refine r_aload_n (q := 96) (i := 0) (z := 0) C dX12_readStep_95 rfl rfl rfl ?_
            refine g_X12_333 (q := 99) C (nm_12 hN) dX12_readStep_96 rfl ?_
            refine r_imul (q := 100) C dX12_readStep_99 rfl ?_
            refine r_iadd (q := 101) C dX12_readStep_100 rfl ?_
            refine r_istore (q := 103) (i := 4) [(0, .ref (fad Δ 12 0 0)), (1, .int a1), (2, .int x3), (3, .int x7)] C dX12_readStep_101 rfl (by decide) rfl (fun x14 => ?_)
            refine r_aload_n (q := 104) (i := 0) (z := 1) C dX12_readStep_103 rfl rfl rfl ?_
            refine r_dup (q := 105) C dX12_readStep_104 rfl rfl ?_
            refine g_X12_333 (q := 108) C (nm_12 hN) dX12_readStep_105 rfl ?_
            refine r_iconst (q := 109) (v := 1) C dX12_readStep_108 rfl (by decide) ?_
            refine r_iadd (q := 110) C dX12_readStep_109 rfl ?_
            refine p_X12_333 (q := 113) C (nm_12 hN) dX12_readStep_110 rfl (fun s15 => ?_)
            refine r_aload_n (q := 114) (i := 0) (z := 1) C dX12_readStep_113 rfl rfl rfl ?_
            refine r_callVV (q := 117) (As := []) wm_X12_259 yvX12_next (c_X12_next Δ hN s15) ⟨rfl, by decide⟩ C (nm_12 hN) (by omega) rfl (Nat.le_of_ble_eq_true rfl) dX12_readStep_114 rfl (fun _ s16 => ?_)
            refine r_aload_n (q := 118) (i := 0) (z := 1) C dX12_readStep_117 rfl rfl rfl ?_
            refine g_X12_35 (q := 121) C (nm_12 hN) dX12_readStep_118 rfl ?_
            refine r_iload (q := 123) (i := 4) (z := 0) C dX12_readStep_121 rfl rfl ?_
            refine r_iload_n (q := 124) (i := 2) (z := 3) C dX12_readStep_123 rfl rfl rfl ?_
            refine r_ast (q := 125) q_12_5 h_12_5 C (nm_12 hN) dX12_readStep_124 rfl (fun s17 => ?_)
            refine r_aload_n (q := 126) (i := 0) (z := 1) C dX12_readStep_125 rfl rfl rfl ?_
            refine r_iload (q := 128) (i := 4) (z := 0) C dX12_readStep_126 rfl rfl ?_
            refine r_callVV (q := 131) (As := [.int x14]) wm_X12_336 yvX12_readRest (c_X12_readRest Δ hN x14 s17) ⟨rfl, by decide⟩ C (nm_12 hN) (by omega) rfl (Nat.le_of_ble_eq_true rfl) dX12_readStep_128 rfl (fun _ s18 => ?_)
            refine r_aload_n (q := 132) (i := 0) (z := 1) C dX12_readStep_131 rfl rfl rfl ?_
            refine r_aload_n (q := 133) (i := 0) (z := 1) C dX12_readStep_132 rfl rfl rfl ?_
            refine r_bipush (q := 135) (v := 59) C dX12_readStep_133 rfl (by decide) ?_
            refine r_callVI (q := 138) (As := [.int ((59 : Int32))]) wm_X12_318 yvX12_isSign (c_X12_isSign Δ hN ((59 : Int32)) s18) ⟨rfl, by decide⟩ C (nm_12 hN) (by omega) rfl (Nat.le_of_ble_eq_true rfl) dX12_readStep_135 rfl (fun x19 s20 => ?_)
            refine r_callVV (q := 141) (As := [.int x19]) wm_X12_282 yvX12_must (c_X12_must Δ hN x19 s20) ⟨rfl, by decide⟩ C (nm_12 hN) (by omega) rfl (Nat.le_of_ble_eq_true rfl) dX12_readStep_138 rfl (fun _ s21 => ?_)
            refine r_join (fun k23 => ∀  (s22 : fSt), fW Δ Γ 5 (fQ eV Δ Γ) 169 [(0, .ref (fad Δ 12 0 0)), (3, .int x7), (4, .int x14)] [] s22 (k23 s22)) ?_ (fun k23 hk23 => ?_)
            · intro s22
              refine r_iload_n (q := 170) (i := 3) (z := 1) C dX12_readStep_169 rfl rfl rfl ?_
              refine r_join (fun j25 => ∀  (s24 : fSt), fW Δ Γ 5 (fQ eV Δ Γ) 191 [(0, .ref (fad Δ 12 0 0)), (4, .int x14)] [] s24 (j25 s24)) ?_ (fun j25 hj25 => ?_)
              · intro s24
                refine r_aload_n (q := 192) (i := 0) (z := 0) C dX12_readStep_191 rfl rfl rfl ?_
                refine g_X12_35 (q := 195) C (nm_12 hN) dX12_readStep_192 rfl ?_
                refine r_iload (q := 197) (i := 4) (z := 1) C dX12_readStep_195 rfl rfl ?_
                refine r_bipush (q := 199) (v := 6) C dX12_readStep_197 rfl (by decide) ?_
                refine r_iadd (q := 200) C dX12_readStep_199 rfl ?_
                refine r_aload_n (q := 201) (i := 0) (z := 0) C dX12_readStep_200 rfl rfl rfl ?_
                refine g_X12_333 (q := 204) C (nm_12 hN) dX12_readStep_201 rfl ?_
                refine r_ast (q := 205) q_12_5 h_12_5 C (nm_12 hN) dX12_readStep_204 rfl (fun s26 => ?_)
                exact r_vret C dX12_readStep_205
              refine r_if_eq (q := 173) (tgt := 191) C dX12_readStep_170 (by decide) rfl ?_ ?_
              · refine r_locs (lc' := [(0, .ref (fad Δ 12 0 0)), (4, .int x14)]) [0, 2] rfl ?_
                exact hj25 s22
              · refine r_aload_n (q := 174) (i := 0) (z := 0) C dX12_readStep_173 rfl rfl rfl ?_
                refine r_aload_n (q := 175) (i := 0) (z := 0) C dX12_readStep_174 rfl rfl rfl ?_
                refine r_callVI (q := 178) (As := []) wm_X12_243 yvX12_isEnd (c_X12_isEnd Δ hN s22) ⟨rfl, by decide⟩ C (nm_12 hN) (by omega) rfl (Nat.le_of_ble_eq_true rfl) dX12_readStep_175 rfl (fun x27 s28 => ?_)
                refine r_callVV (q := 181) (As := [.int x27]) wm_X12_282 yvX12_must (c_X12_must Δ hN x27 s28) ⟨rfl, by decide⟩ C (nm_12 hN) (by omega) rfl (Nat.le_of_ble_eq_true rfl) dX12_readStep_178 rfl (fun _ s29 => ?_)
                refine r_aload_n (q := 182) (i := 0) (z := 0) C dX12_readStep_181 rfl rfl rfl ?_
                refine r_aload_n (q := 183) (i := 0) (z := 0) C dX12_readStep_182 rfl rfl rfl ?_
                refine r_bipush (q := 185) (v := 59) C dX12_readStep_183 rfl (by decide) ?_
                refine r_callVI (q := 188) (As := [.int ((59 : Int32))]) wm_X12_318 yvX12_isSign (c_X12_isSign Δ hN ((59 : Int32)) s29) ⟨rfl, by decide⟩ C (nm_12 hN) (by omega) rfl (Nat.le_of_ble_eq_true rfl) dX12_readStep_185 rfl (fun x30 s31 => ?_)
                refine r_callVV (q := 191) (As := [.int x30]) wm_X12_282 yvX12_must (c_X12_must Δ hN x30 s31) ⟨rfl, by decide⟩ C (nm_12 hN) (by omega) rfl (Nat.le_of_ble_eq_true rfl) dX12_readStep_188 rfl (fun _ s32 => ?_)
                refine r_locs (lc' := [(0, .ref (fad Δ 12 0 0)), (4, .int x14)]) [0, 2] rfl ?_
                exact hj25 s32
            refine r_locs (lc' := [(0, .ref (fad Δ 12 0 0)), (1, .int a1), (3, .int x7), (4, .int x14)]) [1, 2, 4, 0] rfl ?_
            have L141 : ∀ (n34 : Nat)  (s33 : fSt), fW Δ Γ 5 (fQ eV Δ Γ) 141 [(0, .ref (fad Δ 12 0 0)), (1, .int a1), (3, .int x7), (4, .int x14)] [] s33 (f_X12_readStep_L141 rec a1 x7 k23 n34 s33) := by
              intro n34
              induction n34 with
              | zero =>
                intro s33
                rw [f_X12_readStep_L141]
                exact r_none
              | succ n34 ih_n34 =>
                intro s33
                rw [f_X12_readStep_L141]
                refine r_iload_n (q := 142) (i := 3) (z := 2) C dX12_readStep_141 rfl rfl rfl ?_
                refine r_if_eq (q := 145) (tgt := 169) C dX12_readStep_142 (by decide) rfl ?_ ?_
                · refine r_locs (lc' := [(0, .ref (fad Δ 12 0 0)), (3, .int x7), (4, .int x14)]) [0, 2, 3] rfl ?_
                  exact hk23 s33
                · refine r_aload_n (q := 146) (i := 0) (z := 0) C dX12_readStep_145 rfl rfl rfl ?_
                  refine g_X12_249 (q := 149) C (nm_12 hN) dX12_readStep_146 rfl ?_
                  refine r_if_ne (q := 152) (tgt := 169) C dX12_readStep_149 (by decide) rfl ?_ ?_
                  · refine r_locs (lc' := [(0, .ref (fad Δ 12 0 0)), (3, .int x7), (4, .int x14)]) [0, 2, 3] rfl ?_
                    exact hk23 s33
                  · refine r_aload_n (q := 153) (i := 0) (z := 0) C dX12_readStep_152 rfl rfl rfl ?_
                    refine r_callVI (q := 156) (As := []) wm_X12_243 yvX12_isEnd (c_X12_isEnd Δ hN s33) ⟨rfl, by decide⟩ C (nm_12 hN) (by omega) rfl (Nat.le_of_ble_eq_true rfl) dX12_readStep_153 rfl (fun x35 s36 => ?_)
                    refine r_if_ne (q := 159) (tgt := 169) C dX12_readStep_156 (by decide) rfl ?_ ?_
                    · refine r_locs (lc' := [(0, .ref (fad Δ 12 0 0)), (3, .int x7), (4, .int x14)]) [0, 2, 3] rfl ?_
                      exact hk23 s36
                    · refine r_aload_n (q := 160) (i := 0) (z := 0) C dX12_readStep_159 rfl rfl rfl ?_
                      refine r_iload_n (q := 161) (i := 1) (z := 1) C dX12_readStep_160 rfl rfl rfl ?_
                      refine r_iconst (q := 162) (v := 1) C dX12_readStep_161 rfl (by decide) ?_
                      refine r_iadd (q := 163) C dX12_readStep_162 rfl ?_
                      refine r_callVV (q := 166) (As := [.int (a1 + ((1 : Int32)))]) wm_X12_339 yvX12_readStep (hrec (a1 + ((1 : Int32))) s36) ⟨rfl, by decide⟩ C (nm_12 hN) (Nat.le_refl _) rfl (Nat.le_of_ble_eq_true rfl) dX12_readStep_163 rfl (fun _ s37 => ?_)
                      refine r_goto (q := 141) C dX12_readStep_166 (by decide) ?_
                      exact ih_n34 s37
            exact L141 fF s21
          · exact r_vret C dX12_readStep_89
        refine r_if_ne (q := 63) (tgt := 82) C dX12_readStep_60 (by decide) rfl ?_ ?_
        · exact hj13 s10
        · refine r_iload_n (q := 64) (i := 3) (z := 3) C dX12_readStep_63 rfl rfl rfl ?_
          refine r_if_eq (q := 67) (tgt := 82) C dX12_readStep_64 (by decide) rfl ?_ ?_
          · exact hj13 s10
          · refine r_iload_n (q := 68) (i := 1) (z := 1) C dX12_readStep_67 rfl rfl rfl ?_
            refine r_iconst (q := 69) (v := 3) C dX12_readStep_68 rfl (by decide) ?_
            refine r_icmp_ne (q := 72) (tgt := 82) C dX12_readStep_69 (by decide) rfl ?_ ?_
            · exact hj13 s10
            · refine r_aload_n (q := 73) (i := 0) (z := 0) C dX12_readStep_72 rfl rfl rfl ?_
              refine r_bipush (q := 75) (v := 7) C dX12_readStep_73 rfl (by decide) ?_
              refine r_aload_n (q := 76) (i := 0) (z := 0) C dX12_readStep_75 rfl rfl rfl ?_
              refine g_X12_139 (q := 79) C (nm_12 hN) dX12_readStep_76 rfl ?_
              refine r_callVV (q := 82) (As := [.int ((7 : Int32)), .int (gI s10 12 0 15)]) wm_X12_255 yvX12_fail (c_X12_fail Δ hN ((7 : Int32)) (gI s10 12 0 15) s10) ⟨rfl, by decide⟩ C (nm_12 hN) (by omega) rfl (Nat.le_of_ble_eq_true rfl) dX12_readStep_79 rfl (fun _ s38 => ?_)
              exact hj13 s38
      refine r_if_ne (q := 37) (tgt := 56) C dX12_readStep_34 (by decide) rfl ?_ ?_
      · exact hj11 s8
      · refine r_aload_n (q := 38) (i := 0) (z := 0) C dX12_readStep_37 rfl rfl rfl ?_
        refine g_X12_333 (q := 41) C (nm_12 hN) dX12_readStep_38 rfl ?_
        refine r_bipush (q := 43) (v := 30) C dX12_readStep_41 rfl (by decide) ?_
        refine r_icmp_ne (q := 46) (tgt := 56) C dX12_readStep_43 (by decide) rfl ?_ ?_
        · exact hj11 s8
        · refine r_aload_n (q := 47) (i := 0) (z := 0) C dX12_readStep_46 rfl rfl rfl ?_
          refine r_bipush (q := 49) (v := 6) C dX12_readStep_47 rfl (by decide) ?_
          refine r_aload_n (q := 50) (i := 0) (z := 0) C dX12_readStep_49 rfl rfl rfl ?_
          refine g_X12_139 (q := 53) C (nm_12 hN) dX12_readStep_50 rfl ?_
          refine r_callVV (q := 56) (As := [.int ((6 : Int32)), .int (gI s8 12 0 15)]) wm_X12_255 yvX12_fail (c_X12_fail Δ hN ((6 : Int32)) (gI s8 12 0 15) s8) ⟨rfl, by decide⟩ C (nm_12 hN) (by omega) rfl (Nat.le_of_ble_eq_true rfl) dX12_readStep_53 rfl (fun _ s39 => ?_)
          exact hj11 s39
    refine r_if_ge (q := 26) (tgt := 30) C dX12_readStep_23 (by decide) rfl ?_ ?_
    · refine r_locs (lc' := [(0, .ref (fad Δ 12 0 0)), (1, .int a1), (2, .int x3), (3, .int x7)]) [1, 2, 3, 0] rfl ?_
      exact hj9 s5
    · refine r_aload_n (q := 27) (i := 0) (z := 1) C dX12_readStep_26 rfl rfl rfl ?_
      refine r_callVV (q := 30) (As := []) wm_X12_262 yvX12_wrong (c_X12_wrong Δ hN s5) ⟨rfl, by decide⟩ C (nm_12 hN) (by omega) rfl (Nat.le_of_ble_eq_true rfl) dX12_readStep_27 rfl (fun _ s40 => ?_)
      refine r_locs (lc' := [(0, .ref (fad Δ 12 0 0)), (1, .int a1), (2, .int x3), (3, .int x7)]) [1, 2, 3, 0] rfl ?_
      exact hj9 s40
  refine r_join (fun j42 => ∀  (s41 : fSt), fW Δ Γ 5 (fQ eV Δ Γ) 16 [(0, .ref (fad Δ 12 0 0)), (1, .int a1), (2, .int x3)] [] s41 (j42 s41)) ?_ (fun j42 hj42 => ?_)
  · intro s41
    refine r_iconst (q := 17) (v := 1) C dX12_readStep_16 rfl (by decide) ?_
    refine r_goto (q := 21) C dX12_readStep_17 (by decide) ?_
    exact hj6 ((1 : Int32)) s41
  refine r_icmp_eq (q := 10) (tgt := 16) C dX12_readStep_7 (by decide) rfl ?_ ?_
  · refine r_locs (lc' := [(0, .ref (fad Δ 12 0 0)), (1, .int a1), (2, .int x3)]) [1, 2, 0] rfl ?_
    exact hj42 s2
  · refine r_iload_n (q := 11) (i := 2) (z := 0) C dX12_readStep_10 rfl rfl rfl ?_
    refine r_bipush (q := 13) (v := 6) C dX12_readStep_11 rfl (by decide) ?_
    refine r_icmp_ne (q := 16) (tgt := 20) C dX12_readStep_13 (by decide) rfl ?_ ?_
    · refine r_iconst (q := 21) (v := 0) C dX12_readStep_20 rfl (by decide) ?_
      refine r_locs (lc' := [(0, .ref (fad Δ 12 0 0)), (1, .int a1), (2, .int x3)]) [1, 2, 0] rfl ?_
      exact hj6 ((0 : Int32)) s2
    · refine r_locs (lc' := [(0, .ref (fad Δ 12 0 0)), (1, .int a1), (2, .int x3)]) [1, 2, 0] rfl ?_
      exact hj42 s2

noncomputable def f_X12_readStep : Nat → Int32 → fSt → Option (Unit × fSt)
  | 0 => fun _ _ => none
  | n + 1 => f_X12_readStep_b (f_X12_readStep n)

theorem c_X12_readStep (Δ : fDl) (hN : fNm Δ) (n : Nat) (a1 : Int32) (st : fSt) : fMt eV Δ yX12_readStep cX12_readStep 5 none (8 + 1 * n) [.ref (fad Δ 12 0 0), .int a1] st (f_X12_readStep n a1 st) := by
  induction n generalizing a1 st with
  | zero => exact fun _ _ h => by cases h
  | succ n ih => exact c_X12_readStep_b Δ hN (8 + 1 * n) (by omega) (f_X12_readStep n) (fun a1 st => ih a1 st) a1 st

noncomputable def f_X12_run (a1 : Int32) (st : fSt) : Option (Int32 × fSt) :=
  fLt (sI st 12 0 1 ((0 : Int32))) fun s1 =>
  fLt (sI s1 12 0 0 ((0 : Int32))) fun s2 =>
  fBd (f_X12_isIn a1.toInt64 ((0 : Int64)) ((9999 : Int64)) s2) fun x3 s4 =>
  if ¬ x3 = 0 then
    (fIx ((217 : Int32)) 2150 <|
    if ¬ (gA s4 12 0 5 ((217 : Int32)).toNatClampNeg) = 0 then
      (fBd (f_X12_weeks a1 s4) fun _ s5 =>
      fIx ((0 : Int32)) 5 <|
      fLt (sA s5 12 0 22 (upd (gA s5 12 0 22) ((0 : Int32)).toNatClampNeg (gI s5 12 0 58))) fun s6 =>
      fIx ((1 : Int32)) 5 <|
      fLt (sA s6 12 0 22 (upd (gA s6 12 0 22) ((1 : Int32)).toNatClampNeg (gI s6 12 0 60))) fun s7 =>
      fIx ((2 : Int32)) 5 <|
      fLt (sA s7 12 0 22 (upd (gA s7 12 0 22) ((2 : Int32)).toNatClampNeg (gI s7 12 0 61))) fun s8 =>
      fIx ((3 : Int32)) 5 <|
      fLt (sA s8 12 0 22 (upd (gA s8 12 0 22) ((3 : Int32)).toNatClampNeg (gI s8 12 0 62))) fun s9 =>
      fIx ((4 : Int32)) 5 <|
      fLt (sA s9 12 0 22 (upd (gA s9 12 0 22) ((4 : Int32)).toNatClampNeg (gI s9 12 0 63))) fun s10 =>
      fBo ((1 : Int32)) <| fLt (sI s10 12 0 56 ((1 : Int32))) fun s11 =>
      some (gI s11 12 0 59, s11))
    else
      (fBd (f_X12_refuse ((8 : Int32)) s4) fun x12 s13 =>
      some (x12, s13)))
  else
    (fBd (f_X12_refuse ((5 : Int32)) s4) fun x14 s15 =>
    some (x14, s15))

set_option maxHeartbeats 4000000 in
set_option maxRecDepth 100000 in
theorem c_X12_run (Δ : fDl) (hN : fNm Δ) (a1 : Int32)  (st : fSt) : fMt eI Δ yX12_run cX12_run 2 (some .int) 19 [.ref (fad Δ 12 0 0), .int a1] st (f_X12_run a1 st) := by
  unfold f_X12_run
  refine r_method (by decide +kernel) (Nat.le_of_ble_eq_true rfl) (fun Γ C => ?_)
  have C : fC Δ Γ cX12_run RX12 2 (some .int) 19 := C
  refine r_locs (lc' := [(0, .ref (fad Δ 12 0 0)), (1, .int a1)]) [0, 1] rfl ?_
  refine r_aload_n (q := 1) (i := 0) (z := 0) C dX12_run_0 rfl rfl rfl ?_
  refine r_iconst (q := 2) (v := 0) C dX12_run_1 rfl (by decide) ?_
  refine p_X12_90 (q := 5) C (nm_12 hN) dX12_run_2 rfl (fun s1 => ?_)
  refine r_aload_n (q := 6) (i := 0) (z := 0) C dX12_run_5 rfl rfl rfl ?_
  refine r_iconst (q := 7) (v := 0) C dX12_run_6 rfl (by decide) ?_
  refine p_X12_93 (q := 10) C (nm_12 hN) dX12_run_7 rfl (fun s2 => ?_)
  refine r_iload_n (q := 11) (i := 1) (z := 1) C dX12_run_10 rfl rfl rfl ?_
  refine r_i2l (q := 12) C dX12_run_11 rfl ?_
  refine r_lconst (q := 13) (v := 0) C dX12_run_12 rfl (by decide) ?_
  refine r_ldc2 (q := 16) C dX12_run_13 rfl wl_X12_431 ?_
  refine r_callSI (q := 19) (As := [.long a1.toInt64, .long ((0 : Int64)), .long ((9999 : Int64))]) wm_X12_129 ysX12_isIn (c_X12_isIn Δ hN a1.toInt64 ((0 : Int64)) ((9999 : Int64)) s2) C (by decide) rfl (Nat.le_of_ble_eq_true rfl) dX12_run_16 rfl (fun x3 s4 => ?_)
  refine r_if_ne (q := 22) (tgt := 28) C dX12_run_19 (by decide) rfl ?_ ?_
  · refine r_aload_n (q := 29) (i := 0) (z := 0) C dX12_run_28 rfl rfl rfl ?_
    refine g_X12_35 (q := 32) C (nm_12 hN) dX12_run_29 rfl ?_
    refine r_sipush (q := 35) (v := 217) C dX12_run_32 rfl (by decide) ?_
    refine r_ial (q := 36) q_12_5 h_12_5 C (nm_12 hN) dX12_run_35 rfl ?_
    refine r_if_ne (q := 39) (tgt := 46) C dX12_run_36 (by decide) rfl ?_ ?_
    · refine r_aload_n (q := 47) (i := 0) (z := 0) C dX12_run_46 rfl rfl rfl ?_
      refine r_iload_n (q := 48) (i := 1) (z := 1) C dX12_run_47 rfl rfl rfl ?_
      refine r_callVV (q := 51) (As := [.int a1]) wm_X12_582 yvX12_weeks (c_X12_weeks Δ hN a1 s4) ⟨rfl, by decide⟩ C (nm_12 hN) (by decide) rfl (Nat.le_of_ble_eq_true rfl) dX12_run_48 rfl (fun _ s5 => ?_)
      refine r_aload_n (q := 52) (i := 0) (z := 0) C dX12_run_51 rfl rfl rfl ?_
      refine g_X12_87 (q := 55) C (nm_12 hN) dX12_run_52 rfl ?_
      refine r_iconst (q := 56) (v := 0) C dX12_run_55 rfl (by decide) ?_
      refine r_aload_n (q := 57) (i := 0) (z := 0) C dX12_run_56 rfl rfl rfl ?_
      refine g_X12_563 (q := 60) C (nm_12 hN) dX12_run_57 rfl ?_
      refine r_ast (q := 61) q_12_22 h_12_22 C (nm_12 hN) dX12_run_60 rfl (fun s6 => ?_)
      refine r_aload_n (q := 62) (i := 0) (z := 0) C dX12_run_61 rfl rfl rfl ?_
      refine g_X12_87 (q := 65) C (nm_12 hN) dX12_run_62 rfl ?_
      refine r_iconst (q := 66) (v := 1) C dX12_run_65 rfl (by decide) ?_
      refine r_aload_n (q := 67) (i := 0) (z := 0) C dX12_run_66 rfl rfl rfl ?_
      refine g_X12_551 (q := 70) C (nm_12 hN) dX12_run_67 rfl ?_
      refine r_ast (q := 71) q_12_22 h_12_22 C (nm_12 hN) dX12_run_70 rfl (fun s7 => ?_)
      refine r_aload_n (q := 72) (i := 0) (z := 0) C dX12_run_71 rfl rfl rfl ?_
      refine g_X12_87 (q := 75) C (nm_12 hN) dX12_run_72 rfl ?_
      refine r_iconst (q := 76) (v := 2) C dX12_run_75 rfl (by decide) ?_
      refine r_aload_n (q := 77) (i := 0) (z := 0) C dX12_run_76 rfl rfl rfl ?_
      refine g_X12_557 (q := 80) C (nm_12 hN) dX12_run_77 rfl ?_
      refine r_ast (q := 81) q_12_22 h_12_22 C (nm_12 hN) dX12_run_80 rfl (fun s8 => ?_)
      refine r_aload_n (q := 82) (i := 0) (z := 0) C dX12_run_81 rfl rfl rfl ?_
      refine g_X12_87 (q := 85) C (nm_12 hN) dX12_run_82 rfl ?_
      refine r_iconst (q := 86) (v := 3) C dX12_run_85 rfl (by decide) ?_
      refine r_aload_n (q := 87) (i := 0) (z := 0) C dX12_run_86 rfl rfl rfl ?_
      refine g_X12_560 (q := 90) C (nm_12 hN) dX12_run_87 rfl ?_
      refine r_ast (q := 91) q_12_22 h_12_22 C (nm_12 hN) dX12_run_90 rfl (fun s9 => ?_)
      refine r_aload_n (q := 92) (i := 0) (z := 0) C dX12_run_91 rfl rfl rfl ?_
      refine g_X12_87 (q := 95) C (nm_12 hN) dX12_run_92 rfl ?_
      refine r_iconst (q := 96) (v := 4) C dX12_run_95 rfl (by decide) ?_
      refine r_aload_n (q := 97) (i := 0) (z := 0) C dX12_run_96 rfl rfl rfl ?_
      refine g_X12_545 (q := 100) C (nm_12 hN) dX12_run_97 rfl ?_
      refine r_ast (q := 101) q_12_22 h_12_22 C (nm_12 hN) dX12_run_100 rfl (fun s10 => ?_)
      refine r_aload_n (q := 102) (i := 0) (z := 0) C dX12_run_101 rfl rfl rfl ?_
      refine r_iconst (q := 103) (v := 1) C dX12_run_102 rfl (by decide) ?_
      refine p_X12_585 (q := 106) C (nm_12 hN) dX12_run_103 rfl (fun s11 => ?_)
      refine r_aload_n (q := 107) (i := 0) (z := 0) C dX12_run_106 rfl rfl rfl ?_
      refine g_X12_548 (q := 110) C (nm_12 hN) dX12_run_107 rfl ?_
      exact r_iret C dX12_run_110
    · refine r_aload_n (q := 40) (i := 0) (z := 0) C dX12_run_39 rfl rfl rfl ?_
      refine r_bipush (q := 42) (v := 8) C dX12_run_40 rfl (by decide) ?_
      refine r_callVI (q := 45) (As := [.int ((8 : Int32))]) wm_X12_348 yvX12_refuse (c_X12_refuse Δ hN ((8 : Int32)) s4) ⟨rfl, by decide⟩ C (nm_12 hN) (by decide) rfl (Nat.le_of_ble_eq_true rfl) dX12_run_42 rfl (fun x12 s13 => ?_)
      exact r_iret C dX12_run_45
  · refine r_aload_n (q := 23) (i := 0) (z := 0) C dX12_run_22 rfl rfl rfl ?_
    refine r_iconst (q := 24) (v := 5) C dX12_run_23 rfl (by decide) ?_
    refine r_callVI (q := 27) (As := [.int ((5 : Int32))]) wm_X12_348 yvX12_refuse (c_X12_refuse Δ hN ((5 : Int32)) s4) ⟨rfl, by decide⟩ C (nm_12 hN) (by decide) rfl (Nat.le_of_ble_eq_true rfl) dX12_run_24 rfl (fun x14 s15 => ?_)
    exact r_iret C dX12_run_27

noncomputable def f_X12_told (a1 : Int32) (st : fSt) : Option (Int32 × fSt) :=
  fJn (fun (x1 : Int32) (s2 : fSt) =>
    (some (x1, s2))) fun (j3 : Int32 → fSt → Option (Int32 × fSt)) =>
  if 0 ≤ a1 then
    (j3 a1 st)
  else
    (fBd (f_X12_refuse ((8 : Int32)) st) fun x4 s5 =>
    j3 x4 s5)

set_option maxHeartbeats 4000000 in
set_option maxRecDepth 100000 in
theorem c_X12_told (Δ : fDl) (hN : fNm Δ) (a1 : Int32)  (st : fSt) : fMt eI Δ yX12_told cX12_told 2 (some .int) 2 [.ref (fad Δ 12 0 0), .int a1] st (f_X12_told a1 st) := by
  unfold f_X12_told
  refine r_method (by decide +kernel) (Nat.le_of_ble_eq_true rfl) (fun Γ C => ?_)
  have C : fC Δ Γ cX12_told RX12 2 (some .int) 2 := C
  refine r_locs (lc' := [(0, .ref (fad Δ 12 0 0)), (1, .int a1)]) [0, 1] rfl ?_
  refine r_iload_n (q := 1) (i := 1) (z := 1) C dX12_told_0 rfl rfl rfl ?_
  refine r_join (fun j3 => ∀ (x1 : Int32) (s2 : fSt), fW Δ Γ 2 (fQ eI Δ Γ) 14 [] [.int x1] s2 (j3 x1 s2)) ?_ (fun j3 hj3 => ?_)
  · intro x1 s2
    exact r_iret C dX12_told_14
  refine r_if_ge (q := 4) (tgt := 13) C dX12_told_1 (by decide) rfl ?_ ?_
  · refine r_iload_n (q := 14) (i := 1) (z := 1) C dX12_told_13 rfl rfl rfl ?_
    refine r_locs (lc' := []) [] rfl ?_
    exact hj3 a1 st
  · refine r_aload_n (q := 5) (i := 0) (z := 0) C dX12_told_4 rfl rfl rfl ?_
    refine r_bipush (q := 7) (v := 8) C dX12_told_5 rfl (by decide) ?_
    refine r_callVI (q := 10) (As := [.int ((8 : Int32))]) wm_X12_348 yvX12_refuse (c_X12_refuse Δ hN ((8 : Int32)) st) ⟨rfl, by decide⟩ C (nm_12 hN) (by decide) rfl (Nat.le_of_ble_eq_true rfl) dX12_told_7 rfl (fun x4 s5 => ?_)
    refine r_goto (q := 14) C dX12_told_10 (by decide) ?_
    refine r_locs (lc' := []) [] rfl ?_
    exact hj3 x4 s5

noncomputable def f_X12_scene (a1 : Int32) (a2 : Int32) (st : fSt) : Option (Int32 × fSt) :=
  fLt (sI st 12 0 1 ((0 : Int32))) fun s1 =>
  fLt (sI s1 12 0 0 ((0 : Int32))) fun s2 =>
  fBd (f_X12_isSceneAt a1 s2) fun x3 s4 =>
  if ¬ x3 = 0 then
    (if a2 = (0 : Int32) then
      (fIx (((25 : Int32)) + a1) 2150 <|
      some (gA s4 12 0 5 (((25 : Int32)) + a1).toNatClampNeg, s4))
    else
    if a2 = (1 : Int32) then
      (fIx (((37 : Int32)) + a1) 2150 <|
      some (gA s4 12 0 5 (((37 : Int32)) + a1).toNatClampNeg, s4))
    else
    if a2 = (2 : Int32) then
      (fIx (((49 : Int32)) + a1) 2150 <|
      fBd (f_X12_told (gA s4 12 0 5 (((49 : Int32)) + a1).toNatClampNeg) s4) fun x8 s9 =>
      some (x8, s9))
    else
    if a2 = (3 : Int32) then
      (fIx (((61 : Int32)) + a1) 2150 <|
      fBd (f_X12_told (gA s4 12 0 5 (((61 : Int32)) + a1).toNatClampNeg) s4) fun x11 s12 =>
      some (x11, s12))
    else
    if a2 = (4 : Int32) then
      (fIx (((73 : Int32)) + a1) 2150 <|
      fBd (f_X12_told (gA s4 12 0 5 (((73 : Int32)) + a1).toNatClampNeg) s4) fun x14 s15 =>
      some (x14, s15))
    else
    if a2 = (5 : Int32) then
      (fIx (((85 : Int32)) + a1) 2150 <|
      fBd (f_X12_told (gA s4 12 0 5 (((85 : Int32)) + a1).toNatClampNeg) s4) fun x17 s18 =>
      some (x17, s18))
    else
    if a2 = (6 : Int32) then
      (fIx (((97 : Int32)) + a1) 2150 <|
      fBd (f_X12_told (gA s4 12 0 5 (((97 : Int32)) + a1).toNatClampNeg) s4) fun x20 s21 =>
      some (x20, s21))
    else
    if a2 = (7 : Int32) then
      (fIx (((109 : Int32)) + a1) 2150 <|
      fBd (f_X12_told (gA s4 12 0 5 (((109 : Int32)) + a1).toNatClampNeg) s4) fun x23 s24 =>
      some (x23, s24))
    else
    if a2 = (8 : Int32) then
      (fBd (f_X12_breathsOf a1 s4) fun x26 s27 =>
      some (x26, s27))
    else
    fBd (f_X12_refuse ((5 : Int32)) s4) fun x28 s29 =>
    some (x28, s29))
  else
    (fBd (f_X12_refuse ((2 : Int32)) s4) fun x30 s31 =>
    some (x30, s31))

set_option maxHeartbeats 4000000 in
set_option maxRecDepth 100000 in
theorem c_X12_scene (Δ : fDl) (hN : fNm Δ) (a1 : Int32) (a2 : Int32)  (st : fSt) : fMt eI Δ yX12_scene cX12_scene 3 (some .int) 3 [.ref (fad Δ 12 0 0), .int a1, .int a2] st (f_X12_scene a1 a2 st) := by
  unfold f_X12_scene
  refine r_method (by decide +kernel) (Nat.le_of_ble_eq_true rfl) (fun Γ C => ?_)
  have C : fC Δ Γ cX12_scene RX12 3 (some .int) 3 := C
  refine r_locs (lc' := [(0, .ref (fad Δ 12 0 0)), (1, .int a1), (2, .int a2)]) [0, 1, 2] rfl ?_
  refine r_aload_n (q := 1) (i := 0) (z := 0) C dX12_scene_0 rfl rfl rfl ?_
  refine r_iconst (q := 2) (v := 0) C dX12_scene_1 rfl (by decide) ?_
  refine p_X12_90 (q := 5) C (nm_12 hN) dX12_scene_2 rfl (fun s1 => ?_)
  refine r_aload_n (q := 6) (i := 0) (z := 0) C dX12_scene_5 rfl rfl rfl ?_
  refine r_iconst (q := 7) (v := 0) C dX12_scene_6 rfl (by decide) ?_
  refine p_X12_93 (q := 10) C (nm_12 hN) dX12_scene_7 rfl (fun s2 => ?_)
  refine r_aload_n (q := 11) (i := 0) (z := 0) C dX12_scene_10 rfl rfl rfl ?_
  refine r_iload_n (q := 12) (i := 1) (z := 1) C dX12_scene_11 rfl rfl rfl ?_
  refine r_callVI (q := 15) (As := [.int a1]) wm_X12_351 yvX12_isSceneAt (c_X12_isSceneAt Δ hN a1 s2) ⟨rfl, by decide⟩ C (nm_12 hN) (by decide) rfl (Nat.le_of_ble_eq_true rfl) dX12_scene_12 rfl (fun x3 s4 => ?_)
  refine r_if_ne (q := 18) (tgt := 24) C dX12_scene_15 (by decide) rfl ?_ ?_
  · refine r_iload_n (q := 25) (i := 2) (z := 2) C dX12_scene_24 rfl rfl rfl ?_
    refine r_bif (fun hs5 => ?_) (fun hs5 => ?_)
    · refine r_tsHit (tgt := 76) (n := 0) C dX12_scene_25 hs5 (by decide) (by decide) (by decide) rfl (by decide) ?_
      refine r_aload_n (q := 77) (i := 0) (z := 0) C dX12_scene_76 rfl rfl rfl ?_
      refine g_X12_35 (q := 80) C (nm_12 hN) dX12_scene_77 rfl ?_
      refine r_bipush (q := 82) (v := 25) C dX12_scene_80 rfl (by decide) ?_
      refine r_iload_n (q := 83) (i := 1) (z := 1) C dX12_scene_82 rfl rfl rfl ?_
      refine r_iadd (q := 84) C dX12_scene_83 rfl ?_
      refine r_ial (q := 85) q_12_5 h_12_5 C (nm_12 hN) dX12_scene_84 rfl ?_
      exact r_iret C dX12_scene_85
    refine r_bif (fun hs6 => ?_) (fun hs6 => ?_)
    · refine r_tsHit (tgt := 86) (n := 1) C dX12_scene_25 hs6 (by decide) (by decide) (by decide) rfl (by decide) ?_
      refine r_aload_n (q := 87) (i := 0) (z := 0) C dX12_scene_86 rfl rfl rfl ?_
      refine g_X12_35 (q := 90) C (nm_12 hN) dX12_scene_87 rfl ?_
      refine r_bipush (q := 92) (v := 37) C dX12_scene_90 rfl (by decide) ?_
      refine r_iload_n (q := 93) (i := 1) (z := 1) C dX12_scene_92 rfl rfl rfl ?_
      refine r_iadd (q := 94) C dX12_scene_93 rfl ?_
      refine r_ial (q := 95) q_12_5 h_12_5 C (nm_12 hN) dX12_scene_94 rfl ?_
      exact r_iret C dX12_scene_95
    refine r_bif (fun hs7 => ?_) (fun hs7 => ?_)
    · refine r_tsHit (tgt := 96) (n := 2) C dX12_scene_25 hs7 (by decide) (by decide) (by decide) rfl (by decide) ?_
      refine r_aload_n (q := 97) (i := 0) (z := 0) C dX12_scene_96 rfl rfl rfl ?_
      refine r_aload_n (q := 98) (i := 0) (z := 0) C dX12_scene_97 rfl rfl rfl ?_
      refine g_X12_35 (q := 101) C (nm_12 hN) dX12_scene_98 rfl ?_
      refine r_bipush (q := 103) (v := 49) C dX12_scene_101 rfl (by decide) ?_
      refine r_iload_n (q := 104) (i := 1) (z := 1) C dX12_scene_103 rfl rfl rfl ?_
      refine r_iadd (q := 105) C dX12_scene_104 rfl ?_
      refine r_ial (q := 106) q_12_5 h_12_5 C (nm_12 hN) dX12_scene_105 rfl ?_
      refine r_callVI (q := 109) (As := [.int (gA s4 12 0 5 (((49 : Int32)) + a1).toNatClampNeg)]) wm_X12_354 yvX12_told (c_X12_told Δ hN (gA s4 12 0 5 (((49 : Int32)) + a1).toNatClampNeg) s4) ⟨rfl, by decide⟩ C (nm_12 hN) (by decide) rfl (Nat.le_of_ble_eq_true rfl) dX12_scene_106 rfl (fun x8 s9 => ?_)
      exact r_iret C dX12_scene_109
    refine r_bif (fun hs10 => ?_) (fun hs10 => ?_)
    · refine r_tsHit (tgt := 110) (n := 3) C dX12_scene_25 hs10 (by decide) (by decide) (by decide) rfl (by decide) ?_
      refine r_aload_n (q := 111) (i := 0) (z := 0) C dX12_scene_110 rfl rfl rfl ?_
      refine r_aload_n (q := 112) (i := 0) (z := 0) C dX12_scene_111 rfl rfl rfl ?_
      refine g_X12_35 (q := 115) C (nm_12 hN) dX12_scene_112 rfl ?_
      refine r_bipush (q := 117) (v := 61) C dX12_scene_115 rfl (by decide) ?_
      refine r_iload_n (q := 118) (i := 1) (z := 1) C dX12_scene_117 rfl rfl rfl ?_
      refine r_iadd (q := 119) C dX12_scene_118 rfl ?_
      refine r_ial (q := 120) q_12_5 h_12_5 C (nm_12 hN) dX12_scene_119 rfl ?_
      refine r_callVI (q := 123) (As := [.int (gA s4 12 0 5 (((61 : Int32)) + a1).toNatClampNeg)]) wm_X12_354 yvX12_told (c_X12_told Δ hN (gA s4 12 0 5 (((61 : Int32)) + a1).toNatClampNeg) s4) ⟨rfl, by decide⟩ C (nm_12 hN) (by decide) rfl (Nat.le_of_ble_eq_true rfl) dX12_scene_120 rfl (fun x11 s12 => ?_)
      exact r_iret C dX12_scene_123
    refine r_bif (fun hs13 => ?_) (fun hs13 => ?_)
    · refine r_tsHit (tgt := 124) (n := 4) C dX12_scene_25 hs13 (by decide) (by decide) (by decide) rfl (by decide) ?_
      refine r_aload_n (q := 125) (i := 0) (z := 0) C dX12_scene_124 rfl rfl rfl ?_
      refine r_aload_n (q := 126) (i := 0) (z := 0) C dX12_scene_125 rfl rfl rfl ?_
      refine g_X12_35 (q := 129) C (nm_12 hN) dX12_scene_126 rfl ?_
      refine r_bipush (q := 131) (v := 73) C dX12_scene_129 rfl (by decide) ?_
      refine r_iload_n (q := 132) (i := 1) (z := 1) C dX12_scene_131 rfl rfl rfl ?_
      refine r_iadd (q := 133) C dX12_scene_132 rfl ?_
      refine r_ial (q := 134) q_12_5 h_12_5 C (nm_12 hN) dX12_scene_133 rfl ?_
      refine r_callVI (q := 137) (As := [.int (gA s4 12 0 5 (((73 : Int32)) + a1).toNatClampNeg)]) wm_X12_354 yvX12_told (c_X12_told Δ hN (gA s4 12 0 5 (((73 : Int32)) + a1).toNatClampNeg) s4) ⟨rfl, by decide⟩ C (nm_12 hN) (by decide) rfl (Nat.le_of_ble_eq_true rfl) dX12_scene_134 rfl (fun x14 s15 => ?_)
      exact r_iret C dX12_scene_137
    refine r_bif (fun hs16 => ?_) (fun hs16 => ?_)
    · refine r_tsHit (tgt := 138) (n := 5) C dX12_scene_25 hs16 (by decide) (by decide) (by decide) rfl (by decide) ?_
      refine r_aload_n (q := 139) (i := 0) (z := 0) C dX12_scene_138 rfl rfl rfl ?_
      refine r_aload_n (q := 140) (i := 0) (z := 0) C dX12_scene_139 rfl rfl rfl ?_
      refine g_X12_35 (q := 143) C (nm_12 hN) dX12_scene_140 rfl ?_
      refine r_bipush (q := 145) (v := 85) C dX12_scene_143 rfl (by decide) ?_
      refine r_iload_n (q := 146) (i := 1) (z := 1) C dX12_scene_145 rfl rfl rfl ?_
      refine r_iadd (q := 147) C dX12_scene_146 rfl ?_
      refine r_ial (q := 148) q_12_5 h_12_5 C (nm_12 hN) dX12_scene_147 rfl ?_
      refine r_callVI (q := 151) (As := [.int (gA s4 12 0 5 (((85 : Int32)) + a1).toNatClampNeg)]) wm_X12_354 yvX12_told (c_X12_told Δ hN (gA s4 12 0 5 (((85 : Int32)) + a1).toNatClampNeg) s4) ⟨rfl, by decide⟩ C (nm_12 hN) (by decide) rfl (Nat.le_of_ble_eq_true rfl) dX12_scene_148 rfl (fun x17 s18 => ?_)
      exact r_iret C dX12_scene_151
    refine r_bif (fun hs19 => ?_) (fun hs19 => ?_)
    · refine r_tsHit (tgt := 152) (n := 6) C dX12_scene_25 hs19 (by decide) (by decide) (by decide) rfl (by decide) ?_
      refine r_aload_n (q := 153) (i := 0) (z := 0) C dX12_scene_152 rfl rfl rfl ?_
      refine r_aload_n (q := 154) (i := 0) (z := 0) C dX12_scene_153 rfl rfl rfl ?_
      refine g_X12_35 (q := 157) C (nm_12 hN) dX12_scene_154 rfl ?_
      refine r_bipush (q := 159) (v := 97) C dX12_scene_157 rfl (by decide) ?_
      refine r_iload_n (q := 160) (i := 1) (z := 1) C dX12_scene_159 rfl rfl rfl ?_
      refine r_iadd (q := 161) C dX12_scene_160 rfl ?_
      refine r_ial (q := 162) q_12_5 h_12_5 C (nm_12 hN) dX12_scene_161 rfl ?_
      refine r_callVI (q := 165) (As := [.int (gA s4 12 0 5 (((97 : Int32)) + a1).toNatClampNeg)]) wm_X12_354 yvX12_told (c_X12_told Δ hN (gA s4 12 0 5 (((97 : Int32)) + a1).toNatClampNeg) s4) ⟨rfl, by decide⟩ C (nm_12 hN) (by decide) rfl (Nat.le_of_ble_eq_true rfl) dX12_scene_162 rfl (fun x20 s21 => ?_)
      exact r_iret C dX12_scene_165
    refine r_bif (fun hs22 => ?_) (fun hs22 => ?_)
    · refine r_tsHit (tgt := 166) (n := 7) C dX12_scene_25 hs22 (by decide) (by decide) (by decide) rfl (by decide) ?_
      refine r_aload_n (q := 167) (i := 0) (z := 0) C dX12_scene_166 rfl rfl rfl ?_
      refine r_aload_n (q := 168) (i := 0) (z := 0) C dX12_scene_167 rfl rfl rfl ?_
      refine g_X12_35 (q := 171) C (nm_12 hN) dX12_scene_168 rfl ?_
      refine r_bipush (q := 173) (v := 109) C dX12_scene_171 rfl (by decide) ?_
      refine r_iload_n (q := 174) (i := 1) (z := 1) C dX12_scene_173 rfl rfl rfl ?_
      refine r_iadd (q := 175) C dX12_scene_174 rfl ?_
      refine r_ial (q := 176) q_12_5 h_12_5 C (nm_12 hN) dX12_scene_175 rfl ?_
      refine r_callVI (q := 179) (As := [.int (gA s4 12 0 5 (((109 : Int32)) + a1).toNatClampNeg)]) wm_X12_354 yvX12_told (c_X12_told Δ hN (gA s4 12 0 5 (((109 : Int32)) + a1).toNatClampNeg) s4) ⟨rfl, by decide⟩ C (nm_12 hN) (by decide) rfl (Nat.le_of_ble_eq_true rfl) dX12_scene_176 rfl (fun x23 s24 => ?_)
      exact r_iret C dX12_scene_179
    refine r_bif (fun hs25 => ?_) (fun hs25 => ?_)
    · refine r_tsHit (tgt := 180) (n := 8) C dX12_scene_25 hs25 (by decide) (by decide) (by decide) rfl (by decide) ?_
      refine r_aload_n (q := 181) (i := 0) (z := 0) C dX12_scene_180 rfl rfl rfl ?_
      refine r_iload_n (q := 182) (i := 1) (z := 1) C dX12_scene_181 rfl rfl rfl ?_
      refine r_callVI (q := 185) (As := [.int a1]) wm_X12_357 yvX12_breathsOf (c_X12_breathsOf Δ hN a1 s4) ⟨rfl, by decide⟩ C (nm_12 hN) (by decide) rfl (Nat.le_of_ble_eq_true rfl) dX12_scene_182 rfl (fun x26 s27 => ?_)
      exact r_iret C dX12_scene_185
    refine r_tsDef (tgt := 186) C dX12_scene_25 (by have ehs5 := fNe hs5 0 (by decide); have ehs6 := fNe hs6 1 (by decide); have ehs7 := fNe hs7 2 (by decide); have ehs10 := fNe hs10 3 (by decide); have ehs13 := fNe hs13 4 (by decide); have ehs16 := fNe hs16 5 (by decide); have ehs19 := fNe hs19 6 (by decide); have ehs22 := fNe hs22 7 (by decide); have ehs25 := fNe hs25 8 (by decide); omega) (by decide) ?_
    refine r_aload_n (q := 187) (i := 0) (z := 0) C dX12_scene_186 rfl rfl rfl ?_
    refine r_iconst (q := 188) (v := 5) C dX12_scene_187 rfl (by decide) ?_
    refine r_callVI (q := 191) (As := [.int ((5 : Int32))]) wm_X12_348 yvX12_refuse (c_X12_refuse Δ hN ((5 : Int32)) s4) ⟨rfl, by decide⟩ C (nm_12 hN) (by decide) rfl (Nat.le_of_ble_eq_true rfl) dX12_scene_188 rfl (fun x28 s29 => ?_)
    exact r_iret C dX12_scene_191
  · refine r_aload_n (q := 19) (i := 0) (z := 0) C dX12_scene_18 rfl rfl rfl ?_
    refine r_iconst (q := 20) (v := 2) C dX12_scene_19 rfl (by decide) ?_
    refine r_callVI (q := 23) (As := [.int ((2 : Int32))]) wm_X12_348 yvX12_refuse (c_X12_refuse Δ hN ((2 : Int32)) s4) ⟨rfl, by decide⟩ C (nm_12 hN) (by decide) rfl (Nat.le_of_ble_eq_true rfl) dX12_scene_20 rfl (fun x30 s31 => ?_)
    exact r_iret C dX12_scene_23

noncomputable def f_X12_seen (a1 : Int32) (a2 : Int32) (st : fSt) : Option (Int32 × fSt) :=
  fLt (sI st 12 0 1 ((0 : Int32))) fun s1 =>
  fLt (sI s1 12 0 0 ((0 : Int32))) fun s2 =>
  fBd (f_X12_isSceneAt a1 s2) fun x3 s4 =>
  fJn (fun (s5 : fSt) =>
    (fBd (f_X12_no ((2 : Int32)) s5) fun x7 s8 =>
    fBo x7 (some (x7, s8)))) fun (j6 : fSt → Option (Int32 × fSt)) =>
  if x3 = 0 then
    (j6 s4)
  else
    (fBd (f_X12_isKindOrLot a2 s4) fun x9 s10 =>
    if ¬ x9 = 0 then
      (fBd (f_X12_whyNoOdds a2 s10) fun x11 s12 =>
      fLt (sI s12 12 0 0 x11) fun s13 =>
      if (gI s13 12 0 0) ≤ 0 then
        (fBd (f_X12_sums a2 s13) fun _ s14 =>
        fIx a1 12 <|
        fBd (f_X12_fraction (gB s14 12 0 13 a1.toNatClampNeg) (gL s14 12 0 42) s14) fun x15 s16 =>
        fBo x15 (some (x15, s16)))
      else
        (some ((0 : Int32), s13)))
    else
      (j6 s10))

set_option maxHeartbeats 4000000 in
set_option maxRecDepth 100000 in
theorem c_X12_seen (Δ : fDl) (hN : fNm Δ) (a1 : Int32) (a2 : Int32)  (st : fSt) : fMt eI Δ yX12_seen cX12_seen 3 (some .boolean) 20 [.ref (fad Δ 12 0 0), .int a1, .int a2] st (f_X12_seen a1 a2 st) := by
  unfold f_X12_seen
  refine r_method (by decide +kernel) (Nat.le_of_ble_eq_true rfl) (fun Γ C => ?_)
  have C : fC Δ Γ cX12_seen RX12 3 (some .boolean) 20 := C
  refine r_locs (lc' := [(0, .ref (fad Δ 12 0 0)), (1, .int a1), (2, .int a2)]) [0, 1, 2] rfl ?_
  refine r_aload_n (q := 1) (i := 0) (z := 0) C dX12_seen_0 rfl rfl rfl ?_
  refine r_iconst (q := 2) (v := 0) C dX12_seen_1 rfl (by decide) ?_
  refine p_X12_90 (q := 5) C (nm_12 hN) dX12_seen_2 rfl (fun s1 => ?_)
  refine r_aload_n (q := 6) (i := 0) (z := 0) C dX12_seen_5 rfl rfl rfl ?_
  refine r_iconst (q := 7) (v := 0) C dX12_seen_6 rfl (by decide) ?_
  refine p_X12_93 (q := 10) C (nm_12 hN) dX12_seen_7 rfl (fun s2 => ?_)
  refine r_aload_n (q := 11) (i := 0) (z := 0) C dX12_seen_10 rfl rfl rfl ?_
  refine r_iload_n (q := 12) (i := 1) (z := 1) C dX12_seen_11 rfl rfl rfl ?_
  refine r_callVI (q := 15) (As := [.int a1]) wm_X12_351 yvX12_isSceneAt (c_X12_isSceneAt Δ hN a1 s2) ⟨rfl, by decide⟩ C (nm_12 hN) (by decide) rfl (Nat.le_of_ble_eq_true rfl) dX12_seen_12 rfl (fun x3 s4 => ?_)
  refine r_join (fun j6 => ∀  (s5 : fSt), fW Δ Γ 3 (fQ eI Δ Γ) 26 [(0, .ref (fad Δ 12 0 0))] [] s5 (j6 s5)) ?_ (fun j6 hj6 => ?_)
  · intro s5
    refine r_aload_n (q := 27) (i := 0) (z := 0) C dX12_seen_26 rfl rfl rfl ?_
    refine r_iconst (q := 28) (v := 2) C dX12_seen_27 rfl (by decide) ?_
    refine r_callVI (q := 31) (As := [.int ((2 : Int32))]) wm_X12_109 yvX12_no (c_X12_no Δ hN ((2 : Int32)) s5) ⟨rfl, by decide⟩ C (nm_12 hN) (by decide) rfl (Nat.le_of_ble_eq_true rfl) dX12_seen_28 rfl (fun x7 s8 => ?_)
    exact r_zret C dX12_seen_31
  refine r_if_eq (q := 18) (tgt := 26) C dX12_seen_15 (by decide) rfl ?_ ?_
  · refine r_locs (lc' := [(0, .ref (fad Δ 12 0 0))]) [0] rfl ?_
    exact hj6 s4
  · refine r_aload_n (q := 19) (i := 0) (z := 0) C dX12_seen_18 rfl rfl rfl ?_
    refine r_iload_n (q := 20) (i := 2) (z := 2) C dX12_seen_19 rfl rfl rfl ?_
    refine r_callVI (q := 23) (As := [.int a2]) wm_X12_495 yvX12_isKindOrLot (c_X12_isKindOrLot Δ hN a2 s4) ⟨rfl, by decide⟩ C (nm_12 hN) (by decide) rfl (Nat.le_of_ble_eq_true rfl) dX12_seen_20 rfl (fun x9 s10 => ?_)
    refine r_if_ne (q := 26) (tgt := 32) C dX12_seen_23 (by decide) rfl ?_ ?_
    · refine r_aload_n (q := 33) (i := 0) (z := 0) C dX12_seen_32 rfl rfl rfl ?_
      refine r_aload_n (q := 34) (i := 0) (z := 0) C dX12_seen_33 rfl rfl rfl ?_
      refine r_iload_n (q := 35) (i := 2) (z := 2) C dX12_seen_34 rfl rfl rfl ?_
      refine r_callVI (q := 38) (As := [.int a2]) wm_X12_500 yvX12_whyNoOdds (c_X12_whyNoOdds Δ hN a2 s10) ⟨rfl, by decide⟩ C (nm_12 hN) (by decide) rfl (Nat.le_of_ble_eq_true rfl) dX12_seen_35 rfl (fun x11 s12 => ?_)
      refine p_X12_93 (q := 41) C (nm_12 hN) dX12_seen_38 rfl (fun s13 => ?_)
      refine r_aload_n (q := 42) (i := 0) (z := 0) C dX12_seen_41 rfl rfl rfl ?_
      refine g_X12_93 (q := 45) C (nm_12 hN) dX12_seen_42 rfl ?_
      refine r_if_le (q := 48) (tgt := 50) C dX12_seen_45 (by decide) rfl ?_ ?_
      · refine r_aload_n (q := 51) (i := 0) (z := 0) C dX12_seen_50 rfl rfl rfl ?_
        refine r_iload_n (q := 52) (i := 2) (z := 2) C dX12_seen_51 rfl rfl rfl ?_
        refine r_callVV (q := 55) (As := [.int a2]) wm_X12_503 yvX12_sums (c_X12_sums Δ hN a2 s13) ⟨rfl, by decide⟩ C (nm_12 hN) (by decide) rfl (Nat.le_of_ble_eq_true rfl) dX12_seen_52 rfl (fun _ s14 => ?_)
        refine r_aload_n (q := 56) (i := 0) (z := 0) C dX12_seen_55 rfl rfl rfl ?_
        refine r_aload_n (q := 57) (i := 0) (z := 0) C dX12_seen_56 rfl rfl rfl ?_
        refine g_X12_60 (q := 60) C (nm_12 hN) dX12_seen_57 rfl ?_
        refine r_iload_n (q := 61) (i := 1) (z := 1) C dX12_seen_60 rfl rfl rfl ?_
        refine r_lal (q := 62) q_12_13 h_12_13 C (nm_12 hN) dX12_seen_61 rfl ?_
        refine r_aload_n (q := 63) (i := 0) (z := 0) C dX12_seen_62 rfl rfl rfl ?_
        refine g_X12_489 (q := 66) C (nm_12 hN) dX12_seen_63 rfl ?_
        refine r_callVI (q := 69) (As := [.long (gB s14 12 0 13 a1.toNatClampNeg), .long (gL s14 12 0 42)]) wm_X12_506 yvX12_fraction (c_X12_fraction Δ hN (gB s14 12 0 13 a1.toNatClampNeg) (gL s14 12 0 42) s14) ⟨rfl, by decide⟩ C (nm_12 hN) (by decide) rfl (Nat.le_of_ble_eq_true rfl) dX12_seen_66 rfl (fun x15 s16 => ?_)
        exact r_zret C dX12_seen_69
      · refine r_iconst (q := 49) (v := 0) C dX12_seen_48 rfl (by decide) ?_
        exact r_zret0 (Or.inl rfl) C dX12_seen_49
    · refine r_locs (lc' := [(0, .ref (fad Δ 12 0 0))]) [0] rfl ?_
      exact hj6 s10

noncomputable def f_X12_stage_L178  : Nat → Int32 → fSt → Option (Int32 × fSt)
  | 0, _, _ => none
  | n18 + 1, x16, s17 =>
      if ((28 : Int32)) ≤ x16 then
                  (fIx ((2 : Int32)) 2150 <|
                  some (gA s17 12 0 5 ((2 : Int32)).toNatClampNeg, s17))
                else
                  (fIx (((112 : Int32)) + x16) 140 <|
                  fIx x16 140 <|
                  fLt (sB s17 12 0 7 (vp_updL (gB s17 12 0 7) x16.toNatClampNeg (gB s17 12 0 7 (((112 : Int32)) + x16).toNatClampNeg))) fun s19 =>
                  fLt (x16 + (1 : Int32)) fun (x20 : Int32) =>
                  f_X12_stage_L178 n18 x20 s19)

noncomputable def f_X12_stage_L147 (k14 : fSt → Option (Int32 × fSt)) : Nat → Int32 → fSt → Option (Int32 × fSt)
  | 0, _, _ => none
  | n23 + 1, x21, s22 =>
      if ((430 : Int32)) ≤ x21 then
                (k14 s22)
              else
                (fIx (((1720 : Int32)) + x21) 2150 <|
                fIx x21 2150 <|
                fLt (sA s22 12 0 5 (upd (gA s22 12 0 5) x21.toNatClampNeg (gA s22 12 0 5 (((1720 : Int32)) + x21).toNatClampNeg))) fun s24 =>
                fLt (x21 + (1 : Int32)) fun (x25 : Int32) =>
                f_X12_stage_L147 k14 n23 x25 s24)

noncomputable def f_X12_stage_L49 (k9 : fSt → Option (Int32 × fSt)) : Nat → fSt → Option (Int32 × fSt)
  | 0, _ => none
  | n27 + 1, s26 =>
      if ¬ (gI s26 12 0 12) = 0 then
            (k9 s26)
          else
            (if (gI s26 12 0 14) = 0 then
              (k9 s26)
            else
              (fBd (f_X12_isRole  s26) fun x28 s29 =>
              fJn (fun (s30 : fSt) =>
                (fBd (f_X12_isSign ((59 : Int32)) s30) fun x32 s33 =>
                fBd (f_X12_must x32 s33) fun _ s34 =>
                f_X12_stage_L49 k9 n27 s34)) fun (j31 : fSt → Option (Int32 × fSt)) =>
              if x28 = 0 then
                (fBd (f_X12_isActor  s29) fun x35 s36 =>
                if x35 = 0 then
                  (fBd (f_X12_isScene  s36) fun x37 s38 =>
                  if x37 = 0 then
                    (fBd (f_X12_isKind  s38) fun x39 s40 =>
                    if x39 = 0 then
                      (fBd (f_X12_wrong  s40) fun _ s41 =>
                      j31 s41)
                    else
                      (fBd (f_X12_readKind  s40) fun _ s42 =>
                      j31 s42))
                  else
                    (fBd (f_X12_readScene  s38) fun _ s43 =>
                    j31 s43))
                else
                  (fBd (f_X12_readActor  s36) fun _ s44 =>
                  j31 s44))
              else
                (fBd (f_X12_readRole  s29) fun _ s45 =>
                j31 s45)))

noncomputable def f_X12_stage_L25 (k7 : fSt → Option (Int32 × fSt)) : Nat → Int32 → fSt → Option (Int32 × fSt)
  | 0, _, _ => none
  | n48 + 1, x46, s47 =>
      if ((430 : Int32)) ≤ x46 then
          (k7 s47)
        else
          (fIx (((1720 : Int32)) + x46) 2150 <|
          fLt (sA s47 12 0 5 (upd (gA s47 12 0 5) (((1720 : Int32)) + x46).toNatClampNeg ((0 : Int32)))) fun s49 =>
          fLt (x46 + (1 : Int32)) fun (x50 : Int32) =>
          f_X12_stage_L25 k7 n48 x50 s49)

noncomputable def f_X12_stage (a1 : Int32) (st : fSt) : Option (Int32 × fSt) :=
  fLt (sI st 12 0 1 ((0 : Int32))) fun s1 =>
  fLt (sI s1 12 0 0 ((0 : Int32))) fun s2 =>
  fBd (f_X12_opens a1 ((900 : Int32)) s2) fun x3 s4 =>
  if ¬ x3 = 0 then
    (fLt ((0 : Int32)) fun (x5 : Int32) =>
    fJn (fun (s6 : fSt) =>
      (fJn (fun (s8 : fSt) =>
        (fBd (f_X12_isWell  s8) fun x10 s11 =>
        if ¬ x10 = 0 then
          (fLt ((0 : Int32)) fun (x12 : Int32) =>
          fJn (fun (s13 : fSt) =>
            (fLt ((0 : Int32)) fun (x15 : Int32) =>
            f_X12_stage_L178 fF x15 s13)) fun (k14 : fSt → Option (Int32 × fSt)) =>
          f_X12_stage_L147 k14 fF x12 s11)
        else
          (some ((-1 : Int32), s11)))) fun (k9 : fSt → Option (Int32 × fSt)) =>
      f_X12_stage_L49 k9 fF s6)) fun (k7 : fSt → Option (Int32 × fSt)) =>
    f_X12_stage_L25 k7 fF x5 s4)
  else
    (some ((-1 : Int32), s4))

set_option maxHeartbeats 4000000 in
set_option maxRecDepth 100000 in
theorem c_X12_stage (Δ : fDl) (hN : fNm Δ) (a1 : Int32)  (st : fSt) : fMt eI Δ yX12_stage cX12_stage 3 (some .int) 8 [.ref (fad Δ 12 0 0), .int a1] st (f_X12_stage a1 st) := by
  unfold f_X12_stage
  refine r_method (by decide +kernel) (Nat.le_of_ble_eq_true rfl) (fun Γ C => ?_)
  have C : fC Δ Γ cX12_stage RX12 3 (some .int) 8 := C
  refine r_locs (lc' := [(0, .ref (fad Δ 12 0 0)), (1, .int a1)]) [0, 1] rfl ?_
  refine r_aload_n (q := 1) (i := 0) (z := 0) C dX12_stage_0 rfl rfl rfl ?_
  refine r_iconst (q := 2) (v := 0) C dX12_stage_1 rfl (by decide) ?_
  refine p_X12_90 (q := 5) C (nm_12 hN) dX12_stage_2 rfl (fun s1 => ?_)
  refine r_aload_n (q := 6) (i := 0) (z := 0) C dX12_stage_5 rfl rfl rfl ?_
  refine r_iconst (q := 7) (v := 0) C dX12_stage_6 rfl (by decide) ?_
  refine p_X12_93 (q := 10) C (nm_12 hN) dX12_stage_7 rfl (fun s2 => ?_)
  refine r_aload_n (q := 11) (i := 0) (z := 0) C dX12_stage_10 rfl rfl rfl ?_
  refine r_iload_n (q := 12) (i := 1) (z := 1) C dX12_stage_11 rfl rfl rfl ?_
  refine r_sipush (q := 15) (v := 900) C dX12_stage_12 rfl (by decide) ?_
  refine r_callVI (q := 18) (As := [.int a1, .int ((900 : Int32))]) wm_X12_302 yvX12_opens (c_X12_opens Δ hN a1 ((900 : Int32)) s2) ⟨rfl, by decide⟩ C (nm_12 hN) (by decide) rfl (Nat.le_of_ble_eq_true rfl) dX12_stage_15 rfl (fun x3 s4 => ?_)
  refine r_if_ne (q := 21) (tgt := 23) C dX12_stage_18 (by decide) rfl ?_ ?_
  · refine r_iconst (q := 24) (v := 0) C dX12_stage_23 rfl (by decide) ?_
    refine r_istore_n (q := 25) (i := 2) [(0, .ref (fad Δ 12 0 0)), (1, .int a1)] C dX12_stage_24 rfl rfl (by decide) rfl (fun x5 => ?_)
    refine r_join (fun k7 => ∀  (s6 : fSt), fW Δ Γ 3 (fQ eI Δ Γ) 49 [(0, .ref (fad Δ 12 0 0))] [] s6 (k7 s6)) ?_ (fun k7 hk7 => ?_)
    · intro s6
      refine r_join (fun k9 => ∀  (s8 : fSt), fW Δ Γ 3 (fQ eI Δ Γ) 136 [(0, .ref (fad Δ 12 0 0))] [] s8 (k9 s8)) ?_ (fun k9 hk9 => ?_)
      · intro s8
        refine r_aload_n (q := 137) (i := 0) (z := 0) C dX12_stage_136 rfl rfl rfl ?_
        refine r_callVI (q := 140) (As := []) wm_X12_321 yvX12_isWell (c_X12_isWell Δ hN s8) ⟨rfl, by decide⟩ C (nm_12 hN) (by decide) rfl (Nat.le_of_ble_eq_true rfl) dX12_stage_137 rfl (fun x10 s11 => ?_)
        refine r_if_ne (q := 143) (tgt := 145) C dX12_stage_140 (by decide) rfl ?_ ?_
        · refine r_iconst (q := 146) (v := 0) C dX12_stage_145 rfl (by decide) ?_
          refine r_istore_n (q := 147) (i := 2) [(0, .ref (fad Δ 12 0 0))] C dX12_stage_146 rfl rfl (by decide) rfl (fun x12 => ?_)
          refine r_join (fun k14 => ∀  (s13 : fSt), fW Δ Γ 3 (fQ eI Δ Γ) 176 [(0, .ref (fad Δ 12 0 0))] [] s13 (k14 s13)) ?_ (fun k14 hk14 => ?_)
          · intro s13
            refine r_iconst (q := 177) (v := 0) C dX12_stage_176 rfl (by decide) ?_
            refine r_istore_n (q := 178) (i := 2) [(0, .ref (fad Δ 12 0 0))] C dX12_stage_177 rfl rfl (by decide) rfl (fun x15 => ?_)
            refine r_locs (lc' := [(0, .ref (fad Δ 12 0 0)), (2, .int x15)]) [1, 0] rfl ?_
            have L178 : ∀ (n18 : Nat) (x16 : Int32) (s17 : fSt), fW Δ Γ 3 (fQ eI Δ Γ) 178 [(0, .ref (fad Δ 12 0 0)), (2, .int x16)] [] s17 (f_X12_stage_L178 n18 x16 s17) := by
              intro n18
              induction n18 with
              | zero =>
                intro x16 s17
                rw [f_X12_stage_L178]
                exact r_none
              | succ n18 ih_n18 =>
                intro x16 s17
                rw [f_X12_stage_L178]
                refine r_iload_n (q := 179) (i := 2) (z := 1) C dX12_stage_178 rfl rfl rfl ?_
                refine r_bipush (q := 181) (v := 28) C dX12_stage_179 rfl (by decide) ?_
                refine r_icmp_ge (q := 184) (tgt := 205) C dX12_stage_181 (by decide) rfl ?_ ?_
                · refine r_aload_n (q := 206) (i := 0) (z := 0) C dX12_stage_205 rfl rfl rfl ?_
                  refine g_X12_35 (q := 209) C (nm_12 hN) dX12_stage_206 rfl ?_
                  refine r_iconst (q := 210) (v := 2) C dX12_stage_209 rfl (by decide) ?_
                  refine r_ial (q := 211) q_12_5 h_12_5 C (nm_12 hN) dX12_stage_210 rfl ?_
                  exact r_iret C dX12_stage_211
                · refine r_aload_n (q := 185) (i := 0) (z := 0) C dX12_stage_184 rfl rfl rfl ?_
                  refine g_X12_41 (q := 188) C (nm_12 hN) dX12_stage_185 rfl ?_
                  refine r_iload_n (q := 189) (i := 2) (z := 1) C dX12_stage_188 rfl rfl rfl ?_
                  refine r_aload_n (q := 190) (i := 0) (z := 0) C dX12_stage_189 rfl rfl rfl ?_
                  refine g_X12_41 (q := 193) C (nm_12 hN) dX12_stage_190 rfl ?_
                  refine r_bipush (q := 195) (v := 112) C dX12_stage_193 rfl (by decide) ?_
                  refine r_iload_n (q := 196) (i := 2) (z := 1) C dX12_stage_195 rfl rfl rfl ?_
                  refine r_iadd (q := 197) C dX12_stage_196 rfl ?_
                  refine r_lal (q := 198) q_12_7 h_12_7 C (nm_12 hN) dX12_stage_197 rfl ?_
                  refine r_lst (q := 199) q_12_7 h_12_7 C (nm_12 hN) dX12_stage_198 rfl (fun s19 => ?_)
                  refine r_iinc (q := 202) (z := 1) (d := 1) [(0, .ref (fad Δ 12 0 0))] C dX12_stage_199 rfl rfl (by decide) (by decide) rfl (fun x20 => ?_)
                  refine r_goto (q := 178) C dX12_stage_202 (by decide) ?_
                  refine r_locs (lc' := [(0, .ref (fad Δ 12 0 0)), (2, .int x20)]) [1, 0] rfl ?_
                  exact ih_n18 x20 s19
            exact L178 fF x15 s13
          refine r_locs (lc' := [(0, .ref (fad Δ 12 0 0)), (2, .int x12)]) [1, 0] rfl ?_
          have L147 : ∀ (n23 : Nat) (x21 : Int32) (s22 : fSt), fW Δ Γ 3 (fQ eI Δ Γ) 147 [(0, .ref (fad Δ 12 0 0)), (2, .int x21)] [] s22 (f_X12_stage_L147 k14 n23 x21 s22) := by
            intro n23
            induction n23 with
            | zero =>
              intro x21 s22
              rw [f_X12_stage_L147]
              exact r_none
            | succ n23 ih_n23 =>
              intro x21 s22
              rw [f_X12_stage_L147]
              refine r_iload_n (q := 148) (i := 2) (z := 1) C dX12_stage_147 rfl rfl rfl ?_
              refine r_sipush (q := 151) (v := 430) C dX12_stage_148 rfl (by decide) ?_
              refine r_icmp_ge (q := 154) (tgt := 176) C dX12_stage_151 (by decide) rfl ?_ ?_
              · refine r_locs (lc' := [(0, .ref (fad Δ 12 0 0))]) [0] rfl ?_
                exact hk14 s22
              · refine r_aload_n (q := 155) (i := 0) (z := 0) C dX12_stage_154 rfl rfl rfl ?_
                refine g_X12_35 (q := 158) C (nm_12 hN) dX12_stage_155 rfl ?_
                refine r_iload_n (q := 159) (i := 2) (z := 1) C dX12_stage_158 rfl rfl rfl ?_
                refine r_aload_n (q := 160) (i := 0) (z := 0) C dX12_stage_159 rfl rfl rfl ?_
                refine g_X12_35 (q := 163) C (nm_12 hN) dX12_stage_160 rfl ?_
                refine r_sipush (q := 166) (v := 1720) C dX12_stage_163 rfl (by decide) ?_
                refine r_iload_n (q := 167) (i := 2) (z := 1) C dX12_stage_166 rfl rfl rfl ?_
                refine r_iadd (q := 168) C dX12_stage_167 rfl ?_
                refine r_ial (q := 169) q_12_5 h_12_5 C (nm_12 hN) dX12_stage_168 rfl ?_
                refine r_ast (q := 170) q_12_5 h_12_5 C (nm_12 hN) dX12_stage_169 rfl (fun s24 => ?_)
                refine r_iinc (q := 173) (z := 1) (d := 1) [(0, .ref (fad Δ 12 0 0))] C dX12_stage_170 rfl rfl (by decide) (by decide) rfl (fun x25 => ?_)
                refine r_goto (q := 147) C dX12_stage_173 (by decide) ?_
                refine r_locs (lc' := [(0, .ref (fad Δ 12 0 0)), (2, .int x25)]) [1, 0] rfl ?_
                exact ih_n23 x25 s24
          exact L147 fF x12 s11
        · refine r_iconst (q := 144) (v := (-1)) C dX12_stage_143 rfl (by decide) ?_
          exact r_iret C dX12_stage_144
      have L49 : ∀ (n27 : Nat)  (s26 : fSt), fW Δ Γ 3 (fQ eI Δ Γ) 49 [(0, .ref (fad Δ 12 0 0))] [] s26 (f_X12_stage_L49 k9 n27 s26) := by
        intro n27
        induction n27 with
        | zero =>
          intro s26
          rw [f_X12_stage_L49]
          exact r_none
        | succ n27 ih_n27 =>
          intro s26
          rw [f_X12_stage_L49]
          refine r_aload_n (q := 50) (i := 0) (z := 0) C dX12_stage_49 rfl rfl rfl ?_
          refine g_X12_249 (q := 53) C (nm_12 hN) dX12_stage_50 rfl ?_
          refine r_if_ne (q := 56) (tgt := 136) C dX12_stage_53 (by decide) rfl ?_ ?_
          · exact hk9 s26
          · refine r_aload_n (q := 57) (i := 0) (z := 0) C dX12_stage_56 rfl rfl rfl ?_
            refine g_X12_145 (q := 60) C (nm_12 hN) dX12_stage_57 rfl ?_
            refine r_if_eq (q := 63) (tgt := 136) C dX12_stage_60 (by decide) rfl ?_ ?_
            · exact hk9 s26
            · refine r_aload_n (q := 64) (i := 0) (z := 0) C dX12_stage_63 rfl rfl rfl ?_
              refine r_callVI (q := 67) (As := []) wm_X12_178 yvX12_isRole (c_X12_isRole Δ hN s26) ⟨rfl, by decide⟩ C (nm_12 hN) (by decide) rfl (Nat.le_of_ble_eq_true rfl) dX12_stage_64 rfl (fun x28 s29 => ?_)
              refine r_join (fun j31 => ∀  (s30 : fSt), fW Δ Γ 3 (fQ eI Δ Γ) 123 [(0, .ref (fad Δ 12 0 0))] [] s30 (j31 s30)) ?_ (fun j31 hj31 => ?_)
              · intro s30
                refine r_aload_n (q := 124) (i := 0) (z := 0) C dX12_stage_123 rfl rfl rfl ?_
                refine r_aload_n (q := 125) (i := 0) (z := 0) C dX12_stage_124 rfl rfl rfl ?_
                refine r_bipush (q := 127) (v := 59) C dX12_stage_125 rfl (by decide) ?_
                refine r_callVI (q := 130) (As := [.int ((59 : Int32))]) wm_X12_318 yvX12_isSign (c_X12_isSign Δ hN ((59 : Int32)) s30) ⟨rfl, by decide⟩ C (nm_12 hN) (by decide) rfl (Nat.le_of_ble_eq_true rfl) dX12_stage_127 rfl (fun x32 s33 => ?_)
                refine r_callVV (q := 133) (As := [.int x32]) wm_X12_282 yvX12_must (c_X12_must Δ hN x32 s33) ⟨rfl, by decide⟩ C (nm_12 hN) (by decide) rfl (Nat.le_of_ble_eq_true rfl) dX12_stage_130 rfl (fun _ s34 => ?_)
                refine r_goto (q := 49) C dX12_stage_133 (by decide) ?_
                exact ih_n27 s34
              refine r_if_eq (q := 70) (tgt := 77) C dX12_stage_67 (by decide) rfl ?_ ?_
              · refine r_aload_n (q := 78) (i := 0) (z := 0) C dX12_stage_77 rfl rfl rfl ?_
                refine r_callVI (q := 81) (As := []) wm_X12_182 yvX12_isActor (c_X12_isActor Δ hN s29) ⟨rfl, by decide⟩ C (nm_12 hN) (by decide) rfl (Nat.le_of_ble_eq_true rfl) dX12_stage_78 rfl (fun x35 s36 => ?_)
                refine r_if_eq (q := 84) (tgt := 91) C dX12_stage_81 (by decide) rfl ?_ ?_
                · refine r_aload_n (q := 92) (i := 0) (z := 0) C dX12_stage_91 rfl rfl rfl ?_
                  refine r_callVI (q := 95) (As := []) wm_X12_194 yvX12_isScene (c_X12_isScene Δ hN s36) ⟨rfl, by decide⟩ C (nm_12 hN) (by decide) rfl (Nat.le_of_ble_eq_true rfl) dX12_stage_92 rfl (fun x37 s38 => ?_)
                  refine r_if_eq (q := 98) (tgt := 105) C dX12_stage_95 (by decide) rfl ?_ ?_
                  · refine r_aload_n (q := 106) (i := 0) (z := 0) C dX12_stage_105 rfl rfl rfl ?_
                    refine r_callVI (q := 109) (As := []) wm_X12_221 yvX12_isKind (c_X12_isKind Δ hN s38) ⟨rfl, by decide⟩ C (nm_12 hN) (by decide) rfl (Nat.le_of_ble_eq_true rfl) dX12_stage_106 rfl (fun x39 s40 => ?_)
                    refine r_if_eq (q := 112) (tgt := 119) C dX12_stage_109 (by decide) rfl ?_ ?_
                    · refine r_aload_n (q := 120) (i := 0) (z := 0) C dX12_stage_119 rfl rfl rfl ?_
                      refine r_callVV (q := 123) (As := []) wm_X12_262 yvX12_wrong (c_X12_wrong Δ hN s40) ⟨rfl, by decide⟩ C (nm_12 hN) (by decide) rfl (Nat.le_of_ble_eq_true rfl) dX12_stage_120 rfl (fun _ s41 => ?_)
                      exact hj31 s41
                    · refine r_aload_n (q := 113) (i := 0) (z := 0) C dX12_stage_112 rfl rfl rfl ?_
                      refine r_callVV (q := 116) (As := []) wm_X12_315 yvX12_readKind (c_X12_readKind Δ hN s40) ⟨rfl, by decide⟩ C (nm_12 hN) (by decide) rfl (Nat.le_of_ble_eq_true rfl) dX12_stage_113 rfl (fun _ s42 => ?_)
                      refine r_goto (q := 123) C dX12_stage_116 (by decide) ?_
                      exact hj31 s42
                  · refine r_aload_n (q := 99) (i := 0) (z := 0) C dX12_stage_98 rfl rfl rfl ?_
                    refine r_callVV (q := 102) (As := []) wm_X12_312 yvX12_readScene (c_X12_readScene Δ hN s38) ⟨rfl, by decide⟩ C (nm_12 hN) (by decide) rfl (Nat.le_of_ble_eq_true rfl) dX12_stage_99 rfl (fun _ s43 => ?_)
                    refine r_goto (q := 123) C dX12_stage_102 (by decide) ?_
                    exact hj31 s43
                · refine r_aload_n (q := 85) (i := 0) (z := 0) C dX12_stage_84 rfl rfl rfl ?_
                  refine r_callVV (q := 88) (As := []) wm_X12_309 yvX12_readActor (c_X12_readActor Δ hN s36) ⟨rfl, by decide⟩ C (nm_12 hN) (by decide) rfl (Nat.le_of_ble_eq_true rfl) dX12_stage_85 rfl (fun _ s44 => ?_)
                  refine r_goto (q := 123) C dX12_stage_88 (by decide) ?_
                  exact hj31 s44
              · refine r_aload_n (q := 71) (i := 0) (z := 0) C dX12_stage_70 rfl rfl rfl ?_
                refine r_callVV (q := 74) (As := []) wm_X12_306 yvX12_readRole (c_X12_readRole Δ hN s29) ⟨rfl, by decide⟩ C (nm_12 hN) (by decide) rfl (Nat.le_of_ble_eq_true rfl) dX12_stage_71 rfl (fun _ s45 => ?_)
                refine r_goto (q := 123) C dX12_stage_74 (by decide) ?_
                exact hj31 s45
      exact L49 fF s6
    refine r_locs (lc' := [(0, .ref (fad Δ 12 0 0)), (2, .int x5)]) [1, 0] rfl ?_
    have L25 : ∀ (n48 : Nat) (x46 : Int32) (s47 : fSt), fW Δ Γ 3 (fQ eI Δ Γ) 25 [(0, .ref (fad Δ 12 0 0)), (2, .int x46)] [] s47 (f_X12_stage_L25 k7 n48 x46 s47) := by
      intro n48
      induction n48 with
      | zero =>
        intro x46 s47
        rw [f_X12_stage_L25]
        exact r_none
      | succ n48 ih_n48 =>
        intro x46 s47
        rw [f_X12_stage_L25]
        refine r_iload_n (q := 26) (i := 2) (z := 1) C dX12_stage_25 rfl rfl rfl ?_
        refine r_sipush (q := 29) (v := 430) C dX12_stage_26 rfl (by decide) ?_
        refine r_icmp_ge (q := 32) (tgt := 49) C dX12_stage_29 (by decide) rfl ?_ ?_
        · refine r_locs (lc' := [(0, .ref (fad Δ 12 0 0))]) [0] rfl ?_
          exact hk7 s47
        · refine r_aload_n (q := 33) (i := 0) (z := 0) C dX12_stage_32 rfl rfl rfl ?_
          refine g_X12_35 (q := 36) C (nm_12 hN) dX12_stage_33 rfl ?_
          refine r_sipush (q := 39) (v := 1720) C dX12_stage_36 rfl (by decide) ?_
          refine r_iload_n (q := 40) (i := 2) (z := 1) C dX12_stage_39 rfl rfl rfl ?_
          refine r_iadd (q := 41) C dX12_stage_40 rfl ?_
          refine r_iconst (q := 42) (v := 0) C dX12_stage_41 rfl (by decide) ?_
          refine r_ast (q := 43) q_12_5 h_12_5 C (nm_12 hN) dX12_stage_42 rfl (fun s49 => ?_)
          refine r_iinc (q := 46) (z := 1) (d := 1) [(0, .ref (fad Δ 12 0 0))] C dX12_stage_43 rfl rfl (by decide) (by decide) rfl (fun x50 => ?_)
          refine r_goto (q := 25) C dX12_stage_46 (by decide) ?_
          refine r_locs (lc' := [(0, .ref (fad Δ 12 0 0)), (2, .int x50)]) [1, 0] rfl ?_
          exact ih_n48 x50 s49
    exact L25 fF x5 s4
  · refine r_iconst (q := 22) (v := (-1)) C dX12_stage_21 rfl (by decide) ?_
    exact r_iret C dX12_stage_22

noncomputable def f_X12_status  (st : fSt) : Option (Int32 × fSt) :=
  fLt (sI st 12 0 1 ((0 : Int32))) fun s1 =>
  some (gI s1 12 0 0, s1)

set_option maxHeartbeats 4000000 in
set_option maxRecDepth 100000 in
theorem c_X12_status (Δ : fDl) (hN : fNm Δ)   (st : fSt) : fMt eI Δ yX12_status cX12_status 1 (some .int) 1 [.ref (fad Δ 12 0 0)] st (f_X12_status  st) := by
  unfold f_X12_status
  refine r_method (by decide +kernel) (Nat.le_of_ble_eq_true rfl) (fun Γ C => ?_)
  have C : fC Δ Γ cX12_status RX12 1 (some .int) 1 := C
  refine r_locs (lc' := [(0, .ref (fad Δ 12 0 0))]) [0] rfl ?_
  refine r_aload_n (q := 1) (i := 0) (z := 0) C dX12_status_0 rfl rfl rfl ?_
  refine r_iconst (q := 2) (v := 0) C dX12_status_1 rfl (by decide) ?_
  refine p_X12_90 (q := 5) C (nm_12 hN) dX12_status_2 rfl (fun s1 => ?_)
  refine r_aload_n (q := 6) (i := 0) (z := 0) C dX12_status_5 rfl rfl rfl ?_
  refine g_X12_93 (q := 9) C (nm_12 hN) dX12_status_6 rfl ?_
  exact r_iret C dX12_status_9
