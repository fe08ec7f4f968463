noncomputable def f_X12_lot (a1 : Int32) (st : fSt) : Option (Int32 × fSt) :=
  fLt (sI st 12 0 1 ((0 : Int32))) fun s1 =>
  fLt (sI s1 12 0 0 ((0 : Int32))) fun s2 =>
  fBd (f_X12_isIn a1.toInt64 ((0 : Int64)) ((9999 : Int64)) s2) fun x3 s4 =>
  if ¬ x3 = 0 then
    (fIx ((3 : Int32)) 2150 <|
    if ¬ (gA s4 12 0 5 ((3 : Int32)).toNatClampNeg) = 0 then
      (fBd (f_X12_isDark  s4) fun x5 s6 =>
      if x5 = 0 then
        (fLt (sI s6 12 0 28 a1) fun s7 =>
        fBd (f_X12_drawnKind  s7) fun x8 s9 =>
        fLt x8 fun (x10 : Int32) =>
        fBd (f_X12_playFor x10 s9) fun _ s11 =>
        some (x10, s11))
      else
        (fBd (f_X12_refuse ((9 : Int32)) s6) fun x12 s13 =>
        some (x12, s13)))
    else
      (fBd (f_X12_refuse ((8 : Int32)) s4) fun x14 s15 =>
      some (x14, s15)))
  else
    (fBd (f_X12_refuse ((5 : Int32)) s4) fun x16 s17 =>
    some (x16, s17))

set_option maxHeartbeats 4000000 in
set_option maxRecDepth 100000 in
theorem c_X12_lot (Δ : fDl) (hN : fNm Δ) (a1 : Int32)  (st : fSt) : fMt eI Δ yX12_lot cX12_lot 3 (some .int) 5 [.ref (fad Δ 12 0 0), .int a1] st (f_X12_lot a1 st) := by
  unfold f_X12_lot
  refine r_method (by decide +kernel) (Nat.le_of_ble_eq_true rfl) (fun Γ C => ?_)
  have C : fC Δ Γ cX12_lot RX12 3 (some .int) 5 := C
  refine r_locs (lc' := [(0, .ref (fad Δ 12 0 0)), (1, .int a1)]) [0, 1] rfl ?_
  refine r_aload_n (q := 1) (i := 0) (z := 0) C dX12_lot_0 rfl rfl rfl ?_
  refine r_iconst (q := 2) (v := 0) C dX12_lot_1 rfl (by decide) ?_
  refine p_X12_90 (q := 5) C (nm_12 hN) dX12_lot_2 rfl (fun s1 => ?_)
  refine r_aload_n (q := 6) (i := 0) (z := 0) C dX12_lot_5 rfl rfl rfl ?_
  refine r_iconst (q := 7) (v := 0) C dX12_lot_6 rfl (by decide) ?_
  refine p_X12_93 (q := 10) C (nm_12 hN) dX12_lot_7 rfl (fun s2 => ?_)
  refine r_iload_n (q := 11) (i := 1) (z := 1) C dX12_lot_10 rfl rfl rfl ?_
  refine r_i2l (q := 12) C dX12_lot_11 rfl ?_
  refine r_lconst (q := 13) (v := 0) C dX12_lot_12 rfl (by decide) ?_
  refine r_ldc2 (q := 16) C dX12_lot_13 rfl wl_X12_431 ?_
  refine r_callSI (q := 19) (As := [.long a1.toInt64, .long ((0 : Int64)), .long ((9999 : Int64))]) wm_X12_129 ysX12_isIn (c_X12_isIn Δ hN a1.toInt64 ((0 : Int64)) ((9999 : Int64)) s2) C (by decide) rfl (Nat.le_of_ble_eq_true rfl) dX12_lot_16 rfl (fun x3 s4 => ?_)
  refine r_if_ne (q := 22) (tgt := 28) C dX12_lot_19 (by decide) rfl ?_ ?_
  · refine r_aload_n (q := 29) (i := 0) (z := 0) C dX12_lot_28 rfl rfl rfl ?_
    refine g_X12_35 (q := 32) C (nm_12 hN) dX12_lot_29 rfl ?_
    refine r_iconst (q := 33) (v := 3) C dX12_lot_32 rfl (by decide) ?_
    refine r_ial (q := 34) q_12_5 h_12_5 C (nm_12 hN) dX12_lot_33 rfl ?_
    refine r_if_ne (q := 37) (tgt := 44) C dX12_lot_34 (by decide) rfl ?_ ?_
    · refine r_aload_n (q := 45) (i := 0) (z := 0) C dX12_lot_44 rfl rfl rfl ?_
      refine r_callVI (q := 48) (As := []) wm_X12_403 yvX12_isDark (c_X12_isDark Δ hN s4) ⟨rfl, by decide⟩ C (nm_12 hN) (by decide) rfl (Nat.le_of_ble_eq_true rfl) dX12_lot_45 rfl (fun x5 s6 => ?_)
      refine r_if_eq (q := 51) (tgt := 58) C dX12_lot_48 (by decide) rfl ?_ ?_
      · refine r_aload_n (q := 59) (i := 0) (z := 0) C dX12_lot_58 rfl rfl rfl ?_
        refine r_iload_n (q := 60) (i := 1) (z := 1) C dX12_lot_59 rfl rfl rfl ?_
        refine p_X12_418 (q := 63) C (nm_12 hN) dX12_lot_60 rfl (fun s7 => ?_)
        refine r_aload_n (q := 64) (i := 0) (z := 0) C dX12_lot_63 rfl rfl rfl ?_
        refine r_callVI (q := 67) (As := []) wm_X12_433 yvX12_drawnKind (c_X12_drawnKind Δ hN s7) ⟨rfl, by decide⟩ C (nm_12 hN) (by decide) rfl (Nat.le_of_ble_eq_true rfl) dX12_lot_64 rfl (fun x8 s9 => ?_)
        refine r_istore_n (q := 68) (i := 2) [(0, .ref (fad Δ 12 0 0)), (1, .int a1)] C dX12_lot_67 rfl rfl (by decide) rfl (fun x10 => ?_)
        refine r_aload_n (q := 69) (i := 0) (z := 1) C dX12_lot_68 rfl rfl rfl ?_
        refine r_iload_n (q := 70) (i := 2) (z := 0) C dX12_lot_69 rfl rfl rfl ?_
        refine r_callVV (q := 73) (As := [.int x10]) wm_X12_436 yvX12_playFor (c_X12_playFor Δ hN x10 s9) ⟨rfl, by decide⟩ C (nm_12 hN) (by decide) rfl (Nat.le_of_ble_eq_true rfl) dX12_lot_70 rfl (fun _ s11 => ?_)
        refine r_iload_n (q := 74) (i := 2) (z := 0) C dX12_lot_73 rfl rfl rfl ?_
        exact r_iret C dX12_lot_74
      · refine r_aload_n (q := 52) (i := 0) (z := 0) C dX12_lot_51 rfl rfl rfl ?_
        refine r_bipush (q := 54) (v := 9) C dX12_lot_52 rfl (by decide) ?_
        refine r_callVI (q := 57) (As := [.int ((9 : Int32))]) wm_X12_348 yvX12_refuse (c_X12_refuse Δ hN ((9 : Int32)) s6) ⟨rfl, by decide⟩ C (nm_12 hN) (by decide) rfl (Nat.le_of_ble_eq_true rfl) dX12_lot_54 rfl (fun x12 s13 => ?_)
        exact r_iret C dX12_lot_57
    · refine r_aload_n (q := 38) (i := 0) (z := 0) C dX12_lot_37 rfl rfl rfl ?_
      refine r_bipush (q := 40) (v := 8) C dX12_lot_38 rfl (by decide) ?_
      refine r_callVI (q := 43) (As := [.int ((8 : Int32))]) wm_X12_348 yvX12_refuse (c_X12_refuse Δ hN ((8 : Int32)) s4) ⟨rfl, by decide⟩ C (nm_12 hN) (by decide) rfl (Nat.le_of_ble_eq_true rfl) dX12_lot_40 rfl (fun x14 s15 => ?_)
      exact r_iret C dX12_lot_43
  · refine r_aload_n (q := 23) (i := 0) (z := 0) C dX12_lot_22 rfl rfl rfl ?_
    refine r_iconst (q := 24) (v := 5) C dX12_lot_23 rfl (by decide) ?_
    refine r_callVI (q := 27) (As := [.int ((5 : Int32))]) wm_X12_348 yvX12_refuse (c_X12_refuse Δ hN ((5 : Int32)) s4) ⟨rfl, by decide⟩ C (nm_12 hN) (by decide) rfl (Nat.le_of_ble_eq_true rfl) dX12_lot_24 rfl (fun x16 s17 => ?_)
    exact r_iret C dX12_lot_27

noncomputable def f_X12_many (a1 : Int32) (st : fSt) : Option (Int32 × fSt) :=
  fLt (sI st 12 0 1 ((0 : Int32))) fun s1 =>
  fLt (sI s1 12 0 0 ((0 : Int32))) fun s2 =>
  if a1 = (0 : Int32) then
    (fIx ((0 : Int32)) 2150 <|
    some (gA s2 12 0 5 ((0 : Int32)).toNatClampNeg, s2))
  else
  if a1 = (1 : Int32) then
    (fIx ((1 : Int32)) 2150 <|
    some (gA s2 12 0 5 ((1 : Int32)).toNatClampNeg, s2))
  else
  if a1 = (2 : Int32) then
    (fIx ((2 : Int32)) 2150 <|
    some (gA s2 12 0 5 ((2 : Int32)).toNatClampNeg, s2))
  else
  if a1 = (3 : Int32) then
    (fIx ((3 : Int32)) 2150 <|
    some (gA s2 12 0 5 ((3 : Int32)).toNatClampNeg, s2))
  else
  if a1 = (4 : Int32) then
    (fIx ((6 : Int32)) 2150 <|
    some (gA s2 12 0 5 ((6 : Int32)).toNatClampNeg, s2))
  else
  if a1 = (5 : Int32) then
    (fIx ((4 : Int32)) 2150 <|
    some (gA s2 12 0 5 ((4 : Int32)).toNatClampNeg, s2))
  else
  if a1 = (6 : Int32) then
    (fIx ((5 : Int32)) 2150 <|
    some (gA s2 12 0 5 ((5 : Int32)).toNatClampNeg, s2))
  else
  if a1 = (7 : Int32) then
    (fBd (f_X12_allLines  s2) fun x11 s12 =>
    some (x11, s12))
  else
  fBd (f_X12_refuse ((5 : Int32)) s2) fun x13 s14 =>
  some (x13, s14)

set_option maxHeartbeats 4000000 in
set_option maxRecDepth 100000 in
theorem c_X12_many (Δ : fDl) (hN : fNm Δ) (a1 : Int32)  (st : fSt) : fMt eI Δ yX12_many cX12_many 2 (some .int) 2 [.ref (fad Δ 12 0 0), .int a1] st (f_X12_many a1 st) := by
  unfold f_X12_many
  refine r_method (by decide +kernel) (Nat.le_of_ble_eq_true rfl) (fun Γ C => ?_)
  have C : fC Δ Γ cX12_many RX12 2 (some .int) 2 := C
  refine r_locs (lc' := [(0, .ref (fad Δ 12 0 0)), (1, .int a1)]) [0, 1] rfl ?_
  refine r_aload_n (q := 1) (i := 0) (z := 0) C dX12_many_0 rfl rfl rfl ?_
  refine r_iconst (q := 2) (v := 0) C dX12_many_1 rfl (by decide) ?_
  refine p_X12_90 (q := 5) C (nm_12 hN) dX12_many_2 rfl (fun s1 => ?_)
  refine r_aload_n (q := 6) (i := 0) (z := 0) C dX12_many_5 rfl rfl rfl ?_
  refine r_iconst (q := 7) (v := 0) C dX12_many_6 rfl (by decide) ?_
  refine p_X12_93 (q := 10) C (nm_12 hN) dX12_many_7 rfl (fun s2 => ?_)
  refine r_iload_n (q := 11) (i := 1) (z := 1) C dX12_many_10 rfl rfl rfl ?_
  refine r_bif (fun hs3 => ?_) (fun hs3 => ?_)
  · refine r_tsHit (tgt := 56) (n := 0) C dX12_many_11 hs3 (by decide) (by decide) (by decide) rfl (by decide) ?_
    refine r_aload_n (q := 57) (i := 0) (z := 0) C dX12_many_56 rfl rfl rfl ?_
    refine g_X12_35 (q := 60) C (nm_12 hN) dX12_many_57 rfl ?_
    refine r_iconst (q := 61) (v := 0) C dX12_many_60 rfl (by decide) ?_
    refine r_ial (q := 62) q_12_5 h_12_5 C (nm_12 hN) dX12_many_61 rfl ?_
    exact r_iret C dX12_many_62
  refine r_bif (fun hs4 => ?_) (fun hs4 => ?_)
  · refine r_tsHit (tgt := 63) (n := 1) C dX12_many_11 hs4 (by decide) (by decide) (by decide) rfl (by decide) ?_
    refine r_aload_n (q := 64) (i := 0) (z := 0) C dX12_many_63 rfl rfl rfl ?_
    refine g_X12_35 (q := 67) C (nm_12 hN) dX12_many_64 rfl ?_
    refine r_iconst (q := 68) (v := 1) C dX12_many_67 rfl (by decide) ?_
    refine r_ial (q := 69) q_12_5 h_12_5 C (nm_12 hN) dX12_many_68 rfl ?_
    exact r_iret C dX12_many_69
  refine r_bif (fun hs5 => ?_) (fun hs5 => ?_)
  · refine r_tsHit (tgt := 70) (n := 2) C dX12_many_11 hs5 (by decide) (by decide) (by decide) rfl (by decide) ?_
    refine r_aload_n (q := 71) (i := 0) (z := 0) C dX12_many_70 rfl rfl rfl ?_
    refine g_X12_35 (q := 74) C (nm_12 hN) dX12_many_71 rfl ?_
    refine r_iconst (q := 75) (v := 2) C dX12_many_74 rfl (by decide) ?_
    refine r_ial (q := 76) q_12_5 h_12_5 C (nm_12 hN) dX12_many_75 rfl ?_
    exact r_iret C dX12_many_76
  refine r_bif (fun hs6 => ?_) (fun hs6 => ?_)
  · refine r_tsHit (tgt := 77) (n := 3) C dX12_many_11 hs6 (by decide) (by decide) (by decide) rfl (by decide) ?_
    refine r_aload_n (q := 78) (i := 0) (z := 0) C dX12_many_77 rfl rfl rfl ?_
    refine g_X12_35 (q := 81) C (nm_12 hN) dX12_many_78 rfl ?_
    refine r_iconst (q := 82) (v := 3) C dX12_many_81 rfl (by decide) ?_
    refine r_ial (q := 83) q_12_5 h_12_5 C (nm_12 hN) dX12_many_82 rfl ?_
    exact r_iret C dX12_many_83
  refine r_bif (fun hs7 => ?_) (fun hs7 => ?_)
  · refine r_tsHit (tgt := 84) (n := 4) C dX12_many_11 hs7 (by decide) (by decide) (by decide) rfl (by decide) ?_
    refine r_aload_n (q := 85) (i := 0) (z := 0) C dX12_many_84 rfl rfl rfl ?_
    refine g_X12_35 (q := 88) C (nm_12 hN) dX12_many_85 rfl ?_
    refine r_bipush (q := 90) (v := 6) C dX12_many_88 rfl (by decide) ?_
    refine r_ial (q := 91) q_12_5 h_12_5 C (nm_12 hN) dX12_many_90 rfl ?_
    exact r_iret C dX12_many_91
  refine r_bif (fun hs8 => ?_) (fun hs8 => ?_)
  · refine r_tsHit (tgt := 92) (n := 5) C dX12_many_11 hs8 (by decide) (by decide) (by decide) rfl (by decide) ?_
    refine r_aload_n (q := 93) (i := 0) (z := 0) C dX12_many_92 rfl rfl rfl ?_
    refine g_X12_35 (q := 96) C (nm_12 hN) dX12_many_93 rfl ?_
    refine r_iconst (q := 97) (v := 4) C dX12_many_96 rfl (by decide) ?_
    refine r_ial (q := 98) q_12_5 h_12_5 C (nm_12 hN) dX12_many_97 rfl ?_
    exact r_iret C dX12_many_98
  refine r_bif (fun hs9 => ?_) (fun hs9 => ?_)
  · refine r_tsHit (tgt := 99) (n := 6) C dX12_many_11 hs9 (by decide) (by decide) (by decide) rfl (by decide) ?_
    refine r_aload_n (q := 100) (i := 0) (z := 0) C dX12_many_99 rfl rfl rfl ?_
    refine g_X12_35 (q := 103) C (nm_12 hN) dX12_many_100 rfl ?_
    refine r_iconst (q := 104) (v := 5) C dX12_many_103 rfl (by decide) ?_
    refine r_ial (q := 105) q_12_5 h_12_5 C (nm_12 hN) dX12_many_104 rfl ?_
    exact r_iret C dX12_many_105
  refine r_bif (fun hs10 => ?_) (fun hs10 => ?_)
  · refine r_tsHit (tgt := 106) (n := 7) C dX12_many_11 hs10 (by decide) (by decide) (by decide) rfl (by decide) ?_
    refine r_aload_n (q := 107) (i := 0) (z := 0) C dX12_many_106 rfl rfl rfl ?_
    refine r_callVI (q := 110) (As := []) wm_X12_345 yvX12_allLines (c_X12_allLines Δ hN s2) ⟨rfl, by decide⟩ C (nm_12 hN) (by decide) rfl (Nat.le_of_ble_eq_true rfl) dX12_many_107 rfl (fun x11 s12 => ?_)
    exact r_iret C dX12_many_110
  refine r_tsDef (tgt := 111) C dX12_many_11 (by have ehs3 := fNe hs3 0 (by decide); have ehs4 := fNe hs4 1 (by decide); have ehs5 := fNe hs5 2 (by decide); have ehs6 := fNe hs6 3 (by decide); have ehs7 := fNe hs7 4 (by decide); have ehs8 := fNe hs8 5 (by decide); have ehs9 := fNe hs9 6 (by decide); have ehs10 := fNe hs10 7 (by decide); omega) (by decide) ?_
  refine r_aload_n (q := 112) (i := 0) (z := 0) C dX12_many_111 rfl rfl rfl ?_
  refine r_iconst (q := 113) (v := 5) C dX12_many_112 rfl (by decide) ?_
  refine r_callVI (q := 116) (As := [.int ((5 : Int32))]) wm_X12_348 yvX12_refuse (c_X12_refuse Δ hN ((5 : Int32)) s2) ⟨rfl, by decide⟩ C (nm_12 hN) (by decide) rfl (Nat.le_of_ble_eq_true rfl) dX12_many_113 rfl (fun x13 s14 => ?_)
  exact r_iret C dX12_many_116

noncomputable def f_X12_mark  (st : fSt) : Option (Int32 × fSt) :=
  fLt (sI st 12 0 1 ((0 : Int32))) fun s1 =>
  fLt (sI s1 12 0 0 ((0 : Int32))) fun s2 =>
  if ¬ (gI s2 12 0 23) = ((3 : Int32)) then
    (fLt (sI s2 12 0 23 ((gI s2 12 0 23) + ((1 : Int32)))) fun s3 =>
    fBd (f_X12_copy ((0 : Int32)) (gI s3 12 0 23) s3) fun _ s4 =>
    some (gI s4 12 0 23, s4))
  else
    (fBd (f_X12_refuse ((7 : Int32)) s2) fun x5 s6 =>
    some (x5, s6))

set_option maxHeartbeats 4000000 in
set_option maxRecDepth 100000 in
theorem c_X12_mark (Δ : fDl) (hN : fNm Δ)   (st : fSt) : fMt eI Δ yX12_mark cX12_mark 1 (some .int) 2 [.ref (fad Δ 12 0 0)] st (f_X12_mark  st) := by
  unfold f_X12_mark
  refine r_method (by decide +kernel) (Nat.le_of_ble_eq_true rfl) (fun Γ C => ?_)
  have C : fC Δ Γ cX12_mark RX12 1 (some .int) 2 := C
  refine r_locs (lc' := [(0, .ref (fad Δ 12 0 0))]) [0] rfl ?_
  refine r_aload_n (q := 1) (i := 0) (z := 0) C dX12_mark_0 rfl rfl rfl ?_
  refine r_iconst (q := 2) (v := 0) C dX12_mark_1 rfl (by decide) ?_
  refine p_X12_90 (q := 5) C (nm_12 hN) dX12_mark_2 rfl (fun s1 => ?_)
  refine r_aload_n (q := 6) (i := 0) (z := 0) C dX12_mark_5 rfl rfl rfl ?_
  refine r_iconst (q := 7) (v := 0) C dX12_mark_6 rfl (by decide) ?_
  refine p_X12_93 (q := 10) C (nm_12 hN) dX12_mark_7 rfl (fun s2 => ?_)
  refine r_aload_n (q := 11) (i := 0) (z := 0) C dX12_mark_10 rfl rfl rfl ?_
  refine g_X12_592 (q := 14) C (nm_12 hN) dX12_mark_11 rfl ?_
  refine r_iconst (q := 15) (v := 3) C dX12_mark_14 rfl (by decide) ?_
  refine r_icmp_ne (q := 18) (tgt := 25) C dX12_mark_15 (by decide) rfl ?_ ?_
  · refine r_aload_n (q := 26) (i := 0) (z := 0) C dX12_mark_25 rfl rfl rfl ?_
    refine r_dup (q := 27) C dX12_mark_26 rfl rfl ?_
    refine g_X12_592 (q := 30) C (nm_12 hN) dX12_mark_27 rfl ?_
    refine r_iconst (q := 31) (v := 1) C dX12_mark_30 rfl (by decide) ?_
    refine r_iadd (q := 32) C dX12_mark_31 rfl ?_
    refine p_X12_592 (q := 35) C (nm_12 hN) dX12_mark_32 rfl (fun s3 => ?_)
    refine r_aload_n (q := 36) (i := 0) (z := 0) C dX12_mark_35 rfl rfl rfl ?_
    refine r_iconst (q := 37) (v := 0) C dX12_mark_36 rfl (by decide) ?_
    refine r_aload_n (q := 38) (i := 0) (z := 0) C dX12_mark_37 rfl rfl rfl ?_
    refine g_X12_592 (q := 41) C (nm_12 hN) dX12_mark_38 rfl ?_
    refine r_callVV (q := 44) (As := [.int ((0 : Int32)), .int (gI s3 12 0 23)]) wm_X12_595 yvX12_copy (c_X12_copy Δ hN ((0 : Int32)) (gI s3 12 0 23) s3) ⟨rfl, by decide⟩ C (nm_12 hN) (by decide) rfl (Nat.le_of_ble_eq_true rfl) dX12_mark_41 rfl (fun _ s4 => ?_)
    refine r_aload_n (q := 45) (i := 0) (z := 0) C dX12_mark_44 rfl rfl rfl ?_
    refine g_X12_592 (q := 48) C (nm_12 hN) dX12_mark_45 rfl ?_
    exact r_iret C dX12_mark_48
  · refine r_aload_n (q := 19) (i := 0) (z := 0) C dX12_mark_18 rfl rfl rfl ?_
    refine r_bipush (q := 21) (v := 7) C dX12_mark_19 rfl (by decide) ?_
    refine r_callVI (q := 24) (As := [.int ((7 : Int32))]) wm_X12_348 yvX12_refuse (c_X12_refuse Δ hN ((7 : Int32)) s2) ⟨rfl, by decide⟩ C (nm_12 hN) (by decide) rfl (Nat.le_of_ble_eq_true rfl) dX12_mark_21 rfl (fun x5 s6 => ?_)
    exact r_iret C dX12_mark_24

noncomputable def f_X12_whyNoOdds (a1 : Int32) (st : fSt) : Option (Int32 × fSt) :=
  fJn (fun (x1 : Int32) (s2 : fSt) =>
    (some (x1, s2))) fun (j3 : Int32 → fSt → Option (Int32 × fSt)) =>
  fJn (fun (s4 : fSt) =>
    (fBd (f_X12_isDark  s4) fun x6 s7 =>
    if x6 = 0 then
      (j3 ((0 : Int32)) s7)
    else
      (j3 ((9 : Int32)) s7))) fun (j5 : fSt → Option (Int32 × fSt)) =>
  if ¬ a1 = ((-1 : Int32)) then
    (j5 st)
  else
    (fIx ((3 : Int32)) 2150 <|
    if ¬ (gA st 12 0 5 ((3 : Int32)).toNatClampNeg) = 0 then
      (j5 st)
    else
      (j3 ((8 : Int32)) st))

set_option maxHeartbeats 4000000 in
set_option maxRecDepth 100000 in
theorem c_X12_whyNoOdds (Δ : fDl) (hN : fNm Δ) (a1 : Int32)  (st : fSt) : fMt eI Δ yX12_whyNoOdds cX12_whyNoOdds 2 (some .int) 4 [.ref (fad Δ 12 0 0), .int a1] st (f_X12_whyNoOdds a1 st) := by
  unfold f_X12_whyNoOdds
  refine r_method (by decide +kernel) (Nat.le_of_ble_eq_true rfl) (fun Γ C => ?_)
  have C : fC Δ Γ cX12_whyNoOdds RX12 2 (some .int) 4 := C
  refine r_locs (lc' := [(0, .ref (fad Δ 12 0 0)), (1, .int a1)]) [0, 1] rfl ?_
  refine r_iload_n (q := 1) (i := 1) (z := 1) C dX12_whyNoOdds_0 rfl rfl rfl ?_
  refine r_iconst (q := 2) (v := (-1)) C dX12_whyNoOdds_1 rfl (by decide) ?_
  refine r_join (fun j3 => ∀ (x1 : Int32) (s2 : fSt), fW Δ Γ 2 (fQ eI Δ Γ) 32 [] [.int x1] s2 (j3 x1 s2)) ?_ (fun j3 hj3 => ?_)
  · intro x1 s2
    exact r_iret C dX12_whyNoOdds_32
  refine r_join (fun j5 => ∀  (s4 : fSt), fW Δ Γ 2 (fQ eI Δ Γ) 19 [(0, .ref (fad Δ 12 0 0))] [] s4 (j5 s4)) ?_ (fun j5 hj5 => ?_)
  · intro s4
    refine r_aload_n (q := 20) (i := 0) (z := 0) C dX12_whyNoOdds_19 rfl rfl rfl ?_
    refine r_callVI (q := 23) (As := []) wm_X12_403 yvX12_isDark (c_X12_isDark Δ hN s4) ⟨rfl, by decide⟩ C (nm_12 hN) (by decide) rfl (Nat.le_of_ble_eq_true rfl) dX12_whyNoOdds_20 rfl (fun x6 s7 => ?_)
    refine r_if_eq (q := 26) (tgt := 31) C dX12_whyNoOdds_23 (by decide) rfl ?_ ?_
    · refine r_iconst (q := 32) (v := 0) C dX12_whyNoOdds_31 rfl (by decide) ?_
      refine r_locs (lc' := []) [] rfl ?_
      exact hj3 ((0 : Int32)) s7
    · refine r_bipush (q := 28) (v := 9) C dX12_whyNoOdds_26 rfl (by decide) ?_
      refine r_goto (q := 32) C dX12_whyNoOdds_28 (by decide) ?_
      refine r_locs (lc' := []) [] rfl ?_
      exact hj3 ((9 : Int32)) s7
  refine r_icmp_ne (q := 5) (tgt := 19) C dX12_whyNoOdds_2 (by decide) rfl ?_ ?_
  · refine r_locs (lc' := [(0, .ref (fad Δ 12 0 0))]) [0] rfl ?_
    exact hj5 st
  · refine r_aload_n (q := 6) (i := 0) (z := 0) C dX12_whyNoOdds_5 rfl rfl rfl ?_
    refine g_X12_35 (q := 9) C (nm_12 hN) dX12_whyNoOdds_6 rfl ?_
    refine r_iconst (q := 10) (v := 3) C dX12_whyNoOdds_9 rfl (by decide) ?_
    refine r_ial (q := 11) q_12_5 h_12_5 C (nm_12 hN) dX12_whyNoOdds_10 rfl ?_
    refine r_if_ne (q := 14) (tgt := 19) C dX12_whyNoOdds_11 (by decide) rfl ?_ ?_
    · refine r_locs (lc' := [(0, .ref (fad Δ 12 0 0))]) [0] rfl ?_
      exact hj5 st
    · refine r_bipush (q := 16) (v := 8) C dX12_whyNoOdds_14 rfl (by decide) ?_
      refine r_goto (q := 32) C dX12_whyNoOdds_16 (by decide) ?_
      refine r_locs (lc' := []) [] rfl ?_
      exact hj3 ((8 : Int32)) st

noncomputable def f_X12_mean (a1 : Int32) (st : fSt) : Option (Int32 × fSt) :=
  fLt (sI st 12 0 1 ((0 : Int32))) fun s1 =>
  fLt (sI s1 12 0 0 ((0 : Int32))) fun s2 =>
  fBd (f_X12_isKindOrLot a1 s2) fun x3 s4 =>
  if ¬ x3 = 0 then
    (fBd (f_X12_whyNoOdds a1 s4) fun x5 s6 =>
    fLt (sI s6 12 0 0 x5) fun s7 =>
    if (gI s7 12 0 0) ≤ 0 then
      (fBd (f_X12_sums a1 s7) fun _ s8 =>
      fBd (f_X12_fraction (gL s8 12 0 41) (gL s8 12 0 42) s8) fun x9 s10 =>
      fBo x9 (some (x9, s10)))
    else
      (some ((0 : Int32), s7)))
  else
    (fBd (f_X12_no ((2 : Int32)) s4) fun x11 s12 =>
    fBo x11 (some (x11, s12)))

set_option maxHeartbeats 4000000 in
set_option maxRecDepth 100000 in
theorem c_X12_mean (Δ : fDl) (hN : fNm Δ) (a1 : Int32)  (st : fSt) : fMt eI Δ yX12_mean cX12_mean 2 (some .boolean) 20 [.ref (fad Δ 12 0 0), .int a1] st (f_X12_mean a1 st) := by
  unfold f_X12_mean
  refine r_method (by decide +kernel) (Nat.le_of_ble_eq_true rfl) (fun Γ C => ?_)
  have C : fC Δ Γ cX12_mean RX12 2 (some .boolean) 20 := C
  refine r_locs (lc' := [(0, .ref (fad Δ 12 0 0)), (1, .int a1)]) [0, 1] rfl ?_
  refine r_aload_n (q := 1) (i := 0) (z := 0) C dX12_mean_0 rfl rfl rfl ?_
  refine r_iconst (q := 2) (v := 0) C dX12_mean_1 rfl (by decide) ?_
  refine p_X12_90 (q := 5) C (nm_12 hN) dX12_mean_2 rfl (fun s1 => ?_)
  refine r_aload_n (q := 6) (i := 0) (z := 0) C dX12_mean_5 rfl rfl rfl ?_
  refine r_iconst (q := 7) (v := 0) C dX12_mean_6 rfl (by decide) ?_
  refine p_X12_93 (q := 10) C (nm_12 hN) dX12_mean_7 rfl (fun s2 => ?_)
  refine r_aload_n (q := 11) (i := 0) (z := 0) C dX12_mean_10 rfl rfl rfl ?_
  refine r_iload_n (q := 12) (i := 1) (z := 1) C dX12_mean_11 rfl rfl rfl ?_
  refine r_callVI (q := 15) (As := [.int a1]) wm_X12_495 yvX12_isKindOrLot (c_X12_isKindOrLot Δ hN a1 s2) ⟨rfl, by decide⟩ C (nm_12 hN) (by decide) rfl (Nat.le_of_ble_eq_true rfl) dX12_mean_12 rfl (fun x3 s4 => ?_)
  refine r_if_ne (q := 18) (tgt := 24) C dX12_mean_15 (by decide) rfl ?_ ?_
  · refine r_aload_n (q := 25) (i := 0) (z := 0) C dX12_mean_24 rfl rfl rfl ?_
    refine r_aload_n (q := 26) (i := 0) (z := 0) C dX12_mean_25 rfl rfl rfl ?_
    refine r_iload_n (q := 27) (i := 1) (z := 1) C dX12_mean_26 rfl rfl rfl ?_
    refine r_callVI (q := 30) (As := [.int a1]) wm_X12_500 yvX12_whyNoOdds (c_X12_whyNoOdds Δ hN a1 s4) ⟨rfl, by decide⟩ C (nm_12 hN) (by decide) rfl (Nat.le_of_ble_eq_true rfl) dX12_mean_27 rfl (fun x5 s6 => ?_)
    refine p_X12_93 (q := 33) C (nm_12 hN) dX12_mean_30 rfl (fun s7 => ?_)
    refine r_aload_n (q := 34) (i := 0) (z := 0) C dX12_mean_33 rfl rfl rfl ?_
    refine g_X12_93 (q := 37) C (nm_12 hN) dX12_mean_34 rfl ?_
    refine r_if_le (q := 40) (tgt := 42) C dX12_mean_37 (by decide) rfl ?_ ?_
    · refine r_aload_n (q := 43) (i := 0) (z := 0) C dX12_mean_42 rfl rfl rfl ?_
      refine r_iload_n (q := 44) (i := 1) (z := 1) C dX12_mean_43 rfl rfl rfl ?_
      refine r_callVV (q := 47) (As := [.int a1]) wm_X12_503 yvX12_sums (c_X12_sums Δ hN a1 s7) ⟨rfl, by decide⟩ C (nm_12 hN) (by decide) rfl (Nat.le_of_ble_eq_true rfl) dX12_mean_44 rfl (fun _ s8 => ?_)
      refine r_aload_n (q := 48) (i := 0) (z := 0) C dX12_mean_47 rfl rfl rfl ?_
      refine r_aload_n (q := 49) (i := 0) (z := 0) C dX12_mean_48 rfl rfl rfl ?_
      refine g_X12_486 (q := 52) C (nm_12 hN) dX12_mean_49 rfl ?_
      refine r_aload_n (q := 53) (i := 0) (z := 0) C dX12_mean_52 rfl rfl rfl ?_
      refine g_X12_489 (q := 56) C (nm_12 hN) dX12_mean_53 rfl ?_
      refine r_callVI (q := 59) (As := [.long (gL s8 12 0 41), .long (gL s8 12 0 42)]) wm_X12_506 yvX12_fraction (c_X12_fraction Δ hN (gL s8 12 0 41) (gL s8 12 0 42) s8) ⟨rfl, by decide⟩ C (nm_12 hN) (by decide) rfl (Nat.le_of_ble_eq_true rfl) dX12_mean_56 rfl (fun x9 s10 => ?_)
      exact r_zret C dX12_mean_59
    · refine r_iconst (q := 41) (v := 0) C dX12_mean_40 rfl (by decide) ?_
      exact r_zret0 (Or.inl rfl) C dX12_mean_41
  · refine r_aload_n (q := 19) (i := 0) (z := 0) C dX12_mean_18 rfl rfl rfl ?_
    refine r_iconst (q := 20) (v := 2) C dX12_mean_19 rfl (by decide) ?_
    refine r_callVI (q := 23) (As := [.int ((2 : Int32))]) wm_X12_109 yvX12_no (c_X12_no Δ hN ((2 : Int32)) s4) ⟨rfl, by decide⟩ C (nm_12 hN) (by decide) rfl (Nat.le_of_ble_eq_true rfl) dX12_mean_20 rfl (fun x11 s12 => ?_)
    exact r_zret C dX12_mean_23

noncomputable def f_X12_must (a1 : Int32) (st : fSt) : Option (Unit × fSt) :=
  if (gI st 12 0 12) ≤ 0 then
    (fJn (fun (s1 : fSt) =>
      (some ((), s1))) fun (j2 : fSt → Option (Unit × fSt)) =>
    if a1 = 0 then
      (fBd (f_X12_wrong  st) fun _ s3 =>
      j2 s3)
    else
      (fBd (f_X12_next  st) fun _ s4 =>
      j2 s4))
  else
    (some ((), st))

set_option maxHeartbeats 4000000 in
set_option maxRecDepth 100000 in
theorem c_X12_must (Δ : fDl) (hN : fNm Δ) (a1 : Int32)  (st : fSt) : fMt eV Δ yX12_must cX12_must 2 none 3 [.ref (fad Δ 12 0 0), .int a1] st (f_X12_must a1 st) := by
  unfold f_X12_must
  refine r_method (by decide +kernel) (Nat.le_of_ble_eq_true rfl) (fun Γ C => ?_)
  have C : fC Δ Γ cX12_must RX12 2 none 3 := C
  refine r_locs (lc' := [(0, .ref (fad Δ 12 0 0)), (1, .int a1)]) [0, 1] rfl ?_
  refine r_aload_n (q := 1) (i := 0) (z := 0) C dX12_must_0 rfl rfl rfl ?_
  refine g_X12_249 (q := 4) C (nm_12 hN) dX12_must_1 rfl ?_
  refine r_if_le (q := 7) (tgt := 8) C dX12_must_4 (by decide) rfl ?_ ?_
  · refine r_iload_n (q := 9) (i := 1) (z := 1) C dX12_must_8 rfl rfl rfl ?_
    refine r_join (fun j2 => ∀  (s1 : fSt), fW Δ Γ 2 (fQ eV Δ Γ) 23 [] [] s1 (j2 s1)) ?_ (fun j2 hj2 => ?_)
    · intro s1
      exact r_vret C dX12_must_23
    refine r_if_eq (q := 12) (tgt := 19) C dX12_must_9 (by decide) rfl ?_ ?_
    · refine r_aload_n (q := 20) (i := 0) (z := 0) C dX12_must_19 rfl rfl rfl ?_
      refine r_callVV (q := 23) (As := []) wm_X12_262 yvX12_wrong (c_X12_wrong Δ hN st) ⟨rfl, by decide⟩ C (nm_12 hN) (by decide) rfl (Nat.le_of_ble_eq_true rfl) dX12_must_20 rfl (fun _ s3 => ?_)
      refine r_locs (lc' := []) [] rfl ?_
      exact hj2 s3
    · refine r_aload_n (q := 13) (i := 0) (z := 0) C dX12_must_12 rfl rfl rfl ?_
      refine r_callVV (q := 16) (As := []) wm_X12_259 yvX12_next (c_X12_next Δ hN st) ⟨rfl, by decide⟩ C (nm_12 hN) (by decide) rfl (Nat.le_of_ble_eq_true rfl) dX12_must_13 rfl (fun _ s4 => ?_)
      refine r_goto (q := 23) C dX12_must_16 (by decide) ?_
      refine r_locs (lc' := []) [] rfl ?_
      exact hj2 s4
  · exact r_vret C dX12_must_7

noncomputable def f_X12_numberOf (a1 : Int32) (a2 : Int32) (st : fSt) : Option (Int64 × fSt) :=
  fIx ((((60 : Int32)) * a1) + a2) 240 <|
  some (gB st 12 0 3 ((((60 : Int32)) * a1) + a2).toNatClampNeg, st)

set_option maxHeartbeats 4000000 in
set_option maxRecDepth 100000 in
theorem c_X12_numberOf (Δ : fDl) (hN : fNm Δ) (a1 : Int32) (a2 : Int32)  (st : fSt) : fMt eL Δ yX12_numberOf cX12_numberOf 3 (some .long) 1 [.ref (fad Δ 12 0 0), .int a1, .int a2] st (f_X12_numberOf a1 a2 st) := by
  unfold f_X12_numberOf
  refine r_method (by decide +kernel) (Nat.le_of_ble_eq_true rfl) (fun Γ C => ?_)
  have C : fC Δ Γ cX12_numberOf RX12 3 (some .long) 1 := C
  refine r_locs (lc' := [(0, .ref (fad Δ 12 0 0)), (1, .int a1), (2, .int a2)]) [0, 1, 2] rfl ?_
  refine r_aload_n (q := 1) (i := 0) (z := 0) C dX12_numberOf_0 rfl rfl rfl ?_
  refine g_X12_20 (q := 4) C (nm_12 hN) dX12_numberOf_1 rfl ?_
  refine r_bipush (q := 6) (v := 60) C dX12_numberOf_4 rfl (by decide) ?_
  refine r_iload_n (q := 7) (i := 1) (z := 1) C dX12_numberOf_6 rfl rfl rfl ?_
  refine r_imul (q := 8) C dX12_numberOf_7 rfl ?_
  refine r_iload_n (q := 9) (i := 2) (z := 2) C dX12_numberOf_8 rfl rfl rfl ?_
  refine r_iadd (q := 10) C dX12_numberOf_9 rfl ?_
  refine r_lal (q := 11) q_12_3 h_12_3 C (nm_12 hN) dX12_numberOf_10 rfl ?_
  exact r_lret C dX12_numberOf_11

noncomputable def f_X12_night_L141 (a1 : Int32) (a2 : Int32) : Nat → Int32 → Int32 → Int32 → fSt → Option (Int32 × fSt)
  | 0, _, _, _, _ => none
  | n20 + 1, x16, x17, x18, s19 =>
      if x16 < 0 then
                    (fBd (f_X12_books ((-1 : Int32)) s19) fun _ s21 =>
                    some (gI s21 12 0 25, s21))
                  else
                    (fBd (f_X12_sees x16 s19) fun _ s22 =>
                    fJn (fun (x23 : Int32) (s24 : fSt) =>
                      (fBd (f_X12_behind2 x16 x23 x17 s24) fun x26 s27 =>
                      fLt x26 fun (x28 : Int32) =>
                      fBd (f_X12_kills x16 x17 s27) fun x29 s30 =>
                      fLt x29 fun (x31 : Int32) =>
                      fLt x28 fun (x32 : Int32) =>
                      fLt (x18 + (1 : Int32)) fun (x33 : Int32) =>
                      f_X12_night_L141 a1 a2 n20 x32 x31 x33 s30)) fun (j25 : Int32 → fSt → Option (Int32 × fSt)) =>
                    if a2 ≤ x18 then
                      (j25 ((0 : Int32)) s22)
                    else
                      (fBd (f_X12_numberOf a1 x18 s22) fun x34 s35 =>
                      j25 x34.toInt32 s35))

noncomputable def f_X12_night_L75 (a1 : Int32) (a2 : Int32) (k9 : fSt → Option (Int32 × fSt)) : Nat → Int32 → fSt → Option (Int32 × fSt)
  | 0, _, _ => none
  | n40 + 1, x38, s39 =>
      if a2 ≤ x38 then
                (k9 s39)
              else
                (fBd (f_X12_numberOf a1 x38 s39) fun x41 s42 =>
                fBd (f_X12_isIn x41 ((0 : Int64)) ((3 : Int64)) s42) fun x43 s44 =>
                if ¬ x43 = 0 then
                  (fLt (x38 + (1 : Int32)) fun (x45 : Int32) =>
                  f_X12_night_L75 a1 a2 k9 n40 x45 s44)
                else
                  (fBd (f_X12_refuse ((5 : Int32)) s44) fun x46 s47 =>
                  some (x46, s47)))

noncomputable def f_X12_night (a1 : Int32) (a2 : Int32) (st : fSt) : Option (Int32 × fSt) :=
  fLt (sI st 12 0 1 ((0 : Int32))) fun s1 =>
  fLt (sI s1 12 0 0 ((0 : Int32))) fun s2 =>
  fBd (f_X12_isTray a1 s2) fun x3 s4 =>
  if ¬ x3 = 0 then
    (fIx a1 4 <|
    if 0 ≤ (gA s4 12 0 2 a1.toNatClampNeg) then
      (fBd (f_X12_isIn a2.toInt64 ((0 : Int64)) ((12 : Int64)) s4) fun x5 s6 =>
      if ¬ x5 = 0 then
        (fIx a1 4 <|
        if a2 ≤ (gA s6 12 0 2 a1.toNatClampNeg) then
          (fLt ((0 : Int32)) fun (x7 : Int32) =>
          fJn (fun (s8 : fSt) =>
            (fBd (f_X12_isDark  s8) fun x10 s11 =>
            if x10 = 0 then
              (fBd (f_X12_raises  s11) fun _ s12 =>
              fIx ((2 : Int32)) 2150 <|
              fLt ((gA s12 12 0 5 ((2 : Int32)).toNatClampNeg) - ((1 : Int32))) fun (x13 : Int32) =>
              fLt ((0 : Int32)) fun (x14 : Int32) =>
              fLt ((0 : Int32)) fun (x15 : Int32) =>
              f_X12_night_L141 a1 a2 fF x13 x14 x15 s12)
            else
              (fBd (f_X12_refuse ((9 : Int32)) s11) fun x36 s37 =>
              some (x36, s37)))) fun (k9 : fSt → Option (Int32 × fSt)) =>
          f_X12_night_L75 a1 a2 k9 fF x7 s6)
        else
          (fBd (f_X12_refuse ((4 : Int32)) s6) fun x48 s49 =>
          some (x48, s49)))
      else
        (fBd (f_X12_refuse ((5 : Int32)) s6) fun x50 s51 =>
        some (x50, s51)))
    else
      (fBd (f_X12_refuse ((3 : Int32)) s4) fun x52 s53 =>
      some (x52, s53)))
  else
    (fBd (f_X12_refuse ((1 : Int32)) s4) fun x54 s55 =>
    some (x54, s55))

set_option maxHeartbeats 4000000 in
set_option maxRecDepth 100000 in
theorem c_X12_night (Δ : fDl) (hN : fNm Δ) (a1 : Int32) (a2 : Int32)  (st : fSt) : fMt eI Δ yX12_night cX12_night 7 (some .int) 4 [.ref (fad Δ 12 0 0), .int a1, .int a2] st (f_X12_night a1 a2 st) := by
  unfold f_X12_night
  refine r_method (by decide +kernel) (Nat.le_of_ble_eq_true rfl) (fun Γ C => ?_)
  have C : fC Δ Γ cX12_night RX12 7 (some .int) 4 := C
  refine r_locs (lc' := [(0, .ref (fad Δ 12 0 0)), (1, .int a1), (2, .int a2)]) [0, 1, 2] rfl ?_
  refine r_aload_n (q := 1) (i := 0) (z := 0) C dX12_night_0 rfl rfl rfl ?_
  refine r_iconst (q := 2) (v := 0) C dX12_night_1 rfl (by decide) ?_
  refine p_X12_90 (q := 5) C (nm_12 hN) dX12_night_2 rfl (fun s1 => ?_)
  refine r_aload_n (q := 6) (i := 0) (z := 0) C dX12_night_5 rfl rfl rfl ?_
  refine r_iconst (q := 7) (v := 0) C dX12_night_6 rfl (by decide) ?_
  refine p_X12_93 (q := 10) C (nm_12 hN) dX12_night_7 rfl (fun s2 => ?_)
  refine r_aload_n (q := 11) (i := 0) (z := 0) C dX12_night_10 rfl rfl rfl ?_
  refine r_iload_n (q := 12) (i := 1) (z := 1) C dX12_night_11 rfl rfl rfl ?_
  refine r_callVI (q := 15) (As := [.int a1]) wm_X12_394 yvX12_isTray (c_X12_isTray Δ hN a1 s2) ⟨rfl, by decide⟩ C (nm_12 hN) (by decide) rfl (Nat.le_of_ble_eq_true rfl) dX12_night_12 rfl (fun x3 s4 => ?_)
  refine r_if_ne (q := 18) (tgt := 24) C dX12_night_15 (by decide) rfl ?_ ?_
  · refine r_aload_n (q := 25) (i := 0) (z := 0) C dX12_night_24 rfl rfl rfl ?_
    refine g_X12_17 (q := 28) C (nm_12 hN) dX12_night_25 rfl ?_
    refine r_iload_n (q := 29) (i := 1) (z := 1) C dX12_night_28 rfl rfl rfl ?_
    refine r_ial (q := 30) q_12_2 h_12_2 C (nm_12 hN) dX12_night_29 rfl ?_
    refine r_if_ge (q := 33) (tgt := 39) C dX12_night_30 (by decide) rfl ?_ ?_
    · refine r_iload_n (q := 40) (i := 2) (z := 2) C dX12_night_39 rfl rfl rfl ?_
      refine r_i2l (q := 41) C dX12_night_40 rfl ?_
      refine r_lconst (q := 42) (v := 0) C dX12_night_41 rfl (by decide) ?_
      refine r_ldc2 (q := 45) C dX12_night_42 rfl wl_X12_397 ?_
      refine r_callSI (q := 48) (As := [.long a2.toInt64, .long ((0 : Int64)), .long ((12 : Int64))]) wm_X12_129 ysX12_isIn (c_X12_isIn Δ hN a2.toInt64 ((0 : Int64)) ((12 : Int64)) s4) C (by decide) rfl (Nat.le_of_ble_eq_true rfl) dX12_night_45 rfl (fun x5 s6 => ?_)
      refine r_if_ne (q := 51) (tgt := 57) C dX12_night_48 (by decide) rfl ?_ ?_
      · refine r_aload_n (q := 58) (i := 0) (z := 0) C dX12_night_57 rfl rfl rfl ?_
        refine g_X12_17 (q := 61) C (nm_12 hN) dX12_night_58 rfl ?_
        refine r_iload_n (q := 62) (i := 1) (z := 1) C dX12_night_61 rfl rfl rfl ?_
        refine r_ial (q := 63) q_12_2 h_12_2 C (nm_12 hN) dX12_night_62 rfl ?_
        refine r_iload_n (q := 64) (i := 2) (z := 2) C dX12_night_63 rfl rfl rfl ?_
        refine r_icmp_ge (q := 67) (tgt := 73) C dX12_night_64 (by decide) rfl ?_ ?_
        · refine r_iconst (q := 74) (v := 0) C dX12_night_73 rfl (by decide) ?_
          refine r_istore_n (q := 75) (i := 3) [(0, .ref (fad Δ 12 0 0)), (1, .int a1), (2, .int a2)] C dX12_night_74 rfl rfl (by decide) rfl (fun x7 => ?_)
          refine r_join (fun k9 => ∀  (s8 : fSt), fW Δ Γ 7 (fQ eI Δ Γ) 108 [(0, .ref (fad Δ 12 0 0)), (1, .int a1), (2, .int a2)] [] s8 (k9 s8)) ?_ (fun k9 hk9 => ?_)
          · intro s8
            refine r_aload_n (q := 109) (i := 0) (z := 0) C dX12_night_108 rfl rfl rfl ?_
            refine r_callVI (q := 112) (As := []) wm_X12_403 yvX12_isDark (c_X12_isDark Δ hN s8) ⟨rfl, by decide⟩ C (nm_12 hN) (by decide) rfl (Nat.le_of_ble_eq_true rfl) dX12_night_109 rfl (fun x10 s11 => ?_)
            refine r_if_eq (q := 115) (tgt := 122) C dX12_night_112 (by decide) rfl ?_ ?_
            · refine r_aload_n (q := 123) (i := 0) (z := 0) C dX12_night_122 rfl rfl rfl ?_
              refine r_callVV (q := 126) (As := []) wm_X12_406 yvX12_raises (c_X12_raises Δ hN s11) ⟨rfl, by decide⟩ C (nm_12 hN) (by decide) rfl (Nat.le_of_ble_eq_true rfl) dX12_night_123 rfl (fun _ s12 => ?_)
              refine r_aload_n (q := 127) (i := 0) (z := 0) C dX12_night_126 rfl rfl rfl ?_
              refine g_X12_35 (q := 130) C (nm_12 hN) dX12_night_127 rfl ?_
              refine r_iconst (q := 131) (v := 2) C dX12_night_130 rfl (by decide) ?_
              refine r_ial (q := 132) q_12_5 h_12_5 C (nm_12 hN) dX12_night_131 rfl ?_
              refine r_iconst (q := 133) (v := 1) C dX12_night_132 rfl (by decide) ?_
              refine r_isub (q := 134) C dX12_night_133 rfl ?_
              refine r_istore_n (q := 135) (i := 3) [(0, .ref (fad Δ 12 0 0)), (1, .int a1), (2, .int a2)] C dX12_night_134 rfl rfl (by decide) rfl (fun x13 => ?_)
              refine r_iconst (q := 136) (v := 0) C dX12_night_135 rfl (by decide) ?_
              refine r_istore (q := 138) (i := 4) [(3, .int x13), (0, .ref (fad Δ 12 0 0)), (1, .int a1), (2, .int a2)] C dX12_night_136 rfl (by decide) rfl (fun x14 => ?_)
              refine r_iconst (q := 139) (v := 0) C dX12_night_138 rfl (by decide) ?_
              refine r_istore (q := 141) (i := 5) [(4, .int x14), (3, .int x13), (0, .ref (fad Δ 12 0 0)), (1, .int a1), (2, .int a2)] C dX12_night_139 rfl (by decide) rfl (fun x15 => ?_)
              refine r_locs (lc' := [(0, .ref (fad Δ 12 0 0)), (1, .int a1), (2, .int a2), (3, .int x13), (4, .int x14), (5, .int x15)]) [3, 4, 5, 2, 1, 0] rfl ?_
              have L141 : ∀ (n20 : Nat) (x16 : Int32) (x17 : Int32) (x18 : Int32) (s19 : fSt), fW Δ Γ 7 (fQ eI Δ Γ) 141 [(0, .ref (fad Δ 12 0 0)), (1, .int a1), (2, .int a2), (3, .int x16), (4, .int x17), (5, .int x18)] [] s19 (f_X12_night_L141 a1 a2 n20 x16 x17 x18 s19) := by
                intro n20
                induction n20 with
                | zero =>
                  intro x16 x17 x18 s19
                  rw [f_X12_night_L141]
                  exact r_none
                | succ n20 ih_n20 =>
                  intro x16 x17 x18 s19
                  rw [f_X12_night_L141]
                  refine r_iload_n (q := 142) (i := 3) (z := 3) C dX12_night_141 rfl rfl rfl ?_
                  refine r_if_lt (q := 145) (tgt := 195) C dX12_night_142 (by decide) rfl ?_ ?_
                  · refine r_aload_n (q := 196) (i := 0) (z := 0) C dX12_night_195 rfl rfl rfl ?_
                    refine r_iconst (q := 197) (v := (-1)) C dX12_night_196 rfl (by decide) ?_
                    refine r_callVV (q := 200) (As := [.int ((-1 : Int32))]) wm_X12_415 yvX12_books (c_X12_books Δ hN ((-1 : Int32)) s19) ⟨rfl, by decide⟩ C (nm_12 hN) (by decide) rfl (Nat.le_of_ble_eq_true rfl) dX12_night_197 rfl (fun _ s21 => ?_)
                    refine r_aload_n (q := 201) (i := 0) (z := 0) C dX12_night_200 rfl rfl rfl ?_
                    refine g_X12_382 (q := 204) C (nm_12 hN) dX12_night_201 rfl ?_
                    exact r_iret C dX12_night_204
                  · refine r_aload_n (q := 146) (i := 0) (z := 0) C dX12_night_145 rfl rfl rfl ?_
                    refine r_iload_n (q := 147) (i := 3) (z := 3) C dX12_night_146 rfl rfl rfl ?_
                    refine r_callVV (q := 150) (As := [.int x16]) wm_X12_409 yvX12_sees (c_X12_sees Δ hN x16 s19) ⟨rfl, by decide⟩ C (nm_12 hN) (by decide) rfl (Nat.le_of_ble_eq_true rfl) dX12_night_147 rfl (fun _ s22 => ?_)
                    refine r_aload_n (q := 151) (i := 0) (z := 0) C dX12_night_150 rfl rfl rfl ?_
                    refine r_iload_n (q := 152) (i := 3) (z := 3) C dX12_night_151 rfl rfl rfl ?_
                    refine r_iload (q := 154) (i := 5) (z := 5) C dX12_night_152 rfl rfl ?_
                    refine r_iload_n (q := 155) (i := 2) (z := 2) C dX12_night_154 rfl rfl rfl ?_
                    refine r_join (fun j25 => ∀ (x23 : Int32) (s24 : fSt), fW Δ Γ 7 (fQ eI Δ Γ) 170 [(0, .ref (fad Δ 12 0 0)), (1, .int a1), (2, .int a2), (3, .int x16), (4, .int x17), (5, .int x18)] [.int x23, .int x16, .ref (fad Δ 12 0 0)] s24 (j25 x23 s24)) ?_ (fun j25 hj25 => ?_)
                    · intro x23 s24
                      refine r_iload (q := 172) (i := 4) (z := 4) C dX12_night_170 rfl rfl ?_
                      refine r_callVI (q := 175) (As := [.int x16, .int x23, .int x17]) wm_X12_412 yvX12_behind2 (c_X12_behind2 Δ hN x16 x23 x17 s24) ⟨rfl, by decide⟩ C (nm_12 hN) (by decide) rfl (Nat.le_of_ble_eq_true rfl) dX12_night_172 rfl (fun x26 s27 => ?_)
                      refine r_istore (q := 177) (i := 6) [(0, .ref (fad Δ 12 0 0)), (1, .int a1), (2, .int a2), (3, .int x16), (4, .int x17), (5, .int x18)] C dX12_night_175 rfl (by decide) rfl (fun x28 => ?_)
                      refine r_aload_n (q := 178) (i := 0) (z := 1) C dX12_night_177 rfl rfl rfl ?_
                      refine r_iload_n (q := 179) (i := 3) (z := 4) C dX12_night_178 rfl rfl rfl ?_
                      refine r_iload (q := 181) (i := 4) (z := 5) C dX12_night_179 rfl rfl ?_
                      refine r_callVI (q := 184) (As := [.int x16, .int x17]) wm_X12_379 yvX12_kills (c_X12_kills Δ hN x16 x17 s27) ⟨rfl, by decide⟩ C (nm_12 hN) (by decide) rfl (Nat.le_of_ble_eq_true rfl) dX12_night_181 rfl (fun x29 s30 => ?_)
                      refine r_istore (q := 186) (i := 4) [(6, .int x28), (0, .ref (fad Δ 12 0 0)), (1, .int a1), (2, .int a2), (3, .int x16), (5, .int x18)] C dX12_night_184 rfl (by decide) rfl (fun x31 => ?_)
                      refine r_iload (q := 188) (i := 6) (z := 1) C dX12_night_186 rfl rfl ?_
                      refine r_istore_n (q := 189) (i := 3) [(4, .int x31), (6, .int x28), (0, .ref (fad Δ 12 0 0)), (1, .int a1), (2, .int a2), (5, .int x18)] C dX12_night_188 rfl rfl (by decide) rfl (fun x32 => ?_)
                      refine r_iinc (q := 192) (z := 6) (d := 1) [(3, .int x32), (4, .int x31), (6, .int x28), (0, .ref (fad Δ 12 0 0)), (1, .int a1), (2, .int a2)] C dX12_night_189 rfl rfl (by decide) (by decide) rfl (fun x33 => ?_)
                      refine r_goto (q := 141) C dX12_night_192 (by decide) ?_
                      refine r_locs (lc' := [(0, .ref (fad Δ 12 0 0)), (1, .int a1), (2, .int a2), (3, .int x32), (4, .int x31), (5, .int x33)]) [4, 5, 6, 1, 2, 0] rfl ?_
                      exact ih_n20 x32 x31 x33 s30
                    refine r_icmp_ge (q := 158) (tgt := 169) C dX12_night_155 (by decide) rfl ?_ ?_
                    · refine r_iconst (q := 170) (v := 0) C dX12_night_169 rfl (by decide) ?_
                      exact hj25 ((0 : Int32)) s22
                    · refine r_aload_n (q := 159) (i := 0) (z := 0) C dX12_night_158 rfl rfl rfl ?_
                      refine r_iload_n (q := 160) (i := 1) (z := 1) C dX12_night_159 rfl rfl rfl ?_
                      refine r_iload (q := 162) (i := 5) (z := 5) C dX12_night_160 rfl rfl ?_
                      refine r_callVL (q := 165) (As := [.int a1, .int x18]) wm_X12_399 yvX12_numberOf (c_X12_numberOf Δ hN a1 x18 s22) ⟨rfl, by decide⟩ C (nm_12 hN) (by decide) rfl (Nat.le_of_ble_eq_true rfl) dX12_night_162 rfl (fun x34 s35 => ?_)
                      refine r_l2i (q := 166) C dX12_night_165 rfl ?_
                      refine r_goto (q := 170) C dX12_night_166 (by decide) ?_
                      exact hj25 x34.toInt32 s35
              exact L141 fF x13 x14 x15 s12
            · refine r_aload_n (q := 116) (i := 0) (z := 0) C dX12_night_115 rfl rfl rfl ?_
              refine r_bipush (q := 118) (v := 9) C dX12_night_116 rfl (by decide) ?_
              refine r_callVI (q := 121) (As := [.int ((9 : Int32))]) wm_X12_348 yvX12_refuse (c_X12_refuse Δ hN ((9 : Int32)) s11) ⟨rfl, by decide⟩ C (nm_12 hN) (by decide) rfl (Nat.le_of_ble_eq_true rfl) dX12_night_118 rfl (fun x36 s37 => ?_)
              exact r_iret C dX12_night_121
          refine r_locs (lc' := [(0, .ref (fad Δ 12 0 0)), (1, .int a1), (2, .int a2), (3, .int x7)]) [1, 2, 3, 0] rfl ?_
          have L75 : ∀ (n40 : Nat) (x38 : Int32) (s39 : fSt), fW Δ Γ 7 (fQ eI Δ Γ) 75 [(0, .ref (fad Δ 12 0 0)), (1, .int a1), (2, .int a2), (3, .int x38)] [] s39 (f_X12_night_L75 a1 a2 k9 n40 x38 s39) := by
            intro n40
            induction n40 with
            | zero =>
              intro x38 s39
              rw [f_X12_night_L75]
              exact r_none
            | succ n40 ih_n40 =>
              intro x38 s39
              rw [f_X12_night_L75]
              refine r_iload_n (q := 76) (i := 3) (z := 3) C dX12_night_75 rfl rfl rfl ?_
              refine r_iload_n (q := 77) (i := 2) (z := 2) C dX12_night_76 rfl rfl rfl ?_
              refine r_icmp_ge (q := 80) (tgt := 108) C dX12_night_77 (by decide) rfl ?_ ?_
              · refine r_locs (lc' := [(0, .ref (fad Δ 12 0 0)), (1, .int a1), (2, .int a2)]) [0, 1, 2] rfl ?_
                exact hk9 s39
              · refine r_aload_n (q := 81) (i := 0) (z := 0) C dX12_night_80 rfl rfl rfl ?_
                refine r_iload_n (q := 82) (i := 1) (z := 1) C dX12_night_81 rfl rfl rfl ?_
                refine r_iload_n (q := 83) (i := 3) (z := 3) C dX12_night_82 rfl rfl rfl ?_
                refine r_callVL (q := 86) (As := [.int a1, .int x38]) wm_X12_399 yvX12_numberOf (c_X12_numberOf Δ hN a1 x38 s39) ⟨rfl, by decide⟩ C (nm_12 hN) (by decide) rfl (Nat.le_of_ble_eq_true rfl) dX12_night_83 rfl (fun x41 s42 => ?_)
                refine r_lconst (q := 87) (v := 0) C dX12_night_86 rfl (by decide) ?_
                refine r_ldc2 (q := 90) C dX12_night_87 rfl wl_X12_127 ?_
                refine r_callSI (q := 93) (As := [.long x41, .long ((0 : Int64)), .long ((3 : Int64))]) wm_X12_129 ysX12_isIn (c_X12_isIn Δ hN x41 ((0 : Int64)) ((3 : Int64)) s42) C (by decide) rfl (Nat.le_of_ble_eq_true rfl) dX12_night_90 rfl (fun x43 s44 => ?_)
                refine r_if_ne (q := 96) (tgt := 102) C dX12_night_93 (by decide) rfl ?_ ?_
                · refine r_iinc (q := 105) (z := 3) (d := 1) [(0, .ref (fad Δ 12 0 0)), (1, .int a1), (2, .int a2)] C dX12_night_102 rfl rfl (by decide) (by decide) rfl (fun x45 => ?_)
                  refine r_goto (q := 75) C dX12_night_105 (by decide) ?_
                  refine r_locs (lc' := [(0, .ref (fad Δ 12 0 0)), (1, .int a1), (2, .int a2), (3, .int x45)]) [1, 2, 3, 0] rfl ?_
                  exact ih_n40 x45 s44
                · refine r_aload_n (q := 97) (i := 0) (z := 0) C dX12_night_96 rfl rfl rfl ?_
                  refine r_iconst (q := 98) (v := 5) C dX12_night_97 rfl (by decide) ?_
                  refine r_callVI (q := 101) (As := [.int ((5 : Int32))]) wm_X12_348 yvX12_refuse (c_X12_refuse Δ hN ((5 : Int32)) s44) ⟨rfl, by decide⟩ C (nm_12 hN) (by decide) rfl (Nat.le_of_ble_eq_true rfl) dX12_night_98 rfl (fun x46 s47 => ?_)
                  exact r_iret C dX12_night_101
          exact L75 fF x7 s6
        · refine r_aload_n (q := 68) (i := 0) (z := 0) C dX12_night_67 rfl rfl rfl ?_
          refine r_iconst (q := 69) (v := 4) C dX12_night_68 rfl (by decide) ?_
          refine r_callVI (q := 72) (As := [.int ((4 : Int32))]) wm_X12_348 yvX12_refuse (c_X12_refuse Δ hN ((4 : Int32)) s6) ⟨rfl, by decide⟩ C (nm_12 hN) (by decide) rfl (Nat.le_of_ble_eq_true rfl) dX12_night_69 rfl (fun x48 s49 => ?_)
          exact r_iret C dX12_night_72
      · refine r_aload_n (q := 52) (i := 0) (z := 0) C dX12_night_51 rfl rfl rfl ?_
        refine r_iconst (q := 53) (v := 5) C dX12_night_52 rfl (by decide) ?_
        refine r_callVI (q := 56) (As := [.int ((5 : Int32))]) wm_X12_348 yvX12_refuse (c_X12_refuse Δ hN ((5 : Int32)) s6) ⟨rfl, by decide⟩ C (nm_12 hN) (by decide) rfl (Nat.le_of_ble_eq_true rfl) dX12_night_53 rfl (fun x50 s51 => ?_)
        exact r_iret C dX12_night_56
    · refine r_aload_n (q := 34) (i := 0) (z := 0) C dX12_night_33 rfl rfl rfl ?_
      refine r_iconst (q := 35) (v := 3) C dX12_night_34 rfl (by decide) ?_
      refine r_callVI (q := 38) (As := [.int ((3 : Int32))]) wm_X12_348 yvX12_refuse (c_X12_refuse Δ hN ((3 : Int32)) s4) ⟨rfl, by decide⟩ C (nm_12 hN) (by decide) rfl (Nat.le_of_ble_eq_true rfl) dX12_night_35 rfl (fun x52 s53 => ?_)
      exact r_iret C dX12_night_38
  · refine r_aload_n (q := 19) (i := 0) (z := 0) C dX12_night_18 rfl rfl rfl ?_
    refine r_iconst (q := 20) (v := 1) C dX12_night_19 rfl (by decide) ?_
    refine r_callVI (q := 23) (As := [.int ((1 : Int32))]) wm_X12_348 yvX12_refuse (c_X12_refuse Δ hN ((1 : Int32)) s4) ⟨rfl, by decide⟩ C (nm_12 hN) (by decide) rfl (Nat.le_of_ble_eq_true rfl) dX12_night_20 rfl (fun x54 s55 => ?_)
    exact r_iret C dX12_night_23

noncomputable def f_X12_odds (a1 : Int32) (a2 : Int32) (st : fSt) : Option (Int32 × fSt) :=
  fLt (sI st 12 0 1 ((0 : Int32))) fun s1 =>
  fLt (sI s1 12 0 0 ((0 : Int32))) fun s2 =>
  fBd (f_X12_isKindOrLot a2 s2) fun x3 s4 =>
  if ¬ x3 = 0 then
    (fBd (f_X12_isIn a1.toInt64 ((0 : Int64)) ((9 : Int64)) s4) fun x5 s6 =>
    if ¬ x5 = 0 then
      (fBd (f_X12_whyNoOdds a2 s6) fun x7 s8 =>
      fLt (sI s8 12 0 0 x7) fun s9 =>
      if (gI s9 12 0 0) ≤ 0 then
        (fBd (f_X12_sums a2 s9) fun _ s10 =>
        fIx a1 10 <|
        fBd (f_X12_fraction (gB s10 12 0 12 a1.toNatClampNeg) (gL s10 12 0 42) s10) fun x11 s12 =>
        fBo x11 (some (x11, s12)))
      else
        (some ((0 : Int32), s9)))
    else
      (fBd (f_X12_no ((5 : Int32)) s6) fun x13 s14 =>
      fBo x13 (some (x13, s14))))
  else
    (fBd (f_X12_no ((2 : Int32)) s4) fun x15 s16 =>
    fBo x15 (some (x15, s16)))

set_option maxHeartbeats 4000000 in
set_option maxRecDepth 100000 in
theorem c_X12_odds (Δ : fDl) (hN : fNm Δ) (a1 : Int32) (a2 : Int32)  (st : fSt) : fMt eI Δ yX12_odds cX12_odds 3 (some .boolean) 20 [.ref (fad Δ 12 0 0), .int a1, .int a2] st (f_X12_odds a1 a2 st) := by
  unfold f_X12_odds
  refine r_method (by decide +kernel) (Nat.le_of_ble_eq_true rfl) (fun Γ C => ?_)
  have C : fC Δ Γ cX12_odds RX12 3 (some .boolean) 20 := C
  refine r_locs (lc' := [(0, .ref (fad Δ 12 0 0)), (1, .int a1), (2, .int a2)]) [0, 1, 2] rfl ?_
  refine r_aload_n (q := 1) (i := 0) (z := 0) C dX12_odds_0 rfl rfl rfl ?_
  refine r_iconst (q := 2) (v := 0) C dX12_odds_1 rfl (by decide) ?_
  refine p_X12_90 (q := 5) C (nm_12 hN) dX12_odds_2 rfl (fun s1 => ?_)
  refine r_aload_n (q := 6) (i := 0) (z := 0) C dX12_odds_5 rfl rfl rfl ?_
  refine r_iconst (q := 7) (v := 0) C dX12_odds_6 rfl (by decide) ?_
  refine p_X12_93 (q := 10) C (nm_12 hN) dX12_odds_7 rfl (fun s2 => ?_)
  refine r_aload_n (q := 11) (i := 0) (z := 0) C dX12_odds_10 rfl rfl rfl ?_
  refine r_iload_n (q := 12) (i := 2) (z := 2) C dX12_odds_11 rfl rfl rfl ?_
  refine r_callVI (q := 15) (As := [.int a2]) wm_X12_495 yvX12_isKindOrLot (c_X12_isKindOrLot Δ hN a2 s2) ⟨rfl, by decide⟩ C (nm_12 hN) (by decide) rfl (Nat.le_of_ble_eq_true rfl) dX12_odds_12 rfl (fun x3 s4 => ?_)
  refine r_if_ne (q := 18) (tgt := 24) C dX12_odds_15 (by decide) rfl ?_ ?_
  · refine r_iload_n (q := 25) (i := 1) (z := 1) C dX12_odds_24 rfl rfl rfl ?_
    refine r_i2l (q := 26) C dX12_odds_25 rfl ?_
    refine r_lconst (q := 27) (v := 0) C dX12_odds_26 rfl (by decide) ?_
    refine r_ldc2 (q := 30) C dX12_odds_27 rfl wl_X12_498 ?_
    refine r_callSI (q := 33) (As := [.long a1.toInt64, .long ((0 : Int64)), .long ((9 : Int64))]) wm_X12_129 ysX12_isIn (c_X12_isIn Δ hN a1.toInt64 ((0 : Int64)) ((9 : Int64)) s4) C (by decide) rfl (Nat.le_of_ble_eq_true rfl) dX12_odds_30 rfl (fun x5 s6 => ?_)
    refine r_if_ne (q := 36) (tgt := 42) C dX12_odds_33 (by decide) rfl ?_ ?_
    · refine r_aload_n (q := 43) (i := 0) (z := 0) C dX12_odds_42 rfl rfl rfl ?_
      refine r_aload_n (q := 44) (i := 0) (z := 0) C dX12_odds_43 rfl rfl rfl ?_
      refine r_iload_n (q := 45) (i := 2) (z := 2) C dX12_odds_44 rfl rfl rfl ?_
      refine r_callVI (q := 48) (As := [.int a2]) wm_X12_500 yvX12_whyNoOdds (c_X12_whyNoOdds Δ hN a2 s6) ⟨rfl, by decide⟩ C (nm_12 hN) (by decide) rfl (Nat.le_of_ble_eq_true rfl) dX12_odds_45 rfl (fun x7 s8 => ?_)
      refine p_X12_93 (q := 51) C (nm_12 hN) dX12_odds_48 rfl (fun s9 => ?_)
      refine r_aload_n (q := 52) (i := 0) (z := 0) C dX12_odds_51 rfl rfl rfl ?_
      refine g_X12_93 (q := 55) C (nm_12 hN) dX12_odds_52 rfl ?_
      refine r_if_le (q := 58) (tgt := 60) C dX12_odds_55 (by decide) rfl ?_ ?_
      · refine r_aload_n (q := 61) (i := 0) (z := 0) C dX12_odds_60 rfl rfl rfl ?_
        refine r_iload_n (q := 62) (i := 2) (z := 2) C dX12_odds_61 rfl rfl rfl ?_
        refine r_callVV (q := 65) (As := [.int a2]) wm_X12_503 yvX12_sums (c_X12_sums Δ hN a2 s9) ⟨rfl, by decide⟩ C (nm_12 hN) (by decide) rfl (Nat.le_of_ble_eq_true rfl) dX12_odds_62 rfl (fun _ s10 => ?_)
        refine r_aload_n (q := 66) (i := 0) (z := 0) C dX12_odds_65 rfl rfl rfl ?_
        refine r_aload_n (q := 67) (i := 0) (z := 0) C dX12_odds_66 rfl rfl rfl ?_
        refine g_X12_57 (q := 70) C (nm_12 hN) dX12_odds_67 rfl ?_
        refine r_iload_n (q := 71) (i := 1) (z := 1) C dX12_odds_70 rfl rfl rfl ?_
        refine r_lal (q := 72) q_12_12 h_12_12 C (nm_12 hN) dX12_odds_71 rfl ?_
        refine r_aload_n (q := 73) (i := 0) (z := 0) C dX12_odds_72 rfl rfl rfl ?_
        refine g_X12_489 (q := 76) C (nm_12 hN) dX12_odds_73 rfl ?_
        refine r_callVI (q := 79) (As := [.long (gB s10 12 0 12 a1.toNatClampNeg), .long (gL s10 12 0 42)]) wm_X12_506 yvX12_fraction (c_X12_fraction Δ hN (gB s10 12 0 12 a1.toNatClampNeg) (gL s10 12 0 42) s10) ⟨rfl, by decide⟩ C (nm_12 hN) (by decide) rfl (Nat.le_of_ble_eq_true rfl) dX12_odds_76 rfl (fun x11 s12 => ?_)
        exact r_zret C dX12_odds_79
      · refine r_iconst (q := 59) (v := 0) C dX12_odds_58 rfl (by decide) ?_
        exact r_zret0 (Or.inl rfl) C dX12_odds_59
    · refine r_aload_n (q := 37) (i := 0) (z := 0) C dX12_odds_36 rfl rfl rfl ?_
      refine r_iconst (q := 38) (v := 5) C dX12_odds_37 rfl (by decide) ?_
      refine r_callVI (q := 41) (As := [.int ((5 : Int32))]) wm_X12_109 yvX12_no (c_X12_no Δ hN ((5 : Int32)) s6) ⟨rfl, by decide⟩ C (nm_12 hN) (by decide) rfl (Nat.le_of_ble_eq_true rfl) dX12_odds_38 rfl (fun x13 s14 => ?_)
      exact r_zret C dX12_odds_41
  · refine r_aload_n (q := 19) (i := 0) (z := 0) C dX12_odds_18 rfl rfl rfl ?_
    refine r_iconst (q := 20) (v := 2) C dX12_odds_19 rfl (by decide) ?_
    refine r_callVI (q := 23) (As := [.int ((2 : Int32))]) wm_X12_109 yvX12_no (c_X12_no Δ hN ((2 : Int32)) s4) ⟨rfl, by decide⟩ C (nm_12 hN) (by decide) rfl (Nat.le_of_ble_eq_true rfl) dX12_odds_20 rfl (fun x15 s16 => ?_)
    exact r_zret C dX12_odds_23

noncomputable def f_X12_weeks (a1 : Int32) (st : fSt) : Option (Unit × fSt) :=
  fIx ((4 : Int32)) 2150 <|
  fLt (gA st 12 0 5 ((4 : Int32)).toNatClampNeg) fun (x1 : Int32) =>
  fIx ((5 : Int32)) 2150 <|
  fLt (gA st 12 0 5 ((5 : Int32)).toNatClampNeg) fun (x2 : Int32) =>
  fLt (sI st 12 0 28 a1) fun s3 =>
  fLt (sI s3 12 0 58 ((0 : Int32))) fun s4 =>
  fLt (sI s4 12 0 59 ((0 : Int32))) fun s5 =>
  fLt (sI s5 12 0 60 ((0 : Int32))) fun s6 =>
  fLt (sI s6 12 0 61 ((0 : Int32))) fun s7 =>
  fLt (sI s7 12 0 62 ((0 : Int32))) fun s8 =>
  fLt (sI s8 12 0 63 ((0 : Int32))) fun s9 =>
  fLt (sI s9 12 0 64 ((-1 : Int32))) fun s10 =>
  fBo ((0 : Int32)) <| fLt (sI s10 12 0 57 ((0 : Int32))) fun s11 =>
  fIx ((218 : Int32)) 2150 <|
  fBd (f_X12_doAll 6 ((0 : Int32)) (gA s11 12 0 5 ((218 : Int32)).toNatClampNeg) s11) fun _ s12 =>
  fIx ((4 : Int32)) 2150 <|
  fLt (sA s12 12 0 5 (upd (gA s12 12 0 5) ((4 : Int32)).toNatClampNeg x1)) fun s13 =>
  fIx ((5 : Int32)) 2150 <|
  fLt (sA s13 12 0 5 (upd (gA s13 12 0 5) ((5 : Int32)).toNatClampNeg x2)) fun s14 =>
  some ((), s14)

set_option maxHeartbeats 4000000 in
set_option maxRecDepth 100000 in
theorem c_X12_weeks (Δ : fDl) (hN : fNm Δ) (a1 : Int32)  (st : fSt) : fMt eV Δ yX12_weeks cX12_weeks 4 none 18 [.ref (fad Δ 12 0 0), .int a1] st (f_X12_weeks a1 st) := by
  unfold f_X12_weeks
  refine r_method (by decide +kernel) (Nat.le_of_ble_eq_true rfl) (fun Γ C => ?_)
  have C : fC Δ Γ cX12_weeks RX12 4 none 18 := C
  refine r_locs (lc' := [(0, .ref (fad Δ 12 0 0)), (1, .int a1)]) [0, 1] rfl ?_
  refine r_aload_n (q := 1) (i := 0) (z := 0) C dX12_weeks_0 rfl rfl rfl ?_
  refine g_X12_35 (q := 4) C (nm_12 hN) dX12_weeks_1 rfl ?_
  refine r_iconst (q := 5) (v := 4) C dX12_weeks_4 rfl (by decide) ?_
  refine r_ial (q := 6) q_12_5 h_12_5 C (nm_12 hN) dX12_weeks_5 rfl ?_
  refine r_istore_n (q := 7) (i := 2) [(0, .ref (fad Δ 12 0 0)), (1, .int a1)] C dX12_weeks_6 rfl rfl (by decide) rfl (fun x1 => ?_)
  refine r_aload_n (q := 8) (i := 0) (z := 1) C dX12_weeks_7 rfl rfl rfl ?_
  refine g_X12_35 (q := 11) C (nm_12 hN) dX12_weeks_8 rfl ?_
  refine r_iconst (q := 12) (v := 5) C dX12_weeks_11 rfl (by decide) ?_
  refine r_ial (q := 13) q_12_5 h_12_5 C (nm_12 hN) dX12_weeks_12 rfl ?_
  refine r_istore_n (q := 14) (i := 3) [(2, .int x1), (0, .ref (fad Δ 12 0 0)), (1, .int a1)] C dX12_weeks_13 rfl rfl (by decide) rfl (fun x2 => ?_)
  refine r_aload_n (q := 15) (i := 0) (z := 2) C dX12_weeks_14 rfl rfl rfl ?_
  refine r_iload_n (q := 16) (i := 1) (z := 3) C dX12_weeks_15 rfl rfl rfl ?_
  refine p_X12_418 (q := 19) C (nm_12 hN) dX12_weeks_16 rfl (fun s3 => ?_)
  refine r_aload_n (q := 20) (i := 0) (z := 2) C dX12_weeks_19 rfl rfl rfl ?_
  refine r_iconst (q := 21) (v := 0) C dX12_weeks_20 rfl (by decide) ?_
  refine p_X12_563 (q := 24) C (nm_12 hN) dX12_weeks_21 rfl (fun s4 => ?_)
  refine r_aload_n (q := 25) (i := 0) (z := 2) C dX12_weeks_24 rfl rfl rfl ?_
  refine r_iconst (q := 26) (v := 0) C dX12_weeks_25 rfl (by decide) ?_
  refine p_X12_548 (q := 29) C (nm_12 hN) dX12_weeks_26 rfl (fun s5 => ?_)
  refine r_aload_n (q := 30) (i := 0) (z := 2) C dX12_weeks_29 rfl rfl rfl ?_
  refine r_iconst (q := 31) (v := 0) C dX12_weeks_30 rfl (by decide) ?_
  refine p_X12_551 (q := 34) C (nm_12 hN) dX12_weeks_31 rfl (fun s6 => ?_)
  refine r_aload_n (q := 35) (i := 0) (z := 2) C dX12_weeks_34 rfl rfl rfl ?_
  refine r_iconst (q := 36) (v := 0) C dX12_weeks_35 rfl (by decide) ?_
  refine p_X12_557 (q := 39) C (nm_12 hN) dX12_weeks_36 rfl (fun s7 => ?_)
  refine r_aload_n (q := 40) (i := 0) (z := 2) C dX12_weeks_39 rfl rfl rfl ?_
  refine r_iconst (q := 41) (v := 0) C dX12_weeks_40 rfl (by decide) ?_
  refine p_X12_560 (q := 44) C (nm_12 hN) dX12_weeks_41 rfl (fun s8 => ?_)
  refine r_aload_n (q := 45) (i := 0) (z := 2) C dX12_weeks_44 rfl rfl rfl ?_
  refine r_iconst (q := 46) (v := 0) C dX12_weeks_45 rfl (by decide) ?_
  refine p_X12_545 (q := 49) C (nm_12 hN) dX12_weeks_46 rfl (fun s9 => ?_)
  refine r_aload_n (q := 50) (i := 0) (z := 2) C dX12_weeks_49 rfl rfl rfl ?_
  refine r_iconst (q := 51) (v := (-1)) C dX12_weeks_50 rfl (by decide) ?_
  refine p_X12_554 (q := 54) C (nm_12 hN) dX12_weeks_51 rfl (fun s10 => ?_)
  refine r_aload_n (q := 55) (i := 0) (z := 2) C dX12_weeks_54 rfl rfl rfl ?_
  refine r_iconst (q := 56) (v := 0) C dX12_weeks_55 rfl (by decide) ?_
  refine p_X12_566 (q := 59) C (nm_12 hN) dX12_weeks_56 rfl (fun s11 => ?_)
  refine r_aload_n (q := 60) (i := 0) (z := 2) C dX12_weeks_59 rfl rfl rfl ?_
  refine r_iconst (q := 61) (v := 0) C dX12_weeks_60 rfl (by decide) ?_
  refine r_aload_n (q := 62) (i := 0) (z := 2) C dX12_weeks_61 rfl rfl rfl ?_
  refine g_X12_35 (q := 65) C (nm_12 hN) dX12_weeks_62 rfl ?_
  refine r_sipush (q := 68) (v := 218) C dX12_weeks_65 rfl (by decide) ?_
  refine r_ial (q := 69) q_12_5 h_12_5 C (nm_12 hN) dX12_weeks_68 rfl ?_
  refine r_callVV (q := 72) (As := [.int ((0 : Int32)), .int (gA s11 12 0 5 ((218 : Int32)).toNatClampNeg)]) wm_X12_576 yvX12_doAll (c_X12_doAll Δ hN 6 ((0 : Int32)) (gA s11 12 0 5 ((218 : Int32)).toNatClampNeg) s11) ⟨rfl, by decide⟩ C (nm_12 hN) (by decide) rfl (Nat.le_of_ble_eq_true rfl) dX12_weeks_69 rfl (fun _ s12 => ?_)
  refine r_aload_n (q := 73) (i := 0) (z := 2) C dX12_weeks_72 rfl rfl rfl ?_
  refine g_X12_35 (q := 76) C (nm_12 hN) dX12_weeks_73 rfl ?_
  refine r_iconst (q := 77) (v := 4) C dX12_weeks_76 rfl (by decide) ?_
  refine r_iload_n (q := 78) (i := 2) (z := 1) C dX12_weeks_77 rfl rfl rfl ?_
  refine r_ast (q := 79) q_12_5 h_12_5 C (nm_12 hN) dX12_weeks_78 rfl (fun s13 => ?_)
  refine r_aload_n (q := 80) (i := 0) (z := 2) C dX12_weeks_79 rfl rfl rfl ?_
  refine g_X12_35 (q := 83) C (nm_12 hN) dX12_weeks_80 rfl ?_
  refine r_iconst (q := 84) (v := 5) C dX12_weeks_83 rfl (by decide) ?_
  refine r_iload_n (q := 85) (i := 3) (z := 0) C dX12_weeks_84 rfl rfl rfl ?_
  refine r_ast (q := 86) q_12_5 h_12_5 C (nm_12 hN) dX12_weeks_85 rfl (fun s14 => ?_)
  exact r_vret C dX12_weeks_86

noncomputable def f_X12_often_L148 (k33 : fSt → Option (Int32 × fSt)) : Nat → Int32 → fSt → Option (Int32 × fSt)
  | 0, _, _ => none
  | n37 + 1, x35, s36 =>
      if ((217 : Int32)) ≤ x35 then
                          (k33 s36)
                        else
                          (fIx x35 219 <|
                          fIx x35 2150 <|
                          fLt (sA s36 12 0 5 (upd (gA s36 12 0 5) x35.toNatClampNeg (gA s36 12 0 6 x35.toNatClampNeg))) fun s38 =>
                          fLt (x35 + (1 : Int32)) fun (x39 : Int32) =>
                          f_X12_often_L148 k33 n37 x39 s38)

noncomputable def f_X12_often_L110 (a1 : Int32) (a2 : Int32) (a3 : Int32) : Nat → Int32 → Int32 → fSt → Option (Int32 × fSt)
  | 0, _, _, _ => none
  | n21 + 1, x18, x19, s20 =>
      if a3 ≤ x19 then
                  (fBd (f_X12_fraction x18.toInt64 a3.toInt64 s20) fun x22 s23 =>
                  fBo x22 (some (x22, s23)))
                else
                  (fBd (f_X12_weeks (a2 + x19) s20) fun _ s24 =>
                  fBd (f_X12_has (gI s24 12 0 61) a1 s24) fun x25 s26 =>
                  fJn (fun (x27 : Int32) (s28 : fSt) =>
                    (fLt (x18 + x27) fun (x30 : Int32) =>
                    fLt ((0 : Int32)) fun (x31 : Int32) =>
                    fJn (fun (s32 : fSt) =>
                      (fLt (x19 + (1 : Int32)) fun (x34 : Int32) =>
                      f_X12_often_L110 a1 a2 a3 n21 x30 x34 s32)) fun (k33 : fSt → Option (Int32 × fSt)) =>
                    f_X12_often_L148 k33 fF x31 s28)) fun (j29 : Int32 → fSt → Option (Int32 × fSt)) =>
                  if x25 = 0 then
                    (j29 ((0 : Int32)) s26)
                  else
                    (j29 ((1 : Int32)) s26))

noncomputable def f_X12_often_L76 (k15 : fSt → Option (Int32 × fSt)) : Nat → Int32 → fSt → Option (Int32 × fSt)
  | 0, _, _ => none
  | n42 + 1, x40, s41 =>
      if ((217 : Int32)) ≤ x40 then
                (k15 s41)
              else
                (fIx x40 2150 <|
                fIx x40 219 <|
                fLt (sA s41 12 0 6 (upd (gA s41 12 0 6) x40.toNatClampNeg (gA s41 12 0 5 x40.toNatClampNeg))) fun s43 =>
                fLt (x40 + (1 : Int32)) fun (x44 : Int32) =>
                f_X12_often_L76 k15 n42 x44 s43)

noncomputable def f_X12_often (a1 : Int32) (a2 : Int32) (a3 : Int32) (st : fSt) : Option (Int32 × fSt) :=
  fLt (sI st 12 0 1 ((0 : Int32))) fun s1 =>
  fLt (sI s1 12 0 0 ((0 : Int32))) fun s2 =>
  fBd (f_X12_isIn a1.toInt64 ((0 : Int64)) ((9 : Int64)) s2) fun x3 s4 =>
  fJn (fun (s5 : fSt) =>
    (fBd (f_X12_no ((5 : Int32)) s5) fun x7 s8 =>
    fBo x7 (some (x7, s8)))) fun (j6 : fSt → Option (Int32 × fSt)) =>
  if x3 = 0 then
    (j6 s4)
  else
    (fBd (f_X12_isIn a3.toInt64 ((1 : Int64)) ((20 : Int64)) s4) fun x9 s10 =>
    if x9 = 0 then
      (j6 s10)
    else
      (fBd (f_X12_isIn a2.toInt64 ((0 : Int64)) ((((10000 : Int32)) - a3).toInt64) s10) fun x11 s12 =>
      if ¬ x11 = 0 then
        (fIx ((217 : Int32)) 2150 <|
        if ¬ (gA s12 12 0 5 ((217 : Int32)).toNatClampNeg) = 0 then
          (fLt ((0 : Int32)) fun (x13 : Int32) =>
          fJn (fun (s14 : fSt) =>
            (fLt ((0 : Int32)) fun (x16 : Int32) =>
            fLt ((0 : Int32)) fun (x17 : Int32) =>
            f_X12_often_L110 a1 a2 a3 fF x16 x17 s14)) fun (k15 : fSt → Option (Int32 × fSt)) =>
          f_X12_often_L76 k15 fF x13 s12)
        else
          (fBd (f_X12_no ((8 : Int32)) s12) fun x45 s46 =>
          fBo x45 (some (x45, s46))))
      else
        (j6 s12)))

set_option maxHeartbeats 4000000 in
set_option maxRecDepth 100000 in
theorem c_X12_often (Δ : fDl) (hN : fNm Δ) (a1 : Int32) (a2 : Int32) (a3 : Int32)  (st : fSt) : fMt eI Δ yX12_often cX12_often 7 (some .boolean) 19 [.ref (fad Δ 12 0 0), .int a1, .int a2, .int a3] st (f_X12_often a1 a2 a3 st) := by
  unfold f_X12_often
  refine r_method (by decide +kernel) (Nat.le_of_ble_eq_true rfl) (fun Γ C => ?_)
  have C : fC Δ Γ cX12_often RX12 7 (some .boolean) 19 := C
  refine r_locs (lc' := [(0, .ref (fad Δ 12 0 0)), (1, .int a1), (2, .int a2), (3, .int a3)]) [0, 1, 2, 3] rfl ?_
  refine r_aload_n (q := 1) (i := 0) (z := 0) C dX12_often_0 rfl rfl rfl ?_
  refine r_iconst (q := 2) (v := 0) C dX12_often_1 rfl (by decide) ?_
  refine p_X12_90 (q := 5) C (nm_12 hN) dX12_often_2 rfl (fun s1 => ?_)
  refine r_aload_n (q := 6) (i := 0) (z := 0) C dX12_often_5 rfl rfl rfl ?_
  refine r_iconst (q := 7) (v := 0) C dX12_often_6 rfl (by decide) ?_
  refine p_X12_93 (q := 10) C (nm_12 hN) dX12_often_7 rfl (fun s2 => ?_)
  refine r_iload_n (q := 11) (i := 1) (z := 1) C dX12_often_10 rfl rfl rfl ?_
  refine r_i2l (q := 12) C dX12_often_11 rfl ?_
  refine r_lconst (q := 13) (v := 0) C dX12_often_12 rfl (by decide) ?_
  refine r_ldc2 (q := 16) C dX12_often_13 rfl wl_X12_498 ?_
  refine r_callSI (q := 19) (As := [.long a1.toInt64, .long ((0 : Int64)), .long ((9 : Int64))]) wm_X12_129 ysX12_isIn (c_X12_isIn Δ hN a1.toInt64 ((0 : Int64)) ((9 : Int64)) s2) C (by decide) rfl (Nat.le_of_ble_eq_true rfl) dX12_often_16 rfl (fun x3 s4 => ?_)
  refine r_join (fun j6 => ∀  (s5 : fSt), fW Δ Γ 7 (fQ eI Δ Γ) 49 [(0, .ref (fad Δ 12 0 0))] [] s5 (j6 s5)) ?_ (fun j6 hj6 => ?_)
  · intro s5
    refine r_aload_n (q := 50) (i := 0) (z := 0) C dX12_often_49 rfl rfl rfl ?_
    refine r_iconst (q := 51) (v := 5) C dX12_often_50 rfl (by decide) ?_
    refine r_callVI (q := 54) (As := [.int ((5 : Int32))]) wm_X12_109 yvX12_no (c_X12_no Δ hN ((5 : Int32)) s5) ⟨rfl, by decide⟩ C (nm_12 hN) (by decide) rfl (Nat.le_of_ble_eq_true rfl) dX12_often_51 rfl (fun x7 s8 => ?_)
    exact r_zret C dX12_often_54
  refine r_if_eq (q := 22) (tgt := 49) C dX12_often_19 (by decide) rfl ?_ ?_
  · refine r_locs (lc' := [(0, .ref (fad Δ 12 0 0))]) [0] rfl ?_
    exact hj6 s4
  · refine r_iload_n (q := 23) (i := 3) (z := 3) C dX12_often_22 rfl rfl rfl ?_
    refine r_i2l (q := 24) C dX12_often_23 rfl ?_
    refine r_lconst (q := 25) (v := 1) C dX12_often_24 rfl (by decide) ?_
    refine r_ldc2 (q := 28) C dX12_often_25 rfl wl_X12_590 ?_
    refine r_callSI (q := 31) (As := [.long a3.toInt64, .long ((1 : Int64)), .long ((20 : Int64))]) wm_X12_129 ysX12_isIn (c_X12_isIn Δ hN a3.toInt64 ((1 : Int64)) ((20 : Int64)) s4) C (by decide) rfl (Nat.le_of_ble_eq_true rfl) dX12_often_28 rfl (fun x9 s10 => ?_)
    refine r_if_eq (q := 34) (tgt := 49) C dX12_often_31 (by decide) rfl ?_ ?_
    · refine r_locs (lc' := [(0, .ref (fad Δ 12 0 0))]) [0] rfl ?_
      exact hj6 s10
    · refine r_iload_n (q := 35) (i := 2) (z := 2) C dX12_often_34 rfl rfl rfl ?_
      refine r_i2l (q := 36) C dX12_often_35 rfl ?_
      refine r_lconst (q := 37) (v := 0) C dX12_often_36 rfl (by decide) ?_
      refine r_sipush (q := 40) (v := 10000) C dX12_often_37 rfl (by decide) ?_
      refine r_iload_n (q := 41) (i := 3) (z := 3) C dX12_often_40 rfl rfl rfl ?_
      refine r_isub (q := 42) C dX12_often_41 rfl ?_
      refine r_i2l (q := 43) C dX12_often_42 rfl ?_
      refine r_callSI (q := 46) (As := [.long a2.toInt64, .long ((0 : Int64)), .long ((((10000 : Int32)) - a3).toInt64)]) wm_X12_129 ysX12_isIn (c_X12_isIn Δ hN a2.toInt64 ((0 : Int64)) ((((10000 : Int32)) - a3).toInt64) s10) C (by decide) rfl (Nat.le_of_ble_eq_true rfl) dX12_often_43 rfl (fun x11 s12 => ?_)
      refine r_if_ne (q := 49) (tgt := 55) C dX12_often_46 (by decide) rfl ?_ ?_
      · refine r_aload_n (q := 56) (i := 0) (z := 0) C dX12_often_55 rfl rfl rfl ?_
        refine g_X12_35 (q := 59) C (nm_12 hN) dX12_often_56 rfl ?_
        refine r_sipush (q := 62) (v := 217) C dX12_often_59 rfl (by decide) ?_
        refine r_ial (q := 63) q_12_5 h_12_5 C (nm_12 hN) dX12_often_62 rfl ?_
        refine r_if_ne (q := 66) (tgt := 73) C dX12_often_63 (by decide) rfl ?_ ?_
        · refine r_iconst (q := 74) (v := 0) C dX12_often_73 rfl (by decide) ?_
          refine r_istore (q := 76) (i := 4) [(0, .ref (fad Δ 12 0 0)), (1, .int a1), (2, .int a2), (3, .int a3)] C dX12_often_74 rfl (by decide) rfl (fun x13 => ?_)
          refine r_join (fun k15 => ∀  (s14 : fSt), fW Δ Γ 7 (fQ eI Δ Γ) 104 [(0, .ref (fad Δ 12 0 0)), (1, .int a1), (2, .int a2), (3, .int a3)] [] s14 (k15 s14)) ?_ (fun k15 hk15 => ?_)
          · intro s14
            refine r_iconst (q := 105) (v := 0) C dX12_often_104 rfl (by decide) ?_
            refine r_istore (q := 107) (i := 4) [(0, .ref (fad Δ 12 0 0)), (1, .int a1), (2, .int a2), (3, .int a3)] C dX12_often_105 rfl (by decide) rfl (fun x16 => ?_)
            refine r_iconst (q := 108) (v := 0) C dX12_often_107 rfl (by decide) ?_
            refine r_istore (q := 110) (i := 5) [(4, .int x16), (0, .ref (fad Δ 12 0 0)), (1, .int a1), (2, .int a2), (3, .int a3)] C dX12_often_108 rfl (by decide) rfl (fun x17 => ?_)
            refine r_locs (lc' := [(0, .ref (fad Δ 12 0 0)), (1, .int a1), (2, .int a2), (3, .int a3), (4, .int x16), (5, .int x17)]) [2, 3, 4, 5, 1, 0] rfl ?_
            have L110 : ∀ (n21 : Nat) (x18 : Int32) (x19 : Int32) (s20 : fSt), fW Δ Γ 7 (fQ eI Δ Γ) 110 [(0, .ref (fad Δ 12 0 0)), (1, .int a1), (2, .int a2), (3, .int a3), (4, .int x18), (5, .int x19)] [] s20 (f_X12_often_L110 a1 a2 a3 n21 x18 x19 s20) := by
              intro n21
              induction n21 with
              | zero =>
                intro x18 x19 s20
                rw [f_X12_often_L110]
                exact r_none
              | succ n21 ih_n21 =>
                intro x18 x19 s20
                rw [f_X12_often_L110]
                refine r_iload (q := 112) (i := 5) (z := 5) C dX12_often_110 rfl rfl ?_
                refine r_iload_n (q := 113) (i := 3) (z := 3) C dX12_often_112 rfl rfl rfl ?_
                refine r_icmp_ge (q := 116) (tgt := 182) C dX12_often_113 (by decide) rfl ?_ ?_
                · refine r_aload_n (q := 183) (i := 0) (z := 0) C dX12_often_182 rfl rfl rfl ?_
                  refine r_iload (q := 185) (i := 4) (z := 4) C dX12_often_183 rfl rfl ?_
                  refine r_i2l (q := 186) C dX12_often_185 rfl ?_
                  refine r_iload_n (q := 187) (i := 3) (z := 3) C dX12_often_186 rfl rfl rfl ?_
                  refine r_i2l (q := 188) C dX12_often_187 rfl ?_
                  refine r_callVI (q := 191) (As := [.long x18.toInt64, .long a3.toInt64]) wm_X12_506 yvX12_fraction (c_X12_fraction Δ hN x18.toInt64 a3.toInt64 s20) ⟨rfl, by decide⟩ C (nm_12 hN) (by decide) rfl (Nat.le_of_ble_eq_true rfl) dX12_often_188 rfl (fun x22 s23 => ?_)
                  exact r_zret C dX12_often_191
                · refine r_aload_n (q := 117) (i := 0) (z := 0) C dX12_often_116 rfl rfl rfl ?_
                  refine r_iload_n (q := 118) (i := 2) (z := 2) C dX12_often_117 rfl rfl rfl ?_
                  refine r_iload (q := 120) (i := 5) (z := 5) C dX12_often_118 rfl rfl ?_
                  refine r_iadd (q := 121) C dX12_often_120 rfl ?_
                  refine r_callVV (q := 124) (As := [.int (a2 + x19)]) wm_X12_582 yvX12_weeks (c_X12_weeks Δ hN (a2 + x19) s20) ⟨rfl, by decide⟩ C (nm_12 hN) (by decide) rfl (Nat.le_of_ble_eq_true rfl) dX12_often_121 rfl (fun _ s24 => ?_)
                  refine r_iload (q := 126) (i := 4) (z := 4) C dX12_often_124 rfl rfl ?_
                  refine r_aload_n (q := 127) (i := 0) (z := 0) C dX12_often_126 rfl rfl rfl ?_
                  refine g_X12_557 (q := 130) C (nm_12 hN) dX12_often_127 rfl ?_
                  refine r_iload_n (q := 131) (i := 1) (z := 1) C dX12_often_130 rfl rfl rfl ?_
                  refine r_callSI (q := 134) (As := [.int (gI s24 12 0 61), .int a1]) wm_X12_373 ysX12_has (c_X12_has Δ hN (gI s24 12 0 61) a1 s24) C (by decide) rfl (Nat.le_of_ble_eq_true rfl) dX12_often_131 rfl (fun x25 s26 => ?_)
                  refine r_join (fun j29 => ∀ (x27 : Int32) (s28 : fSt), fW Δ Γ 7 (fQ eI Δ Γ) 142 [(0, .ref (fad Δ 12 0 0)), (1, .int a1), (2, .int a2), (3, .int a3), (5, .int x19)] [.int x27, .int x18] s28 (j29 x27 s28)) ?_ (fun j29 hj29 => ?_)
                  · intro x27 s28
                    refine r_iadd (q := 143) C dX12_often_142 rfl ?_
                    refine r_istore (q := 145) (i := 4) [(0, .ref (fad Δ 12 0 0)), (1, .int a1), (2, .int a2), (3, .int a3), (5, .int x19)] C dX12_often_143 rfl (by decide) rfl (fun x30 => ?_)
                    refine r_iconst (q := 146) (v := 0) C dX12_often_145 rfl (by decide) ?_
                    refine r_istore (q := 148) (i := 6) [(4, .int x30), (0, .ref (fad Δ 12 0 0)), (1, .int a1), (2, .int a2), (3, .int a3), (5, .int x19)] C dX12_often_146 rfl (by decide) rfl (fun x31 => ?_)
                    refine r_join (fun k33 => ∀  (s32 : fSt), fW Δ Γ 7 (fQ eI Δ Γ) 176 [(0, .ref (fad Δ 12 0 0)), (1, .int a1), (2, .int a2), (3, .int a3), (4, .int x30), (5, .int x19)] [] s32 (k33 s32)) ?_ (fun k33 hk33 => ?_)
                    · intro s32
                      refine r_iinc (q := 179) (z := 5) (d := 1) [(0, .ref (fad Δ 12 0 0)), (1, .int a1), (2, .int a2), (3, .int a3), (4, .int x30)] C dX12_often_176 rfl rfl (by decide) (by decide) rfl (fun x34 => ?_)
                      refine r_goto (q := 110) C dX12_often_179 (by decide) ?_
                      refine r_locs (lc' := [(0, .ref (fad Δ 12 0 0)), (1, .int a1), (2, .int a2), (3, .int a3), (4, .int x30), (5, .int x34)]) [1, 2, 3, 4, 5, 0] rfl ?_
                      exact ih_n21 x30 x34 s32
                    refine r_locs (lc' := [(0, .ref (fad Δ 12 0 0)), (1, .int a1), (2, .int a2), (3, .int a3), (4, .int x30), (5, .int x19), (6, .int x31)]) [2, 3, 4, 5, 1, 6, 0] rfl ?_
                    have L148 : ∀ (n37 : Nat) (x35 : Int32) (s36 : fSt), fW Δ Γ 7 (fQ eI Δ Γ) 148 [(0, .ref (fad Δ 12 0 0)), (1, .int a1), (2, .int a2), (3, .int a3), (4, .int x30), (5, .int x19), (6, .int x35)] [] s36 (f_X12_often_L148 k33 n37 x35 s36) := by
                      intro n37
                      induction n37 with
                      | zero =>
                        intro x35 s36
                        rw [f_X12_often_L148]
                        exact r_none
                      | succ n37 ih_n37 =>
                        intro x35 s36
                        rw [f_X12_often_L148]
                        refine r_iload (q := 150) (i := 6) (z := 6) C dX12_often_148 rfl rfl ?_
                        refine r_sipush (q := 153) (v := 217) C dX12_often_150 rfl (by decide) ?_
                        refine r_icmp_ge (q := 156) (tgt := 176) C dX12_often_153 (by decide) rfl ?_ ?_
                        · refine r_locs (lc' := [(0, .ref (fad Δ 12 0 0)), (1, .int a1), (2, .int a2), (3, .int a3), (4, .int x30), (5, .int x19)]) [0, 1, 2, 3, 4, 5] rfl ?_
                          exact hk33 s36
                        · refine r_aload_n (q := 157) (i := 0) (z := 0) C dX12_often_156 rfl rfl rfl ?_
                          refine g_X12_35 (q := 160) C (nm_12 hN) dX12_often_157 rfl ?_
                          refine r_iload (q := 162) (i := 6) (z := 6) C dX12_often_160 rfl rfl ?_
                          refine r_aload_n (q := 163) (i := 0) (z := 0) C dX12_often_162 rfl rfl rfl ?_
                          refine g_X12_38 (q := 166) C (nm_12 hN) dX12_often_163 rfl ?_
                          refine r_iload (q := 168) (i := 6) (z := 6) C dX12_often_166 rfl rfl ?_
                          refine r_ial (q := 169) q_12_6 h_12_6 C (nm_12 hN) dX12_often_168 rfl ?_
                          refine r_ast (q := 170) q_12_5 h_12_5 C (nm_12 hN) dX12_often_169 rfl (fun s38 => ?_)
                          refine r_iinc (q := 173) (z := 6) (d := 1) [(0, .ref (fad Δ 12 0 0)), (1, .int a1), (2, .int a2), (3, .int a3), (4, .int x30), (5, .int x19)] C dX12_often_170 rfl rfl (by decide) (by decide) rfl (fun x39 => ?_)
                          refine r_goto (q := 148) C dX12_often_173 (by decide) ?_
                          refine r_locs (lc' := [(0, .ref (fad Δ 12 0 0)), (1, .int a1), (2, .int a2), (3, .int a3), (4, .int x30), (5, .int x19), (6, .int x39)]) [1, 2, 3, 4, 5, 6, 0] rfl ?_
                          exact ih_n37 x39 s38
                    exact L148 fF x31 s28
                  refine r_if_eq (q := 137) (tgt := 141) C dX12_often_134 (by decide) rfl ?_ ?_
                  · refine r_iconst (q := 142) (v := 0) C dX12_often_141 rfl (by decide) ?_
                    refine r_locs (lc' := [(0, .ref (fad Δ 12 0 0)), (1, .int a1), (2, .int a2), (3, .int a3), (5, .int x19)]) [0, 1, 2, 3, 5] rfl ?_
                    exact hj29 ((0 : Int32)) s26
                  · refine r_iconst (q := 138) (v := 1) C dX12_often_137 rfl (by decide) ?_
                    refine r_goto (q := 142) C dX12_often_138 (by decide) ?_
                    refine r_locs (lc' := [(0, .ref (fad Δ 12 0 0)), (1, .int a1), (2, .int a2), (3, .int a3), (5, .int x19)]) [0, 1, 2, 3, 5] rfl ?_
                    exact hj29 ((1 : Int32)) s26
            exact L110 fF x16 x17 s14
          refine r_locs (lc' := [(0, .ref (fad Δ 12 0 0)), (1, .int a1), (2, .int a2), (3, .int a3), (4, .int x13)]) [1, 2, 3, 4, 0] rfl ?_
          have L76 : ∀ (n42 : Nat) (x40 : Int32) (s41 : fSt), fW Δ Γ 7 (fQ eI Δ Γ) 76 [(0, .ref (fad Δ 12 0 0)), (1, .int a1), (2, .int a2), (3, .int a3), (4, .int x40)] [] s41 (f_X12_often_L76 k15 n42 x40 s41) := by
            intro n42
            induction n42 with
            | zero =>
              intro x40 s41
              rw [f_X12_often_L76]
              exact r_none
            | succ n42 ih_n42 =>
              intro x40 s41
              rw [f_X12_often_L76]
              refine r_iload (q := 78) (i := 4) (z := 4) C dX12_often_76 rfl rfl ?_
              refine r_sipush (q := 81) (v := 217) C dX12_often_78 rfl (by decide) ?_
              refine r_icmp_ge (q := 84) (tgt := 104) C dX12_often_81 (by decide) rfl ?_ ?_
              · refine r_locs (lc' := [(0, .ref (fad Δ 12 0 0)), (1, .int a1), (2, .int a2), (3, .int a3)]) [0, 1, 2, 3] rfl ?_
                exact hk15 s41
              · refine r_aload_n (q := 85) (i := 0) (z := 0) C dX12_often_84 rfl rfl rfl ?_
                refine g_X12_38 (q := 88) C (nm_12 hN) dX12_often_85 rfl ?_
                refine r_iload (q := 90) (i := 4) (z := 4) C dX12_often_88 rfl rfl ?_
                refine r_aload_n (q := 91) (i := 0) (z := 0) C dX12_often_90 rfl rfl rfl ?_
                refine g_X12_35 (q := 94) C (nm_12 hN) dX12_often_91 rfl ?_
                refine r_iload (q := 96) (i := 4) (z := 4) C dX12_often_94 rfl rfl ?_
                refine r_ial (q := 97) q_12_5 h_12_5 C (nm_12 hN) dX12_often_96 rfl ?_
                refine r_ast (q := 98) q_12_6 h_12_6 C (nm_12 hN) dX12_often_97 rfl (fun s43 => ?_)
                refine r_iinc (q := 101) (z := 4) (d := 1) [(0, .ref (fad Δ 12 0 0)), (1, .int a1), (2, .int a2), (3, .int a3)] C dX12_often_98 rfl rfl (by decide) (by decide) rfl (fun x44 => ?_)
                refine r_goto (q := 76) C dX12_often_101 (by decide) ?_
                refine r_locs (lc' := [(0, .ref (fad Δ 12 0 0)), (1, .int a1), (2, .int a2), (3, .int a3), (4, .int x44)]) [1, 2, 3, 4, 0] rfl ?_
                exact ih_n42 x44 s43
          exact L76 fF x13 s12
        · refine r_aload_n (q := 67) (i := 0) (z := 0) C dX12_often_66 rfl rfl rfl ?_
          refine r_bipush (q := 69) (v := 8) C dX12_often_67 rfl (by decide) ?_
          refine r_callVI (q := 72) (As := [.int ((8 : Int32))]) wm_X12_109 yvX12_no (c_X12_no Δ hN ((8 : Int32)) s12) ⟨rfl, by decide⟩ C (nm_12 hN) (by decide) rfl (Nat.le_of_ble_eq_true rfl) dX12_often_69 rfl (fun x45 s46 => ?_)
          exact r_zret C dX12_often_72
      · refine r_locs (lc' := [(0, .ref (fad Δ 12 0 0))]) [0] rfl ?_
        exact hj6 s12

noncomputable def f_X12_opens (a1 : Int32) (a2 : Int32) (st : fSt) : Option (Int32 × fSt) :=
  fJn (fun (s1 : fSt) =>
    (fBd (f_X12_no ((5 : Int32)) s1) fun x3 s4 =>
    fBo x3 (some (x3, s4)))) fun (j2 : fSt → Option (Int32 × fSt)) =>
  if a1 < 0 then
    (j2 st)
  else
    (if (gI st 12 0 8) < a1 then
      (j2 st)
    else
      (if a1 ≤ a2 then
        (fLt (sI st 12 0 9 a1) fun s5 =>
        fLt (sI s5 12 0 8 ((0 : Int32))) fun s6 =>
        fLt (sI s6 12 0 16 ((0 : Int32))) fun s7 =>
        fLt (sI s7 12 0 12 ((0 : Int32))) fun s8 =>
        fBd (f_X12_next  s8) fun _ s9 =>
        some ((1 : Int32), s9))
      else
        (j2 st)))

set_option maxHeartbeats 4000000 in
set_option maxRecDepth 100000 in
theorem c_X12_opens (Δ : fDl) (hN : fNm Δ) (a1 : Int32) (a2 : Int32)  (st : fSt) : fMt eI Δ yX12_opens cX12_opens 3 (some .boolean) 3 [.ref (fad Δ 12 0 0), .int a1, .int a2] st (f_X12_opens a1 a2 st) := by
  unfold f_X12_opens
  refine r_method (by decide +kernel) (Nat.le_of_ble_eq_true rfl) (fun Γ C => ?_)
  have C : fC Δ Γ cX12_opens RX12 3 (some .boolean) 3 := C
  refine r_locs (lc' := [(0, .ref (fad Δ 12 0 0)), (1, .int a1), (2, .int a2)]) [0, 1, 2] rfl ?_
  refine r_iload_n (q := 1) (i := 1) (z := 1) C dX12_opens_0 rfl rfl rfl ?_
  refine r_join (fun j2 => ∀  (s1 : fSt), fW Δ Γ 3 (fQ eI Δ Γ) 17 [(0, .ref (fad Δ 12 0 0))] [] s1 (j2 s1)) ?_ (fun j2 hj2 => ?_)
  · intro s1
    refine r_aload_n (q := 18) (i := 0) (z := 0) C dX12_opens_17 rfl rfl rfl ?_
    refine r_iconst (q := 19) (v := 5) C dX12_opens_18 rfl (by decide) ?_
    refine r_callVI (q := 22) (As := [.int ((5 : Int32))]) wm_X12_109 yvX12_no (c_X12_no Δ hN ((5 : Int32)) s1) ⟨rfl, by decide⟩ C (nm_12 hN) (by decide) rfl (Nat.le_of_ble_eq_true rfl) dX12_opens_19 rfl (fun x3 s4 => ?_)
    exact r_zret C dX12_opens_22
  refine r_if_lt (q := 4) (tgt := 17) C dX12_opens_1 (by decide) rfl ?_ ?_
  · refine r_locs (lc' := [(0, .ref (fad Δ 12 0 0))]) [0] rfl ?_
    exact hj2 st
  · refine r_iload_n (q := 5) (i := 1) (z := 1) C dX12_opens_4 rfl rfl rfl ?_
    refine r_aload_n (q := 6) (i := 0) (z := 0) C dX12_opens_5 rfl rfl rfl ?_
    refine g_X12_265 (q := 9) C (nm_12 hN) dX12_opens_6 rfl ?_
    refine r_icmp_gt (q := 12) (tgt := 17) C dX12_opens_9 (by decide) rfl ?_ ?_
    · refine r_locs (lc' := [(0, .ref (fad Δ 12 0 0))]) [0] rfl ?_
      exact hj2 st
    · refine r_iload_n (q := 13) (i := 1) (z := 1) C dX12_opens_12 rfl rfl rfl ?_
      refine r_iload_n (q := 14) (i := 2) (z := 2) C dX12_opens_13 rfl rfl rfl ?_
      refine r_icmp_le (q := 17) (tgt := 23) C dX12_opens_14 (by decide) rfl ?_ ?_
      · refine r_aload_n (q := 24) (i := 0) (z := 0) C dX12_opens_23 rfl rfl rfl ?_
        refine r_iload_n (q := 25) (i := 1) (z := 1) C dX12_opens_24 rfl rfl rfl ?_
        refine p_X12_133 (q := 28) C (nm_12 hN) dX12_opens_25 rfl (fun s5 => ?_)
        refine r_aload_n (q := 29) (i := 0) (z := 0) C dX12_opens_28 rfl rfl rfl ?_
        refine r_iconst (q := 30) (v := 0) C dX12_opens_29 rfl (by decide) ?_
        refine p_X12_265 (q := 33) C (nm_12 hN) dX12_opens_30 rfl (fun s6 => ?_)
        refine r_aload_n (q := 34) (i := 0) (z := 0) C dX12_opens_33 rfl rfl rfl ?_
        refine r_iconst (q := 35) (v := 0) C dX12_opens_34 rfl (by decide) ?_
        refine p_X12_136 (q := 38) C (nm_12 hN) dX12_opens_35 rfl (fun s7 => ?_)
        refine r_aload_n (q := 39) (i := 0) (z := 0) C dX12_opens_38 rfl rfl rfl ?_
        refine r_iconst (q := 40) (v := 0) C dX12_opens_39 rfl (by decide) ?_
        refine p_X12_249 (q := 43) C (nm_12 hN) dX12_opens_40 rfl (fun s8 => ?_)
        refine r_aload_n (q := 44) (i := 0) (z := 0) C dX12_opens_43 rfl rfl rfl ?_
        refine r_callVV (q := 47) (As := []) wm_X12_259 yvX12_next (c_X12_next Δ hN s8) ⟨rfl, by decide⟩ C (nm_12 hN) (by decide) rfl (Nat.le_of_ble_eq_true rfl) dX12_opens_44 rfl (fun _ s9 => ?_)
        refine r_iconst (q := 48) (v := 1) C dX12_opens_47 rfl (by decide) ?_
        exact r_zret0 (Or.inr rfl) C dX12_opens_48
      · refine r_locs (lc' := [(0, .ref (fad Δ 12 0 0))]) [0] rfl ?_
        exact hj2 st

noncomputable def f_X12_trayed (a1 : Int32) (st : fSt) : Option (Int32 × fSt) :=
  fJn (fun (x1 : Int32) (s2 : fSt) =>
    (some (x1, s2))) fun (j3 : Int32 → fSt → Option (Int32 × fSt)) =>
  fJn (fun (s4 : fSt) =>
    (j3 ((1 : Int32)) s4)) fun (j5 : fSt → Option (Int32 × fSt)) =>
  if a1 < 0 then
    (j5 st)
  else
    (if a1 < ((4 : Int32)) then
      (fIx a1 4 <|
      if 0 ≤ (gA st 12 0 2 a1.toNatClampNeg) then
        (j3 ((0 : Int32)) st)
      else
        (j3 ((3 : Int32)) st))
    else
      (j5 st))

set_option maxHeartbeats 4000000 in
set_option maxRecDepth 100000 in
theorem c_X12_trayed (Δ : fDl) (hN : fNm Δ) (a1 : Int32)  (st : fSt) : fMt eI Δ yX12_trayed cX12_trayed 2 (some .int) 1 [.ref (fad Δ 12 0 0), .int a1] st (f_X12_trayed a1 st) := by
  unfold f_X12_trayed
  refine r_method (by decide +kernel) (Nat.le_of_ble_eq_true rfl) (fun Γ C => ?_)
  have C : fC Δ Γ cX12_trayed RX12 2 (some .int) 1 := C
  refine r_locs (lc' := [(0, .ref (fad Δ 12 0 0)), (1, .int a1)]) [0, 1] rfl ?_
  refine r_iload_n (q := 1) (i := 1) (z := 1) C dX12_trayed_0 rfl rfl rfl ?_
  refine r_join (fun j3 => ∀ (x1 : Int32) (s2 : fSt), fW Δ Γ 2 (fQ eI Δ Γ) 27 [] [.int x1] s2 (j3 x1 s2)) ?_ (fun j3 hj3 => ?_)
  · intro x1 s2
    exact r_iret C dX12_trayed_27
  refine r_join (fun j5 => ∀  (s4 : fSt), fW Δ Γ 2 (fQ eI Δ Γ) 9 [] [] s4 (j5 s4)) ?_ (fun j5 hj5 => ?_)
  · intro s4
    refine r_iconst (q := 10) (v := 1) C dX12_trayed_9 rfl (by decide) ?_
    refine r_goto (q := 27) C dX12_trayed_10 (by decide) ?_
    exact hj3 ((1 : Int32)) s4
  refine r_if_lt (q := 4) (tgt := 9) C dX12_trayed_1 (by decide) rfl ?_ ?_
  · refine r_locs (lc' := []) [] rfl ?_
    exact hj5 st
  · refine r_iload_n (q := 5) (i := 1) (z := 1) C dX12_trayed_4 rfl rfl rfl ?_
    refine r_iconst (q := 6) (v := 4) C dX12_trayed_5 rfl (by decide) ?_
    refine r_icmp_lt (q := 9) (tgt := 13) C dX12_trayed_6 (by decide) rfl ?_ ?_
    · refine r_aload_n (q := 14) (i := 0) (z := 0) C dX12_trayed_13 rfl rfl rfl ?_
      refine g_X12_17 (q := 17) C (nm_12 hN) dX12_trayed_14 rfl ?_
      refine r_iload_n (q := 18) (i := 1) (z := 1) C dX12_trayed_17 rfl rfl rfl ?_
      refine r_ial (q := 19) q_12_2 h_12_2 C (nm_12 hN) dX12_trayed_18 rfl ?_
      refine r_if_ge (q := 22) (tgt := 26) C dX12_trayed_19 (by decide) rfl ?_ ?_
      · refine r_iconst (q := 27) (v := 0) C dX12_trayed_26 rfl (by decide) ?_
        refine r_locs (lc' := []) [] rfl ?_
        exact hj3 ((0 : Int32)) st
      · refine r_iconst (q := 23) (v := 3) C dX12_trayed_22 rfl (by decide) ?_
        refine r_goto (q := 27) C dX12_trayed_23 (by decide) ?_
        refine r_locs (lc' := []) [] rfl ?_
        exact hj3 ((3 : Int32)) st
    · refine r_locs (lc' := []) [] rfl ?_
      exact hj5 st

noncomputable def f_X12_placed (a1 : Int32) (a2 : Int32) (st : fSt) : Option (Int32 × fSt) :=
  fBd (f_X12_trayed a1 st) fun x1 s2 =>
  fLt x1 fun (x3 : Int32) =>
  fJn (fun (x4 : Int32) (s5 : fSt) =>
    (some (x4, s5))) fun (j6 : Int32 → fSt → Option (Int32 × fSt)) =>
  if x3 ≤ 0 then
    (fJn (fun (s7 : fSt) =>
      (j6 ((4 : Int32)) s7)) fun (j8 : fSt → Option (Int32 × fSt)) =>
    if a2 < 0 then
      (j8 s2)
    else
      (fIx a1 4 <|
      if a2 < (gA s2 12 0 2 a1.toNatClampNeg) then
        (j6 ((0 : Int32)) s2)
      else
        (j8 s2)))
  else
    (j6 x3 s2)

set_option maxHeartbeats 4000000 in
set_option maxRecDepth 100000 in
theorem c_X12_placed (Δ : fDl) (hN : fNm Δ) (a1 : Int32) (a2 : Int32)  (st : fSt) : fMt eI Δ yX12_placed cX12_placed 4 (some .int) 2 [.ref (fad Δ 12 0 0), .int a1, .int a2] st (f_X12_placed a1 a2 st) := by
  unfold f_X12_placed
  refine r_method (by decide +kernel) (Nat.le_of_ble_eq_true rfl) (fun Γ C => ?_)
  have C : fC Δ Γ cX12_placed RX12 4 (some .int) 2 := C
  refine r_locs (lc' := [(0, .ref (fad Δ 12 0 0)), (1, .int a1), (2, .int a2)]) [0, 1, 2] rfl ?_
  refine r_aload_n (q := 1) (i := 0) (z := 0) C dX12_placed_0 rfl rfl rfl ?_
  refine r_iload_n (q := 2) (i := 1) (z := 1) C dX12_placed_1 rfl rfl rfl ?_
  refine r_callVI (q := 5) (As := [.int a1]) wm_X12_113 yvX12_trayed (c_X12_trayed Δ hN a1 st) ⟨rfl, by decide⟩ C (nm_12 hN) (by decide) rfl (Nat.le_of_ble_eq_true rfl) dX12_placed_2 rfl (fun x1 s2 => ?_)
  refine r_istore_n (q := 6) (i := 3) [(0, .ref (fad Δ 12 0 0)), (1, .int a1), (2, .int a2)] C dX12_placed_5 rfl rfl (by decide) rfl (fun x3 => ?_)
  refine r_iload_n (q := 7) (i := 3) (z := 0) C dX12_placed_6 rfl rfl rfl ?_
  refine r_join (fun j6 => ∀ (x4 : Int32) (s5 : fSt), fW Δ Γ 4 (fQ eI Δ Γ) 33 [] [.int x4] s5 (j6 x4 s5)) ?_ (fun j6 hj6 => ?_)
  · intro x4 s5
    exact r_iret C dX12_placed_33
  refine r_if_le (q := 10) (tgt := 14) C dX12_placed_7 (by decide) rfl ?_ ?_
  · refine r_iload_n (q := 15) (i := 2) (z := 3) C dX12_placed_14 rfl rfl rfl ?_
    refine r_join (fun j8 => ∀  (s7 : fSt), fW Δ Γ 4 (fQ eI Δ Γ) 28 [] [] s7 (j8 s7)) ?_ (fun j8 hj8 => ?_)
    · intro s7
      refine r_iconst (q := 29) (v := 4) C dX12_placed_28 rfl (by decide) ?_
      refine r_goto (q := 33) C dX12_placed_29 (by decide) ?_
      exact hj6 ((4 : Int32)) s7
    refine r_if_lt (q := 18) (tgt := 28) C dX12_placed_15 (by decide) rfl ?_ ?_
    · refine r_locs (lc' := []) [] rfl ?_
      exact hj8 s2
    · refine r_iload_n (q := 19) (i := 2) (z := 3) C dX12_placed_18 rfl rfl rfl ?_
      refine r_aload_n (q := 20) (i := 0) (z := 1) C dX12_placed_19 rfl rfl rfl ?_
      refine g_X12_17 (q := 23) C (nm_12 hN) dX12_placed_20 rfl ?_
      refine r_iload_n (q := 24) (i := 1) (z := 2) C dX12_placed_23 rfl rfl rfl ?_
      refine r_ial (q := 25) q_12_2 h_12_2 C (nm_12 hN) dX12_placed_24 rfl ?_
      refine r_icmp_lt (q := 28) (tgt := 32) C dX12_placed_25 (by decide) rfl ?_ ?_
      · refine r_iconst (q := 33) (v := 0) C dX12_placed_32 rfl (by decide) ?_
        refine r_locs (lc' := []) [] rfl ?_
        exact hj6 ((0 : Int32)) s2
      · refine r_locs (lc' := []) [] rfl ?_
        exact hj8 s2
  · refine r_iload_n (q := 11) (i := 3) (z := 0) C dX12_placed_10 rfl rfl rfl ?_
    refine r_goto (q := 33) C dX12_placed_11 (by decide) ?_
    refine r_locs (lc' := []) [] rfl ?_
    exact hj6 x3 s2
