noncomputable def f_X10_holds (i0 : Nat) (i1 : Nat) (i2 : Nat) (a3 : Int32) (st : fSt) : Option (Int32 × fSt) :=
  fIx a3 60 <|
  fLt (gA st 9 i2 2 a3.toNatClampNeg) fun (x1 : Int32) =>
  fIx a3 60 <|
  if (gA st 9 i2 1 a3.toNatClampNeg) = (25 : Int32) then
    (fJn (fun (x3 : Int32) (s4 : fSt) =>
      (fBo x3 (some (x3, s4)))) fun (j5 : Int32 → fSt → Option (Int32 × fSt)) =>
    if (((gI st 10 i0 7) >>> (x1 &&& 31)) &&& ((1 : Int32))) = 0 then
      (j5 ((0 : Int32)) st)
    else
      (j5 ((1 : Int32)) st))
  else
  if (gA st 9 i2 1 a3.toNatClampNeg) = (26 : Int32) then
    (fJn (fun (x7 : Int32) (s8 : fSt) =>
      (fBo x7 (some (x7, s8)))) fun (j9 : Int32 → fSt → Option (Int32 × fSt)) =>
    if (((gI st 2 i1 3) >>> (x1 &&& 31)) &&& ((1 : Int32))) = 0 then
      (j9 ((0 : Int32)) st)
    else
      (j9 ((1 : Int32)) st))
  else
  if (gA st 9 i2 1 a3.toNatClampNeg) = (28 : Int32) then
    (fJn (fun (x11 : Int32) (s12 : fSt) =>
      (fBo x11 (some (x11, s12)))) fun (j13 : Int32 → fSt → Option (Int32 × fSt)) =>
    if ¬ (gI st 10 i0 10) = x1 then
      (j13 ((0 : Int32)) st)
    else
      (j13 ((1 : Int32)) st))
  else
  fIx a3 60 <|
  fBd (f_X10_compares (gA st 9 i2 3 a3.toNatClampNeg) (gI st 10 i0 4) x1 st) fun x14 s15 =>
  fBo x14 (some (x14, s15))

set_option maxHeartbeats 4000000 in
set_option maxRecDepth 100000 in
theorem c_X10_holds (Δ : fDl) (hN : fNx Δ) (i0 : Nat) (i1 : Nat) (i2 : Nat) (a3 : Int32) (hi0 : i0 < fN Δ 10) (hi1 : i1 < fN Δ 2) (hi2 : i2 < fN Δ 9)  (st : fSt) : fMt eI Δ yX10_holds cX10_holds 5 (some .boolean) 2 [.ref (fad Δ 10 i0 0), .ref (fad Δ 2 i1 0), .ref (fad Δ 9 i2 0), .int a3] st (f_X10_holds i0 i1 i2 a3 st) := by
  unfold f_X10_holds
  refine r_method (by decide +kernel) (Nat.le_of_ble_eq_true rfl) (fun Γ C => ?_)
  have C : fC Δ Γ cX10_holds RX10 5 (some .boolean) 2 := C
  refine r_locs (lc' := [(0, .ref (fad Δ 10 i0 0)), (1, .ref (fad Δ 2 i1 0)), (2, .ref (fad Δ 9 i2 0)), (3, .int a3)]) [0, 1, 2, 3] rfl ?_
  refine r_aload_n (q := 1) (i := 2) (z := 2) C dX10_holds_0 rfl rfl rfl ?_
  refine g_X10_95 (q := 4) C hi2 dX10_holds_1 rfl ?_
  refine r_iload_n (q := 5) (i := 3) (z := 3) C dX10_holds_4 rfl rfl rfl ?_
  refine r_ial (q := 6) q_9_2 h_9_2 C hi2 dX10_holds_5 rfl ?_
  refine r_istore (q := 8) (i := 4) [(0, .ref (fad Δ 10 i0 0)), (1, .ref (fad Δ 2 i1 0)), (2, .ref (fad Δ 9 i2 0)), (3, .int a3)] C dX10_holds_6 rfl (by decide) rfl (fun x1 => ?_)
  refine r_aload_n (q := 9) (i := 2) (z := 3) C dX10_holds_8 rfl rfl rfl ?_
  refine g_X10_52 (q := 12) C hi2 dX10_holds_9 rfl ?_
  refine r_iload_n (q := 13) (i := 3) (z := 4) C dX10_holds_12 rfl rfl rfl ?_
  refine r_ial (q := 14) q_9_1 h_9_1 C hi2 dX10_holds_13 rfl ?_
  refine r_bif (fun hs2 => ?_) (fun hs2 => ?_)
  · refine r_tsHit (tgt := 44) (n := 25) C dX10_holds_14 hs2 (by decide) (by decide) (by decide) rfl (by decide) ?_
    refine r_aload_n (q := 45) (i := 0) (z := 1) C dX10_holds_44 rfl rfl rfl ?_
    refine g_X10_80 (q := 48) C hi0 dX10_holds_45 rfl ?_
    refine r_iload (q := 50) (i := 4) (z := 0) C dX10_holds_48 rfl rfl ?_
    refine r_ishr (q := 51) C dX10_holds_50 rfl ?_
    refine r_iconst (q := 52) (v := 1) C dX10_holds_51 rfl (by decide) ?_
    refine r_iand (q := 53) C dX10_holds_52 rfl ?_
    refine r_join (fun j5 => ∀ (x3 : Int32) (s4 : fSt), fW Δ Γ 5 (fQ eI Δ Γ) 61 [] [.int x3] s4 (j5 x3 s4)) ?_ (fun j5 hj5 => ?_)
    · intro x3 s4
      exact r_zret C dX10_holds_61
    refine r_if_eq (q := 56) (tgt := 60) C dX10_holds_53 (by decide) rfl ?_ ?_
    · refine r_iconst (q := 61) (v := 0) C dX10_holds_60 rfl (by decide) ?_
      refine r_locs (lc' := []) [] rfl ?_
      exact hj5 ((0 : Int32)) st
    · refine r_iconst (q := 57) (v := 1) C dX10_holds_56 rfl (by decide) ?_
      refine r_goto (q := 61) C dX10_holds_57 (by decide) ?_
      refine r_locs (lc' := []) [] rfl ?_
      exact hj5 ((1 : Int32)) st
  refine r_bif (fun hs6 => ?_) (fun hs6 => ?_)
  · refine r_tsHit (tgt := 62) (n := 26) C dX10_holds_14 hs6 (by decide) (by decide) (by decide) rfl (by decide) ?_
    refine r_aload_n (q := 63) (i := 1) (z := 2) C dX10_holds_62 rfl rfl rfl ?_
    refine g_X10_34 (q := 66) C hi1 dX10_holds_63 rfl ?_
    refine r_iload (q := 68) (i := 4) (z := 0) C dX10_holds_66 rfl rfl ?_
    refine r_ishr (q := 69) C dX10_holds_68 rfl ?_
    refine r_iconst (q := 70) (v := 1) C dX10_holds_69 rfl (by decide) ?_
    refine r_iand (q := 71) C dX10_holds_70 rfl ?_
    refine r_join (fun j9 => ∀ (x7 : Int32) (s8 : fSt), fW Δ Γ 5 (fQ eI Δ Γ) 79 [] [.int x7] s8 (j9 x7 s8)) ?_ (fun j9 hj9 => ?_)
    · intro x7 s8
      exact r_zret C dX10_holds_79
    refine r_if_eq (q := 74) (tgt := 78) C dX10_holds_71 (by decide) rfl ?_ ?_
    · refine r_iconst (q := 79) (v := 0) C dX10_holds_78 rfl (by decide) ?_
      refine r_locs (lc' := []) [] rfl ?_
      exact hj9 ((0 : Int32)) st
    · refine r_iconst (q := 75) (v := 1) C dX10_holds_74 rfl (by decide) ?_
      refine r_goto (q := 79) C dX10_holds_75 (by decide) ?_
      refine r_locs (lc' := []) [] rfl ?_
      exact hj9 ((1 : Int32)) st
  refine r_bif (fun hs10 => ?_) (fun hs10 => ?_)
  · refine r_tsHit (tgt := 80) (n := 28) C dX10_holds_14 hs10 (by decide) (by decide) (by decide) rfl (by decide) ?_
    refine r_aload_n (q := 81) (i := 0) (z := 1) C dX10_holds_80 rfl rfl rfl ?_
    refine g_X10_89 (q := 84) C hi0 dX10_holds_81 rfl ?_
    refine r_iload (q := 86) (i := 4) (z := 0) C dX10_holds_84 rfl rfl ?_
    refine r_join (fun j13 => ∀ (x11 : Int32) (s12 : fSt), fW Δ Γ 5 (fQ eI Δ Γ) 94 [] [.int x11] s12 (j13 x11 s12)) ?_ (fun j13 hj13 => ?_)
    · intro x11 s12
      exact r_zret C dX10_holds_94
    refine r_icmp_ne (q := 89) (tgt := 93) C dX10_holds_86 (by decide) rfl ?_ ?_
    · refine r_iconst (q := 94) (v := 0) C dX10_holds_93 rfl (by decide) ?_
      refine r_locs (lc' := []) [] rfl ?_
      exact hj13 ((0 : Int32)) st
    · refine r_iconst (q := 90) (v := 1) C dX10_holds_89 rfl (by decide) ?_
      refine r_goto (q := 94) C dX10_holds_90 (by decide) ?_
      refine r_locs (lc' := []) [] rfl ?_
      exact hj13 ((1 : Int32)) st
  refine r_tsHole (tgt := 95) C dX10_holds_14 (by decide) (fun off o1 o2 ho => by have ehs2 := fNe hs2 25 (by decide); have ehs6 := fNe hs6 26 (by decide); have ehs10 := fNe hs10 28 (by decide); have oo : ((gA st 9 i2 1 a3.toNatClampNeg)).toInt = 27 := (by omega); rw [oo] at ho; simp at ho; omega) (by decide) ?_
  refine r_aload_n (q := 96) (i := 2) (z := 3) C dX10_holds_95 rfl rfl rfl ?_
  refine g_X10_112 (q := 99) C hi2 dX10_holds_96 rfl ?_
  refine r_iload_n (q := 100) (i := 3) (z := 4) C dX10_holds_99 rfl rfl rfl ?_
  refine r_ial (q := 101) q_9_3 h_9_3 C hi2 dX10_holds_100 rfl ?_
  refine r_aload_n (q := 102) (i := 0) (z := 1) C dX10_holds_101 rfl rfl rfl ?_
  refine g_X10_74 (q := 105) C hi0 dX10_holds_102 rfl ?_
  refine r_iload (q := 107) (i := 4) (z := 0) C dX10_holds_105 rfl rfl ?_
  refine r_callSI (q := 110) (As := [.int (gA st 9 i2 3 a3.toNatClampNeg), .int (gI st 10 i0 4), .int x1]) wm_X10_115 ysX10_compares (c_X10_compares Δ hN (gA st 9 i2 3 a3.toNatClampNeg) (gI st 10 i0 4) x1 st) C (by decide) rfl (Nat.le_of_ble_eq_true rfl) dX10_holds_107 rfl (fun x14 s15 => ?_)
  exact r_zret C dX10_holds_110

noncomputable def f_X10_doStep (i0 : Nat) (i1 : Nat) (i2 : Nat) (a3 : Int32) (st : fSt) : Option (Int32 × fSt) :=
  fIx a3 60 <|
  fLt (gA st 9 i2 2 a3.toNatClampNeg) fun (x1 : Int32) =>
  fLt (sI st 10 i0 6 ((gI st 10 i0 6) + ((1 : Int32)))) fun s2 =>
  fIx a3 60 <|
  if (gA s2 9 i2 1 a3.toNatClampNeg) = (19 : Int32) then
    (fBd (f_X10_playNight i0 i1 x1 s2) fun _ s4 =>
    some (a3 + ((1 : Int32)), s4))
  else
  if (gA s2 9 i2 1 a3.toNatClampNeg) = (20 : Int32) then
    (fIx a3 60 <|
    fJn (fun (x6 : Int32) (s7 : fSt) =>
      (fBd (f_X2_setBarred i1 x1 x6 s7) fun _ s9 =>
      some (a3 + ((1 : Int32)), s9))) fun (j8 : Int32 → fSt → Option (Int32 × fSt)) =>
    if ¬ (gA s2 9 i2 1 a3.toNatClampNeg) = ((20 : Int32)) then
      (j8 ((0 : Int32)) s2)
    else
      (j8 ((1 : Int32)) s2))
  else
  if (gA s2 9 i2 1 a3.toNatClampNeg) = (21 : Int32) then
    (fIx a3 60 <|
    fJn (fun (x11 : Int32) (s12 : fSt) =>
      (fBd (f_X2_setBarred i1 x1 x11 s12) fun _ s14 =>
      some (a3 + ((1 : Int32)), s14))) fun (j13 : Int32 → fSt → Option (Int32 × fSt)) =>
    if ¬ (gA s2 9 i2 1 a3.toNatClampNeg) = ((20 : Int32)) then
      (j13 ((0 : Int32)) s2)
    else
      (j13 ((1 : Int32)) s2))
  else
  if (gA s2 9 i2 1 a3.toNatClampNeg) = (22 : Int32) then
    (fIx a3 60 <|
    fJn (fun (x16 : Int32) (s17 : fSt) =>
      (fBd (f_X2_setDead i1 x1 x16 s17) fun _ s19 =>
      some (a3 + ((1 : Int32)), s19))) fun (j18 : Int32 → fSt → Option (Int32 × fSt)) =>
    if ¬ (gA s2 9 i2 1 a3.toNatClampNeg) = ((22 : Int32)) then
      (j18 ((0 : Int32)) s2)
    else
      (j18 ((1 : Int32)) s2))
  else
  if (gA s2 9 i2 1 a3.toNatClampNeg) = (23 : Int32) then
    (fIx a3 60 <|
    fJn (fun (x21 : Int32) (s22 : fSt) =>
      (fBd (f_X2_setDead i1 x1 x21 s22) fun _ s24 =>
      some (a3 + ((1 : Int32)), s24))) fun (j23 : Int32 → fSt → Option (Int32 × fSt)) =>
    if ¬ (gA s2 9 i2 1 a3.toNatClampNeg) = ((22 : Int32)) then
      (j23 ((0 : Int32)) s2)
    else
      (j23 ((1 : Int32)) s2))
  else
  if (gA s2 9 i2 1 a3.toNatClampNeg) = (29 : Int32) then
    (fIx a3 60 <|
    fLt (sA s2 10 i0 1 (upd (gA s2 10 i0 1) a3.toNatClampNeg x1)) fun s26 =>
    some (a3 + ((1 : Int32)), s26))
  else
  if (gA s2 9 i2 1 a3.toNatClampNeg) = (31 : Int32) then
    (some (gI s2 9 i2 0, s2))
  else
  fBd (f_X10_holds i0 i1 i2 a3 s2) fun x28 s29 =>
  fJn (fun (x30 : Int32) (s31 : fSt) =>
    (some (x30, s31))) fun (j32 : Int32 → fSt → Option (Int32 × fSt)) =>
  if x28 = 0 then
    (fIx a3 60 <|
    j32 ((gA s29 9 i2 4 a3.toNatClampNeg) + ((1 : Int32))) s29)
  else
    (j32 (a3 + ((1 : Int32))) s29)

set_option maxHeartbeats 4000000 in
set_option maxRecDepth 100000 in
theorem c_X10_doStep (Δ : fDl) (hN : fNx Δ) (i0 : Nat) (i1 : Nat) (i2 : Nat) (a3 : Int32) (hi0 : i0 < fN Δ 10) (hi1 : i1 < fN Δ 2) (hi2 : i2 < fN Δ 9)  (st : fSt) : fMt eI Δ yX10_doStep cX10_doStep 5 (some .int) 6 [.ref (fad Δ 10 i0 0), .ref (fad Δ 2 i1 0), .ref (fad Δ 9 i2 0), .int a3] st (f_X10_doStep i0 i1 i2 a3 st) := by
  unfold f_X10_doStep
  refine r_method (by decide +kernel) (Nat.le_of_ble_eq_true rfl) (fun Γ C => ?_)
  have C : fC Δ Γ cX10_doStep RX10 5 (some .int) 6 := C
  refine r_locs (lc' := [(0, .ref (fad Δ 10 i0 0)), (1, .ref (fad Δ 2 i1 0)), (2, .ref (fad Δ 9 i2 0)), (3, .int a3)]) [0, 1, 2, 3] rfl ?_
  refine r_aload_n (q := 1) (i := 2) (z := 2) C dX10_doStep_0 rfl rfl rfl ?_
  refine g_X10_95 (q := 4) C hi2 dX10_doStep_1 rfl ?_
  refine r_iload_n (q := 5) (i := 3) (z := 3) C dX10_doStep_4 rfl rfl rfl ?_
  refine r_ial (q := 6) q_9_2 h_9_2 C hi2 dX10_doStep_5 rfl ?_
  refine r_istore (q := 8) (i := 4) [(0, .ref (fad Δ 10 i0 0)), (1, .ref (fad Δ 2 i1 0)), (2, .ref (fad Δ 9 i2 0)), (3, .int a3)] C dX10_doStep_6 rfl (by decide) rfl (fun x1 => ?_)
  refine r_aload_n (q := 9) (i := 0) (z := 1) C dX10_doStep_8 rfl rfl rfl ?_
  refine r_dup (q := 10) C dX10_doStep_9 rfl rfl ?_
  refine g_X10_49 (q := 13) C hi0 dX10_doStep_10 rfl ?_
  refine r_iconst (q := 14) (v := 1) C dX10_doStep_13 rfl (by decide) ?_
  refine r_iadd (q := 15) C dX10_doStep_14 rfl ?_
  refine p_X10_49 (q := 18) C hi0 dX10_doStep_15 rfl (fun s2 => ?_)
  refine r_aload_n (q := 19) (i := 2) (z := 3) C dX10_doStep_18 rfl rfl rfl ?_
  refine g_X10_52 (q := 22) C hi2 dX10_doStep_19 rfl ?_
  refine r_iload_n (q := 23) (i := 3) (z := 4) C dX10_doStep_22 rfl rfl rfl ?_
  refine r_ial (q := 24) q_9_1 h_9_1 C hi2 dX10_doStep_23 rfl ?_
  refine r_bif (fun hs3 => ?_) (fun hs3 => ?_)
  · refine r_tsHit (tgt := 92) (n := 19) C dX10_doStep_24 hs3 (by decide) (by decide) (by decide) rfl (by decide) ?_
    refine r_aload_n (q := 93) (i := 0) (z := 1) C dX10_doStep_92 rfl rfl rfl ?_
    refine r_aload_n (q := 94) (i := 1) (z := 2) C dX10_doStep_93 rfl rfl rfl ?_
    refine r_iload (q := 96) (i := 4) (z := 0) C dX10_doStep_94 rfl rfl ?_
    refine r_callVV (q := 99) (As := [.ref (fad Δ 2 i1 0), .int x1]) wm_X10_98 yvX10_playNight (c_X10_playNight Δ hN i0 i1 x1 hi0 hi1 s2) ⟨rfl, by decide⟩ C hi0 (by decide) rfl (Nat.le_of_ble_eq_true rfl) dX10_doStep_96 rfl (fun _ s4 => ?_)
    refine r_iload_n (q := 100) (i := 3) (z := 4) C dX10_doStep_99 rfl rfl rfl ?_
    refine r_iconst (q := 101) (v := 1) C dX10_doStep_100 rfl (by decide) ?_
    refine r_iadd (q := 102) C dX10_doStep_101 rfl ?_
    exact r_iret C dX10_doStep_102
  refine r_bif (fun hs5 => ?_) (fun hs5 => ?_)
  · refine r_tsHit (tgt := 103) (n := 20) C dX10_doStep_24 hs5 (by decide) (by decide) (by decide) rfl (by decide) ?_
    refine r_aload_n (q := 104) (i := 1) (z := 2) C dX10_doStep_103 rfl rfl rfl ?_
    refine r_iload (q := 106) (i := 4) (z := 0) C dX10_doStep_104 rfl rfl ?_
    refine r_aload_n (q := 107) (i := 2) (z := 3) C dX10_doStep_106 rfl rfl rfl ?_
    refine g_X10_52 (q := 110) C hi2 dX10_doStep_107 rfl ?_
    refine r_iload_n (q := 111) (i := 3) (z := 4) C dX10_doStep_110 rfl rfl rfl ?_
    refine r_ial (q := 112) q_9_1 h_9_1 C hi2 dX10_doStep_111 rfl ?_
    refine r_bipush (q := 114) (v := 20) C dX10_doStep_112 rfl (by decide) ?_
    refine r_join (fun j8 => ∀ (x6 : Int32) (s7 : fSt), fW Δ Γ 5 (fQ eI Δ Γ) 122 [(3, .int a3)] [.int x6, .int x1, .ref (fad Δ 2 i1 0)] s7 (j8 x6 s7)) ?_ (fun j8 hj8 => ?_)
    · intro x6 s7
      refine r_callVV (q := 125) (As := [.int x1, .int x6]) wm_X10_102 yvX2_setBarred (c_X2_setBarred Δ hN i1 x1 x6 hi1 s7) ⟨rfl, by decide⟩ C hi1 (by decide) rfl (Nat.le_of_ble_eq_true rfl) dX10_doStep_122 rfl (fun _ s9 => ?_)
      refine r_iload_n (q := 126) (i := 3) (z := 0) C dX10_doStep_125 rfl rfl rfl ?_
      refine r_iconst (q := 127) (v := 1) C dX10_doStep_126 rfl (by decide) ?_
      refine r_iadd (q := 128) C dX10_doStep_127 rfl ?_
      exact r_iret C dX10_doStep_128
    refine r_icmp_ne (q := 117) (tgt := 121) C dX10_doStep_114 (by decide) rfl ?_ ?_
    · refine r_iconst (q := 122) (v := 0) C dX10_doStep_121 rfl (by decide) ?_
      refine r_locs (lc' := [(3, .int a3)]) [4] rfl ?_
      exact hj8 ((0 : Int32)) s2
    · refine r_iconst (q := 118) (v := 1) C dX10_doStep_117 rfl (by decide) ?_
      refine r_goto (q := 122) C dX10_doStep_118 (by decide) ?_
      refine r_locs (lc' := [(3, .int a3)]) [4] rfl ?_
      exact hj8 ((1 : Int32)) s2
  refine r_bif (fun hs10 => ?_) (fun hs10 => ?_)
  · refine r_tsHit (tgt := 103) (n := 21) C dX10_doStep_24 hs10 (by decide) (by decide) (by decide) rfl (by decide) ?_
    refine r_aload_n (q := 104) (i := 1) (z := 2) C dX10_doStep_103 rfl rfl rfl ?_
    refine r_iload (q := 106) (i := 4) (z := 0) C dX10_doStep_104 rfl rfl ?_
    refine r_aload_n (q := 107) (i := 2) (z := 3) C dX10_doStep_106 rfl rfl rfl ?_
    refine g_X10_52 (q := 110) C hi2 dX10_doStep_107 rfl ?_
    refine r_iload_n (q := 111) (i := 3) (z := 4) C dX10_doStep_110 rfl rfl rfl ?_
    refine r_ial (q := 112) q_9_1 h_9_1 C hi2 dX10_doStep_111 rfl ?_
    refine r_bipush (q := 114) (v := 20) C dX10_doStep_112 rfl (by decide) ?_
    refine r_join (fun j13 => ∀ (x11 : Int32) (s12 : fSt), fW Δ Γ 5 (fQ eI Δ Γ) 122 [(3, .int a3)] [.int x11, .int x1, .ref (fad Δ 2 i1 0)] s12 (j13 x11 s12)) ?_ (fun j13 hj13 => ?_)
    · intro x11 s12
      refine r_callVV (q := 125) (As := [.int x1, .int x11]) wm_X10_102 yvX2_setBarred (c_X2_setBarred Δ hN i1 x1 x11 hi1 s12) ⟨rfl, by decide⟩ C hi1 (by decide) rfl (Nat.le_of_ble_eq_true rfl) dX10_doStep_122 rfl (fun _ s14 => ?_)
      refine r_iload_n (q := 126) (i := 3) (z := 0) C dX10_doStep_125 rfl rfl rfl ?_
      refine r_iconst (q := 127) (v := 1) C dX10_doStep_126 rfl (by decide) ?_
      refine r_iadd (q := 128) C dX10_doStep_127 rfl ?_
      exact r_iret C dX10_doStep_128
    refine r_icmp_ne (q := 117) (tgt := 121) C dX10_doStep_114 (by decide) rfl ?_ ?_
    · refine r_iconst (q := 122) (v := 0) C dX10_doStep_121 rfl (by decide) ?_
      refine r_locs (lc' := [(3, .int a3)]) [4] rfl ?_
      exact hj13 ((0 : Int32)) s2
    · refine r_iconst (q := 118) (v := 1) C dX10_doStep_117 rfl (by decide) ?_
      refine r_goto (q := 122) C dX10_doStep_118 (by decide) ?_
      refine r_locs (lc' := [(3, .int a3)]) [4] rfl ?_
      exact hj13 ((1 : Int32)) s2
  refine r_bif (fun hs15 => ?_) (fun hs15 => ?_)
  · refine r_tsHit (tgt := 129) (n := 22) C dX10_doStep_24 hs15 (by decide) (by decide) (by decide) rfl (by decide) ?_
    refine r_aload_n (q := 130) (i := 1) (z := 2) C dX10_doStep_129 rfl rfl rfl ?_
    refine r_iload (q := 132) (i := 4) (z := 0) C dX10_doStep_130 rfl rfl ?_
    refine r_aload_n (q := 133) (i := 2) (z := 3) C dX10_doStep_132 rfl rfl rfl ?_
    refine g_X10_52 (q := 136) C hi2 dX10_doStep_133 rfl ?_
    refine r_iload_n (q := 137) (i := 3) (z := 4) C dX10_doStep_136 rfl rfl rfl ?_
    refine r_ial (q := 138) q_9_1 h_9_1 C hi2 dX10_doStep_137 rfl ?_
    refine r_bipush (q := 140) (v := 22) C dX10_doStep_138 rfl (by decide) ?_
    refine r_join (fun j18 => ∀ (x16 : Int32) (s17 : fSt), fW Δ Γ 5 (fQ eI Δ Γ) 148 [(3, .int a3)] [.int x16, .int x1, .ref (fad Δ 2 i1 0)] s17 (j18 x16 s17)) ?_ (fun j18 hj18 => ?_)
    · intro x16 s17
      refine r_callVV (q := 151) (As := [.int x1, .int x16]) wm_X10_105 yvX2_setDead (c_X2_setDead Δ hN i1 x1 x16 hi1 s17) ⟨rfl, by decide⟩ C hi1 (by decide) rfl (Nat.le_of_ble_eq_true rfl) dX10_doStep_148 rfl (fun _ s19 => ?_)
      refine r_iload_n (q := 152) (i := 3) (z := 0) C dX10_doStep_151 rfl rfl rfl ?_
      refine r_iconst (q := 153) (v := 1) C dX10_doStep_152 rfl (by decide) ?_
      refine r_iadd (q := 154) C dX10_doStep_153 rfl ?_
      exact r_iret C dX10_doStep_154
    refine r_icmp_ne (q := 143) (tgt := 147) C dX10_doStep_140 (by decide) rfl ?_ ?_
    · refine r_iconst (q := 148) (v := 0) C dX10_doStep_147 rfl (by decide) ?_
      refine r_locs (lc' := [(3, .int a3)]) [4] rfl ?_
      exact hj18 ((0 : Int32)) s2
    · refine r_iconst (q := 144) (v := 1) C dX10_doStep_143 rfl (by decide) ?_
      refine r_goto (q := 148) C dX10_doStep_144 (by decide) ?_
      refine r_locs (lc' := [(3, .int a3)]) [4] rfl ?_
      exact hj18 ((1 : Int32)) s2
  refine r_bif (fun hs20 => ?_) (fun hs20 => ?_)
  · refine r_tsHit (tgt := 129) (n := 23) C dX10_doStep_24 hs20 (by decide) (by decide) (by decide) rfl (by decide) ?_
    refine r_aload_n (q := 130) (i := 1) (z := 2) C dX10_doStep_129 rfl rfl rfl ?_
    refine r_iload (q := 132) (i := 4) (z := 0) C dX10_doStep_130 rfl rfl ?_
    refine r_aload_n (q := 133) (i := 2) (z := 3) C dX10_doStep_132 rfl rfl rfl ?_
    refine g_X10_52 (q := 136) C hi2 dX10_doStep_133 rfl ?_
    refine r_iload_n (q := 137) (i := 3) (z := 4) C dX10_doStep_136 rfl rfl rfl ?_
    refine r_ial (q := 138) q_9_1 h_9_1 C hi2 dX10_doStep_137 rfl ?_
    refine r_bipush (q := 140) (v := 22) C dX10_doStep_138 rfl (by decide) ?_
    refine r_join (fun j23 => ∀ (x21 : Int32) (s22 : fSt), fW Δ Γ 5 (fQ eI Δ Γ) 148 [(3, .int a3)] [.int x21, .int x1, .ref (fad Δ 2 i1 0)] s22 (j23 x21 s22)) ?_ (fun j23 hj23 => ?_)
    · intro x21 s22
      refine r_callVV (q := 151) (As := [.int x1, .int x21]) wm_X10_105 yvX2_setDead (c_X2_setDead Δ hN i1 x1 x21 hi1 s22) ⟨rfl, by decide⟩ C hi1 (by decide) rfl (Nat.le_of_ble_eq_true rfl) dX10_doStep_148 rfl (fun _ s24 => ?_)
      refine r_iload_n (q := 152) (i := 3) (z := 0) C dX10_doStep_151 rfl rfl rfl ?_
      refine r_iconst (q := 153) (v := 1) C dX10_doStep_152 rfl (by decide) ?_
      refine r_iadd (q := 154) C dX10_doStep_153 rfl ?_
      exact r_iret C dX10_doStep_154
    refine r_icmp_ne (q := 143) (tgt := 147) C dX10_doStep_140 (by decide) rfl ?_ ?_
    · refine r_iconst (q := 148) (v := 0) C dX10_doStep_147 rfl (by decide) ?_
      refine r_locs (lc' := [(3, .int a3)]) [4] rfl ?_
      exact hj23 ((0 : Int32)) s2
    · refine r_iconst (q := 144) (v := 1) C dX10_doStep_143 rfl (by decide) ?_
      refine r_goto (q := 148) C dX10_doStep_144 (by decide) ?_
      refine r_locs (lc' := [(3, .int a3)]) [4] rfl ?_
      exact hj23 ((1 : Int32)) s2
  refine r_bif (fun hs25 => ?_) (fun hs25 => ?_)
  · refine r_tsHit (tgt := 155) (n := 29) C dX10_doStep_24 hs25 (by decide) (by decide) (by decide) rfl (by decide) ?_
    refine r_aload_n (q := 156) (i := 0) (z := 1) C dX10_doStep_155 rfl rfl rfl ?_
    refine g_X10_20 (q := 159) C hi0 dX10_doStep_156 rfl ?_
    refine r_iload_n (q := 160) (i := 3) (z := 4) C dX10_doStep_159 rfl rfl rfl ?_
    refine r_iload (q := 162) (i := 4) (z := 0) C dX10_doStep_160 rfl rfl ?_
    refine r_ast (q := 163) q_10_1 h_10_1 C hi0 dX10_doStep_162 rfl (fun s26 => ?_)
    refine r_iload_n (q := 164) (i := 3) (z := 4) C dX10_doStep_163 rfl rfl rfl ?_
    refine r_iconst (q := 165) (v := 1) C dX10_doStep_164 rfl (by decide) ?_
    refine r_iadd (q := 166) C dX10_doStep_165 rfl ?_
    exact r_iret C dX10_doStep_166
  refine r_bif (fun hs27 => ?_) (fun hs27 => ?_)
  · refine r_tsHit (tgt := 167) (n := 31) C dX10_doStep_24 hs27 (by decide) (by decide) (by decide) rfl (by decide) ?_
    refine r_aload_n (q := 168) (i := 2) (z := 3) C dX10_doStep_167 rfl rfl rfl ?_
    refine g_X10_42 (q := 171) C hi2 dX10_doStep_168 rfl ?_
    exact r_iret C dX10_doStep_171
  refine r_tsHole (tgt := 172) C dX10_doStep_24 (by decide) (fun off o1 o2 ho => by have ehs3 := fNe hs3 19 (by decide); have ehs5 := fNe hs5 20 (by decide); have ehs10 := fNe hs10 21 (by decide); have ehs15 := fNe hs15 22 (by decide); have ehs20 := fNe hs20 23 (by decide); have ehs25 := fNe hs25 29 (by decide); have ehs27 := fNe hs27 31 (by decide); have oo : ((gA s2 9 i2 1 a3.toNatClampNeg)).toInt = 24 ∨ ((gA s2 9 i2 1 a3.toNatClampNeg)).toInt = 25 ∨ ((gA s2 9 i2 1 a3.toNatClampNeg)).toInt = 26 ∨ ((gA s2 9 i2 1 a3.toNatClampNeg)).toInt = 27 ∨ ((gA s2 9 i2 1 a3.toNatClampNeg)).toInt = 28 ∨ ((gA s2 9 i2 1 a3.toNatClampNeg)).toInt = 30 := (by omega); rcases oo with qq | qq | qq | qq | qq | qq <;> (rw [qq] at ho; simp at ho; omega)) (by decide) ?_
  refine r_aload_n (q := 173) (i := 0) (z := 1) C dX10_doStep_172 rfl rfl rfl ?_
  refine r_aload_n (q := 174) (i := 1) (z := 2) C dX10_doStep_173 rfl rfl rfl ?_
  refine r_aload_n (q := 175) (i := 2) (z := 3) C dX10_doStep_174 rfl rfl rfl ?_
  refine r_iload_n (q := 176) (i := 3) (z := 4) C dX10_doStep_175 rfl rfl rfl ?_
  refine r_callVI (q := 179) (As := [.ref (fad Δ 2 i1 0), .ref (fad Δ 9 i2 0), .int a3]) wm_X10_108 yvX10_holds (c_X10_holds Δ hN i0 i1 i2 a3 hi0 hi1 hi2 s2) ⟨rfl, by decide⟩ C hi0 (by decide) rfl (Nat.le_of_ble_eq_true rfl) dX10_doStep_176 rfl (fun x28 s29 => ?_)
  refine r_join (fun j32 => ∀ (x30 : Int32) (s31 : fSt), fW Δ Γ 5 (fQ eI Δ Γ) 196 [] [.int x30] s31 (j32 x30 s31)) ?_ (fun j32 hj32 => ?_)
  · intro x30 s31
    exact r_iret C dX10_doStep_196
  refine r_if_eq (q := 182) (tgt := 188) C dX10_doStep_179 (by decide) rfl ?_ ?_
  · refine r_aload_n (q := 189) (i := 2) (z := 3) C dX10_doStep_188 rfl rfl rfl ?_
    refine g_X10_92 (q := 192) C hi2 dX10_doStep_189 rfl ?_
    refine r_iload_n (q := 193) (i := 3) (z := 4) C dX10_doStep_192 rfl rfl rfl ?_
    refine r_ial (q := 194) q_9_4 h_9_4 C hi2 dX10_doStep_193 rfl ?_
    refine r_iconst (q := 195) (v := 1) C dX10_doStep_194 rfl (by decide) ?_
    refine r_iadd (q := 196) C dX10_doStep_195 rfl ?_
    refine r_locs (lc' := []) [] rfl ?_
    exact hj32 ((gA s29 9 i2 4 a3.toNatClampNeg) + ((1 : Int32))) s29
  · refine r_iload_n (q := 183) (i := 3) (z := 4) C dX10_doStep_182 rfl rfl rfl ?_
    refine r_iconst (q := 184) (v := 1) C dX10_doStep_183 rfl (by decide) ?_
    refine r_iadd (q := 185) C dX10_doStep_184 rfl ?_
    refine r_goto (q := 196) C dX10_doStep_185 (by decide) ?_
    refine r_locs (lc' := []) [] rfl ?_
    exact hj32 (a3 + ((1 : Int32))) s29

noncomputable def f_X10_go_L36 (i0 : Nat) (i1 : Nat) (y1 : Nat) (k8 : fSt → Option (Unit × fSt)) : Nat → Int32 → Int32 → fSt → Option (Unit × fSt)
  | 0, _, _, _ => none
  | n15 + 1, x12, x13, s14 =>
      if ((1000000 : Int32)) ≤ x13 then
          (k8 s14)
        else
          (fBd (f_X11_isBelow x12 (gI s14 9 y1 0) s14) fun x16 s17 =>
          if x16 = 0 then
            (k8 s17)
          else
            (if ((200 : Int32)) ≤ (gI s17 10 i0 6) then
              (k8 s17)
            else
              (fIx x12 60 <|
              fJn (fun (x18 : Int32) (s19 : fSt) =>
                (fLt x18 fun (x21 : Int32) =>
                fLt (x13 + (1 : Int32)) fun (x22 : Int32) =>
                f_X10_go_L36 i0 i1 y1 k8 n15 x21 x22 s19)) fun (j20 : Int32 → fSt → Option (Unit × fSt)) =>
              if ¬ (gA s17 9 y1 1 x12.toNatClampNeg) = ((30 : Int32)) then
                (fBd (f_X10_doStep i0 i1 y1 x12 s17) fun x23 s24 =>
                j20 x23 s24)
              else
                (fBd (f_X10_comeToEnd i0 y1 x12 s17) fun x25 s26 =>
                j20 x25 s26))))

noncomputable def f_X10_go (i0 : Nat) (i1 : Nat) (a2 : Int32) (a3 : Int32) (st : fSt) : Option (Unit × fSt) :=
  fNu (gP st 2 i1 1) (
    some ((), st))
    fun y1 =>
    fLt (gI st 2 i1 2) fun (x2 : Int32) =>
    fLt (gI st 2 i1 3) fun (x3 : Int32) =>
    fBd (f_X10_begin i0 a2 a3 st) fun _ s4 =>
    fLt ((0 : Int32)) fun (x5 : Int32) =>
    fLt ((0 : Int32)) fun (x6 : Int32) =>
    fJn (fun (s7 : fSt) =>
      (fLt (sI s7 2 i1 2 x2) fun s9 =>
      fLt (sI s9 2 i1 3 x3) fun s10 =>
      fBo ((1 : Int32)) <| fLt (sI s10 10 i0 3 ((1 : Int32))) fun s11 =>
      some ((), s11))) fun (k8 : fSt → Option (Unit × fSt)) =>
    f_X10_go_L36 i0 i1 y1 k8 fF x5 x6 s4

set_option maxHeartbeats 4000000 in
set_option maxRecDepth 100000 in
theorem c_X10_go (Δ : fDl) (hN : fNx Δ) (i0 : Nat) (i1 : Nat) (a2 : Int32) (a3 : Int32) (hi0 : i0 < fN Δ 10) (hi1 : i1 < fN Δ 2)  (st : fSt) : fMt eV Δ yX10_go cX10_go 9 none 7 [.ref (fad Δ 10 i0 0), .ref (fad Δ 2 i1 0), .int a2, .int a3] st (f_X10_go i0 i1 a2 a3 st) := by
  unfold f_X10_go
  refine r_method (by decide +kernel) (Nat.le_of_ble_eq_true rfl) (fun Γ C => ?_)
  have C : fC Δ Γ cX10_go RX10 9 none 7 := C
  refine r_locs (lc' := [(0, .ref (fad Δ 10 i0 0)), (1, .ref (fad Δ 2 i1 0)), (2, .int a2), (3, .int a3)]) [0, 1, 2, 3] rfl ?_
  refine r_aload_n (q := 1) (i := 1) (z := 1) C dX10_go_0 rfl rfl rfl ?_
  refine g_X10_24 (q := 4) C hi1 dX10_go_1 rfl ?_
  refine r_nul C (fun h => (h _ hi1).2) ?_ (fun y1 hy1 => ?_)
  · refine r_astoreN (q := 6) [(0, .ref (fad Δ 10 i0 0)), (1, .ref (fad Δ 2 i1 0)), (2, .int a2), (3, .int a3)] C dX10_go_4 rfl (by decide) rfl ?_
    refine r_aloadN (q := 8) (i := 4) (z := 0) C dX10_go_6 rfl rfl ?_
    refine r_nnN (q := 11) C dX10_go_8 rfl ?_
    exact r_vret C dX10_go_11
  · refine r_astore (q := 6) (i := 4) [(0, .ref (fad Δ 10 i0 0)), (1, .ref (fad Δ 2 i1 0)), (2, .int a2), (3, .int a3)] C dX10_go_4 rfl (by decide) rfl ?_
    refine r_aload (q := 8) (i := 4) (z := 0) C dX10_go_6 rfl rfl ?_
    refine r_nnR (q := 12) C dX10_go_8 (by decide) ?_
    refine r_aload_n (q := 13) (i := 1) (z := 2) C dX10_go_12 rfl rfl rfl ?_
    refine g_X10_30 (q := 16) C hi1 dX10_go_13 rfl ?_
    refine r_istore (q := 18) (i := 5) [(4, .ref (fad Δ 9 y1 0)), (0, .ref (fad Δ 10 i0 0)), (1, .ref (fad Δ 2 i1 0)), (2, .int a2), (3, .int a3)] C dX10_go_16 rfl (by decide) rfl (fun x2 => ?_)
    refine r_aload_n (q := 19) (i := 1) (z := 3) C dX10_go_18 rfl rfl rfl ?_
    refine g_X10_34 (q := 22) C hi1 dX10_go_19 rfl ?_
    refine r_istore (q := 24) (i := 6) [(5, .int x2), (4, .ref (fad Δ 9 y1 0)), (0, .ref (fad Δ 10 i0 0)), (1, .ref (fad Δ 2 i1 0)), (2, .int a2), (3, .int a3)] C dX10_go_22 rfl (by decide) rfl (fun x3 => ?_)
    refine r_aload_n (q := 25) (i := 0) (z := 3) C dX10_go_24 rfl rfl rfl ?_
    refine r_iload_n (q := 26) (i := 2) (z := 5) C dX10_go_25 rfl rfl rfl ?_
    refine r_iload_n (q := 27) (i := 3) (z := 6) C dX10_go_26 rfl rfl rfl ?_
    refine r_callVV (q := 30) (As := [.int a2, .int a3]) wm_X10_37 yvX10_begin (c_X10_begin Δ hN i0 a2 a3 hi0 st) ⟨rfl, by decide⟩ C hi0 (by decide) rfl (Nat.le_of_ble_eq_true rfl) dX10_go_27 rfl (fun _ s4 => ?_)
    refine r_iconst (q := 31) (v := 0) C dX10_go_30 rfl (by decide) ?_
    refine r_istore (q := 33) (i := 7) [(6, .int x3), (5, .int x2), (4, .ref (fad Δ 9 y1 0)), (0, .ref (fad Δ 10 i0 0)), (1, .ref (fad Δ 2 i1 0)), (2, .int a2), (3, .int a3)] C dX10_go_31 rfl (by decide) rfl (fun x5 => ?_)
    refine r_iconst (q := 34) (v := 0) C dX10_go_33 rfl (by decide) ?_
    refine r_istore (q := 36) (i := 8) [(7, .int x5), (6, .int x3), (5, .int x2), (4, .ref (fad Δ 9 y1 0)), (0, .ref (fad Δ 10 i0 0)), (1, .ref (fad Δ 2 i1 0)), (2, .int a2), (3, .int a3)] C dX10_go_34 rfl (by decide) rfl (fun x6 => ?_)
    refine r_join (fun k8 => ∀  (s7 : fSt), fW Δ Γ 9 (fQ eV Δ Γ) 107 [(0, .ref (fad Δ 10 i0 0)), (1, .ref (fad Δ 2 i1 0)), (5, .int x2), (6, .int x3)] [] s7 (k8 s7)) ?_ (fun k8 hk8 => ?_)
    · intro s7
      refine r_aload_n (q := 108) (i := 1) (z := 1) C dX10_go_107 rfl rfl rfl ?_
      refine r_iload (q := 110) (i := 5) (z := 2) C dX10_go_108 rfl rfl ?_
      refine p_X10_30 (q := 113) C hi1 dX10_go_110 rfl (fun s9 => ?_)
      refine r_aload_n (q := 114) (i := 1) (z := 1) C dX10_go_113 rfl rfl rfl ?_
      refine r_iload (q := 116) (i := 6) (z := 3) C dX10_go_114 rfl rfl ?_
      refine p_X10_34 (q := 119) C hi1 dX10_go_116 rfl (fun s10 => ?_)
      refine r_aload_n (q := 120) (i := 0) (z := 0) C dX10_go_119 rfl rfl rfl ?_
      refine r_iconst (q := 121) (v := 1) C dX10_go_120 rfl (by decide) ?_
      refine p_X10_63 (q := 124) C hi0 dX10_go_121 rfl (fun s11 => ?_)
      exact r_vret C dX10_go_124
    refine r_locs (lc' := [(0, .ref (fad Δ 10 i0 0)), (1, .ref (fad Δ 2 i1 0)), (4, .ref (fad Δ 9 y1 0)), (5, .int x2), (6, .int x3), (7, .int x5), (8, .int x6)]) [5, 6, 4, 3, 2, 1, 0] rfl ?_
    have L36 : ∀ (n15 : Nat) (x12 : Int32) (x13 : Int32) (s14 : fSt), fW Δ Γ 9 (fQ eV Δ Γ) 36 [(0, .ref (fad Δ 10 i0 0)), (1, .ref (fad Δ 2 i1 0)), (4, .ref (fad Δ 9 y1 0)), (5, .int x2), (6, .int x3), (7, .int x12), (8, .int x13)] [] s14 (f_X10_go_L36 i0 i1 y1 k8 n15 x12 x13 s14) := by
      intro n15
      induction n15 with
      | zero =>
        intro x12 x13 s14
        rw [f_X10_go_L36]
        exact r_none
      | succ n15 ih_n15 =>
        intro x12 x13 s14
        rw [f_X10_go_L36]
        refine r_iload (q := 38) (i := 8) (z := 6) C dX10_go_36 rfl rfl ?_
        refine r_ldc (q := 40) C dX10_go_38 rfl wc_X10_41 ?_
        refine r_icmp_ge (q := 43) (tgt := 107) C dX10_go_40 (by decide) rfl ?_ ?_
        · refine r_locs (lc' := [(0, .ref (fad Δ 10 i0 0)), (1, .ref (fad Δ 2 i1 0)), (5, .int x2), (6, .int x3)]) [0, 1, 3, 4] rfl ?_
          exact hk8 s14
        · refine r_iload (q := 45) (i := 7) (z := 5) C dX10_go_43 rfl rfl ?_
          refine r_aload (q := 47) (i := 4) (z := 2) C dX10_go_45 rfl rfl ?_
          refine g_X10_42 (q := 50) C hy1 dX10_go_47 rfl ?_
          refine r_callSNI (q := 53) (As := [.int x12, .int (gI s14 9 y1 0)]) wn_X10_45 ysX11_isBelow (c_X11_isBelow Δ hN x12 (gI s14 9 y1 0) s14) C (by decide) rfl (Nat.le_of_ble_eq_true rfl) dX10_go_50 rfl (fun x16 s17 => ?_)
          refine r_if_eq (q := 56) (tgt := 107) C dX10_go_53 (by decide) rfl ?_ ?_
          · refine r_locs (lc' := [(0, .ref (fad Δ 10 i0 0)), (1, .ref (fad Δ 2 i1 0)), (5, .int x2), (6, .int x3)]) [0, 1, 3, 4] rfl ?_
            exact hk8 s17
          · refine r_aload_n (q := 57) (i := 0) (z := 0) C dX10_go_56 rfl rfl rfl ?_
            refine g_X10_49 (q := 60) C hi0 dX10_go_57 rfl ?_
            refine r_sipush (q := 63) (v := 200) C dX10_go_60 rfl (by decide) ?_
            refine r_icmp_ge (q := 66) (tgt := 107) C dX10_go_63 (by decide) rfl ?_ ?_
            · refine r_locs (lc' := [(0, .ref (fad Δ 10 i0 0)), (1, .ref (fad Δ 2 i1 0)), (5, .int x2), (6, .int x3)]) [0, 1, 3, 4] rfl ?_
              exact hk8 s17
            · refine r_aload (q := 68) (i := 4) (z := 2) C dX10_go_66 rfl rfl ?_
              refine g_X10_52 (q := 71) C hy1 dX10_go_68 rfl ?_
              refine r_iload (q := 73) (i := 7) (z := 5) C dX10_go_71 rfl rfl ?_
              refine r_ial (q := 74) q_9_1 h_9_1 C hy1 dX10_go_73 rfl ?_
              refine r_bipush (q := 76) (v := 30) C dX10_go_74 rfl (by decide) ?_
              refine r_join (fun j20 => ∀ (x18 : Int32) (s19 : fSt), fW Δ Γ 9 (fQ eV Δ Γ) 99 [(0, .ref (fad Δ 10 i0 0)), (1, .ref (fad Δ 2 i1 0)), (4, .ref (fad Δ 9 y1 0)), (5, .int x2), (6, .int x3), (8, .int x13)] [.int x18] s19 (j20 x18 s19)) ?_ (fun j20 hj20 => ?_)
              · intro x18 s19
                refine r_istore (q := 101) (i := 7) [(0, .ref (fad Δ 10 i0 0)), (1, .ref (fad Δ 2 i1 0)), (4, .ref (fad Δ 9 y1 0)), (5, .int x2), (6, .int x3), (8, .int x13)] C dX10_go_99 rfl (by decide) rfl (fun x21 => ?_)
                refine r_iinc (q := 104) (z := 6) (d := 1) [(7, .int x21), (0, .ref (fad Δ 10 i0 0)), (1, .ref (fad Δ 2 i1 0)), (4, .ref (fad Δ 9 y1 0)), (5, .int x2), (6, .int x3)] C dX10_go_101 rfl rfl (by decide) (by decide) rfl (fun x22 => ?_)
                refine r_goto (q := 36) C dX10_go_104 (by decide) ?_
                refine r_locs (lc' := [(0, .ref (fad Δ 10 i0 0)), (1, .ref (fad Δ 2 i1 0)), (4, .ref (fad Δ 9 y1 0)), (5, .int x2), (6, .int x3), (7, .int x21), (8, .int x22)]) [2, 3, 4, 5, 6, 1, 0] rfl ?_
                exact ih_n15 x21 x22 s19
              refine r_icmp_ne (q := 79) (tgt := 90) C dX10_go_76 (by decide) rfl ?_ ?_
              · refine r_aload_n (q := 91) (i := 0) (z := 0) C dX10_go_90 rfl rfl rfl ?_
                refine r_aload_n (q := 92) (i := 1) (z := 1) C dX10_go_91 rfl rfl rfl ?_
                refine r_aload (q := 94) (i := 4) (z := 2) C dX10_go_92 rfl rfl ?_
                refine r_iload (q := 96) (i := 7) (z := 5) C dX10_go_94 rfl rfl ?_
                refine r_callVI (q := 99) (As := [.ref (fad Δ 2 i1 0), .ref (fad Δ 9 y1 0), .int x12]) wm_X10_59 yvX10_doStep (c_X10_doStep Δ hN i0 i1 y1 x12 hi0 hi1 hy1 s17) ⟨rfl, by decide⟩ C hi0 (by decide) rfl (Nat.le_of_ble_eq_true rfl) dX10_go_96 rfl (fun x23 s24 => ?_)
                refine r_locs (lc' := [(0, .ref (fad Δ 10 i0 0)), (1, .ref (fad Δ 2 i1 0)), (4, .ref (fad Δ 9 y1 0)), (5, .int x2), (6, .int x3), (8, .int x13)]) [0, 1, 2, 3, 4, 6] rfl ?_
                exact hj20 x23 s24
              · refine r_aload_n (q := 80) (i := 0) (z := 0) C dX10_go_79 rfl rfl rfl ?_
                refine r_aload (q := 82) (i := 4) (z := 2) C dX10_go_80 rfl rfl ?_
                refine r_iload (q := 84) (i := 7) (z := 5) C dX10_go_82 rfl rfl ?_
                refine r_callVI (q := 87) (As := [.ref (fad Δ 9 y1 0), .int x12]) wm_X10_55 yvX10_comeToEnd (c_X10_comeToEnd Δ hN i0 y1 x12 hi0 hy1 s17) ⟨rfl, by decide⟩ C hi0 (by decide) rfl (Nat.le_of_ble_eq_true rfl) dX10_go_84 rfl (fun x25 s26 => ?_)
                refine r_goto (q := 99) C dX10_go_87 (by decide) ?_
                refine r_locs (lc' := [(0, .ref (fad Δ 10 i0 0)), (1, .ref (fad Δ 2 i1 0)), (4, .ref (fad Δ 9 y1 0)), (5, .int x2), (6, .int x3), (8, .int x13)]) [0, 1, 2, 3, 4, 6] rfl ?_
                exact hj20 x25 s26
    exact L36 fF x5 x6 s4

noncomputable def f_X10_told (i0 : Nat) (a1 : Int32) (st : fSt) : Option (Int32 × fSt) :=
  if a1 = (0 : Int32) then
    (some (gI st 10 i0 6, st))
  else
  if a1 = (1 : Int32) then
    (some (gI st 10 i0 7, st))
  else
  if a1 = (2 : Int32) then
    (some (gI st 10 i0 5, st))
  else
  if a1 = (3 : Int32) then
    (some (gI st 10 i0 8, st))
  else
  some (gI st 10 i0 9, st)

set_option maxHeartbeats 4000000 in
set_option maxRecDepth 100000 in
theorem c_X10_told (Δ : fDl) (hN : fNx Δ) (i0 : Nat) (a1 : Int32) (hi0 : i0 < fN Δ 10)  (st : fSt) : fMt eI Δ yX10_told cX10_told 2 (some .int) 1 [.ref (fad Δ 10 i0 0), .int a1] st (f_X10_told i0 a1 st) := by
  unfold f_X10_told
  refine r_method (by decide +kernel) (Nat.le_of_ble_eq_true rfl) (fun Γ C => ?_)
  have C : fC Δ Γ cX10_told RX10 2 (some .int) 1 := C
  refine r_locs (lc' := [(0, .ref (fad Δ 10 i0 0)), (1, .int a1)]) [0, 1] rfl ?_
  refine r_iload_n (q := 1) (i := 1) (z := 1) C dX10_told_0 rfl rfl rfl ?_
  refine r_bif (fun hs1 => ?_) (fun hs1 => ?_)
  · refine r_tsHit (tgt := 32) (n := 0) C dX10_told_1 hs1 (by decide) (by decide) (by decide) rfl (by decide) ?_
    refine r_aload_n (q := 33) (i := 0) (z := 0) C dX10_told_32 rfl rfl rfl ?_
    refine g_X10_49 (q := 36) C hi0 dX10_told_33 rfl ?_
    exact r_iret C dX10_told_36
  refine r_bif (fun hs2 => ?_) (fun hs2 => ?_)
  · refine r_tsHit (tgt := 37) (n := 1) C dX10_told_1 hs2 (by decide) (by decide) (by decide) rfl (by decide) ?_
    refine r_aload_n (q := 38) (i := 0) (z := 0) C dX10_told_37 rfl rfl rfl ?_
    refine g_X10_80 (q := 41) C hi0 dX10_told_38 rfl ?_
    exact r_iret C dX10_told_41
  refine r_bif (fun hs3 => ?_) (fun hs3 => ?_)
  · refine r_tsHit (tgt := 42) (n := 2) C dX10_told_1 hs3 (by decide) (by decide) (by decide) rfl (by decide) ?_
    refine r_aload_n (q := 43) (i := 0) (z := 0) C dX10_told_42 rfl rfl rfl ?_
    refine g_X10_77 (q := 46) C hi0 dX10_told_43 rfl ?_
    exact r_iret C dX10_told_46
  refine r_bif (fun hs4 => ?_) (fun hs4 => ?_)
  · refine r_tsHit (tgt := 47) (n := 3) C dX10_told_1 hs4 (by decide) (by decide) (by decide) rfl (by decide) ?_
    refine r_aload_n (q := 48) (i := 0) (z := 0) C dX10_told_47 rfl rfl rfl ?_
    refine g_X10_83 (q := 51) C hi0 dX10_told_48 rfl ?_
    exact r_iret C dX10_told_51
  refine r_tsDef (tgt := 52) C dX10_told_1 (by have ehs1 := fNe hs1 0 (by decide); have ehs2 := fNe hs2 1 (by decide); have ehs3 := fNe hs3 2 (by decide); have ehs4 := fNe hs4 3 (by decide); omega) (by decide) ?_
  refine r_aload_n (q := 53) (i := 0) (z := 0) C dX10_told_52 rfl rfl rfl ?_
  refine g_X10_86 (q := 56) C hi0 dX10_told_53 rfl ?_
  exact r_iret C dX10_told_56

noncomputable def f_X11_status  (st : fSt) : Option (Int32 × fSt) :=
  some (gI st 11 0 2, st)

set_option maxHeartbeats 4000000 in
set_option maxRecDepth 100000 in
theorem c_X11_status (Δ : fDl) (hN : fNx Δ)   (st : fSt) : fMt eI Δ yX11_status cX11_status 1 (some .int) 1 [.ref (fad Δ 11 0 0)] st (f_X11_status  st) := by
  unfold f_X11_status
  refine r_method (by decide +kernel) (Nat.le_of_ble_eq_true rfl) (fun Γ C => ?_)
  have C : fC Δ Γ cX11_status RX11 1 (some .int) 1 := C
  refine r_locs (lc' := [(0, .ref (fad Δ 11 0 0))]) [0] rfl ?_
  refine r_aload_n (q := 1) (i := 0) (z := 0) C dX11_status_0 rfl rfl rfl ?_
  refine g_X11_96 (q := 4) C (nk_11_0 hN) dX11_status_1 rfl ?_
  exact r_iret C dX11_status_4

noncomputable def f_X11_top  (st : fSt) : Option (Int64 × fSt) :=
  some (gL st 11 0 3, st)

set_option maxHeartbeats 4000000 in
set_option maxRecDepth 100000 in
theorem c_X11_top (Δ : fDl) (hN : fNx Δ)   (st : fSt) : fMt eL Δ yX11_top cX11_top 1 (some .long) 1 [.ref (fad Δ 11 0 0)] st (f_X11_top  st) := by
  unfold f_X11_top
  refine r_method (by decide +kernel) (Nat.le_of_ble_eq_true rfl) (fun Γ C => ?_)
  have C : fC Δ Γ cX11_top RX11 1 (some .long) 1 := C
  refine r_locs (lc' := [(0, .ref (fad Δ 11 0 0))]) [0] rfl ?_
  refine r_aload_n (q := 1) (i := 0) (z := 0) C dX11_top_0 rfl rfl rfl ?_
  refine g_X11_99 (q := 4) C (nk_11_0 hN) dX11_top_1 rfl ?_
  exact r_lret C dX11_top_4

noncomputable def f_X11_bottom  (st : fSt) : Option (Int64 × fSt) :=
  some (gL st 11 0 4, st)

set_option maxHeartbeats 4000000 in
set_option maxRecDepth 100000 in
theorem c_X11_bottom (Δ : fDl) (hN : fNx Δ)   (st : fSt) : fMt eL Δ yX11_bottom cX11_bottom 1 (some .long) 1 [.ref (fad Δ 11 0 0)] st (f_X11_bottom  st) := by
  unfold f_X11_bottom
  refine r_method (by decide +kernel) (Nat.le_of_ble_eq_true rfl) (fun Γ C => ?_)
  have C : fC Δ Γ cX11_bottom RX11 1 (some .long) 1 := C
  refine r_locs (lc' := [(0, .ref (fad Δ 11 0 0))]) [0] rfl ?_
  refine r_aload_n (q := 1) (i := 0) (z := 0) C dX11_bottom_0 rfl rfl rfl ?_
  refine g_X11_22 (q := 4) C (nk_11_0 hN) dX11_bottom_1 rfl ?_
  exact r_lret C dX11_bottom_4

noncomputable def f_X11_fail (a1 : Int32) (st : fSt) : Option (Int32 × fSt) :=
  fLt (sI st 11 0 2 a1) fun s1 =>
  some ((-1 : Int32), s1)

set_option maxHeartbeats 4000000 in
set_option maxRecDepth 100000 in
theorem c_X11_fail (Δ : fDl) (hN : fNx Δ) (a1 : Int32)  (st : fSt) : fMt eI Δ yX11_fail cX11_fail 2 (some .int) 1 [.ref (fad Δ 11 0 0), .int a1] st (f_X11_fail a1 st) := by
  unfold f_X11_fail
  refine r_method (by decide +kernel) (Nat.le_of_ble_eq_true rfl) (fun Γ C => ?_)
  have C : fC Δ Γ cX11_fail RX11 2 (some .int) 1 := C
  refine r_locs (lc' := [(0, .ref (fad Δ 11 0 0)), (1, .int a1)]) [0, 1] rfl ?_
  refine r_aload_n (q := 1) (i := 0) (z := 0) C dX11_fail_0 rfl rfl rfl ?_
  refine r_iload_n (q := 2) (i := 1) (z := 1) C dX11_fail_1 rfl rfl rfl ?_
  refine p_X11_96 (q := 5) C (nk_11_0 hN) dX11_fail_2 rfl (fun s1 => ?_)
  refine r_iconst (q := 6) (v := (-1)) C dX11_fail_5 rfl (by decide) ?_
  exact r_iret C dX11_fail_6

noncomputable def f_X11_refuse (a1 : Int32) (st : fSt) : Option (Int32 × fSt) :=
  fLt (sI st 11 0 2 a1) fun s1 =>
  some ((0 : Int32), s1)

set_option maxHeartbeats 4000000 in
set_option maxRecDepth 100000 in
theorem c_X11_refuse (Δ : fDl) (hN : fNx Δ) (a1 : Int32)  (st : fSt) : fMt eI Δ yX11_refuse cX11_refuse 2 (some .boolean) 1 [.ref (fad Δ 11 0 0), .int a1] st (f_X11_refuse a1 st) := by
  unfold f_X11_refuse
  refine r_method (by decide +kernel) (Nat.le_of_ble_eq_true rfl) (fun Γ C => ?_)
  have C : fC Δ Γ cX11_refuse RX11 2 (some .boolean) 1 := C
  refine r_locs (lc' := [(0, .ref (fad Δ 11 0 0)), (1, .int a1)]) [0, 1] rfl ?_
  refine r_aload_n (q := 1) (i := 0) (z := 0) C dX11_refuse_0 rfl rfl rfl ?_
  refine r_iload_n (q := 2) (i := 1) (z := 1) C dX11_refuse_1 rfl rfl rfl ?_
  refine p_X11_96 (q := 5) C (nk_11_0 hN) dX11_refuse_2 rfl (fun s1 => ?_)
  refine r_iconst (q := 6) (v := 0) C dX11_refuse_5 rfl (by decide) ?_
  exact r_zret0 (Or.inl rfl) C dX11_refuse_6

noncomputable def f_X11_answer (a1 : Int32) (st : fSt) : Option (Int32 × fSt) :=
  fLt (sI st 11 0 2 ((0 : Int32))) fun s1 =>
  some (a1, s1)

set_option maxHeartbeats 4000000 in
set_option maxRecDepth 100000 in
theorem c_X11_answer (Δ : fDl) (hN : fNx Δ) (a1 : Int32)  (st : fSt) : fMt eI Δ yX11_answer cX11_answer 2 (some .int) 1 [.ref (fad Δ 11 0 0), .int a1] st (f_X11_answer a1 st) := by
  unfold f_X11_answer
  refine r_method (by decide +kernel) (Nat.le_of_ble_eq_true rfl) (fun Γ C => ?_)
  have C : fC Δ Γ cX11_answer RX11 2 (some .int) 1 := C
  refine r_locs (lc' := [(0, .ref (fad Δ 11 0 0)), (1, .int a1)]) [0, 1] rfl ?_
  refine r_aload_n (q := 1) (i := 0) (z := 0) C dX11_answer_0 rfl rfl rfl ?_
  refine r_iconst (q := 2) (v := 0) C dX11_answer_1 rfl (by decide) ?_
  refine p_X11_96 (q := 5) C (nk_11_0 hN) dX11_answer_2 rfl (fun s1 => ?_)
  refine r_iload_n (q := 6) (i := 1) (z := 1) C dX11_answer_5 rfl rfl rfl ?_
  exact r_iret C dX11_answer_6

noncomputable def f_X11_agree  (st : fSt) : Option (Int32 × fSt) :=
  fLt (sI st 11 0 2 ((0 : Int32))) fun s1 =>
  some ((1 : Int32), s1)

set_option maxHeartbeats 4000000 in
set_option maxRecDepth 100000 in
theorem c_X11_agree (Δ : fDl) (hN : fNx Δ)   (st : fSt) : fMt eI Δ yX11_agree cX11_agree 1 (some .boolean) 1 [.ref (fad Δ 11 0 0)] st (f_X11_agree  st) := by
  unfold f_X11_agree
  refine r_method (by decide +kernel) (Nat.le_of_ble_eq_true rfl) (fun Γ C => ?_)
  have C : fC Δ Γ cX11_agree RX11 1 (some .boolean) 1 := C
  refine r_locs (lc' := [(0, .ref (fad Δ 11 0 0))]) [0] rfl ?_
  refine r_aload_n (q := 1) (i := 0) (z := 0) C dX11_agree_0 rfl rfl rfl ?_
  refine r_iconst (q := 2) (v := 0) C dX11_agree_1 rfl (by decide) ?_
  refine p_X11_96 (q := 5) C (nk_11_0 hN) dX11_agree_2 rfl (fun s1 => ?_)
  refine r_iconst (q := 6) (v := 1) C dX11_agree_5 rfl (by decide) ?_
  exact r_zret0 (Or.inr rfl) C dX11_agree_6

noncomputable def f_X11_commonDivisor_L9 (k6 : Int64 → fSt → Option (Int64 × fSt)) : Nat → Int64 → Int64 → Int32 → fSt → Option (Int64 × fSt)
  | 0, _, _, _, _ => none
  | n11 + 1, x7, x8, x9, s10 =>
      if ((200 : Int32)) ≤ x9 then
        (k6 x7 s10)
      else
        (if (lg_cmp x8 ((0 : Int64))) = 0 then
          (k6 x7 s10)
        else
          (fNz x8 <|
          fLt (x7 - x7 / x8 * x8) fun (x12 : Int64) =>
          fLt x8 fun (x13 : Int64) =>
          fLt x12 fun (x14 : Int64) =>
          fLt (x9 + (1 : Int32)) fun (x15 : Int32) =>
          f_X11_commonDivisor_L9 k6 n11 x13 x14 x15 s10))

noncomputable def f_X11_commonDivisor (a0 : Int64) (a2 : Int64) (st : fSt) : Option (Int64 × fSt) :=
  fLt a0 fun (x1 : Int64) =>
  fLt a2 fun (x2 : Int64) =>
  fLt ((0 : Int32)) fun (x3 : Int32) =>
  fJn (fun (x4 : Int64) (s5 : fSt) =>
    (some (x4, s5))) fun (k6 : Int64 → fSt → Option (Int64 × fSt)) =>
  f_X11_commonDivisor_L9 k6 fF x1 x2 x3 st

set_option maxHeartbeats 4000000 in
set_option maxRecDepth 100000 in
theorem c_X11_commonDivisor (Δ : fDl) (hN : fNx Δ) (a0 : Int64) (a2 : Int64)  (st : fSt) : fMt eL Δ yX11_commonDivisor cX11_commonDivisor 11 (some .long) 1 [.long a0, .long a2] st (f_X11_commonDivisor a0 a2 st) := by
  unfold f_X11_commonDivisor
  refine r_method (by decide +kernel) (Nat.le_of_ble_eq_true rfl) (fun Γ C => ?_)
  have C : fC Δ Γ cX11_commonDivisor RX11 11 (some .long) 1 := C
  refine r_locs (lc' := [(0, .long a0), (2, .long a2)]) [0, 1] rfl ?_
  refine r_lload_n (q := 1) (i := 0) (z := 0) C dX11_commonDivisor_0 rfl rfl rfl ?_
  refine r_lstore (q := 3) (i := 4) [(0, .long a0), (2, .long a2)] C dX11_commonDivisor_1 rfl (by decide) rfl (fun x1 => ?_)
  refine r_lload_n (q := 4) (i := 2) (z := 2) C dX11_commonDivisor_3 rfl rfl rfl ?_
  refine r_lstore (q := 6) (i := 6) [(4, .long x1), (0, .long a0), (2, .long a2)] C dX11_commonDivisor_4 rfl (by decide) rfl (fun x2 => ?_)
  refine r_iconst (q := 7) (v := 0) C dX11_commonDivisor_6 rfl (by decide) ?_
  refine r_istore (q := 9) (i := 8) [(6, .long x2), (4, .long x1), (0, .long a0), (2, .long a2)] C dX11_commonDivisor_7 rfl (by decide) rfl (fun x3 => ?_)
  refine r_join (fun k6 => ∀ (x4 : Int64) (s5 : fSt), fW Δ Γ 11 (fQ eL Δ Γ) 45 [(4, .long x4)] [] s5 (k6 x4 s5)) ?_ (fun k6 hk6 => ?_)
  · intro x4 s5
    refine r_lload (q := 47) (i := 4) (z := 0) C dX11_commonDivisor_45 rfl rfl ?_
    exact r_lret C dX11_commonDivisor_47
  refine r_locs (lc' := [(4, .long x1), (6, .long x2), (8, .int x3)]) [2, 1, 0] rfl ?_
  have L9 : ∀ (n11 : Nat) (x7 : Int64) (x8 : Int64) (x9 : Int32) (s10 : fSt), fW Δ Γ 11 (fQ eL Δ Γ) 9 [(4, .long x7), (6, .long x8), (8, .int x9)] [] s10 (f_X11_commonDivisor_L9 k6 n11 x7 x8 x9 s10) := by
    intro n11
    induction n11 with
    | zero =>
      intro x7 x8 x9 s10
      rw [f_X11_commonDivisor_L9]
      exact r_none
    | succ n11 ih_n11 =>
      intro x7 x8 x9 s10
      rw [f_X11_commonDivisor_L9]
      refine r_iload (q := 11) (i := 8) (z := 2) C dX11_commonDivisor_9 rfl rfl ?_
      refine r_sipush (q := 14) (v := 200) C dX11_commonDivisor_11 rfl (by decide) ?_
      refine r_icmp_ge (q := 17) (tgt := 45) C dX11_commonDivisor_14 (by decide) rfl ?_ ?_
      · refine r_locs (lc' := [(4, .long x7)]) [0] rfl ?_
        exact hk6 x7 s10
      · refine r_lload (q := 19) (i := 6) (z := 1) C dX11_commonDivisor_17 rfl rfl ?_
        refine r_lconst (q := 20) (v := 0) C dX11_commonDivisor_19 rfl (by decide) ?_
        refine r_lcmp (q := 21) C dX11_commonDivisor_20 rfl ?_
        refine r_if_eq (q := 24) (tgt := 45) C dX11_commonDivisor_21 (by decide) rfl ?_ ?_
        · refine r_locs (lc' := [(4, .long x7)]) [0] rfl ?_
          exact hk6 x7 s10
        · refine r_lload (q := 26) (i := 4) (z := 0) C dX11_commonDivisor_24 rfl rfl ?_
          refine r_lload (q := 28) (i := 6) (z := 1) C dX11_commonDivisor_26 rfl rfl ?_
          refine r_lrem (q := 29) C dX11_commonDivisor_28 rfl ?_
          refine r_lstore (q := 31) (i := 9) [(4, .long x7), (6, .long x8), (8, .int x9)] C dX11_commonDivisor_29 rfl (by decide) rfl (fun x12 => ?_)
          refine r_lload (q := 33) (i := 6) (z := 2) C dX11_commonDivisor_31 rfl rfl ?_
          refine r_lstore (q := 35) (i := 4) [(9, .long x12), (6, .long x8), (8, .int x9)] C dX11_commonDivisor_33 rfl (by decide) rfl (fun x13 => ?_)
          refine r_lload (q := 37) (i := 9) (z := 1) C dX11_commonDivisor_35 rfl rfl ?_
          refine r_lstore (q := 39) (i := 6) [(4, .long x13), (9, .long x12), (8, .int x9)] C dX11_commonDivisor_37 rfl (by decide) rfl (fun x14 => ?_)
          refine r_iinc (q := 42) (z := 3) (d := 1) [(6, .long x14), (4, .long x13), (9, .long x12)] C dX11_commonDivisor_39 rfl rfl (by decide) (by decide) rfl (fun x15 => ?_)
          refine r_goto (q := 9) C dX11_commonDivisor_42 (by decide) ?_
          refine r_locs (lc' := [(4, .long x13), (6, .long x14), (8, .int x15)]) [2, 1, 0] rfl ?_
          exact ih_n11 x13 x14 x15 s10
  exact L9 fF x1 x2 x3 st

noncomputable def f_X11_tellFraction (a1 : Int64) (a3 : Int64) (st : fSt) : Option (Int32 × fSt) :=
  fBd (f_X11_commonDivisor a1 a3 st) fun x1 s2 =>
  fLt x1 fun (x3 : Int64) =>
  if 0 < (lg_cmp x3 ((0 : Int64))) then
    (fNz x3 <|
    fLt (sL s2 11 0 3 (a1 / x3)) fun s4 =>
    fNz x3 <|
    fLt (sL s4 11 0 4 (a3 / x3)) fun s5 =>
    fBd (f_X11_agree  s5) fun x6 s7 =>
    fBo x6 (some (x6, s7)))
  else
    (fBd (f_X11_refuse ((8 : Int32)) s2) fun x8 s9 =>
    fBo x8 (some (x8, s9)))

set_option maxHeartbeats 4000000 in
set_option maxRecDepth 100000 in
theorem c_X11_tellFraction (Δ : fDl) (hN : fNx Δ) (a1 : Int64) (a3 : Int64)  (st : fSt) : fMt eI Δ yX11_tellFraction cX11_tellFraction 7 (some .boolean) 2 [.ref (fad Δ 11 0 0), .long a1, .long a3] st (f_X11_tellFraction a1 a3 st) := by
  unfold f_X11_tellFraction
  refine r_method (by decide +kernel) (Nat.le_of_ble_eq_true rfl) (fun Γ C => ?_)
  have C : fC Δ Γ cX11_tellFraction RX11 7 (some .boolean) 2 := C
  refine r_locs (lc' := [(0, .ref (fad Δ 11 0 0)), (1, .long a1), (3, .long a3)]) [0, 1, 2] rfl ?_
  refine r_lload_n (q := 1) (i := 1) (z := 1) C dX11_tellFraction_0 rfl rfl rfl ?_
  refine r_lload_n (q := 2) (i := 3) (z := 2) C dX11_tellFraction_1 rfl rfl rfl ?_
  refine r_callSL (q := 5) (As := [.long a1, .long a3]) wm_X11_102 ysX11_commonDivisor (c_X11_commonDivisor Δ hN a1 a3 st) C (by decide) rfl (Nat.le_of_ble_eq_true rfl) dX11_tellFraction_2 rfl (fun x1 s2 => ?_)
  refine r_lstore (q := 7) (i := 5) [(0, .ref (fad Δ 11 0 0)), (1, .long a1), (3, .long a3)] C dX11_tellFraction_5 rfl (by decide) rfl (fun x3 => ?_)
  refine r_lload (q := 9) (i := 5) (z := 0) C dX11_tellFraction_7 rfl rfl ?_
  refine r_lconst (q := 10) (v := 0) C dX11_tellFraction_9 rfl (by decide) ?_
  refine r_lcmp (q := 11) C dX11_tellFraction_10 rfl ?_
  refine r_if_gt (q := 14) (tgt := 21) C dX11_tellFraction_11 (by decide) rfl ?_ ?_
  · refine r_aload_n (q := 22) (i := 0) (z := 1) C dX11_tellFraction_21 rfl rfl rfl ?_
    refine r_lload_n (q := 23) (i := 1) (z := 2) C dX11_tellFraction_22 rfl rfl rfl ?_
    refine r_lload (q := 25) (i := 5) (z := 0) C dX11_tellFraction_23 rfl rfl ?_
    refine r_ldiv (q := 26) C dX11_tellFraction_25 rfl ?_
    refine p_X11_99 (q := 29) C (nk_11_0 hN) dX11_tellFraction_26 rfl (fun s4 => ?_)
    refine r_aload_n (q := 30) (i := 0) (z := 1) C dX11_tellFraction_29 rfl rfl rfl ?_
    refine r_lload_n (q := 31) (i := 3) (z := 3) C dX11_tellFraction_30 rfl rfl rfl ?_
    refine r_lload (q := 33) (i := 5) (z := 0) C dX11_tellFraction_31 rfl rfl ?_
    refine r_ldiv (q := 34) C dX11_tellFraction_33 rfl ?_
    refine p_X11_22 (q := 37) C (nk_11_0 hN) dX11_tellFraction_34 rfl (fun s5 => ?_)
    refine r_aload_n (q := 38) (i := 0) (z := 1) C dX11_tellFraction_37 rfl rfl rfl ?_
    refine r_callVI (q := 41) (As := []) wm_X11_110 yvX11_agree (c_X11_agree Δ hN s5) ⟨rfl, by decide⟩ C (nk_11_0 hN) (by decide) rfl (Nat.le_of_ble_eq_true rfl) dX11_tellFraction_38 rfl (fun x6 s7 => ?_)
    exact r_zret C dX11_tellFraction_41
  · refine r_aload_n (q := 15) (i := 0) (z := 1) C dX11_tellFraction_14 rfl rfl rfl ?_
    refine r_bipush (q := 17) (v := 8) C dX11_tellFraction_15 rfl (by decide) ?_
    refine r_callVI (q := 20) (As := [.int ((8 : Int32))]) wm_X11_106 yvX11_refuse (c_X11_refuse Δ hN ((8 : Int32)) s2) ⟨rfl, by decide⟩ C (nk_11_0 hN) (by decide) rfl (Nat.le_of_ble_eq_true rfl) dX11_tellFraction_17 rfl (fun x8 s9 => ?_)
    exact r_zret C dX11_tellFraction_20

noncomputable def f_X11_hasScene (a1 : Int32) (st : fSt) : Option (Int32 × fSt) :=
  fNn (gP st 2 0 0) fun y1 =>
  fBd (f_X11_isBelow a1 (gI st 7 y1 2) st) fun x2 s3 =>
  fBo x2 (some (x2, s3))

set_option maxHeartbeats 4000000 in
set_option maxRecDepth 100000 in
theorem c_X11_hasScene (Δ : fDl) (hN : fNx Δ) (a1 : Int32)  (st : fSt) : fMt eI Δ yX11_hasScene cX11_hasScene 2 (some .boolean) 2 [.ref (fad Δ 11 0 0), .int a1] st (f_X11_hasScene a1 st) := by
  unfold f_X11_hasScene
  refine r_method (by decide +kernel) (Nat.le_of_ble_eq_true rfl) (fun Γ C => ?_)
  have C : fC Δ Γ cX11_hasScene RX11 2 (some .boolean) 2 := C
  refine r_locs (lc' := [(0, .ref (fad Δ 11 0 0)), (1, .int a1)]) [0, 1] rfl ?_
  refine r_iload_n (q := 1) (i := 1) (z := 1) C dX11_hasScene_0 rfl rfl rfl ?_
  refine r_aload_n (q := 2) (i := 0) (z := 0) C dX11_hasScene_1 rfl rfl rfl ?_
  refine g_X11_41 (q := 5) C (nk_11_0 hN) dX11_hasScene_2 rfl ?_
  refine g_X11_92 (q := 8) C (nk_2_0 hN) dX11_hasScene_5 rfl ?_
  refine r_deref C (fun h => (h _ (nk_2_0 hN)).1) (fun y1 hy1 => ?_)
  refine g_X11_114 (q := 11) C hy1 dX11_hasScene_8 rfl ?_
  refine r_callSI (q := 14) (As := [.int a1, .int (gI st 7 y1 2)]) wm_X11_117 ysX11_isBelow (c_X11_isBelow Δ hN a1 (gI st 7 y1 2) st) C (by decide) rfl (Nat.le_of_ble_eq_true rfl) dX11_hasScene_11 rfl (fun x2 s3 => ?_)
  exact r_zret C dX11_hasScene_14

noncomputable def f_X11_hasKind (a1 : Int32) (st : fSt) : Option (Int32 × fSt) :=
  fNn (gP st 2 0 0) fun y1 =>
  fBd (f_X11_isBelow a1 (gI st 7 y1 3) st) fun x2 s3 =>
  fBo x2 (some (x2, s3))

set_option maxHeartbeats 4000000 in
set_option maxRecDepth 100000 in
theorem c_X11_hasKind (Δ : fDl) (hN : fNx Δ) (a1 : Int32)  (st : fSt) : fMt eI Δ yX11_hasKind cX11_hasKind 2 (some .boolean) 2 [.ref (fad Δ 11 0 0), .int a1] st (f_X11_hasKind a1 st) := by
  unfold f_X11_hasKind
  refine r_method (by decide +kernel) (Nat.le_of_ble_eq_true rfl) (fun Γ C => ?_)
  have C : fC Δ Γ cX11_hasKind RX11 2 (some .boolean) 2 := C
  refine r_locs (lc' := [(0, .ref (fad Δ 11 0 0)), (1, .int a1)]) [0, 1] rfl ?_
  refine r_iload_n (q := 1) (i := 1) (z := 1) C dX11_hasKind_0 rfl rfl rfl ?_
  refine r_aload_n (q := 2) (i := 0) (z := 0) C dX11_hasKind_1 rfl rfl rfl ?_
  refine g_X11_41 (q := 5) C (nk_11_0 hN) dX11_hasKind_2 rfl ?_
  refine g_X11_92 (q := 8) C (nk_2_0 hN) dX11_hasKind_5 rfl ?_
  refine r_deref C (fun h => (h _ (nk_2_0 hN)).1) (fun y1 hy1 => ?_)
  refine g_X11_121 (q := 11) C hy1 dX11_hasKind_8 rfl ?_
  refine r_callSI (q := 14) (As := [.int a1, .int (gI st 7 y1 3)]) wm_X11_117 ysX11_isBelow (c_X11_isBelow Δ hN a1 (gI st 7 y1 3) st) C (by decide) rfl (Nat.le_of_ble_eq_true rfl) dX11_hasKind_11 rfl (fun x2 s3 => ?_)
  exact r_zret C dX11_hasKind_14

noncomputable def f_X11_hasRole (a1 : Int32) (st : fSt) : Option (Int32 × fSt) :=
  fNn (gP st 2 0 0) fun y1 =>
  fBd (f_X11_isBelow a1 (gI st 7 y1 0) st) fun x2 s3 =>
  fBo x2 (some (x2, s3))

set_option maxHeartbeats 4000000 in
set_option maxRecDepth 100000 in
theorem c_X11_hasRole (Δ : fDl) (hN : fNx Δ) (a1 : Int32)  (st : fSt) : fMt eI Δ yX11_hasRole cX11_hasRole 2 (some .boolean) 2 [.ref (fad Δ 11 0 0), .int a1] st (f_X11_hasRole a1 st) := by
  unfold f_X11_hasRole
  refine r_method (by decide +kernel) (Nat.le_of_ble_eq_true rfl) (fun Γ C => ?_)
  have C : fC Δ Γ cX11_hasRole RX11 2 (some .boolean) 2 := C
  refine r_locs (lc' := [(0, .ref (fad Δ 11 0 0)), (1, .int a1)]) [0, 1] rfl ?_
  refine r_iload_n (q := 1) (i := 1) (z := 1) C dX11_hasRole_0 rfl rfl rfl ?_
  refine r_aload_n (q := 2) (i := 0) (z := 0) C dX11_hasRole_1 rfl rfl rfl ?_
  refine g_X11_41 (q := 5) C (nk_11_0 hN) dX11_hasRole_2 rfl ?_
  refine g_X11_92 (q := 8) C (nk_2_0 hN) dX11_hasRole_5 rfl ?_
  refine r_deref C (fun h => (h _ (nk_2_0 hN)).1) (fun y1 hy1 => ?_)
  refine g_X11_124 (q := 11) C hy1 dX11_hasRole_8 rfl ?_
  refine r_callSI (q := 14) (As := [.int a1, .int (gI st 7 y1 0)]) wm_X11_117 ysX11_isBelow (c_X11_isBelow Δ hN a1 (gI st 7 y1 0) st) C (by decide) rfl (Nat.le_of_ble_eq_true rfl) dX11_hasRole_11 rfl (fun x2 s3 => ?_)
  exact r_zret C dX11_hasRole_14

noncomputable def f_X11_tray (a1 : Int32) (a2 : Int32) (a3 : Int32) (st : fSt) : Option (Int32 × fSt) :=
  fBd (f_X11_isBelow a1 ((4 : Int32)) st) fun x1 s2 =>
  fJn (fun (s3 : fSt) =>
    (fBd (f_X11_refuse ((1 : Int32)) s3) fun x5 s6 =>
    fBo x5 (some (x5, s6)))) fun (j4 : fSt → Option (Int32 × fSt)) =>
  if x1 = 0 then
    (j4 s2)
  else
    (fBd (f_X11_isIn a2 ((0 : Int32)) ((3 : Int32)) s2) fun x7 s8 =>
    if ¬ x7 = 0 then
      (if a3 ≤ ((60 : Int32)) then
        (if 0 ≤ a3 then
          (fIx a1 4 <|
          fBd (f_X8_layOut a1.toNatClampNeg a2 a3 s8) fun _ s10 =>
          fBd (f_X11_agree  s10) fun x11 s12 =>
          fBo x11 (some (x11, s12)))
        else
          (fBd (f_X11_refuse ((6 : Int32)) s8) fun x13 s14 =>
          fBo x13 (some (x13, s14))))
      else
        (fBd (f_X11_refuse ((5 : Int32)) s8) fun x15 s16 =>
        fBo x15 (some (x15, s16))))
    else
      (j4 s8))

set_option maxHeartbeats 4000000 in
set_option maxRecDepth 100000 in
theorem c_X11_tray (Δ : fDl) (hN : fNx Δ) (a1 : Int32) (a2 : Int32) (a3 : Int32)  (st : fSt) : fMt eI Δ yX11_tray cX11_tray 4 (some .boolean) 3 [.ref (fad Δ 11 0 0), .int a1, .int a2, .int a3] st (f_X11_tray a1 a2 a3 st) := by
  unfold f_X11_tray
  refine r_method (by decide +kernel) (Nat.le_of_ble_eq_true rfl) (fun Γ C => ?_)
  have C : fC Δ Γ cX11_tray RX11 4 (some .boolean) 3 := C
  refine r_locs (lc' := [(0, .ref (fad Δ 11 0 0)), (1, .int a1), (2, .int a2), (3, .int a3)]) [0, 1, 2, 3] rfl ?_
  refine r_iload_n (q := 1) (i := 1) (z := 1) C dX11_tray_0 rfl rfl rfl ?_
  refine r_iconst (q := 2) (v := 4) C dX11_tray_1 rfl (by decide) ?_
  refine r_callSI (q := 5) (As := [.int a1, .int ((4 : Int32))]) wm_X11_117 ysX11_isBelow (c_X11_isBelow Δ hN a1 ((4 : Int32)) st) C (by decide) rfl (Nat.le_of_ble_eq_true rfl) dX11_tray_2 rfl (fun x1 s2 => ?_)
  refine r_join (fun j4 => ∀  (s3 : fSt), fW Δ Γ 4 (fQ eI Δ Γ) 17 [(0, .ref (fad Δ 11 0 0))] [] s3 (j4 s3)) ?_ (fun j4 hj4 => ?_)
  · intro s3
    refine r_aload_n (q := 18) (i := 0) (z := 0) C dX11_tray_17 rfl rfl rfl ?_
    refine r_iconst (q := 19) (v := 1) C dX11_tray_18 rfl (by decide) ?_
    refine r_callVI (q := 22) (As := [.int ((1 : Int32))]) wm_X11_106 yvX11_refuse (c_X11_refuse Δ hN ((1 : Int32)) s3) ⟨rfl, by decide⟩ C (nk_11_0 hN) (by decide) rfl (Nat.le_of_ble_eq_true rfl) dX11_tray_19 rfl (fun x5 s6 => ?_)
    exact r_zret C dX11_tray_22
  refine r_if_eq (q := 8) (tgt := 17) C dX11_tray_5 (by decide) rfl ?_ ?_
  · refine r_locs (lc' := [(0, .ref (fad Δ 11 0 0))]) [0] rfl ?_
    exact hj4 s2
  · refine r_iload_n (q := 9) (i := 2) (z := 2) C dX11_tray_8 rfl rfl rfl ?_
    refine r_iconst (q := 10) (v := 0) C dX11_tray_9 rfl (by decide) ?_
    refine r_iconst (q := 11) (v := 3) C dX11_tray_10 rfl (by decide) ?_
    refine r_callSI (q := 14) (As := [.int a2, .int ((0 : Int32)), .int ((3 : Int32))]) wm_X11_127 ysX11_isIn (c_X11_isIn Δ hN a2 ((0 : Int32)) ((3 : Int32)) s2) C (by decide) rfl (Nat.le_of_ble_eq_true rfl) dX11_tray_11 rfl (fun x7 s8 => ?_)
    refine r_if_ne (q := 17) (tgt := 23) C dX11_tray_14 (by decide) rfl ?_ ?_
    · refine r_iload_n (q := 24) (i := 3) (z := 3) C dX11_tray_23 rfl rfl rfl ?_
      refine r_bipush (q := 26) (v := 60) C dX11_tray_24 rfl (by decide) ?_
      refine r_icmp_le (q := 29) (tgt := 35) C dX11_tray_26 (by decide) rfl ?_ ?_
      · refine r_iload_n (q := 36) (i := 3) (z := 3) C dX11_tray_35 rfl rfl rfl ?_
        refine r_if_ge (q := 39) (tgt := 46) C dX11_tray_36 (by decide) rfl ?_ ?_
        · refine r_aload_n (q := 47) (i := 0) (z := 0) C dX11_tray_46 rfl rfl rfl ?_
          refine g_X11_11 (q := 50) C (nk_11_0 hN) dX11_tray_47 rfl ?_
          refine r_iload_n (q := 51) (i := 1) (z := 1) C dX11_tray_50 rfl rfl rfl ?_
          refine r_qal8 (q := 52) q_11_1 h_11_1 C (nk_11_0 hN) (nx_48 hN) dX11_tray_51 rfl (fun hq9 => ?_)
          refine r_iload_n (q := 53) (i := 2) (z := 2) C dX11_tray_52 rfl rfl rfl ?_
          refine r_iload_n (q := 54) (i := 3) (z := 3) C dX11_tray_53 rfl rfl rfl ?_
          refine r_callVV (q := 57) (As := [.int a2, .int a3]) wm_X11_131 yvX8_layOut (c_X8_layOut Δ hN a1.toNatClampNeg a2 a3 hq9 s8) ⟨rfl, by decide⟩ C hq9 (by decide) rfl (Nat.le_of_ble_eq_true rfl) dX11_tray_54 rfl (fun _ s10 => ?_)
          refine r_aload_n (q := 58) (i := 0) (z := 0) C dX11_tray_57 rfl rfl rfl ?_
          refine r_callVI (q := 61) (As := []) wm_X11_110 yvX11_agree (c_X11_agree Δ hN s10) ⟨rfl, by decide⟩ C (nk_11_0 hN) (by decide) rfl (Nat.le_of_ble_eq_true rfl) dX11_tray_58 rfl (fun x11 s12 => ?_)
          exact r_zret C dX11_tray_61
        · refine r_aload_n (q := 40) (i := 0) (z := 0) C dX11_tray_39 rfl rfl rfl ?_
          refine r_bipush (q := 42) (v := 6) C dX11_tray_40 rfl (by decide) ?_
          refine r_callVI (q := 45) (As := [.int ((6 : Int32))]) wm_X11_106 yvX11_refuse (c_X11_refuse Δ hN ((6 : Int32)) s8) ⟨rfl, by decide⟩ C (nk_11_0 hN) (by decide) rfl (Nat.le_of_ble_eq_true rfl) dX11_tray_42 rfl (fun x13 s14 => ?_)
          exact r_zret C dX11_tray_45
      · refine r_aload_n (q := 30) (i := 0) (z := 0) C dX11_tray_29 rfl rfl rfl ?_
        refine r_iconst (q := 31) (v := 5) C dX11_tray_30 rfl (by decide) ?_
        refine r_callVI (q := 34) (As := [.int ((5 : Int32))]) wm_X11_106 yvX11_refuse (c_X11_refuse Δ hN ((5 : Int32)) s8) ⟨rfl, by decide⟩ C (nk_11_0 hN) (by decide) rfl (Nat.le_of_ble_eq_true rfl) dX11_tray_31 rfl (fun x15 s16 => ?_)
        exact r_zret C dX11_tray_34
    · refine r_locs (lc' := [(0, .ref (fad Δ 11 0 0))]) [0] rfl ?_
      exact hj4 s8

noncomputable def f_X11_whyNoPlace (a1 : Int32) (a2 : Int32) (st : fSt) : Option (Int32 × fSt) :=
  fBd (f_X11_isBelow a1 ((4 : Int32)) st) fun x1 s2 =>
  if ¬ x1 = 0 then
    (fIx a1 4 <|
    if ¬ (gI s2 8 a1.toNatClampNeg 1) = 0 then
      (fIx a1 4 <|
      fBd (f_X11_isBelow a2 (gI s2 8 a1.toNatClampNeg 3) s2) fun x5 s6 =>
      fJn (fun (x7 : Int32) (s8 : fSt) =>
        (some (x7, s8))) fun (j9 : Int32 → fSt → Option (Int32 × fSt)) =>
      if x5 = 0 then
        (j9 ((4 : Int32)) s6)
      else
        (j9 ((0 : Int32)) s6))
    else
      (some ((3 : Int32), s2)))
  else
    (some ((1 : Int32), s2))

set_option maxHeartbeats 4000000 in
set_option maxRecDepth 100000 in
theorem c_X11_whyNoPlace (Δ : fDl) (hN : fNx Δ) (a1 : Int32) (a2 : Int32)  (st : fSt) : fMt eI Δ yX11_whyNoPlace cX11_whyNoPlace 3 (some .int) 2 [.ref (fad Δ 11 0 0), .int a1, .int a2] st (f_X11_whyNoPlace a1 a2 st) := by
  unfold f_X11_whyNoPlace
  refine r_method (by decide +kernel) (Nat.le_of_ble_eq_true rfl) (fun Γ C => ?_)
  have C : fC Δ Γ cX11_whyNoPlace RX11 3 (some .int) 2 := C
  refine r_locs (lc' := [(0, .ref (fad Δ 11 0 0)), (1, .int a1), (2, .int a2)]) [0, 1, 2] rfl ?_
  refine r_iload_n (q := 1) (i := 1) (z := 1) C dX11_whyNoPlace_0 rfl rfl rfl ?_
  refine r_iconst (q := 2) (v := 4) C dX11_whyNoPlace_1 rfl (by decide) ?_
  refine r_callSI (q := 5) (As := [.int a1, .int ((4 : Int32))]) wm_X11_117 ysX11_isBelow (c_X11_isBelow Δ hN a1 ((4 : Int32)) st) C (by decide) rfl (Nat.le_of_ble_eq_true rfl) dX11_whyNoPlace_2 rfl (fun x1 s2 => ?_)
  refine r_if_ne (q := 8) (tgt := 10) C dX11_whyNoPlace_5 (by decide) rfl ?_ ?_
  · refine r_aload_n (q := 11) (i := 0) (z := 0) C dX11_whyNoPlace_10 rfl rfl rfl ?_
    refine g_X11_11 (q := 14) C (nk_11_0 hN) dX11_whyNoPlace_11 rfl ?_
    refine r_iload_n (q := 15) (i := 1) (z := 1) C dX11_whyNoPlace_14 rfl rfl rfl ?_
    refine r_qal8 (q := 16) q_11_1 h_11_1 C (nk_11_0 hN) (nx_48 hN) dX11_whyNoPlace_15 rfl (fun hq3 => ?_)
    refine g_X11_151 (q := 19) C hq3 dX11_whyNoPlace_16 rfl ?_
    refine r_if_ne (q := 22) (tgt := 24) C dX11_whyNoPlace_19 (by decide) rfl ?_ ?_
    · refine r_iload_n (q := 25) (i := 2) (z := 2) C dX11_whyNoPlace_24 rfl rfl rfl ?_
      refine r_aload_n (q := 26) (i := 0) (z := 0) C dX11_whyNoPlace_25 rfl rfl rfl ?_
      refine g_X11_11 (q := 29) C (nk_11_0 hN) dX11_whyNoPlace_26 rfl ?_
      refine r_iload_n (q := 30) (i := 1) (z := 1) C dX11_whyNoPlace_29 rfl rfl rfl ?_
      refine r_qal8 (q := 31) q_11_1 h_11_1 C (nk_11_0 hN) (nx_48 hN) dX11_whyNoPlace_30 rfl (fun hq4 => ?_)
      refine g_X11_155 (q := 34) C hq4 dX11_whyNoPlace_31 rfl ?_
      refine r_callSI (q := 37) (As := [.int a2, .int (gI s2 8 a1.toNatClampNeg 3)]) wm_X11_117 ysX11_isBelow (c_X11_isBelow Δ hN a2 (gI s2 8 a1.toNatClampNeg 3) s2) C (by decide) rfl (Nat.le_of_ble_eq_true rfl) dX11_whyNoPlace_34 rfl (fun x5 s6 => ?_)
      refine r_join (fun j9 => ∀ (x7 : Int32) (s8 : fSt), fW Δ Γ 3 (fQ eI Δ Γ) 45 [] [.int x7] s8 (j9 x7 s8)) ?_ (fun j9 hj9 => ?_)
      · intro x7 s8
        exact r_iret C dX11_whyNoPlace_45
      refine r_if_eq (q := 40) (tgt := 44) C dX11_whyNoPlace_37 (by decide) rfl ?_ ?_
      · refine r_iconst (q := 45) (v := 4) C dX11_whyNoPlace_44 rfl (by decide) ?_
        refine r_locs (lc' := []) [] rfl ?_
        exact hj9 ((4 : Int32)) s6
      · refine r_iconst (q := 41) (v := 0) C dX11_whyNoPlace_40 rfl (by decide) ?_
        refine r_goto (q := 45) C dX11_whyNoPlace_41 (by decide) ?_
        refine r_locs (lc' := []) [] rfl ?_
        exact hj9 ((0 : Int32)) s6
    · refine r_iconst (q := 23) (v := 3) C dX11_whyNoPlace_22 rfl (by decide) ?_
      exact r_iret C dX11_whyNoPlace_23
  · refine r_iconst (q := 9) (v := 1) C dX11_whyNoPlace_8 rfl (by decide) ?_
    exact r_iret C dX11_whyNoPlace_9

noncomputable def f_X11_write (a1 : Int32) (a2 : Int32) (a3 : Int64) (st : fSt) : Option (Int32 × fSt) :=
  fBd (f_X11_whyNoPlace a1 a2 st) fun x1 s2 =>
  fLt x1 fun (x3 : Int32) =>
  if x3 = 0 then
    (fIx a1 4 <|
    fBd (f_X8_put a1.toNatClampNeg a2 a3 s2) fun _ s5 =>
    fBd (f_X11_agree  s5) fun x6 s7 =>
    fBo x6 (some (x6, s7)))
  else
    (fBd (f_X11_refuse x3 s2) fun x8 s9 =>
    fBo x8 (some (x8, s9)))

set_option maxHeartbeats 4000000 in
set_option maxRecDepth 100000 in
theorem c_X11_write (Δ : fDl) (hN : fNx Δ) (a1 : Int32) (a2 : Int32) (a3 : Int64)  (st : fSt) : fMt eI Δ yX11_write cX11_write 6 (some .boolean) 3 [.ref (fad Δ 11 0 0), .int a1, .int a2, .long a3] st (f_X11_write a1 a2 a3 st) := by
  unfold f_X11_write
  refine r_method (by decide +kernel) (Nat.le_of_ble_eq_true rfl) (fun Γ C => ?_)
  have C : fC Δ Γ cX11_write RX11 6 (some .boolean) 3 := C
  refine r_locs (lc' := [(0, .ref (fad Δ 11 0 0)), (1, .int a1), (2, .int a2), (3, .long a3)]) [0, 1, 2, 3] rfl ?_
  refine r_aload_n (q := 1) (i := 0) (z := 0) C dX11_write_0 rfl rfl rfl ?_
  refine r_iload_n (q := 2) (i := 1) (z := 1) C dX11_write_1 rfl rfl rfl ?_
  refine r_iload_n (q := 3) (i := 2) (z := 2) C dX11_write_2 rfl rfl rfl ?_
  refine r_callVI (q := 6) (As := [.int a1, .int a2]) wm_X11_135 yvX11_whyNoPlace (c_X11_whyNoPlace Δ hN a1 a2 st) ⟨rfl, by decide⟩ C (nk_11_0 hN) (by decide) rfl (Nat.le_of_ble_eq_true rfl) dX11_write_3 rfl (fun x1 s2 => ?_)
  refine r_istore (q := 8) (i := 5) [(0, .ref (fad Δ 11 0 0)), (1, .int a1), (2, .int a2), (3, .long a3)] C dX11_write_6 rfl (by decide) rfl (fun x3 => ?_)
  refine r_iload (q := 10) (i := 5) (z := 0) C dX11_write_8 rfl rfl ?_
  refine r_if_eq (q := 13) (tgt := 20) C dX11_write_10 (by decide) rfl ?_ ?_
  · refine r_aload_n (q := 21) (i := 0) (z := 1) C dX11_write_20 rfl rfl rfl ?_
    refine g_X11_11 (q := 24) C (nk_11_0 hN) dX11_write_21 rfl ?_
    refine r_iload_n (q := 25) (i := 1) (z := 2) C dX11_write_24 rfl rfl rfl ?_
    refine r_qal8 (q := 26) q_11_1 h_11_1 C (nk_11_0 hN) (nx_48 hN) dX11_write_25 rfl (fun hq4 => ?_)
    refine r_iload_n (q := 27) (i := 2) (z := 3) C dX11_write_26 rfl rfl rfl ?_
    refine r_lload_n (q := 28) (i := 3) (z := 4) C dX11_write_27 rfl rfl rfl ?_
    refine r_callVV (q := 31) (As := [.int a2, .long a3]) wm_X11_139 yvX8_put (c_X8_put Δ hN a1.toNatClampNeg a2 a3 hq4 s2) ⟨rfl, by decide⟩ C hq4 (by decide) rfl (Nat.le_of_ble_eq_true rfl) dX11_write_28 rfl (fun _ s5 => ?_)
    refine r_aload_n (q := 32) (i := 0) (z := 1) C dX11_write_31 rfl rfl rfl ?_
    refine r_callVI (q := 35) (As := []) wm_X11_110 yvX11_agree (c_X11_agree Δ hN s5) ⟨rfl, by decide⟩ C (nk_11_0 hN) (by decide) rfl (Nat.le_of_ble_eq_true rfl) dX11_write_32 rfl (fun x6 s7 => ?_)
    exact r_zret C dX11_write_35
  · refine r_aload_n (q := 14) (i := 0) (z := 1) C dX11_write_13 rfl rfl rfl ?_
    refine r_iload (q := 16) (i := 5) (z := 0) C dX11_write_14 rfl rfl ?_
    refine r_callVI (q := 19) (As := [.int x3]) wm_X11_106 yvX11_refuse (c_X11_refuse Δ hN x3 s2) ⟨rfl, by decide⟩ C (nk_11_0 hN) (by decide) rfl (Nat.le_of_ble_eq_true rfl) dX11_write_16 rfl (fun x8 s9 => ?_)
    exact r_zret C dX11_write_19

noncomputable def f_X11_read (a1 : Int32) (a2 : Int32) (st : fSt) : Option (Int64 × fSt) :=
  fBd (f_X11_whyNoPlace a1 a2 st) fun x1 s2 =>
  fLt x1 fun (x3 : Int32) =>
  if x3 = 0 then
    (fLt (sI s2 11 0 2 ((0 : Int32))) fun s4 =>
    fIx a1 4 <|
    fIx a2 60 <|
    some (gB s4 8 a1.toNatClampNeg 1 a2.toNatClampNeg, s4))
  else
    (fBd (f_X11_fail x3 s2) fun x6 s7 =>
    some (x6.toInt64, s7))

set_option maxHeartbeats 4000000 in
set_option maxRecDepth 100000 in
theorem c_X11_read (Δ : fDl) (hN : fNx Δ) (a1 : Int32) (a2 : Int32)  (st : fSt) : fMt eL Δ yX11_read cX11_read 4 (some .long) 3 [.ref (fad Δ 11 0 0), .int a1, .int a2] st (f_X11_read a1 a2 st) := by
  unfold f_X11_read
  refine r_method (by decide +kernel) (Nat.le_of_ble_eq_true rfl) (fun Γ C => ?_)
  have C : fC Δ Γ cX11_read RX11 4 (some .long) 3 := C
  refine r_locs (lc' := [(0, .ref (fad Δ 11 0 0)), (1, .int a1), (2, .int a2)]) [0, 1, 2] rfl ?_
  refine r_aload_n (q := 1) (i := 0) (z := 0) C dX11_read_0 rfl rfl rfl ?_
  refine r_iload_n (q := 2) (i := 1) (z := 1) C dX11_read_1 rfl rfl rfl ?_
  refine r_iload_n (q := 3) (i := 2) (z := 2) C dX11_read_2 rfl rfl rfl ?_
  refine r_callVI (q := 6) (As := [.int a1, .int a2]) wm_X11_135 yvX11_whyNoPlace (c_X11_whyNoPlace Δ hN a1 a2 st) ⟨rfl, by decide⟩ C (nk_11_0 hN) (by decide) rfl (Nat.le_of_ble_eq_true rfl) dX11_read_3 rfl (fun x1 s2 => ?_)
  refine r_istore_n (q := 7) (i := 3) [(0, .ref (fad Δ 11 0 0)), (1, .int a1), (2, .int a2)] C dX11_read_6 rfl rfl (by decide) rfl (fun x3 => ?_)
  refine r_iload_n (q := 8) (i := 3) (z := 0) C dX11_read_7 rfl rfl rfl ?_
  refine r_if_eq (q := 11) (tgt := 18) C dX11_read_8 (by decide) rfl ?_ ?_
  · refine r_aload_n (q := 19) (i := 0) (z := 1) C dX11_read_18 rfl rfl rfl ?_
    refine r_iconst (q := 20) (v := 0) C dX11_read_19 rfl (by decide) ?_
    refine p_X11_96 (q := 23) C (nk_11_0 hN) dX11_read_20 rfl (fun s4 => ?_)
    refine r_aload_n (q := 24) (i := 0) (z := 1) C dX11_read_23 rfl rfl rfl ?_
    refine g_X11_11 (q := 27) C (nk_11_0 hN) dX11_read_24 rfl ?_
    refine r_iload_n (q := 28) (i := 1) (z := 2) C dX11_read_27 rfl rfl rfl ?_
    refine r_qal8 (q := 29) q_11_1 h_11_1 C (nk_11_0 hN) (nx_48 hN) dX11_read_28 rfl (fun hq5 => ?_)
    refine g_X11_147 (q := 32) C hq5 dX11_read_29 rfl ?_
    refine r_iload_n (q := 33) (i := 2) (z := 3) C dX11_read_32 rfl rfl rfl ?_
    refine r_lal (q := 34) q_8_1 h_8_1 C hq5 dX11_read_33 rfl ?_
    exact r_lret C dX11_read_34
  · refine r_aload_n (q := 12) (i := 0) (z := 1) C dX11_read_11 rfl rfl rfl ?_
    refine r_iload_n (q := 13) (i := 3) (z := 0) C dX11_read_12 rfl rfl rfl ?_
    refine r_callVI (q := 16) (As := [.int x3]) wm_X11_143 yvX11_fail (c_X11_fail Δ hN x3 s2) ⟨rfl, by decide⟩ C (nk_11_0 hN) (by decide) rfl (Nat.le_of_ble_eq_true rfl) dX11_read_13 rfl (fun x6 s7 => ?_)
    refine r_i2l (q := 17) C dX11_read_16 rfl ?_
    exact r_lret C dX11_read_17

noncomputable def f_X11_pour (a1 : Int32) (a2 : Int32) (a3 : Int32) (a4 : Int32) (a5 : Int32) (st : fSt) : Option (Int32 × fSt) :=
  fBd (f_X11_isBelow a1 ((4 : Int32)) st) fun x1 s2 =>
  fJn (fun (s3 : fSt) =>
    (fBd (f_X11_refuse ((1 : Int32)) s3) fun x5 s6 =>
    fBo x5 (some (x5, s6)))) fun (j4 : fSt → Option (Int32 × fSt)) =>
  if x1 = 0 then
    (j4 s2)
  else
    (fBd (f_X11_isBelow a3 ((4 : Int32)) s2) fun x7 s8 =>
    if ¬ x7 = 0 then
      (fIx a1 4 <|
      fIx a3 4 <|
      fJn (fun (s11 : fSt) =>
        (fBd (f_X11_refuse ((3 : Int32)) s11) fun x13 s14 =>
        fBo x13 (some (x13, s14)))) fun (j12 : fSt → Option (Int32 × fSt)) =>
      if (gI s8 8 a1.toNatClampNeg 1) = 0 then
        (j12 s8)
      else
        (if ¬ (gI s8 8 a3.toNatClampNeg 1) = 0 then
          (if (gI s8 8 a1.toNatClampNeg 2) = (gI s8 8 a3.toNatClampNeg 2) then
            (if 0 ≤ a5 then
              (fBd (f_X8_hasPlaces a1.toNatClampNeg a2 a5 s8) fun x15 s16 =>
              fJn (fun (s17 : fSt) =>
                (fBd (f_X11_refuse ((4 : Int32)) s17) fun x19 s20 =>
                fBo x19 (some (x19, s20)))) fun (j18 : fSt → Option (Int32 × fSt)) =>
              if x15 = 0 then
                (j18 s16)
              else
                (fBd (f_X8_hasPlaces a3.toNatClampNeg a4 a5 s16) fun x21 s22 =>
                if ¬ x21 = 0 then
                  (fCp a2 a4 a5 60 60 <|
                  fLt (sB s22 8 a3.toNatClampNeg 1 (va_cpy (gB s22 8 a1.toNatClampNeg 1) (gB s22 8 a3.toNatClampNeg 1) a2.toNatClampNeg a4.toNatClampNeg a5.toNatClampNeg)) fun s23 =>
                  fBd (f_X11_agree  s23) fun x24 s25 =>
                  fBo x24 (some (x24, s25)))
                else
                  (j18 s22)))
            else
              (fBd (f_X11_refuse ((6 : Int32)) s8) fun x26 s27 =>
              fBo x26 (some (x26, s27))))
          else
            (fBd (f_X11_refuse ((11 : Int32)) s8) fun x28 s29 =>
            fBo x28 (some (x28, s29))))
        else
          (j12 s8)))
    else
      (j4 s8))

set_option maxHeartbeats 4000000 in
set_option maxRecDepth 100000 in
theorem c_X11_pour (Δ : fDl) (hN : fNx Δ) (a1 : Int32) (a2 : Int32) (a3 : Int32) (a4 : Int32) (a5 : Int32)  (st : fSt) : fMt eI Δ yX11_pour cX11_pour 8 (some .boolean) 2 [.ref (fad Δ 11 0 0), .int a1, .int a2, .int a3, .int a4, .int a5] st (f_X11_pour a1 a2 a3 a4 a5 st) := by
  unfold f_X11_pour
  refine r_method (by decide +kernel) (Nat.le_of_ble_eq_true rfl) (fun Γ C => ?_)
  have C : fC Δ Γ cX11_pour RX11 8 (some .boolean) 2 := C
  refine r_locs (lc' := [(0, .ref (fad Δ 11 0 0)), (1, .int a1), (2, .int a2), (3, .int a3), (4, .int a4), (5, .int a5)]) [0, 1, 2, 3, 4, 5] rfl ?_
  refine r_iload_n (q := 1) (i := 1) (z := 1) C dX11_pour_0 rfl rfl rfl ?_
  refine r_iconst (q := 2) (v := 4) C dX11_pour_1 rfl (by decide) ?_
  refine r_callSI (q := 5) (As := [.int a1, .int ((4 : Int32))]) wm_X11_117 ysX11_isBelow (c_X11_isBelow Δ hN a1 ((4 : Int32)) st) C (by decide) rfl (Nat.le_of_ble_eq_true rfl) dX11_pour_2 rfl (fun x1 s2 => ?_)
  refine r_join (fun j4 => ∀  (s3 : fSt), fW Δ Γ 8 (fQ eI Δ Γ) 16 [(0, .ref (fad Δ 11 0 0))] [] s3 (j4 s3)) ?_ (fun j4 hj4 => ?_)
  · intro s3
    refine r_aload_n (q := 17) (i := 0) (z := 0) C dX11_pour_16 rfl rfl rfl ?_
    refine r_iconst (q := 18) (v := 1) C dX11_pour_17 rfl (by decide) ?_
    refine r_callVI (q := 21) (As := [.int ((1 : Int32))]) wm_X11_106 yvX11_refuse (c_X11_refuse Δ hN ((1 : Int32)) s3) ⟨rfl, by decide⟩ C (nk_11_0 hN) (by decide) rfl (Nat.le_of_ble_eq_true rfl) dX11_pour_18 rfl (fun x5 s6 => ?_)
    exact r_zret C dX11_pour_21
  refine r_if_eq (q := 8) (tgt := 16) C dX11_pour_5 (by decide) rfl ?_ ?_
  · refine r_locs (lc' := [(0, .ref (fad Δ 11 0 0))]) [0] rfl ?_
    exact hj4 s2
  · refine r_iload_n (q := 9) (i := 3) (z := 3) C dX11_pour_8 rfl rfl rfl ?_
    refine r_iconst (q := 10) (v := 4) C dX11_pour_9 rfl (by decide) ?_
    refine r_callSI (q := 13) (As := [.int a3, .int ((4 : Int32))]) wm_X11_117 ysX11_isBelow (c_X11_isBelow Δ hN a3 ((4 : Int32)) s2) C (by decide) rfl (Nat.le_of_ble_eq_true rfl) dX11_pour_10 rfl (fun x7 s8 => ?_)
    refine r_if_ne (q := 16) (tgt := 22) C dX11_pour_13 (by decide) rfl ?_ ?_
    · refine r_aload_n (q := 23) (i := 0) (z := 0) C dX11_pour_22 rfl rfl rfl ?_
      refine g_X11_11 (q := 26) C (nk_11_0 hN) dX11_pour_23 rfl ?_
      refine r_iload_n (q := 27) (i := 1) (z := 1) C dX11_pour_26 rfl rfl rfl ?_
      refine r_qal8 (q := 28) q_11_1 h_11_1 C (nk_11_0 hN) (nx_48 hN) dX11_pour_27 rfl (fun hq9 => ?_)
      refine r_astore (q := 30) (i := 6) [(0, .ref (fad Δ 11 0 0)), (1, .int a1), (2, .int a2), (3, .int a3), (4, .int a4), (5, .int a5)] C dX11_pour_28 rfl (by decide) rfl ?_
      refine r_aload_n (q := 31) (i := 0) (z := 1) C dX11_pour_30 rfl rfl rfl ?_
      refine g_X11_11 (q := 34) C (nk_11_0 hN) dX11_pour_31 rfl ?_
      refine r_iload_n (q := 35) (i := 3) (z := 4) C dX11_pour_34 rfl rfl rfl ?_
      refine r_qal8 (q := 36) q_11_1 h_11_1 C (nk_11_0 hN) (nx_48 hN) dX11_pour_35 rfl (fun hq10 => ?_)
      refine r_astore (q := 38) (i := 7) [(6, .ref (fad Δ 8 a1.toNatClampNeg 0)), (0, .ref (fad Δ 11 0 0)), (1, .int a1), (2, .int a2), (3, .int a3), (4, .int a4), (5, .int a5)] C dX11_pour_36 rfl (by decide) rfl ?_
      refine r_aload (q := 40) (i := 6) (z := 1) C dX11_pour_38 rfl rfl ?_
      refine g_X11_151 (q := 43) C hq9 dX11_pour_40 rfl ?_
      refine r_join (fun j12 => ∀  (s11 : fSt), fW Δ Γ 8 (fQ eI Δ Γ) 54 [(0, .ref (fad Δ 11 0 0))] [] s11 (j12 s11)) ?_ (fun j12 hj12 => ?_)
      · intro s11
        refine r_aload_n (q := 55) (i := 0) (z := 0) C dX11_pour_54 rfl rfl rfl ?_
        refine r_iconst (q := 56) (v := 3) C dX11_pour_55 rfl (by decide) ?_
        refine r_callVI (q := 59) (As := [.int ((3 : Int32))]) wm_X11_106 yvX11_refuse (c_X11_refuse Δ hN ((3 : Int32)) s11) ⟨rfl, by decide⟩ C (nk_11_0 hN) (by decide) rfl (Nat.le_of_ble_eq_true rfl) dX11_pour_56 rfl (fun x13 s14 => ?_)
        exact r_zret C dX11_pour_59
      refine r_if_eq (q := 46) (tgt := 54) C dX11_pour_43 (by decide) rfl ?_ ?_
      · refine r_locs (lc' := [(0, .ref (fad Δ 11 0 0))]) [2] rfl ?_
        exact hj12 s8
      · refine r_aload (q := 48) (i := 7) (z := 0) C dX11_pour_46 rfl rfl ?_
        refine g_X11_151 (q := 51) C hq10 dX11_pour_48 rfl ?_
        refine r_if_ne (q := 54) (tgt := 60) C dX11_pour_51 (by decide) rfl ?_ ?_
        · refine r_aload (q := 62) (i := 6) (z := 1) C dX11_pour_60 rfl rfl ?_
          refine g_X11_158 (q := 65) C hq9 dX11_pour_62 rfl ?_
          refine r_aload (q := 67) (i := 7) (z := 0) C dX11_pour_65 rfl rfl ?_
          refine g_X11_158 (q := 70) C hq10 dX11_pour_67 rfl ?_
          refine r_icmp_eq (q := 73) (tgt := 80) C dX11_pour_70 (by decide) rfl ?_ ?_
          · refine r_iload (q := 82) (i := 5) (z := 7) C dX11_pour_80 rfl rfl ?_
            refine r_if_ge (q := 85) (tgt := 92) C dX11_pour_82 (by decide) rfl ?_ ?_
            · refine r_aload (q := 94) (i := 6) (z := 1) C dX11_pour_92 rfl rfl ?_
              refine r_iload_n (q := 95) (i := 2) (z := 4) C dX11_pour_94 rfl rfl rfl ?_
              refine r_iload (q := 97) (i := 5) (z := 7) C dX11_pour_95 rfl rfl ?_
              refine r_callVI (q := 100) (As := [.int a2, .int a5]) wm_X11_161 yvX8_hasPlaces (c_X8_hasPlaces Δ hN a1.toNatClampNeg a2 a5 hq9 s8) ⟨rfl, by decide⟩ C hq9 (by decide) rfl (Nat.le_of_ble_eq_true rfl) dX11_pour_97 rfl (fun x15 s16 => ?_)
              refine r_join (fun j18 => ∀  (s17 : fSt), fW Δ Γ 8 (fQ eI Δ Γ) 115 [(0, .ref (fad Δ 11 0 0))] [] s17 (j18 s17)) ?_ (fun j18 hj18 => ?_)
              · intro s17
                refine r_aload_n (q := 116) (i := 0) (z := 0) C dX11_pour_115 rfl rfl rfl ?_
                refine r_iconst (q := 117) (v := 4) C dX11_pour_116 rfl (by decide) ?_
                refine r_callVI (q := 120) (As := [.int ((4 : Int32))]) wm_X11_106 yvX11_refuse (c_X11_refuse Δ hN ((4 : Int32)) s17) ⟨rfl, by decide⟩ C (nk_11_0 hN) (by decide) rfl (Nat.le_of_ble_eq_true rfl) dX11_pour_117 rfl (fun x19 s20 => ?_)
                exact r_zret C dX11_pour_120
              refine r_if_eq (q := 103) (tgt := 115) C dX11_pour_100 (by decide) rfl ?_ ?_
              · refine r_locs (lc' := [(0, .ref (fad Δ 11 0 0))]) [2] rfl ?_
                exact hj18 s16
              · refine r_aload (q := 105) (i := 7) (z := 0) C dX11_pour_103 rfl rfl ?_
                refine r_iload (q := 107) (i := 4) (z := 6) C dX11_pour_105 rfl rfl ?_
                refine r_iload (q := 109) (i := 5) (z := 7) C dX11_pour_107 rfl rfl ?_
                refine r_callVI (q := 112) (As := [.int a4, .int a5]) wm_X11_161 yvX8_hasPlaces (c_X8_hasPlaces Δ hN a3.toNatClampNeg a4 a5 hq10 s16) ⟨rfl, by decide⟩ C hq10 (by decide) rfl (Nat.le_of_ble_eq_true rfl) dX11_pour_109 rfl (fun x21 s22 => ?_)
                refine r_if_ne (q := 115) (tgt := 121) C dX11_pour_112 (by decide) rfl ?_ ?_
                · refine r_aload (q := 123) (i := 6) (z := 1) C dX11_pour_121 rfl rfl ?_
                  refine g_X11_147 (q := 126) C hq9 dX11_pour_123 rfl ?_
                  refine r_iload_n (q := 127) (i := 2) (z := 4) C dX11_pour_126 rfl rfl rfl ?_
                  refine r_aload (q := 129) (i := 7) (z := 0) C dX11_pour_127 rfl rfl ?_
                  refine g_X11_147 (q := 132) C hq10 dX11_pour_129 rfl ?_
                  refine r_iload (q := 134) (i := 4) (z := 6) C dX11_pour_132 rfl rfl ?_
                  refine r_iload (q := 136) (i := 5) (z := 7) C dX11_pour_134 rfl rfl ?_
                  refine r_copyL (q := 139) wk_X11_164 mw_copy.1 mw_copy.2.1 mw_copy.2.2 q_8_1 q_8_1 h_8_1 h_8_1 C (by decide) (Nat.le_of_ble_eq_true rfl) hq9 hq10 dX11_pour_136 rfl (fun s23 => ?_)
                  refine r_aload_n (q := 140) (i := 0) (z := 2) C dX11_pour_139 rfl rfl rfl ?_
                  refine r_callVI (q := 143) (As := []) wm_X11_110 yvX11_agree (c_X11_agree Δ hN s23) ⟨rfl, by decide⟩ C (nk_11_0 hN) (by decide) rfl (Nat.le_of_ble_eq_true rfl) dX11_pour_140 rfl (fun x24 s25 => ?_)
                  exact r_zret C dX11_pour_143
                · refine r_locs (lc' := [(0, .ref (fad Δ 11 0 0))]) [2] rfl ?_
                  exact hj18 s22
            · refine r_aload_n (q := 86) (i := 0) (z := 2) C dX11_pour_85 rfl rfl rfl ?_
              refine r_bipush (q := 88) (v := 6) C dX11_pour_86 rfl (by decide) ?_
              refine r_callVI (q := 91) (As := [.int ((6 : Int32))]) wm_X11_106 yvX11_refuse (c_X11_refuse Δ hN ((6 : Int32)) s8) ⟨rfl, by decide⟩ C (nk_11_0 hN) (by decide) rfl (Nat.le_of_ble_eq_true rfl) dX11_pour_88 rfl (fun x26 s27 => ?_)
              exact r_zret C dX11_pour_91
          · refine r_aload_n (q := 74) (i := 0) (z := 2) C dX11_pour_73 rfl rfl rfl ?_
            refine r_bipush (q := 76) (v := 11) C dX11_pour_74 rfl (by decide) ?_
            refine r_callVI (q := 79) (As := [.int ((11 : Int32))]) wm_X11_106 yvX11_refuse (c_X11_refuse Δ hN ((11 : Int32)) s8) ⟨rfl, by decide⟩ C (nk_11_0 hN) (by decide) rfl (Nat.le_of_ble_eq_true rfl) dX11_pour_76 rfl (fun x28 s29 => ?_)
            exact r_zret C dX11_pour_79
        · refine r_locs (lc' := [(0, .ref (fad Δ 11 0 0))]) [2] rfl ?_
          exact hj12 s8
    · refine r_locs (lc' := [(0, .ref (fad Δ 11 0 0))]) [0] rfl ?_
      exact hj4 s8

noncomputable def f_X11_feed (a1 : Int32) (a2 : Int32) (a3 : Int32) (a4 : Int32) (a5 : Int32) (st : fSt) : Option (Int32 × fSt) :=
  if ((gI st 5 0 2) + ((20 : Int32))) ≤ ((900 : Int32)) then
    (fBd (f_X5_putFour a1 st) fun _ s1 =>
    fBd (f_X5_putFour a2 s1) fun _ s2 =>
    fBd (f_X5_putFour a3 s2) fun _ s3 =>
    fBd (f_X5_putFour a4 s3) fun _ s4 =>
    fBd (f_X5_putFour a5 s4) fun _ s5 =>
    some (gI s5 5 0 2, s5))
  else
    (some ((-1 : Int32), st))

set_option maxHeartbeats 4000000 in
set_option maxRecDepth 100000 in
theorem c_X11_feed (Δ : fDl) (hN : fNx Δ) (a1 : Int32) (a2 : Int32) (a3 : Int32) (a4 : Int32) (a5 : Int32)  (st : fSt) : fMt eI Δ yX11_feed cX11_feed 6 (some .int) 2 [.ref (fad Δ 11 0 0), .int a1, .int a2, .int a3, .int a4, .int a5] st (f_X11_feed a1 a2 a3 a4 a5 st) := by
  unfold f_X11_feed
  refine r_method (by decide +kernel) (Nat.le_of_ble_eq_true rfl) (fun Γ C => ?_)
  have C : fC Δ Γ cX11_feed RX11 6 (some .int) 2 := C
  refine r_locs (lc' := [(0, .ref (fad Δ 11 0 0)), (1, .int a1), (2, .int a2), (3, .int a3), (4, .int a4), (5, .int a5)]) [0, 1, 2, 3, 4, 5] rfl ?_
  refine r_aload_n (q := 1) (i := 0) (z := 0) C dX11_feed_0 rfl rfl rfl ?_
  refine g_X11_18 (q := 4) C (nk_11_0 hN) dX11_feed_1 rfl ?_
  refine g_X11_170 (q := 7) C (nk_5_0 hN) dX11_feed_4 rfl ?_
  refine r_bipush (q := 9) (v := 20) C dX11_feed_7 rfl (by decide) ?_
  refine r_iadd (q := 10) C dX11_feed_9 rfl ?_
  refine r_sipush (q := 13) (v := 900) C dX11_feed_10 rfl (by decide) ?_
  refine r_icmp_le (q := 16) (tgt := 18) C dX11_feed_13 (by decide) rfl ?_ ?_
  · refine r_aload_n (q := 19) (i := 0) (z := 0) C dX11_feed_18 rfl rfl rfl ?_
    refine g_X11_18 (q := 22) C (nk_11_0 hN) dX11_feed_19 rfl ?_
    refine r_iload_n (q := 23) (i := 1) (z := 1) C dX11_feed_22 rfl rfl rfl ?_
    refine r_callVV (q := 26) (As := [.int a1]) wm_X11_173 yvX5_putFour (c_X5_putFour Δ hN a1 st) ⟨rfl, by decide⟩ C (nk_5_0 hN) (by decide) rfl (Nat.le_of_ble_eq_true rfl) dX11_feed_23 rfl (fun _ s1 => ?_)
    refine r_aload_n (q := 27) (i := 0) (z := 0) C dX11_feed_26 rfl rfl rfl ?_
    refine g_X11_18 (q := 30) C (nk_11_0 hN) dX11_feed_27 rfl ?_
    refine r_iload_n (q := 31) (i := 2) (z := 2) C dX11_feed_30 rfl rfl rfl ?_
    refine r_callVV (q := 34) (As := [.int a2]) wm_X11_173 yvX5_putFour (c_X5_putFour Δ hN a2 s1) ⟨rfl, by decide⟩ C (nk_5_0 hN) (by decide) rfl (Nat.le_of_ble_eq_true rfl) dX11_feed_31 rfl (fun _ s2 => ?_)
    refine r_aload_n (q := 35) (i := 0) (z := 0) C dX11_feed_34 rfl rfl rfl ?_
    refine g_X11_18 (q := 38) C (nk_11_0 hN) dX11_feed_35 rfl ?_
    refine r_iload_n (q := 39) (i := 3) (z := 3) C dX11_feed_38 rfl rfl rfl ?_
    refine r_callVV (q := 42) (As := [.int a3]) wm_X11_173 yvX5_putFour (c_X5_putFour Δ hN a3 s2) ⟨rfl, by decide⟩ C (nk_5_0 hN) (by decide) rfl (Nat.le_of_ble_eq_true rfl) dX11_feed_39 rfl (fun _ s3 => ?_)
    refine r_aload_n (q := 43) (i := 0) (z := 0) C dX11_feed_42 rfl rfl rfl ?_
    refine g_X11_18 (q := 46) C (nk_11_0 hN) dX11_feed_43 rfl ?_
    refine r_iload (q := 48) (i := 4) (z := 4) C dX11_feed_46 rfl rfl ?_
    refine r_callVV (q := 51) (As := [.int a4]) wm_X11_173 yvX5_putFour (c_X5_putFour Δ hN a4 s3) ⟨rfl, by decide⟩ C (nk_5_0 hN) (by decide) rfl (Nat.le_of_ble_eq_true rfl) dX11_feed_48 rfl (fun _ s4 => ?_)
    refine r_aload_n (q := 52) (i := 0) (z := 0) C dX11_feed_51 rfl rfl rfl ?_
    refine g_X11_18 (q := 55) C (nk_11_0 hN) dX11_feed_52 rfl ?_
    refine r_iload (q := 57) (i := 5) (z := 5) C dX11_feed_55 rfl rfl ?_
    refine r_callVV (q := 60) (As := [.int a5]) wm_X11_173 yvX5_putFour (c_X5_putFour Δ hN a5 s4) ⟨rfl, by decide⟩ C (nk_5_0 hN) (by decide) rfl (Nat.le_of_ble_eq_true rfl) dX11_feed_57 rfl (fun _ s5 => ?_)
    refine r_aload_n (q := 61) (i := 0) (z := 0) C dX11_feed_60 rfl rfl rfl ?_
    refine g_X11_18 (q := 64) C (nk_11_0 hN) dX11_feed_61 rfl ?_
    refine g_X11_170 (q := 67) C (nk_5_0 hN) dX11_feed_64 rfl ?_
    exact r_iret C dX11_feed_67
  · refine r_iconst (q := 17) (v := (-1)) C dX11_feed_16 rfl (by decide) ?_
    exact r_iret C dX11_feed_17

noncomputable def f_X11_keepFault  (st : fSt) : Option (Unit × fSt) :=
  fLt (sI st 11 0 5 (gI st 5 0 10)) fun s1 =>
  fLt (sI s1 11 0 6 (gI s1 5 0 11)) fun s2 =>
  some ((), s2)

set_option maxHeartbeats 4000000 in
set_option maxRecDepth 100000 in
theorem c_X11_keepFault (Δ : fDl) (hN : fNx Δ)   (st : fSt) : fMt eV Δ yX11_keepFault cX11_keepFault 1 none 1 [.ref (fad Δ 11 0 0)] st (f_X11_keepFault  st) := by
  unfold f_X11_keepFault
  refine r_method (by decide +kernel) (Nat.le_of_ble_eq_true rfl) (fun Γ C => ?_)
  have C : fC Δ Γ cX11_keepFault RX11 1 none 1 := C
  refine r_locs (lc' := [(0, .ref (fad Δ 11 0 0))]) [0] rfl ?_
  refine r_aload_n (q := 1) (i := 0) (z := 0) C dX11_keepFault_0 rfl rfl rfl ?_
  refine r_aload_n (q := 2) (i := 0) (z := 0) C dX11_keepFault_1 rfl rfl rfl ?_
  refine g_X11_18 (q := 5) C (nk_11_0 hN) dX11_keepFault_2 rfl ?_
  refine g_X11_211 (q := 8) C (nk_5_0 hN) dX11_keepFault_5 rfl ?_
  refine p_X11_26 (q := 11) C (nk_11_0 hN) dX11_keepFault_8 rfl (fun s1 => ?_)
  refine r_aload_n (q := 12) (i := 0) (z := 0) C dX11_keepFault_11 rfl rfl rfl ?_
  refine r_aload_n (q := 13) (i := 0) (z := 0) C dX11_keepFault_12 rfl rfl rfl ?_
  refine g_X11_18 (q := 16) C (nk_11_0 hN) dX11_keepFault_13 rfl ?_
  refine g_X11_214 (q := 19) C (nk_5_0 hN) dX11_keepFault_16 rfl ?_
  refine p_X11_30 (q := 22) C (nk_11_0 hN) dX11_keepFault_19 rfl (fun s2 => ?_)
  exact r_vret C dX11_keepFault_22

noncomputable def f_X11_fault (a1 : Int32) (st : fSt) : Option (Int32 × fSt) :=
  if ¬ a1 = 0 then
    (fJn (fun (x1 : Int32) (s2 : fSt) =>
      (some (x1, s2))) fun (j3 : Int32 → fSt → Option (Int32 × fSt)) =>
    if ¬ a1 = ((1 : Int32)) then
      (j3 ((-1 : Int32)) st)
    else
      (j3 (gI st 11 0 6) st))
  else
    (some (gI st 11 0 5, st))

set_option maxHeartbeats 4000000 in
set_option maxRecDepth 100000 in
theorem c_X11_fault (Δ : fDl) (hN : fNx Δ) (a1 : Int32)  (st : fSt) : fMt eI Δ yX11_fault cX11_fault 2 (some .int) 1 [.ref (fad Δ 11 0 0), .int a1] st (f_X11_fault a1 st) := by
  unfold f_X11_fault
  refine r_method (by decide +kernel) (Nat.le_of_ble_eq_true rfl) (fun Γ C => ?_)
  have C : fC Δ Γ cX11_fault RX11 2 (some .int) 1 := C
  refine r_locs (lc' := [(0, .ref (fad Δ 11 0 0)), (1, .int a1)]) [0, 1] rfl ?_
  refine r_iload_n (q := 1) (i := 1) (z := 1) C dX11_fault_0 rfl rfl rfl ?_
  refine r_if_ne (q := 4) (tgt := 9) C dX11_fault_1 (by decide) rfl ?_ ?_
  · refine r_iload_n (q := 10) (i := 1) (z := 1) C dX11_fault_9 rfl rfl rfl ?_
    refine r_iconst (q := 11) (v := 1) C dX11_fault_10 rfl (by decide) ?_
    refine r_join (fun j3 => ∀ (x1 : Int32) (s2 : fSt), fW Δ Γ 2 (fQ eI Δ Γ) 22 [] [.int x1] s2 (j3 x1 s2)) ?_ (fun j3 hj3 => ?_)
    · intro x1 s2
      exact r_iret C dX11_fault_22
    refine r_icmp_ne (q := 14) (tgt := 21) C dX11_fault_11 (by decide) rfl ?_ ?_
    · refine r_iconst (q := 22) (v := (-1)) C dX11_fault_21 rfl (by decide) ?_
      refine r_locs (lc' := []) [] rfl ?_
      exact hj3 ((-1 : Int32)) st
    · refine r_aload_n (q := 15) (i := 0) (z := 0) C dX11_fault_14 rfl rfl rfl ?_
      refine g_X11_30 (q := 18) C (nk_11_0 hN) dX11_fault_15 rfl ?_
      refine r_goto (q := 22) C dX11_fault_18 (by decide) ?_
      refine r_locs (lc' := []) [] rfl ?_
      exact hj3 (gI st 11 0 6) st
  · refine r_aload_n (q := 5) (i := 0) (z := 0) C dX11_fault_4 rfl rfl rfl ?_
    refine g_X11_26 (q := 8) C (nk_11_0 hN) dX11_fault_5 rfl ?_
    exact r_iret C dX11_fault_8

noncomputable def f_X11_many (a1 : Int32) (st : fSt) : Option (Int32 × fSt) :=
  if a1 = (0 : Int32) then
    (fNn (gP st 2 0 0) fun y2 =>
    fBd (f_X11_answer (gI st 7 y2 0) st) fun x3 s4 =>
    some (x3, s4))
  else
  if a1 = (1 : Int32) then
    (fNn (gP st 2 0 0) fun y6 =>
    fBd (f_X11_answer (gI st 7 y6 1) st) fun x7 s8 =>
    some (x7, s8))
  else
  if a1 = (2 : Int32) then
    (fNn (gP st 2 0 0) fun y10 =>
    fBd (f_X11_answer (gI st 7 y10 2) st) fun x11 s12 =>
    some (x11, s12))
  else
  if a1 = (3 : Int32) then
    (fNn (gP st 2 0 0) fun y14 =>
    fBd (f_X11_answer (gI st 7 y14 3) st) fun x15 s16 =>
    some (x15, s16))
  else
  if a1 = (4 : Int32) then
    (fBd (f_X11_answer (gI st 0 0 0) st) fun x18 s19 =>
    some (x18, s19))
  else
  if a1 = (5 : Int32) then
    (fBd (f_X11_answer (gI st 2 0 2) st) fun x21 s22 =>
    some (x21, s22))
  else
  if a1 = (6 : Int32) then
    (fBd (f_X11_answer (gI st 2 0 3) st) fun x24 s25 =>
    some (x24, s25))
  else
  if a1 = (7 : Int32) then
    (fNn (gP st 2 0 0) fun y27 =>
    fBd (f_X7_linesInAll y27 st) fun x28 s29 =>
    fBd (f_X11_answer x28 s29) fun x30 s31 =>
    some (x30, s31))
  else
  fBd (f_X11_fail ((5 : Int32)) st) fun x32 s33 =>
  some (x32, s33)

set_option maxHeartbeats 4000000 in
set_option maxRecDepth 100000 in
theorem c_X11_many (Δ : fDl) (hN : fNx Δ) (a1 : Int32)  (st : fSt) : fMt eI Δ yX11_many cX11_many 2 (some .int) 2 [.ref (fad Δ 11 0 0), .int a1] st (f_X11_many a1 st) := by
  unfold f_X11_many
  refine r_method (by decide +kernel) (Nat.le_of_ble_eq_true rfl) (fun Γ C => ?_)
  have C : fC Δ Γ cX11_many RX11 2 (some .int) 2 := C
  refine r_locs (lc' := [(0, .ref (fad Δ 11 0 0)), (1, .int a1)]) [0, 1] rfl ?_
  refine r_iload_n (q := 1) (i := 1) (z := 1) C dX11_many_0 rfl rfl rfl ?_
  refine r_bif (fun hs1 => ?_) (fun hs1 => ?_)
  · refine r_tsHit (tgt := 48) (n := 0) C dX11_many_1 hs1 (by decide) (by decide) (by decide) rfl (by decide) ?_
    refine r_aload_n (q := 49) (i := 0) (z := 0) C dX11_many_48 rfl rfl rfl ?_
    refine r_aload_n (q := 50) (i := 0) (z := 0) C dX11_many_49 rfl rfl rfl ?_
    refine g_X11_41 (q := 53) C (nk_11_0 hN) dX11_many_50 rfl ?_
    refine g_X11_92 (q := 56) C (nk_2_0 hN) dX11_many_53 rfl ?_
    refine r_deref C (fun h => (h _ (nk_2_0 hN)).1) (fun y2 hy2 => ?_)
    refine g_X11_124 (q := 59) C hy2 dX11_many_56 rfl ?_
    refine r_callVI (q := 62) (As := [.int (gI st 7 y2 0)]) wm_X11_190 yvX11_answer (c_X11_answer Δ hN (gI st 7 y2 0) st) ⟨rfl, by decide⟩ C (nk_11_0 hN) (by decide) rfl (Nat.le_of_ble_eq_true rfl) dX11_many_59 rfl (fun x3 s4 => ?_)
    exact r_iret C dX11_many_62
  refine r_bif (fun hs5 => ?_) (fun hs5 => ?_)
  · refine r_tsHit (tgt := 63) (n := 1) C dX11_many_1 hs5 (by decide) (by decide) (by decide) rfl (by decide) ?_
    refine r_aload_n (q := 64) (i := 0) (z := 0) C dX11_many_63 rfl rfl rfl ?_
    refine r_aload_n (q := 65) (i := 0) (z := 0) C dX11_many_64 rfl rfl rfl ?_
    refine g_X11_41 (q := 68) C (nk_11_0 hN) dX11_many_65 rfl ?_
    refine g_X11_92 (q := 71) C (nk_2_0 hN) dX11_many_68 rfl ?_
    refine r_deref C (fun h => (h _ (nk_2_0 hN)).1) (fun y6 hy6 => ?_)
    refine g_X11_217 (q := 74) C hy6 dX11_many_71 rfl ?_
    refine r_callVI (q := 77) (As := [.int (gI st 7 y6 1)]) wm_X11_190 yvX11_answer (c_X11_answer Δ hN (gI st 7 y6 1) st) ⟨rfl, by decide⟩ C (nk_11_0 hN) (by decide) rfl (Nat.le_of_ble_eq_true rfl) dX11_many_74 rfl (fun x7 s8 => ?_)
    exact r_iret C dX11_many_77
  refine r_bif (fun hs9 => ?_) (fun hs9 => ?_)
  · refine r_tsHit (tgt := 78) (n := 2) C dX11_many_1 hs9 (by decide) (by decide) (by decide) rfl (by decide) ?_
    refine r_aload_n (q := 79) (i := 0) (z := 0) C dX11_many_78 rfl rfl rfl ?_
    refine r_aload_n (q := 80) (i := 0) (z := 0) C dX11_many_79 rfl rfl rfl ?_
    refine g_X11_41 (q := 83) C (nk_11_0 hN) dX11_many_80 rfl ?_
    refine g_X11_92 (q := 86) C (nk_2_0 hN) dX11_many_83 rfl ?_
    refine r_deref C (fun h => (h _ (nk_2_0 hN)).1) (fun y10 hy10 => ?_)
    refine g_X11_114 (q := 89) C hy10 dX11_many_86 rfl ?_
    refine r_callVI (q := 92) (As := [.int (gI st 7 y10 2)]) wm_X11_190 yvX11_answer (c_X11_answer Δ hN (gI st 7 y10 2) st) ⟨rfl, by decide⟩ C (nk_11_0 hN) (by decide) rfl (Nat.le_of_ble_eq_true rfl) dX11_many_89 rfl (fun x11 s12 => ?_)
    exact r_iret C dX11_many_92
  refine r_bif (fun hs13 => ?_) (fun hs13 => ?_)
  · refine r_tsHit (tgt := 93) (n := 3) C dX11_many_1 hs13 (by decide) (by decide) (by decide) rfl (by decide) ?_
    refine r_aload_n (q := 94) (i := 0) (z := 0) C dX11_many_93 rfl rfl rfl ?_
    refine r_aload_n (q := 95) (i := 0) (z := 0) C dX11_many_94 rfl rfl rfl ?_
    refine g_X11_41 (q := 98) C (nk_11_0 hN) dX11_many_95 rfl ?_
    refine g_X11_92 (q := 101) C (nk_2_0 hN) dX11_many_98 rfl ?_
    refine r_deref C (fun h => (h _ (nk_2_0 hN)).1) (fun y14 hy14 => ?_)
    refine g_X11_121 (q := 104) C hy14 dX11_many_101 rfl ?_
    refine r_callVI (q := 107) (As := [.int (gI st 7 y14 3)]) wm_X11_190 yvX11_answer (c_X11_answer Δ hN (gI st 7 y14 3) st) ⟨rfl, by decide⟩ C (nk_11_0 hN) (by decide) rfl (Nat.le_of_ble_eq_true rfl) dX11_many_104 rfl (fun x15 s16 => ?_)
    exact r_iret C dX11_many_107
  refine r_bif (fun hs17 => ?_) (fun hs17 => ?_)
  · refine r_tsHit (tgt := 108) (n := 4) C dX11_many_1 hs17 (by decide) (by decide) (by decide) rfl (by decide) ?_
    refine r_aload_n (q := 109) (i := 0) (z := 0) C dX11_many_108 rfl rfl rfl ?_
    refine r_aload_n (q := 110) (i := 0) (z := 0) C dX11_many_109 rfl rfl rfl ?_
    refine g_X11_41 (q := 113) C (nk_11_0 hN) dX11_many_110 rfl ?_
    refine g_X11_220 (q := 116) C (nk_2_0 hN) dX11_many_113 rfl ?_
    refine g_X11_224 (q := 119) C (nk_0_0 hN) dX11_many_116 rfl ?_
    refine r_callVI (q := 122) (As := [.int (gI st 0 0 0)]) wm_X11_190 yvX11_answer (c_X11_answer Δ hN (gI st 0 0 0) st) ⟨rfl, by decide⟩ C (nk_11_0 hN) (by decide) rfl (Nat.le_of_ble_eq_true rfl) dX11_many_119 rfl (fun x18 s19 => ?_)
    exact r_iret C dX11_many_122
  refine r_bif (fun hs20 => ?_) (fun hs20 => ?_)
  · refine r_tsHit (tgt := 123) (n := 5) C dX11_many_1 hs20 (by decide) (by decide) (by decide) rfl (by decide) ?_
    refine r_aload_n (q := 124) (i := 0) (z := 0) C dX11_many_123 rfl rfl rfl ?_
    refine r_aload_n (q := 125) (i := 0) (z := 0) C dX11_many_124 rfl rfl rfl ?_
    refine g_X11_41 (q := 128) C (nk_11_0 hN) dX11_many_125 rfl ?_
    refine g_X11_227 (q := 131) C (nk_2_0 hN) dX11_many_128 rfl ?_
    refine r_callVI (q := 134) (As := [.int (gI st 2 0 2)]) wm_X11_190 yvX11_answer (c_X11_answer Δ hN (gI st 2 0 2) st) ⟨rfl, by decide⟩ C (nk_11_0 hN) (by decide) rfl (Nat.le_of_ble_eq_true rfl) dX11_many_131 rfl (fun x21 s22 => ?_)
    exact r_iret C dX11_many_134
  refine r_bif (fun hs23 => ?_) (fun hs23 => ?_)
  · refine r_tsHit (tgt := 135) (n := 6) C dX11_many_1 hs23 (by decide) (by decide) (by decide) rfl (by decide) ?_
    refine r_aload_n (q := 136) (i := 0) (z := 0) C dX11_many_135 rfl rfl rfl ?_
    refine r_aload_n (q := 137) (i := 0) (z := 0) C dX11_many_136 rfl rfl rfl ?_
    refine g_X11_41 (q := 140) C (nk_11_0 hN) dX11_many_137 rfl ?_
    refine g_X11_230 (q := 143) C (nk_2_0 hN) dX11_many_140 rfl ?_
    refine r_callVI (q := 146) (As := [.int (gI st 2 0 3)]) wm_X11_190 yvX11_answer (c_X11_answer Δ hN (gI st 2 0 3) st) ⟨rfl, by decide⟩ C (nk_11_0 hN) (by decide) rfl (Nat.le_of_ble_eq_true rfl) dX11_many_143 rfl (fun x24 s25 => ?_)
    exact r_iret C dX11_many_146
  refine r_bif (fun hs26 => ?_) (fun hs26 => ?_)
  · refine r_tsHit (tgt := 147) (n := 7) C dX11_many_1 hs26 (by decide) (by decide) (by decide) rfl (by decide) ?_
    refine r_aload_n (q := 148) (i := 0) (z := 0) C dX11_many_147 rfl rfl rfl ?_
    refine r_aload_n (q := 149) (i := 0) (z := 0) C dX11_many_148 rfl rfl rfl ?_
    refine g_X11_41 (q := 152) C (nk_11_0 hN) dX11_many_149 rfl ?_
    refine g_X11_92 (q := 155) C (nk_2_0 hN) dX11_many_152 rfl ?_
    refine r_deref C (fun h => (h _ (nk_2_0 hN)).1) (fun y27 hy27 => ?_)
    refine r_callVI (q := 158) (As := []) wm_X11_233 yvX7_linesInAll (c_X7_linesInAll Δ hN y27 hy27 st) ⟨rfl, by decide⟩ C hy27 (by decide) rfl (Nat.le_of_ble_eq_true rfl) dX11_many_155 rfl (fun x28 s29 => ?_)
    refine r_callVI (q := 161) (As := [.int x28]) wm_X11_190 yvX11_answer (c_X11_answer Δ hN x28 s29) ⟨rfl, by decide⟩ C (nk_11_0 hN) (by decide) rfl (Nat.le_of_ble_eq_true rfl) dX11_many_158 rfl (fun x30 s31 => ?_)
    exact r_iret C dX11_many_161
  refine r_tsDef (tgt := 162) C dX11_many_1 (by have ehs1 := fNe hs1 0 (by decide); have ehs5 := fNe hs5 1 (by decide); have ehs9 := fNe hs9 2 (by decide); have ehs13 := fNe hs13 3 (by decide); have ehs17 := fNe hs17 4 (by decide); have ehs20 := fNe hs20 5 (by decide); have ehs23 := fNe hs23 6 (by decide); have ehs26 := fNe hs26 7 (by decide); omega) (by decide) ?_
  refine r_aload_n (q := 163) (i := 0) (z := 0) C dX11_many_162 rfl rfl rfl ?_
  refine r_iconst (q := 164) (v := 5) C dX11_many_163 rfl (by decide) ?_
  refine r_callVI (q := 167) (As := [.int ((5 : Int32))]) wm_X11_143 yvX11_fail (c_X11_fail Δ hN ((5 : Int32)) st) ⟨rfl, by decide⟩ C (nk_11_0 hN) (by decide) rfl (Nat.le_of_ble_eq_true rfl) dX11_many_164 rfl (fun x32 s33 => ?_)
  exact r_iret C dX11_many_167

noncomputable def f_X11_scene (a1 : Int32) (a2 : Int32) (st : fSt) : Option (Int32 × fSt) :=
  fBd (f_X11_hasScene a1 st) fun x1 s2 =>
  if ¬ x1 = 0 then
    (fBd (f_X11_isIn a2 ((0 : Int32)) ((8 : Int32)) s2) fun x3 s4 =>
    if ¬ x3 = 0 then
      (fNn (gP s4 2 0 0) fun y5 =>
      fBd (f_X7_ofScene y5 a1 a2 s4) fun x6 s7 =>
      fLt x6 fun (x8 : Int32) =>
      fJn (fun (x9 : Int32) (s10 : fSt) =>
        (some (x9, s10))) fun (j11 : Int32 → fSt → Option (Int32 × fSt)) =>
      if ¬ x8 = ((-1 : Int32)) then
        (fBd (f_X11_answer x8 s7) fun x12 s13 =>
        j11 x12 s13)
      else
        (fBd (f_X11_fail ((8 : Int32)) s7) fun x14 s15 =>
        j11 x14 s15))
    else
      (fBd (f_X11_fail ((5 : Int32)) s4) fun x16 s17 =>
      some (x16, s17)))
  else
    (fBd (f_X11_fail ((2 : Int32)) s2) fun x18 s19 =>
    some (x18, s19))

set_option maxHeartbeats 4000000 in
set_option maxRecDepth 100000 in
theorem c_X11_scene (Δ : fDl) (hN : fNx Δ) (a1 : Int32) (a2 : Int32)  (st : fSt) : fMt eI Δ yX11_scene cX11_scene 4 (some .int) 4 [.ref (fad Δ 11 0 0), .int a1, .int a2] st (f_X11_scene a1 a2 st) := by
  unfold f_X11_scene
  refine r_method (by decide +kernel) (Nat.le_of_ble_eq_true rfl) (fun Γ C => ?_)
  have C : fC Δ Γ cX11_scene RX11 4 (some .int) 4 := C
  refine r_locs (lc' := [(0, .ref (fad Δ 11 0 0)), (1, .int a1), (2, .int a2)]) [0, 1, 2] rfl ?_
  refine r_aload_n (q := 1) (i := 0) (z := 0) C dX11_scene_0 rfl rfl rfl ?_
  refine r_iload_n (q := 2) (i := 1) (z := 1) C dX11_scene_1 rfl rfl rfl ?_
  refine r_callVI (q := 5) (As := [.int a1]) wm_X11_237 yvX11_hasScene (c_X11_hasScene Δ hN a1 st) ⟨rfl, by decide⟩ C (nk_11_0 hN) (by decide) rfl (Nat.le_of_ble_eq_true rfl) dX11_scene_2 rfl (fun x1 s2 => ?_)
  refine r_if_ne (q := 8) (tgt := 14) C dX11_scene_5 (by decide) rfl ?_ ?_
  · refine r_iload_n (q := 15) (i := 2) (z := 2) C dX11_scene_14 rfl rfl rfl ?_
    refine r_iconst (q := 16) (v := 0) C dX11_scene_15 rfl (by decide) ?_
    refine r_bipush (q := 18) (v := 8) C dX11_scene_16 rfl (by decide) ?_
    refine r_callSI (q := 21) (As := [.int a2, .int ((0 : Int32)), .int ((8 : Int32))]) wm_X11_127 ysX11_isIn (c_X11_isIn Δ hN a2 ((0 : Int32)) ((8 : Int32)) s2) C (by decide) rfl (Nat.le_of_ble_eq_true rfl) dX11_scene_18 rfl (fun x3 s4 => ?_)
    refine r_if_ne (q := 24) (tgt := 30) C dX11_scene_21 (by decide) rfl ?_ ?_
    · refine r_aload_n (q := 31) (i := 0) (z := 0) C dX11_scene_30 rfl rfl rfl ?_
      refine g_X11_41 (q := 34) C (nk_11_0 hN) dX11_scene_31 rfl ?_
      refine g_X11_92 (q := 37) C (nk_2_0 hN) dX11_scene_34 rfl ?_
      refine r_deref C (fun h => (h _ (nk_2_0 hN)).1) (fun y5 hy5 => ?_)
      refine r_iload_n (q := 38) (i := 1) (z := 1) C dX11_scene_37 rfl rfl rfl ?_
      refine r_iload_n (q := 39) (i := 2) (z := 2) C dX11_scene_38 rfl rfl rfl ?_
      refine r_callVI (q := 42) (As := [.int a1, .int a2]) wm_X11_240 yvX7_ofScene (c_X7_ofScene Δ hN y5 a1 a2 hy5 s4) ⟨rfl, by decide⟩ C hy5 (by decide) rfl (Nat.le_of_ble_eq_true rfl) dX11_scene_39 rfl (fun x6 s7 => ?_)
      refine r_istore_n (q := 43) (i := 3) [(0, .ref (fad Δ 11 0 0)), (1, .int a1), (2, .int a2)] C dX11_scene_42 rfl rfl (by decide) rfl (fun x8 => ?_)
      refine r_iload_n (q := 44) (i := 3) (z := 0) C dX11_scene_43 rfl rfl rfl ?_
      refine r_iconst (q := 45) (v := (-1)) C dX11_scene_44 rfl (by decide) ?_
      refine r_join (fun j11 => ∀ (x9 : Int32) (s10 : fSt), fW Δ Γ 4 (fQ eI Δ Γ) 62 [] [.int x9] s10 (j11 x9 s10)) ?_ (fun j11 hj11 => ?_)
      · intro x9 s10
        exact r_iret C dX11_scene_62
      refine r_icmp_ne (q := 48) (tgt := 57) C dX11_scene_45 (by decide) rfl ?_ ?_
      · refine r_aload_n (q := 58) (i := 0) (z := 1) C dX11_scene_57 rfl rfl rfl ?_
        refine r_iload_n (q := 59) (i := 3) (z := 0) C dX11_scene_58 rfl rfl rfl ?_
        refine r_callVI (q := 62) (As := [.int x8]) wm_X11_190 yvX11_answer (c_X11_answer Δ hN x8 s7) ⟨rfl, by decide⟩ C (nk_11_0 hN) (by decide) rfl (Nat.le_of_ble_eq_true rfl) dX11_scene_59 rfl (fun x12 s13 => ?_)
        refine r_locs (lc' := []) [] rfl ?_
        exact hj11 x12 s13
      · refine r_aload_n (q := 49) (i := 0) (z := 1) C dX11_scene_48 rfl rfl rfl ?_
        refine r_bipush (q := 51) (v := 8) C dX11_scene_49 rfl (by decide) ?_
        refine r_callVI (q := 54) (As := [.int ((8 : Int32))]) wm_X11_143 yvX11_fail (c_X11_fail Δ hN ((8 : Int32)) s7) ⟨rfl, by decide⟩ C (nk_11_0 hN) (by decide) rfl (Nat.le_of_ble_eq_true rfl) dX11_scene_51 rfl (fun x14 s15 => ?_)
        refine r_goto (q := 62) C dX11_scene_54 (by decide) ?_
        refine r_locs (lc' := []) [] rfl ?_
        exact hj11 x14 s15
    · refine r_aload_n (q := 25) (i := 0) (z := 0) C dX11_scene_24 rfl rfl rfl ?_
      refine r_iconst (q := 26) (v := 5) C dX11_scene_25 rfl (by decide) ?_
      refine r_callVI (q := 29) (As := [.int ((5 : Int32))]) wm_X11_143 yvX11_fail (c_X11_fail Δ hN ((5 : Int32)) s4) ⟨rfl, by decide⟩ C (nk_11_0 hN) (by decide) rfl (Nat.le_of_ble_eq_true rfl) dX11_scene_26 rfl (fun x16 s17 => ?_)
      exact r_iret C dX11_scene_29
  · refine r_aload_n (q := 9) (i := 0) (z := 0) C dX11_scene_8 rfl rfl rfl ?_
    refine r_iconst (q := 10) (v := 2) C dX11_scene_9 rfl (by decide) ?_
    refine r_callVI (q := 13) (As := [.int ((2 : Int32))]) wm_X11_143 yvX11_fail (c_X11_fail Δ hN ((2 : Int32)) s2) ⟨rfl, by decide⟩ C (nk_11_0 hN) (by decide) rfl (Nat.le_of_ble_eq_true rfl) dX11_scene_10 rfl (fun x18 s19 => ?_)
    exact r_iret C dX11_scene_13

noncomputable def f_X11_kind (a1 : Int32) (a2 : Int32) (st : fSt) : Option (Int32 × fSt) :=
  fBd (f_X11_hasKind a1 st) fun x1 s2 =>
  if ¬ x1 = 0 then
    (fBd (f_X11_isIn a2 ((0 : Int32)) ((3 : Int32)) s2) fun x3 s4 =>
    if ¬ x3 = 0 then
      (fJn (fun (x5 : Int32) (s6 : fSt) =>
        (fBd (f_X11_answer x5 s6) fun x8 s9 =>
        some (x8, s9))) fun (j7 : Int32 → fSt → Option (Int32 × fSt)) =>
      if ¬ a2 = 0 then
        (fNn (gP s4 2 0 0) fun y10 =>
        fIx ((a1 * ((4 : Int32))) + a2) 16 <|
        j7 (gA s4 7 y10 14 ((a1 * ((4 : Int32))) + a2).toNatClampNeg) s4)
      else
        (fNn (gP s4 2 0 0) fun y11 =>
        fIx a1 4 <|
        j7 (gA s4 7 y11 13 a1.toNatClampNeg) s4))
    else
      (fBd (f_X11_fail ((5 : Int32)) s4) fun x12 s13 =>
      some (x12, s13)))
  else
    (fBd (f_X11_fail ((2 : Int32)) s2) fun x14 s15 =>
    some (x14, s15))

set_option maxHeartbeats 4000000 in
set_option maxRecDepth 100000 in
theorem c_X11_kind (Δ : fDl) (hN : fNx Δ) (a1 : Int32) (a2 : Int32)  (st : fSt) : fMt eI Δ yX11_kind cX11_kind 3 (some .int) 3 [.ref (fad Δ 11 0 0), .int a1, .int a2] st (f_X11_kind a1 a2 st) := by
  unfold f_X11_kind
  refine r_method (by decide +kernel) (Nat.le_of_ble_eq_true rfl) (fun Γ C => ?_)
  have C : fC Δ Γ cX11_kind RX11 3 (some .int) 3 := C
  refine r_locs (lc' := [(0, .ref (fad Δ 11 0 0)), (1, .int a1), (2, .int a2)]) [0, 1, 2] rfl ?_
  refine r_aload_n (q := 1) (i := 0) (z := 0) C dX11_kind_0 rfl rfl rfl ?_
  refine r_iload_n (q := 2) (i := 1) (z := 1) C dX11_kind_1 rfl rfl rfl ?_
  refine r_callVI (q := 5) (As := [.int a1]) wm_X11_243 yvX11_hasKind (c_X11_hasKind Δ hN a1 st) ⟨rfl, by decide⟩ C (nk_11_0 hN) (by decide) rfl (Nat.le_of_ble_eq_true rfl) dX11_kind_2 rfl (fun x1 s2 => ?_)
  refine r_if_ne (q := 8) (tgt := 14) C dX11_kind_5 (by decide) rfl ?_ ?_
  · refine r_iload_n (q := 15) (i := 2) (z := 2) C dX11_kind_14 rfl rfl rfl ?_
    refine r_iconst (q := 16) (v := 0) C dX11_kind_15 rfl (by decide) ?_
    refine r_iconst (q := 17) (v := 3) C dX11_kind_16 rfl (by decide) ?_
    refine r_callSI (q := 20) (As := [.int a2, .int ((0 : Int32)), .int ((3 : Int32))]) wm_X11_127 ysX11_isIn (c_X11_isIn Δ hN a2 ((0 : Int32)) ((3 : Int32)) s2) C (by decide) rfl (Nat.le_of_ble_eq_true rfl) dX11_kind_17 rfl (fun x3 s4 => ?_)
    refine r_if_ne (q := 23) (tgt := 29) C dX11_kind_20 (by decide) rfl ?_ ?_
    · refine r_aload_n (q := 30) (i := 0) (z := 0) C dX11_kind_29 rfl rfl rfl ?_
      refine r_iload_n (q := 31) (i := 2) (z := 2) C dX11_kind_30 rfl rfl rfl ?_
      refine r_join (fun j7 => ∀ (x5 : Int32) (s6 : fSt), fW Δ Γ 3 (fQ eI Δ Γ) 65 [] [.int x5, .ref (fad Δ 11 0 0)] s6 (j7 x5 s6)) ?_ (fun j7 hj7 => ?_)
      · intro x5 s6
        refine r_callVI (q := 68) (As := [.int x5]) wm_X11_190 yvX11_answer (c_X11_answer Δ hN x5 s6) ⟨rfl, by decide⟩ C (nk_11_0 hN) (by decide) rfl (Nat.le_of_ble_eq_true rfl) dX11_kind_65 rfl (fun x8 s9 => ?_)
        exact r_iret C dX11_kind_68
      refine r_if_ne (q := 34) (tgt := 49) C dX11_kind_31 (by decide) rfl ?_ ?_
      · refine r_aload_n (q := 50) (i := 0) (z := 0) C dX11_kind_49 rfl rfl rfl ?_
        refine g_X11_41 (q := 53) C (nk_11_0 hN) dX11_kind_50 rfl ?_
        refine g_X11_92 (q := 56) C (nk_2_0 hN) dX11_kind_53 rfl ?_
        refine r_deref C (fun h => (h _ (nk_2_0 hN)).1) (fun y10 hy10 => ?_)
        refine g_X11_249 (q := 59) C hy10 dX11_kind_56 rfl ?_
        refine r_iload_n (q := 60) (i := 1) (z := 1) C dX11_kind_59 rfl rfl rfl ?_
        refine r_iconst (q := 61) (v := 4) C dX11_kind_60 rfl (by decide) ?_
        refine r_imul (q := 62) C dX11_kind_61 rfl ?_
        refine r_iload_n (q := 63) (i := 2) (z := 2) C dX11_kind_62 rfl rfl rfl ?_
        refine r_iadd (q := 64) C dX11_kind_63 rfl ?_
        refine r_ial (q := 65) q_7_14 h_7_14 C hy10 dX11_kind_64 rfl ?_
        refine r_locs (lc' := []) [] rfl ?_
        exact hj7 (gA s4 7 y10 14 ((a1 * ((4 : Int32))) + a2).toNatClampNeg) s4
      · refine r_aload_n (q := 35) (i := 0) (z := 0) C dX11_kind_34 rfl rfl rfl ?_
        refine g_X11_41 (q := 38) C (nk_11_0 hN) dX11_kind_35 rfl ?_
        refine g_X11_92 (q := 41) C (nk_2_0 hN) dX11_kind_38 rfl ?_
        refine r_deref C (fun h => (h _ (nk_2_0 hN)).1) (fun y11 hy11 => ?_)
        refine g_X11_246 (q := 44) C hy11 dX11_kind_41 rfl ?_
        refine r_iload_n (q := 45) (i := 1) (z := 1) C dX11_kind_44 rfl rfl rfl ?_
        refine r_ial (q := 46) q_7_13 h_7_13 C hy11 dX11_kind_45 rfl ?_
        refine r_goto (q := 65) C dX11_kind_46 (by decide) ?_
        refine r_locs (lc' := []) [] rfl ?_
        exact hj7 (gA s4 7 y11 13 a1.toNatClampNeg) s4
    · refine r_aload_n (q := 24) (i := 0) (z := 0) C dX11_kind_23 rfl rfl rfl ?_
      refine r_iconst (q := 25) (v := 5) C dX11_kind_24 rfl (by decide) ?_
      refine r_callVI (q := 28) (As := [.int ((5 : Int32))]) wm_X11_143 yvX11_fail (c_X11_fail Δ hN ((5 : Int32)) s4) ⟨rfl, by decide⟩ C (nk_11_0 hN) (by decide) rfl (Nat.le_of_ble_eq_true rfl) dX11_kind_25 rfl (fun x12 s13 => ?_)
      exact r_iret C dX11_kind_28
  · refine r_aload_n (q := 9) (i := 0) (z := 0) C dX11_kind_8 rfl rfl rfl ?_
    refine r_iconst (q := 10) (v := 2) C dX11_kind_9 rfl (by decide) ?_
    refine r_callVI (q := 13) (As := [.int ((2 : Int32))]) wm_X11_143 yvX11_fail (c_X11_fail Δ hN ((2 : Int32)) s2) ⟨rfl, by decide⟩ C (nk_11_0 hN) (by decide) rfl (Nat.le_of_ble_eq_true rfl) dX11_kind_10 rfl (fun x14 s15 => ?_)
    exact r_iret C dX11_kind_13
