noncomputable def f_X12_isIn (a0 : Int64) (a2 : Int64) (a4 : Int64) (st : fSt) : Option (Int32 × fSt) :=
  fJn (fun (x1 : Int32) (s2 : fSt) =>
    (fBo x1 (some (x1, s2)))) fun (j3 : Int32 → fSt → Option (Int32 × fSt)) =>
  fJn (fun (s4 : fSt) =>
    (j3 ((0 : Int32)) s4)) fun (j5 : fSt → Option (Int32 × fSt)) =>
  if (lg_cmp a0 a2) < 0 then
    (j5 st)
  else
    (if 0 < (lg_cmp a0 a4) then
      (j5 st)
    else
      (j3 ((1 : Int32)) st))

set_option maxHeartbeats 4000000 in
set_option maxRecDepth 100000 in
theorem c_X12_isIn (Δ : fDl) (hN : fNm Δ) (a0 : Int64) (a2 : Int64) (a4 : Int64)  (st : fSt) : fMt eI Δ yX12_isIn cX12_isIn 6 (some .boolean) 1 [.long a0, .long a2, .long a4] st (f_X12_isIn a0 a2 a4 st) := by
  unfold f_X12_isIn
  refine r_method (by decide +kernel) (Nat.le_of_ble_eq_true rfl) (fun Γ C => ?_)
  have C : fC Δ Γ cX12_isIn RX12 6 (some .boolean) 1 := C
  refine r_locs (lc' := [(0, .long a0), (2, .long a2), (4, .long a4)]) [0, 1, 2] rfl ?_
  refine r_lload_n (q := 1) (i := 0) (z := 0) C dX12_isIn_0 rfl rfl rfl ?_
  refine r_lload_n (q := 2) (i := 2) (z := 1) C dX12_isIn_1 rfl rfl rfl ?_
  refine r_lcmp (q := 3) C dX12_isIn_2 rfl ?_
  refine r_join (fun j3 => ∀ (x1 : Int32) (s2 : fSt), fW Δ Γ 6 (fQ eI Δ Γ) 18 [] [.int x1] s2 (j3 x1 s2)) ?_ (fun j3 hj3 => ?_)
  · intro x1 s2
    exact r_zret C dX12_isIn_18
  refine r_join (fun j5 => ∀  (s4 : fSt), fW Δ Γ 6 (fQ eI Δ Γ) 17 [] [] s4 (j5 s4)) ?_ (fun j5 hj5 => ?_)
  · intro s4
    refine r_iconst (q := 18) (v := 0) C dX12_isIn_17 rfl (by decide) ?_
    exact hj3 ((0 : Int32)) s4
  refine r_if_lt (q := 6) (tgt := 17) C dX12_isIn_3 (by decide) rfl ?_ ?_
  · refine r_locs (lc' := []) [] rfl ?_
    exact hj5 st
  · refine r_lload_n (q := 7) (i := 0) (z := 0) C dX12_isIn_6 rfl rfl rfl ?_
    refine r_lload (q := 9) (i := 4) (z := 2) C dX12_isIn_7 rfl rfl ?_
    refine r_lcmp (q := 10) C dX12_isIn_9 rfl ?_
    refine r_if_gt (q := 13) (tgt := 17) C dX12_isIn_10 (by decide) rfl ?_ ?_
    · refine r_locs (lc' := []) [] rfl ?_
      exact hj5 st
    · refine r_iconst (q := 14) (v := 1) C dX12_isIn_13 rfl (by decide) ?_
      refine r_goto (q := 18) C dX12_isIn_14 (by decide) ?_
      refine r_locs (lc' := []) [] rfl ?_
      exact hj3 ((1 : Int32)) st

noncomputable def f_X12_isActorAt (a1 : Int32) (st : fSt) : Option (Int32 × fSt) :=
  fIx ((1 : Int32)) 2150 <|
  fBd (f_X12_isIn a1.toInt64 ((0 : Int64)) (((gA st 12 0 5 ((1 : Int32)).toNatClampNeg) - ((1 : Int32))).toInt64) st) fun x1 s2 =>
  fBo x1 (some (x1, s2))

set_option maxHeartbeats 4000000 in
set_option maxRecDepth 100000 in
theorem c_X12_isActorAt (Δ : fDl) (hN : fNm Δ) (a1 : Int32)  (st : fSt) : fMt eI Δ yX12_isActorAt cX12_isActorAt 2 (some .boolean) 2 [.ref (fad Δ 12 0 0), .int a1] st (f_X12_isActorAt a1 st) := by
  unfold f_X12_isActorAt
  refine r_method (by decide +kernel) (Nat.le_of_ble_eq_true rfl) (fun Γ C => ?_)
  have C : fC Δ Γ cX12_isActorAt RX12 2 (some .boolean) 2 := C
  refine r_locs (lc' := [(0, .ref (fad Δ 12 0 0)), (1, .int a1)]) [0, 1] rfl ?_
  refine r_iload_n (q := 1) (i := 1) (z := 1) C dX12_isActorAt_0 rfl rfl rfl ?_
  refine r_i2l (q := 2) C dX12_isActorAt_1 rfl ?_
  refine r_lconst (q := 3) (v := 0) C dX12_isActorAt_2 rfl (by decide) ?_
  refine r_aload_n (q := 4) (i := 0) (z := 0) C dX12_isActorAt_3 rfl rfl rfl ?_
  refine g_X12_35 (q := 7) C (nm_12 hN) dX12_isActorAt_4 rfl ?_
  refine r_iconst (q := 8) (v := 1) C dX12_isActorAt_7 rfl (by decide) ?_
  refine r_ial (q := 9) q_12_5 h_12_5 C (nm_12 hN) dX12_isActorAt_8 rfl ?_
  refine r_iconst (q := 10) (v := 1) C dX12_isActorAt_9 rfl (by decide) ?_
  refine r_isub (q := 11) C dX12_isActorAt_10 rfl ?_
  refine r_i2l (q := 12) C dX12_isActorAt_11 rfl ?_
  refine r_callSI (q := 15) (As := [.long a1.toInt64, .long ((0 : Int64)), .long (((gA st 12 0 5 ((1 : Int32)).toNatClampNeg) - ((1 : Int32))).toInt64)]) wm_X12_129 ysX12_isIn (c_X12_isIn Δ hN a1.toInt64 ((0 : Int64)) (((gA st 12 0 5 ((1 : Int32)).toNatClampNeg) - ((1 : Int32))).toInt64) st) C (by decide) rfl (Nat.le_of_ble_eq_true rfl) dX12_isActorAt_12 rfl (fun x1 s2 => ?_)
  exact r_zret C dX12_isActorAt_15

noncomputable def f_X12_refuse (a1 : Int32) (st : fSt) : Option (Int32 × fSt) :=
  fLt (sI st 12 0 0 a1) fun s1 =>
  some ((-1 : Int32), s1)

set_option maxHeartbeats 4000000 in
set_option maxRecDepth 100000 in
theorem c_X12_refuse (Δ : fDl) (hN : fNm Δ) (a1 : Int32)  (st : fSt) : fMt eI Δ yX12_refuse cX12_refuse 2 (some .int) 1 [.ref (fad Δ 12 0 0), .int a1] st (f_X12_refuse a1 st) := by
  unfold f_X12_refuse
  refine r_method (by decide +kernel) (Nat.le_of_ble_eq_true rfl) (fun Γ C => ?_)
  have C : fC Δ Γ cX12_refuse RX12 2 (some .int) 1 := C
  refine r_locs (lc' := [(0, .ref (fad Δ 12 0 0)), (1, .int a1)]) [0, 1] rfl ?_
  refine r_aload_n (q := 1) (i := 0) (z := 0) C dX12_refuse_0 rfl rfl rfl ?_
  refine r_iload_n (q := 2) (i := 1) (z := 1) C dX12_refuse_1 rfl rfl rfl ?_
  refine p_X12_93 (q := 5) C (nm_12 hN) dX12_refuse_2 rfl (fun s1 => ?_)
  refine r_iconst (q := 6) (v := (-1)) C dX12_refuse_5 rfl (by decide) ?_
  exact r_iret C dX12_refuse_6

noncomputable def f_X12_actor (a1 : Int32) (a2 : Int32) (st : fSt) : Option (Int32 × fSt) :=
  fLt (sI st 12 0 1 ((0 : Int32))) fun s1 =>
  fLt (sI s1 12 0 0 ((0 : Int32))) fun s2 =>
  fBd (f_X12_isActorAt a1 s2) fun x3 s4 =>
  if ¬ x3 = 0 then
    (if a2 = (0 : Int32) then
      (fIx (((7 : Int32)) + a1) 2150 <|
      some (gA s4 12 0 5 (((7 : Int32)) + a1).toNatClampNeg, s4))
    else
    if a2 = (1 : Int32) then
      (fIx (((13 : Int32)) + a1) 2150 <|
      some (gA s4 12 0 5 (((13 : Int32)) + a1).toNatClampNeg, s4))
    else
    if a2 = (2 : Int32) then
      (fIx (((19 : Int32)) + a1) 2150 <|
      some (gA s4 12 0 5 (((19 : Int32)) + a1).toNatClampNeg, s4))
    else
    fBd (f_X12_refuse ((5 : Int32)) s4) fun x8 s9 =>
    some (x8, s9))
  else
    (fBd (f_X12_refuse ((2 : Int32)) s4) fun x10 s11 =>
    some (x10, s11))

set_option maxHeartbeats 4000000 in
set_option maxRecDepth 100000 in
theorem c_X12_actor (Δ : fDl) (hN : fNm Δ) (a1 : Int32) (a2 : Int32)  (st : fSt) : fMt eI Δ yX12_actor cX12_actor 3 (some .int) 3 [.ref (fad Δ 12 0 0), .int a1, .int a2] st (f_X12_actor a1 a2 st) := by
  unfold f_X12_actor
  refine r_method (by decide +kernel) (Nat.le_of_ble_eq_true rfl) (fun Γ C => ?_)
  have C : fC Δ Γ cX12_actor RX12 3 (some .int) 3 := C
  refine r_locs (lc' := [(0, .ref (fad Δ 12 0 0)), (1, .int a1), (2, .int a2)]) [0, 1, 2] rfl ?_
  refine r_aload_n (q := 1) (i := 0) (z := 0) C dX12_actor_0 rfl rfl rfl ?_
  refine r_iconst (q := 2) (v := 0) C dX12_actor_1 rfl (by decide) ?_
  refine p_X12_90 (q := 5) C (nm_12 hN) dX12_actor_2 rfl (fun s1 => ?_)
  refine r_aload_n (q := 6) (i := 0) (z := 0) C dX12_actor_5 rfl rfl rfl ?_
  refine r_iconst (q := 7) (v := 0) C dX12_actor_6 rfl (by decide) ?_
  refine p_X12_93 (q := 10) C (nm_12 hN) dX12_actor_7 rfl (fun s2 => ?_)
  refine r_aload_n (q := 11) (i := 0) (z := 0) C dX12_actor_10 rfl rfl rfl ?_
  refine r_iload_n (q := 12) (i := 1) (z := 1) C dX12_actor_11 rfl rfl rfl ?_
  refine r_callVI (q := 15) (As := [.int a1]) wm_X12_363 yvX12_isActorAt (c_X12_isActorAt Δ hN a1 s2) ⟨rfl, by decide⟩ C (nm_12 hN) (by decide) rfl (Nat.le_of_ble_eq_true rfl) dX12_actor_12 rfl (fun x3 s4 => ?_)
  refine r_if_ne (q := 18) (tgt := 24) C dX12_actor_15 (by decide) rfl ?_ ?_
  · refine r_iload_n (q := 25) (i := 2) (z := 2) C dX12_actor_24 rfl rfl rfl ?_
    refine r_bif (fun hs5 => ?_) (fun hs5 => ?_)
    · refine r_tsHit (tgt := 52) (n := 0) C dX12_actor_25 hs5 (by decide) (by decide) (by decide) rfl (by decide) ?_
      refine r_aload_n (q := 53) (i := 0) (z := 0) C dX12_actor_52 rfl rfl rfl ?_
      refine g_X12_35 (q := 56) C (nm_12 hN) dX12_actor_53 rfl ?_
      refine r_bipush (q := 58) (v := 7) C dX12_actor_56 rfl (by decide) ?_
      refine r_iload_n (q := 59) (i := 1) (z := 1) C dX12_actor_58 rfl rfl rfl ?_
      refine r_iadd (q := 60) C dX12_actor_59 rfl ?_
      refine r_ial (q := 61) q_12_5 h_12_5 C (nm_12 hN) dX12_actor_60 rfl ?_
      exact r_iret C dX12_actor_61
    refine r_bif (fun hs6 => ?_) (fun hs6 => ?_)
    · refine r_tsHit (tgt := 62) (n := 1) C dX12_actor_25 hs6 (by decide) (by decide) (by decide) rfl (by decide) ?_
      refine r_aload_n (q := 63) (i := 0) (z := 0) C dX12_actor_62 rfl rfl rfl ?_
      refine g_X12_35 (q := 66) C (nm_12 hN) dX12_actor_63 rfl ?_
      refine r_bipush (q := 68) (v := 13) C dX12_actor_66 rfl (by decide) ?_
      refine r_iload_n (q := 69) (i := 1) (z := 1) C dX12_actor_68 rfl rfl rfl ?_
      refine r_iadd (q := 70) C dX12_actor_69 rfl ?_
      refine r_ial (q := 71) q_12_5 h_12_5 C (nm_12 hN) dX12_actor_70 rfl ?_
      exact r_iret C dX12_actor_71
    refine r_bif (fun hs7 => ?_) (fun hs7 => ?_)
    · refine r_tsHit (tgt := 72) (n := 2) C dX12_actor_25 hs7 (by decide) (by decide) (by decide) rfl (by decide) ?_
      refine r_aload_n (q := 73) (i := 0) (z := 0) C dX12_actor_72 rfl rfl rfl ?_
      refine g_X12_35 (q := 76) C (nm_12 hN) dX12_actor_73 rfl ?_
      refine r_bipush (q := 78) (v := 19) C dX12_actor_76 rfl (by decide) ?_
      refine r_iload_n (q := 79) (i := 1) (z := 1) C dX12_actor_78 rfl rfl rfl ?_
      refine r_iadd (q := 80) C dX12_actor_79 rfl ?_
      refine r_ial (q := 81) q_12_5 h_12_5 C (nm_12 hN) dX12_actor_80 rfl ?_
      exact r_iret C dX12_actor_81
    refine r_tsDef (tgt := 82) C dX12_actor_25 (by have ehs5 := fNe hs5 0 (by decide); have ehs6 := fNe hs6 1 (by decide); have ehs7 := fNe hs7 2 (by decide); omega) (by decide) ?_
    refine r_aload_n (q := 83) (i := 0) (z := 0) C dX12_actor_82 rfl rfl rfl ?_
    refine r_iconst (q := 84) (v := 5) C dX12_actor_83 rfl (by decide) ?_
    refine r_callVI (q := 87) (As := [.int ((5 : Int32))]) wm_X12_348 yvX12_refuse (c_X12_refuse Δ hN ((5 : Int32)) s4) ⟨rfl, by decide⟩ C (nm_12 hN) (by decide) rfl (Nat.le_of_ble_eq_true rfl) dX12_actor_84 rfl (fun x8 s9 => ?_)
    exact r_iret C dX12_actor_87
  · refine r_aload_n (q := 19) (i := 0) (z := 0) C dX12_actor_18 rfl rfl rfl ?_
    refine r_iconst (q := 20) (v := 2) C dX12_actor_19 rfl (by decide) ?_
    refine r_callVI (q := 23) (As := [.int ((2 : Int32))]) wm_X12_348 yvX12_refuse (c_X12_refuse Δ hN ((2 : Int32)) s4) ⟨rfl, by decide⟩ C (nm_12 hN) (by decide) rfl (Nat.le_of_ble_eq_true rfl) dX12_actor_20 rfl (fun x10 s11 => ?_)
    exact r_iret C dX12_actor_23

noncomputable def f_X12_allLines_L4  : Nat → Int32 → Int32 → fSt → Option (Int32 × fSt)
  | 0, _, _, _ => none
  | n6 + 1, x3, x4, s5 =>
      fIx ((2 : Int32)) 2150 <|
      if (gA s5 12 0 5 ((2 : Int32)).toNatClampNeg) ≤ x4 then
        (some (x3, s5))
      else
        (fIx (((25 : Int32)) + x4) 2150 <|
        fLt (x3 + (gA s5 12 0 5 (((25 : Int32)) + x4).toNatClampNeg)) fun (x7 : Int32) =>
        fLt (x4 + (1 : Int32)) fun (x8 : Int32) =>
        f_X12_allLines_L4 n6 x7 x8 s5)

noncomputable def f_X12_allLines  (st : fSt) : Option (Int32 × fSt) :=
  fLt ((0 : Int32)) fun (x1 : Int32) =>
  fLt ((0 : Int32)) fun (x2 : Int32) =>
  f_X12_allLines_L4 fF x1 x2 st

set_option maxHeartbeats 4000000 in
set_option maxRecDepth 100000 in
theorem c_X12_allLines (Δ : fDl) (hN : fNm Δ)   (st : fSt) : fMt eI Δ yX12_allLines cX12_allLines 3 (some .int) 1 [.ref (fad Δ 12 0 0)] st (f_X12_allLines  st) := by
  unfold f_X12_allLines
  refine r_method (by decide +kernel) (Nat.le_of_ble_eq_true rfl) (fun Γ C => ?_)
  have C : fC Δ Γ cX12_allLines RX12 3 (some .int) 1 := C
  refine r_locs (lc' := [(0, .ref (fad Δ 12 0 0))]) [0] rfl ?_
  refine r_iconst (q := 1) (v := 0) C dX12_allLines_0 rfl (by decide) ?_
  refine r_istore_n (q := 2) (i := 1) [(0, .ref (fad Δ 12 0 0))] C dX12_allLines_1 rfl rfl (by decide) rfl (fun x1 => ?_)
  refine r_iconst (q := 3) (v := 0) C dX12_allLines_2 rfl (by decide) ?_
  refine r_istore_n (q := 4) (i := 2) [(1, .int x1), (0, .ref (fad Δ 12 0 0))] C dX12_allLines_3 rfl rfl (by decide) rfl (fun x2 => ?_)
  refine r_locs (lc' := [(0, .ref (fad Δ 12 0 0)), (1, .int x1), (2, .int x2)]) [2, 1, 0] rfl ?_
  have L4 : ∀ (n6 : Nat) (x3 : Int32) (x4 : Int32) (s5 : fSt), fW Δ Γ 3 (fQ eI Δ Γ) 4 [(0, .ref (fad Δ 12 0 0)), (1, .int x3), (2, .int x4)] [] s5 (f_X12_allLines_L4 n6 x3 x4 s5) := by
    intro n6
    induction n6 with
    | zero =>
      intro x3 x4 s5
      rw [f_X12_allLines_L4]
      exact r_none
    | succ n6 ih_n6 =>
      intro x3 x4 s5
      rw [f_X12_allLines_L4]
      refine r_iload_n (q := 5) (i := 2) (z := 2) C dX12_allLines_4 rfl rfl rfl ?_
      refine r_aload_n (q := 6) (i := 0) (z := 0) C dX12_allLines_5 rfl rfl rfl ?_
      refine g_X12_35 (q := 9) C (nm_12 hN) dX12_allLines_6 rfl ?_
      refine r_iconst (q := 10) (v := 2) C dX12_allLines_9 rfl (by decide) ?_
      refine r_ial (q := 11) q_12_5 h_12_5 C (nm_12 hN) dX12_allLines_10 rfl ?_
      refine r_icmp_ge (q := 14) (tgt := 32) C dX12_allLines_11 (by decide) rfl ?_ ?_
      · refine r_iload_n (q := 33) (i := 1) (z := 1) C dX12_allLines_32 rfl rfl rfl ?_
        exact r_iret C dX12_allLines_33
      · refine r_iload_n (q := 15) (i := 1) (z := 1) C dX12_allLines_14 rfl rfl rfl ?_
        refine r_aload_n (q := 16) (i := 0) (z := 0) C dX12_allLines_15 rfl rfl rfl ?_
        refine g_X12_35 (q := 19) C (nm_12 hN) dX12_allLines_16 rfl ?_
        refine r_bipush (q := 21) (v := 25) C dX12_allLines_19 rfl (by decide) ?_
        refine r_iload_n (q := 22) (i := 2) (z := 2) C dX12_allLines_21 rfl rfl rfl ?_
        refine r_iadd (q := 23) C dX12_allLines_22 rfl ?_
        refine r_ial (q := 24) q_12_5 h_12_5 C (nm_12 hN) dX12_allLines_23 rfl ?_
        refine r_iadd (q := 25) C dX12_allLines_24 rfl ?_
        refine r_istore_n (q := 26) (i := 1) [(0, .ref (fad Δ 12 0 0)), (2, .int x4)] C dX12_allLines_25 rfl rfl (by decide) rfl (fun x7 => ?_)
        refine r_iinc (q := 29) (z := 2) (d := 1) [(1, .int x7), (0, .ref (fad Δ 12 0 0))] C dX12_allLines_26 rfl rfl (by decide) (by decide) rfl (fun x8 => ?_)
        refine r_goto (q := 4) C dX12_allLines_29 (by decide) ?_
        refine r_locs (lc' := [(0, .ref (fad Δ 12 0 0)), (1, .int x7), (2, .int x8)]) [2, 1, 0] rfl ?_
        exact ih_n6 x7 x8 s5
  exact L4 fF x1 x2 st

noncomputable def f_X12_allLots_L4  : Nat → Int32 → Int32 → fSt → Option (Int32 × fSt)
  | 0, _, _, _ => none
  | n6 + 1, x3, x4, s5 =>
      fIx ((3 : Int32)) 2150 <|
      if (gA s5 12 0 5 ((3 : Int32)).toNatClampNeg) ≤ x4 then
        (some (x3, s5))
      else
        (fIx (((121 : Int32)) + x4) 2150 <|
        fLt (x3 + (gA s5 12 0 5 (((121 : Int32)) + x4).toNatClampNeg)) fun (x7 : Int32) =>
        fLt (x4 + (1 : Int32)) fun (x8 : Int32) =>
        f_X12_allLots_L4 n6 x7 x8 s5)

noncomputable def f_X12_allLots  (st : fSt) : Option (Int32 × fSt) :=
  fLt ((0 : Int32)) fun (x1 : Int32) =>
  fLt ((0 : Int32)) fun (x2 : Int32) =>
  f_X12_allLots_L4 fF x1 x2 st

set_option maxHeartbeats 4000000 in
set_option maxRecDepth 100000 in
theorem c_X12_allLots (Δ : fDl) (hN : fNm Δ)   (st : fSt) : fMt eI Δ yX12_allLots cX12_allLots 3 (some .int) 1 [.ref (fad Δ 12 0 0)] st (f_X12_allLots  st) := by
  unfold f_X12_allLots
  refine r_method (by decide +kernel) (Nat.le_of_ble_eq_true rfl) (fun Γ C => ?_)
  have C : fC Δ Γ cX12_allLots RX12 3 (some .int) 1 := C
  refine r_locs (lc' := [(0, .ref (fad Δ 12 0 0))]) [0] rfl ?_
  refine r_iconst (q := 1) (v := 0) C dX12_allLots_0 rfl (by decide) ?_
  refine r_istore_n (q := 2) (i := 1) [(0, .ref (fad Δ 12 0 0))] C dX12_allLots_1 rfl rfl (by decide) rfl (fun x1 => ?_)
  refine r_iconst (q := 3) (v := 0) C dX12_allLots_2 rfl (by decide) ?_
  refine r_istore_n (q := 4) (i := 2) [(1, .int x1), (0, .ref (fad Δ 12 0 0))] C dX12_allLots_3 rfl rfl (by decide) rfl (fun x2 => ?_)
  refine r_locs (lc' := [(0, .ref (fad Δ 12 0 0)), (1, .int x1), (2, .int x2)]) [2, 1, 0] rfl ?_
  have L4 : ∀ (n6 : Nat) (x3 : Int32) (x4 : Int32) (s5 : fSt), fW Δ Γ 3 (fQ eI Δ Γ) 4 [(0, .ref (fad Δ 12 0 0)), (1, .int x3), (2, .int x4)] [] s5 (f_X12_allLots_L4 n6 x3 x4 s5) := by
    intro n6
    induction n6 with
    | zero =>
      intro x3 x4 s5
      rw [f_X12_allLots_L4]
      exact r_none
    | succ n6 ih_n6 =>
      intro x3 x4 s5
      rw [f_X12_allLots_L4]
      refine r_iload_n (q := 5) (i := 2) (z := 2) C dX12_allLots_4 rfl rfl rfl ?_
      refine r_aload_n (q := 6) (i := 0) (z := 0) C dX12_allLots_5 rfl rfl rfl ?_
      refine g_X12_35 (q := 9) C (nm_12 hN) dX12_allLots_6 rfl ?_
      refine r_iconst (q := 10) (v := 3) C dX12_allLots_9 rfl (by decide) ?_
      refine r_ial (q := 11) q_12_5 h_12_5 C (nm_12 hN) dX12_allLots_10 rfl ?_
      refine r_icmp_ge (q := 14) (tgt := 32) C dX12_allLots_11 (by decide) rfl ?_ ?_
      · refine r_iload_n (q := 33) (i := 1) (z := 1) C dX12_allLots_32 rfl rfl rfl ?_
        exact r_iret C dX12_allLots_33
      · refine r_iload_n (q := 15) (i := 1) (z := 1) C dX12_allLots_14 rfl rfl rfl ?_
        refine r_aload_n (q := 16) (i := 0) (z := 0) C dX12_allLots_15 rfl rfl rfl ?_
        refine g_X12_35 (q := 19) C (nm_12 hN) dX12_allLots_16 rfl ?_
        refine r_bipush (q := 21) (v := 121) C dX12_allLots_19 rfl (by decide) ?_
        refine r_iload_n (q := 22) (i := 2) (z := 2) C dX12_allLots_21 rfl rfl rfl ?_
        refine r_iadd (q := 23) C dX12_allLots_22 rfl ?_
        refine r_ial (q := 24) q_12_5 h_12_5 C (nm_12 hN) dX12_allLots_23 rfl ?_
        refine r_iadd (q := 25) C dX12_allLots_24 rfl ?_
        refine r_istore_n (q := 26) (i := 1) [(0, .ref (fad Δ 12 0 0)), (2, .int x4)] C dX12_allLots_25 rfl rfl (by decide) rfl (fun x7 => ?_)
        refine r_iinc (q := 29) (z := 2) (d := 1) [(1, .int x7), (0, .ref (fad Δ 12 0 0))] C dX12_allLots_26 rfl rfl (by decide) (by decide) rfl (fun x8 => ?_)
        refine r_goto (q := 4) C dX12_allLots_29 (by decide) ?_
        refine r_locs (lc' := [(0, .ref (fad Δ 12 0 0)), (1, .int x7), (2, .int x8)]) [2, 1, 0] rfl ?_
        exact ih_n6 x7 x8 s5
  exact L4 fF x1 x2 st

noncomputable def f_X12_has (a0 : Int32) (a1 : Int32) (st : fSt) : Option (Int32 × fSt) :=
  fJn (fun (x1 : Int32) (s2 : fSt) =>
    (fBo x1 (some (x1, s2)))) fun (j3 : Int32 → fSt → Option (Int32 × fSt)) =>
  if ¬ ((a0 >>> (a1 &&& 31)) &&& ((1 : Int32))) = ((1 : Int32)) then
    (j3 ((0 : Int32)) st)
  else
    (j3 ((1 : Int32)) st)

set_option maxHeartbeats 4000000 in
set_option maxRecDepth 100000 in
theorem c_X12_has (Δ : fDl) (hN : fNm Δ) (a0 : Int32) (a1 : Int32)  (st : fSt) : fMt eI Δ yX12_has cX12_has 2 (some .boolean) 1 [.int a0, .int a1] st (f_X12_has a0 a1 st) := by
  unfold f_X12_has
  refine r_method (by decide +kernel) (Nat.le_of_ble_eq_true rfl) (fun Γ C => ?_)
  have C : fC Δ Γ cX12_has RX12 2 (some .boolean) 1 := C
  refine r_locs (lc' := [(0, .int a0), (1, .int a1)]) [0, 1] rfl ?_
  refine r_iload_n (q := 1) (i := 0) (z := 0) C dX12_has_0 rfl rfl rfl ?_
  refine r_iload_n (q := 2) (i := 1) (z := 1) C dX12_has_1 rfl rfl rfl ?_
  refine r_ishr (q := 3) C dX12_has_2 rfl ?_
  refine r_iconst (q := 4) (v := 1) C dX12_has_3 rfl (by decide) ?_
  refine r_iand (q := 5) C dX12_has_4 rfl ?_
  refine r_iconst (q := 6) (v := 1) C dX12_has_5 rfl (by decide) ?_
  refine r_join (fun j3 => ∀ (x1 : Int32) (s2 : fSt), fW Δ Γ 2 (fQ eI Δ Γ) 14 [] [.int x1] s2 (j3 x1 s2)) ?_ (fun j3 hj3 => ?_)
  · intro x1 s2
    exact r_zret C dX12_has_14
  refine r_icmp_ne (q := 9) (tgt := 13) C dX12_has_6 (by decide) rfl ?_ ?_
  · refine r_iconst (q := 14) (v := 0) C dX12_has_13 rfl (by decide) ?_
    refine r_locs (lc' := []) [] rfl ?_
    exact hj3 ((0 : Int32)) st
  · refine r_iconst (q := 10) (v := 1) C dX12_has_9 rfl (by decide) ?_
    refine r_goto (q := 14) C dX12_has_10 (by decide) ?_
    refine r_locs (lc' := []) [] rfl ?_
    exact hj3 ((1 : Int32)) st

noncomputable def f_X12_areTogether_L2 (a1 : Int32) (a2 : Int32) : Nat → Int32 → fSt → Option (Int32 × fSt)
  | 0, _, _ => none
  | n4 + 1, x2, s3 =>
      fIx ((2 : Int32)) 2150 <|
      if (gA s3 12 0 5 ((2 : Int32)).toNatClampNeg) ≤ x2 then
        (some ((0 : Int32), s3))
      else
        (fIx (((37 : Int32)) + x2) 2150 <|
        fBd (f_X12_has (gA s3 12 0 5 (((37 : Int32)) + x2).toNatClampNeg) a1 s3) fun x5 s6 =>
        fJn (fun (s7 : fSt) =>
          (fLt (x2 + (1 : Int32)) fun (x9 : Int32) =>
          f_X12_areTogether_L2 a1 a2 n4 x9 s7)) fun (j8 : fSt → Option (Int32 × fSt)) =>
        if x5 = 0 then
          (j8 s6)
        else
          (fIx (((37 : Int32)) + x2) 2150 <|
          fBd (f_X12_has (gA s6 12 0 5 (((37 : Int32)) + x2).toNatClampNeg) a2 s6) fun x10 s11 =>
          if x10 = 0 then
            (j8 s11)
          else
            (some ((1 : Int32), s11))))

noncomputable def f_X12_areTogether (a1 : Int32) (a2 : Int32) (st : fSt) : Option (Int32 × fSt) :=
  fLt ((0 : Int32)) fun (x1 : Int32) =>
  f_X12_areTogether_L2 a1 a2 fF x1 st

set_option maxHeartbeats 4000000 in
set_option maxRecDepth 100000 in
theorem c_X12_areTogether (Δ : fDl) (hN : fNm Δ) (a1 : Int32) (a2 : Int32)  (st : fSt) : fMt eI Δ yX12_areTogether cX12_areTogether 4 (some .boolean) 2 [.ref (fad Δ 12 0 0), .int a1, .int a2] st (f_X12_areTogether a1 a2 st) := by
  unfold f_X12_areTogether
  refine r_method (by decide +kernel) (Nat.le_of_ble_eq_true rfl) (fun Γ C => ?_)
  have C : fC Δ Γ cX12_areTogether RX12 4 (some .boolean) 2 := C
  refine r_locs (lc' := [(0, .ref (fad Δ 12 0 0)), (1, .int a1), (2, .int a2)]) [0, 1, 2] rfl ?_
  refine r_iconst (q := 1) (v := 0) C dX12_areTogether_0 rfl (by decide) ?_
  refine r_istore_n (q := 2) (i := 3) [(0, .ref (fad Δ 12 0 0)), (1, .int a1), (2, .int a2)] C dX12_areTogether_1 rfl rfl (by decide) rfl (fun x1 => ?_)
  refine r_locs (lc' := [(0, .ref (fad Δ 12 0 0)), (1, .int a1), (2, .int a2), (3, .int x1)]) [1, 2, 3, 0] rfl ?_
  have L2 : ∀ (n4 : Nat) (x2 : Int32) (s3 : fSt), fW Δ Γ 4 (fQ eI Δ Γ) 2 [(0, .ref (fad Δ 12 0 0)), (1, .int a1), (2, .int a2), (3, .int x2)] [] s3 (f_X12_areTogether_L2 a1 a2 n4 x2 s3) := by
    intro n4
    induction n4 with
    | zero =>
      intro x2 s3
      rw [f_X12_areTogether_L2]
      exact r_none
    | succ n4 ih_n4 =>
      intro x2 s3
      rw [f_X12_areTogether_L2]
      refine r_iload_n (q := 3) (i := 3) (z := 3) C dX12_areTogether_2 rfl rfl rfl ?_
      refine r_aload_n (q := 4) (i := 0) (z := 0) C dX12_areTogether_3 rfl rfl rfl ?_
      refine g_X12_35 (q := 7) C (nm_12 hN) dX12_areTogether_4 rfl ?_
      refine r_iconst (q := 8) (v := 2) C dX12_areTogether_7 rfl (by decide) ?_
      refine r_ial (q := 9) q_12_5 h_12_5 C (nm_12 hN) dX12_areTogether_8 rfl ?_
      refine r_icmp_ge (q := 12) (tgt := 52) C dX12_areTogether_9 (by decide) rfl ?_ ?_
      · refine r_iconst (q := 53) (v := 0) C dX12_areTogether_52 rfl (by decide) ?_
        exact r_zret0 (Or.inl rfl) C dX12_areTogether_53
      · refine r_aload_n (q := 13) (i := 0) (z := 0) C dX12_areTogether_12 rfl rfl rfl ?_
        refine g_X12_35 (q := 16) C (nm_12 hN) dX12_areTogether_13 rfl ?_
        refine r_bipush (q := 18) (v := 37) C dX12_areTogether_16 rfl (by decide) ?_
        refine r_iload_n (q := 19) (i := 3) (z := 3) C dX12_areTogether_18 rfl rfl rfl ?_
        refine r_iadd (q := 20) C dX12_areTogether_19 rfl ?_
        refine r_ial (q := 21) q_12_5 h_12_5 C (nm_12 hN) dX12_areTogether_20 rfl ?_
        refine r_iload_n (q := 22) (i := 1) (z := 1) C dX12_areTogether_21 rfl rfl rfl ?_
        refine r_callSI (q := 25) (As := [.int (gA s3 12 0 5 (((37 : Int32)) + x2).toNatClampNeg), .int a1]) wm_X12_373 ysX12_has (c_X12_has Δ hN (gA s3 12 0 5 (((37 : Int32)) + x2).toNatClampNeg) a1 s3) C (by decide) rfl (Nat.le_of_ble_eq_true rfl) dX12_areTogether_22 rfl (fun x5 s6 => ?_)
        refine r_join (fun j8 => ∀  (s7 : fSt), fW Δ Γ 4 (fQ eI Δ Γ) 46 [(0, .ref (fad Δ 12 0 0)), (1, .int a1), (2, .int a2), (3, .int x2)] [] s7 (j8 s7)) ?_ (fun j8 hj8 => ?_)
        · intro s7
          refine r_iinc (q := 49) (z := 3) (d := 1) [(0, .ref (fad Δ 12 0 0)), (1, .int a1), (2, .int a2)] C dX12_areTogether_46 rfl rfl (by decide) (by decide) rfl (fun x9 => ?_)
          refine r_goto (q := 2) C dX12_areTogether_49 (by decide) ?_
          refine r_locs (lc' := [(0, .ref (fad Δ 12 0 0)), (1, .int a1), (2, .int a2), (3, .int x9)]) [1, 2, 3, 0] rfl ?_
          exact ih_n4 x9 s7
        refine r_if_eq (q := 28) (tgt := 46) C dX12_areTogether_25 (by decide) rfl ?_ ?_
        · exact hj8 s6
        · refine r_aload_n (q := 29) (i := 0) (z := 0) C dX12_areTogether_28 rfl rfl rfl ?_
          refine g_X12_35 (q := 32) C (nm_12 hN) dX12_areTogether_29 rfl ?_
          refine r_bipush (q := 34) (v := 37) C dX12_areTogether_32 rfl (by decide) ?_
          refine r_iload_n (q := 35) (i := 3) (z := 3) C dX12_areTogether_34 rfl rfl rfl ?_
          refine r_iadd (q := 36) C dX12_areTogether_35 rfl ?_
          refine r_ial (q := 37) q_12_5 h_12_5 C (nm_12 hN) dX12_areTogether_36 rfl ?_
          refine r_iload_n (q := 38) (i := 2) (z := 2) C dX12_areTogether_37 rfl rfl rfl ?_
          refine r_callSI (q := 41) (As := [.int (gA s6 12 0 5 (((37 : Int32)) + x2).toNatClampNeg), .int a2]) wm_X12_373 ysX12_has (c_X12_has Δ hN (gA s6 12 0 5 (((37 : Int32)) + x2).toNatClampNeg) a2 s6) C (by decide) rfl (Nat.le_of_ble_eq_true rfl) dX12_areTogether_38 rfl (fun x10 s11 => ?_)
          refine r_if_eq (q := 44) (tgt := 46) C dX12_areTogether_41 (by decide) rfl ?_ ?_
          · exact hj8 s11
          · refine r_iconst (q := 45) (v := 1) C dX12_areTogether_44 rfl (by decide) ?_
            exact r_zret0 (Or.inr rfl) C dX12_areTogether_45
  exact L2 fF x1 st

noncomputable def f_X12_copy_L41 (a1 : Int32) (a2 : Int32) : Nat → Int32 → fSt → Option (Unit × fSt)
  | 0, _, _ => none
  | n7 + 1, x5, s6 =>
      if ((28 : Int32)) ≤ x5 then
          (some ((), s6))
        else
          (fIx ((((28 : Int32)) * a1) + x5) 140 <|
          fIx ((((28 : Int32)) * a2) + x5) 140 <|
          fLt (sB s6 12 0 7 (vp_updL (gB s6 12 0 7) ((((28 : Int32)) * a2) + x5).toNatClampNeg (gB s6 12 0 7 ((((28 : Int32)) * a1) + x5).toNatClampNeg))) fun s8 =>
          fLt (x5 + (1 : Int32)) fun (x9 : Int32) =>
          f_X12_copy_L41 a1 a2 n7 x9 s8)

noncomputable def f_X12_copy_L2 (a1 : Int32) (a2 : Int32) (k3 : fSt → Option (Unit × fSt)) : Nat → Int32 → fSt → Option (Unit × fSt)
  | 0, _, _ => none
  | n12 + 1, x10, s11 =>
      if ((430 : Int32)) ≤ x10 then
        (k3 s11)
      else
        (fIx ((((430 : Int32)) * a1) + x10) 2150 <|
        fIx ((((430 : Int32)) * a2) + x10) 2150 <|
        fLt (sA s11 12 0 5 (upd (gA s11 12 0 5) ((((430 : Int32)) * a2) + x10).toNatClampNeg (gA s11 12 0 5 ((((430 : Int32)) * a1) + x10).toNatClampNeg))) fun s13 =>
        fLt (x10 + (1 : Int32)) fun (x14 : Int32) =>
        f_X12_copy_L2 a1 a2 k3 n12 x14 s13)

noncomputable def f_X12_copy (a1 : Int32) (a2 : Int32) (st : fSt) : Option (Unit × fSt) :=
  fLt ((0 : Int32)) fun (x1 : Int32) =>
  fJn (fun (s2 : fSt) =>
    (fLt ((0 : Int32)) fun (x4 : Int32) =>
    f_X12_copy_L41 a1 a2 fF x4 s2)) fun (k3 : fSt → Option (Unit × fSt)) =>
  f_X12_copy_L2 a1 a2 k3 fF x1 st

set_option maxHeartbeats 4000000 in
set_option maxRecDepth 100000 in
theorem c_X12_copy (Δ : fDl) (hN : fNm Δ) (a1 : Int32) (a2 : Int32)  (st : fSt) : fMt eV Δ yX12_copy cX12_copy 4 none 1 [.ref (fad Δ 12 0 0), .int a1, .int a2] st (f_X12_copy a1 a2 st) := by
  unfold f_X12_copy
  refine r_method (by decide +kernel) (Nat.le_of_ble_eq_true rfl) (fun Γ C => ?_)
  have C : fC Δ Γ cX12_copy RX12 4 none 1 := C
  refine r_locs (lc' := [(0, .ref (fad Δ 12 0 0)), (1, .int a1), (2, .int a2)]) [0, 1, 2] rfl ?_
  refine r_iconst (q := 1) (v := 0) C dX12_copy_0 rfl (by decide) ?_
  refine r_istore_n (q := 2) (i := 3) [(0, .ref (fad Δ 12 0 0)), (1, .int a1), (2, .int a2)] C dX12_copy_1 rfl rfl (by decide) rfl (fun x1 => ?_)
  refine r_join (fun k3 => ∀  (s2 : fSt), fW Δ Γ 4 (fQ eV Δ Γ) 39 [(0, .ref (fad Δ 12 0 0)), (1, .int a1), (2, .int a2)] [] s2 (k3 s2)) ?_ (fun k3 hk3 => ?_)
  · intro s2
    refine r_iconst (q := 40) (v := 0) C dX12_copy_39 rfl (by decide) ?_
    refine r_istore_n (q := 41) (i := 3) [(0, .ref (fad Δ 12 0 0)), (1, .int a1), (2, .int a2)] C dX12_copy_40 rfl rfl (by decide) rfl (fun x4 => ?_)
    refine r_locs (lc' := [(0, .ref (fad Δ 12 0 0)), (1, .int a1), (2, .int a2), (3, .int x4)]) [1, 2, 3, 0] rfl ?_
    have L41 : ∀ (n7 : Nat) (x5 : Int32) (s6 : fSt), fW Δ Γ 4 (fQ eV Δ Γ) 41 [(0, .ref (fad Δ 12 0 0)), (1, .int a1), (2, .int a2), (3, .int x5)] [] s6 (f_X12_copy_L41 a1 a2 n7 x5 s6) := by
      intro n7
      induction n7 with
      | zero =>
        intro x5 s6
        rw [f_X12_copy_L41]
        exact r_none
      | succ n7 ih_n7 =>
        intro x5 s6
        rw [f_X12_copy_L41]
        refine r_iload_n (q := 42) (i := 3) (z := 3) C dX12_copy_41 rfl rfl rfl ?_
        refine r_bipush (q := 44) (v := 28) C dX12_copy_42 rfl (by decide) ?_
        refine r_icmp_ge (q := 47) (tgt := 75) C dX12_copy_44 (by decide) rfl ?_ ?_
        · exact r_vret C dX12_copy_75
        · refine r_aload_n (q := 48) (i := 0) (z := 0) C dX12_copy_47 rfl rfl rfl ?_
          refine g_X12_41 (q := 51) C (nm_12 hN) dX12_copy_48 rfl ?_
          refine r_bipush (q := 53) (v := 28) C dX12_copy_51 rfl (by decide) ?_
          refine r_iload_n (q := 54) (i := 2) (z := 2) C dX12_copy_53 rfl rfl rfl ?_
          refine r_imul (q := 55) C dX12_copy_54 rfl ?_
          refine r_iload_n (q := 56) (i := 3) (z := 3) C dX12_copy_55 rfl rfl rfl ?_
          refine r_iadd (q := 57) C dX12_copy_56 rfl ?_
          refine r_aload_n (q := 58) (i := 0) (z := 0) C dX12_copy_57 rfl rfl rfl ?_
          refine g_X12_41 (q := 61) C (nm_12 hN) dX12_copy_58 rfl ?_
          refine r_bipush (q := 63) (v := 28) C dX12_copy_61 rfl (by decide) ?_
          refine r_iload_n (q := 64) (i := 1) (z := 1) C dX12_copy_63 rfl rfl rfl ?_
          refine r_imul (q := 65) C dX12_copy_64 rfl ?_
          refine r_iload_n (q := 66) (i := 3) (z := 3) C dX12_copy_65 rfl rfl rfl ?_
          refine r_iadd (q := 67) C dX12_copy_66 rfl ?_
          refine r_lal (q := 68) q_12_7 h_12_7 C (nm_12 hN) dX12_copy_67 rfl ?_
          refine r_lst (q := 69) q_12_7 h_12_7 C (nm_12 hN) dX12_copy_68 rfl (fun s8 => ?_)
          refine r_iinc (q := 72) (z := 3) (d := 1) [(0, .ref (fad Δ 12 0 0)), (1, .int a1), (2, .int a2)] C dX12_copy_69 rfl rfl (by decide) (by decide) rfl (fun x9 => ?_)
          refine r_goto (q := 41) C dX12_copy_72 (by decide) ?_
          refine r_locs (lc' := [(0, .ref (fad Δ 12 0 0)), (1, .int a1), (2, .int a2), (3, .int x9)]) [1, 2, 3, 0] rfl ?_
          exact ih_n7 x9 s8
    exact L41 fF x4 s2
  refine r_locs (lc' := [(0, .ref (fad Δ 12 0 0)), (1, .int a1), (2, .int a2), (3, .int x1)]) [1, 2, 3, 0] rfl ?_
  have L2 : ∀ (n12 : Nat) (x10 : Int32) (s11 : fSt), fW Δ Γ 4 (fQ eV Δ Γ) 2 [(0, .ref (fad Δ 12 0 0)), (1, .int a1), (2, .int a2), (3, .int x10)] [] s11 (f_X12_copy_L2 a1 a2 k3 n12 x10 s11) := by
    intro n12
    induction n12 with
    | zero =>
      intro x10 s11
      rw [f_X12_copy_L2]
      exact r_none
    | succ n12 ih_n12 =>
      intro x10 s11
      rw [f_X12_copy_L2]
      refine r_iload_n (q := 3) (i := 3) (z := 3) C dX12_copy_2 rfl rfl rfl ?_
      refine r_sipush (q := 6) (v := 430) C dX12_copy_3 rfl (by decide) ?_
      refine r_icmp_ge (q := 9) (tgt := 39) C dX12_copy_6 (by decide) rfl ?_ ?_
      · refine r_locs (lc' := [(0, .ref (fad Δ 12 0 0)), (1, .int a1), (2, .int a2)]) [0, 1, 2] rfl ?_
        exact hk3 s11
      · refine r_aload_n (q := 10) (i := 0) (z := 0) C dX12_copy_9 rfl rfl rfl ?_
        refine g_X12_35 (q := 13) C (nm_12 hN) dX12_copy_10 rfl ?_
        refine r_sipush (q := 16) (v := 430) C dX12_copy_13 rfl (by decide) ?_
        refine r_iload_n (q := 17) (i := 2) (z := 2) C dX12_copy_16 rfl rfl rfl ?_
        refine r_imul (q := 18) C dX12_copy_17 rfl ?_
        refine r_iload_n (q := 19) (i := 3) (z := 3) C dX12_copy_18 rfl rfl rfl ?_
        refine r_iadd (q := 20) C dX12_copy_19 rfl ?_
        refine r_aload_n (q := 21) (i := 0) (z := 0) C dX12_copy_20 rfl rfl rfl ?_
        refine g_X12_35 (q := 24) C (nm_12 hN) dX12_copy_21 rfl ?_
        refine r_sipush (q := 27) (v := 430) C dX12_copy_24 rfl (by decide) ?_
        refine r_iload_n (q := 28) (i := 1) (z := 1) C dX12_copy_27 rfl rfl rfl ?_
        refine r_imul (q := 29) C dX12_copy_28 rfl ?_
        refine r_iload_n (q := 30) (i := 3) (z := 3) C dX12_copy_29 rfl rfl rfl ?_
        refine r_iadd (q := 31) C dX12_copy_30 rfl ?_
        refine r_ial (q := 32) q_12_5 h_12_5 C (nm_12 hN) dX12_copy_31 rfl ?_
        refine r_ast (q := 33) q_12_5 h_12_5 C (nm_12 hN) dX12_copy_32 rfl (fun s13 => ?_)
        refine r_iinc (q := 36) (z := 3) (d := 1) [(0, .ref (fad Δ 12 0 0)), (1, .int a1), (2, .int a2)] C dX12_copy_33 rfl rfl (by decide) (by decide) rfl (fun x14 => ?_)
        refine r_goto (q := 2) C dX12_copy_36 (by decide) ?_
        refine r_locs (lc' := [(0, .ref (fad Δ 12 0 0)), (1, .int a1), (2, .int a2), (3, .int x14)]) [1, 2, 3, 0] rfl ?_
        exact ih_n12 x14 s13
  exact L2 fF x1 st

noncomputable def f_X12_back  (st : fSt) : Option (Int32 × fSt) :=
  fLt (sI st 12 0 1 ((0 : Int32))) fun s1 =>
  fLt (sI s1 12 0 0 ((0 : Int32))) fun s2 =>
  if ¬ (gI s2 12 0 23) = 0 then
    (fBd (f_X12_copy (gI s2 12 0 23) ((0 : Int32)) s2) fun _ s3 =>
    fLt (sI s3 12 0 23 ((gI s3 12 0 23) - ((1 : Int32)))) fun s4 =>
    some (gI s4 12 0 23, s4))
  else
    (fBd (f_X12_refuse ((8 : Int32)) s2) fun x5 s6 =>
    some (x5, s6))

set_option maxHeartbeats 4000000 in
set_option maxRecDepth 100000 in
theorem c_X12_back (Δ : fDl) (hN : fNm Δ)   (st : fSt) : fMt eI Δ yX12_back cX12_back 1 (some .int) 2 [.ref (fad Δ 12 0 0)] st (f_X12_back  st) := by
  unfold f_X12_back
  refine r_method (by decide +kernel) (Nat.le_of_ble_eq_true rfl) (fun Γ C => ?_)
  have C : fC Δ Γ cX12_back RX12 1 (some .int) 2 := C
  refine r_locs (lc' := [(0, .ref (fad Δ 12 0 0))]) [0] rfl ?_
  refine r_aload_n (q := 1) (i := 0) (z := 0) C dX12_back_0 rfl rfl rfl ?_
  refine r_iconst (q := 2) (v := 0) C dX12_back_1 rfl (by decide) ?_
  refine p_X12_90 (q := 5) C (nm_12 hN) dX12_back_2 rfl (fun s1 => ?_)
  refine r_aload_n (q := 6) (i := 0) (z := 0) C dX12_back_5 rfl rfl rfl ?_
  refine r_iconst (q := 7) (v := 0) C dX12_back_6 rfl (by decide) ?_
  refine p_X12_93 (q := 10) C (nm_12 hN) dX12_back_7 rfl (fun s2 => ?_)
  refine r_aload_n (q := 11) (i := 0) (z := 0) C dX12_back_10 rfl rfl rfl ?_
  refine g_X12_592 (q := 14) C (nm_12 hN) dX12_back_11 rfl ?_
  refine r_if_ne (q := 17) (tgt := 24) C dX12_back_14 (by decide) rfl ?_ ?_
  · refine r_aload_n (q := 25) (i := 0) (z := 0) C dX12_back_24 rfl rfl rfl ?_
    refine r_aload_n (q := 26) (i := 0) (z := 0) C dX12_back_25 rfl rfl rfl ?_
    refine g_X12_592 (q := 29) C (nm_12 hN) dX12_back_26 rfl ?_
    refine r_iconst (q := 30) (v := 0) C dX12_back_29 rfl (by decide) ?_
    refine r_callVV (q := 33) (As := [.int (gI s2 12 0 23), .int ((0 : Int32))]) wm_X12_595 yvX12_copy (c_X12_copy Δ hN (gI s2 12 0 23) ((0 : Int32)) s2) ⟨rfl, by decide⟩ C (nm_12 hN) (by decide) rfl (Nat.le_of_ble_eq_true rfl) dX12_back_30 rfl (fun _ s3 => ?_)
    refine r_aload_n (q := 34) (i := 0) (z := 0) C dX12_back_33 rfl rfl rfl ?_
    refine r_dup (q := 35) C dX12_back_34 rfl rfl ?_
    refine g_X12_592 (q := 38) C (nm_12 hN) dX12_back_35 rfl ?_
    refine r_iconst (q := 39) (v := 1) C dX12_back_38 rfl (by decide) ?_
    refine r_isub (q := 40) C dX12_back_39 rfl ?_
    refine p_X12_592 (q := 43) C (nm_12 hN) dX12_back_40 rfl (fun s4 => ?_)
    refine r_aload_n (q := 44) (i := 0) (z := 0) C dX12_back_43 rfl rfl rfl ?_
    refine g_X12_592 (q := 47) C (nm_12 hN) dX12_back_44 rfl ?_
    exact r_iret C dX12_back_47
  · refine r_aload_n (q := 18) (i := 0) (z := 0) C dX12_back_17 rfl rfl rfl ?_
    refine r_bipush (q := 20) (v := 8) C dX12_back_18 rfl (by decide) ?_
    refine r_callVI (q := 23) (As := [.int ((8 : Int32))]) wm_X12_348 yvX12_refuse (c_X12_refuse Δ hN ((8 : Int32)) s2) ⟨rfl, by decide⟩ C (nm_12 hN) (by decide) rfl (Nat.le_of_ble_eq_true rfl) dX12_back_20 rfl (fun x5 s6 => ?_)
    exact r_iret C dX12_back_23

noncomputable def f_X12_isSceneAt (a1 : Int32) (st : fSt) : Option (Int32 × fSt) :=
  fIx ((2 : Int32)) 2150 <|
  fBd (f_X12_isIn a1.toInt64 ((0 : Int64)) (((gA st 12 0 5 ((2 : Int32)).toNatClampNeg) - ((1 : Int32))).toInt64) st) fun x1 s2 =>
  fBo x1 (some (x1, s2))

set_option maxHeartbeats 4000000 in
set_option maxRecDepth 100000 in
theorem c_X12_isSceneAt (Δ : fDl) (hN : fNm Δ) (a1 : Int32)  (st : fSt) : fMt eI Δ yX12_isSceneAt cX12_isSceneAt 2 (some .boolean) 2 [.ref (fad Δ 12 0 0), .int a1] st (f_X12_isSceneAt a1 st) := by
  unfold f_X12_isSceneAt
  refine r_method (by decide +kernel) (Nat.le_of_ble_eq_true rfl) (fun Γ C => ?_)
  have C : fC Δ Γ cX12_isSceneAt RX12 2 (some .boolean) 2 := C
  refine r_locs (lc' := [(0, .ref (fad Δ 12 0 0)), (1, .int a1)]) [0, 1] rfl ?_
  refine r_iload_n (q := 1) (i := 1) (z := 1) C dX12_isSceneAt_0 rfl rfl rfl ?_
  refine r_i2l (q := 2) C dX12_isSceneAt_1 rfl ?_
  refine r_lconst (q := 3) (v := 0) C dX12_isSceneAt_2 rfl (by decide) ?_
  refine r_aload_n (q := 4) (i := 0) (z := 0) C dX12_isSceneAt_3 rfl rfl rfl ?_
  refine g_X12_35 (q := 7) C (nm_12 hN) dX12_isSceneAt_4 rfl ?_
  refine r_iconst (q := 8) (v := 2) C dX12_isSceneAt_7 rfl (by decide) ?_
  refine r_ial (q := 9) q_12_5 h_12_5 C (nm_12 hN) dX12_isSceneAt_8 rfl ?_
  refine r_iconst (q := 10) (v := 1) C dX12_isSceneAt_9 rfl (by decide) ?_
  refine r_isub (q := 11) C dX12_isSceneAt_10 rfl ?_
  refine r_i2l (q := 12) C dX12_isSceneAt_11 rfl ?_
  refine r_callSI (q := 15) (As := [.long a1.toInt64, .long ((0 : Int64)), .long (((gA st 12 0 5 ((2 : Int32)).toNatClampNeg) - ((1 : Int32))).toInt64)]) wm_X12_129 ysX12_isIn (c_X12_isIn Δ hN a1.toInt64 ((0 : Int64)) (((gA st 12 0 5 ((2 : Int32)).toNatClampNeg) - ((1 : Int32))).toInt64) st) C (by decide) rfl (Nat.le_of_ble_eq_true rfl) dX12_isSceneAt_12 rfl (fun x1 s2 => ?_)
  exact r_zret C dX12_isSceneAt_15

noncomputable def f_X12_no (a1 : Int32) (st : fSt) : Option (Int32 × fSt) :=
  fLt (sI st 12 0 0 a1) fun s1 =>
  some ((0 : Int32), s1)

set_option maxHeartbeats 4000000 in
set_option maxRecDepth 100000 in
theorem c_X12_no (Δ : fDl) (hN : fNm Δ) (a1 : Int32)  (st : fSt) : fMt eI Δ yX12_no cX12_no 2 (some .boolean) 1 [.ref (fad Δ 12 0 0), .int a1] st (f_X12_no a1 st) := by
  unfold f_X12_no
  refine r_method (by decide +kernel) (Nat.le_of_ble_eq_true rfl) (fun Γ C => ?_)
  have C : fC Δ Γ cX12_no RX12 2 (some .boolean) 1 := C
  refine r_locs (lc' := [(0, .ref (fad Δ 12 0 0)), (1, .int a1)]) [0, 1] rfl ?_
  refine r_aload_n (q := 1) (i := 0) (z := 0) C dX12_no_0 rfl rfl rfl ?_
  refine r_iload_n (q := 2) (i := 1) (z := 1) C dX12_no_1 rfl rfl rfl ?_
  refine p_X12_93 (q := 5) C (nm_12 hN) dX12_no_2 rfl (fun s1 => ?_)
  refine r_iconst (q := 6) (v := 0) C dX12_no_5 rfl (by decide) ?_
  exact r_zret0 (Or.inl rfl) C dX12_no_6

noncomputable def f_X12_with (a0 : Int32) (a1 : Int32) (a2 : Int32) (st : fSt) : Option (Int32 × fSt) :=
  fJn (fun (x1 : Int32) (s2 : fSt) =>
    (some (x1, s2))) fun (j3 : Int32 → fSt → Option (Int32 × fSt)) =>
  if a2 = 0 then
    (j3 (a0 &&& ((((1 : Int32)) <<< (a1 &&& 31)) ^^^ ((-1 : Int32)))) st)
  else
    (j3 (a0 ||| (((1 : Int32)) <<< (a1 &&& 31))) st)

set_option maxHeartbeats 4000000 in
set_option maxRecDepth 100000 in
theorem c_X12_with (Δ : fDl) (hN : fNm Δ) (a0 : Int32) (a1 : Int32) (a2 : Int32)  (st : fSt) : fMt eI Δ yX12_with cX12_with 3 (some .int) 1 [.int a0, .int a1, .int a2] st (f_X12_with a0 a1 a2 st) := by
  unfold f_X12_with
  refine r_method (by decide +kernel) (Nat.le_of_ble_eq_true rfl) (fun Γ C => ?_)
  have C : fC Δ Γ cX12_with RX12 3 (some .int) 1 := C
  refine r_locs (lc' := [(0, .int a0), (1, .int a1), (2, .int a2)]) [0, 1, 2] rfl ?_
  refine r_iload_n (q := 1) (i := 2) (z := 2) C dX12_with_0 rfl rfl rfl ?_
  refine r_join (fun j3 => ∀ (x1 : Int32) (s2 : fSt), fW Δ Γ 3 (fQ eI Δ Γ) 19 [] [.int x1] s2 (j3 x1 s2)) ?_ (fun j3 hj3 => ?_)
  · intro x1 s2
    exact r_iret C dX12_with_19
  refine r_if_eq (q := 4) (tgt := 12) C dX12_with_1 (by decide) rfl ?_ ?_
  · refine r_iload_n (q := 13) (i := 0) (z := 0) C dX12_with_12 rfl rfl rfl ?_
    refine r_iconst (q := 14) (v := 1) C dX12_with_13 rfl (by decide) ?_
    refine r_iload_n (q := 15) (i := 1) (z := 1) C dX12_with_14 rfl rfl rfl ?_
    refine r_ishl (q := 16) C dX12_with_15 rfl ?_
    refine r_iconst (q := 17) (v := (-1)) C dX12_with_16 rfl (by decide) ?_
    refine r_ixor (q := 18) C dX12_with_17 rfl ?_
    refine r_iand (q := 19) C dX12_with_18 rfl ?_
    refine r_locs (lc' := []) [] rfl ?_
    exact hj3 (a0 &&& ((((1 : Int32)) <<< (a1 &&& 31)) ^^^ ((-1 : Int32)))) st
  · refine r_iload_n (q := 5) (i := 0) (z := 0) C dX12_with_4 rfl rfl rfl ?_
    refine r_iconst (q := 6) (v := 1) C dX12_with_5 rfl (by decide) ?_
    refine r_iload_n (q := 7) (i := 1) (z := 1) C dX12_with_6 rfl rfl rfl ?_
    refine r_ishl (q := 8) C dX12_with_7 rfl ?_
    refine r_ior (q := 9) C dX12_with_8 rfl ?_
    refine r_goto (q := 19) C dX12_with_9 (by decide) ?_
    refine r_locs (lc' := []) [] rfl ?_
    exact hj3 (a0 ||| (((1 : Int32)) <<< (a1 &&& 31))) st

noncomputable def f_X12_bar (a1 : Int32) (a2 : Int32) (st : fSt) : Option (Int32 × fSt) :=
  fLt (sI st 12 0 1 ((0 : Int32))) fun s1 =>
  fLt (sI s1 12 0 0 ((0 : Int32))) fun s2 =>
  fBd (f_X12_isSceneAt a1 s2) fun x3 s4 =>
  if ¬ x3 = 0 then
    (fIx ((4 : Int32)) 2150 <|
    fBd (f_X12_with (gA s4 12 0 5 ((4 : Int32)).toNatClampNeg) a1 a2 s4) fun x5 s6 =>
    fIx ((4 : Int32)) 2150 <|
    fLt (sA s6 12 0 5 (upd (gA s6 12 0 5) ((4 : Int32)).toNatClampNeg x5)) fun s7 =>
    some ((1 : Int32), s7))
  else
    (fBd (f_X12_no ((2 : Int32)) s4) fun x8 s9 =>
    fBo x8 (some (x8, s9)))

set_option maxHeartbeats 4000000 in
set_option maxRecDepth 100000 in
theorem c_X12_bar (Δ : fDl) (hN : fNm Δ) (a1 : Int32) (a2 : Int32)  (st : fSt) : fMt eI Δ yX12_bar cX12_bar 3 (some .boolean) 3 [.ref (fad Δ 12 0 0), .int a1, .int a2] st (f_X12_bar a1 a2 st) := by
  unfold f_X12_bar
  refine r_method (by decide +kernel) (Nat.le_of_ble_eq_true rfl) (fun Γ C => ?_)
  have C : fC Δ Γ cX12_bar RX12 3 (some .boolean) 3 := C
  refine r_locs (lc' := [(0, .ref (fad Δ 12 0 0)), (1, .int a1), (2, .int a2)]) [0, 1, 2] rfl ?_
  refine r_aload_n (q := 1) (i := 0) (z := 0) C dX12_bar_0 rfl rfl rfl ?_
  refine r_iconst (q := 2) (v := 0) C dX12_bar_1 rfl (by decide) ?_
  refine p_X12_90 (q := 5) C (nm_12 hN) dX12_bar_2 rfl (fun s1 => ?_)
  refine r_aload_n (q := 6) (i := 0) (z := 0) C dX12_bar_5 rfl rfl rfl ?_
  refine r_iconst (q := 7) (v := 0) C dX12_bar_6 rfl (by decide) ?_
  refine p_X12_93 (q := 10) C (nm_12 hN) dX12_bar_7 rfl (fun s2 => ?_)
  refine r_aload_n (q := 11) (i := 0) (z := 0) C dX12_bar_10 rfl rfl rfl ?_
  refine r_iload_n (q := 12) (i := 1) (z := 1) C dX12_bar_11 rfl rfl rfl ?_
  refine r_callVI (q := 15) (As := [.int a1]) wm_X12_351 yvX12_isSceneAt (c_X12_isSceneAt Δ hN a1 s2) ⟨rfl, by decide⟩ C (nm_12 hN) (by decide) rfl (Nat.le_of_ble_eq_true rfl) dX12_bar_12 rfl (fun x3 s4 => ?_)
  refine r_if_ne (q := 18) (tgt := 24) C dX12_bar_15 (by decide) rfl ?_ ?_
  · refine r_aload_n (q := 25) (i := 0) (z := 0) C dX12_bar_24 rfl rfl rfl ?_
    refine g_X12_35 (q := 28) C (nm_12 hN) dX12_bar_25 rfl ?_
    refine r_iconst (q := 29) (v := 4) C dX12_bar_28 rfl (by decide) ?_
    refine r_aload_n (q := 30) (i := 0) (z := 0) C dX12_bar_29 rfl rfl rfl ?_
    refine g_X12_35 (q := 33) C (nm_12 hN) dX12_bar_30 rfl ?_
    refine r_iconst (q := 34) (v := 4) C dX12_bar_33 rfl (by decide) ?_
    refine r_ial (q := 35) q_12_5 h_12_5 C (nm_12 hN) dX12_bar_34 rfl ?_
    refine r_iload_n (q := 36) (i := 1) (z := 1) C dX12_bar_35 rfl rfl rfl ?_
    refine r_iload_n (q := 37) (i := 2) (z := 2) C dX12_bar_36 rfl rfl rfl ?_
    refine r_callSI (q := 40) (As := [.int (gA s4 12 0 5 ((4 : Int32)).toNatClampNeg), .int a1, .int a2]) wm_X12_366 ysX12_with (c_X12_with Δ hN (gA s4 12 0 5 ((4 : Int32)).toNatClampNeg) a1 a2 s4) C (by decide) rfl (Nat.le_of_ble_eq_true rfl) dX12_bar_37 rfl (fun x5 s6 => ?_)
    refine r_ast (q := 41) q_12_5 h_12_5 C (nm_12 hN) dX12_bar_40 rfl (fun s7 => ?_)
    refine r_iconst (q := 42) (v := 1) C dX12_bar_41 rfl (by decide) ?_
    exact r_zret0 (Or.inr rfl) C dX12_bar_42
  · refine r_aload_n (q := 19) (i := 0) (z := 0) C dX12_bar_18 rfl rfl rfl ?_
    refine r_iconst (q := 20) (v := 2) C dX12_bar_19 rfl (by decide) ?_
    refine r_callVI (q := 23) (As := [.int ((2 : Int32))]) wm_X12_109 yvX12_no (c_X12_no Δ hN ((2 : Int32)) s4) ⟨rfl, by decide⟩ C (nm_12 hN) (by decide) rfl (Nat.le_of_ble_eq_true rfl) dX12_bar_20 rfl (fun x8 s9 => ?_)
    exact r_zret C dX12_bar_23

noncomputable def f_X12_kills (a1 : Int32) (a2 : Int32) (st : fSt) : Option (Int32 × fSt) :=
  fIx (((109 : Int32)) + a1) 2150 <|
  fJn (fun (x1 : Int32) (s2 : fSt) =>
    (some (x1, s2))) fun (j3 : Int32 → fSt → Option (Int32 × fSt)) =>
  if 0 ≤ (gA st 12 0 5 (((109 : Int32)) + a1).toNatClampNeg) then
    (fIx (((109 : Int32)) + a1) 2150 <|
    j3 (a2 ||| (((1 : Int32)) <<< ((gA st 12 0 5 (((109 : Int32)) + a1).toNatClampNeg) &&& 31))) st)
  else
    (j3 a2 st)

set_option maxHeartbeats 4000000 in
set_option maxRecDepth 100000 in
theorem c_X12_kills (Δ : fDl) (hN : fNm Δ) (a1 : Int32) (a2 : Int32)  (st : fSt) : fMt eI Δ yX12_kills cX12_kills 3 (some .int) 1 [.ref (fad Δ 12 0 0), .int a1, .int a2] st (f_X12_kills a1 a2 st) := by
  unfold f_X12_kills
  refine r_method (by decide +kernel) (Nat.le_of_ble_eq_true rfl) (fun Γ C => ?_)
  have C : fC Δ Γ cX12_kills RX12 3 (some .int) 1 := C
  refine r_locs (lc' := [(0, .ref (fad Δ 12 0 0)), (1, .int a1), (2, .int a2)]) [0, 1, 2] rfl ?_
  refine r_aload_n (q := 1) (i := 0) (z := 0) C dX12_kills_0 rfl rfl rfl ?_
  refine g_X12_35 (q := 4) C (nm_12 hN) dX12_kills_1 rfl ?_
  refine r_bipush (q := 6) (v := 109) C dX12_kills_4 rfl (by decide) ?_
  refine r_iload_n (q := 7) (i := 1) (z := 1) C dX12_kills_6 rfl rfl rfl ?_
  refine r_iadd (q := 8) C dX12_kills_7 rfl ?_
  refine r_ial (q := 9) q_12_5 h_12_5 C (nm_12 hN) dX12_kills_8 rfl ?_
  refine r_join (fun j3 => ∀ (x1 : Int32) (s2 : fSt), fW Δ Γ 3 (fQ eI Δ Γ) 29 [] [.int x1] s2 (j3 x1 s2)) ?_ (fun j3 hj3 => ?_)
  · intro x1 s2
    exact r_iret C dX12_kills_29
  refine r_if_ge (q := 12) (tgt := 16) C dX12_kills_9 (by decide) rfl ?_ ?_
  · refine r_iload_n (q := 17) (i := 2) (z := 2) C dX12_kills_16 rfl rfl rfl ?_
    refine r_iconst (q := 18) (v := 1) C dX12_kills_17 rfl (by decide) ?_
    refine r_aload_n (q := 19) (i := 0) (z := 0) C dX12_kills_18 rfl rfl rfl ?_
    refine g_X12_35 (q := 22) C (nm_12 hN) dX12_kills_19 rfl ?_
    refine r_bipush (q := 24) (v := 109) C dX12_kills_22 rfl (by decide) ?_
    refine r_iload_n (q := 25) (i := 1) (z := 1) C dX12_kills_24 rfl rfl rfl ?_
    refine r_iadd (q := 26) C dX12_kills_25 rfl ?_
    refine r_ial (q := 27) q_12_5 h_12_5 C (nm_12 hN) dX12_kills_26 rfl ?_
    refine r_ishl (q := 28) C dX12_kills_27 rfl ?_
    refine r_ior (q := 29) C dX12_kills_28 rfl ?_
    refine r_locs (lc' := []) [] rfl ?_
    exact hj3 (a2 ||| (((1 : Int32)) <<< ((gA st 12 0 5 (((109 : Int32)) + a1).toNatClampNeg) &&& 31))) st
  · refine r_iload_n (q := 13) (i := 2) (z := 2) C dX12_kills_12 rfl rfl rfl ?_
    refine r_goto (q := 29) C dX12_kills_13 (by decide) ?_
    refine r_locs (lc' := []) [] rfl ?_
    exact hj3 a2 st

noncomputable def f_X12_canPlay (a1 : Int32) (a2 : Int32) (st : fSt) : Option (Int32 × fSt) :=
  fJn (fun (x1 : Int32) (s2 : fSt) =>
    (fBo x1 (some (x1, s2)))) fun (j3 : Int32 → fSt → Option (Int32 × fSt)) =>
  fJn (fun (s4 : fSt) =>
    (j3 ((0 : Int32)) s4)) fun (j5 : fSt → Option (Int32 × fSt)) =>
  if a1 < 0 then
    (j5 st)
  else
    (fIx ((4 : Int32)) 2150 <|
    fBd (f_X12_has (gA st 12 0 5 ((4 : Int32)).toNatClampNeg) a1 st) fun x6 s7 =>
    if ¬ x6 = 0 then
      (j5 s7)
    else
      (fIx (((37 : Int32)) + a1) 2150 <|
      fIx ((5 : Int32)) 2150 <|
      if ¬ ((gA s7 12 0 5 (((37 : Int32)) + a1).toNatClampNeg) &&& ((gA s7 12 0 5 ((5 : Int32)).toNatClampNeg) ||| a2)) = 0 then
        (j5 s7)
      else
        (j3 ((1 : Int32)) s7)))

set_option maxHeartbeats 4000000 in
set_option maxRecDepth 100000 in
theorem c_X12_canPlay (Δ : fDl) (hN : fNm Δ) (a1 : Int32) (a2 : Int32)  (st : fSt) : fMt eI Δ yX12_canPlay cX12_canPlay 3 (some .boolean) 2 [.ref (fad Δ 12 0 0), .int a1, .int a2] st (f_X12_canPlay a1 a2 st) := by
  unfold f_X12_canPlay
  refine r_method (by decide +kernel) (Nat.le_of_ble_eq_true rfl) (fun Γ C => ?_)
  have C : fC Δ Γ cX12_canPlay RX12 3 (some .boolean) 2 := C
  refine r_locs (lc' := [(0, .ref (fad Δ 12 0 0)), (1, .int a1), (2, .int a2)]) [0, 1, 2] rfl ?_
  refine r_iload_n (q := 1) (i := 1) (z := 1) C dX12_canPlay_0 rfl rfl rfl ?_
  refine r_join (fun j3 => ∀ (x1 : Int32) (s2 : fSt), fW Δ Γ 3 (fQ eI Δ Γ) 43 [] [.int x1] s2 (j3 x1 s2)) ?_ (fun j3 hj3 => ?_)
  · intro x1 s2
    exact r_zret C dX12_canPlay_43
  refine r_join (fun j5 => ∀  (s4 : fSt), fW Δ Γ 3 (fQ eI Δ Γ) 42 [] [] s4 (j5 s4)) ?_ (fun j5 hj5 => ?_)
  · intro s4
    refine r_iconst (q := 43) (v := 0) C dX12_canPlay_42 rfl (by decide) ?_
    exact hj3 ((0 : Int32)) s4
  refine r_if_lt (q := 4) (tgt := 42) C dX12_canPlay_1 (by decide) rfl ?_ ?_
  · refine r_locs (lc' := []) [] rfl ?_
    exact hj5 st
  · refine r_aload_n (q := 5) (i := 0) (z := 0) C dX12_canPlay_4 rfl rfl rfl ?_
    refine g_X12_35 (q := 8) C (nm_12 hN) dX12_canPlay_5 rfl ?_
    refine r_iconst (q := 9) (v := 4) C dX12_canPlay_8 rfl (by decide) ?_
    refine r_ial (q := 10) q_12_5 h_12_5 C (nm_12 hN) dX12_canPlay_9 rfl ?_
    refine r_iload_n (q := 11) (i := 1) (z := 1) C dX12_canPlay_10 rfl rfl rfl ?_
    refine r_callSI (q := 14) (As := [.int (gA st 12 0 5 ((4 : Int32)).toNatClampNeg), .int a1]) wm_X12_373 ysX12_has (c_X12_has Δ hN (gA st 12 0 5 ((4 : Int32)).toNatClampNeg) a1 st) C (by decide) rfl (Nat.le_of_ble_eq_true rfl) dX12_canPlay_11 rfl (fun x6 s7 => ?_)
    refine r_if_ne (q := 17) (tgt := 42) C dX12_canPlay_14 (by decide) rfl ?_ ?_
    · refine r_locs (lc' := []) [] rfl ?_
      exact hj5 s7
    · refine r_aload_n (q := 18) (i := 0) (z := 0) C dX12_canPlay_17 rfl rfl rfl ?_
      refine g_X12_35 (q := 21) C (nm_12 hN) dX12_canPlay_18 rfl ?_
      refine r_bipush (q := 23) (v := 37) C dX12_canPlay_21 rfl (by decide) ?_
      refine r_iload_n (q := 24) (i := 1) (z := 1) C dX12_canPlay_23 rfl rfl rfl ?_
      refine r_iadd (q := 25) C dX12_canPlay_24 rfl ?_
      refine r_ial (q := 26) q_12_5 h_12_5 C (nm_12 hN) dX12_canPlay_25 rfl ?_
      refine r_aload_n (q := 27) (i := 0) (z := 0) C dX12_canPlay_26 rfl rfl rfl ?_
      refine g_X12_35 (q := 30) C (nm_12 hN) dX12_canPlay_27 rfl ?_
      refine r_iconst (q := 31) (v := 5) C dX12_canPlay_30 rfl (by decide) ?_
      refine r_ial (q := 32) q_12_5 h_12_5 C (nm_12 hN) dX12_canPlay_31 rfl ?_
      refine r_iload_n (q := 33) (i := 2) (z := 2) C dX12_canPlay_32 rfl rfl rfl ?_
      refine r_ior (q := 34) C dX12_canPlay_33 rfl ?_
      refine r_iand (q := 35) C dX12_canPlay_34 rfl ?_
      refine r_if_ne (q := 38) (tgt := 42) C dX12_canPlay_35 (by decide) rfl ?_ ?_
      · refine r_locs (lc' := []) [] rfl ?_
        exact hj5 s7
      · refine r_iconst (q := 39) (v := 1) C dX12_canPlay_38 rfl (by decide) ?_
        refine r_goto (q := 43) C dX12_canPlay_39 (by decide) ?_
        refine r_locs (lc' := []) [] rfl ?_
        exact hj3 ((1 : Int32)) s7

noncomputable def f_X12_behind2 (a1 : Int32) (a2 : Int32) (a3 : Int32) (st : fSt) : Option (Int32 × fSt) :=
  fJn (fun (x1 : Int32) (s2 : fSt) =>
    (fLt x1 fun (x4 : Int32) =>
    fJn (fun (x5 : Int32) (s6 : fSt) =>
      (fBd (f_X12_kills a1 a3 s6) fun x8 s9 =>
      fBd (f_X12_canPlay x5 x8 s9) fun x10 s11 =>
      fJn (fun (x12 : Int32) (s13 : fSt) =>
        (some (x12, s13))) fun (j14 : Int32 → fSt → Option (Int32 × fSt)) =>
      if x10 = 0 then
        (j14 ((-1 : Int32)) s11)
      else
        (j14 x5 s11))) fun (j7 : Int32 → fSt → Option (Int32 × fSt)) =>
    if 0 ≤ x4 then
      (j7 x4 s2)
    else
      (fIx (((61 : Int32)) + a1) 2150 <|
      fLt (gA s2 12 0 5 (((61 : Int32)) + a1).toNatClampNeg) fun (x15 : Int32) =>
      j7 x15 s2))) fun (j3 : Int32 → fSt → Option (Int32 × fSt)) =>
  if ¬ a2 = ((1 : Int32)) then
    (if ¬ a2 = ((2 : Int32)) then
      (if ¬ a2 = ((3 : Int32)) then
        (j3 ((-1 : Int32)) st)
      else
        (fIx (((97 : Int32)) + a1) 2150 <|
        j3 (gA st 12 0 5 (((97 : Int32)) + a1).toNatClampNeg) st))
    else
      (fIx (((85 : Int32)) + a1) 2150 <|
      j3 (gA st 12 0 5 (((85 : Int32)) + a1).toNatClampNeg) st))
  else
    (fIx (((73 : Int32)) + a1) 2150 <|
    j3 (gA st 12 0 5 (((73 : Int32)) + a1).toNatClampNeg) st)

set_option maxHeartbeats 4000000 in
set_option maxRecDepth 100000 in
theorem c_X12_behind2 (Δ : fDl) (hN : fNm Δ) (a1 : Int32) (a2 : Int32) (a3 : Int32)  (st : fSt) : fMt eI Δ yX12_behind2 cX12_behind2 5 (some .int) 3 [.ref (fad Δ 12 0 0), .int a1, .int a2, .int a3] st (f_X12_behind2 a1 a2 a3 st) := by
  unfold f_X12_behind2
  refine r_method (by decide +kernel) (Nat.le_of_ble_eq_true rfl) (fun Γ C => ?_)
  have C : fC Δ Γ cX12_behind2 RX12 5 (some .int) 3 := C
  refine r_locs (lc' := [(0, .ref (fad Δ 12 0 0)), (1, .int a1), (2, .int a2), (3, .int a3)]) [0, 1, 2, 3] rfl ?_
  refine r_iload_n (q := 1) (i := 2) (z := 2) C dX12_behind2_0 rfl rfl rfl ?_
  refine r_iconst (q := 2) (v := 1) C dX12_behind2_1 rfl (by decide) ?_
  refine r_join (fun j3 => ∀ (x1 : Int32) (s2 : fSt), fW Δ Γ 5 (fQ eI Δ Γ) 52 [(0, .ref (fad Δ 12 0 0)), (1, .int a1), (3, .int a3)] [.int x1] s2 (j3 x1 s2)) ?_ (fun j3 hj3 => ?_)
  · intro x1 s2
    refine r_istore (q := 54) (i := 4) [(0, .ref (fad Δ 12 0 0)), (1, .int a1), (3, .int a3)] C dX12_behind2_52 rfl (by decide) rfl (fun x4 => ?_)
    refine r_iload (q := 56) (i := 4) (z := 0) C dX12_behind2_54 rfl rfl ?_
    refine r_join (fun j7 => ∀ (x5 : Int32) (s6 : fSt), fW Δ Γ 5 (fQ eI Δ Γ) 70 [(0, .ref (fad Δ 12 0 0)), (1, .int a1), (3, .int a3), (4, .int x5)] [] s6 (j7 x5 s6)) ?_ (fun j7 hj7 => ?_)
    · intro x5 s6
      refine r_aload_n (q := 71) (i := 0) (z := 0) C dX12_behind2_70 rfl rfl rfl ?_
      refine r_iload (q := 73) (i := 4) (z := 3) C dX12_behind2_71 rfl rfl ?_
      refine r_aload_n (q := 74) (i := 0) (z := 0) C dX12_behind2_73 rfl rfl rfl ?_
      refine r_iload_n (q := 75) (i := 1) (z := 1) C dX12_behind2_74 rfl rfl rfl ?_
      refine r_iload_n (q := 76) (i := 3) (z := 2) C dX12_behind2_75 rfl rfl rfl ?_
      refine r_callVI (q := 79) (As := [.int a1, .int a3]) wm_X12_379 yvX12_kills (c_X12_kills Δ hN a1 a3 s6) ⟨rfl, by decide⟩ C (nm_12 hN) (by decide) rfl (Nat.le_of_ble_eq_true rfl) dX12_behind2_76 rfl (fun x8 s9 => ?_)
      refine r_callVI (q := 82) (As := [.int x5, .int x8]) wm_X12_376 yvX12_canPlay (c_X12_canPlay Δ hN x5 x8 s9) ⟨rfl, by decide⟩ C (nm_12 hN) (by decide) rfl (Nat.le_of_ble_eq_true rfl) dX12_behind2_79 rfl (fun x10 s11 => ?_)
      refine r_join (fun j14 => ∀ (x12 : Int32) (s13 : fSt), fW Δ Γ 5 (fQ eI Δ Γ) 91 [] [.int x12] s13 (j14 x12 s13)) ?_ (fun j14 hj14 => ?_)
      · intro x12 s13
        exact r_iret C dX12_behind2_91
      refine r_if_eq (q := 85) (tgt := 90) C dX12_behind2_82 (by decide) rfl ?_ ?_
      · refine r_iconst (q := 91) (v := (-1)) C dX12_behind2_90 rfl (by decide) ?_
        refine r_locs (lc' := []) [] rfl ?_
        exact hj14 ((-1 : Int32)) s11
      · refine r_iload (q := 87) (i := 4) (z := 3) C dX12_behind2_85 rfl rfl ?_
        refine r_goto (q := 91) C dX12_behind2_87 (by decide) ?_
        refine r_locs (lc' := []) [] rfl ?_
        exact hj14 x5 s11
    refine r_if_ge (q := 59) (tgt := 70) C dX12_behind2_56 (by decide) rfl ?_ ?_
    · refine r_locs (lc' := [(0, .ref (fad Δ 12 0 0)), (1, .int a1), (3, .int a3), (4, .int x4)]) [1, 2, 3, 0] rfl ?_
      exact hj7 x4 s2
    · refine r_aload_n (q := 60) (i := 0) (z := 1) C dX12_behind2_59 rfl rfl rfl ?_
      refine g_X12_35 (q := 63) C (nm_12 hN) dX12_behind2_60 rfl ?_
      refine r_bipush (q := 65) (v := 61) C dX12_behind2_63 rfl (by decide) ?_
      refine r_iload_n (q := 66) (i := 1) (z := 2) C dX12_behind2_65 rfl rfl rfl ?_
      refine r_iadd (q := 67) C dX12_behind2_66 rfl ?_
      refine r_ial (q := 68) q_12_5 h_12_5 C (nm_12 hN) dX12_behind2_67 rfl ?_
      refine r_istore (q := 70) (i := 4) [(0, .ref (fad Δ 12 0 0)), (1, .int a1), (3, .int a3)] C dX12_behind2_68 rfl (by decide) rfl (fun x15 => ?_)
      refine r_locs (lc' := [(0, .ref (fad Δ 12 0 0)), (1, .int a1), (3, .int a3), (4, .int x15)]) [1, 2, 3, 0] rfl ?_
      exact hj7 x15 s2
  refine r_icmp_ne (q := 5) (tgt := 17) C dX12_behind2_2 (by decide) rfl ?_ ?_
  · refine r_iload_n (q := 18) (i := 2) (z := 2) C dX12_behind2_17 rfl rfl rfl ?_
    refine r_iconst (q := 19) (v := 2) C dX12_behind2_18 rfl (by decide) ?_
    refine r_icmp_ne (q := 22) (tgt := 34) C dX12_behind2_19 (by decide) rfl ?_ ?_
    · refine r_iload_n (q := 35) (i := 2) (z := 2) C dX12_behind2_34 rfl rfl rfl ?_
      refine r_iconst (q := 36) (v := 3) C dX12_behind2_35 rfl (by decide) ?_
      refine r_icmp_ne (q := 39) (tgt := 51) C dX12_behind2_36 (by decide) rfl ?_ ?_
      · refine r_iconst (q := 52) (v := (-1)) C dX12_behind2_51 rfl (by decide) ?_
        refine r_locs (lc' := [(0, .ref (fad Δ 12 0 0)), (1, .int a1), (3, .int a3)]) [0, 1, 3] rfl ?_
        exact hj3 ((-1 : Int32)) st
      · refine r_aload_n (q := 40) (i := 0) (z := 0) C dX12_behind2_39 rfl rfl rfl ?_
        refine g_X12_35 (q := 43) C (nm_12 hN) dX12_behind2_40 rfl ?_
        refine r_bipush (q := 45) (v := 97) C dX12_behind2_43 rfl (by decide) ?_
        refine r_iload_n (q := 46) (i := 1) (z := 1) C dX12_behind2_45 rfl rfl rfl ?_
        refine r_iadd (q := 47) C dX12_behind2_46 rfl ?_
        refine r_ial (q := 48) q_12_5 h_12_5 C (nm_12 hN) dX12_behind2_47 rfl ?_
        refine r_goto (q := 52) C dX12_behind2_48 (by decide) ?_
        refine r_locs (lc' := [(0, .ref (fad Δ 12 0 0)), (1, .int a1), (3, .int a3)]) [0, 1, 3] rfl ?_
        exact hj3 (gA st 12 0 5 (((97 : Int32)) + a1).toNatClampNeg) st
    · refine r_aload_n (q := 23) (i := 0) (z := 0) C dX12_behind2_22 rfl rfl rfl ?_
      refine g_X12_35 (q := 26) C (nm_12 hN) dX12_behind2_23 rfl ?_
      refine r_bipush (q := 28) (v := 85) C dX12_behind2_26 rfl (by decide) ?_
      refine r_iload_n (q := 29) (i := 1) (z := 1) C dX12_behind2_28 rfl rfl rfl ?_
      refine r_iadd (q := 30) C dX12_behind2_29 rfl ?_
      refine r_ial (q := 31) q_12_5 h_12_5 C (nm_12 hN) dX12_behind2_30 rfl ?_
      refine r_goto (q := 52) C dX12_behind2_31 (by decide) ?_
      refine r_locs (lc' := [(0, .ref (fad Δ 12 0 0)), (1, .int a1), (3, .int a3)]) [0, 1, 3] rfl ?_
      exact hj3 (gA st 12 0 5 (((85 : Int32)) + a1).toNatClampNeg) st
  · refine r_aload_n (q := 6) (i := 0) (z := 0) C dX12_behind2_5 rfl rfl rfl ?_
    refine g_X12_35 (q := 9) C (nm_12 hN) dX12_behind2_6 rfl ?_
    refine r_bipush (q := 11) (v := 73) C dX12_behind2_9 rfl (by decide) ?_
    refine r_iload_n (q := 12) (i := 1) (z := 1) C dX12_behind2_11 rfl rfl rfl ?_
    refine r_iadd (q := 13) C dX12_behind2_12 rfl ?_
    refine r_ial (q := 14) q_12_5 h_12_5 C (nm_12 hN) dX12_behind2_13 rfl ?_
    refine r_goto (q := 52) C dX12_behind2_14 (by decide) ?_
    refine r_locs (lc' := [(0, .ref (fad Δ 12 0 0)), (1, .int a1), (3, .int a3)]) [0, 1, 3] rfl ?_
    exact hj3 (gA st 12 0 5 (((73 : Int32)) + a1).toNatClampNeg) st

noncomputable def f_X12_bits_L4 (a0 : Int32) : Nat → Int32 → Int32 → fSt → Option (Int32 × fSt)
  | 0, _, _, _ => none
  | n6 + 1, x3, x4, s5 =>
      if ((12 : Int32)) ≤ x4 then
        (some (x3, s5))
      else
        (fLt (x3 + ((a0 >>> (x4 &&& 31)) &&& ((1 : Int32)))) fun (x7 : Int32) =>
        fLt (x4 + (1 : Int32)) fun (x8 : Int32) =>
        f_X12_bits_L4 a0 n6 x7 x8 s5)

noncomputable def f_X12_bits (a0 : Int32) (st : fSt) : Option (Int32 × fSt) :=
  fLt ((0 : Int32)) fun (x1 : Int32) =>
  fLt ((0 : Int32)) fun (x2 : Int32) =>
  f_X12_bits_L4 a0 fF x1 x2 st

set_option maxHeartbeats 4000000 in
set_option maxRecDepth 100000 in
theorem c_X12_bits (Δ : fDl) (hN : fNm Δ) (a0 : Int32)  (st : fSt) : fMt eI Δ yX12_bits cX12_bits 3 (some .int) 1 [.int a0] st (f_X12_bits a0 st) := by
  unfold f_X12_bits
  refine r_method (by decide +kernel) (Nat.le_of_ble_eq_true rfl) (fun Γ C => ?_)
  have C : fC Δ Γ cX12_bits RX12 3 (some .int) 1 := C
  refine r_locs (lc' := [(0, .int a0)]) [0] rfl ?_
  refine r_iconst (q := 1) (v := 0) C dX12_bits_0 rfl (by decide) ?_
  refine r_istore_n (q := 2) (i := 1) [(0, .int a0)] C dX12_bits_1 rfl rfl (by decide) rfl (fun x1 => ?_)
  refine r_iconst (q := 3) (v := 0) C dX12_bits_2 rfl (by decide) ?_
  refine r_istore_n (q := 4) (i := 2) [(1, .int x1), (0, .int a0)] C dX12_bits_3 rfl rfl (by decide) rfl (fun x2 => ?_)
  refine r_locs (lc' := [(0, .int a0), (1, .int x1), (2, .int x2)]) [2, 1, 0] rfl ?_
  have L4 : ∀ (n6 : Nat) (x3 : Int32) (x4 : Int32) (s5 : fSt), fW Δ Γ 3 (fQ eI Δ Γ) 4 [(0, .int a0), (1, .int x3), (2, .int x4)] [] s5 (f_X12_bits_L4 a0 n6 x3 x4 s5) := by
    intro n6
    induction n6 with
    | zero =>
      intro x3 x4 s5
      rw [f_X12_bits_L4]
      exact r_none
    | succ n6 ih_n6 =>
      intro x3 x4 s5
      rw [f_X12_bits_L4]
      refine r_iload_n (q := 5) (i := 2) (z := 2) C dX12_bits_4 rfl rfl rfl ?_
      refine r_bipush (q := 7) (v := 12) C dX12_bits_5 rfl (by decide) ?_
      refine r_icmp_ge (q := 10) (tgt := 24) C dX12_bits_7 (by decide) rfl ?_ ?_
      · refine r_iload_n (q := 25) (i := 1) (z := 1) C dX12_bits_24 rfl rfl rfl ?_
        exact r_iret C dX12_bits_25
      · refine r_iload_n (q := 11) (i := 1) (z := 1) C dX12_bits_10 rfl rfl rfl ?_
        refine r_iload_n (q := 12) (i := 0) (z := 0) C dX12_bits_11 rfl rfl rfl ?_
        refine r_iload_n (q := 13) (i := 2) (z := 2) C dX12_bits_12 rfl rfl rfl ?_
        refine r_ishr (q := 14) C dX12_bits_13 rfl ?_
        refine r_iconst (q := 15) (v := 1) C dX12_bits_14 rfl (by decide) ?_
        refine r_iand (q := 16) C dX12_bits_15 rfl ?_
        refine r_iadd (q := 17) C dX12_bits_16 rfl ?_
        refine r_istore_n (q := 18) (i := 1) [(0, .int a0), (2, .int x4)] C dX12_bits_17 rfl rfl (by decide) rfl (fun x7 => ?_)
        refine r_iinc (q := 21) (z := 2) (d := 1) [(1, .int x7), (0, .int a0)] C dX12_bits_18 rfl rfl (by decide) (by decide) rfl (fun x8 => ?_)
        refine r_goto (q := 4) C dX12_bits_21 (by decide) ?_
        refine r_locs (lc' := [(0, .int a0), (1, .int x7), (2, .int x8)]) [2, 1, 0] rfl ?_
        exact ih_n6 x7 x8 s5
  exact L4 fF x1 x2 st

noncomputable def f_X12_book (a1 : Int32) (a2 : Int32) (st : fSt) : Option (Int32 × fSt) :=
  fLt (sI st 12 0 1 ((0 : Int32))) fun s1 =>
  fLt (sI s1 12 0 0 ((0 : Int32))) fun s2 =>
  fBd (f_X12_isIn a2.toInt64 ((0 : Int64)) ((3 : Int64)) s2) fun x3 s4 =>
  if ¬ x3 = 0 then
    (fIx ((6 : Int32)) 2150 <|
    fBd (f_X12_isIn a1.toInt64 ((0 : Int64)) (((gA s4 12 0 5 ((6 : Int32)).toNatClampNeg) - ((1 : Int32))).toInt64) s4) fun x5 s6 =>
    fJn (fun (x7 : Int32) (s8 : fSt) =>
      (some (x7, s8))) fun (j9 : Int32 → fSt → Option (Int32 × fSt)) =>
    if x5 = 0 then
      (fBd (f_X12_refuse ((8 : Int32)) s6) fun x10 s11 =>
      j9 x10 s11)
    else
      (fIx ((((137 : Int32)) + (((4 : Int32)) * a1)) + a2) 2150 <|
      j9 (gA s6 12 0 5 ((((137 : Int32)) + (((4 : Int32)) * a1)) + a2).toNatClampNeg) s6))
  else
    (fBd (f_X12_refuse ((5 : Int32)) s4) fun x12 s13 =>
    some (x12, s13))

set_option maxHeartbeats 4000000 in
set_option maxRecDepth 100000 in
theorem c_X12_book (Δ : fDl) (hN : fNm Δ) (a1 : Int32) (a2 : Int32)  (st : fSt) : fMt eI Δ yX12_book cX12_book 3 (some .int) 2 [.ref (fad Δ 12 0 0), .int a1, .int a2] st (f_X12_book a1 a2 st) := by
  unfold f_X12_book
  refine r_method (by decide +kernel) (Nat.le_of_ble_eq_true rfl) (fun Γ C => ?_)
  have C : fC Δ Γ cX12_book RX12 3 (some .int) 2 := C
  refine r_locs (lc' := [(0, .ref (fad Δ 12 0 0)), (1, .int a1), (2, .int a2)]) [0, 1, 2] rfl ?_
  refine r_aload_n (q := 1) (i := 0) (z := 0) C dX12_book_0 rfl rfl rfl ?_
  refine r_iconst (q := 2) (v := 0) C dX12_book_1 rfl (by decide) ?_
  refine p_X12_90 (q := 5) C (nm_12 hN) dX12_book_2 rfl (fun s1 => ?_)
  refine r_aload_n (q := 6) (i := 0) (z := 0) C dX12_book_5 rfl rfl rfl ?_
  refine r_iconst (q := 7) (v := 0) C dX12_book_6 rfl (by decide) ?_
  refine p_X12_93 (q := 10) C (nm_12 hN) dX12_book_7 rfl (fun s2 => ?_)
  refine r_iload_n (q := 11) (i := 2) (z := 2) C dX12_book_10 rfl rfl rfl ?_
  refine r_i2l (q := 12) C dX12_book_11 rfl ?_
  refine r_lconst (q := 13) (v := 0) C dX12_book_12 rfl (by decide) ?_
  refine r_ldc2 (q := 16) C dX12_book_13 rfl wl_X12_127 ?_
  refine r_callSI (q := 19) (As := [.long a2.toInt64, .long ((0 : Int64)), .long ((3 : Int64))]) wm_X12_129 ysX12_isIn (c_X12_isIn Δ hN a2.toInt64 ((0 : Int64)) ((3 : Int64)) s2) C (by decide) rfl (Nat.le_of_ble_eq_true rfl) dX12_book_16 rfl (fun x3 s4 => ?_)
  refine r_if_ne (q := 22) (tgt := 28) C dX12_book_19 (by decide) rfl ?_ ?_
  · refine r_iload_n (q := 29) (i := 1) (z := 1) C dX12_book_28 rfl rfl rfl ?_
    refine r_i2l (q := 30) C dX12_book_29 rfl ?_
    refine r_lconst (q := 31) (v := 0) C dX12_book_30 rfl (by decide) ?_
    refine r_aload_n (q := 32) (i := 0) (z := 0) C dX12_book_31 rfl rfl rfl ?_
    refine g_X12_35 (q := 35) C (nm_12 hN) dX12_book_32 rfl ?_
    refine r_bipush (q := 37) (v := 6) C dX12_book_35 rfl (by decide) ?_
    refine r_ial (q := 38) q_12_5 h_12_5 C (nm_12 hN) dX12_book_37 rfl ?_
    refine r_iconst (q := 39) (v := 1) C dX12_book_38 rfl (by decide) ?_
    refine r_isub (q := 40) C dX12_book_39 rfl ?_
    refine r_i2l (q := 41) C dX12_book_40 rfl ?_
    refine r_callSI (q := 44) (As := [.long a1.toInt64, .long ((0 : Int64)), .long (((gA s4 12 0 5 ((6 : Int32)).toNatClampNeg) - ((1 : Int32))).toInt64)]) wm_X12_129 ysX12_isIn (c_X12_isIn Δ hN a1.toInt64 ((0 : Int64)) (((gA s4 12 0 5 ((6 : Int32)).toNatClampNeg) - ((1 : Int32))).toInt64) s4) C (by decide) rfl (Nat.le_of_ble_eq_true rfl) dX12_book_41 rfl (fun x5 s6 => ?_)
    refine r_join (fun j9 => ∀ (x7 : Int32) (s8 : fSt), fW Δ Γ 3 (fQ eI Δ Γ) 70 [] [.int x7] s8 (j9 x7 s8)) ?_ (fun j9 hj9 => ?_)
    · intro x7 s8
      exact r_iret C dX12_book_70
    refine r_if_eq (q := 47) (tgt := 64) C dX12_book_44 (by decide) rfl ?_ ?_
    · refine r_aload_n (q := 65) (i := 0) (z := 0) C dX12_book_64 rfl rfl rfl ?_
      refine r_bipush (q := 67) (v := 8) C dX12_book_65 rfl (by decide) ?_
      refine r_callVI (q := 70) (As := [.int ((8 : Int32))]) wm_X12_348 yvX12_refuse (c_X12_refuse Δ hN ((8 : Int32)) s6) ⟨rfl, by decide⟩ C (nm_12 hN) (by decide) rfl (Nat.le_of_ble_eq_true rfl) dX12_book_67 rfl (fun x10 s11 => ?_)
      refine r_locs (lc' := []) [] rfl ?_
      exact hj9 x10 s11
    · refine r_aload_n (q := 48) (i := 0) (z := 0) C dX12_book_47 rfl rfl rfl ?_
      refine g_X12_35 (q := 51) C (nm_12 hN) dX12_book_48 rfl ?_
      refine r_sipush (q := 54) (v := 137) C dX12_book_51 rfl (by decide) ?_
      refine r_iconst (q := 55) (v := 4) C dX12_book_54 rfl (by decide) ?_
      refine r_iload_n (q := 56) (i := 1) (z := 1) C dX12_book_55 rfl rfl rfl ?_
      refine r_imul (q := 57) C dX12_book_56 rfl ?_
      refine r_iadd (q := 58) C dX12_book_57 rfl ?_
      refine r_iload_n (q := 59) (i := 2) (z := 2) C dX12_book_58 rfl rfl rfl ?_
      refine r_iadd (q := 60) C dX12_book_59 rfl ?_
      refine r_ial (q := 61) q_12_5 h_12_5 C (nm_12 hN) dX12_book_60 rfl ?_
      refine r_goto (q := 70) C dX12_book_61 (by decide) ?_
      refine r_locs (lc' := []) [] rfl ?_
      exact hj9 (gA s6 12 0 5 ((((137 : Int32)) + (((4 : Int32)) * a1)) + a2).toNatClampNeg) s6
  · refine r_aload_n (q := 23) (i := 0) (z := 0) C dX12_book_22 rfl rfl rfl ?_
    refine r_iconst (q := 24) (v := 5) C dX12_book_23 rfl (by decide) ?_
    refine r_callVI (q := 27) (As := [.int ((5 : Int32))]) wm_X12_348 yvX12_refuse (c_X12_refuse Δ hN ((5 : Int32)) s4) ⟨rfl, by decide⟩ C (nm_12 hN) (by decide) rfl (Nat.le_of_ble_eq_true rfl) dX12_book_24 rfl (fun x12 s13 => ?_)
    exact r_iret C dX12_book_27

noncomputable def f_X12_books_L9 (x9 : Int32) (k14 : fSt → Option (Unit × fSt)) : Nat → Int32 → fSt → Option (Unit × fSt)
  | 0, _, _ => none
  | n18 + 1, x16, s17 =>
      if ((4 : Int32)) ≤ x16 then
              (k14 s17)
            else
              (fIx (((((137 : Int32)) + (((4 : Int32)) * x9)) - ((4 : Int32))) + x16) 2150 <|
              fIx ((((137 : Int32)) + (((4 : Int32)) * x9)) + x16) 2150 <|
              fLt (sA s17 12 0 5 (upd (gA s17 12 0 5) ((((137 : Int32)) + (((4 : Int32)) * x9)) + x16).toNatClampNeg (gA s17 12 0 5 (((((137 : Int32)) + (((4 : Int32)) * x9)) - ((4 : Int32))) + x16).toNatClampNeg))) fun s19 =>
              fLt (x16 + (1 : Int32)) fun (x20 : Int32) =>
              f_X12_books_L9 x9 k14 n18 x20 s19)

noncomputable def f_X12_books_L3 (k3 : fSt → Option (Unit × fSt)) : Nat → Int32 → fSt → Option (Unit × fSt)
  | 0, _, _ => none
  | n11 + 1, x9, s10 =>
      if x9 ≤ 0 then
        (k3 s10)
      else
        (fLt ((0 : Int32)) fun (x12 : Int32) =>
        fJn (fun (s13 : fSt) =>
          (fLt (x9 + (-1 : Int32)) fun (x15 : Int32) =>
          f_X12_books_L3 k3 n11 x15 s13)) fun (k14 : fSt → Option (Unit × fSt)) =>
        f_X12_books_L9 x9 k14 fF x12 s10)

noncomputable def f_X12_books (a1 : Int32) (st : fSt) : Option (Unit × fSt) :=
  fLt ((19 : Int32)) fun (x1 : Int32) =>
  fJn (fun (s2 : fSt) =>
    (fIx ((137 : Int32)) 2150 <|
    fLt (sA s2 12 0 5 (upd (gA s2 12 0 5) ((137 : Int32)).toNatClampNeg (gI s2 12 0 25))) fun s4 =>
    fIx ((138 : Int32)) 2150 <|
    fLt (sA s4 12 0 5 (upd (gA s4 12 0 5) ((138 : Int32)).toNatClampNeg (gI s4 12 0 26))) fun s5 =>
    fIx ((139 : Int32)) 2150 <|
    fLt (sA s5 12 0 5 (upd (gA s5 12 0 5) ((139 : Int32)).toNatClampNeg a1)) fun s6 =>
    fIx ((140 : Int32)) 2150 <|
    fLt (sA s6 12 0 5 (upd (gA s6 12 0 5) ((140 : Int32)).toNatClampNeg (gI s6 12 0 27))) fun s7 =>
    fIx ((6 : Int32)) 2150 <|
    fIx ((6 : Int32)) 2150 <|
    fLt (sA s7 12 0 5 (upd (gA s7 12 0 5) ((6 : Int32)).toNatClampNeg (if ((gA s7 12 0 5 ((6 : Int32)).toNatClampNeg) + ((1 : Int32))) < ((20 : Int32)) then ((gA s7 12 0 5 ((6 : Int32)).toNatClampNeg) + ((1 : Int32))) else ((20 : Int32))))) fun s8 =>
    some ((), s8))) fun (k3 : fSt → Option (Unit × fSt)) =>
  f_X12_books_L3 k3 fF x1 st

set_option maxHeartbeats 4000000 in
set_option maxRecDepth 100000 in
theorem c_X12_books (Δ : fDl) (hN : fNm Δ) (a1 : Int32)  (st : fSt) : fMt eV Δ yX12_books cX12_books 4 none 1 [.ref (fad Δ 12 0 0), .int a1] st (f_X12_books a1 st) := by
  unfold f_X12_books
  refine r_method (by decide +kernel) (Nat.le_of_ble_eq_true rfl) (fun Γ C => ?_)
  have C : fC Δ Γ cX12_books RX12 4 none 1 := C
  refine r_locs (lc' := [(0, .ref (fad Δ 12 0 0)), (1, .int a1)]) [0, 1] rfl ?_
  refine r_bipush (q := 2) (v := 19) C dX12_books_0 rfl (by decide) ?_
  refine r_istore_n (q := 3) (i := 2) [(0, .ref (fad Δ 12 0 0)), (1, .int a1)] C dX12_books_2 rfl rfl (by decide) rfl (fun x1 => ?_)
  refine r_join (fun k3 => ∀  (s2 : fSt), fW Δ Γ 4 (fQ eV Δ Γ) 56 [(0, .ref (fad Δ 12 0 0)), (1, .int a1)] [] s2 (k3 s2)) ?_ (fun k3 hk3 => ?_)
  · intro s2
    refine r_aload_n (q := 57) (i := 0) (z := 0) C dX12_books_56 rfl rfl rfl ?_
    refine g_X12_35 (q := 60) C (nm_12 hN) dX12_books_57 rfl ?_
    refine r_sipush (q := 63) (v := 137) C dX12_books_60 rfl (by decide) ?_
    refine r_aload_n (q := 64) (i := 0) (z := 0) C dX12_books_63 rfl rfl rfl ?_
    refine g_X12_382 (q := 67) C (nm_12 hN) dX12_books_64 rfl ?_
    refine r_ast (q := 68) q_12_5 h_12_5 C (nm_12 hN) dX12_books_67 rfl (fun s4 => ?_)
    refine r_aload_n (q := 69) (i := 0) (z := 0) C dX12_books_68 rfl rfl rfl ?_
    refine g_X12_35 (q := 72) C (nm_12 hN) dX12_books_69 rfl ?_
    refine r_sipush (q := 75) (v := 138) C dX12_books_72 rfl (by decide) ?_
    refine r_aload_n (q := 76) (i := 0) (z := 0) C dX12_books_75 rfl rfl rfl ?_
    refine g_X12_385 (q := 79) C (nm_12 hN) dX12_books_76 rfl ?_
    refine r_ast (q := 80) q_12_5 h_12_5 C (nm_12 hN) dX12_books_79 rfl (fun s5 => ?_)
    refine r_aload_n (q := 81) (i := 0) (z := 0) C dX12_books_80 rfl rfl rfl ?_
    refine g_X12_35 (q := 84) C (nm_12 hN) dX12_books_81 rfl ?_
    refine r_sipush (q := 87) (v := 139) C dX12_books_84 rfl (by decide) ?_
    refine r_iload_n (q := 88) (i := 1) (z := 1) C dX12_books_87 rfl rfl rfl ?_
    refine r_ast (q := 89) q_12_5 h_12_5 C (nm_12 hN) dX12_books_88 rfl (fun s6 => ?_)
    refine r_aload_n (q := 90) (i := 0) (z := 0) C dX12_books_89 rfl rfl rfl ?_
    refine g_X12_35 (q := 93) C (nm_12 hN) dX12_books_90 rfl ?_
    refine r_sipush (q := 96) (v := 140) C dX12_books_93 rfl (by decide) ?_
    refine r_aload_n (q := 97) (i := 0) (z := 0) C dX12_books_96 rfl rfl rfl ?_
    refine g_X12_388 (q := 100) C (nm_12 hN) dX12_books_97 rfl ?_
    refine r_ast (q := 101) q_12_5 h_12_5 C (nm_12 hN) dX12_books_100 rfl (fun s7 => ?_)
    refine r_aload_n (q := 102) (i := 0) (z := 0) C dX12_books_101 rfl rfl rfl ?_
    refine g_X12_35 (q := 105) C (nm_12 hN) dX12_books_102 rfl ?_
    refine r_bipush (q := 107) (v := 6) C dX12_books_105 rfl (by decide) ?_
    refine r_bipush (q := 109) (v := 20) C dX12_books_107 rfl (by decide) ?_
    refine r_aload_n (q := 110) (i := 0) (z := 0) C dX12_books_109 rfl rfl rfl ?_
    refine g_X12_35 (q := 113) C (nm_12 hN) dX12_books_110 rfl ?_
    refine r_bipush (q := 115) (v := 6) C dX12_books_113 rfl (by decide) ?_
    refine r_ial (q := 116) q_12_5 h_12_5 C (nm_12 hN) dX12_books_115 rfl ?_
    refine r_iconst (q := 117) (v := 1) C dX12_books_116 rfl (by decide) ?_
    refine r_iadd (q := 118) C dX12_books_117 rfl ?_
    refine r_min (q := 121) wk_X12_391 mw_min.1 mw_min.2.1 mw_min.2.2 C (by decide) (Nat.le_of_ble_eq_true rfl) dX12_books_118 rfl ?_
    refine r_ast (q := 122) q_12_5 h_12_5 C (nm_12 hN) dX12_books_121 rfl (fun s8 => ?_)
    exact r_vret C dX12_books_122
  refine r_locs (lc' := [(0, .ref (fad Δ 12 0 0)), (1, .int a1), (2, .int x1)]) [1, 2, 0] rfl ?_
  have L3 : ∀ (n11 : Nat) (x9 : Int32) (s10 : fSt), fW Δ Γ 4 (fQ eV Δ Γ) 3 [(0, .ref (fad Δ 12 0 0)), (1, .int a1), (2, .int x9)] [] s10 (f_X12_books_L3 k3 n11 x9 s10) := by
    intro n11
    induction n11 with
    | zero =>
      intro x9 s10
      rw [f_X12_books_L3]
      exact r_none
    | succ n11 ih_n11 =>
      intro x9 s10
      rw [f_X12_books_L3]
      refine r_iload_n (q := 4) (i := 2) (z := 2) C dX12_books_3 rfl rfl rfl ?_
      refine r_if_le (q := 7) (tgt := 56) C dX12_books_4 (by decide) rfl ?_ ?_
      · refine r_locs (lc' := [(0, .ref (fad Δ 12 0 0)), (1, .int a1)]) [0, 1] rfl ?_
        exact hk3 s10
      · refine r_iconst (q := 8) (v := 0) C dX12_books_7 rfl (by decide) ?_
        refine r_istore_n (q := 9) (i := 3) [(0, .ref (fad Δ 12 0 0)), (1, .int a1), (2, .int x9)] C dX12_books_8 rfl rfl (by decide) rfl (fun x12 => ?_)
        refine r_join (fun k14 => ∀  (s13 : fSt), fW Δ Γ 4 (fQ eV Δ Γ) 50 [(0, .ref (fad Δ 12 0 0)), (1, .int a1), (2, .int x9)] [] s13 (k14 s13)) ?_ (fun k14 hk14 => ?_)
        · intro s13
          refine r_iinc (q := 53) (z := 2) (d := (-1)) [(0, .ref (fad Δ 12 0 0)), (1, .int a1)] C dX12_books_50 rfl rfl (by decide) (by decide) rfl (fun x15 => ?_)
          refine r_goto (q := 3) C dX12_books_53 (by decide) ?_
          refine r_locs (lc' := [(0, .ref (fad Δ 12 0 0)), (1, .int a1), (2, .int x15)]) [1, 2, 0] rfl ?_
          exact ih_n11 x15 s13
        refine r_locs (lc' := [(0, .ref (fad Δ 12 0 0)), (1, .int a1), (2, .int x9), (3, .int x12)]) [1, 2, 3, 0] rfl ?_
        have L9 : ∀ (n18 : Nat) (x16 : Int32) (s17 : fSt), fW Δ Γ 4 (fQ eV Δ Γ) 9 [(0, .ref (fad Δ 12 0 0)), (1, .int a1), (2, .int x9), (3, .int x16)] [] s17 (f_X12_books_L9 x9 k14 n18 x16 s17) := by
          intro n18
          induction n18 with
          | zero =>
            intro x16 s17
            rw [f_X12_books_L9]
            exact r_none
          | succ n18 ih_n18 =>
            intro x16 s17
            rw [f_X12_books_L9]
            refine r_iload_n (q := 10) (i := 3) (z := 3) C dX12_books_9 rfl rfl rfl ?_
            refine r_iconst (q := 11) (v := 4) C dX12_books_10 rfl (by decide) ?_
            refine r_icmp_ge (q := 14) (tgt := 50) C dX12_books_11 (by decide) rfl ?_ ?_
            · refine r_locs (lc' := [(0, .ref (fad Δ 12 0 0)), (1, .int a1), (2, .int x9)]) [0, 1, 2] rfl ?_
              exact hk14 s17
            · refine r_aload_n (q := 15) (i := 0) (z := 0) C dX12_books_14 rfl rfl rfl ?_
              refine g_X12_35 (q := 18) C (nm_12 hN) dX12_books_15 rfl ?_
              refine r_sipush (q := 21) (v := 137) C dX12_books_18 rfl (by decide) ?_
              refine r_iconst (q := 22) (v := 4) C dX12_books_21 rfl (by decide) ?_
              refine r_iload_n (q := 23) (i := 2) (z := 2) C dX12_books_22 rfl rfl rfl ?_
              refine r_imul (q := 24) C dX12_books_23 rfl ?_
              refine r_iadd (q := 25) C dX12_books_24 rfl ?_
              refine r_iload_n (q := 26) (i := 3) (z := 3) C dX12_books_25 rfl rfl rfl ?_
              refine r_iadd (q := 27) C dX12_books_26 rfl ?_
              refine r_aload_n (q := 28) (i := 0) (z := 0) C dX12_books_27 rfl rfl rfl ?_
              refine g_X12_35 (q := 31) C (nm_12 hN) dX12_books_28 rfl ?_
              refine r_sipush (q := 34) (v := 137) C dX12_books_31 rfl (by decide) ?_
              refine r_iconst (q := 35) (v := 4) C dX12_books_34 rfl (by decide) ?_
              refine r_iload_n (q := 36) (i := 2) (z := 2) C dX12_books_35 rfl rfl rfl ?_
              refine r_imul (q := 37) C dX12_books_36 rfl ?_
              refine r_iadd (q := 38) C dX12_books_37 rfl ?_
              refine r_iconst (q := 39) (v := 4) C dX12_books_38 rfl (by decide) ?_
              refine r_isub (q := 40) C dX12_books_39 rfl ?_
              refine r_iload_n (q := 41) (i := 3) (z := 3) C dX12_books_40 rfl rfl rfl ?_
              refine r_iadd (q := 42) C dX12_books_41 rfl ?_
              refine r_ial (q := 43) q_12_5 h_12_5 C (nm_12 hN) dX12_books_42 rfl ?_
              refine r_ast (q := 44) q_12_5 h_12_5 C (nm_12 hN) dX12_books_43 rfl (fun s19 => ?_)
              refine r_iinc (q := 47) (z := 3) (d := 1) [(0, .ref (fad Δ 12 0 0)), (1, .int a1), (2, .int x9)] C dX12_books_44 rfl rfl (by decide) (by decide) rfl (fun x20 => ?_)
              refine r_goto (q := 9) C dX12_books_47 (by decide) ?_
              refine r_locs (lc' := [(0, .ref (fad Δ 12 0 0)), (1, .int a1), (2, .int x9), (3, .int x20)]) [1, 2, 3, 0] rfl ?_
              exact ih_n18 x20 s19
        exact L9 fF x12 s10
  exact L3 fF x1 st

noncomputable def f_X12_bottom  (st : fSt) : Option (Int64 × fSt) :=
  fLt (sI st 12 0 1 ((0 : Int32))) fun s1 =>
  some (gL s1 12 0 3, s1)

set_option maxHeartbeats 4000000 in
set_option maxRecDepth 100000 in
theorem c_X12_bottom (Δ : fDl) (hN : fNm Δ)   (st : fSt) : fMt eL Δ yX12_bottom cX12_bottom 1 (some .long) 1 [.ref (fad Δ 12 0 0)] st (f_X12_bottom  st) := by
  unfold f_X12_bottom
  refine r_method (by decide +kernel) (Nat.le_of_ble_eq_true rfl) (fun Γ C => ?_)
  have C : fC Δ Γ cX12_bottom RX12 1 (some .long) 1 := C
  refine r_locs (lc' := [(0, .ref (fad Δ 12 0 0))]) [0] rfl ?_
  refine r_aload_n (q := 1) (i := 0) (z := 0) C dX12_bottom_0 rfl rfl rfl ?_
  refine r_iconst (q := 2) (v := 0) C dX12_bottom_1 rfl (by decide) ?_
  refine p_X12_90 (q := 5) C (nm_12 hN) dX12_bottom_2 rfl (fun s1 => ?_)
  refine r_aload_n (q := 6) (i := 0) (z := 0) C dX12_bottom_5 rfl rfl rfl ?_
  refine g_X12_7 (q := 9) C (nm_12 hN) dX12_bottom_6 rfl ?_
  exact r_lret C dX12_bottom_9

noncomputable def f_X12_isRoleAt (a1 : Int32) (st : fSt) : Option (Int32 × fSt) :=
  fIx ((0 : Int32)) 2150 <|
  fBd (f_X12_isIn a1.toInt64 ((0 : Int64)) (((gA st 12 0 5 ((0 : Int32)).toNatClampNeg) - ((1 : Int32))).toInt64) st) fun x1 s2 =>
  fBo x1 (some (x1, s2))

set_option maxHeartbeats 4000000 in
set_option maxRecDepth 100000 in
theorem c_X12_isRoleAt (Δ : fDl) (hN : fNm Δ) (a1 : Int32)  (st : fSt) : fMt eI Δ yX12_isRoleAt cX12_isRoleAt 2 (some .boolean) 2 [.ref (fad Δ 12 0 0), .int a1] st (f_X12_isRoleAt a1 st) := by
  unfold f_X12_isRoleAt
  refine r_method (by decide +kernel) (Nat.le_of_ble_eq_true rfl) (fun Γ C => ?_)
  have C : fC Δ Γ cX12_isRoleAt RX12 2 (some .boolean) 2 := C
  refine r_locs (lc' := [(0, .ref (fad Δ 12 0 0)), (1, .int a1)]) [0, 1] rfl ?_
  refine r_iload_n (q := 1) (i := 1) (z := 1) C dX12_isRoleAt_0 rfl rfl rfl ?_
  refine r_i2l (q := 2) C dX12_isRoleAt_1 rfl ?_
  refine r_lconst (q := 3) (v := 0) C dX12_isRoleAt_2 rfl (by decide) ?_
  refine r_aload_n (q := 4) (i := 0) (z := 0) C dX12_isRoleAt_3 rfl rfl rfl ?_
  refine g_X12_35 (q := 7) C (nm_12 hN) dX12_isRoleAt_4 rfl ?_
  refine r_iconst (q := 8) (v := 0) C dX12_isRoleAt_7 rfl (by decide) ?_
  refine r_ial (q := 9) q_12_5 h_12_5 C (nm_12 hN) dX12_isRoleAt_8 rfl ?_
  refine r_iconst (q := 10) (v := 1) C dX12_isRoleAt_9 rfl (by decide) ?_
  refine r_isub (q := 11) C dX12_isRoleAt_10 rfl ?_
  refine r_i2l (q := 12) C dX12_isRoleAt_11 rfl ?_
  refine r_callSI (q := 15) (As := [.long a1.toInt64, .long ((0 : Int64)), .long (((gA st 12 0 5 ((0 : Int32)).toNatClampNeg) - ((1 : Int32))).toInt64)]) wm_X12_129 ysX12_isIn (c_X12_isIn Δ hN a1.toInt64 ((0 : Int64)) (((gA st 12 0 5 ((0 : Int32)).toNatClampNeg) - ((1 : Int32))).toInt64) st) C (by decide) rfl (Nat.le_of_ble_eq_true rfl) dX12_isRoleAt_12 rfl (fun x1 s2 => ?_)
  exact r_zret C dX12_isRoleAt_15

noncomputable def f_X12_breathsFor_L5 (a1 : Int32) (a2 : Int32) : Nat → Int32 → Int32 → fSt → Option (Int32 × fSt)
  | 0, _, _, _ => none
  | n6 + 1, x3, x4, s5 =>
      fIx ((2 : Int32)) 2150 <|
      if (gA s5 12 0 5 ((2 : Int32)).toNatClampNeg) ≤ x4 then
        (some (x3 * a2, s5))
      else
        (fIx (((37 : Int32)) + x4) 2150 <|
        fBd (f_X12_has (gA s5 12 0 5 (((37 : Int32)) + x4).toNatClampNeg) a1 s5) fun x7 s8 =>
        fJn (fun (x9 : Int32) (s10 : fSt) =>
          (fLt (x3 + x9) fun (x12 : Int32) =>
          fLt (x4 + (1 : Int32)) fun (x13 : Int32) =>
          f_X12_breathsFor_L5 a1 a2 n6 x12 x13 s10)) fun (j11 : Int32 → fSt → Option (Int32 × fSt)) =>
        if x7 = 0 then
          (j11 ((0 : Int32)) s8)
        else
          (fIx (((25 : Int32)) + x4) 2150 <|
          j11 (gA s8 12 0 5 (((25 : Int32)) + x4).toNatClampNeg) s8))

noncomputable def f_X12_breathsFor (a1 : Int32) (a2 : Int32) (st : fSt) : Option (Int32 × fSt) :=
  fLt ((0 : Int32)) fun (x1 : Int32) =>
  fLt ((0 : Int32)) fun (x2 : Int32) =>
  f_X12_breathsFor_L5 a1 a2 fF x1 x2 st

set_option maxHeartbeats 4000000 in
set_option maxRecDepth 100000 in
theorem c_X12_breathsFor (Δ : fDl) (hN : fNm Δ) (a1 : Int32) (a2 : Int32)  (st : fSt) : fMt eI Δ yX12_breathsFor cX12_breathsFor 5 (some .int) 2 [.ref (fad Δ 12 0 0), .int a1, .int a2] st (f_X12_breathsFor a1 a2 st) := by
  unfold f_X12_breathsFor
  refine r_method (by decide +kernel) (Nat.le_of_ble_eq_true rfl) (fun Γ C => ?_)
  have C : fC Δ Γ cX12_breathsFor RX12 5 (some .int) 2 := C
  refine r_locs (lc' := [(0, .ref (fad Δ 12 0 0)), (1, .int a1), (2, .int a2)]) [0, 1, 2] rfl ?_
  refine r_iconst (q := 1) (v := 0) C dX12_breathsFor_0 rfl (by decide) ?_
  refine r_istore_n (q := 2) (i := 3) [(0, .ref (fad Δ 12 0 0)), (1, .int a1), (2, .int a2)] C dX12_breathsFor_1 rfl rfl (by decide) rfl (fun x1 => ?_)
  refine r_iconst (q := 3) (v := 0) C dX12_breathsFor_2 rfl (by decide) ?_
  refine r_istore (q := 5) (i := 4) [(3, .int x1), (0, .ref (fad Δ 12 0 0)), (1, .int a1), (2, .int a2)] C dX12_breathsFor_3 rfl (by decide) rfl (fun x2 => ?_)
  refine r_locs (lc' := [(0, .ref (fad Δ 12 0 0)), (1, .int a1), (2, .int a2), (3, .int x1), (4, .int x2)]) [2, 3, 4, 1, 0] rfl ?_
  have L5 : ∀ (n6 : Nat) (x3 : Int32) (x4 : Int32) (s5 : fSt), fW Δ Γ 5 (fQ eI Δ Γ) 5 [(0, .ref (fad Δ 12 0 0)), (1, .int a1), (2, .int a2), (3, .int x3), (4, .int x4)] [] s5 (f_X12_breathsFor_L5 a1 a2 n6 x3 x4 s5) := by
    intro n6
    induction n6 with
    | zero =>
      intro x3 x4 s5
      rw [f_X12_breathsFor_L5]
      exact r_none
    | succ n6 ih_n6 =>
      intro x3 x4 s5
      rw [f_X12_breathsFor_L5]
      refine r_iload (q := 7) (i := 4) (z := 4) C dX12_breathsFor_5 rfl rfl ?_
      refine r_aload_n (q := 8) (i := 0) (z := 0) C dX12_breathsFor_7 rfl rfl rfl ?_
      refine g_X12_35 (q := 11) C (nm_12 hN) dX12_breathsFor_8 rfl ?_
      refine r_iconst (q := 12) (v := 2) C dX12_breathsFor_11 rfl (by decide) ?_
      refine r_ial (q := 13) q_12_5 h_12_5 C (nm_12 hN) dX12_breathsFor_12 rfl ?_
      refine r_icmp_ge (q := 16) (tgt := 56) C dX12_breathsFor_13 (by decide) rfl ?_ ?_
      · refine r_iload_n (q := 57) (i := 3) (z := 3) C dX12_breathsFor_56 rfl rfl rfl ?_
        refine r_iload_n (q := 58) (i := 2) (z := 2) C dX12_breathsFor_57 rfl rfl rfl ?_
        refine r_imul (q := 59) C dX12_breathsFor_58 rfl ?_
        exact r_iret C dX12_breathsFor_59
      · refine r_iload_n (q := 17) (i := 3) (z := 3) C dX12_breathsFor_16 rfl rfl rfl ?_
        refine r_aload_n (q := 18) (i := 0) (z := 0) C dX12_breathsFor_17 rfl rfl rfl ?_
        refine g_X12_35 (q := 21) C (nm_12 hN) dX12_breathsFor_18 rfl ?_
        refine r_bipush (q := 23) (v := 37) C dX12_breathsFor_21 rfl (by decide) ?_
        refine r_iload (q := 25) (i := 4) (z := 4) C dX12_breathsFor_23 rfl rfl ?_
        refine r_iadd (q := 26) C dX12_breathsFor_25 rfl ?_
        refine r_ial (q := 27) q_12_5 h_12_5 C (nm_12 hN) dX12_breathsFor_26 rfl ?_
        refine r_iload_n (q := 28) (i := 1) (z := 1) C dX12_breathsFor_27 rfl rfl rfl ?_
        refine r_callSI (q := 31) (As := [.int (gA s5 12 0 5 (((37 : Int32)) + x4).toNatClampNeg), .int a1]) wm_X12_373 ysX12_has (c_X12_has Δ hN (gA s5 12 0 5 (((37 : Int32)) + x4).toNatClampNeg) a1 s5) C (by decide) rfl (Nat.le_of_ble_eq_true rfl) dX12_breathsFor_28 rfl (fun x7 s8 => ?_)
        refine r_join (fun j11 => ∀ (x9 : Int32) (s10 : fSt), fW Δ Γ 5 (fQ eI Δ Γ) 48 [(0, .ref (fad Δ 12 0 0)), (1, .int a1), (2, .int a2), (4, .int x4)] [.int x9, .int x3] s10 (j11 x9 s10)) ?_ (fun j11 hj11 => ?_)
        · intro x9 s10
          refine r_iadd (q := 49) C dX12_breathsFor_48 rfl ?_
          refine r_istore_n (q := 50) (i := 3) [(0, .ref (fad Δ 12 0 0)), (1, .int a1), (2, .int a2), (4, .int x4)] C dX12_breathsFor_49 rfl rfl (by decide) rfl (fun x12 => ?_)
          refine r_iinc (q := 53) (z := 4) (d := 1) [(3, .int x12), (0, .ref (fad Δ 12 0 0)), (1, .int a1), (2, .int a2)] C dX12_breathsFor_50 rfl rfl (by decide) (by decide) rfl (fun x13 => ?_)
          refine r_goto (q := 5) C dX12_breathsFor_53 (by decide) ?_
          refine r_locs (lc' := [(0, .ref (fad Δ 12 0 0)), (1, .int a1), (2, .int a2), (3, .int x12), (4, .int x13)]) [2, 3, 4, 1, 0] rfl ?_
          exact ih_n6 x12 x13 s10
        refine r_if_eq (q := 34) (tgt := 47) C dX12_breathsFor_31 (by decide) rfl ?_ ?_
        · refine r_iconst (q := 48) (v := 0) C dX12_breathsFor_47 rfl (by decide) ?_
          refine r_locs (lc' := [(0, .ref (fad Δ 12 0 0)), (1, .int a1), (2, .int a2), (4, .int x4)]) [0, 1, 2, 4] rfl ?_
          exact hj11 ((0 : Int32)) s8
        · refine r_aload_n (q := 35) (i := 0) (z := 0) C dX12_breathsFor_34 rfl rfl rfl ?_
          refine g_X12_35 (q := 38) C (nm_12 hN) dX12_breathsFor_35 rfl ?_
          refine r_bipush (q := 40) (v := 25) C dX12_breathsFor_38 rfl (by decide) ?_
          refine r_iload (q := 42) (i := 4) (z := 4) C dX12_breathsFor_40 rfl rfl ?_
          refine r_iadd (q := 43) C dX12_breathsFor_42 rfl ?_
          refine r_ial (q := 44) q_12_5 h_12_5 C (nm_12 hN) dX12_breathsFor_43 rfl ?_
          refine r_goto (q := 48) C dX12_breathsFor_44 (by decide) ?_
          refine r_locs (lc' := [(0, .ref (fad Δ 12 0 0)), (1, .int a1), (2, .int a2), (4, .int x4)]) [0, 1, 2, 4] rfl ?_
          exact hj11 (gA s8 12 0 5 (((25 : Int32)) + x4).toNatClampNeg) s8
  exact L5 fF x1 x2 st

noncomputable def f_X12_breaths (a1 : Int32) (a2 : Int32) (st : fSt) : Option (Int32 × fSt) :=
  fLt (sI st 12 0 1 ((0 : Int32))) fun s1 =>
  fLt (sI s1 12 0 0 ((0 : Int32))) fun s2 =>
  fBd (f_X12_isRoleAt a1 s2) fun x3 s4 =>
  if ¬ x3 = 0 then
    (fBd (f_X12_isIn a2.toInt64 ((1 : Int64)) ((7 : Int64)) s4) fun x5 s6 =>
    fJn (fun (x7 : Int32) (s8 : fSt) =>
      (some (x7, s8))) fun (j9 : Int32 → fSt → Option (Int32 × fSt)) =>
    if x5 = 0 then
      (fBd (f_X12_refuse ((5 : Int32)) s6) fun x10 s11 =>
      j9 x10 s11)
    else
      (fBd (f_X12_breathsFor a1 a2 s6) fun x12 s13 =>
      j9 x12 s13))
  else
    (fBd (f_X12_refuse ((2 : Int32)) s4) fun x14 s15 =>
    some (x14, s15))

set_option maxHeartbeats 4000000 in
set_option maxRecDepth 100000 in
theorem c_X12_breaths (Δ : fDl) (hN : fNm Δ) (a1 : Int32) (a2 : Int32)  (st : fSt) : fMt eI Δ yX12_breaths cX12_breaths 3 (some .int) 3 [.ref (fad Δ 12 0 0), .int a1, .int a2] st (f_X12_breaths a1 a2 st) := by
  unfold f_X12_breaths
  refine r_method (by decide +kernel) (Nat.le_of_ble_eq_true rfl) (fun Γ C => ?_)
  have C : fC Δ Γ cX12_breaths RX12 3 (some .int) 3 := C
  refine r_locs (lc' := [(0, .ref (fad Δ 12 0 0)), (1, .int a1), (2, .int a2)]) [0, 1, 2] rfl ?_
  refine r_aload_n (q := 1) (i := 0) (z := 0) C dX12_breaths_0 rfl rfl rfl ?_
  refine r_iconst (q := 2) (v := 0) C dX12_breaths_1 rfl (by decide) ?_
  refine p_X12_90 (q := 5) C (nm_12 hN) dX12_breaths_2 rfl (fun s1 => ?_)
  refine r_aload_n (q := 6) (i := 0) (z := 0) C dX12_breaths_5 rfl rfl rfl ?_
  refine r_iconst (q := 7) (v := 0) C dX12_breaths_6 rfl (by decide) ?_
  refine p_X12_93 (q := 10) C (nm_12 hN) dX12_breaths_7 rfl (fun s2 => ?_)
  refine r_aload_n (q := 11) (i := 0) (z := 0) C dX12_breaths_10 rfl rfl rfl ?_
  refine r_iload_n (q := 12) (i := 1) (z := 1) C dX12_breaths_11 rfl rfl rfl ?_
  refine r_callVI (q := 15) (As := [.int a1]) wm_X12_370 yvX12_isRoleAt (c_X12_isRoleAt Δ hN a1 s2) ⟨rfl, by decide⟩ C (nm_12 hN) (by decide) rfl (Nat.le_of_ble_eq_true rfl) dX12_breaths_12 rfl (fun x3 s4 => ?_)
  refine r_if_ne (q := 18) (tgt := 24) C dX12_breaths_15 (by decide) rfl ?_ ?_
  · refine r_iload_n (q := 25) (i := 2) (z := 2) C dX12_breaths_24 rfl rfl rfl ?_
    refine r_i2l (q := 26) C dX12_breaths_25 rfl ?_
    refine r_lconst (q := 27) (v := 1) C dX12_breaths_26 rfl (by decide) ?_
    refine r_ldc2 (q := 30) C dX12_breaths_27 rfl wl_X12_535 ?_
    refine r_callSI (q := 33) (As := [.long a2.toInt64, .long ((1 : Int64)), .long ((7 : Int64))]) wm_X12_129 ysX12_isIn (c_X12_isIn Δ hN a2.toInt64 ((1 : Int64)) ((7 : Int64)) s4) C (by decide) rfl (Nat.le_of_ble_eq_true rfl) dX12_breaths_30 rfl (fun x5 s6 => ?_)
    refine r_join (fun j9 => ∀ (x7 : Int32) (s8 : fSt), fW Δ Γ 3 (fQ eI Δ Γ) 50 [] [.int x7] s8 (j9 x7 s8)) ?_ (fun j9 hj9 => ?_)
    · intro x7 s8
      exact r_iret C dX12_breaths_50
    refine r_if_eq (q := 36) (tgt := 45) C dX12_breaths_33 (by decide) rfl ?_ ?_
    · refine r_aload_n (q := 46) (i := 0) (z := 0) C dX12_breaths_45 rfl rfl rfl ?_
      refine r_iconst (q := 47) (v := 5) C dX12_breaths_46 rfl (by decide) ?_
      refine r_callVI (q := 50) (As := [.int ((5 : Int32))]) wm_X12_348 yvX12_refuse (c_X12_refuse Δ hN ((5 : Int32)) s6) ⟨rfl, by decide⟩ C (nm_12 hN) (by decide) rfl (Nat.le_of_ble_eq_true rfl) dX12_breaths_47 rfl (fun x10 s11 => ?_)
      refine r_locs (lc' := []) [] rfl ?_
      exact hj9 x10 s11
    · refine r_aload_n (q := 37) (i := 0) (z := 0) C dX12_breaths_36 rfl rfl rfl ?_
      refine r_iload_n (q := 38) (i := 1) (z := 1) C dX12_breaths_37 rfl rfl rfl ?_
      refine r_iload_n (q := 39) (i := 2) (z := 2) C dX12_breaths_38 rfl rfl rfl ?_
      refine r_callVI (q := 42) (As := [.int a1, .int a2]) wm_X12_537 yvX12_breathsFor (c_X12_breathsFor Δ hN a1 a2 s6) ⟨rfl, by decide⟩ C (nm_12 hN) (by decide) rfl (Nat.le_of_ble_eq_true rfl) dX12_breaths_39 rfl (fun x12 s13 => ?_)
      refine r_goto (q := 50) C dX12_breaths_42 (by decide) ?_
      refine r_locs (lc' := []) [] rfl ?_
      exact hj9 x12 s13
  · refine r_aload_n (q := 19) (i := 0) (z := 0) C dX12_breaths_18 rfl rfl rfl ?_
    refine r_iconst (q := 20) (v := 2) C dX12_breaths_19 rfl (by decide) ?_
    refine r_callVI (q := 23) (As := [.int ((2 : Int32))]) wm_X12_348 yvX12_refuse (c_X12_refuse Δ hN ((2 : Int32)) s4) ⟨rfl, by decide⟩ C (nm_12 hN) (by decide) rfl (Nat.le_of_ble_eq_true rfl) dX12_breaths_20 rfl (fun x14 s15 => ?_)
    exact r_iret C dX12_breaths_23

noncomputable def f_X12_breathsOf (a1 : Int32) (st : fSt) : Option (Int32 × fSt) :=
  fIx (((25 : Int32)) + a1) 2150 <|
  fIx (((37 : Int32)) + a1) 2150 <|
  fBd (f_X12_bits (gA st 12 0 5 (((37 : Int32)) + a1).toNatClampNeg) st) fun x1 s2 =>
  some ((gA st 12 0 5 (((25 : Int32)) + a1).toNatClampNeg) * x1, s2)

set_option maxHeartbeats 4000000 in
set_option maxRecDepth 100000 in
theorem c_X12_breathsOf (Δ : fDl) (hN : fNm Δ) (a1 : Int32)  (st : fSt) : fMt eI Δ yX12_breathsOf cX12_breathsOf 2 (some .int) 2 [.ref (fad Δ 12 0 0), .int a1] st (f_X12_breathsOf a1 st) := by
  unfold f_X12_breathsOf
  refine r_method (by decide +kernel) (Nat.le_of_ble_eq_true rfl) (fun Γ C => ?_)
  have C : fC Δ Γ cX12_breathsOf RX12 2 (some .int) 2 := C
  refine r_locs (lc' := [(0, .ref (fad Δ 12 0 0)), (1, .int a1)]) [0, 1] rfl ?_
  refine r_aload_n (q := 1) (i := 0) (z := 0) C dX12_breathsOf_0 rfl rfl rfl ?_
  refine g_X12_35 (q := 4) C (nm_12 hN) dX12_breathsOf_1 rfl ?_
  refine r_bipush (q := 6) (v := 25) C dX12_breathsOf_4 rfl (by decide) ?_
  refine r_iload_n (q := 7) (i := 1) (z := 1) C dX12_breathsOf_6 rfl rfl rfl ?_
  refine r_iadd (q := 8) C dX12_breathsOf_7 rfl ?_
  refine r_ial (q := 9) q_12_5 h_12_5 C (nm_12 hN) dX12_breathsOf_8 rfl ?_
  refine r_aload_n (q := 10) (i := 0) (z := 0) C dX12_breathsOf_9 rfl rfl rfl ?_
  refine g_X12_35 (q := 13) C (nm_12 hN) dX12_breathsOf_10 rfl ?_
  refine r_bipush (q := 15) (v := 37) C dX12_breathsOf_13 rfl (by decide) ?_
  refine r_iload_n (q := 16) (i := 1) (z := 1) C dX12_breathsOf_15 rfl rfl rfl ?_
  refine r_iadd (q := 17) C dX12_breathsOf_16 rfl ?_
  refine r_ial (q := 18) q_12_5 h_12_5 C (nm_12 hN) dX12_breathsOf_17 rfl ?_
  refine r_callSI (q := 21) (As := [.int (gA st 12 0 5 (((37 : Int32)) + a1).toNatClampNeg)]) wm_X12_342 ysX12_bits (c_X12_bits Δ hN (gA st 12 0 5 (((37 : Int32)) + a1).toNatClampNeg) st) C (by decide) rfl (Nat.le_of_ble_eq_true rfl) dX12_breathsOf_18 rfl (fun x1 s2 => ?_)
  refine r_imul (q := 22) C dX12_breathsOf_21 rfl ?_
  exact r_iret C dX12_breathsOf_22

noncomputable def f_X12_noRows_L51 (k9 : fSt → Option (Unit × fSt)) : Nat → Int32 → fSt → Option (Unit × fSt)
  | 0, _, _ => none
  | n18 + 1, x16, s17 =>
      if ((4096 : Int32)) ≤ x16 then
            (k9 s17)
          else
            (fIx x16 4096 <|
            fLt (sA s17 12 0 11 (upd (gA s17 12 0 11) x16.toNatClampNeg (vp_nar .boolean ((0 : Int32))))) fun s19 =>
            fLt (x16 + (1 : Int32)) fun (x20 : Int32) =>
            f_X12_noRows_L51 k9 n18 x20 s19)

noncomputable def f_X12_noRows_L23 (k6 : fSt → Option (Unit × fSt)) : Nat → Int32 → fSt → Option (Unit × fSt)
  | 0, _, _ => none
  | n23 + 1, x21, s22 =>
      if ((12 : Int32)) ≤ x21 then
          (k6 s22)
        else
          (fIx x21 12 <|
          fLt (sB s22 12 0 9 (vp_updL (gB s22 12 0 9) x21.toNatClampNeg ((0 : Int64)))) fun s24 =>
          fIx x21 12 <|
          fLt (sA s24 12 0 10 (upd (gA s24 12 0 10) x21.toNatClampNeg ((0 : Int32)))) fun s25 =>
          fLt (x21 + (1 : Int32)) fun (x26 : Int32) =>
          f_X12_noRows_L23 k6 n23 x26 s25)

noncomputable def f_X12_noRows_L2 (k3 : fSt → Option (Unit × fSt)) : Nat → Int32 → fSt → Option (Unit × fSt)
  | 0, _, _ => none
  | n29 + 1, x27, s28 =>
      if ((10 : Int32)) ≤ x27 then
        (k3 s28)
      else
        (fIx x27 10 <|
        fLt (sB s28 12 0 8 (vp_updL (gB s28 12 0 8) x27.toNatClampNeg ((0 : Int64)))) fun s30 =>
        fLt (x27 + (1 : Int32)) fun (x31 : Int32) =>
        f_X12_noRows_L2 k3 n29 x31 s30)

noncomputable def f_X12_noRows  (st : fSt) : Option (Unit × fSt) :=
  fLt ((0 : Int32)) fun (x1 : Int32) =>
  fJn (fun (s2 : fSt) =>
    (fLt ((0 : Int32)) fun (x4 : Int32) =>
    fJn (fun (s5 : fSt) =>
      (fLt ((0 : Int32)) fun (x7 : Int32) =>
      fJn (fun (s8 : fSt) =>
        (fLt (sL s8 12 0 31 ((0 : Int64))) fun s10 =>
        fLt (sI s10 12 0 34 ((0 : Int32))) fun s11 =>
        fLt (sI s11 12 0 35 ((0 : Int32))) fun s12 =>
        fLt (sI s12 12 0 36 ((12 : Int32))) fun s13 =>
        fLt (sI s13 12 0 37 ((0 : Int32))) fun s14 =>
        fLt (sI s14 12 0 38 ((0 : Int32))) fun s15 =>
        some ((), s15))) fun (k9 : fSt → Option (Unit × fSt)) =>
      f_X12_noRows_L51 k9 fF x7 s5)) fun (k6 : fSt → Option (Unit × fSt)) =>
    f_X12_noRows_L23 k6 fF x4 s2)) fun (k3 : fSt → Option (Unit × fSt)) =>
  f_X12_noRows_L2 k3 fF x1 st

set_option maxHeartbeats 4000000 in
set_option maxRecDepth 100000 in
theorem c_X12_noRows (Δ : fDl) (hN : fNm Δ)   (st : fSt) : fMt eV Δ yX12_noRows cX12_noRows 2 none 1 [.ref (fad Δ 12 0 0)] st (f_X12_noRows  st) := by
  unfold f_X12_noRows
  refine r_method (by decide +kernel) (Nat.le_of_ble_eq_true rfl) (fun Γ C => ?_)
  have C : fC Δ Γ cX12_noRows RX12 2 none 1 := C
  refine r_locs (lc' := [(0, .ref (fad Δ 12 0 0))]) [0] rfl ?_
  refine r_iconst (q := 1) (v := 0) C dX12_noRows_0 rfl (by decide) ?_
  refine r_istore_n (q := 2) (i := 1) [(0, .ref (fad Δ 12 0 0))] C dX12_noRows_1 rfl rfl (by decide) rfl (fun x1 => ?_)
  refine r_join (fun k3 => ∀  (s2 : fSt), fW Δ Γ 2 (fQ eV Δ Γ) 21 [(0, .ref (fad Δ 12 0 0))] [] s2 (k3 s2)) ?_ (fun k3 hk3 => ?_)
  · intro s2
    refine r_iconst (q := 22) (v := 0) C dX12_noRows_21 rfl (by decide) ?_
    refine r_istore_n (q := 23) (i := 1) [(0, .ref (fad Δ 12 0 0))] C dX12_noRows_22 rfl rfl (by decide) rfl (fun x4 => ?_)
    refine r_join (fun k6 => ∀  (s5 : fSt), fW Δ Γ 2 (fQ eV Δ Γ) 49 [(0, .ref (fad Δ 12 0 0))] [] s5 (k6 s5)) ?_ (fun k6 hk6 => ?_)
    · intro s5
      refine r_iconst (q := 50) (v := 0) C dX12_noRows_49 rfl (by decide) ?_
      refine r_istore_n (q := 51) (i := 1) [(0, .ref (fad Δ 12 0 0))] C dX12_noRows_50 rfl rfl (by decide) rfl (fun x7 => ?_)
      refine r_join (fun k9 => ∀  (s8 : fSt), fW Δ Γ 2 (fQ eV Δ Γ) 71 [(0, .ref (fad Δ 12 0 0))] [] s8 (k9 s8)) ?_ (fun k9 hk9 => ?_)
      · intro s8
        refine r_aload_n (q := 72) (i := 0) (z := 0) C dX12_noRows_71 rfl rfl rfl ?_
        refine r_lconst (q := 73) (v := 0) C dX12_noRows_72 rfl (by decide) ?_
        refine p_X12_444 (q := 76) C (nm_12 hN) dX12_noRows_73 rfl (fun s10 => ?_)
        refine r_aload_n (q := 77) (i := 0) (z := 0) C dX12_noRows_76 rfl rfl rfl ?_
        refine r_iconst (q := 78) (v := 0) C dX12_noRows_77 rfl (by decide) ?_
        refine p_X12_447 (q := 81) C (nm_12 hN) dX12_noRows_78 rfl (fun s11 => ?_)
        refine r_aload_n (q := 82) (i := 0) (z := 0) C dX12_noRows_81 rfl rfl rfl ?_
        refine r_iconst (q := 83) (v := 0) C dX12_noRows_82 rfl (by decide) ?_
        refine p_X12_450 (q := 86) C (nm_12 hN) dX12_noRows_83 rfl (fun s12 => ?_)
        refine r_aload_n (q := 87) (i := 0) (z := 0) C dX12_noRows_86 rfl rfl rfl ?_
        refine r_bipush (q := 89) (v := 12) C dX12_noRows_87 rfl (by decide) ?_
        refine p_X12_453 (q := 92) C (nm_12 hN) dX12_noRows_89 rfl (fun s13 => ?_)
        refine r_aload_n (q := 93) (i := 0) (z := 0) C dX12_noRows_92 rfl rfl rfl ?_
        refine r_iconst (q := 94) (v := 0) C dX12_noRows_93 rfl (by decide) ?_
        refine p_X12_456 (q := 97) C (nm_12 hN) dX12_noRows_94 rfl (fun s14 => ?_)
        refine r_aload_n (q := 98) (i := 0) (z := 0) C dX12_noRows_97 rfl rfl rfl ?_
        refine r_iconst (q := 99) (v := 0) C dX12_noRows_98 rfl (by decide) ?_
        refine p_X12_459 (q := 102) C (nm_12 hN) dX12_noRows_99 rfl (fun s15 => ?_)
        exact r_vret C dX12_noRows_102
      refine r_locs (lc' := [(0, .ref (fad Δ 12 0 0)), (1, .int x7)]) [1, 0] rfl ?_
      have L51 : ∀ (n18 : Nat) (x16 : Int32) (s17 : fSt), fW Δ Γ 2 (fQ eV Δ Γ) 51 [(0, .ref (fad Δ 12 0 0)), (1, .int x16)] [] s17 (f_X12_noRows_L51 k9 n18 x16 s17) := by
        intro n18
        induction n18 with
        | zero =>
          intro x16 s17
          rw [f_X12_noRows_L51]
          exact r_none
        | succ n18 ih_n18 =>
          intro x16 s17
          rw [f_X12_noRows_L51]
          refine r_iload_n (q := 52) (i := 1) (z := 1) C dX12_noRows_51 rfl rfl rfl ?_
          refine r_sipush (q := 55) (v := 4096) C dX12_noRows_52 rfl (by decide) ?_
          refine r_icmp_ge (q := 58) (tgt := 71) C dX12_noRows_55 (by decide) rfl ?_ ?_
          · refine r_locs (lc' := [(0, .ref (fad Δ 12 0 0))]) [0] rfl ?_
            exact hk9 s17
          · refine r_aload_n (q := 59) (i := 0) (z := 0) C dX12_noRows_58 rfl rfl rfl ?_
            refine g_X12_53 (q := 62) C (nm_12 hN) dX12_noRows_59 rfl ?_
            refine r_iload_n (q := 63) (i := 1) (z := 1) C dX12_noRows_62 rfl rfl rfl ?_
            refine r_iconst (q := 64) (v := 0) C dX12_noRows_63 rfl (by decide) ?_
            refine r_zst (q := 65) q_12_11 h_12_11 C (nm_12 hN) dX12_noRows_64 rfl (fun s19 => ?_)
            refine r_iinc (q := 68) (z := 1) (d := 1) [(0, .ref (fad Δ 12 0 0))] C dX12_noRows_65 rfl rfl (by decide) (by decide) rfl (fun x20 => ?_)
            refine r_goto (q := 51) C dX12_noRows_68 (by decide) ?_
            refine r_locs (lc' := [(0, .ref (fad Δ 12 0 0)), (1, .int x20)]) [1, 0] rfl ?_
            exact ih_n18 x20 s19
      exact L51 fF x7 s5
    refine r_locs (lc' := [(0, .ref (fad Δ 12 0 0)), (1, .int x4)]) [1, 0] rfl ?_
    have L23 : ∀ (n23 : Nat) (x21 : Int32) (s22 : fSt), fW Δ Γ 2 (fQ eV Δ Γ) 23 [(0, .ref (fad Δ 12 0 0)), (1, .int x21)] [] s22 (f_X12_noRows_L23 k6 n23 x21 s22) := by
      intro n23
      induction n23 with
      | zero =>
        intro x21 s22
        rw [f_X12_noRows_L23]
        exact r_none
      | succ n23 ih_n23 =>
        intro x21 s22
        rw [f_X12_noRows_L23]
        refine r_iload_n (q := 24) (i := 1) (z := 1) C dX12_noRows_23 rfl rfl rfl ?_
        refine r_bipush (q := 26) (v := 12) C dX12_noRows_24 rfl (by decide) ?_
        refine r_icmp_ge (q := 29) (tgt := 49) C dX12_noRows_26 (by decide) rfl ?_ ?_
        · refine r_locs (lc' := [(0, .ref (fad Δ 12 0 0))]) [0] rfl ?_
          exact hk6 s22
        · refine r_aload_n (q := 30) (i := 0) (z := 0) C dX12_noRows_29 rfl rfl rfl ?_
          refine g_X12_47 (q := 33) C (nm_12 hN) dX12_noRows_30 rfl ?_
          refine r_iload_n (q := 34) (i := 1) (z := 1) C dX12_noRows_33 rfl rfl rfl ?_
          refine r_lconst (q := 35) (v := 0) C dX12_noRows_34 rfl (by decide) ?_
          refine r_lst (q := 36) q_12_9 h_12_9 C (nm_12 hN) dX12_noRows_35 rfl (fun s24 => ?_)
          refine r_aload_n (q := 37) (i := 0) (z := 0) C dX12_noRows_36 rfl rfl rfl ?_
          refine g_X12_50 (q := 40) C (nm_12 hN) dX12_noRows_37 rfl ?_
          refine r_iload_n (q := 41) (i := 1) (z := 1) C dX12_noRows_40 rfl rfl rfl ?_
          refine r_iconst (q := 42) (v := 0) C dX12_noRows_41 rfl (by decide) ?_
          refine r_ast (q := 43) q_12_10 h_12_10 C (nm_12 hN) dX12_noRows_42 rfl (fun s25 => ?_)
          refine r_iinc (q := 46) (z := 1) (d := 1) [(0, .ref (fad Δ 12 0 0))] C dX12_noRows_43 rfl rfl (by decide) (by decide) rfl (fun x26 => ?_)
          refine r_goto (q := 23) C dX12_noRows_46 (by decide) ?_
          refine r_locs (lc' := [(0, .ref (fad Δ 12 0 0)), (1, .int x26)]) [1, 0] rfl ?_
          exact ih_n23 x26 s25
    exact L23 fF x4 s2
  refine r_locs (lc' := [(0, .ref (fad Δ 12 0 0)), (1, .int x1)]) [1, 0] rfl ?_
  have L2 : ∀ (n29 : Nat) (x27 : Int32) (s28 : fSt), fW Δ Γ 2 (fQ eV Δ Γ) 2 [(0, .ref (fad Δ 12 0 0)), (1, .int x27)] [] s28 (f_X12_noRows_L2 k3 n29 x27 s28) := by
    intro n29
    induction n29 with
    | zero =>
      intro x27 s28
      rw [f_X12_noRows_L2]
      exact r_none
    | succ n29 ih_n29 =>
      intro x27 s28
      rw [f_X12_noRows_L2]
      refine r_iload_n (q := 3) (i := 1) (z := 1) C dX12_noRows_2 rfl rfl rfl ?_
      refine r_bipush (q := 5) (v := 10) C dX12_noRows_3 rfl (by decide) ?_
      refine r_icmp_ge (q := 8) (tgt := 21) C dX12_noRows_5 (by decide) rfl ?_ ?_
      · refine r_locs (lc' := [(0, .ref (fad Δ 12 0 0))]) [0] rfl ?_
        exact hk3 s28
      · refine r_aload_n (q := 9) (i := 0) (z := 0) C dX12_noRows_8 rfl rfl rfl ?_
        refine g_X12_44 (q := 12) C (nm_12 hN) dX12_noRows_9 rfl ?_
        refine r_iload_n (q := 13) (i := 1) (z := 1) C dX12_noRows_12 rfl rfl rfl ?_
        refine r_lconst (q := 14) (v := 0) C dX12_noRows_13 rfl (by decide) ?_
        refine r_lst (q := 15) q_12_8 h_12_8 C (nm_12 hN) dX12_noRows_14 rfl (fun s30 => ?_)
        refine r_iinc (q := 18) (z := 1) (d := 1) [(0, .ref (fad Δ 12 0 0))] C dX12_noRows_15 rfl rfl (by decide) (by decide) rfl (fun x31 => ?_)
        refine r_goto (q := 2) C dX12_noRows_18 (by decide) ?_
        refine r_locs (lc' := [(0, .ref (fad Δ 12 0 0)), (1, .int x31)]) [1, 0] rfl ?_
        exact ih_n29 x31 s30
  exact L2 fF x1 st

noncomputable def f_X12_isDark  (st : fSt) : Option (Int32 × fSt) :=
  fIx ((2 : Int32)) 2150 <|
  fBd (f_X12_canPlay ((gA st 12 0 5 ((2 : Int32)).toNatClampNeg) - ((1 : Int32))) ((0 : Int32)) st) fun x1 s2 =>
  fJn (fun (x3 : Int32) (s4 : fSt) =>
    (fBo x3 (some (x3, s4)))) fun (j5 : Int32 → fSt → Option (Int32 × fSt)) =>
  if ¬ x1 = 0 then
    (j5 ((0 : Int32)) s2)
  else
    (j5 ((1 : Int32)) s2)

set_option maxHeartbeats 4000000 in
set_option maxRecDepth 100000 in
theorem c_X12_isDark (Δ : fDl) (hN : fNm Δ)   (st : fSt) : fMt eI Δ yX12_isDark cX12_isDark 1 (some .boolean) 3 [.ref (fad Δ 12 0 0)] st (f_X12_isDark  st) := by
  unfold f_X12_isDark
  refine r_method (by decide +kernel) (Nat.le_of_ble_eq_true rfl) (fun Γ C => ?_)
  have C : fC Δ Γ cX12_isDark RX12 1 (some .boolean) 3 := C
  refine r_locs (lc' := [(0, .ref (fad Δ 12 0 0))]) [0] rfl ?_
  refine r_aload_n (q := 1) (i := 0) (z := 0) C dX12_isDark_0 rfl rfl rfl ?_
  refine r_aload_n (q := 2) (i := 0) (z := 0) C dX12_isDark_1 rfl rfl rfl ?_
  refine g_X12_35 (q := 5) C (nm_12 hN) dX12_isDark_2 rfl ?_
  refine r_iconst (q := 6) (v := 2) C dX12_isDark_5 rfl (by decide) ?_
  refine r_ial (q := 7) q_12_5 h_12_5 C (nm_12 hN) dX12_isDark_6 rfl ?_
  refine r_iconst (q := 8) (v := 1) C dX12_isDark_7 rfl (by decide) ?_
  refine r_isub (q := 9) C dX12_isDark_8 rfl ?_
  refine r_iconst (q := 10) (v := 0) C dX12_isDark_9 rfl (by decide) ?_
  refine r_callVI (q := 13) (As := [.int ((gA st 12 0 5 ((2 : Int32)).toNatClampNeg) - ((1 : Int32))), .int ((0 : Int32))]) wm_X12_376 yvX12_canPlay (c_X12_canPlay Δ hN ((gA st 12 0 5 ((2 : Int32)).toNatClampNeg) - ((1 : Int32))) ((0 : Int32)) st) ⟨rfl, by decide⟩ C (nm_12 hN) (by decide) rfl (Nat.le_of_ble_eq_true rfl) dX12_isDark_10 rfl (fun x1 s2 => ?_)
  refine r_join (fun j5 => ∀ (x3 : Int32) (s4 : fSt), fW Δ Γ 1 (fQ eI Δ Γ) 21 [] [.int x3] s4 (j5 x3 s4)) ?_ (fun j5 hj5 => ?_)
  · intro x3 s4
    exact r_zret C dX12_isDark_21
  refine r_if_ne (q := 16) (tgt := 20) C dX12_isDark_13 (by decide) rfl ?_ ?_
  · refine r_iconst (q := 21) (v := 0) C dX12_isDark_20 rfl (by decide) ?_
    refine r_locs (lc' := []) [] rfl ?_
    exact hj5 ((0 : Int32)) s2
  · refine r_iconst (q := 17) (v := 1) C dX12_isDark_16 rfl (by decide) ?_
    refine r_goto (q := 21) C dX12_isDark_17 (by decide) ?_
    refine r_locs (lc' := []) [] rfl ?_
    exact hj5 ((1 : Int32)) s2
