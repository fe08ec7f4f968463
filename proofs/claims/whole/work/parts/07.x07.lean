noncomputable def f_X11_actor (a1 : Int32) (a2 : Int32) (st : fSt) : Option (Int32 × fSt) :=
  fNn (gP st 2 0 0) fun y1 =>
  fBd (f_X11_isBelow a1 (gI st 7 y1 1) st) fun x2 s3 =>
  if ¬ x2 = 0 then
    (if a2 = (0 : Int32) then
      (fNn (gP s3 2 0 0) fun y5 =>
      fIx a1 6 <|
      fBd (f_X11_answer (gA s3 7 y5 5 a1.toNatClampNeg) s3) fun x6 s7 =>
      some (x6, s7))
    else
    if a2 = (1 : Int32) then
      (fNn (gP s3 2 0 0) fun y9 =>
      fIx a1 6 <|
      fBd (f_X11_answer (gA s3 7 y9 6 a1.toNatClampNeg) s3) fun x10 s11 =>
      some (x10, s11))
    else
    if a2 = (2 : Int32) then
      (fNn (gP s3 2 0 0) fun y13 =>
      fIx a1 6 <|
      fBd (f_X11_answer (gA s3 7 y13 7 a1.toNatClampNeg) s3) fun x14 s15 =>
      some (x14, s15))
    else
    fBd (f_X11_fail ((5 : Int32)) s3) fun x16 s17 =>
    some (x16, s17))
  else
    (fBd (f_X11_fail ((2 : Int32)) s3) fun x18 s19 =>
    some (x18, s19))

set_option maxHeartbeats 4000000 in
set_option maxRecDepth 100000 in
theorem c_X11_actor (Δ : fDl) (hN : fNx Δ) (a1 : Int32) (a2 : Int32)  (st : fSt) : fMt eI Δ yX11_actor cX11_actor 3 (some .int) 2 [.ref (fad Δ 11 0 0), .int a1, .int a2] st (f_X11_actor a1 a2 st) := by
  unfold f_X11_actor
  refine r_method (by decide +kernel) (Nat.le_of_ble_eq_true rfl) (fun Γ C => ?_)
  have C : fC Δ Γ cX11_actor RX11 3 (some .int) 2 := C
  refine r_locs (lc' := [(0, .ref (fad Δ 11 0 0)), (1, .int a1), (2, .int a2)]) [0, 1, 2] rfl ?_
  refine r_iload_n (q := 1) (i := 1) (z := 1) C dX11_actor_0 rfl rfl rfl ?_
  refine r_aload_n (q := 2) (i := 0) (z := 0) C dX11_actor_1 rfl rfl rfl ?_
  refine g_X11_41 (q := 5) C (nk_11_0 hN) dX11_actor_2 rfl ?_
  refine g_X11_92 (q := 8) C (nk_2_0 hN) dX11_actor_5 rfl ?_
  refine r_deref C (fun h => (h _ (nk_2_0 hN)).1) (fun y1 hy1 => ?_)
  refine g_X11_217 (q := 11) C hy1 dX11_actor_8 rfl ?_
  refine r_callSI (q := 14) (As := [.int a1, .int (gI st 7 y1 1)]) wm_X11_117 ysX11_isBelow (c_X11_isBelow Δ hN a1 (gI st 7 y1 1) st) C (by decide) rfl (Nat.le_of_ble_eq_true rfl) dX11_actor_11 rfl (fun x2 s3 => ?_)
  refine r_if_ne (q := 17) (tgt := 23) C dX11_actor_14 (by decide) rfl ?_ ?_
  · refine r_iload_n (q := 24) (i := 2) (z := 2) C dX11_actor_23 rfl rfl rfl ?_
    refine r_bif (fun hs4 => ?_) (fun hs4 => ?_)
    · refine r_tsHit (tgt := 52) (n := 0) C dX11_actor_24 hs4 (by decide) (by decide) (by decide) rfl (by decide) ?_
      refine r_aload_n (q := 53) (i := 0) (z := 0) C dX11_actor_52 rfl rfl rfl ?_
      refine r_aload_n (q := 54) (i := 0) (z := 0) C dX11_actor_53 rfl rfl rfl ?_
      refine g_X11_41 (q := 57) C (nk_11_0 hN) dX11_actor_54 rfl ?_
      refine g_X11_92 (q := 60) C (nk_2_0 hN) dX11_actor_57 rfl ?_
      refine r_deref C (fun h => (h _ (nk_2_0 hN)).1) (fun y5 hy5 => ?_)
      refine g_X11_252 (q := 63) C hy5 dX11_actor_60 rfl ?_
      refine r_iload_n (q := 64) (i := 1) (z := 1) C dX11_actor_63 rfl rfl rfl ?_
      refine r_ial (q := 65) q_7_5 h_7_5 C hy5 dX11_actor_64 rfl ?_
      refine r_callVI (q := 68) (As := [.int (gA s3 7 y5 5 a1.toNatClampNeg)]) wm_X11_190 yvX11_answer (c_X11_answer Δ hN (gA s3 7 y5 5 a1.toNatClampNeg) s3) ⟨rfl, by decide⟩ C (nk_11_0 hN) (by decide) rfl (Nat.le_of_ble_eq_true rfl) dX11_actor_65 rfl (fun x6 s7 => ?_)
      exact r_iret C dX11_actor_68
    refine r_bif (fun hs8 => ?_) (fun hs8 => ?_)
    · refine r_tsHit (tgt := 69) (n := 1) C dX11_actor_24 hs8 (by decide) (by decide) (by decide) rfl (by decide) ?_
      refine r_aload_n (q := 70) (i := 0) (z := 0) C dX11_actor_69 rfl rfl rfl ?_
      refine r_aload_n (q := 71) (i := 0) (z := 0) C dX11_actor_70 rfl rfl rfl ?_
      refine g_X11_41 (q := 74) C (nk_11_0 hN) dX11_actor_71 rfl ?_
      refine g_X11_92 (q := 77) C (nk_2_0 hN) dX11_actor_74 rfl ?_
      refine r_deref C (fun h => (h _ (nk_2_0 hN)).1) (fun y9 hy9 => ?_)
      refine g_X11_255 (q := 80) C hy9 dX11_actor_77 rfl ?_
      refine r_iload_n (q := 81) (i := 1) (z := 1) C dX11_actor_80 rfl rfl rfl ?_
      refine r_ial (q := 82) q_7_6 h_7_6 C hy9 dX11_actor_81 rfl ?_
      refine r_callVI (q := 85) (As := [.int (gA s3 7 y9 6 a1.toNatClampNeg)]) wm_X11_190 yvX11_answer (c_X11_answer Δ hN (gA s3 7 y9 6 a1.toNatClampNeg) s3) ⟨rfl, by decide⟩ C (nk_11_0 hN) (by decide) rfl (Nat.le_of_ble_eq_true rfl) dX11_actor_82 rfl (fun x10 s11 => ?_)
      exact r_iret C dX11_actor_85
    refine r_bif (fun hs12 => ?_) (fun hs12 => ?_)
    · refine r_tsHit (tgt := 86) (n := 2) C dX11_actor_24 hs12 (by decide) (by decide) (by decide) rfl (by decide) ?_
      refine r_aload_n (q := 87) (i := 0) (z := 0) C dX11_actor_86 rfl rfl rfl ?_
      refine r_aload_n (q := 88) (i := 0) (z := 0) C dX11_actor_87 rfl rfl rfl ?_
      refine g_X11_41 (q := 91) C (nk_11_0 hN) dX11_actor_88 rfl ?_
      refine g_X11_92 (q := 94) C (nk_2_0 hN) dX11_actor_91 rfl ?_
      refine r_deref C (fun h => (h _ (nk_2_0 hN)).1) (fun y13 hy13 => ?_)
      refine g_X11_258 (q := 97) C hy13 dX11_actor_94 rfl ?_
      refine r_iload_n (q := 98) (i := 1) (z := 1) C dX11_actor_97 rfl rfl rfl ?_
      refine r_ial (q := 99) q_7_7 h_7_7 C hy13 dX11_actor_98 rfl ?_
      refine r_callVI (q := 102) (As := [.int (gA s3 7 y13 7 a1.toNatClampNeg)]) wm_X11_190 yvX11_answer (c_X11_answer Δ hN (gA s3 7 y13 7 a1.toNatClampNeg) s3) ⟨rfl, by decide⟩ C (nk_11_0 hN) (by decide) rfl (Nat.le_of_ble_eq_true rfl) dX11_actor_99 rfl (fun x14 s15 => ?_)
      exact r_iret C dX11_actor_102
    refine r_tsDef (tgt := 103) C dX11_actor_24 (by have ehs4 := fNe hs4 0 (by decide); have ehs8 := fNe hs8 1 (by decide); have ehs12 := fNe hs12 2 (by decide); omega) (by decide) ?_
    refine r_aload_n (q := 104) (i := 0) (z := 0) C dX11_actor_103 rfl rfl rfl ?_
    refine r_iconst (q := 105) (v := 5) C dX11_actor_104 rfl (by decide) ?_
    refine r_callVI (q := 108) (As := [.int ((5 : Int32))]) wm_X11_143 yvX11_fail (c_X11_fail Δ hN ((5 : Int32)) s3) ⟨rfl, by decide⟩ C (nk_11_0 hN) (by decide) rfl (Nat.le_of_ble_eq_true rfl) dX11_actor_105 rfl (fun x16 s17 => ?_)
    exact r_iret C dX11_actor_108
  · refine r_aload_n (q := 18) (i := 0) (z := 0) C dX11_actor_17 rfl rfl rfl ?_
    refine r_iconst (q := 19) (v := 2) C dX11_actor_18 rfl (by decide) ?_
    refine r_callVI (q := 22) (As := [.int ((2 : Int32))]) wm_X11_143 yvX11_fail (c_X11_fail Δ hN ((2 : Int32)) s3) ⟨rfl, by decide⟩ C (nk_11_0 hN) (by decide) rfl (Nat.le_of_ble_eq_true rfl) dX11_actor_19 rfl (fun x18 s19 => ?_)
    exact r_iret C dX11_actor_22

noncomputable def f_X11_bar (a1 : Int32) (a2 : Int32) (st : fSt) : Option (Int32 × fSt) :=
  fBd (f_X11_hasScene a1 st) fun x1 s2 =>
  if ¬ x1 = 0 then
    (fBd (f_X2_setBarred 0 a1 a2 s2) fun _ s3 =>
    fBd (f_X11_agree  s3) fun x4 s5 =>
    fBo x4 (some (x4, s5)))
  else
    (fBd (f_X11_refuse ((2 : Int32)) s2) fun x6 s7 =>
    fBo x6 (some (x6, s7)))

set_option maxHeartbeats 4000000 in
set_option maxRecDepth 100000 in
theorem c_X11_bar (Δ : fDl) (hN : fNx Δ) (a1 : Int32) (a2 : Int32)  (st : fSt) : fMt eI Δ yX11_bar cX11_bar 3 (some .boolean) 3 [.ref (fad Δ 11 0 0), .int a1, .int a2] st (f_X11_bar a1 a2 st) := by
  unfold f_X11_bar
  refine r_method (by decide +kernel) (Nat.le_of_ble_eq_true rfl) (fun Γ C => ?_)
  have C : fC Δ Γ cX11_bar RX11 3 (some .boolean) 3 := C
  refine r_locs (lc' := [(0, .ref (fad Δ 11 0 0)), (1, .int a1), (2, .int a2)]) [0, 1, 2] rfl ?_
  refine r_aload_n (q := 1) (i := 0) (z := 0) C dX11_bar_0 rfl rfl rfl ?_
  refine r_iload_n (q := 2) (i := 1) (z := 1) C dX11_bar_1 rfl rfl rfl ?_
  refine r_callVI (q := 5) (As := [.int a1]) wm_X11_237 yvX11_hasScene (c_X11_hasScene Δ hN a1 st) ⟨rfl, by decide⟩ C (nk_11_0 hN) (by decide) rfl (Nat.le_of_ble_eq_true rfl) dX11_bar_2 rfl (fun x1 s2 => ?_)
  refine r_if_ne (q := 8) (tgt := 14) C dX11_bar_5 (by decide) rfl ?_ ?_
  · refine r_aload_n (q := 15) (i := 0) (z := 0) C dX11_bar_14 rfl rfl rfl ?_
    refine g_X11_41 (q := 18) C (nk_11_0 hN) dX11_bar_15 rfl ?_
    refine r_iload_n (q := 19) (i := 1) (z := 1) C dX11_bar_18 rfl rfl rfl ?_
    refine r_iload_n (q := 20) (i := 2) (z := 2) C dX11_bar_19 rfl rfl rfl ?_
    refine r_callVV (q := 23) (As := [.int a1, .int a2]) wm_X11_261 yvX2_setBarred (c_X2_setBarred Δ hN 0 a1 a2 (nk_2_0 hN) s2) ⟨rfl, by decide⟩ C (nk_2_0 hN) (by decide) rfl (Nat.le_of_ble_eq_true rfl) dX11_bar_20 rfl (fun _ s3 => ?_)
    refine r_aload_n (q := 24) (i := 0) (z := 0) C dX11_bar_23 rfl rfl rfl ?_
    refine r_callVI (q := 27) (As := []) wm_X11_110 yvX11_agree (c_X11_agree Δ hN s3) ⟨rfl, by decide⟩ C (nk_11_0 hN) (by decide) rfl (Nat.le_of_ble_eq_true rfl) dX11_bar_24 rfl (fun x4 s5 => ?_)
    exact r_zret C dX11_bar_27
  · refine r_aload_n (q := 9) (i := 0) (z := 0) C dX11_bar_8 rfl rfl rfl ?_
    refine r_iconst (q := 10) (v := 2) C dX11_bar_9 rfl (by decide) ?_
    refine r_callVI (q := 13) (As := [.int ((2 : Int32))]) wm_X11_106 yvX11_refuse (c_X11_refuse Δ hN ((2 : Int32)) s2) ⟨rfl, by decide⟩ C (nk_11_0 hN) (by decide) rfl (Nat.le_of_ble_eq_true rfl) dX11_bar_10 rfl (fun x6 s7 => ?_)
    exact r_zret C dX11_bar_13

noncomputable def f_X11_kill (a1 : Int32) (a2 : Int32) (st : fSt) : Option (Int32 × fSt) :=
  fBd (f_X11_hasRole a1 st) fun x1 s2 =>
  if ¬ x1 = 0 then
    (fBd (f_X2_setDead 0 a1 a2 s2) fun _ s3 =>
    fBd (f_X11_agree  s3) fun x4 s5 =>
    fBo x4 (some (x4, s5)))
  else
    (fBd (f_X11_refuse ((2 : Int32)) s2) fun x6 s7 =>
    fBo x6 (some (x6, s7)))

set_option maxHeartbeats 4000000 in
set_option maxRecDepth 100000 in
theorem c_X11_kill (Δ : fDl) (hN : fNx Δ) (a1 : Int32) (a2 : Int32)  (st : fSt) : fMt eI Δ yX11_kill cX11_kill 3 (some .boolean) 3 [.ref (fad Δ 11 0 0), .int a1, .int a2] st (f_X11_kill a1 a2 st) := by
  unfold f_X11_kill
  refine r_method (by decide +kernel) (Nat.le_of_ble_eq_true rfl) (fun Γ C => ?_)
  have C : fC Δ Γ cX11_kill RX11 3 (some .boolean) 3 := C
  refine r_locs (lc' := [(0, .ref (fad Δ 11 0 0)), (1, .int a1), (2, .int a2)]) [0, 1, 2] rfl ?_
  refine r_aload_n (q := 1) (i := 0) (z := 0) C dX11_kill_0 rfl rfl rfl ?_
  refine r_iload_n (q := 2) (i := 1) (z := 1) C dX11_kill_1 rfl rfl rfl ?_
  refine r_callVI (q := 5) (As := [.int a1]) wm_X11_265 yvX11_hasRole (c_X11_hasRole Δ hN a1 st) ⟨rfl, by decide⟩ C (nk_11_0 hN) (by decide) rfl (Nat.le_of_ble_eq_true rfl) dX11_kill_2 rfl (fun x1 s2 => ?_)
  refine r_if_ne (q := 8) (tgt := 14) C dX11_kill_5 (by decide) rfl ?_ ?_
  · refine r_aload_n (q := 15) (i := 0) (z := 0) C dX11_kill_14 rfl rfl rfl ?_
    refine g_X11_41 (q := 18) C (nk_11_0 hN) dX11_kill_15 rfl ?_
    refine r_iload_n (q := 19) (i := 1) (z := 1) C dX11_kill_18 rfl rfl rfl ?_
    refine r_iload_n (q := 20) (i := 2) (z := 2) C dX11_kill_19 rfl rfl rfl ?_
    refine r_callVV (q := 23) (As := [.int a1, .int a2]) wm_X11_268 yvX2_setDead (c_X2_setDead Δ hN 0 a1 a2 (nk_2_0 hN) s2) ⟨rfl, by decide⟩ C (nk_2_0 hN) (by decide) rfl (Nat.le_of_ble_eq_true rfl) dX11_kill_20 rfl (fun _ s3 => ?_)
    refine r_aload_n (q := 24) (i := 0) (z := 0) C dX11_kill_23 rfl rfl rfl ?_
    refine r_callVI (q := 27) (As := []) wm_X11_110 yvX11_agree (c_X11_agree Δ hN s3) ⟨rfl, by decide⟩ C (nk_11_0 hN) (by decide) rfl (Nat.le_of_ble_eq_true rfl) dX11_kill_24 rfl (fun x4 s5 => ?_)
    exact r_zret C dX11_kill_27
  · refine r_aload_n (q := 9) (i := 0) (z := 0) C dX11_kill_8 rfl rfl rfl ?_
    refine r_iconst (q := 10) (v := 2) C dX11_kill_9 rfl (by decide) ?_
    refine r_callVI (q := 13) (As := [.int ((2 : Int32))]) wm_X11_106 yvX11_refuse (c_X11_refuse Δ hN ((2 : Int32)) s2) ⟨rfl, by decide⟩ C (nk_11_0 hN) (by decide) rfl (Nat.le_of_ble_eq_true rfl) dX11_kill_10 rfl (fun x6 s7 => ?_)
    exact r_zret C dX11_kill_13

noncomputable def f_X11_night (a1 : Int32) (a2 : Int32) (st : fSt) : Option (Int32 × fSt) :=
  fBd (f_X11_isBelow a1 ((4 : Int32)) st) fun x1 s2 =>
  if ¬ x1 = 0 then
    (fIx a1 4 <|
    if ¬ (gI s2 8 a1.toNatClampNeg 1) = 0 then
      (fBd (f_X11_isIn a2 ((0 : Int32)) ((12 : Int32)) s2) fun x4 s5 =>
      if ¬ x4 = 0 then
        (fBd (f_X8_hasPlaces a1.toNatClampNeg ((0 : Int32)) a2 s5) fun x6 s7 =>
        if ¬ x6 = 0 then
          (fBd (f_X8_holdsDeeds a1.toNatClampNeg a2 s7) fun x8 s9 =>
          if ¬ x8 = 0 then
            (fBd (f_X2_canOpen 0 s9) fun x10 s11 =>
            if ¬ x10 = 0 then
              (fBd (f_X3_playByHand 0 0 a1.toNatClampNeg a2 s11) fun _ s12 =>
              fBd (f_X0_note 0 0 s12) fun _ s13 =>
              fBd (f_X11_answer (gI s13 3 0 0) s13) fun x14 s15 =>
              some (x14, s15))
            else
              (fBd (f_X11_fail ((9 : Int32)) s11) fun x16 s17 =>
              some (x16, s17)))
          else
            (fBd (f_X11_fail ((5 : Int32)) s9) fun x18 s19 =>
            some (x18, s19)))
        else
          (fBd (f_X11_fail ((4 : Int32)) s7) fun x20 s21 =>
          some (x20, s21)))
      else
        (fBd (f_X11_fail ((5 : Int32)) s5) fun x22 s23 =>
        some (x22, s23)))
    else
      (fBd (f_X11_fail ((3 : Int32)) s2) fun x24 s25 =>
      some (x24, s25)))
  else
    (fBd (f_X11_fail ((1 : Int32)) s2) fun x26 s27 =>
    some (x26, s27))

set_option maxHeartbeats 4000000 in
set_option maxRecDepth 100000 in
theorem c_X11_night (Δ : fDl) (hN : fNx Δ) (a1 : Int32) (a2 : Int32)  (st : fSt) : fMt eI Δ yX11_night cX11_night 4 (some .int) 5 [.ref (fad Δ 11 0 0), .int a1, .int a2] st (f_X11_night a1 a2 st) := by
  unfold f_X11_night
  refine r_method (by decide +kernel) (Nat.le_of_ble_eq_true rfl) (fun Γ C => ?_)
  have C : fC Δ Γ cX11_night RX11 4 (some .int) 5 := C
  refine r_locs (lc' := [(0, .ref (fad Δ 11 0 0)), (1, .int a1), (2, .int a2)]) [0, 1, 2] rfl ?_
  refine r_iload_n (q := 1) (i := 1) (z := 1) C dX11_night_0 rfl rfl rfl ?_
  refine r_iconst (q := 2) (v := 4) C dX11_night_1 rfl (by decide) ?_
  refine r_callSI (q := 5) (As := [.int a1, .int ((4 : Int32))]) wm_X11_117 ysX11_isBelow (c_X11_isBelow Δ hN a1 ((4 : Int32)) st) C (by decide) rfl (Nat.le_of_ble_eq_true rfl) dX11_night_2 rfl (fun x1 s2 => ?_)
  refine r_if_ne (q := 8) (tgt := 14) C dX11_night_5 (by decide) rfl ?_ ?_
  · refine r_aload_n (q := 15) (i := 0) (z := 0) C dX11_night_14 rfl rfl rfl ?_
    refine g_X11_11 (q := 18) C (nk_11_0 hN) dX11_night_15 rfl ?_
    refine r_iload_n (q := 19) (i := 1) (z := 1) C dX11_night_18 rfl rfl rfl ?_
    refine r_qal8 (q := 20) q_11_1 h_11_1 C (nk_11_0 hN) (nx_48 hN) dX11_night_19 rfl (fun hq3 => ?_)
    refine r_astore_n (q := 21) (i := 3) [(0, .ref (fad Δ 11 0 0)), (1, .int a1), (2, .int a2)] C dX11_night_20 rfl rfl (by decide) rfl ?_
    refine r_aload_n (q := 22) (i := 3) (z := 0) C dX11_night_21 rfl rfl rfl ?_
    refine g_X11_151 (q := 25) C hq3 dX11_night_22 rfl ?_
    refine r_if_ne (q := 28) (tgt := 34) C dX11_night_25 (by decide) rfl ?_ ?_
    · refine r_iload_n (q := 35) (i := 2) (z := 3) C dX11_night_34 rfl rfl rfl ?_
      refine r_iconst (q := 36) (v := 0) C dX11_night_35 rfl (by decide) ?_
      refine r_bipush (q := 38) (v := 12) C dX11_night_36 rfl (by decide) ?_
      refine r_callSI (q := 41) (As := [.int a2, .int ((0 : Int32)), .int ((12 : Int32))]) wm_X11_127 ysX11_isIn (c_X11_isIn Δ hN a2 ((0 : Int32)) ((12 : Int32)) s2) C (by decide) rfl (Nat.le_of_ble_eq_true rfl) dX11_night_38 rfl (fun x4 s5 => ?_)
      refine r_if_ne (q := 44) (tgt := 50) C dX11_night_41 (by decide) rfl ?_ ?_
      · refine r_aload_n (q := 51) (i := 3) (z := 0) C dX11_night_50 rfl rfl rfl ?_
        refine r_iconst (q := 52) (v := 0) C dX11_night_51 rfl (by decide) ?_
        refine r_iload_n (q := 53) (i := 2) (z := 3) C dX11_night_52 rfl rfl rfl ?_
        refine r_callVI (q := 56) (As := [.int ((0 : Int32)), .int a2]) wm_X11_161 yvX8_hasPlaces (c_X8_hasPlaces Δ hN a1.toNatClampNeg ((0 : Int32)) a2 hq3 s5) ⟨rfl, by decide⟩ C hq3 (by decide) rfl (Nat.le_of_ble_eq_true rfl) dX11_night_53 rfl (fun x6 s7 => ?_)
        refine r_if_ne (q := 59) (tgt := 65) C dX11_night_56 (by decide) rfl ?_ ?_
        · refine r_aload_n (q := 66) (i := 3) (z := 0) C dX11_night_65 rfl rfl rfl ?_
          refine r_iload_n (q := 67) (i := 2) (z := 3) C dX11_night_66 rfl rfl rfl ?_
          refine r_callVI (q := 70) (As := [.int a2]) wm_X11_271 yvX8_holdsDeeds (c_X8_holdsDeeds Δ hN a1.toNatClampNeg a2 hq3 s7) ⟨rfl, by decide⟩ C hq3 (by decide) rfl (Nat.le_of_ble_eq_true rfl) dX11_night_67 rfl (fun x8 s9 => ?_)
          refine r_if_ne (q := 73) (tgt := 79) C dX11_night_70 (by decide) rfl ?_ ?_
          · refine r_aload_n (q := 80) (i := 0) (z := 1) C dX11_night_79 rfl rfl rfl ?_
            refine g_X11_41 (q := 83) C (nk_11_0 hN) dX11_night_80 rfl ?_
            refine r_callVI (q := 86) (As := []) wm_X11_274 yvX2_canOpen (c_X2_canOpen Δ hN 0 (nk_2_0 hN) s9) ⟨rfl, by decide⟩ C (nk_2_0 hN) (by decide) rfl (Nat.le_of_ble_eq_true rfl) dX11_night_83 rfl (fun x10 s11 => ?_)
            refine r_if_ne (q := 89) (tgt := 96) C dX11_night_86 (by decide) rfl ?_ ?_
            · refine r_aload_n (q := 97) (i := 0) (z := 1) C dX11_night_96 rfl rfl rfl ?_
              refine g_X11_52 (q := 100) C (nk_11_0 hN) dX11_night_97 rfl ?_
              refine r_aload_n (q := 101) (i := 0) (z := 1) C dX11_night_100 rfl rfl rfl ?_
              refine g_X11_41 (q := 104) C (nk_11_0 hN) dX11_night_101 rfl ?_
              refine r_aload_n (q := 105) (i := 3) (z := 0) C dX11_night_104 rfl rfl rfl ?_
              refine g_X11_147 (q := 108) C hq3 dX11_night_105 rfl ?_
              refine r_iload_n (q := 109) (i := 2) (z := 3) C dX11_night_108 rfl rfl rfl ?_
              refine r_callVV (q := 112) (As := [.ref (fad Δ 2 0 0), .ref (fad Δ 8 a1.toNatClampNeg 1), .int a2]) wm_X11_277 yvX3_playByHand (c_X3_playByHand Δ hN 0 0 a1.toNatClampNeg a2 (nk_3_0 hN) (nk_2_0 hN) hq3 s11) ⟨rfl, by decide⟩ C (nk_3_0 hN) (by decide) rfl (Nat.le_of_ble_eq_true rfl) dX11_night_109 rfl (fun _ s12 => ?_)
              refine r_aload_n (q := 113) (i := 0) (z := 1) C dX11_night_112 rfl rfl rfl ?_
              refine g_X11_41 (q := 116) C (nk_11_0 hN) dX11_night_113 rfl ?_
              refine g_X11_220 (q := 119) C (nk_2_0 hN) dX11_night_116 rfl ?_
              refine r_aload_n (q := 120) (i := 0) (z := 1) C dX11_night_119 rfl rfl rfl ?_
              refine g_X11_52 (q := 123) C (nk_11_0 hN) dX11_night_120 rfl ?_
              refine r_callVV (q := 126) (As := [.ref (fad Δ 3 0 0)]) wm_X11_281 yvX0_note (c_X0_note Δ hN 0 0 (nk_0_0 hN) (nk_3_0 hN) s12) ⟨rfl, by decide⟩ C (nk_0_0 hN) (by decide) rfl (Nat.le_of_ble_eq_true rfl) dX11_night_123 rfl (fun _ s13 => ?_)
              refine r_aload_n (q := 127) (i := 0) (z := 1) C dX11_night_126 rfl rfl rfl ?_
              refine r_aload_n (q := 128) (i := 0) (z := 1) C dX11_night_127 rfl rfl rfl ?_
              refine g_X11_52 (q := 131) C (nk_11_0 hN) dX11_night_128 rfl ?_
              refine g_X11_285 (q := 134) C (nk_3_0 hN) dX11_night_131 rfl ?_
              refine r_callVI (q := 137) (As := [.int (gI s13 3 0 0)]) wm_X11_190 yvX11_answer (c_X11_answer Δ hN (gI s13 3 0 0) s13) ⟨rfl, by decide⟩ C (nk_11_0 hN) (by decide) rfl (Nat.le_of_ble_eq_true rfl) dX11_night_134 rfl (fun x14 s15 => ?_)
              exact r_iret C dX11_night_137
            · refine r_aload_n (q := 90) (i := 0) (z := 1) C dX11_night_89 rfl rfl rfl ?_
              refine r_bipush (q := 92) (v := 9) C dX11_night_90 rfl (by decide) ?_
              refine r_callVI (q := 95) (As := [.int ((9 : Int32))]) wm_X11_143 yvX11_fail (c_X11_fail Δ hN ((9 : Int32)) s11) ⟨rfl, by decide⟩ C (nk_11_0 hN) (by decide) rfl (Nat.le_of_ble_eq_true rfl) dX11_night_92 rfl (fun x16 s17 => ?_)
              exact r_iret C dX11_night_95
          · refine r_aload_n (q := 74) (i := 0) (z := 1) C dX11_night_73 rfl rfl rfl ?_
            refine r_iconst (q := 75) (v := 5) C dX11_night_74 rfl (by decide) ?_
            refine r_callVI (q := 78) (As := [.int ((5 : Int32))]) wm_X11_143 yvX11_fail (c_X11_fail Δ hN ((5 : Int32)) s9) ⟨rfl, by decide⟩ C (nk_11_0 hN) (by decide) rfl (Nat.le_of_ble_eq_true rfl) dX11_night_75 rfl (fun x18 s19 => ?_)
            exact r_iret C dX11_night_78
        · refine r_aload_n (q := 60) (i := 0) (z := 1) C dX11_night_59 rfl rfl rfl ?_
          refine r_iconst (q := 61) (v := 4) C dX11_night_60 rfl (by decide) ?_
          refine r_callVI (q := 64) (As := [.int ((4 : Int32))]) wm_X11_143 yvX11_fail (c_X11_fail Δ hN ((4 : Int32)) s7) ⟨rfl, by decide⟩ C (nk_11_0 hN) (by decide) rfl (Nat.le_of_ble_eq_true rfl) dX11_night_61 rfl (fun x20 s21 => ?_)
          exact r_iret C dX11_night_64
      · refine r_aload_n (q := 45) (i := 0) (z := 1) C dX11_night_44 rfl rfl rfl ?_
        refine r_iconst (q := 46) (v := 5) C dX11_night_45 rfl (by decide) ?_
        refine r_callVI (q := 49) (As := [.int ((5 : Int32))]) wm_X11_143 yvX11_fail (c_X11_fail Δ hN ((5 : Int32)) s5) ⟨rfl, by decide⟩ C (nk_11_0 hN) (by decide) rfl (Nat.le_of_ble_eq_true rfl) dX11_night_46 rfl (fun x22 s23 => ?_)
        exact r_iret C dX11_night_49
    · refine r_aload_n (q := 29) (i := 0) (z := 1) C dX11_night_28 rfl rfl rfl ?_
      refine r_iconst (q := 30) (v := 3) C dX11_night_29 rfl (by decide) ?_
      refine r_callVI (q := 33) (As := [.int ((3 : Int32))]) wm_X11_143 yvX11_fail (c_X11_fail Δ hN ((3 : Int32)) s2) ⟨rfl, by decide⟩ C (nk_11_0 hN) (by decide) rfl (Nat.le_of_ble_eq_true rfl) dX11_night_30 rfl (fun x24 s25 => ?_)
      exact r_iret C dX11_night_33
  · refine r_aload_n (q := 9) (i := 0) (z := 0) C dX11_night_8 rfl rfl rfl ?_
    refine r_iconst (q := 10) (v := 1) C dX11_night_9 rfl (by decide) ?_
    refine r_callVI (q := 13) (As := [.int ((1 : Int32))]) wm_X11_143 yvX11_fail (c_X11_fail Δ hN ((1 : Int32)) s2) ⟨rfl, by decide⟩ C (nk_11_0 hN) (by decide) rfl (Nat.le_of_ble_eq_true rfl) dX11_night_10 rfl (fun x26 s27 => ?_)
    exact r_iret C dX11_night_13

noncomputable def f_X11_lot (a1 : Int32) (st : fSt) : Option (Int32 × fSt) :=
  fBd (f_X11_isIn a1 ((0 : Int32)) ((9999 : Int32)) st) fun x1 s2 =>
  if ¬ x1 = 0 then
    (fNn (gP s2 2 0 0) fun y3 =>
    if ¬ (gI s2 7 y3 3) = 0 then
      (fBd (f_X2_canOpen 0 s2) fun x4 s5 =>
      if ¬ x4 = 0 then
        (fBd (f_X3_sow 0 a1 s5) fun _ s6 =>
        fNn (gP s6 2 0 0) fun y7 =>
        fBd (f_X3_drawKind 0 y7 s6) fun x8 s9 =>
        fBd (f_X3_playFor 0 0 x8 s9) fun _ s10 =>
        fBd (f_X0_note 0 0 s10) fun _ s11 =>
        fBd (f_X11_answer (gI s11 3 0 2) s11) fun x12 s13 =>
        some (x12, s13))
      else
        (fBd (f_X11_fail ((9 : Int32)) s5) fun x14 s15 =>
        some (x14, s15)))
    else
      (fBd (f_X11_fail ((8 : Int32)) s2) fun x16 s17 =>
      some (x16, s17)))
  else
    (fBd (f_X11_fail ((5 : Int32)) s2) fun x18 s19 =>
    some (x18, s19))

set_option maxHeartbeats 4000000 in
set_option maxRecDepth 100000 in
theorem c_X11_lot (Δ : fDl) (hN : fNx Δ) (a1 : Int32)  (st : fSt) : fMt eI Δ yX11_lot cX11_lot 2 (some .int) 5 [.ref (fad Δ 11 0 0), .int a1] st (f_X11_lot a1 st) := by
  unfold f_X11_lot
  refine r_method (by decide +kernel) (Nat.le_of_ble_eq_true rfl) (fun Γ C => ?_)
  have C : fC Δ Γ cX11_lot RX11 2 (some .int) 5 := C
  refine r_locs (lc' := [(0, .ref (fad Δ 11 0 0)), (1, .int a1)]) [0, 1] rfl ?_
  refine r_iload_n (q := 1) (i := 1) (z := 1) C dX11_lot_0 rfl rfl rfl ?_
  refine r_iconst (q := 2) (v := 0) C dX11_lot_1 rfl (by decide) ?_
  refine r_sipush (q := 5) (v := 9999) C dX11_lot_2 rfl (by decide) ?_
  refine r_callSI (q := 8) (As := [.int a1, .int ((0 : Int32)), .int ((9999 : Int32))]) wm_X11_127 ysX11_isIn (c_X11_isIn Δ hN a1 ((0 : Int32)) ((9999 : Int32)) st) C (by decide) rfl (Nat.le_of_ble_eq_true rfl) dX11_lot_5 rfl (fun x1 s2 => ?_)
  refine r_if_ne (q := 11) (tgt := 17) C dX11_lot_8 (by decide) rfl ?_ ?_
  · refine r_aload_n (q := 18) (i := 0) (z := 0) C dX11_lot_17 rfl rfl rfl ?_
    refine g_X11_41 (q := 21) C (nk_11_0 hN) dX11_lot_18 rfl ?_
    refine g_X11_92 (q := 24) C (nk_2_0 hN) dX11_lot_21 rfl ?_
    refine r_deref C (fun h => (h _ (nk_2_0 hN)).1) (fun y3 hy3 => ?_)
    refine g_X11_121 (q := 27) C hy3 dX11_lot_24 rfl ?_
    refine r_if_ne (q := 30) (tgt := 37) C dX11_lot_27 (by decide) rfl ?_ ?_
    · refine r_aload_n (q := 38) (i := 0) (z := 0) C dX11_lot_37 rfl rfl rfl ?_
      refine g_X11_41 (q := 41) C (nk_11_0 hN) dX11_lot_38 rfl ?_
      refine r_callVI (q := 44) (As := []) wm_X11_274 yvX2_canOpen (c_X2_canOpen Δ hN 0 (nk_2_0 hN) s2) ⟨rfl, by decide⟩ C (nk_2_0 hN) (by decide) rfl (Nat.le_of_ble_eq_true rfl) dX11_lot_41 rfl (fun x4 s5 => ?_)
      refine r_if_ne (q := 47) (tgt := 54) C dX11_lot_44 (by decide) rfl ?_ ?_
      · refine r_aload_n (q := 55) (i := 0) (z := 0) C dX11_lot_54 rfl rfl rfl ?_
        refine g_X11_52 (q := 58) C (nk_11_0 hN) dX11_lot_55 rfl ?_
        refine r_iload_n (q := 59) (i := 1) (z := 1) C dX11_lot_58 rfl rfl rfl ?_
        refine r_callVV (q := 62) (As := [.int a1]) wm_X11_288 yvX3_sow (c_X3_sow Δ hN 0 a1 (nk_3_0 hN) s5) ⟨rfl, by decide⟩ C (nk_3_0 hN) (by decide) rfl (Nat.le_of_ble_eq_true rfl) dX11_lot_59 rfl (fun _ s6 => ?_)
        refine r_aload_n (q := 63) (i := 0) (z := 0) C dX11_lot_62 rfl rfl rfl ?_
        refine g_X11_52 (q := 66) C (nk_11_0 hN) dX11_lot_63 rfl ?_
        refine r_aload_n (q := 67) (i := 0) (z := 0) C dX11_lot_66 rfl rfl rfl ?_
        refine g_X11_41 (q := 70) C (nk_11_0 hN) dX11_lot_67 rfl ?_
        refine r_aload_n (q := 71) (i := 0) (z := 0) C dX11_lot_70 rfl rfl rfl ?_
        refine g_X11_52 (q := 74) C (nk_11_0 hN) dX11_lot_71 rfl ?_
        refine r_aload_n (q := 75) (i := 0) (z := 0) C dX11_lot_74 rfl rfl rfl ?_
        refine g_X11_41 (q := 78) C (nk_11_0 hN) dX11_lot_75 rfl ?_
        refine g_X11_92 (q := 81) C (nk_2_0 hN) dX11_lot_78 rfl ?_
        refine r_deref C (fun h => (h _ (nk_2_0 hN)).1) (fun y7 hy7 => ?_)
        refine r_callVI (q := 84) (As := [.ref (fad Δ 7 y7 0)]) wm_X11_291 yvX3_drawKind (c_X3_drawKind Δ hN 0 y7 (nk_3_0 hN) hy7 s6) ⟨rfl, by decide⟩ C (nk_3_0 hN) (by decide) rfl (Nat.le_of_ble_eq_true rfl) dX11_lot_81 rfl (fun x8 s9 => ?_)
        refine r_callVV (q := 87) (As := [.ref (fad Δ 2 0 0), .int x8]) wm_X11_295 yvX3_playFor (c_X3_playFor Δ hN 0 0 x8 (nk_3_0 hN) (nk_2_0 hN) s9) ⟨rfl, by decide⟩ C (nk_3_0 hN) (by decide) rfl (Nat.le_of_ble_eq_true rfl) dX11_lot_84 rfl (fun _ s10 => ?_)
        refine r_aload_n (q := 88) (i := 0) (z := 0) C dX11_lot_87 rfl rfl rfl ?_
        refine g_X11_41 (q := 91) C (nk_11_0 hN) dX11_lot_88 rfl ?_
        refine g_X11_220 (q := 94) C (nk_2_0 hN) dX11_lot_91 rfl ?_
        refine r_aload_n (q := 95) (i := 0) (z := 0) C dX11_lot_94 rfl rfl rfl ?_
        refine g_X11_52 (q := 98) C (nk_11_0 hN) dX11_lot_95 rfl ?_
        refine r_callVV (q := 101) (As := [.ref (fad Δ 3 0 0)]) wm_X11_281 yvX0_note (c_X0_note Δ hN 0 0 (nk_0_0 hN) (nk_3_0 hN) s10) ⟨rfl, by decide⟩ C (nk_0_0 hN) (by decide) rfl (Nat.le_of_ble_eq_true rfl) dX11_lot_98 rfl (fun _ s11 => ?_)
        refine r_aload_n (q := 102) (i := 0) (z := 0) C dX11_lot_101 rfl rfl rfl ?_
        refine r_aload_n (q := 103) (i := 0) (z := 0) C dX11_lot_102 rfl rfl rfl ?_
        refine g_X11_52 (q := 106) C (nk_11_0 hN) dX11_lot_103 rfl ?_
        refine g_X11_299 (q := 109) C (nk_3_0 hN) dX11_lot_106 rfl ?_
        refine r_callVI (q := 112) (As := [.int (gI s11 3 0 2)]) wm_X11_190 yvX11_answer (c_X11_answer Δ hN (gI s11 3 0 2) s11) ⟨rfl, by decide⟩ C (nk_11_0 hN) (by decide) rfl (Nat.le_of_ble_eq_true rfl) dX11_lot_109 rfl (fun x12 s13 => ?_)
        exact r_iret C dX11_lot_112
      · refine r_aload_n (q := 48) (i := 0) (z := 0) C dX11_lot_47 rfl rfl rfl ?_
        refine r_bipush (q := 50) (v := 9) C dX11_lot_48 rfl (by decide) ?_
        refine r_callVI (q := 53) (As := [.int ((9 : Int32))]) wm_X11_143 yvX11_fail (c_X11_fail Δ hN ((9 : Int32)) s5) ⟨rfl, by decide⟩ C (nk_11_0 hN) (by decide) rfl (Nat.le_of_ble_eq_true rfl) dX11_lot_50 rfl (fun x14 s15 => ?_)
        exact r_iret C dX11_lot_53
    · refine r_aload_n (q := 31) (i := 0) (z := 0) C dX11_lot_30 rfl rfl rfl ?_
      refine r_bipush (q := 33) (v := 8) C dX11_lot_31 rfl (by decide) ?_
      refine r_callVI (q := 36) (As := [.int ((8 : Int32))]) wm_X11_143 yvX11_fail (c_X11_fail Δ hN ((8 : Int32)) s2) ⟨rfl, by decide⟩ C (nk_11_0 hN) (by decide) rfl (Nat.le_of_ble_eq_true rfl) dX11_lot_33 rfl (fun x16 s17 => ?_)
      exact r_iret C dX11_lot_36
  · refine r_aload_n (q := 12) (i := 0) (z := 0) C dX11_lot_11 rfl rfl rfl ?_
    refine r_iconst (q := 13) (v := 5) C dX11_lot_12 rfl (by decide) ?_
    refine r_callVI (q := 16) (As := [.int ((5 : Int32))]) wm_X11_143 yvX11_fail (c_X11_fail Δ hN ((5 : Int32)) s2) ⟨rfl, by decide⟩ C (nk_11_0 hN) (by decide) rfl (Nat.le_of_ble_eq_true rfl) dX11_lot_13 rfl (fun x18 s19 => ?_)
    exact r_iret C dX11_lot_16

noncomputable def f_X11_book (a1 : Int32) (a2 : Int32) (st : fSt) : Option (Int32 × fSt) :=
  fBd (f_X11_isIn a2 ((0 : Int32)) ((3 : Int32)) st) fun x1 s2 =>
  if ¬ x1 = 0 then
    (fBd (f_X11_isBelow a1 (gI s2 0 0 0) s2) fun x3 s4 =>
    if ¬ x3 = 0 then
      (fBd (f_X0_entry 0 a1 a2 s4) fun x5 s6 =>
      fBd (f_X11_answer x5 s6) fun x7 s8 =>
      some (x7, s8))
    else
      (fBd (f_X11_fail ((8 : Int32)) s4) fun x9 s10 =>
      some (x9, s10)))
  else
    (fBd (f_X11_fail ((5 : Int32)) s2) fun x11 s12 =>
    some (x11, s12))

set_option maxHeartbeats 4000000 in
set_option maxRecDepth 100000 in
theorem c_X11_book (Δ : fDl) (hN : fNx Δ) (a1 : Int32) (a2 : Int32)  (st : fSt) : fMt eI Δ yX11_book cX11_book 3 (some .int) 2 [.ref (fad Δ 11 0 0), .int a1, .int a2] st (f_X11_book a1 a2 st) := by
  unfold f_X11_book
  refine r_method (by decide +kernel) (Nat.le_of_ble_eq_true rfl) (fun Γ C => ?_)
  have C : fC Δ Γ cX11_book RX11 3 (some .int) 2 := C
  refine r_locs (lc' := [(0, .ref (fad Δ 11 0 0)), (1, .int a1), (2, .int a2)]) [0, 1, 2] rfl ?_
  refine r_iload_n (q := 1) (i := 2) (z := 2) C dX11_book_0 rfl rfl rfl ?_
  refine r_iconst (q := 2) (v := 0) C dX11_book_1 rfl (by decide) ?_
  refine r_iconst (q := 3) (v := 3) C dX11_book_2 rfl (by decide) ?_
  refine r_callSI (q := 6) (As := [.int a2, .int ((0 : Int32)), .int ((3 : Int32))]) wm_X11_127 ysX11_isIn (c_X11_isIn Δ hN a2 ((0 : Int32)) ((3 : Int32)) st) C (by decide) rfl (Nat.le_of_ble_eq_true rfl) dX11_book_3 rfl (fun x1 s2 => ?_)
  refine r_if_ne (q := 9) (tgt := 15) C dX11_book_6 (by decide) rfl ?_ ?_
  · refine r_iload_n (q := 16) (i := 1) (z := 1) C dX11_book_15 rfl rfl rfl ?_
    refine r_aload_n (q := 17) (i := 0) (z := 0) C dX11_book_16 rfl rfl rfl ?_
    refine g_X11_41 (q := 20) C (nk_11_0 hN) dX11_book_17 rfl ?_
    refine g_X11_220 (q := 23) C (nk_2_0 hN) dX11_book_20 rfl ?_
    refine g_X11_224 (q := 26) C (nk_0_0 hN) dX11_book_23 rfl ?_
    refine r_callSI (q := 29) (As := [.int a1, .int (gI s2 0 0 0)]) wm_X11_117 ysX11_isBelow (c_X11_isBelow Δ hN a1 (gI s2 0 0 0) s2) C (by decide) rfl (Nat.le_of_ble_eq_true rfl) dX11_book_26 rfl (fun x3 s4 => ?_)
    refine r_if_ne (q := 32) (tgt := 39) C dX11_book_29 (by decide) rfl ?_ ?_
    · refine r_aload_n (q := 40) (i := 0) (z := 0) C dX11_book_39 rfl rfl rfl ?_
      refine r_aload_n (q := 41) (i := 0) (z := 0) C dX11_book_40 rfl rfl rfl ?_
      refine g_X11_41 (q := 44) C (nk_11_0 hN) dX11_book_41 rfl ?_
      refine g_X11_220 (q := 47) C (nk_2_0 hN) dX11_book_44 rfl ?_
      refine r_iload_n (q := 48) (i := 1) (z := 1) C dX11_book_47 rfl rfl rfl ?_
      refine r_iload_n (q := 49) (i := 2) (z := 2) C dX11_book_48 rfl rfl rfl ?_
      refine r_callVI (q := 52) (As := [.int a1, .int a2]) wm_X11_302 yvX0_entry (c_X0_entry Δ hN 0 a1 a2 (nk_0_0 hN) s4) ⟨rfl, by decide⟩ C (nk_0_0 hN) (by decide) rfl (Nat.le_of_ble_eq_true rfl) dX11_book_49 rfl (fun x5 s6 => ?_)
      refine r_callVI (q := 55) (As := [.int x5]) wm_X11_190 yvX11_answer (c_X11_answer Δ hN x5 s6) ⟨rfl, by decide⟩ C (nk_11_0 hN) (by decide) rfl (Nat.le_of_ble_eq_true rfl) dX11_book_52 rfl (fun x7 s8 => ?_)
      exact r_iret C dX11_book_55
    · refine r_aload_n (q := 33) (i := 0) (z := 0) C dX11_book_32 rfl rfl rfl ?_
      refine r_bipush (q := 35) (v := 8) C dX11_book_33 rfl (by decide) ?_
      refine r_callVI (q := 38) (As := [.int ((8 : Int32))]) wm_X11_143 yvX11_fail (c_X11_fail Δ hN ((8 : Int32)) s4) ⟨rfl, by decide⟩ C (nk_11_0 hN) (by decide) rfl (Nat.le_of_ble_eq_true rfl) dX11_book_35 rfl (fun x9 s10 => ?_)
      exact r_iret C dX11_book_38
  · refine r_aload_n (q := 10) (i := 0) (z := 0) C dX11_book_9 rfl rfl rfl ?_
    refine r_iconst (q := 11) (v := 5) C dX11_book_10 rfl (by decide) ?_
    refine r_callVI (q := 14) (As := [.int ((5 : Int32))]) wm_X11_143 yvX11_fail (c_X11_fail Δ hN ((5 : Int32)) s2) ⟨rfl, by decide⟩ C (nk_11_0 hN) (by decide) rfl (Nat.le_of_ble_eq_true rfl) dX11_book_11 rfl (fun x11 s12 => ?_)
    exact r_iret C dX11_book_14

noncomputable def f_X11_unseen  (st : fSt) : Option (Int32 × fSt) :=
  fNn (gP st 2 0 0) fun y1 =>
  fBd (f_X7_allScenes y1 st) fun x2 s3 =>
  fBd (f_X0_seenInAll 0 s3) fun x4 s5 =>
  fBd (f_X11_answer (x2 &&& (x4 ^^^ ((-1 : Int32)))) s5) fun x6 s7 =>
  some (x6, s7)

set_option maxHeartbeats 4000000 in
set_option maxRecDepth 100000 in
theorem c_X11_unseen (Δ : fDl) (hN : fNx Δ)   (st : fSt) : fMt eI Δ yX11_unseen cX11_unseen 1 (some .int) 3 [.ref (fad Δ 11 0 0)] st (f_X11_unseen  st) := by
  unfold f_X11_unseen
  refine r_method (by decide +kernel) (Nat.le_of_ble_eq_true rfl) (fun Γ C => ?_)
  have C : fC Δ Γ cX11_unseen RX11 1 (some .int) 3 := C
  refine r_locs (lc' := [(0, .ref (fad Δ 11 0 0))]) [0] rfl ?_
  refine r_aload_n (q := 1) (i := 0) (z := 0) C dX11_unseen_0 rfl rfl rfl ?_
  refine r_aload_n (q := 2) (i := 0) (z := 0) C dX11_unseen_1 rfl rfl rfl ?_
  refine g_X11_41 (q := 5) C (nk_11_0 hN) dX11_unseen_2 rfl ?_
  refine g_X11_92 (q := 8) C (nk_2_0 hN) dX11_unseen_5 rfl ?_
  refine r_deref C (fun h => (h _ (nk_2_0 hN)).1) (fun y1 hy1 => ?_)
  refine r_callVI (q := 11) (As := []) wm_X11_305 yvX7_allScenes (c_X7_allScenes Δ hN y1 hy1 st) ⟨rfl, by decide⟩ C hy1 (by decide) rfl (Nat.le_of_ble_eq_true rfl) dX11_unseen_8 rfl (fun x2 s3 => ?_)
  refine r_aload_n (q := 12) (i := 0) (z := 0) C dX11_unseen_11 rfl rfl rfl ?_
  refine g_X11_41 (q := 15) C (nk_11_0 hN) dX11_unseen_12 rfl ?_
  refine g_X11_220 (q := 18) C (nk_2_0 hN) dX11_unseen_15 rfl ?_
  refine r_callVI (q := 21) (As := []) wm_X11_308 yvX0_seenInAll (c_X0_seenInAll Δ hN 0 (nk_0_0 hN) s3) ⟨rfl, by decide⟩ C (nk_0_0 hN) (by decide) rfl (Nat.le_of_ble_eq_true rfl) dX11_unseen_18 rfl (fun x4 s5 => ?_)
  refine r_iconst (q := 22) (v := (-1)) C dX11_unseen_21 rfl (by decide) ?_
  refine r_ixor (q := 23) C dX11_unseen_22 rfl ?_
  refine r_iand (q := 24) C dX11_unseen_23 rfl ?_
  refine r_callVI (q := 27) (As := [.int (x2 &&& (x4 ^^^ ((-1 : Int32))))]) wm_X11_190 yvX11_answer (c_X11_answer Δ hN (x2 &&& (x4 ^^^ ((-1 : Int32)))) s5) ⟨rfl, by decide⟩ C (nk_11_0 hN) (by decide) rfl (Nat.le_of_ble_eq_true rfl) dX11_unseen_24 rfl (fun x6 s7 => ?_)
  exact r_iret C dX11_unseen_27

noncomputable def f_X11_led (a1 : Int32) (st : fSt) : Option (Int32 × fSt) :=
  fNn (gP st 2 0 0) fun y1 =>
  fBd (f_X7_sceneOfLine y1 a1 st) fun x2 s3 =>
  fLt x2 fun (x4 : Int32) =>
  fJn (fun (x5 : Int32) (s6 : fSt) =>
    (some (x5, s6))) fun (j7 : Int32 → fSt → Option (Int32 × fSt)) =>
  if ¬ x4 = ((-1 : Int32)) then
    (fBd (f_X11_answer x4 s3) fun x8 s9 =>
    j7 x8 s9)
  else
    (fBd (f_X11_fail ((5 : Int32)) s3) fun x10 s11 =>
    j7 x10 s11)

set_option maxHeartbeats 4000000 in
set_option maxRecDepth 100000 in
theorem c_X11_led (Δ : fDl) (hN : fNx Δ) (a1 : Int32)  (st : fSt) : fMt eI Δ yX11_led cX11_led 3 (some .int) 2 [.ref (fad Δ 11 0 0), .int a1] st (f_X11_led a1 st) := by
  unfold f_X11_led
  refine r_method (by decide +kernel) (Nat.le_of_ble_eq_true rfl) (fun Γ C => ?_)
  have C : fC Δ Γ cX11_led RX11 3 (some .int) 2 := C
  refine r_locs (lc' := [(0, .ref (fad Δ 11 0 0)), (1, .int a1)]) [0, 1] rfl ?_
  refine r_aload_n (q := 1) (i := 0) (z := 0) C dX11_led_0 rfl rfl rfl ?_
  refine g_X11_41 (q := 4) C (nk_11_0 hN) dX11_led_1 rfl ?_
  refine g_X11_92 (q := 7) C (nk_2_0 hN) dX11_led_4 rfl ?_
  refine r_deref C (fun h => (h _ (nk_2_0 hN)).1) (fun y1 hy1 => ?_)
  refine r_iload_n (q := 8) (i := 1) (z := 1) C dX11_led_7 rfl rfl rfl ?_
  refine r_callVI (q := 11) (As := [.int a1]) wm_X11_311 yvX7_sceneOfLine (c_X7_sceneOfLine Δ hN y1 a1 hy1 st) ⟨rfl, by decide⟩ C hy1 (by decide) rfl (Nat.le_of_ble_eq_true rfl) dX11_led_8 rfl (fun x2 s3 => ?_)
  refine r_istore_n (q := 12) (i := 2) [(0, .ref (fad Δ 11 0 0)), (1, .int a1)] C dX11_led_11 rfl rfl (by decide) rfl (fun x4 => ?_)
  refine r_iload_n (q := 13) (i := 2) (z := 0) C dX11_led_12 rfl rfl rfl ?_
  refine r_iconst (q := 14) (v := (-1)) C dX11_led_13 rfl (by decide) ?_
  refine r_join (fun j7 => ∀ (x5 : Int32) (s6 : fSt), fW Δ Γ 3 (fQ eI Δ Γ) 30 [] [.int x5] s6 (j7 x5 s6)) ?_ (fun j7 hj7 => ?_)
  · intro x5 s6
    exact r_iret C dX11_led_30
  refine r_icmp_ne (q := 17) (tgt := 25) C dX11_led_14 (by decide) rfl ?_ ?_
  · refine r_aload_n (q := 26) (i := 0) (z := 1) C dX11_led_25 rfl rfl rfl ?_
    refine r_iload_n (q := 27) (i := 2) (z := 0) C dX11_led_26 rfl rfl rfl ?_
    refine r_callVI (q := 30) (As := [.int x4]) wm_X11_190 yvX11_answer (c_X11_answer Δ hN x4 s3) ⟨rfl, by decide⟩ C (nk_11_0 hN) (by decide) rfl (Nat.le_of_ble_eq_true rfl) dX11_led_27 rfl (fun x8 s9 => ?_)
    refine r_locs (lc' := []) [] rfl ?_
    exact hj7 x8 s9
  · refine r_aload_n (q := 18) (i := 0) (z := 1) C dX11_led_17 rfl rfl rfl ?_
    refine r_iconst (q := 19) (v := 5) C dX11_led_18 rfl (by decide) ?_
    refine r_callVI (q := 22) (As := [.int ((5 : Int32))]) wm_X11_143 yvX11_fail (c_X11_fail Δ hN ((5 : Int32)) s3) ⟨rfl, by decide⟩ C (nk_11_0 hN) (by decide) rfl (Nat.le_of_ble_eq_true rfl) dX11_led_19 rfl (fun x10 s11 => ?_)
    refine r_goto (q := 30) C dX11_led_22 (by decide) ?_
    refine r_locs (lc' := []) [] rfl ?_
    exact hj7 x10 s11

noncomputable def f_X11_heard (a1 : Int32) (st : fSt) : Option (Int32 × fSt) :=
  fNn (gP st 2 0 0) fun y1 =>
  fBd (f_X7_sceneOfLine y1 a1 st) fun x2 s3 =>
  fLt x2 fun (x4 : Int32) =>
  fJn (fun (x5 : Int32) (s6 : fSt) =>
    (some (x5, s6))) fun (j7 : Int32 → fSt → Option (Int32 × fSt)) =>
  if ¬ x4 = ((-1 : Int32)) then
    (fBd (f_X0_timesSeen 0 x4 s3) fun x8 s9 =>
    fBd (f_X11_answer x8 s9) fun x10 s11 =>
    j7 x10 s11)
  else
    (fBd (f_X11_fail ((5 : Int32)) s3) fun x12 s13 =>
    j7 x12 s13)

set_option maxHeartbeats 4000000 in
set_option maxRecDepth 100000 in
theorem c_X11_heard (Δ : fDl) (hN : fNx Δ) (a1 : Int32)  (st : fSt) : fMt eI Δ yX11_heard cX11_heard 3 (some .int) 3 [.ref (fad Δ 11 0 0), .int a1] st (f_X11_heard a1 st) := by
  unfold f_X11_heard
  refine r_method (by decide +kernel) (Nat.le_of_ble_eq_true rfl) (fun Γ C => ?_)
  have C : fC Δ Γ cX11_heard RX11 3 (some .int) 3 := C
  refine r_locs (lc' := [(0, .ref (fad Δ 11 0 0)), (1, .int a1)]) [0, 1] rfl ?_
  refine r_aload_n (q := 1) (i := 0) (z := 0) C dX11_heard_0 rfl rfl rfl ?_
  refine g_X11_41 (q := 4) C (nk_11_0 hN) dX11_heard_1 rfl ?_
  refine g_X11_92 (q := 7) C (nk_2_0 hN) dX11_heard_4 rfl ?_
  refine r_deref C (fun h => (h _ (nk_2_0 hN)).1) (fun y1 hy1 => ?_)
  refine r_iload_n (q := 8) (i := 1) (z := 1) C dX11_heard_7 rfl rfl rfl ?_
  refine r_callVI (q := 11) (As := [.int a1]) wm_X11_311 yvX7_sceneOfLine (c_X7_sceneOfLine Δ hN y1 a1 hy1 st) ⟨rfl, by decide⟩ C hy1 (by decide) rfl (Nat.le_of_ble_eq_true rfl) dX11_heard_8 rfl (fun x2 s3 => ?_)
  refine r_istore_n (q := 12) (i := 2) [(0, .ref (fad Δ 11 0 0)), (1, .int a1)] C dX11_heard_11 rfl rfl (by decide) rfl (fun x4 => ?_)
  refine r_iload_n (q := 13) (i := 2) (z := 0) C dX11_heard_12 rfl rfl rfl ?_
  refine r_iconst (q := 14) (v := (-1)) C dX11_heard_13 rfl (by decide) ?_
  refine r_join (fun j7 => ∀ (x5 : Int32) (s6 : fSt), fW Δ Γ 3 (fQ eI Δ Γ) 40 [] [.int x5] s6 (j7 x5 s6)) ?_ (fun j7 hj7 => ?_)
  · intro x5 s6
    exact r_iret C dX11_heard_40
  refine r_icmp_ne (q := 17) (tgt := 25) C dX11_heard_14 (by decide) rfl ?_ ?_
  · refine r_aload_n (q := 26) (i := 0) (z := 1) C dX11_heard_25 rfl rfl rfl ?_
    refine r_aload_n (q := 27) (i := 0) (z := 1) C dX11_heard_26 rfl rfl rfl ?_
    refine g_X11_41 (q := 30) C (nk_11_0 hN) dX11_heard_27 rfl ?_
    refine g_X11_220 (q := 33) C (nk_2_0 hN) dX11_heard_30 rfl ?_
    refine r_iload_n (q := 34) (i := 2) (z := 0) C dX11_heard_33 rfl rfl rfl ?_
    refine r_callVI (q := 37) (As := [.int x4]) wm_X11_314 yvX0_timesSeen (c_X0_timesSeen Δ hN 0 x4 (nk_0_0 hN) s3) ⟨rfl, by decide⟩ C (nk_0_0 hN) (by decide) rfl (Nat.le_of_ble_eq_true rfl) dX11_heard_34 rfl (fun x8 s9 => ?_)
    refine r_callVI (q := 40) (As := [.int x8]) wm_X11_190 yvX11_answer (c_X11_answer Δ hN x8 s9) ⟨rfl, by decide⟩ C (nk_11_0 hN) (by decide) rfl (Nat.le_of_ble_eq_true rfl) dX11_heard_37 rfl (fun x10 s11 => ?_)
    refine r_locs (lc' := []) [] rfl ?_
    exact hj7 x10 s11
  · refine r_aload_n (q := 18) (i := 0) (z := 1) C dX11_heard_17 rfl rfl rfl ?_
    refine r_iconst (q := 19) (v := 5) C dX11_heard_18 rfl (by decide) ?_
    refine r_callVI (q := 22) (As := [.int ((5 : Int32))]) wm_X11_143 yvX11_fail (c_X11_fail Δ hN ((5 : Int32)) s3) ⟨rfl, by decide⟩ C (nk_11_0 hN) (by decide) rfl (Nat.le_of_ble_eq_true rfl) dX11_heard_19 rfl (fun x12 s13 => ?_)
    refine r_goto (q := 40) C dX11_heard_22 (by decide) ?_
    refine r_locs (lc' := []) [] rfl ?_
    exact hj7 x12 s13

noncomputable def f_X11_suspects (a1 : Int32) (st : fSt) : Option (Int32 × fSt) :=
  fBd (f_X11_isIn a1 ((0 : Int32)) ((8 : Int32)) st) fun x1 s2 =>
  if ¬ x1 = 0 then
    (fBd (f_X0_seenWith 0 a1 s2) fun x3 s4 =>
    fLt x3 fun (x5 : Int32) =>
    fJn (fun (x6 : Int32) (s7 : fSt) =>
      (some (x6, s7))) fun (j8 : Int32 → fSt → Option (Int32 × fSt)) =>
    if ¬ x5 = 0 then
      (fNn (gP s4 2 0 0) fun y9 =>
      fBd (f_X7_rolesInEach y9 x5 s4) fun x10 s11 =>
      fBd (f_X11_answer x10 s11) fun x12 s13 =>
      j8 x12 s13)
    else
      (fBd (f_X11_fail ((8 : Int32)) s4) fun x14 s15 =>
      j8 x14 s15))
  else
    (fBd (f_X11_fail ((5 : Int32)) s2) fun x16 s17 =>
    some (x16, s17))

set_option maxHeartbeats 4000000 in
set_option maxRecDepth 100000 in
theorem c_X11_suspects (Δ : fDl) (hN : fNx Δ) (a1 : Int32)  (st : fSt) : fMt eI Δ yX11_suspects cX11_suspects 3 (some .int) 3 [.ref (fad Δ 11 0 0), .int a1] st (f_X11_suspects a1 st) := by
  unfold f_X11_suspects
  refine r_method (by decide +kernel) (Nat.le_of_ble_eq_true rfl) (fun Γ C => ?_)
  have C : fC Δ Γ cX11_suspects RX11 3 (some .int) 3 := C
  refine r_locs (lc' := [(0, .ref (fad Δ 11 0 0)), (1, .int a1)]) [0, 1] rfl ?_
  refine r_iload_n (q := 1) (i := 1) (z := 1) C dX11_suspects_0 rfl rfl rfl ?_
  refine r_iconst (q := 2) (v := 0) C dX11_suspects_1 rfl (by decide) ?_
  refine r_bipush (q := 4) (v := 8) C dX11_suspects_2 rfl (by decide) ?_
  refine r_callSI (q := 7) (As := [.int a1, .int ((0 : Int32)), .int ((8 : Int32))]) wm_X11_127 ysX11_isIn (c_X11_isIn Δ hN a1 ((0 : Int32)) ((8 : Int32)) st) C (by decide) rfl (Nat.le_of_ble_eq_true rfl) dX11_suspects_4 rfl (fun x1 s2 => ?_)
  refine r_if_ne (q := 10) (tgt := 16) C dX11_suspects_7 (by decide) rfl ?_ ?_
  · refine r_aload_n (q := 17) (i := 0) (z := 0) C dX11_suspects_16 rfl rfl rfl ?_
    refine g_X11_41 (q := 20) C (nk_11_0 hN) dX11_suspects_17 rfl ?_
    refine g_X11_220 (q := 23) C (nk_2_0 hN) dX11_suspects_20 rfl ?_
    refine r_iload_n (q := 24) (i := 1) (z := 1) C dX11_suspects_23 rfl rfl rfl ?_
    refine r_callVI (q := 27) (As := [.int a1]) wm_X11_317 yvX0_seenWith (c_X0_seenWith Δ hN 0 a1 (nk_0_0 hN) s2) ⟨rfl, by decide⟩ C (nk_0_0 hN) (by decide) rfl (Nat.le_of_ble_eq_true rfl) dX11_suspects_24 rfl (fun x3 s4 => ?_)
    refine r_istore_n (q := 28) (i := 2) [(0, .ref (fad Δ 11 0 0)), (1, .int a1)] C dX11_suspects_27 rfl rfl (by decide) rfl (fun x5 => ?_)
    refine r_iload_n (q := 29) (i := 2) (z := 0) C dX11_suspects_28 rfl rfl rfl ?_
    refine r_join (fun j8 => ∀ (x6 : Int32) (s7 : fSt), fW Δ Γ 3 (fQ eI Δ Γ) 56 [] [.int x6] s7 (j8 x6 s7)) ?_ (fun j8 hj8 => ?_)
    · intro x6 s7
      exact r_iret C dX11_suspects_56
    refine r_if_ne (q := 32) (tgt := 41) C dX11_suspects_29 (by decide) rfl ?_ ?_
    · refine r_aload_n (q := 42) (i := 0) (z := 1) C dX11_suspects_41 rfl rfl rfl ?_
      refine r_aload_n (q := 43) (i := 0) (z := 1) C dX11_suspects_42 rfl rfl rfl ?_
      refine g_X11_41 (q := 46) C (nk_11_0 hN) dX11_suspects_43 rfl ?_
      refine g_X11_92 (q := 49) C (nk_2_0 hN) dX11_suspects_46 rfl ?_
      refine r_deref C (fun h => (h _ (nk_2_0 hN)).1) (fun y9 hy9 => ?_)
      refine r_iload_n (q := 50) (i := 2) (z := 0) C dX11_suspects_49 rfl rfl rfl ?_
      refine r_callVI (q := 53) (As := [.int x5]) wm_X11_320 yvX7_rolesInEach (c_X7_rolesInEach Δ hN y9 x5 hy9 s4) ⟨rfl, by decide⟩ C hy9 (by decide) rfl (Nat.le_of_ble_eq_true rfl) dX11_suspects_50 rfl (fun x10 s11 => ?_)
      refine r_callVI (q := 56) (As := [.int x10]) wm_X11_190 yvX11_answer (c_X11_answer Δ hN x10 s11) ⟨rfl, by decide⟩ C (nk_11_0 hN) (by decide) rfl (Nat.le_of_ble_eq_true rfl) dX11_suspects_53 rfl (fun x12 s13 => ?_)
      refine r_locs (lc' := []) [] rfl ?_
      exact hj8 x12 s13
    · refine r_aload_n (q := 33) (i := 0) (z := 1) C dX11_suspects_32 rfl rfl rfl ?_
      refine r_bipush (q := 35) (v := 8) C dX11_suspects_33 rfl (by decide) ?_
      refine r_callVI (q := 38) (As := [.int ((8 : Int32))]) wm_X11_143 yvX11_fail (c_X11_fail Δ hN ((8 : Int32)) s4) ⟨rfl, by decide⟩ C (nk_11_0 hN) (by decide) rfl (Nat.le_of_ble_eq_true rfl) dX11_suspects_35 rfl (fun x14 s15 => ?_)
      refine r_goto (q := 56) C dX11_suspects_38 (by decide) ?_
      refine r_locs (lc' := []) [] rfl ?_
      exact hj8 x14 s15
  · refine r_aload_n (q := 11) (i := 0) (z := 0) C dX11_suspects_10 rfl rfl rfl ?_
    refine r_iconst (q := 12) (v := 5) C dX11_suspects_11 rfl (by decide) ?_
    refine r_callVI (q := 15) (As := [.int ((5 : Int32))]) wm_X11_143 yvX11_fail (c_X11_fail Δ hN ((5 : Int32)) s2) ⟨rfl, by decide⟩ C (nk_11_0 hN) (by decide) rfl (Nat.le_of_ble_eq_true rfl) dX11_suspects_12 rfl (fun x16 s17 => ?_)
    exact r_iret C dX11_suspects_15

noncomputable def f_X11_isKindOrLot (a1 : Int32) (st : fSt) : Option (Int32 × fSt) :=
  fJn (fun (x1 : Int32) (s2 : fSt) =>
    (fBo x1 (some (x1, s2)))) fun (j3 : Int32 → fSt → Option (Int32 × fSt)) =>
  fJn (fun (s4 : fSt) =>
    (j3 ((1 : Int32)) s4)) fun (j5 : fSt → Option (Int32 × fSt)) =>
  if a1 = ((-1 : Int32)) then
    (j5 st)
  else
    (fBd (f_X11_hasKind a1 st) fun x6 s7 =>
    if x6 = 0 then
      (j3 ((0 : Int32)) s7)
    else
      (j5 s7))

set_option maxHeartbeats 4000000 in
set_option maxRecDepth 100000 in
theorem c_X11_isKindOrLot (Δ : fDl) (hN : fNx Δ) (a1 : Int32)  (st : fSt) : fMt eI Δ yX11_isKindOrLot cX11_isKindOrLot 2 (some .boolean) 3 [.ref (fad Δ 11 0 0), .int a1] st (f_X11_isKindOrLot a1 st) := by
  unfold f_X11_isKindOrLot
  refine r_method (by decide +kernel) (Nat.le_of_ble_eq_true rfl) (fun Γ C => ?_)
  have C : fC Δ Γ cX11_isKindOrLot RX11 2 (some .boolean) 3 := C
  refine r_locs (lc' := [(0, .ref (fad Δ 11 0 0)), (1, .int a1)]) [0, 1] rfl ?_
  refine r_iload_n (q := 1) (i := 1) (z := 1) C dX11_isKindOrLot_0 rfl rfl rfl ?_
  refine r_iconst (q := 2) (v := (-1)) C dX11_isKindOrLot_1 rfl (by decide) ?_
  refine r_join (fun j3 => ∀ (x1 : Int32) (s2 : fSt), fW Δ Γ 2 (fQ eI Δ Γ) 18 [] [.int x1] s2 (j3 x1 s2)) ?_ (fun j3 hj3 => ?_)
  · intro x1 s2
    exact r_zret C dX11_isKindOrLot_18
  refine r_join (fun j5 => ∀  (s4 : fSt), fW Δ Γ 2 (fQ eI Δ Γ) 13 [] [] s4 (j5 s4)) ?_ (fun j5 hj5 => ?_)
  · intro s4
    refine r_iconst (q := 14) (v := 1) C dX11_isKindOrLot_13 rfl (by decide) ?_
    refine r_goto (q := 18) C dX11_isKindOrLot_14 (by decide) ?_
    exact hj3 ((1 : Int32)) s4
  refine r_icmp_eq (q := 5) (tgt := 13) C dX11_isKindOrLot_2 (by decide) rfl ?_ ?_
  · refine r_locs (lc' := []) [] rfl ?_
    exact hj5 st
  · refine r_aload_n (q := 6) (i := 0) (z := 0) C dX11_isKindOrLot_5 rfl rfl rfl ?_
    refine r_iload_n (q := 7) (i := 1) (z := 1) C dX11_isKindOrLot_6 rfl rfl rfl ?_
    refine r_callVI (q := 10) (As := [.int a1]) wm_X11_243 yvX11_hasKind (c_X11_hasKind Δ hN a1 st) ⟨rfl, by decide⟩ C (nk_11_0 hN) (by decide) rfl (Nat.le_of_ble_eq_true rfl) dX11_isKindOrLot_7 rfl (fun x6 s7 => ?_)
    refine r_if_eq (q := 13) (tgt := 17) C dX11_isKindOrLot_10 (by decide) rfl ?_ ?_
    · refine r_iconst (q := 18) (v := 0) C dX11_isKindOrLot_17 rfl (by decide) ?_
      refine r_locs (lc' := []) [] rfl ?_
      exact hj3 ((0 : Int32)) s7
    · refine r_locs (lc' := []) [] rfl ?_
      exact hj5 s7

noncomputable def f_X11_whyNoOdds (a1 : Int32) (st : fSt) : Option (Int32 × fSt) :=
  fJn (fun (s1 : fSt) =>
    (fBd (f_X2_canOpen 0 s1) fun x3 s4 =>
    fJn (fun (x5 : Int32) (s6 : fSt) =>
      (some (x5, s6))) fun (j7 : Int32 → fSt → Option (Int32 × fSt)) =>
    if x3 = 0 then
      (j7 ((9 : Int32)) s4)
    else
      (j7 ((0 : Int32)) s4))) fun (j2 : fSt → Option (Int32 × fSt)) =>
  if ¬ a1 = ((-1 : Int32)) then
    (j2 st)
  else
    (fNn (gP st 2 0 0) fun y8 =>
    if ¬ (gI st 7 y8 3) = 0 then
      (j2 st)
    else
      (some ((8 : Int32), st)))

set_option maxHeartbeats 4000000 in
set_option maxRecDepth 100000 in
theorem c_X11_whyNoOdds (Δ : fDl) (hN : fNx Δ) (a1 : Int32)  (st : fSt) : fMt eI Δ yX11_whyNoOdds cX11_whyNoOdds 2 (some .int) 4 [.ref (fad Δ 11 0 0), .int a1] st (f_X11_whyNoOdds a1 st) := by
  unfold f_X11_whyNoOdds
  refine r_method (by decide +kernel) (Nat.le_of_ble_eq_true rfl) (fun Γ C => ?_)
  have C : fC Δ Γ cX11_whyNoOdds RX11 2 (some .int) 4 := C
  refine r_locs (lc' := [(0, .ref (fad Δ 11 0 0)), (1, .int a1)]) [0, 1] rfl ?_
  refine r_iload_n (q := 1) (i := 1) (z := 1) C dX11_whyNoOdds_0 rfl rfl rfl ?_
  refine r_iconst (q := 2) (v := (-1)) C dX11_whyNoOdds_1 rfl (by decide) ?_
  refine r_join (fun j2 => ∀  (s1 : fSt), fW Δ Γ 2 (fQ eI Δ Γ) 21 [(0, .ref (fad Δ 11 0 0))] [] s1 (j2 s1)) ?_ (fun j2 hj2 => ?_)
  · intro s1
    refine r_aload_n (q := 22) (i := 0) (z := 0) C dX11_whyNoOdds_21 rfl rfl rfl ?_
    refine g_X11_41 (q := 25) C (nk_11_0 hN) dX11_whyNoOdds_22 rfl ?_
    refine r_callVI (q := 28) (As := []) wm_X11_274 yvX2_canOpen (c_X2_canOpen Δ hN 0 (nk_2_0 hN) s1) ⟨rfl, by decide⟩ C (nk_2_0 hN) (by decide) rfl (Nat.le_of_ble_eq_true rfl) dX11_whyNoOdds_25 rfl (fun x3 s4 => ?_)
    refine r_join (fun j7 => ∀ (x5 : Int32) (s6 : fSt), fW Δ Γ 2 (fQ eI Δ Γ) 37 [] [.int x5] s6 (j7 x5 s6)) ?_ (fun j7 hj7 => ?_)
    · intro x5 s6
      exact r_iret C dX11_whyNoOdds_37
    refine r_if_eq (q := 31) (tgt := 35) C dX11_whyNoOdds_28 (by decide) rfl ?_ ?_
    · refine r_bipush (q := 37) (v := 9) C dX11_whyNoOdds_35 rfl (by decide) ?_
      refine r_locs (lc' := []) [] rfl ?_
      exact hj7 ((9 : Int32)) s4
    · refine r_iconst (q := 32) (v := 0) C dX11_whyNoOdds_31 rfl (by decide) ?_
      refine r_goto (q := 37) C dX11_whyNoOdds_32 (by decide) ?_
      refine r_locs (lc' := []) [] rfl ?_
      exact hj7 ((0 : Int32)) s4
  refine r_icmp_ne (q := 5) (tgt := 21) C dX11_whyNoOdds_2 (by decide) rfl ?_ ?_
  · refine r_locs (lc' := [(0, .ref (fad Δ 11 0 0))]) [0] rfl ?_
    exact hj2 st
  · refine r_aload_n (q := 6) (i := 0) (z := 0) C dX11_whyNoOdds_5 rfl rfl rfl ?_
    refine g_X11_41 (q := 9) C (nk_11_0 hN) dX11_whyNoOdds_6 rfl ?_
    refine g_X11_92 (q := 12) C (nk_2_0 hN) dX11_whyNoOdds_9 rfl ?_
    refine r_deref C (fun h => (h _ (nk_2_0 hN)).1) (fun y8 hy8 => ?_)
    refine g_X11_121 (q := 15) C hy8 dX11_whyNoOdds_12 rfl ?_
    refine r_if_ne (q := 18) (tgt := 21) C dX11_whyNoOdds_15 (by decide) rfl ?_ ?_
    · refine r_locs (lc' := [(0, .ref (fad Δ 11 0 0))]) [0] rfl ?_
      exact hj2 st
    · refine r_bipush (q := 20) (v := 8) C dX11_whyNoOdds_18 rfl (by decide) ?_
      exact r_iret C dX11_whyNoOdds_20

noncomputable def f_X11_odds (a1 : Int32) (a2 : Int32) (st : fSt) : Option (Int32 × fSt) :=
  fBd (f_X11_isKindOrLot a2 st) fun x1 s2 =>
  if ¬ x1 = 0 then
    (fBd (f_X11_isIn a1 ((0 : Int32)) ((9 : Int32)) s2) fun x3 s4 =>
    if ¬ x3 = 0 then
      (fBd (f_X11_whyNoOdds a2 s4) fun x5 s6 =>
      fLt x5 fun (x7 : Int32) =>
      if x7 = 0 then
        (fBd (f_X4_gather 0 a2 (gI s6 2 0 3) s6) fun _ s8 =>
        fIx a1 10 <|
        fBd (f_X11_tellFraction (gB s8 4 0 2 a1.toNatClampNeg) (gL s8 4 0 3) s8) fun x9 s10 =>
        fBo x9 (some (x9, s10)))
      else
        (fBd (f_X11_refuse x7 s6) fun x11 s12 =>
        fBo x11 (some (x11, s12))))
    else
      (fBd (f_X11_refuse ((5 : Int32)) s4) fun x13 s14 =>
      fBo x13 (some (x13, s14))))
  else
    (fBd (f_X11_refuse ((2 : Int32)) s2) fun x15 s16 =>
    fBo x15 (some (x15, s16)))

set_option maxHeartbeats 4000000 in
set_option maxRecDepth 100000 in
theorem c_X11_odds (Δ : fDl) (hN : fNx Δ) (a1 : Int32) (a2 : Int32)  (st : fSt) : fMt eI Δ yX11_odds cX11_odds 4 (some .boolean) 6 [.ref (fad Δ 11 0 0), .int a1, .int a2] st (f_X11_odds a1 a2 st) := by
  unfold f_X11_odds
  refine r_method (by decide +kernel) (Nat.le_of_ble_eq_true rfl) (fun Γ C => ?_)
  have C : fC Δ Γ cX11_odds RX11 4 (some .boolean) 6 := C
  refine r_locs (lc' := [(0, .ref (fad Δ 11 0 0)), (1, .int a1), (2, .int a2)]) [0, 1, 2] rfl ?_
  refine r_aload_n (q := 1) (i := 0) (z := 0) C dX11_odds_0 rfl rfl rfl ?_
  refine r_iload_n (q := 2) (i := 2) (z := 2) C dX11_odds_1 rfl rfl rfl ?_
  refine r_callVI (q := 5) (As := [.int a2]) wm_X11_323 yvX11_isKindOrLot (c_X11_isKindOrLot Δ hN a2 st) ⟨rfl, by decide⟩ C (nk_11_0 hN) (by decide) rfl (Nat.le_of_ble_eq_true rfl) dX11_odds_2 rfl (fun x1 s2 => ?_)
  refine r_if_ne (q := 8) (tgt := 14) C dX11_odds_5 (by decide) rfl ?_ ?_
  · refine r_iload_n (q := 15) (i := 1) (z := 1) C dX11_odds_14 rfl rfl rfl ?_
    refine r_iconst (q := 16) (v := 0) C dX11_odds_15 rfl (by decide) ?_
    refine r_bipush (q := 18) (v := 9) C dX11_odds_16 rfl (by decide) ?_
    refine r_callSI (q := 21) (As := [.int a1, .int ((0 : Int32)), .int ((9 : Int32))]) wm_X11_127 ysX11_isIn (c_X11_isIn Δ hN a1 ((0 : Int32)) ((9 : Int32)) s2) C (by decide) rfl (Nat.le_of_ble_eq_true rfl) dX11_odds_18 rfl (fun x3 s4 => ?_)
    refine r_if_ne (q := 24) (tgt := 30) C dX11_odds_21 (by decide) rfl ?_ ?_
    · refine r_aload_n (q := 31) (i := 0) (z := 0) C dX11_odds_30 rfl rfl rfl ?_
      refine r_iload_n (q := 32) (i := 2) (z := 2) C dX11_odds_31 rfl rfl rfl ?_
      refine r_callVI (q := 35) (As := [.int a2]) wm_X11_326 yvX11_whyNoOdds (c_X11_whyNoOdds Δ hN a2 s4) ⟨rfl, by decide⟩ C (nk_11_0 hN) (by decide) rfl (Nat.le_of_ble_eq_true rfl) dX11_odds_32 rfl (fun x5 s6 => ?_)
      refine r_istore_n (q := 36) (i := 3) [(0, .ref (fad Δ 11 0 0)), (1, .int a1), (2, .int a2)] C dX11_odds_35 rfl rfl (by decide) rfl (fun x7 => ?_)
      refine r_iload_n (q := 37) (i := 3) (z := 0) C dX11_odds_36 rfl rfl rfl ?_
      refine r_if_eq (q := 40) (tgt := 46) C dX11_odds_37 (by decide) rfl ?_ ?_
      · refine r_aload_n (q := 47) (i := 0) (z := 1) C dX11_odds_46 rfl rfl rfl ?_
        refine g_X11_59 (q := 50) C (nk_11_0 hN) dX11_odds_47 rfl ?_
        refine r_aload_n (q := 51) (i := 0) (z := 1) C dX11_odds_50 rfl rfl rfl ?_
        refine g_X11_41 (q := 54) C (nk_11_0 hN) dX11_odds_51 rfl ?_
        refine r_iload_n (q := 55) (i := 2) (z := 3) C dX11_odds_54 rfl rfl rfl ?_
        refine r_aload_n (q := 56) (i := 0) (z := 1) C dX11_odds_55 rfl rfl rfl ?_
        refine g_X11_41 (q := 59) C (nk_11_0 hN) dX11_odds_56 rfl ?_
        refine g_X11_230 (q := 62) C (nk_2_0 hN) dX11_odds_59 rfl ?_
        refine r_callVV (q := 65) (As := [.ref (fad Δ 2 0 0), .int a2, .int (gI s6 2 0 3)]) wm_X11_329 yvX4_gather (c_X4_gather Δ hN 0 a2 (gI s6 2 0 3) (nk_2_0 hN) s6) ⟨rfl, by decide⟩ C (nk_4_0 hN) (by decide) rfl (Nat.le_of_ble_eq_true rfl) dX11_odds_62 rfl (fun _ s8 => ?_)
        refine r_aload_n (q := 66) (i := 0) (z := 1) C dX11_odds_65 rfl rfl rfl ?_
        refine r_aload_n (q := 67) (i := 0) (z := 1) C dX11_odds_66 rfl rfl rfl ?_
        refine g_X11_59 (q := 70) C (nk_11_0 hN) dX11_odds_67 rfl ?_
        refine g_X11_333 (q := 73) C (nk_4_0 hN) dX11_odds_70 rfl ?_
        refine r_iload_n (q := 74) (i := 1) (z := 2) C dX11_odds_73 rfl rfl rfl ?_
        refine r_lal (q := 75) q_4_2 h_4_2 C (nk_4_0 hN) dX11_odds_74 rfl ?_
        refine r_aload_n (q := 76) (i := 0) (z := 1) C dX11_odds_75 rfl rfl rfl ?_
        refine g_X11_59 (q := 79) C (nk_11_0 hN) dX11_odds_76 rfl ?_
        refine g_X11_336 (q := 82) C (nk_4_0 hN) dX11_odds_79 rfl ?_
        refine r_callVI (q := 85) (As := [.long (gB s8 4 0 2 a1.toNatClampNeg), .long (gL s8 4 0 3)]) wm_X11_339 yvX11_tellFraction (c_X11_tellFraction Δ hN (gB s8 4 0 2 a1.toNatClampNeg) (gL s8 4 0 3) s8) ⟨rfl, by decide⟩ C (nk_11_0 hN) (by decide) rfl (Nat.le_of_ble_eq_true rfl) dX11_odds_82 rfl (fun x9 s10 => ?_)
        exact r_zret C dX11_odds_85
      · refine r_aload_n (q := 41) (i := 0) (z := 1) C dX11_odds_40 rfl rfl rfl ?_
        refine r_iload_n (q := 42) (i := 3) (z := 0) C dX11_odds_41 rfl rfl rfl ?_
        refine r_callVI (q := 45) (As := [.int x7]) wm_X11_106 yvX11_refuse (c_X11_refuse Δ hN x7 s6) ⟨rfl, by decide⟩ C (nk_11_0 hN) (by decide) rfl (Nat.le_of_ble_eq_true rfl) dX11_odds_42 rfl (fun x11 s12 => ?_)
        exact r_zret C dX11_odds_45
    · refine r_aload_n (q := 25) (i := 0) (z := 0) C dX11_odds_24 rfl rfl rfl ?_
      refine r_iconst (q := 26) (v := 5) C dX11_odds_25 rfl (by decide) ?_
      refine r_callVI (q := 29) (As := [.int ((5 : Int32))]) wm_X11_106 yvX11_refuse (c_X11_refuse Δ hN ((5 : Int32)) s4) ⟨rfl, by decide⟩ C (nk_11_0 hN) (by decide) rfl (Nat.le_of_ble_eq_true rfl) dX11_odds_26 rfl (fun x13 s14 => ?_)
      exact r_zret C dX11_odds_29
  · refine r_aload_n (q := 9) (i := 0) (z := 0) C dX11_odds_8 rfl rfl rfl ?_
    refine r_iconst (q := 10) (v := 2) C dX11_odds_9 rfl (by decide) ?_
    refine r_callVI (q := 13) (As := [.int ((2 : Int32))]) wm_X11_106 yvX11_refuse (c_X11_refuse Δ hN ((2 : Int32)) s2) ⟨rfl, by decide⟩ C (nk_11_0 hN) (by decide) rfl (Nat.le_of_ble_eq_true rfl) dX11_odds_10 rfl (fun x15 s16 => ?_)
    exact r_zret C dX11_odds_13

noncomputable def f_X11_seen (a1 : Int32) (a2 : Int32) (st : fSt) : Option (Int32 × fSt) :=
  fBd (f_X11_hasScene a1 st) fun x1 s2 =>
  fJn (fun (s3 : fSt) =>
    (fBd (f_X11_refuse ((2 : Int32)) s3) fun x5 s6 =>
    fBo x5 (some (x5, s6)))) fun (j4 : fSt → Option (Int32 × fSt)) =>
  if x1 = 0 then
    (j4 s2)
  else
    (fBd (f_X11_isKindOrLot a2 s2) fun x7 s8 =>
    if ¬ x7 = 0 then
      (fBd (f_X11_whyNoOdds a2 s8) fun x9 s10 =>
      fLt x9 fun (x11 : Int32) =>
      if x11 = 0 then
        (fBd (f_X4_gather 0 a2 (gI s10 2 0 3) s10) fun _ s12 =>
        fIx a1 12 <|
        fBd (f_X11_tellFraction (gB s12 4 0 3 a1.toNatClampNeg) (gL s12 4 0 3) s12) fun x13 s14 =>
        fBo x13 (some (x13, s14)))
      else
        (fBd (f_X11_refuse x11 s10) fun x15 s16 =>
        fBo x15 (some (x15, s16))))
    else
      (j4 s8))

set_option maxHeartbeats 4000000 in
set_option maxRecDepth 100000 in
theorem c_X11_seen (Δ : fDl) (hN : fNx Δ) (a1 : Int32) (a2 : Int32)  (st : fSt) : fMt eI Δ yX11_seen cX11_seen 4 (some .boolean) 6 [.ref (fad Δ 11 0 0), .int a1, .int a2] st (f_X11_seen a1 a2 st) := by
  unfold f_X11_seen
  refine r_method (by decide +kernel) (Nat.le_of_ble_eq_true rfl) (fun Γ C => ?_)
  have C : fC Δ Γ cX11_seen RX11 4 (some .boolean) 6 := C
  refine r_locs (lc' := [(0, .ref (fad Δ 11 0 0)), (1, .int a1), (2, .int a2)]) [0, 1, 2] rfl ?_
  refine r_aload_n (q := 1) (i := 0) (z := 0) C dX11_seen_0 rfl rfl rfl ?_
  refine r_iload_n (q := 2) (i := 1) (z := 1) C dX11_seen_1 rfl rfl rfl ?_
  refine r_callVI (q := 5) (As := [.int a1]) wm_X11_237 yvX11_hasScene (c_X11_hasScene Δ hN a1 st) ⟨rfl, by decide⟩ C (nk_11_0 hN) (by decide) rfl (Nat.le_of_ble_eq_true rfl) dX11_seen_2 rfl (fun x1 s2 => ?_)
  refine r_join (fun j4 => ∀  (s3 : fSt), fW Δ Γ 4 (fQ eI Δ Γ) 16 [(0, .ref (fad Δ 11 0 0))] [] s3 (j4 s3)) ?_ (fun j4 hj4 => ?_)
  · intro s3
    refine r_aload_n (q := 17) (i := 0) (z := 0) C dX11_seen_16 rfl rfl rfl ?_
    refine r_iconst (q := 18) (v := 2) C dX11_seen_17 rfl (by decide) ?_
    refine r_callVI (q := 21) (As := [.int ((2 : Int32))]) wm_X11_106 yvX11_refuse (c_X11_refuse Δ hN ((2 : Int32)) s3) ⟨rfl, by decide⟩ C (nk_11_0 hN) (by decide) rfl (Nat.le_of_ble_eq_true rfl) dX11_seen_18 rfl (fun x5 s6 => ?_)
    exact r_zret C dX11_seen_21
  refine r_if_eq (q := 8) (tgt := 16) C dX11_seen_5 (by decide) rfl ?_ ?_
  · refine r_locs (lc' := [(0, .ref (fad Δ 11 0 0))]) [0] rfl ?_
    exact hj4 s2
  · refine r_aload_n (q := 9) (i := 0) (z := 0) C dX11_seen_8 rfl rfl rfl ?_
    refine r_iload_n (q := 10) (i := 2) (z := 2) C dX11_seen_9 rfl rfl rfl ?_
    refine r_callVI (q := 13) (As := [.int a2]) wm_X11_323 yvX11_isKindOrLot (c_X11_isKindOrLot Δ hN a2 s2) ⟨rfl, by decide⟩ C (nk_11_0 hN) (by decide) rfl (Nat.le_of_ble_eq_true rfl) dX11_seen_10 rfl (fun x7 s8 => ?_)
    refine r_if_ne (q := 16) (tgt := 22) C dX11_seen_13 (by decide) rfl ?_ ?_
    · refine r_aload_n (q := 23) (i := 0) (z := 0) C dX11_seen_22 rfl rfl rfl ?_
      refine r_iload_n (q := 24) (i := 2) (z := 2) C dX11_seen_23 rfl rfl rfl ?_
      refine r_callVI (q := 27) (As := [.int a2]) wm_X11_326 yvX11_whyNoOdds (c_X11_whyNoOdds Δ hN a2 s8) ⟨rfl, by decide⟩ C (nk_11_0 hN) (by decide) rfl (Nat.le_of_ble_eq_true rfl) dX11_seen_24 rfl (fun x9 s10 => ?_)
      refine r_istore_n (q := 28) (i := 3) [(0, .ref (fad Δ 11 0 0)), (1, .int a1), (2, .int a2)] C dX11_seen_27 rfl rfl (by decide) rfl (fun x11 => ?_)
      refine r_iload_n (q := 29) (i := 3) (z := 0) C dX11_seen_28 rfl rfl rfl ?_
      refine r_if_eq (q := 32) (tgt := 38) C dX11_seen_29 (by decide) rfl ?_ ?_
      · refine r_aload_n (q := 39) (i := 0) (z := 1) C dX11_seen_38 rfl rfl rfl ?_
        refine g_X11_59 (q := 42) C (nk_11_0 hN) dX11_seen_39 rfl ?_
        refine r_aload_n (q := 43) (i := 0) (z := 1) C dX11_seen_42 rfl rfl rfl ?_
        refine g_X11_41 (q := 46) C (nk_11_0 hN) dX11_seen_43 rfl ?_
        refine r_iload_n (q := 47) (i := 2) (z := 3) C dX11_seen_46 rfl rfl rfl ?_
        refine r_aload_n (q := 48) (i := 0) (z := 1) C dX11_seen_47 rfl rfl rfl ?_
        refine g_X11_41 (q := 51) C (nk_11_0 hN) dX11_seen_48 rfl ?_
        refine g_X11_230 (q := 54) C (nk_2_0 hN) dX11_seen_51 rfl ?_
        refine r_callVV (q := 57) (As := [.ref (fad Δ 2 0 0), .int a2, .int (gI s10 2 0 3)]) wm_X11_329 yvX4_gather (c_X4_gather Δ hN 0 a2 (gI s10 2 0 3) (nk_2_0 hN) s10) ⟨rfl, by decide⟩ C (nk_4_0 hN) (by decide) rfl (Nat.le_of_ble_eq_true rfl) dX11_seen_54 rfl (fun _ s12 => ?_)
        refine r_aload_n (q := 58) (i := 0) (z := 1) C dX11_seen_57 rfl rfl rfl ?_
        refine r_aload_n (q := 59) (i := 0) (z := 1) C dX11_seen_58 rfl rfl rfl ?_
        refine g_X11_59 (q := 62) C (nk_11_0 hN) dX11_seen_59 rfl ?_
        refine g_X11_343 (q := 65) C (nk_4_0 hN) dX11_seen_62 rfl ?_
        refine r_iload_n (q := 66) (i := 1) (z := 2) C dX11_seen_65 rfl rfl rfl ?_
        refine r_lal (q := 67) q_4_3 h_4_3 C (nk_4_0 hN) dX11_seen_66 rfl ?_
        refine r_aload_n (q := 68) (i := 0) (z := 1) C dX11_seen_67 rfl rfl rfl ?_
        refine g_X11_59 (q := 71) C (nk_11_0 hN) dX11_seen_68 rfl ?_
        refine g_X11_336 (q := 74) C (nk_4_0 hN) dX11_seen_71 rfl ?_
        refine r_callVI (q := 77) (As := [.long (gB s12 4 0 3 a1.toNatClampNeg), .long (gL s12 4 0 3)]) wm_X11_339 yvX11_tellFraction (c_X11_tellFraction Δ hN (gB s12 4 0 3 a1.toNatClampNeg) (gL s12 4 0 3) s12) ⟨rfl, by decide⟩ C (nk_11_0 hN) (by decide) rfl (Nat.le_of_ble_eq_true rfl) dX11_seen_74 rfl (fun x13 s14 => ?_)
        exact r_zret C dX11_seen_77
      · refine r_aload_n (q := 33) (i := 0) (z := 1) C dX11_seen_32 rfl rfl rfl ?_
        refine r_iload_n (q := 34) (i := 3) (z := 0) C dX11_seen_33 rfl rfl rfl ?_
        refine r_callVI (q := 37) (As := [.int x11]) wm_X11_106 yvX11_refuse (c_X11_refuse Δ hN x11 s10) ⟨rfl, by decide⟩ C (nk_11_0 hN) (by decide) rfl (Nat.le_of_ble_eq_true rfl) dX11_seen_34 rfl (fun x15 s16 => ?_)
        exact r_zret C dX11_seen_37
    · refine r_locs (lc' := [(0, .ref (fad Δ 11 0 0))]) [0] rfl ?_
      exact hj4 s8

noncomputable def f_X11_who (a1 : Int32) (a2 : Int32) (st : fSt) : Option (Int32 × fSt) :=
  fBd (f_X11_hasKind a1 st) fun x1 s2 =>
  if ¬ x1 = 0 then
    (fBd (f_X11_isIn a2 ((0 : Int32)) ((9 : Int32)) s2) fun x3 s4 =>
    if ¬ x3 = 0 then
      (fBd (f_X4_gather 0 ((-1 : Int32)) (gI s4 2 0 3) s4) fun _ s5 =>
      fIx a2 10 <|
      fLt (gB s5 4 0 2 a2.toNatClampNeg) fun (x6 : Int64) =>
      if ¬ (lg_cmp x6 ((0 : Int64))) = 0 then
        (fBd (f_X4_gather 0 a1 (gI s5 2 0 3) s5) fun _ s7 =>
        fIx a2 10 <|
        fNn (gP s7 2 0 0) fun y8 =>
        fIx a1 4 <|
        fBd (f_X11_tellFraction ((gB s7 4 0 2 a2.toNatClampNeg) * ((gA s7 7 y8 13 a1.toNatClampNeg).toInt64)) x6 s7) fun x9 s10 =>
        fBo x9 (some (x9, s10)))
      else
        (fBd (f_X11_refuse ((8 : Int32)) s5) fun x11 s12 =>
        fBo x11 (some (x11, s12))))
    else
      (fBd (f_X11_refuse ((5 : Int32)) s4) fun x13 s14 =>
      fBo x13 (some (x13, s14))))
  else
    (fBd (f_X11_refuse ((2 : Int32)) s2) fun x15 s16 =>
    fBo x15 (some (x15, s16)))

set_option maxHeartbeats 4000000 in
set_option maxRecDepth 100000 in
theorem c_X11_who (Δ : fDl) (hN : fNx Δ) (a1 : Int32) (a2 : Int32)  (st : fSt) : fMt eI Δ yX11_who cX11_who 5 (some .boolean) 6 [.ref (fad Δ 11 0 0), .int a1, .int a2] st (f_X11_who a1 a2 st) := by
  unfold f_X11_who
  refine r_method (by decide +kernel) (Nat.le_of_ble_eq_true rfl) (fun Γ C => ?_)
  have C : fC Δ Γ cX11_who RX11 5 (some .boolean) 6 := C
  refine r_locs (lc' := [(0, .ref (fad Δ 11 0 0)), (1, .int a1), (2, .int a2)]) [0, 1, 2] rfl ?_
  refine r_aload_n (q := 1) (i := 0) (z := 0) C dX11_who_0 rfl rfl rfl ?_
  refine r_iload_n (q := 2) (i := 1) (z := 1) C dX11_who_1 rfl rfl rfl ?_
  refine r_callVI (q := 5) (As := [.int a1]) wm_X11_243 yvX11_hasKind (c_X11_hasKind Δ hN a1 st) ⟨rfl, by decide⟩ C (nk_11_0 hN) (by decide) rfl (Nat.le_of_ble_eq_true rfl) dX11_who_2 rfl (fun x1 s2 => ?_)
  refine r_if_ne (q := 8) (tgt := 14) C dX11_who_5 (by decide) rfl ?_ ?_
  · refine r_iload_n (q := 15) (i := 2) (z := 2) C dX11_who_14 rfl rfl rfl ?_
    refine r_iconst (q := 16) (v := 0) C dX11_who_15 rfl (by decide) ?_
    refine r_bipush (q := 18) (v := 9) C dX11_who_16 rfl (by decide) ?_
    refine r_callSI (q := 21) (As := [.int a2, .int ((0 : Int32)), .int ((9 : Int32))]) wm_X11_127 ysX11_isIn (c_X11_isIn Δ hN a2 ((0 : Int32)) ((9 : Int32)) s2) C (by decide) rfl (Nat.le_of_ble_eq_true rfl) dX11_who_18 rfl (fun x3 s4 => ?_)
    refine r_if_ne (q := 24) (tgt := 30) C dX11_who_21 (by decide) rfl ?_ ?_
    · refine r_aload_n (q := 31) (i := 0) (z := 0) C dX11_who_30 rfl rfl rfl ?_
      refine g_X11_59 (q := 34) C (nk_11_0 hN) dX11_who_31 rfl ?_
      refine r_aload_n (q := 35) (i := 0) (z := 0) C dX11_who_34 rfl rfl rfl ?_
      refine g_X11_41 (q := 38) C (nk_11_0 hN) dX11_who_35 rfl ?_
      refine r_iconst (q := 39) (v := (-1)) C dX11_who_38 rfl (by decide) ?_
      refine r_aload_n (q := 40) (i := 0) (z := 0) C dX11_who_39 rfl rfl rfl ?_
      refine g_X11_41 (q := 43) C (nk_11_0 hN) dX11_who_40 rfl ?_
      refine g_X11_230 (q := 46) C (nk_2_0 hN) dX11_who_43 rfl ?_
      refine r_callVV (q := 49) (As := [.ref (fad Δ 2 0 0), .int ((-1 : Int32)), .int (gI s4 2 0 3)]) wm_X11_329 yvX4_gather (c_X4_gather Δ hN 0 ((-1 : Int32)) (gI s4 2 0 3) (nk_2_0 hN) s4) ⟨rfl, by decide⟩ C (nk_4_0 hN) (by decide) rfl (Nat.le_of_ble_eq_true rfl) dX11_who_46 rfl (fun _ s5 => ?_)
      refine r_aload_n (q := 50) (i := 0) (z := 0) C dX11_who_49 rfl rfl rfl ?_
      refine g_X11_59 (q := 53) C (nk_11_0 hN) dX11_who_50 rfl ?_
      refine g_X11_333 (q := 56) C (nk_4_0 hN) dX11_who_53 rfl ?_
      refine r_iload_n (q := 57) (i := 2) (z := 2) C dX11_who_56 rfl rfl rfl ?_
      refine r_lal (q := 58) q_4_2 h_4_2 C (nk_4_0 hN) dX11_who_57 rfl ?_
      refine r_lstore_n (q := 59) (i := 3) [(0, .ref (fad Δ 11 0 0)), (1, .int a1), (2, .int a2)] C dX11_who_58 rfl rfl (by decide) rfl (fun x6 => ?_)
      refine r_lload_n (q := 60) (i := 3) (z := 0) C dX11_who_59 rfl rfl rfl ?_
      refine r_lconst (q := 61) (v := 0) C dX11_who_60 rfl (by decide) ?_
      refine r_lcmp (q := 62) C dX11_who_61 rfl ?_
      refine r_if_ne (q := 65) (tgt := 72) C dX11_who_62 (by decide) rfl ?_ ?_
      · refine r_aload_n (q := 73) (i := 0) (z := 1) C dX11_who_72 rfl rfl rfl ?_
        refine g_X11_59 (q := 76) C (nk_11_0 hN) dX11_who_73 rfl ?_
        refine r_aload_n (q := 77) (i := 0) (z := 1) C dX11_who_76 rfl rfl rfl ?_
        refine g_X11_41 (q := 80) C (nk_11_0 hN) dX11_who_77 rfl ?_
        refine r_iload_n (q := 81) (i := 1) (z := 2) C dX11_who_80 rfl rfl rfl ?_
        refine r_aload_n (q := 82) (i := 0) (z := 1) C dX11_who_81 rfl rfl rfl ?_
        refine g_X11_41 (q := 85) C (nk_11_0 hN) dX11_who_82 rfl ?_
        refine g_X11_230 (q := 88) C (nk_2_0 hN) dX11_who_85 rfl ?_
        refine r_callVV (q := 91) (As := [.ref (fad Δ 2 0 0), .int a1, .int (gI s5 2 0 3)]) wm_X11_329 yvX4_gather (c_X4_gather Δ hN 0 a1 (gI s5 2 0 3) (nk_2_0 hN) s5) ⟨rfl, by decide⟩ C (nk_4_0 hN) (by decide) rfl (Nat.le_of_ble_eq_true rfl) dX11_who_88 rfl (fun _ s7 => ?_)
        refine r_aload_n (q := 92) (i := 0) (z := 1) C dX11_who_91 rfl rfl rfl ?_
        refine r_aload_n (q := 93) (i := 0) (z := 1) C dX11_who_92 rfl rfl rfl ?_
        refine g_X11_59 (q := 96) C (nk_11_0 hN) dX11_who_93 rfl ?_
        refine g_X11_333 (q := 99) C (nk_4_0 hN) dX11_who_96 rfl ?_
        refine r_iload_n (q := 100) (i := 2) (z := 3) C dX11_who_99 rfl rfl rfl ?_
        refine r_lal (q := 101) q_4_2 h_4_2 C (nk_4_0 hN) dX11_who_100 rfl ?_
        refine r_aload_n (q := 102) (i := 0) (z := 1) C dX11_who_101 rfl rfl rfl ?_
        refine g_X11_41 (q := 105) C (nk_11_0 hN) dX11_who_102 rfl ?_
        refine g_X11_92 (q := 108) C (nk_2_0 hN) dX11_who_105 rfl ?_
        refine r_deref C (fun h => (h _ (nk_2_0 hN)).1) (fun y8 hy8 => ?_)
        refine g_X11_246 (q := 111) C hy8 dX11_who_108 rfl ?_
        refine r_iload_n (q := 112) (i := 1) (z := 2) C dX11_who_111 rfl rfl rfl ?_
        refine r_ial (q := 113) q_7_13 h_7_13 C hy8 dX11_who_112 rfl ?_
        refine r_i2l (q := 114) C dX11_who_113 rfl ?_
        refine r_lmul (q := 115) C dX11_who_114 rfl ?_
        refine r_lload_n (q := 116) (i := 3) (z := 0) C dX11_who_115 rfl rfl rfl ?_
        refine r_callVI (q := 119) (As := [.long ((gB s7 4 0 2 a2.toNatClampNeg) * ((gA s7 7 y8 13 a1.toNatClampNeg).toInt64)), .long x6]) wm_X11_339 yvX11_tellFraction (c_X11_tellFraction Δ hN ((gB s7 4 0 2 a2.toNatClampNeg) * ((gA s7 7 y8 13 a1.toNatClampNeg).toInt64)) x6 s7) ⟨rfl, by decide⟩ C (nk_11_0 hN) (by decide) rfl (Nat.le_of_ble_eq_true rfl) dX11_who_116 rfl (fun x9 s10 => ?_)
        exact r_zret C dX11_who_119
      · refine r_aload_n (q := 66) (i := 0) (z := 1) C dX11_who_65 rfl rfl rfl ?_
        refine r_bipush (q := 68) (v := 8) C dX11_who_66 rfl (by decide) ?_
        refine r_callVI (q := 71) (As := [.int ((8 : Int32))]) wm_X11_106 yvX11_refuse (c_X11_refuse Δ hN ((8 : Int32)) s5) ⟨rfl, by decide⟩ C (nk_11_0 hN) (by decide) rfl (Nat.le_of_ble_eq_true rfl) dX11_who_68 rfl (fun x11 s12 => ?_)
        exact r_zret C dX11_who_71
    · refine r_aload_n (q := 25) (i := 0) (z := 0) C dX11_who_24 rfl rfl rfl ?_
      refine r_iconst (q := 26) (v := 5) C dX11_who_25 rfl (by decide) ?_
      refine r_callVI (q := 29) (As := [.int ((5 : Int32))]) wm_X11_106 yvX11_refuse (c_X11_refuse Δ hN ((5 : Int32)) s4) ⟨rfl, by decide⟩ C (nk_11_0 hN) (by decide) rfl (Nat.le_of_ble_eq_true rfl) dX11_who_26 rfl (fun x13 s14 => ?_)
      exact r_zret C dX11_who_29
  · refine r_aload_n (q := 9) (i := 0) (z := 0) C dX11_who_8 rfl rfl rfl ?_
    refine r_iconst (q := 10) (v := 2) C dX11_who_9 rfl (by decide) ?_
    refine r_callVI (q := 13) (As := [.int ((2 : Int32))]) wm_X11_106 yvX11_refuse (c_X11_refuse Δ hN ((2 : Int32)) s2) ⟨rfl, by decide⟩ C (nk_11_0 hN) (by decide) rfl (Nat.le_of_ble_eq_true rfl) dX11_who_10 rfl (fun x15 s16 => ?_)
    exact r_zret C dX11_who_13

noncomputable def f_X11_mean (a1 : Int32) (st : fSt) : Option (Int32 × fSt) :=
  fBd (f_X11_isKindOrLot a1 st) fun x1 s2 =>
  if ¬ x1 = 0 then
    (fBd (f_X11_whyNoOdds a1 s2) fun x3 s4 =>
    fLt x3 fun (x5 : Int32) =>
    if x5 = 0 then
      (fBd (f_X4_gather 0 a1 (gI s4 2 0 3) s4) fun _ s6 =>
      fNn (gP s6 2 0 0) fun y7 =>
      fBd (f_X4_breathsInAll y7 s6) fun x8 s9 =>
      fBd (f_X11_tellFraction x8 (gL s9 4 0 3) s9) fun x10 s11 =>
      fBo x10 (some (x10, s11)))
    else
      (fBd (f_X11_refuse x5 s4) fun x12 s13 =>
      fBo x12 (some (x12, s13))))
  else
    (fBd (f_X11_refuse ((2 : Int32)) s2) fun x14 s15 =>
    fBo x14 (some (x14, s15)))

set_option maxHeartbeats 4000000 in
set_option maxRecDepth 100000 in
theorem c_X11_mean (Δ : fDl) (hN : fNx Δ) (a1 : Int32)  (st : fSt) : fMt eI Δ yX11_mean cX11_mean 3 (some .boolean) 6 [.ref (fad Δ 11 0 0), .int a1] st (f_X11_mean a1 st) := by
  unfold f_X11_mean
  refine r_method (by decide +kernel) (Nat.le_of_ble_eq_true rfl) (fun Γ C => ?_)
  have C : fC Δ Γ cX11_mean RX11 3 (some .boolean) 6 := C
  refine r_locs (lc' := [(0, .ref (fad Δ 11 0 0)), (1, .int a1)]) [0, 1] rfl ?_
  refine r_aload_n (q := 1) (i := 0) (z := 0) C dX11_mean_0 rfl rfl rfl ?_
  refine r_iload_n (q := 2) (i := 1) (z := 1) C dX11_mean_1 rfl rfl rfl ?_
  refine r_callVI (q := 5) (As := [.int a1]) wm_X11_323 yvX11_isKindOrLot (c_X11_isKindOrLot Δ hN a1 st) ⟨rfl, by decide⟩ C (nk_11_0 hN) (by decide) rfl (Nat.le_of_ble_eq_true rfl) dX11_mean_2 rfl (fun x1 s2 => ?_)
  refine r_if_ne (q := 8) (tgt := 14) C dX11_mean_5 (by decide) rfl ?_ ?_
  · refine r_aload_n (q := 15) (i := 0) (z := 0) C dX11_mean_14 rfl rfl rfl ?_
    refine r_iload_n (q := 16) (i := 1) (z := 1) C dX11_mean_15 rfl rfl rfl ?_
    refine r_callVI (q := 19) (As := [.int a1]) wm_X11_326 yvX11_whyNoOdds (c_X11_whyNoOdds Δ hN a1 s2) ⟨rfl, by decide⟩ C (nk_11_0 hN) (by decide) rfl (Nat.le_of_ble_eq_true rfl) dX11_mean_16 rfl (fun x3 s4 => ?_)
    refine r_istore_n (q := 20) (i := 2) [(0, .ref (fad Δ 11 0 0)), (1, .int a1)] C dX11_mean_19 rfl rfl (by decide) rfl (fun x5 => ?_)
    refine r_iload_n (q := 21) (i := 2) (z := 0) C dX11_mean_20 rfl rfl rfl ?_
    refine r_if_eq (q := 24) (tgt := 30) C dX11_mean_21 (by decide) rfl ?_ ?_
    · refine r_aload_n (q := 31) (i := 0) (z := 1) C dX11_mean_30 rfl rfl rfl ?_
      refine g_X11_59 (q := 34) C (nk_11_0 hN) dX11_mean_31 rfl ?_
      refine r_aload_n (q := 35) (i := 0) (z := 1) C dX11_mean_34 rfl rfl rfl ?_
      refine g_X11_41 (q := 38) C (nk_11_0 hN) dX11_mean_35 rfl ?_
      refine r_iload_n (q := 39) (i := 1) (z := 2) C dX11_mean_38 rfl rfl rfl ?_
      refine r_aload_n (q := 40) (i := 0) (z := 1) C dX11_mean_39 rfl rfl rfl ?_
      refine g_X11_41 (q := 43) C (nk_11_0 hN) dX11_mean_40 rfl ?_
      refine g_X11_230 (q := 46) C (nk_2_0 hN) dX11_mean_43 rfl ?_
      refine r_callVV (q := 49) (As := [.ref (fad Δ 2 0 0), .int a1, .int (gI s4 2 0 3)]) wm_X11_329 yvX4_gather (c_X4_gather Δ hN 0 a1 (gI s4 2 0 3) (nk_2_0 hN) s4) ⟨rfl, by decide⟩ C (nk_4_0 hN) (by decide) rfl (Nat.le_of_ble_eq_true rfl) dX11_mean_46 rfl (fun _ s6 => ?_)
      refine r_aload_n (q := 50) (i := 0) (z := 1) C dX11_mean_49 rfl rfl rfl ?_
      refine r_aload_n (q := 51) (i := 0) (z := 1) C dX11_mean_50 rfl rfl rfl ?_
      refine g_X11_59 (q := 54) C (nk_11_0 hN) dX11_mean_51 rfl ?_
      refine r_aload_n (q := 55) (i := 0) (z := 1) C dX11_mean_54 rfl rfl rfl ?_
      refine g_X11_41 (q := 58) C (nk_11_0 hN) dX11_mean_55 rfl ?_
      refine g_X11_92 (q := 61) C (nk_2_0 hN) dX11_mean_58 rfl ?_
      refine r_deref C (fun h => (h _ (nk_2_0 hN)).1) (fun y7 hy7 => ?_)
      refine r_callVL (q := 64) (As := [.ref (fad Δ 7 y7 0)]) wm_X11_346 yvX4_breathsInAll (c_X4_breathsInAll Δ hN y7 hy7 s6) ⟨rfl, by decide⟩ C (nk_4_0 hN) (by decide) rfl (Nat.le_of_ble_eq_true rfl) dX11_mean_61 rfl (fun x8 s9 => ?_)
      refine r_aload_n (q := 65) (i := 0) (z := 1) C dX11_mean_64 rfl rfl rfl ?_
      refine g_X11_59 (q := 68) C (nk_11_0 hN) dX11_mean_65 rfl ?_
      refine g_X11_336 (q := 71) C (nk_4_0 hN) dX11_mean_68 rfl ?_
      refine r_callVI (q := 74) (As := [.long x8, .long (gL s9 4 0 3)]) wm_X11_339 yvX11_tellFraction (c_X11_tellFraction Δ hN x8 (gL s9 4 0 3) s9) ⟨rfl, by decide⟩ C (nk_11_0 hN) (by decide) rfl (Nat.le_of_ble_eq_true rfl) dX11_mean_71 rfl (fun x10 s11 => ?_)
      exact r_zret C dX11_mean_74
    · refine r_aload_n (q := 25) (i := 0) (z := 1) C dX11_mean_24 rfl rfl rfl ?_
      refine r_iload_n (q := 26) (i := 2) (z := 0) C dX11_mean_25 rfl rfl rfl ?_
      refine r_callVI (q := 29) (As := [.int x5]) wm_X11_106 yvX11_refuse (c_X11_refuse Δ hN x5 s4) ⟨rfl, by decide⟩ C (nk_11_0 hN) (by decide) rfl (Nat.le_of_ble_eq_true rfl) dX11_mean_26 rfl (fun x12 s13 => ?_)
      exact r_zret C dX11_mean_29
  · refine r_aload_n (q := 9) (i := 0) (z := 0) C dX11_mean_8 rfl rfl rfl ?_
    refine r_iconst (q := 10) (v := 2) C dX11_mean_9 rfl (by decide) ?_
    refine r_callVI (q := 13) (As := [.int ((2 : Int32))]) wm_X11_106 yvX11_refuse (c_X11_refuse Δ hN ((2 : Int32)) s2) ⟨rfl, by decide⟩ C (nk_11_0 hN) (by decide) rfl (Nat.le_of_ble_eq_true rfl) dX11_mean_10 rfl (fun x14 s15 => ?_)
    exact r_zret C dX11_mean_13

noncomputable def f_X11_ways  (st : fSt) : Option (Int32 × fSt) :=
  fBd (f_X2_canOpen 0 st) fun x1 s2 =>
  if ¬ x1 = 0 then
    (fBd (f_X6_findAll 0 s2) fun _ s3 =>
    fBd (f_X6_countOver  s3) fun x4 s5 =>
    fBd (f_X11_answer x4 s5) fun x6 s7 =>
    some (x6, s7))
  else
    (fBd (f_X11_fail ((9 : Int32)) s2) fun x8 s9 =>
    some (x8, s9))

set_option maxHeartbeats 4000000 in
set_option maxRecDepth 100000 in
theorem c_X11_ways (Δ : fDl) (hN : fNx Δ)   (st : fSt) : fMt eI Δ yX11_ways cX11_ways 1 (some .int) 5 [.ref (fad Δ 11 0 0)] st (f_X11_ways  st) := by
  unfold f_X11_ways
  refine r_method (by decide +kernel) (Nat.le_of_ble_eq_true rfl) (fun Γ C => ?_)
  have C : fC Δ Γ cX11_ways RX11 1 (some .int) 5 := C
  refine r_locs (lc' := [(0, .ref (fad Δ 11 0 0))]) [0] rfl ?_
  refine r_aload_n (q := 1) (i := 0) (z := 0) C dX11_ways_0 rfl rfl rfl ?_
  refine g_X11_41 (q := 4) C (nk_11_0 hN) dX11_ways_1 rfl ?_
  refine r_callVI (q := 7) (As := []) wm_X11_274 yvX2_canOpen (c_X2_canOpen Δ hN 0 (nk_2_0 hN) st) ⟨rfl, by decide⟩ C (nk_2_0 hN) (by decide) rfl (Nat.le_of_ble_eq_true rfl) dX11_ways_4 rfl (fun x1 s2 => ?_)
  refine r_if_ne (q := 10) (tgt := 17) C dX11_ways_7 (by decide) rfl ?_ ?_
  · refine r_aload_n (q := 18) (i := 0) (z := 0) C dX11_ways_17 rfl rfl rfl ?_
    refine g_X11_66 (q := 21) C (nk_11_0 hN) dX11_ways_18 rfl ?_
    refine r_aload_n (q := 22) (i := 0) (z := 0) C dX11_ways_21 rfl rfl rfl ?_
    refine g_X11_41 (q := 25) C (nk_11_0 hN) dX11_ways_22 rfl ?_
    refine r_callVV (q := 28) (As := [.ref (fad Δ 2 0 0)]) wm_X11_350 yvX6_findAll (c_X6_findAll Δ hN 0 (nk_2_0 hN) s2) ⟨rfl, by decide⟩ C (nk_6_0 hN) (by decide) rfl (Nat.le_of_ble_eq_true rfl) dX11_ways_25 rfl (fun _ s3 => ?_)
    refine r_aload_n (q := 29) (i := 0) (z := 0) C dX11_ways_28 rfl rfl rfl ?_
    refine r_aload_n (q := 30) (i := 0) (z := 0) C dX11_ways_29 rfl rfl rfl ?_
    refine g_X11_66 (q := 33) C (nk_11_0 hN) dX11_ways_30 rfl ?_
    refine r_callVI (q := 36) (As := []) wm_X11_354 yvX6_countOver (c_X6_countOver Δ hN s3) ⟨rfl, by decide⟩ C (nk_6_0 hN) (by decide) rfl (Nat.le_of_ble_eq_true rfl) dX11_ways_33 rfl (fun x4 s5 => ?_)
    refine r_callVI (q := 39) (As := [.int x4]) wm_X11_190 yvX11_answer (c_X11_answer Δ hN x4 s5) ⟨rfl, by decide⟩ C (nk_11_0 hN) (by decide) rfl (Nat.le_of_ble_eq_true rfl) dX11_ways_36 rfl (fun x6 s7 => ?_)
    exact r_iret C dX11_ways_39
  · refine r_aload_n (q := 11) (i := 0) (z := 0) C dX11_ways_10 rfl rfl rfl ?_
    refine r_bipush (q := 13) (v := 9) C dX11_ways_11 rfl (by decide) ?_
    refine r_callVI (q := 16) (As := [.int ((9 : Int32))]) wm_X11_143 yvX11_fail (c_X11_fail Δ hN ((9 : Int32)) s2) ⟨rfl, by decide⟩ C (nk_11_0 hN) (by decide) rfl (Nat.le_of_ble_eq_true rfl) dX11_ways_13 rfl (fun x8 s9 => ?_)
    exact r_iret C dX11_ways_16

noncomputable def f_X11_length (a1 : Int32) (st : fSt) : Option (Int32 × fSt) :=
  fBd (f_X11_isIn a1 ((0 : Int32)) ((1 : Int32)) st) fun x1 s2 =>
  if ¬ x1 = 0 then
    (fBd (f_X2_canOpen 0 s2) fun x3 s4 =>
    if ¬ x3 = 0 then
      (fBd (f_X6_findAll 0 s4) fun _ s5 =>
      fJn (fun (x6 : Int32) (s7 : fSt) =>
        (fBd (f_X11_answer x6 s7) fun x9 s10 =>
        some (x9, s10))) fun (j8 : Int32 → fSt → Option (Int32 × fSt)) =>
      if ¬ a1 = 0 then
        (fBd (f_X6_shortest  s5) fun x11 s12 =>
        j8 x11 s12)
      else
        (fBd (f_X6_longest  s5) fun x13 s14 =>
        j8 x13 s14))
    else
      (fBd (f_X11_fail ((9 : Int32)) s4) fun x15 s16 =>
      some (x15, s16)))
  else
    (fBd (f_X11_fail ((5 : Int32)) s2) fun x17 s18 =>
    some (x17, s18))

set_option maxHeartbeats 4000000 in
set_option maxRecDepth 100000 in
theorem c_X11_length (Δ : fDl) (hN : fNx Δ) (a1 : Int32)  (st : fSt) : fMt eI Δ yX11_length cX11_length 2 (some .int) 5 [.ref (fad Δ 11 0 0), .int a1] st (f_X11_length a1 st) := by
  unfold f_X11_length
  refine r_method (by decide +kernel) (Nat.le_of_ble_eq_true rfl) (fun Γ C => ?_)
  have C : fC Δ Γ cX11_length RX11 2 (some .int) 5 := C
  refine r_locs (lc' := [(0, .ref (fad Δ 11 0 0)), (1, .int a1)]) [0, 1] rfl ?_
  refine r_iload_n (q := 1) (i := 1) (z := 1) C dX11_length_0 rfl rfl rfl ?_
  refine r_iconst (q := 2) (v := 0) C dX11_length_1 rfl (by decide) ?_
  refine r_iconst (q := 3) (v := 1) C dX11_length_2 rfl (by decide) ?_
  refine r_callSI (q := 6) (As := [.int a1, .int ((0 : Int32)), .int ((1 : Int32))]) wm_X11_127 ysX11_isIn (c_X11_isIn Δ hN a1 ((0 : Int32)) ((1 : Int32)) st) C (by decide) rfl (Nat.le_of_ble_eq_true rfl) dX11_length_3 rfl (fun x1 s2 => ?_)
  refine r_if_ne (q := 9) (tgt := 15) C dX11_length_6 (by decide) rfl ?_ ?_
  · refine r_aload_n (q := 16) (i := 0) (z := 0) C dX11_length_15 rfl rfl rfl ?_
    refine g_X11_41 (q := 19) C (nk_11_0 hN) dX11_length_16 rfl ?_
    refine r_callVI (q := 22) (As := []) wm_X11_274 yvX2_canOpen (c_X2_canOpen Δ hN 0 (nk_2_0 hN) s2) ⟨rfl, by decide⟩ C (nk_2_0 hN) (by decide) rfl (Nat.le_of_ble_eq_true rfl) dX11_length_19 rfl (fun x3 s4 => ?_)
    refine r_if_ne (q := 25) (tgt := 32) C dX11_length_22 (by decide) rfl ?_ ?_
    · refine r_aload_n (q := 33) (i := 0) (z := 0) C dX11_length_32 rfl rfl rfl ?_
      refine g_X11_66 (q := 36) C (nk_11_0 hN) dX11_length_33 rfl ?_
      refine r_aload_n (q := 37) (i := 0) (z := 0) C dX11_length_36 rfl rfl rfl ?_
      refine g_X11_41 (q := 40) C (nk_11_0 hN) dX11_length_37 rfl ?_
      refine r_callVV (q := 43) (As := [.ref (fad Δ 2 0 0)]) wm_X11_350 yvX6_findAll (c_X6_findAll Δ hN 0 (nk_2_0 hN) s4) ⟨rfl, by decide⟩ C (nk_6_0 hN) (by decide) rfl (Nat.le_of_ble_eq_true rfl) dX11_length_40 rfl (fun _ s5 => ?_)
      refine r_aload_n (q := 44) (i := 0) (z := 0) C dX11_length_43 rfl rfl rfl ?_
      refine r_iload_n (q := 45) (i := 1) (z := 1) C dX11_length_44 rfl rfl rfl ?_
      refine r_join (fun j8 => ∀ (x6 : Int32) (s7 : fSt), fW Δ Γ 2 (fQ eI Δ Γ) 65 [] [.int x6, .ref (fad Δ 11 0 0)] s7 (j8 x6 s7)) ?_ (fun j8 hj8 => ?_)
      · intro x6 s7
        refine r_callVI (q := 68) (As := [.int x6]) wm_X11_190 yvX11_answer (c_X11_answer Δ hN x6 s7) ⟨rfl, by decide⟩ C (nk_11_0 hN) (by decide) rfl (Nat.le_of_ble_eq_true rfl) dX11_length_65 rfl (fun x9 s10 => ?_)
        exact r_iret C dX11_length_68
      refine r_if_ne (q := 48) (tgt := 58) C dX11_length_45 (by decide) rfl ?_ ?_
      · refine r_aload_n (q := 59) (i := 0) (z := 0) C dX11_length_58 rfl rfl rfl ?_
        refine g_X11_66 (q := 62) C (nk_11_0 hN) dX11_length_59 rfl ?_
        refine r_callVI (q := 65) (As := []) wm_X11_360 yvX6_shortest (c_X6_shortest Δ hN s5) ⟨rfl, by decide⟩ C (nk_6_0 hN) (by decide) rfl (Nat.le_of_ble_eq_true rfl) dX11_length_62 rfl (fun x11 s12 => ?_)
        refine r_locs (lc' := []) [] rfl ?_
        exact hj8 x11 s12
      · refine r_aload_n (q := 49) (i := 0) (z := 0) C dX11_length_48 rfl rfl rfl ?_
        refine g_X11_66 (q := 52) C (nk_11_0 hN) dX11_length_49 rfl ?_
        refine r_callVI (q := 55) (As := []) wm_X11_357 yvX6_longest (c_X6_longest Δ hN s5) ⟨rfl, by decide⟩ C (nk_6_0 hN) (by decide) rfl (Nat.le_of_ble_eq_true rfl) dX11_length_52 rfl (fun x13 s14 => ?_)
        refine r_goto (q := 65) C dX11_length_55 (by decide) ?_
        refine r_locs (lc' := []) [] rfl ?_
        exact hj8 x13 s14
    · refine r_aload_n (q := 26) (i := 0) (z := 0) C dX11_length_25 rfl rfl rfl ?_
      refine r_bipush (q := 28) (v := 9) C dX11_length_26 rfl (by decide) ?_
      refine r_callVI (q := 31) (As := [.int ((9 : Int32))]) wm_X11_143 yvX11_fail (c_X11_fail Δ hN ((9 : Int32)) s4) ⟨rfl, by decide⟩ C (nk_11_0 hN) (by decide) rfl (Nat.le_of_ble_eq_true rfl) dX11_length_28 rfl (fun x15 s16 => ?_)
      exact r_iret C dX11_length_31
  · refine r_aload_n (q := 10) (i := 0) (z := 0) C dX11_length_9 rfl rfl rfl ?_
    refine r_iconst (q := 11) (v := 5) C dX11_length_10 rfl (by decide) ?_
    refine r_callVI (q := 14) (As := [.int ((5 : Int32))]) wm_X11_143 yvX11_fail (c_X11_fail Δ hN ((5 : Int32)) s2) ⟨rfl, by decide⟩ C (nk_11_0 hN) (by decide) rfl (Nat.le_of_ble_eq_true rfl) dX11_length_11 rfl (fun x17 s18 => ?_)
    exact r_iret C dX11_length_14

noncomputable def f_X11_can (a1 : Int32) (st : fSt) : Option (Int32 × fSt) :=
  fBd (f_X11_isIn a1 ((0 : Int32)) ((1 : Int32)) st) fun x1 s2 =>
  if ¬ x1 = 0 then
    (fBd (f_X6_findAll 0 s2) fun _ s3 =>
    fJn (fun (x4 : Int32) (s5 : fSt) =>
      (fBd (f_X11_answer x4 s5) fun x7 s8 =>
      some (x7, s8))) fun (j6 : Int32 → fSt → Option (Int32 × fSt)) =>
    if ¬ a1 = 0 then
      (fNn (gP s3 2 0 0) fun y9 =>
      fNn (gP s3 2 0 0) fun y10 =>
      fBd (f_X7_allScenes y10 s3) fun x11 s12 =>
      fBd (f_X6_endingsBy y9 x11 s12) fun x13 s14 =>
      j6 x13 s14)
    else
      (fBd (f_X6_canSee  s3) fun x15 s16 =>
      j6 x15 s16))
  else
    (fBd (f_X11_fail ((5 : Int32)) s2) fun x17 s18 =>
    some (x17, s18))

set_option maxHeartbeats 4000000 in
set_option maxRecDepth 100000 in
theorem c_X11_can (Δ : fDl) (hN : fNx Δ) (a1 : Int32)  (st : fSt) : fMt eI Δ yX11_can cX11_can 2 (some .int) 5 [.ref (fad Δ 11 0 0), .int a1] st (f_X11_can a1 st) := by
  unfold f_X11_can
  refine r_method (by decide +kernel) (Nat.le_of_ble_eq_true rfl) (fun Γ C => ?_)
  have C : fC Δ Γ cX11_can RX11 2 (some .int) 5 := C
  refine r_locs (lc' := [(0, .ref (fad Δ 11 0 0)), (1, .int a1)]) [0, 1] rfl ?_
  refine r_iload_n (q := 1) (i := 1) (z := 1) C dX11_can_0 rfl rfl rfl ?_
  refine r_iconst (q := 2) (v := 0) C dX11_can_1 rfl (by decide) ?_
  refine r_iconst (q := 3) (v := 1) C dX11_can_2 rfl (by decide) ?_
  refine r_callSI (q := 6) (As := [.int a1, .int ((0 : Int32)), .int ((1 : Int32))]) wm_X11_127 ysX11_isIn (c_X11_isIn Δ hN a1 ((0 : Int32)) ((1 : Int32)) st) C (by decide) rfl (Nat.le_of_ble_eq_true rfl) dX11_can_3 rfl (fun x1 s2 => ?_)
  refine r_if_ne (q := 9) (tgt := 15) C dX11_can_6 (by decide) rfl ?_ ?_
  · refine r_aload_n (q := 16) (i := 0) (z := 0) C dX11_can_15 rfl rfl rfl ?_
    refine g_X11_66 (q := 19) C (nk_11_0 hN) dX11_can_16 rfl ?_
    refine r_aload_n (q := 20) (i := 0) (z := 0) C dX11_can_19 rfl rfl rfl ?_
    refine g_X11_41 (q := 23) C (nk_11_0 hN) dX11_can_20 rfl ?_
    refine r_callVV (q := 26) (As := [.ref (fad Δ 2 0 0)]) wm_X11_350 yvX6_findAll (c_X6_findAll Δ hN 0 (nk_2_0 hN) s2) ⟨rfl, by decide⟩ C (nk_6_0 hN) (by decide) rfl (Nat.le_of_ble_eq_true rfl) dX11_can_23 rfl (fun _ s3 => ?_)
    refine r_aload_n (q := 27) (i := 0) (z := 0) C dX11_can_26 rfl rfl rfl ?_
    refine r_iload_n (q := 28) (i := 1) (z := 1) C dX11_can_27 rfl rfl rfl ?_
    refine r_join (fun j6 => ∀ (x4 : Int32) (s5 : fSt), fW Δ Γ 2 (fQ eI Δ Γ) 65 [] [.int x4, .ref (fad Δ 11 0 0)] s5 (j6 x4 s5)) ?_ (fun j6 hj6 => ?_)
    · intro x4 s5
      refine r_callVI (q := 68) (As := [.int x4]) wm_X11_190 yvX11_answer (c_X11_answer Δ hN x4 s5) ⟨rfl, by decide⟩ C (nk_11_0 hN) (by decide) rfl (Nat.le_of_ble_eq_true rfl) dX11_can_65 rfl (fun x7 s8 => ?_)
      exact r_iret C dX11_can_68
    refine r_if_ne (q := 31) (tgt := 41) C dX11_can_28 (by decide) rfl ?_ ?_
    · refine r_aload_n (q := 42) (i := 0) (z := 0) C dX11_can_41 rfl rfl rfl ?_
      refine g_X11_66 (q := 45) C (nk_11_0 hN) dX11_can_42 rfl ?_
      refine r_aload_n (q := 46) (i := 0) (z := 0) C dX11_can_45 rfl rfl rfl ?_
      refine g_X11_41 (q := 49) C (nk_11_0 hN) dX11_can_46 rfl ?_
      refine g_X11_92 (q := 52) C (nk_2_0 hN) dX11_can_49 rfl ?_
      refine r_deref C (fun h => (h _ (nk_2_0 hN)).1) (fun y9 hy9 => ?_)
      refine r_aload_n (q := 53) (i := 0) (z := 0) C dX11_can_52 rfl rfl rfl ?_
      refine g_X11_41 (q := 56) C (nk_11_0 hN) dX11_can_53 rfl ?_
      refine g_X11_92 (q := 59) C (nk_2_0 hN) dX11_can_56 rfl ?_
      refine r_deref C (fun h => (h _ (nk_2_0 hN)).1) (fun y10 hy10 => ?_)
      refine r_callVI (q := 62) (As := []) wm_X11_305 yvX7_allScenes (c_X7_allScenes Δ hN y10 hy10 s3) ⟨rfl, by decide⟩ C hy10 (by decide) rfl (Nat.le_of_ble_eq_true rfl) dX11_can_59 rfl (fun x11 s12 => ?_)
      refine r_callVI (q := 65) (As := [.ref (fad Δ 7 y9 0), .int x11]) wm_X11_366 yvX6_endingsBy (c_X6_endingsBy Δ hN y9 x11 hy9 s12) ⟨rfl, by decide⟩ C (nk_6_0 hN) (by decide) rfl (Nat.le_of_ble_eq_true rfl) dX11_can_62 rfl (fun x13 s14 => ?_)
      refine r_locs (lc' := []) [] rfl ?_
      exact hj6 x13 s14
    · refine r_aload_n (q := 32) (i := 0) (z := 0) C dX11_can_31 rfl rfl rfl ?_
      refine g_X11_66 (q := 35) C (nk_11_0 hN) dX11_can_32 rfl ?_
      refine r_callVI (q := 38) (As := []) wm_X11_363 yvX6_canSee (c_X6_canSee Δ hN s3) ⟨rfl, by decide⟩ C (nk_6_0 hN) (by decide) rfl (Nat.le_of_ble_eq_true rfl) dX11_can_35 rfl (fun x15 s16 => ?_)
      refine r_goto (q := 65) C dX11_can_38 (by decide) ?_
      refine r_locs (lc' := []) [] rfl ?_
      exact hj6 x15 s16
  · refine r_aload_n (q := 10) (i := 0) (z := 0) C dX11_can_9 rfl rfl rfl ?_
    refine r_iconst (q := 11) (v := 5) C dX11_can_10 rfl (by decide) ?_
    refine r_callVI (q := 14) (As := [.int ((5 : Int32))]) wm_X11_143 yvX11_fail (c_X11_fail Δ hN ((5 : Int32)) s2) ⟨rfl, by decide⟩ C (nk_11_0 hN) (by decide) rfl (Nat.le_of_ble_eq_true rfl) dX11_can_11 rfl (fun x17 s18 => ?_)
    exact r_iret C dX11_can_14

noncomputable def f_X11_by (a1 : Int32) (st : fSt) : Option (Int32 × fSt) :=
  fBd (f_X11_hasScene a1 st) fun x1 s2 =>
  if ¬ x1 = 0 then
    (fBd (f_X6_findAll 0 s2) fun _ s3 =>
    fNn (gP s3 2 0 0) fun y4 =>
    fBd (f_X6_endingsBy y4 (((1 : Int32)) <<< (a1 &&& 31)) s3) fun x5 s6 =>
    fBd (f_X11_answer x5 s6) fun x7 s8 =>
    some (x7, s8))
  else
    (fBd (f_X11_fail ((2 : Int32)) s2) fun x9 s10 =>
    some (x9, s10))

set_option maxHeartbeats 4000000 in
set_option maxRecDepth 100000 in
theorem c_X11_by (Δ : fDl) (hN : fNx Δ) (a1 : Int32)  (st : fSt) : fMt eI Δ yX11_by cX11_by 2 (some .int) 5 [.ref (fad Δ 11 0 0), .int a1] st (f_X11_by a1 st) := by
  unfold f_X11_by
  refine r_method (by decide +kernel) (Nat.le_of_ble_eq_true rfl) (fun Γ C => ?_)
  have C : fC Δ Γ cX11_by RX11 2 (some .int) 5 := C
  refine r_locs (lc' := [(0, .ref (fad Δ 11 0 0)), (1, .int a1)]) [0, 1] rfl ?_
  refine r_aload_n (q := 1) (i := 0) (z := 0) C dX11_by_0 rfl rfl rfl ?_
  refine r_iload_n (q := 2) (i := 1) (z := 1) C dX11_by_1 rfl rfl rfl ?_
  refine r_callVI (q := 5) (As := [.int a1]) wm_X11_237 yvX11_hasScene (c_X11_hasScene Δ hN a1 st) ⟨rfl, by decide⟩ C (nk_11_0 hN) (by decide) rfl (Nat.le_of_ble_eq_true rfl) dX11_by_2 rfl (fun x1 s2 => ?_)
  refine r_if_ne (q := 8) (tgt := 14) C dX11_by_5 (by decide) rfl ?_ ?_
  · refine r_aload_n (q := 15) (i := 0) (z := 0) C dX11_by_14 rfl rfl rfl ?_
    refine g_X11_66 (q := 18) C (nk_11_0 hN) dX11_by_15 rfl ?_
    refine r_aload_n (q := 19) (i := 0) (z := 0) C dX11_by_18 rfl rfl rfl ?_
    refine g_X11_41 (q := 22) C (nk_11_0 hN) dX11_by_19 rfl ?_
    refine r_callVV (q := 25) (As := [.ref (fad Δ 2 0 0)]) wm_X11_350 yvX6_findAll (c_X6_findAll Δ hN 0 (nk_2_0 hN) s2) ⟨rfl, by decide⟩ C (nk_6_0 hN) (by decide) rfl (Nat.le_of_ble_eq_true rfl) dX11_by_22 rfl (fun _ s3 => ?_)
    refine r_aload_n (q := 26) (i := 0) (z := 0) C dX11_by_25 rfl rfl rfl ?_
    refine r_aload_n (q := 27) (i := 0) (z := 0) C dX11_by_26 rfl rfl rfl ?_
    refine g_X11_66 (q := 30) C (nk_11_0 hN) dX11_by_27 rfl ?_
    refine r_aload_n (q := 31) (i := 0) (z := 0) C dX11_by_30 rfl rfl rfl ?_
    refine g_X11_41 (q := 34) C (nk_11_0 hN) dX11_by_31 rfl ?_
    refine g_X11_92 (q := 37) C (nk_2_0 hN) dX11_by_34 rfl ?_
    refine r_deref C (fun h => (h _ (nk_2_0 hN)).1) (fun y4 hy4 => ?_)
    refine r_iconst (q := 38) (v := 1) C dX11_by_37 rfl (by decide) ?_
    refine r_iload_n (q := 39) (i := 1) (z := 1) C dX11_by_38 rfl rfl rfl ?_
    refine r_ishl (q := 40) C dX11_by_39 rfl ?_
    refine r_callVI (q := 43) (As := [.ref (fad Δ 7 y4 0), .int (((1 : Int32)) <<< (a1 &&& 31))]) wm_X11_366 yvX6_endingsBy (c_X6_endingsBy Δ hN y4 (((1 : Int32)) <<< (a1 &&& 31)) hy4 s3) ⟨rfl, by decide⟩ C (nk_6_0 hN) (by decide) rfl (Nat.le_of_ble_eq_true rfl) dX11_by_40 rfl (fun x5 s6 => ?_)
    refine r_callVI (q := 46) (As := [.int x5]) wm_X11_190 yvX11_answer (c_X11_answer Δ hN x5 s6) ⟨rfl, by decide⟩ C (nk_11_0 hN) (by decide) rfl (Nat.le_of_ble_eq_true rfl) dX11_by_43 rfl (fun x7 s8 => ?_)
    exact r_iret C dX11_by_46
  · refine r_aload_n (q := 9) (i := 0) (z := 0) C dX11_by_8 rfl rfl rfl ?_
    refine r_iconst (q := 10) (v := 2) C dX11_by_9 rfl (by decide) ?_
    refine r_callVI (q := 13) (As := [.int ((2 : Int32))]) wm_X11_143 yvX11_fail (c_X11_fail Δ hN ((2 : Int32)) s2) ⟨rfl, by decide⟩ C (nk_11_0 hN) (by decide) rfl (Nat.le_of_ble_eq_true rfl) dX11_by_10 rfl (fun x9 s10 => ?_)
    exact r_iret C dX11_by_13

noncomputable def f_X11_fewest  (st : fSt) : Option (Int32 × fSt) :=
  fBd (f_X2_canOpen 0 st) fun x1 s2 =>
  if ¬ x1 = 0 then
    (fBd (f_X6_findAll 0 s2) fun _ s3 =>
    fBd (f_X6_fewestForAll  s3) fun x4 s5 =>
    fBd (f_X11_answer x4 s5) fun x6 s7 =>
    some (x6, s7))
  else
    (fBd (f_X11_fail ((9 : Int32)) s2) fun x8 s9 =>
    some (x8, s9))

set_option maxHeartbeats 4000000 in
set_option maxRecDepth 100000 in
theorem c_X11_fewest (Δ : fDl) (hN : fNx Δ)   (st : fSt) : fMt eI Δ yX11_fewest cX11_fewest 1 (some .int) 5 [.ref (fad Δ 11 0 0)] st (f_X11_fewest  st) := by
  unfold f_X11_fewest
  refine r_method (by decide +kernel) (Nat.le_of_ble_eq_true rfl) (fun Γ C => ?_)
  have C : fC Δ Γ cX11_fewest RX11 1 (some .int) 5 := C
  refine r_locs (lc' := [(0, .ref (fad Δ 11 0 0))]) [0] rfl ?_
  refine r_aload_n (q := 1) (i := 0) (z := 0) C dX11_fewest_0 rfl rfl rfl ?_
  refine g_X11_41 (q := 4) C (nk_11_0 hN) dX11_fewest_1 rfl ?_
  refine r_callVI (q := 7) (As := []) wm_X11_274 yvX2_canOpen (c_X2_canOpen Δ hN 0 (nk_2_0 hN) st) ⟨rfl, by decide⟩ C (nk_2_0 hN) (by decide) rfl (Nat.le_of_ble_eq_true rfl) dX11_fewest_4 rfl (fun x1 s2 => ?_)
  refine r_if_ne (q := 10) (tgt := 17) C dX11_fewest_7 (by decide) rfl ?_ ?_
  · refine r_aload_n (q := 18) (i := 0) (z := 0) C dX11_fewest_17 rfl rfl rfl ?_
    refine g_X11_66 (q := 21) C (nk_11_0 hN) dX11_fewest_18 rfl ?_
    refine r_aload_n (q := 22) (i := 0) (z := 0) C dX11_fewest_21 rfl rfl rfl ?_
    refine g_X11_41 (q := 25) C (nk_11_0 hN) dX11_fewest_22 rfl ?_
    refine r_callVV (q := 28) (As := [.ref (fad Δ 2 0 0)]) wm_X11_350 yvX6_findAll (c_X6_findAll Δ hN 0 (nk_2_0 hN) s2) ⟨rfl, by decide⟩ C (nk_6_0 hN) (by decide) rfl (Nat.le_of_ble_eq_true rfl) dX11_fewest_25 rfl (fun _ s3 => ?_)
    refine r_aload_n (q := 29) (i := 0) (z := 0) C dX11_fewest_28 rfl rfl rfl ?_
    refine r_aload_n (q := 30) (i := 0) (z := 0) C dX11_fewest_29 rfl rfl rfl ?_
    refine g_X11_66 (q := 33) C (nk_11_0 hN) dX11_fewest_30 rfl ?_
    refine r_callVI (q := 36) (As := []) wm_X11_370 yvX6_fewestForAll (c_X6_fewestForAll Δ hN s3) ⟨rfl, by decide⟩ C (nk_6_0 hN) (by decide) rfl (Nat.le_of_ble_eq_true rfl) dX11_fewest_33 rfl (fun x4 s5 => ?_)
    refine r_callVI (q := 39) (As := [.int x4]) wm_X11_190 yvX11_answer (c_X11_answer Δ hN x4 s5) ⟨rfl, by decide⟩ C (nk_11_0 hN) (by decide) rfl (Nat.le_of_ble_eq_true rfl) dX11_fewest_36 rfl (fun x6 s7 => ?_)
    exact r_iret C dX11_fewest_39
  · refine r_aload_n (q := 11) (i := 0) (z := 0) C dX11_fewest_10 rfl rfl rfl ?_
    refine r_bipush (q := 13) (v := 9) C dX11_fewest_11 rfl (by decide) ?_
    refine r_callVI (q := 16) (As := [.int ((9 : Int32))]) wm_X11_143 yvX11_fail (c_X11_fail Δ hN ((9 : Int32)) s2) ⟨rfl, by decide⟩ C (nk_11_0 hN) (by decide) rfl (Nat.le_of_ble_eq_true rfl) dX11_fewest_13 rfl (fun x8 s9 => ?_)
    exact r_iret C dX11_fewest_16
