noncomputable def f_X11_stage_1 (a1 : Int32) (kn : fSt → Option (Int32 × fSt)) (st : fSt) : Option (Int32 × fSt) :=
  fBd (f_X11_isIn a1 ((0 : Int32)) (gI st 5 0 2) st) fun x1 s2 =>
  if ¬ x1 = 0 then
    (fBd (f_X5_start a1 s2) fun _ s3 =>
    kn s3)
  else
    (fBd (f_X11_fail ((5 : Int32)) s2) fun x4 s5 =>
    some (x4, s5))

set_option maxHeartbeats 4000000 in
set_option maxRecDepth 100000 in
theorem t_X11_stage_1 (Δ : fDl) (Γ : fGm) (hN : fNx Δ) (C : fC Δ Γ cX11_stage RX11 4 (some .int) 8) (Qv : Int32 → fSt → State → Prop) (hRet : ∀ (pc : Nat) (lc : List (Nat × Value)) (x : Int32) (st : fSt), decode cX11_stage pc = .ok (.ireturn, 1) → fW Δ Γ 4 Qv pc lc [.int x] st (some (x, st))) (kn : fSt → Option (Int32 × fSt)) (hkn : ∀ s, fW Δ Γ 4 Qv 29 [(0, .ref (fad Δ 11 0 0))] [] s (kn s)) (a1 : Int32) (st : fSt) : fW Δ Γ 4 Qv 0 [(0, .ref (fad Δ 11 0 0)), (1, .int a1)] [] st (f_X11_stage_1 a1 kn st) := by
  unfold f_X11_stage_1
  refine r_iload_n (q := 1) (i := 1) (z := 1) C dX11_stage_0 rfl rfl rfl ?_
  refine r_iconst (q := 2) (v := 0) C dX11_stage_1 rfl (by decide) ?_
  refine r_aload_n (q := 3) (i := 0) (z := 0) C dX11_stage_2 rfl rfl rfl ?_
  refine g_X11_18 (q := 6) C (nk_11_0 hN) dX11_stage_3 rfl ?_
  refine g_X11_170 (q := 9) C (nk_5_0 hN) dX11_stage_6 rfl ?_
  refine r_callSI (q := 12) (As := [.int a1, .int ((0 : Int32)), .int (gI st 5 0 2)]) wm_X11_127 ysX11_isIn (c_X11_isIn Δ hN a1 ((0 : Int32)) (gI st 5 0 2) st) C (by decide) rfl (Nat.le_of_ble_eq_true rfl) dX11_stage_9 rfl (fun x1 s2 => ?_)
  refine r_if_ne (q := 15) (tgt := 21) C dX11_stage_12 (by decide) rfl ?_ ?_
  · refine r_aload_n (q := 22) (i := 0) (z := 0) C dX11_stage_21 rfl rfl rfl ?_
    refine g_X11_18 (q := 25) C (nk_11_0 hN) dX11_stage_22 rfl ?_
    refine r_iload_n (q := 26) (i := 1) (z := 1) C dX11_stage_25 rfl rfl rfl ?_
    refine r_callVV (q := 29) (As := [.int a1]) wm_X11_177 yvX5_start (c_X5_start Δ hN a1 s2) ⟨rfl, by decide⟩ C (nk_5_0 hN) (by decide) rfl (Nat.le_of_ble_eq_true rfl) dX11_stage_26 rfl (fun _ s3 => ?_)
    refine r_locs (lc' := [(0, .ref (fad Δ 11 0 0))]) [0] rfl ?_
    exact hkn s3
  · refine r_aload_n (q := 16) (i := 0) (z := 0) C dX11_stage_15 rfl rfl rfl ?_
    refine r_iconst (q := 17) (v := 5) C dX11_stage_16 rfl (by decide) ?_
    refine r_callVI (q := 20) (As := [.int ((5 : Int32))]) wm_X11_143 yvX11_fail (c_X11_fail Δ hN ((5 : Int32)) s2) ⟨rfl, by decide⟩ C (nk_11_0 hN) (by decide) rfl (Nat.le_of_ble_eq_true rfl) dX11_stage_17 rfl (fun x4 s5 => ?_)
    exact hRet _ _ _ _ dX11_stage_20
noncomputable def f_X11_stage_2 (n0 : Nat) (st : fSt) : Option (Int32 × fSt) :=
  fBd (f_X7_readFrom n0 st) fun x1 s2 =>
  fLt x1 fun (x3 : Int32) =>
  fBd (f_X11_keepFault  s2) fun _ s4 =>
  if ¬ x3 = 0 then
    (fBd (f_X2_raise 0 n0 s4) fun _ s5 =>
    fBd (f_X11_answer (gI s5 7 n0 2) s5) fun x6 s7 =>
    some (x6, s7))
  else
    (fBd (f_X11_fail ((10 : Int32)) s4) fun x8 s9 =>
    some (x8, s9))

set_option maxHeartbeats 4000000 in
set_option maxRecDepth 100000 in
theorem t_X11_stage_2 (Δ : fDl) (Γ : fGm) (hN : fNx Δ) (n0 : Nat) (h0 : n0 < fN Δ 7) (C : fC Δ Γ cX11_stage RX11 4 (some .int) 8) (Qv : Int32 → fSt → State → Prop) (hRet : ∀ (pc : Nat) (lc : List (Nat × Value)) (x : Int32) (st : fSt), decode cX11_stage pc = .ok (.ireturn, 1) → fW Δ Γ 4 Qv pc lc [.int x] st (some (x, st))) (st : fSt) : fW Δ Γ 4 Qv 36 [(0, .ref (fad Δ 11 0 0))] [.ref (fad Δ 7 n0 0)] st (f_X11_stage_2 n0 st) := by
  unfold f_X11_stage_2
  refine r_astore_n (q := 37) (i := 2) [(0, .ref (fad Δ 11 0 0))] C dX11_stage_36 rfl rfl (by decide) rfl ?_
  refine r_aload_n (q := 38) (i := 2) (z := 0) C dX11_stage_37 rfl rfl rfl ?_
  refine r_aload_n (q := 39) (i := 0) (z := 1) C dX11_stage_38 rfl rfl rfl ?_
  refine g_X11_18 (q := 42) C (nk_11_0 hN) dX11_stage_39 rfl ?_
  refine r_callVI (q := 45) (As := [.ref (fad Δ 5 0 0)]) wm_X11_180 yvX7_readFrom (c_X7_readFrom Δ hN n0 h0 st) ⟨rfl, by decide⟩ C h0 (by decide) rfl (Nat.le_of_ble_eq_true rfl) dX11_stage_42 rfl (fun x1 s2 => ?_)
  refine r_istore_n (q := 46) (i := 3) [(2, .ref (fad Δ 7 n0 0)), (0, .ref (fad Δ 11 0 0))] C dX11_stage_45 rfl rfl (by decide) rfl (fun x3 => ?_)
  refine r_aload_n (q := 47) (i := 0) (z := 2) C dX11_stage_46 rfl rfl rfl ?_
  refine r_callVV (q := 50) (As := []) wm_X11_184 yvX11_keepFault (c_X11_keepFault Δ hN s2) ⟨rfl, by decide⟩ C (nk_11_0 hN) (by decide) rfl (Nat.le_of_ble_eq_true rfl) dX11_stage_47 rfl (fun _ s4 => ?_)
  refine r_iload_n (q := 51) (i := 3) (z := 0) C dX11_stage_50 rfl rfl rfl ?_
  refine r_if_ne (q := 54) (tgt := 61) C dX11_stage_51 (by decide) rfl ?_ ?_
  · refine r_aload_n (q := 62) (i := 0) (z := 2) C dX11_stage_61 rfl rfl rfl ?_
    refine g_X11_41 (q := 65) C (nk_11_0 hN) dX11_stage_62 rfl ?_
    refine r_aload_n (q := 66) (i := 2) (z := 1) C dX11_stage_65 rfl rfl rfl ?_
    refine r_callVV (q := 69) (As := [.ref (fad Δ 7 n0 0)]) wm_X11_187 yvX2_raise (c_X2_raise Δ hN 0 n0 (nk_2_0 hN) h0 s4) ⟨rfl, by decide⟩ C (nk_2_0 hN) (by decide) rfl (Nat.le_of_ble_eq_true rfl) dX11_stage_66 rfl (fun _ s5 => ?_)
    refine r_aload_n (q := 70) (i := 0) (z := 2) C dX11_stage_69 rfl rfl rfl ?_
    refine r_aload_n (q := 71) (i := 2) (z := 1) C dX11_stage_70 rfl rfl rfl ?_
    refine g_X11_114 (q := 74) C h0 dX11_stage_71 rfl ?_
    refine r_callVI (q := 77) (As := [.int (gI s5 7 n0 2)]) wm_X11_190 yvX11_answer (c_X11_answer Δ hN (gI s5 7 n0 2) s5) ⟨rfl, by decide⟩ C (nk_11_0 hN) (by decide) rfl (Nat.le_of_ble_eq_true rfl) dX11_stage_74 rfl (fun x6 s7 => ?_)
    exact hRet _ _ _ _ dX11_stage_77
  · refine r_aload_n (q := 55) (i := 0) (z := 2) C dX11_stage_54 rfl rfl rfl ?_
    refine r_bipush (q := 57) (v := 10) C dX11_stage_55 rfl (by decide) ?_
    refine r_callVI (q := 60) (As := [.int ((10 : Int32))]) wm_X11_143 yvX11_fail (c_X11_fail Δ hN ((10 : Int32)) s4) ⟨rfl, by decide⟩ C (nk_11_0 hN) (by decide) rfl (Nat.le_of_ble_eq_true rfl) dX11_stage_57 rfl (fun x8 s9 => ?_)
    exact hRet _ _ _ _ dX11_stage_60
noncomputable def f_X11_week_1 (a1 : Int32) (kn : fSt → Option (Int32 × fSt)) (st : fSt) : Option (Int32 × fSt) :=
  fBd (f_X11_isIn a1 ((0 : Int32)) (if ((300 : Int32)) < (gI st 5 0 2) then ((300 : Int32)) else (gI st 5 0 2)) st) fun x1 s2 =>
  if ¬ x1 = 0 then
    (fBd (f_X5_start a1 s2) fun _ s3 =>
    kn s3)
  else
    (fBd (f_X11_fail ((5 : Int32)) s2) fun x4 s5 =>
    some (x4, s5))

set_option maxHeartbeats 4000000 in
set_option maxRecDepth 100000 in
theorem t_X11_week_1 (Δ : fDl) (Γ : fGm) (hN : fNx Δ) (C : fC Δ Γ cX11_week RX11 4 (some .int) 8) (Qv : Int32 → fSt → State → Prop) (hRet : ∀ (pc : Nat) (lc : List (Nat × Value)) (x : Int32) (st : fSt), decode cX11_week pc = .ok (.ireturn, 1) → fW Δ Γ 4 Qv pc lc [.int x] st (some (x, st))) (kn : fSt → Option (Int32 × fSt)) (hkn : ∀ s, fW Δ Γ 4 Qv 35 [(0, .ref (fad Δ 11 0 0))] [] s (kn s)) (a1 : Int32) (st : fSt) : fW Δ Γ 4 Qv 0 [(0, .ref (fad Δ 11 0 0)), (1, .int a1)] [] st (f_X11_week_1 a1 kn st) := by
  unfold f_X11_week_1
  refine r_iload_n (q := 1) (i := 1) (z := 1) C dX11_week_0 rfl rfl rfl ?_
  refine r_iconst (q := 2) (v := 0) C dX11_week_1 rfl (by decide) ?_
  refine r_aload_n (q := 3) (i := 0) (z := 0) C dX11_week_2 rfl rfl rfl ?_
  refine g_X11_18 (q := 6) C (nk_11_0 hN) dX11_week_3 rfl ?_
  refine g_X11_170 (q := 9) C (nk_5_0 hN) dX11_week_6 rfl ?_
  refine r_sipush (q := 12) (v := 300) C dX11_week_9 rfl (by decide) ?_
  refine r_min (q := 15) wk_X11_193 mw_min.1 mw_min.2.1 mw_min.2.2 C (by decide) (Nat.le_of_ble_eq_true rfl) dX11_week_12 rfl ?_
  refine r_callSI (q := 18) (As := [.int a1, .int ((0 : Int32)), .int (if ((300 : Int32)) < (gI st 5 0 2) then ((300 : Int32)) else (gI st 5 0 2))]) wm_X11_127 ysX11_isIn (c_X11_isIn Δ hN a1 ((0 : Int32)) (if ((300 : Int32)) < (gI st 5 0 2) then ((300 : Int32)) else (gI st 5 0 2)) st) C (by decide) rfl (Nat.le_of_ble_eq_true rfl) dX11_week_15 rfl (fun x1 s2 => ?_)
  refine r_if_ne (q := 21) (tgt := 27) C dX11_week_18 (by decide) rfl ?_ ?_
  · refine r_aload_n (q := 28) (i := 0) (z := 0) C dX11_week_27 rfl rfl rfl ?_
    refine g_X11_18 (q := 31) C (nk_11_0 hN) dX11_week_28 rfl ?_
    refine r_iload_n (q := 32) (i := 1) (z := 1) C dX11_week_31 rfl rfl rfl ?_
    refine r_callVV (q := 35) (As := [.int a1]) wm_X11_177 yvX5_start (c_X5_start Δ hN a1 s2) ⟨rfl, by decide⟩ C (nk_5_0 hN) (by decide) rfl (Nat.le_of_ble_eq_true rfl) dX11_week_32 rfl (fun _ s3 => ?_)
    refine r_locs (lc' := [(0, .ref (fad Δ 11 0 0))]) [0] rfl ?_
    exact hkn s3
  · refine r_aload_n (q := 22) (i := 0) (z := 0) C dX11_week_21 rfl rfl rfl ?_
    refine r_iconst (q := 23) (v := 5) C dX11_week_22 rfl (by decide) ?_
    refine r_callVI (q := 26) (As := [.int ((5 : Int32))]) wm_X11_143 yvX11_fail (c_X11_fail Δ hN ((5 : Int32)) s2) ⟨rfl, by decide⟩ C (nk_11_0 hN) (by decide) rfl (Nat.le_of_ble_eq_true rfl) dX11_week_23 rfl (fun x4 s5 => ?_)
    exact hRet _ _ _ _ dX11_week_26
noncomputable def f_X11_week_2 (n0 : Nat) (st : fSt) : Option (Int32 × fSt) :=
  fNn (gP st 2 0 0) fun y1 =>
  fBd (f_X9_readFrom n0 y1 st) fun x2 s3 =>
  fLt x2 fun (x4 : Int32) =>
  fBd (f_X11_keepFault  s3) fun _ s5 =>
  if ¬ x4 = 0 then
    (fLt (sP s5 2 0 1 (n0 + 1)) fun s6 =>
    fBd (f_X11_answer (gI s6 9 n0 1) s6) fun x7 s8 =>
    some (x7, s8))
  else
    (fBd (f_X11_fail ((10 : Int32)) s5) fun x9 s10 =>
    some (x9, s10))

set_option maxHeartbeats 4000000 in
set_option maxRecDepth 100000 in
theorem t_X11_week_2 (Δ : fDl) (Γ : fGm) (hN : fNx Δ) (n0 : Nat) (h0 : n0 < fN Δ 9) (C : fC Δ Γ cX11_week RX11 4 (some .int) 8) (Qv : Int32 → fSt → State → Prop) (hRet : ∀ (pc : Nat) (lc : List (Nat × Value)) (x : Int32) (st : fSt), decode cX11_week pc = .ok (.ireturn, 1) → fW Δ Γ 4 Qv pc lc [.int x] st (some (x, st))) (st : fSt) : fW Δ Γ 4 Qv 42 [(0, .ref (fad Δ 11 0 0))] [.ref (fad Δ 9 n0 0)] st (f_X11_week_2 n0 st) := by
  unfold f_X11_week_2
  refine r_astore_n (q := 43) (i := 2) [(0, .ref (fad Δ 11 0 0))] C dX11_week_42 rfl rfl (by decide) rfl ?_
  refine r_aload_n (q := 44) (i := 2) (z := 0) C dX11_week_43 rfl rfl rfl ?_
  refine r_aload_n (q := 45) (i := 0) (z := 1) C dX11_week_44 rfl rfl rfl ?_
  refine g_X11_18 (q := 48) C (nk_11_0 hN) dX11_week_45 rfl ?_
  refine r_aload_n (q := 49) (i := 0) (z := 1) C dX11_week_48 rfl rfl rfl ?_
  refine g_X11_41 (q := 52) C (nk_11_0 hN) dX11_week_49 rfl ?_
  refine g_X11_92 (q := 55) C (nk_2_0 hN) dX11_week_52 rfl ?_
  refine r_deref C (fun h => (h _ (nk_2_0 hN)).1) (fun y1 hy1 => ?_)
  refine r_callVI (q := 58) (As := [.ref (fad Δ 5 0 0), .ref (fad Δ 7 y1 0)]) wm_X11_201 yvX9_readFrom (c_X9_readFrom Δ hN n0 y1 h0 hy1 st) ⟨rfl, by decide⟩ C h0 (by decide) rfl (Nat.le_of_ble_eq_true rfl) dX11_week_55 rfl (fun x2 s3 => ?_)
  refine r_istore_n (q := 59) (i := 3) [(2, .ref (fad Δ 9 n0 0)), (0, .ref (fad Δ 11 0 0))] C dX11_week_58 rfl rfl (by decide) rfl (fun x4 => ?_)
  refine r_aload_n (q := 60) (i := 0) (z := 2) C dX11_week_59 rfl rfl rfl ?_
  refine r_callVV (q := 63) (As := []) wm_X11_184 yvX11_keepFault (c_X11_keepFault Δ hN s3) ⟨rfl, by decide⟩ C (nk_11_0 hN) (by decide) rfl (Nat.le_of_ble_eq_true rfl) dX11_week_60 rfl (fun _ s5 => ?_)
  refine r_iload_n (q := 64) (i := 3) (z := 0) C dX11_week_63 rfl rfl rfl ?_
  refine r_if_ne (q := 67) (tgt := 74) C dX11_week_64 (by decide) rfl ?_ ?_
  · refine r_aload_n (q := 75) (i := 0) (z := 2) C dX11_week_74 rfl rfl rfl ?_
    refine g_X11_41 (q := 78) C (nk_11_0 hN) dX11_week_75 rfl ?_
    refine r_aload_n (q := 79) (i := 2) (z := 1) C dX11_week_78 rfl rfl rfl ?_
    refine p_X11_204 (q := 82) (x := (n0 + 1)) C (nk_2_0 hN) (fun _ => h0) dX11_week_79 rfl (fun s6 => ?_)
    refine r_aload_n (q := 83) (i := 0) (z := 2) C dX11_week_82 rfl rfl rfl ?_
    refine r_aload_n (q := 84) (i := 2) (z := 1) C dX11_week_83 rfl rfl rfl ?_
    refine g_X11_208 (q := 87) C h0 dX11_week_84 rfl ?_
    refine r_callVI (q := 90) (As := [.int (gI s6 9 n0 1)]) wm_X11_190 yvX11_answer (c_X11_answer Δ hN (gI s6 9 n0 1) s6) ⟨rfl, by decide⟩ C (nk_11_0 hN) (by decide) rfl (Nat.le_of_ble_eq_true rfl) dX11_week_87 rfl (fun x7 s8 => ?_)
    exact hRet _ _ _ _ dX11_week_90
  · refine r_aload_n (q := 68) (i := 0) (z := 2) C dX11_week_67 rfl rfl rfl ?_
    refine r_bipush (q := 70) (v := 10) C dX11_week_68 rfl (by decide) ?_
    refine r_callVI (q := 73) (As := [.int ((10 : Int32))]) wm_X11_143 yvX11_fail (c_X11_fail Δ hN ((10 : Int32)) s5) ⟨rfl, by decide⟩ C (nk_11_0 hN) (by decide) rfl (Nat.le_of_ble_eq_true rfl) dX11_week_70 rfl (fun x9 s10 => ?_)
    exact hRet _ _ _ _ dX11_week_73
