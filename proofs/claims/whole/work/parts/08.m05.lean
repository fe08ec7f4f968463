noncomputable def f_X12_isRole  (st : fSt) : Option (Int32 × fSt) :=
  fBd (f_X12_spelled ((114 : Int32)) ((111 : Int32)) ((108 : Int32)) ((101 : Int32)) ((0 : Int32)) ((0 : Int32)) st) fun x1 s2 =>
  fBd (f_X12_isWord x1 s2) fun x3 s4 =>
  fBo x3 (some (x3, s4))

set_option maxHeartbeats 4000000 in
set_option maxRecDepth 100000 in
theorem c_X12_isRole (Δ : fDl) (hN : fNm Δ)   (st : fSt) : fMt eI Δ yX12_isRole cX12_isRole 1 (some .boolean) 2 [.ref (fad Δ 12 0 0)] st (f_X12_isRole  st) := by
  unfold f_X12_isRole
  refine r_method (by decide +kernel) (Nat.le_of_ble_eq_true rfl) (fun Γ C => ?_)
  have C : fC Δ Γ cX12_isRole RX12 1 (some .boolean) 2 := C
  refine r_locs (lc' := [(0, .ref (fad Δ 12 0 0))]) [0] rfl ?_
  refine r_aload_n (q := 1) (i := 0) (z := 0) C dX12_isRole_0 rfl rfl rfl ?_
  refine r_bipush (q := 3) (v := 114) C dX12_isRole_1 rfl (by decide) ?_
  refine r_bipush (q := 5) (v := 111) C dX12_isRole_3 rfl (by decide) ?_
  refine r_bipush (q := 7) (v := 108) C dX12_isRole_5 rfl (by decide) ?_
  refine r_bipush (q := 9) (v := 101) C dX12_isRole_7 rfl (by decide) ?_
  refine r_iconst (q := 10) (v := 0) C dX12_isRole_9 rfl (by decide) ?_
  refine r_iconst (q := 11) (v := 0) C dX12_isRole_10 rfl (by decide) ?_
  refine r_callSL (q := 14) (As := [.int ((114 : Int32)), .int ((111 : Int32)), .int ((108 : Int32)), .int ((101 : Int32)), .int ((0 : Int32)), .int ((0 : Int32))]) wm_X12_170 ysX12_spelled (c_X12_spelled Δ hN ((114 : Int32)) ((111 : Int32)) ((108 : Int32)) ((101 : Int32)) ((0 : Int32)) ((0 : Int32)) st) C (by decide) rfl (Nat.le_of_ble_eq_true rfl) dX12_isRole_11 rfl (fun x1 s2 => ?_)
  refine r_callVI (q := 17) (As := [.long x1]) wm_X12_174 yvX12_isWord (c_X12_isWord Δ hN x1 s2) ⟨rfl, by decide⟩ C (nm_12 hN) (by decide) rfl (Nat.le_of_ble_eq_true rfl) dX12_isRole_14 rfl (fun x3 s4 => ?_)
  exact r_zret C dX12_isRole_17

noncomputable def f_X12_isPay  (st : fSt) : Option (Int32 × fSt) :=
  fBd (f_X12_spelled ((112 : Int32)) ((97 : Int32)) ((121 : Int32)) ((0 : Int32)) ((0 : Int32)) ((0 : Int32)) st) fun x1 s2 =>
  fBd (f_X12_isWord x1 s2) fun x3 s4 =>
  fBo x3 (some (x3, s4))

set_option maxHeartbeats 4000000 in
set_option maxRecDepth 100000 in
theorem c_X12_isPay (Δ : fDl) (hN : fNm Δ)   (st : fSt) : fMt eI Δ yX12_isPay cX12_isPay 1 (some .boolean) 2 [.ref (fad Δ 12 0 0)] st (f_X12_isPay  st) := by
  unfold f_X12_isPay
  refine r_method (by decide +kernel) (Nat.le_of_ble_eq_true rfl) (fun Γ C => ?_)
  have C : fC Δ Γ cX12_isPay RX12 1 (some .boolean) 2 := C
  refine r_locs (lc' := [(0, .ref (fad Δ 12 0 0))]) [0] rfl ?_
  refine r_aload_n (q := 1) (i := 0) (z := 0) C dX12_isPay_0 rfl rfl rfl ?_
  refine r_bipush (q := 3) (v := 112) C dX12_isPay_1 rfl (by decide) ?_
  refine r_bipush (q := 5) (v := 97) C dX12_isPay_3 rfl (by decide) ?_
  refine r_bipush (q := 7) (v := 121) C dX12_isPay_5 rfl (by decide) ?_
  refine r_iconst (q := 8) (v := 0) C dX12_isPay_7 rfl (by decide) ?_
  refine r_iconst (q := 9) (v := 0) C dX12_isPay_8 rfl (by decide) ?_
  refine r_iconst (q := 10) (v := 0) C dX12_isPay_9 rfl (by decide) ?_
  refine r_callSL (q := 13) (As := [.int ((112 : Int32)), .int ((97 : Int32)), .int ((121 : Int32)), .int ((0 : Int32)), .int ((0 : Int32)), .int ((0 : Int32))]) wm_X12_170 ysX12_spelled (c_X12_spelled Δ hN ((112 : Int32)) ((97 : Int32)) ((121 : Int32)) ((0 : Int32)) ((0 : Int32)) ((0 : Int32)) st) C (by decide) rfl (Nat.le_of_ble_eq_true rfl) dX12_isPay_10 rfl (fun x1 s2 => ?_)
  refine r_callVI (q := 16) (As := [.long x1]) wm_X12_174 yvX12_isWord (c_X12_isWord Δ hN x1 s2) ⟨rfl, by decide⟩ C (nm_12 hN) (by decide) rfl (Nat.le_of_ble_eq_true rfl) dX12_isPay_13 rfl (fun x3 s4 => ?_)
  exact r_zret C dX12_isPay_16

noncomputable def f_X12_isNot  (st : fSt) : Option (Int32 × fSt) :=
  fBd (f_X12_spelled ((110 : Int32)) ((111 : Int32)) ((116 : Int32)) ((0 : Int32)) ((0 : Int32)) ((0 : Int32)) st) fun x1 s2 =>
  fBd (f_X12_isWord x1 s2) fun x3 s4 =>
  fBo x3 (some (x3, s4))

set_option maxHeartbeats 4000000 in
set_option maxRecDepth 100000 in
theorem c_X12_isNot (Δ : fDl) (hN : fNm Δ)   (st : fSt) : fMt eI Δ yX12_isNot cX12_isNot 1 (some .boolean) 2 [.ref (fad Δ 12 0 0)] st (f_X12_isNot  st) := by
  unfold f_X12_isNot
  refine r_method (by decide +kernel) (Nat.le_of_ble_eq_true rfl) (fun Γ C => ?_)
  have C : fC Δ Γ cX12_isNot RX12 1 (some .boolean) 2 := C
  refine r_locs (lc' := [(0, .ref (fad Δ 12 0 0))]) [0] rfl ?_
  refine r_aload_n (q := 1) (i := 0) (z := 0) C dX12_isNot_0 rfl rfl rfl ?_
  refine r_bipush (q := 3) (v := 110) C dX12_isNot_1 rfl (by decide) ?_
  refine r_bipush (q := 5) (v := 111) C dX12_isNot_3 rfl (by decide) ?_
  refine r_bipush (q := 7) (v := 116) C dX12_isNot_5 rfl (by decide) ?_
  refine r_iconst (q := 8) (v := 0) C dX12_isNot_7 rfl (by decide) ?_
  refine r_iconst (q := 9) (v := 0) C dX12_isNot_8 rfl (by decide) ?_
  refine r_iconst (q := 10) (v := 0) C dX12_isNot_9 rfl (by decide) ?_
  refine r_callSL (q := 13) (As := [.int ((110 : Int32)), .int ((111 : Int32)), .int ((116 : Int32)), .int ((0 : Int32)), .int ((0 : Int32)), .int ((0 : Int32))]) wm_X12_170 ysX12_spelled (c_X12_spelled Δ hN ((110 : Int32)) ((111 : Int32)) ((116 : Int32)) ((0 : Int32)) ((0 : Int32)) ((0 : Int32)) st) C (by decide) rfl (Nat.le_of_ble_eq_true rfl) dX12_isNot_10 rfl (fun x1 s2 => ?_)
  refine r_callVI (q := 16) (As := [.long x1]) wm_X12_174 yvX12_isWord (c_X12_isWord Δ hN x1 s2) ⟨rfl, by decide⟩ C (nm_12 hN) (by decide) rfl (Nat.le_of_ble_eq_true rfl) dX12_isNot_13 rfl (fun x3 s4 => ?_)
  exact r_zret C dX12_isNot_16

noncomputable def f_X12_isScene  (st : fSt) : Option (Int32 × fSt) :=
  fBd (f_X12_spelled ((115 : Int32)) ((99 : Int32)) ((101 : Int32)) ((110 : Int32)) ((101 : Int32)) ((0 : Int32)) st) fun x1 s2 =>
  fBd (f_X12_isWord x1 s2) fun x3 s4 =>
  fBo x3 (some (x3, s4))

set_option maxHeartbeats 4000000 in
set_option maxRecDepth 100000 in
theorem c_X12_isScene (Δ : fDl) (hN : fNm Δ)   (st : fSt) : fMt eI Δ yX12_isScene cX12_isScene 1 (some .boolean) 2 [.ref (fad Δ 12 0 0)] st (f_X12_isScene  st) := by
  unfold f_X12_isScene
  refine r_method (by decide +kernel) (Nat.le_of_ble_eq_true rfl) (fun Γ C => ?_)
  have C : fC Δ Γ cX12_isScene RX12 1 (some .boolean) 2 := C
  refine r_locs (lc' := [(0, .ref (fad Δ 12 0 0))]) [0] rfl ?_
  refine r_aload_n (q := 1) (i := 0) (z := 0) C dX12_isScene_0 rfl rfl rfl ?_
  refine r_bipush (q := 3) (v := 115) C dX12_isScene_1 rfl (by decide) ?_
  refine r_bipush (q := 5) (v := 99) C dX12_isScene_3 rfl (by decide) ?_
  refine r_bipush (q := 7) (v := 101) C dX12_isScene_5 rfl (by decide) ?_
  refine r_bipush (q := 9) (v := 110) C dX12_isScene_7 rfl (by decide) ?_
  refine r_bipush (q := 11) (v := 101) C dX12_isScene_9 rfl (by decide) ?_
  refine r_iconst (q := 12) (v := 0) C dX12_isScene_11 rfl (by decide) ?_
  refine r_callSL (q := 15) (As := [.int ((115 : Int32)), .int ((99 : Int32)), .int ((101 : Int32)), .int ((110 : Int32)), .int ((101 : Int32)), .int ((0 : Int32))]) wm_X12_170 ysX12_spelled (c_X12_spelled Δ hN ((115 : Int32)) ((99 : Int32)) ((101 : Int32)) ((110 : Int32)) ((101 : Int32)) ((0 : Int32)) st) C (by decide) rfl (Nat.le_of_ble_eq_true rfl) dX12_isScene_12 rfl (fun x1 s2 => ?_)
  refine r_callVI (q := 18) (As := [.long x1]) wm_X12_174 yvX12_isWord (c_X12_isWord Δ hN x1 s2) ⟨rfl, by decide⟩ C (nm_12 hN) (by decide) rfl (Nat.le_of_ble_eq_true rfl) dX12_isScene_15 rfl (fun x3 s4 => ?_)
  exact r_zret C dX12_isScene_18

noncomputable def f_X12_isLines  (st : fSt) : Option (Int32 × fSt) :=
  fBd (f_X12_spelled ((108 : Int32)) ((105 : Int32)) ((110 : Int32)) ((101 : Int32)) ((115 : Int32)) ((0 : Int32)) st) fun x1 s2 =>
  fBd (f_X12_isWord x1 s2) fun x3 s4 =>
  fBo x3 (some (x3, s4))

set_option maxHeartbeats 4000000 in
set_option maxRecDepth 100000 in
theorem c_X12_isLines (Δ : fDl) (hN : fNm Δ)   (st : fSt) : fMt eI Δ yX12_isLines cX12_isLines 1 (some .boolean) 2 [.ref (fad Δ 12 0 0)] st (f_X12_isLines  st) := by
  unfold f_X12_isLines
  refine r_method (by decide +kernel) (Nat.le_of_ble_eq_true rfl) (fun Γ C => ?_)
  have C : fC Δ Γ cX12_isLines RX12 1 (some .boolean) 2 := C
  refine r_locs (lc' := [(0, .ref (fad Δ 12 0 0))]) [0] rfl ?_
  refine r_aload_n (q := 1) (i := 0) (z := 0) C dX12_isLines_0 rfl rfl rfl ?_
  refine r_bipush (q := 3) (v := 108) C dX12_isLines_1 rfl (by decide) ?_
  refine r_bipush (q := 5) (v := 105) C dX12_isLines_3 rfl (by decide) ?_
  refine r_bipush (q := 7) (v := 110) C dX12_isLines_5 rfl (by decide) ?_
  refine r_bipush (q := 9) (v := 101) C dX12_isLines_7 rfl (by decide) ?_
  refine r_bipush (q := 11) (v := 115) C dX12_isLines_9 rfl (by decide) ?_
  refine r_iconst (q := 12) (v := 0) C dX12_isLines_11 rfl (by decide) ?_
  refine r_callSL (q := 15) (As := [.int ((108 : Int32)), .int ((105 : Int32)), .int ((110 : Int32)), .int ((101 : Int32)), .int ((115 : Int32)), .int ((0 : Int32))]) wm_X12_170 ysX12_spelled (c_X12_spelled Δ hN ((108 : Int32)) ((105 : Int32)) ((110 : Int32)) ((101 : Int32)) ((115 : Int32)) ((0 : Int32)) st) C (by decide) rfl (Nat.le_of_ble_eq_true rfl) dX12_isLines_12 rfl (fun x1 s2 => ?_)
  refine r_callVI (q := 18) (As := [.long x1]) wm_X12_174 yvX12_isWord (c_X12_isWord Δ hN x1 s2) ⟨rfl, by decide⟩ C (nm_12 hN) (by decide) rfl (Nat.le_of_ble_eq_true rfl) dX12_isLines_15 rfl (fun x3 s4 => ?_)
  exact r_zret C dX12_isLines_18

noncomputable def f_X12_isWith  (st : fSt) : Option (Int32 × fSt) :=
  fBd (f_X12_spelled ((119 : Int32)) ((105 : Int32)) ((116 : Int32)) ((104 : Int32)) ((0 : Int32)) ((0 : Int32)) st) fun x1 s2 =>
  fBd (f_X12_isWord x1 s2) fun x3 s4 =>
  fBo x3 (some (x3, s4))

set_option maxHeartbeats 4000000 in
set_option maxRecDepth 100000 in
theorem c_X12_isWith (Δ : fDl) (hN : fNm Δ)   (st : fSt) : fMt eI Δ yX12_isWith cX12_isWith 1 (some .boolean) 2 [.ref (fad Δ 12 0 0)] st (f_X12_isWith  st) := by
  unfold f_X12_isWith
  refine r_method (by decide +kernel) (Nat.le_of_ble_eq_true rfl) (fun Γ C => ?_)
  have C : fC Δ Γ cX12_isWith RX12 1 (some .boolean) 2 := C
  refine r_locs (lc' := [(0, .ref (fad Δ 12 0 0))]) [0] rfl ?_
  refine r_aload_n (q := 1) (i := 0) (z := 0) C dX12_isWith_0 rfl rfl rfl ?_
  refine r_bipush (q := 3) (v := 119) C dX12_isWith_1 rfl (by decide) ?_
  refine r_bipush (q := 5) (v := 105) C dX12_isWith_3 rfl (by decide) ?_
  refine r_bipush (q := 7) (v := 116) C dX12_isWith_5 rfl (by decide) ?_
  refine r_bipush (q := 9) (v := 104) C dX12_isWith_7 rfl (by decide) ?_
  refine r_iconst (q := 10) (v := 0) C dX12_isWith_9 rfl (by decide) ?_
  refine r_iconst (q := 11) (v := 0) C dX12_isWith_10 rfl (by decide) ?_
  refine r_callSL (q := 14) (As := [.int ((119 : Int32)), .int ((105 : Int32)), .int ((116 : Int32)), .int ((104 : Int32)), .int ((0 : Int32)), .int ((0 : Int32))]) wm_X12_170 ysX12_spelled (c_X12_spelled Δ hN ((119 : Int32)) ((105 : Int32)) ((116 : Int32)) ((104 : Int32)) ((0 : Int32)) ((0 : Int32)) st) C (by decide) rfl (Nat.le_of_ble_eq_true rfl) dX12_isWith_11 rfl (fun x1 s2 => ?_)
  refine r_callVI (q := 17) (As := [.long x1]) wm_X12_174 yvX12_isWord (c_X12_isWord Δ hN x1 s2) ⟨rfl, by decide⟩ C (nm_12 hN) (by decide) rfl (Nat.le_of_ble_eq_true rfl) dX12_isWith_14 rfl (fun x3 s4 => ?_)
  exact r_zret C dX12_isWith_17

noncomputable def f_X12_isThen  (st : fSt) : Option (Int32 × fSt) :=
  fBd (f_X12_spelled ((116 : Int32)) ((104 : Int32)) ((101 : Int32)) ((110 : Int32)) ((0 : Int32)) ((0 : Int32)) st) fun x1 s2 =>
  fBd (f_X12_isWord x1 s2) fun x3 s4 =>
  fBo x3 (some (x3, s4))

set_option maxHeartbeats 4000000 in
set_option maxRecDepth 100000 in
theorem c_X12_isThen (Δ : fDl) (hN : fNm Δ)   (st : fSt) : fMt eI Δ yX12_isThen cX12_isThen 1 (some .boolean) 2 [.ref (fad Δ 12 0 0)] st (f_X12_isThen  st) := by
  unfold f_X12_isThen
  refine r_method (by decide +kernel) (Nat.le_of_ble_eq_true rfl) (fun Γ C => ?_)
  have C : fC Δ Γ cX12_isThen RX12 1 (some .boolean) 2 := C
  refine r_locs (lc' := [(0, .ref (fad Δ 12 0 0))]) [0] rfl ?_
  refine r_aload_n (q := 1) (i := 0) (z := 0) C dX12_isThen_0 rfl rfl rfl ?_
  refine r_bipush (q := 3) (v := 116) C dX12_isThen_1 rfl (by decide) ?_
  refine r_bipush (q := 5) (v := 104) C dX12_isThen_3 rfl (by decide) ?_
  refine r_bipush (q := 7) (v := 101) C dX12_isThen_5 rfl (by decide) ?_
  refine r_bipush (q := 9) (v := 110) C dX12_isThen_7 rfl (by decide) ?_
  refine r_iconst (q := 10) (v := 0) C dX12_isThen_9 rfl (by decide) ?_
  refine r_iconst (q := 11) (v := 0) C dX12_isThen_10 rfl (by decide) ?_
  refine r_callSL (q := 14) (As := [.int ((116 : Int32)), .int ((104 : Int32)), .int ((101 : Int32)), .int ((110 : Int32)), .int ((0 : Int32)), .int ((0 : Int32))]) wm_X12_170 ysX12_spelled (c_X12_spelled Δ hN ((116 : Int32)) ((104 : Int32)) ((101 : Int32)) ((110 : Int32)) ((0 : Int32)) ((0 : Int32)) st) C (by decide) rfl (Nat.le_of_ble_eq_true rfl) dX12_isThen_11 rfl (fun x1 s2 => ?_)
  refine r_callVI (q := 17) (As := [.long x1]) wm_X12_174 yvX12_isWord (c_X12_isWord Δ hN x1 s2) ⟨rfl, by decide⟩ C (nm_12 hN) (by decide) rfl (Nat.le_of_ble_eq_true rfl) dX12_isThen_14 rfl (fun x3 s4 => ?_)
  exact r_zret C dX12_isThen_17

noncomputable def f_X12_isTear  (st : fSt) : Option (Int32 × fSt) :=
  fBd (f_X12_spelled ((116 : Int32)) ((101 : Int32)) ((97 : Int32)) ((114 : Int32)) ((0 : Int32)) ((0 : Int32)) st) fun x1 s2 =>
  fBd (f_X12_isWord x1 s2) fun x3 s4 =>
  fBo x3 (some (x3, s4))

set_option maxHeartbeats 4000000 in
set_option maxRecDepth 100000 in
theorem c_X12_isTear (Δ : fDl) (hN : fNm Δ)   (st : fSt) : fMt eI Δ yX12_isTear cX12_isTear 1 (some .boolean) 2 [.ref (fad Δ 12 0 0)] st (f_X12_isTear  st) := by
  unfold f_X12_isTear
  refine r_method (by decide +kernel) (Nat.le_of_ble_eq_true rfl) (fun Γ C => ?_)
  have C : fC Δ Γ cX12_isTear RX12 1 (some .boolean) 2 := C
  refine r_locs (lc' := [(0, .ref (fad Δ 12 0 0))]) [0] rfl ?_
  refine r_aload_n (q := 1) (i := 0) (z := 0) C dX12_isTear_0 rfl rfl rfl ?_
  refine r_bipush (q := 3) (v := 116) C dX12_isTear_1 rfl (by decide) ?_
  refine r_bipush (q := 5) (v := 101) C dX12_isTear_3 rfl (by decide) ?_
  refine r_bipush (q := 7) (v := 97) C dX12_isTear_5 rfl (by decide) ?_
  refine r_bipush (q := 9) (v := 114) C dX12_isTear_7 rfl (by decide) ?_
  refine r_iconst (q := 10) (v := 0) C dX12_isTear_9 rfl (by decide) ?_
  refine r_iconst (q := 11) (v := 0) C dX12_isTear_10 rfl (by decide) ?_
  refine r_callSL (q := 14) (As := [.int ((116 : Int32)), .int ((101 : Int32)), .int ((97 : Int32)), .int ((114 : Int32)), .int ((0 : Int32)), .int ((0 : Int32))]) wm_X12_170 ysX12_spelled (c_X12_spelled Δ hN ((116 : Int32)) ((101 : Int32)) ((97 : Int32)) ((114 : Int32)) ((0 : Int32)) ((0 : Int32)) st) C (by decide) rfl (Nat.le_of_ble_eq_true rfl) dX12_isTear_11 rfl (fun x1 s2 => ?_)
  refine r_callVI (q := 17) (As := [.long x1]) wm_X12_174 yvX12_isWord (c_X12_isWord Δ hN x1 s2) ⟨rfl, by decide⟩ C (nm_12 hN) (by decide) rfl (Nat.le_of_ble_eq_true rfl) dX12_isTear_14 rfl (fun x3 s4 => ?_)
  exact r_zret C dX12_isTear_17

noncomputable def f_X12_isLaugh  (st : fSt) : Option (Int32 × fSt) :=
  fBd (f_X12_spelled ((108 : Int32)) ((97 : Int32)) ((117 : Int32)) ((103 : Int32)) ((104 : Int32)) ((0 : Int32)) st) fun x1 s2 =>
  fBd (f_X12_isWord x1 s2) fun x3 s4 =>
  fBo x3 (some (x3, s4))

set_option maxHeartbeats 4000000 in
set_option maxRecDepth 100000 in
theorem c_X12_isLaugh (Δ : fDl) (hN : fNm Δ)   (st : fSt) : fMt eI Δ yX12_isLaugh cX12_isLaugh 1 (some .boolean) 2 [.ref (fad Δ 12 0 0)] st (f_X12_isLaugh  st) := by
  unfold f_X12_isLaugh
  refine r_method (by decide +kernel) (Nat.le_of_ble_eq_true rfl) (fun Γ C => ?_)
  have C : fC Δ Γ cX12_isLaugh RX12 1 (some .boolean) 2 := C
  refine r_locs (lc' := [(0, .ref (fad Δ 12 0 0))]) [0] rfl ?_
  refine r_aload_n (q := 1) (i := 0) (z := 0) C dX12_isLaugh_0 rfl rfl rfl ?_
  refine r_bipush (q := 3) (v := 108) C dX12_isLaugh_1 rfl (by decide) ?_
  refine r_bipush (q := 5) (v := 97) C dX12_isLaugh_3 rfl (by decide) ?_
  refine r_bipush (q := 7) (v := 117) C dX12_isLaugh_5 rfl (by decide) ?_
  refine r_bipush (q := 9) (v := 103) C dX12_isLaugh_7 rfl (by decide) ?_
  refine r_bipush (q := 11) (v := 104) C dX12_isLaugh_9 rfl (by decide) ?_
  refine r_iconst (q := 12) (v := 0) C dX12_isLaugh_11 rfl (by decide) ?_
  refine r_callSL (q := 15) (As := [.int ((108 : Int32)), .int ((97 : Int32)), .int ((117 : Int32)), .int ((103 : Int32)), .int ((104 : Int32)), .int ((0 : Int32))]) wm_X12_170 ysX12_spelled (c_X12_spelled Δ hN ((108 : Int32)) ((97 : Int32)) ((117 : Int32)) ((103 : Int32)) ((104 : Int32)) ((0 : Int32)) st) C (by decide) rfl (Nat.le_of_ble_eq_true rfl) dX12_isLaugh_12 rfl (fun x1 s2 => ?_)
  refine r_callVI (q := 18) (As := [.long x1]) wm_X12_174 yvX12_isWord (c_X12_isWord Δ hN x1 s2) ⟨rfl, by decide⟩ C (nm_12 hN) (by decide) rfl (Nat.le_of_ble_eq_true rfl) dX12_isLaugh_15 rfl (fun x3 s4 => ?_)
  exact r_zret C dX12_isLaugh_18

noncomputable def f_X12_isSleep  (st : fSt) : Option (Int32 × fSt) :=
  fBd (f_X12_spelled ((115 : Int32)) ((108 : Int32)) ((101 : Int32)) ((101 : Int32)) ((112 : Int32)) ((0 : Int32)) st) fun x1 s2 =>
  fBd (f_X12_isWord x1 s2) fun x3 s4 =>
  fBo x3 (some (x3, s4))

set_option maxHeartbeats 4000000 in
set_option maxRecDepth 100000 in
theorem c_X12_isSleep (Δ : fDl) (hN : fNm Δ)   (st : fSt) : fMt eI Δ yX12_isSleep cX12_isSleep 1 (some .boolean) 2 [.ref (fad Δ 12 0 0)] st (f_X12_isSleep  st) := by
  unfold f_X12_isSleep
  refine r_method (by decide +kernel) (Nat.le_of_ble_eq_true rfl) (fun Γ C => ?_)
  have C : fC Δ Γ cX12_isSleep RX12 1 (some .boolean) 2 := C
  refine r_locs (lc' := [(0, .ref (fad Δ 12 0 0))]) [0] rfl ?_
  refine r_aload_n (q := 1) (i := 0) (z := 0) C dX12_isSleep_0 rfl rfl rfl ?_
  refine r_bipush (q := 3) (v := 115) C dX12_isSleep_1 rfl (by decide) ?_
  refine r_bipush (q := 5) (v := 108) C dX12_isSleep_3 rfl (by decide) ?_
  refine r_bipush (q := 7) (v := 101) C dX12_isSleep_5 rfl (by decide) ?_
  refine r_bipush (q := 9) (v := 101) C dX12_isSleep_7 rfl (by decide) ?_
  refine r_bipush (q := 11) (v := 112) C dX12_isSleep_9 rfl (by decide) ?_
  refine r_iconst (q := 12) (v := 0) C dX12_isSleep_11 rfl (by decide) ?_
  refine r_callSL (q := 15) (As := [.int ((115 : Int32)), .int ((108 : Int32)), .int ((101 : Int32)), .int ((101 : Int32)), .int ((112 : Int32)), .int ((0 : Int32))]) wm_X12_170 ysX12_spelled (c_X12_spelled Δ hN ((115 : Int32)) ((108 : Int32)) ((101 : Int32)) ((101 : Int32)) ((112 : Int32)) ((0 : Int32)) st) C (by decide) rfl (Nat.le_of_ble_eq_true rfl) dX12_isSleep_12 rfl (fun x1 s2 => ?_)
  refine r_callVI (q := 18) (As := [.long x1]) wm_X12_174 yvX12_isWord (c_X12_isWord Δ hN x1 s2) ⟨rfl, by decide⟩ C (nm_12 hN) (by decide) rfl (Nat.le_of_ble_eq_true rfl) dX12_isSleep_15 rfl (fun x3 s4 => ?_)
  exact r_zret C dX12_isSleep_18

noncomputable def f_X12_isKills  (st : fSt) : Option (Int32 × fSt) :=
  fBd (f_X12_spelled ((107 : Int32)) ((105 : Int32)) ((108 : Int32)) ((108 : Int32)) ((115 : Int32)) ((0 : Int32)) st) fun x1 s2 =>
  fBd (f_X12_isWord x1 s2) fun x3 s4 =>
  fBo x3 (some (x3, s4))

set_option maxHeartbeats 4000000 in
set_option maxRecDepth 100000 in
theorem c_X12_isKills (Δ : fDl) (hN : fNm Δ)   (st : fSt) : fMt eI Δ yX12_isKills cX12_isKills 1 (some .boolean) 2 [.ref (fad Δ 12 0 0)] st (f_X12_isKills  st) := by
  unfold f_X12_isKills
  refine r_method (by decide +kernel) (Nat.le_of_ble_eq_true rfl) (fun Γ C => ?_)
  have C : fC Δ Γ cX12_isKills RX12 1 (some .boolean) 2 := C
  refine r_locs (lc' := [(0, .ref (fad Δ 12 0 0))]) [0] rfl ?_
  refine r_aload_n (q := 1) (i := 0) (z := 0) C dX12_isKills_0 rfl rfl rfl ?_
  refine r_bipush (q := 3) (v := 107) C dX12_isKills_1 rfl (by decide) ?_
  refine r_bipush (q := 5) (v := 105) C dX12_isKills_3 rfl (by decide) ?_
  refine r_bipush (q := 7) (v := 108) C dX12_isKills_5 rfl (by decide) ?_
  refine r_bipush (q := 9) (v := 108) C dX12_isKills_7 rfl (by decide) ?_
  refine r_bipush (q := 11) (v := 115) C dX12_isKills_9 rfl (by decide) ?_
  refine r_iconst (q := 12) (v := 0) C dX12_isKills_11 rfl (by decide) ?_
  refine r_callSL (q := 15) (As := [.int ((107 : Int32)), .int ((105 : Int32)), .int ((108 : Int32)), .int ((108 : Int32)), .int ((115 : Int32)), .int ((0 : Int32))]) wm_X12_170 ysX12_spelled (c_X12_spelled Δ hN ((107 : Int32)) ((105 : Int32)) ((108 : Int32)) ((108 : Int32)) ((115 : Int32)) ((0 : Int32)) st) C (by decide) rfl (Nat.le_of_ble_eq_true rfl) dX12_isKills_12 rfl (fun x1 s2 => ?_)
  refine r_callVI (q := 18) (As := [.long x1]) wm_X12_174 yvX12_isWord (c_X12_isWord Δ hN x1 s2) ⟨rfl, by decide⟩ C (nm_12 hN) (by decide) rfl (Nat.le_of_ble_eq_true rfl) dX12_isKills_15 rfl (fun x3 s4 => ?_)
  exact r_zret C dX12_isKills_18

noncomputable def f_X12_isKind  (st : fSt) : Option (Int32 × fSt) :=
  fBd (f_X12_spelled ((107 : Int32)) ((105 : Int32)) ((110 : Int32)) ((100 : Int32)) ((0 : Int32)) ((0 : Int32)) st) fun x1 s2 =>
  fBd (f_X12_isWord x1 s2) fun x3 s4 =>
  fBo x3 (some (x3, s4))

set_option maxHeartbeats 4000000 in
set_option maxRecDepth 100000 in
theorem c_X12_isKind (Δ : fDl) (hN : fNm Δ)   (st : fSt) : fMt eI Δ yX12_isKind cX12_isKind 1 (some .boolean) 2 [.ref (fad Δ 12 0 0)] st (f_X12_isKind  st) := by
  unfold f_X12_isKind
  refine r_method (by decide +kernel) (Nat.le_of_ble_eq_true rfl) (fun Γ C => ?_)
  have C : fC Δ Γ cX12_isKind RX12 1 (some .boolean) 2 := C
  refine r_locs (lc' := [(0, .ref (fad Δ 12 0 0))]) [0] rfl ?_
  refine r_aload_n (q := 1) (i := 0) (z := 0) C dX12_isKind_0 rfl rfl rfl ?_
  refine r_bipush (q := 3) (v := 107) C dX12_isKind_1 rfl (by decide) ?_
  refine r_bipush (q := 5) (v := 105) C dX12_isKind_3 rfl (by decide) ?_
  refine r_bipush (q := 7) (v := 110) C dX12_isKind_5 rfl (by decide) ?_
  refine r_bipush (q := 9) (v := 100) C dX12_isKind_7 rfl (by decide) ?_
  refine r_iconst (q := 10) (v := 0) C dX12_isKind_9 rfl (by decide) ?_
  refine r_iconst (q := 11) (v := 0) C dX12_isKind_10 rfl (by decide) ?_
  refine r_callSL (q := 14) (As := [.int ((107 : Int32)), .int ((105 : Int32)), .int ((110 : Int32)), .int ((100 : Int32)), .int ((0 : Int32)), .int ((0 : Int32))]) wm_X12_170 ysX12_spelled (c_X12_spelled Δ hN ((107 : Int32)) ((105 : Int32)) ((110 : Int32)) ((100 : Int32)) ((0 : Int32)) ((0 : Int32)) st) C (by decide) rfl (Nat.le_of_ble_eq_true rfl) dX12_isKind_11 rfl (fun x1 s2 => ?_)
  refine r_callVI (q := 17) (As := [.long x1]) wm_X12_174 yvX12_isWord (c_X12_isWord Δ hN x1 s2) ⟨rfl, by decide⟩ C (nm_12 hN) (by decide) rfl (Nat.le_of_ble_eq_true rfl) dX12_isKind_14 rfl (fun x3 s4 => ?_)
  exact r_zret C dX12_isKind_17

noncomputable def f_X12_isLots  (st : fSt) : Option (Int32 × fSt) :=
  fBd (f_X12_spelled ((108 : Int32)) ((111 : Int32)) ((116 : Int32)) ((115 : Int32)) ((0 : Int32)) ((0 : Int32)) st) fun x1 s2 =>
  fBd (f_X12_isWord x1 s2) fun x3 s4 =>
  fBo x3 (some (x3, s4))

set_option maxHeartbeats 4000000 in
set_option maxRecDepth 100000 in
theorem c_X12_isLots (Δ : fDl) (hN : fNm Δ)   (st : fSt) : fMt eI Δ yX12_isLots cX12_isLots 1 (some .boolean) 2 [.ref (fad Δ 12 0 0)] st (f_X12_isLots  st) := by
  unfold f_X12_isLots
  refine r_method (by decide +kernel) (Nat.le_of_ble_eq_true rfl) (fun Γ C => ?_)
  have C : fC Δ Γ cX12_isLots RX12 1 (some .boolean) 2 := C
  refine r_locs (lc' := [(0, .ref (fad Δ 12 0 0))]) [0] rfl ?_
  refine r_aload_n (q := 1) (i := 0) (z := 0) C dX12_isLots_0 rfl rfl rfl ?_
  refine r_bipush (q := 3) (v := 108) C dX12_isLots_1 rfl (by decide) ?_
  refine r_bipush (q := 5) (v := 111) C dX12_isLots_3 rfl (by decide) ?_
  refine r_bipush (q := 7) (v := 116) C dX12_isLots_5 rfl (by decide) ?_
  refine r_bipush (q := 9) (v := 115) C dX12_isLots_7 rfl (by decide) ?_
  refine r_iconst (q := 10) (v := 0) C dX12_isLots_9 rfl (by decide) ?_
  refine r_iconst (q := 11) (v := 0) C dX12_isLots_10 rfl (by decide) ?_
  refine r_callSL (q := 14) (As := [.int ((108 : Int32)), .int ((111 : Int32)), .int ((116 : Int32)), .int ((115 : Int32)), .int ((0 : Int32)), .int ((0 : Int32))]) wm_X12_170 ysX12_spelled (c_X12_spelled Δ hN ((108 : Int32)) ((111 : Int32)) ((116 : Int32)) ((115 : Int32)) ((0 : Int32)) ((0 : Int32)) st) C (by decide) rfl (Nat.le_of_ble_eq_true rfl) dX12_isLots_11 rfl (fun x1 s2 => ?_)
  refine r_callVI (q := 17) (As := [.long x1]) wm_X12_174 yvX12_isWord (c_X12_isWord Δ hN x1 s2) ⟨rfl, by decide⟩ C (nm_12 hN) (by decide) rfl (Nat.le_of_ble_eq_true rfl) dX12_isLots_14 rfl (fun x3 s4 => ?_)
  exact r_zret C dX12_isLots_17

noncomputable def f_X12_isTears  (st : fSt) : Option (Int32 × fSt) :=
  fBd (f_X12_spelled ((116 : Int32)) ((101 : Int32)) ((97 : Int32)) ((114 : Int32)) ((115 : Int32)) ((0 : Int32)) st) fun x1 s2 =>
  fBd (f_X12_isWord x1 s2) fun x3 s4 =>
  fBo x3 (some (x3, s4))

set_option maxHeartbeats 4000000 in
set_option maxRecDepth 100000 in
theorem c_X12_isTears (Δ : fDl) (hN : fNm Δ)   (st : fSt) : fMt eI Δ yX12_isTears cX12_isTears 1 (some .boolean) 2 [.ref (fad Δ 12 0 0)] st (f_X12_isTears  st) := by
  unfold f_X12_isTears
  refine r_method (by decide +kernel) (Nat.le_of_ble_eq_true rfl) (fun Γ C => ?_)
  have C : fC Δ Γ cX12_isTears RX12 1 (some .boolean) 2 := C
  refine r_locs (lc' := [(0, .ref (fad Δ 12 0 0))]) [0] rfl ?_
  refine r_aload_n (q := 1) (i := 0) (z := 0) C dX12_isTears_0 rfl rfl rfl ?_
  refine r_bipush (q := 3) (v := 116) C dX12_isTears_1 rfl (by decide) ?_
  refine r_bipush (q := 5) (v := 101) C dX12_isTears_3 rfl (by decide) ?_
  refine r_bipush (q := 7) (v := 97) C dX12_isTears_5 rfl (by decide) ?_
  refine r_bipush (q := 9) (v := 114) C dX12_isTears_7 rfl (by decide) ?_
  refine r_bipush (q := 11) (v := 115) C dX12_isTears_9 rfl (by decide) ?_
  refine r_iconst (q := 12) (v := 0) C dX12_isTears_11 rfl (by decide) ?_
  refine r_callSL (q := 15) (As := [.int ((116 : Int32)), .int ((101 : Int32)), .int ((97 : Int32)), .int ((114 : Int32)), .int ((115 : Int32)), .int ((0 : Int32))]) wm_X12_170 ysX12_spelled (c_X12_spelled Δ hN ((116 : Int32)) ((101 : Int32)) ((97 : Int32)) ((114 : Int32)) ((115 : Int32)) ((0 : Int32)) st) C (by decide) rfl (Nat.le_of_ble_eq_true rfl) dX12_isTears_12 rfl (fun x1 s2 => ?_)
  refine r_callVI (q := 18) (As := [.long x1]) wm_X12_174 yvX12_isWord (c_X12_isWord Δ hN x1 s2) ⟨rfl, by decide⟩ C (nm_12 hN) (by decide) rfl (Nat.le_of_ble_eq_true rfl) dX12_isTears_15 rfl (fun x3 s4 => ?_)
  exact r_zret C dX12_isTears_18

noncomputable def f_X12_isLaughs  (st : fSt) : Option (Int32 × fSt) :=
  fBd (f_X12_spelled ((108 : Int32)) ((97 : Int32)) ((117 : Int32)) ((103 : Int32)) ((104 : Int32)) ((115 : Int32)) st) fun x1 s2 =>
  fBd (f_X12_isWord x1 s2) fun x3 s4 =>
  fBo x3 (some (x3, s4))

set_option maxHeartbeats 4000000 in
set_option maxRecDepth 100000 in
theorem c_X12_isLaughs (Δ : fDl) (hN : fNm Δ)   (st : fSt) : fMt eI Δ yX12_isLaughs cX12_isLaughs 1 (some .boolean) 2 [.ref (fad Δ 12 0 0)] st (f_X12_isLaughs  st) := by
  unfold f_X12_isLaughs
  refine r_method (by decide +kernel) (Nat.le_of_ble_eq_true rfl) (fun Γ C => ?_)
  have C : fC Δ Γ cX12_isLaughs RX12 1 (some .boolean) 2 := C
  refine r_locs (lc' := [(0, .ref (fad Δ 12 0 0))]) [0] rfl ?_
  refine r_aload_n (q := 1) (i := 0) (z := 0) C dX12_isLaughs_0 rfl rfl rfl ?_
  refine r_bipush (q := 3) (v := 108) C dX12_isLaughs_1 rfl (by decide) ?_
  refine r_bipush (q := 5) (v := 97) C dX12_isLaughs_3 rfl (by decide) ?_
  refine r_bipush (q := 7) (v := 117) C dX12_isLaughs_5 rfl (by decide) ?_
  refine r_bipush (q := 9) (v := 103) C dX12_isLaughs_7 rfl (by decide) ?_
  refine r_bipush (q := 11) (v := 104) C dX12_isLaughs_9 rfl (by decide) ?_
  refine r_bipush (q := 13) (v := 115) C dX12_isLaughs_11 rfl (by decide) ?_
  refine r_callSL (q := 16) (As := [.int ((108 : Int32)), .int ((97 : Int32)), .int ((117 : Int32)), .int ((103 : Int32)), .int ((104 : Int32)), .int ((115 : Int32))]) wm_X12_170 ysX12_spelled (c_X12_spelled Δ hN ((108 : Int32)) ((97 : Int32)) ((117 : Int32)) ((103 : Int32)) ((104 : Int32)) ((115 : Int32)) st) C (by decide) rfl (Nat.le_of_ble_eq_true rfl) dX12_isLaughs_13 rfl (fun x1 s2 => ?_)
  refine r_callVI (q := 19) (As := [.long x1]) wm_X12_174 yvX12_isWord (c_X12_isWord Δ hN x1 s2) ⟨rfl, by decide⟩ C (nm_12 hN) (by decide) rfl (Nat.le_of_ble_eq_true rfl) dX12_isLaughs_16 rfl (fun x3 s4 => ?_)
  exact r_zret C dX12_isLaughs_19

noncomputable def f_X12_isSleeps  (st : fSt) : Option (Int32 × fSt) :=
  fBd (f_X12_spelled ((115 : Int32)) ((108 : Int32)) ((101 : Int32)) ((101 : Int32)) ((112 : Int32)) ((115 : Int32)) st) fun x1 s2 =>
  fBd (f_X12_isWord x1 s2) fun x3 s4 =>
  fBo x3 (some (x3, s4))

set_option maxHeartbeats 4000000 in
set_option maxRecDepth 100000 in
theorem c_X12_isSleeps (Δ : fDl) (hN : fNm Δ)   (st : fSt) : fMt eI Δ yX12_isSleeps cX12_isSleeps 1 (some .boolean) 2 [.ref (fad Δ 12 0 0)] st (f_X12_isSleeps  st) := by
  unfold f_X12_isSleeps
  refine r_method (by decide +kernel) (Nat.le_of_ble_eq_true rfl) (fun Γ C => ?_)
  have C : fC Δ Γ cX12_isSleeps RX12 1 (some .boolean) 2 := C
  refine r_locs (lc' := [(0, .ref (fad Δ 12 0 0))]) [0] rfl ?_
  refine r_aload_n (q := 1) (i := 0) (z := 0) C dX12_isSleeps_0 rfl rfl rfl ?_
  refine r_bipush (q := 3) (v := 115) C dX12_isSleeps_1 rfl (by decide) ?_
  refine r_bipush (q := 5) (v := 108) C dX12_isSleeps_3 rfl (by decide) ?_
  refine r_bipush (q := 7) (v := 101) C dX12_isSleeps_5 rfl (by decide) ?_
  refine r_bipush (q := 9) (v := 101) C dX12_isSleeps_7 rfl (by decide) ?_
  refine r_bipush (q := 11) (v := 112) C dX12_isSleeps_9 rfl (by decide) ?_
  refine r_bipush (q := 13) (v := 115) C dX12_isSleeps_11 rfl (by decide) ?_
  refine r_callSL (q := 16) (As := [.int ((115 : Int32)), .int ((108 : Int32)), .int ((101 : Int32)), .int ((101 : Int32)), .int ((112 : Int32)), .int ((115 : Int32))]) wm_X12_170 ysX12_spelled (c_X12_spelled Δ hN ((115 : Int32)) ((108 : Int32)) ((101 : Int32)) ((101 : Int32)) ((112 : Int32)) ((115 : Int32)) st) C (by decide) rfl (Nat.le_of_ble_eq_true rfl) dX12_isSleeps_13 rfl (fun x1 s2 => ?_)
  refine r_callVI (q := 19) (As := [.long x1]) wm_X12_174 yvX12_isWord (c_X12_isWord Δ hN x1 s2) ⟨rfl, by decide⟩ C (nm_12 hN) (by decide) rfl (Nat.le_of_ble_eq_true rfl) dX12_isSleeps_16 rfl (fun x3 s4 => ?_)
  exact r_zret C dX12_isSleeps_19

noncomputable def f_X12_stepWord  (st : fSt) : Option (Int32 × fSt) :=
  fBd (f_X12_spelled ((112 : Int32)) ((108 : Int32)) ((97 : Int32)) ((121 : Int32)) ((0 : Int32)) ((0 : Int32)) st) fun x1 s2 =>
  fBd (f_X12_isWord x1 s2) fun x3 s4 =>
  if x3 = 0 then
    (fBd (f_X12_spelled ((98 : Int32)) ((97 : Int32)) ((114 : Int32)) ((0 : Int32)) ((0 : Int32)) ((0 : Int32)) s4) fun x5 s6 =>
    fBd (f_X12_isWord x5 s6) fun x7 s8 =>
    if x7 = 0 then
      (fBd (f_X12_spelled ((111 : Int32)) ((112 : Int32)) ((101 : Int32)) ((110 : Int32)) ((0 : Int32)) ((0 : Int32)) s8) fun x9 s10 =>
      fBd (f_X12_isWord x9 s10) fun x11 s12 =>
      if x11 = 0 then
        (fBd (f_X12_spelled ((98 : Int32)) ((117 : Int32)) ((121 : Int32)) ((0 : Int32)) ((0 : Int32)) ((0 : Int32)) s12) fun x13 s14 =>
        fBd (f_X12_isWord x13 s14) fun x15 s16 =>
        if x15 = 0 then
          (fBd (f_X12_spelled ((115 : Int32)) ((112 : Int32)) ((97 : Int32)) ((114 : Int32)) ((101 : Int32)) ((0 : Int32)) s16) fun x17 s18 =>
          fBd (f_X12_isWord x17 s18) fun x19 s20 =>
          if x19 = 0 then
            (fBd (f_X12_spelled ((119 : Int32)) ((104 : Int32)) ((101 : Int32)) ((110 : Int32)) ((0 : Int32)) ((0 : Int32)) s20) fun x21 s22 =>
            fBd (f_X12_isWord x21 s22) fun x23 s24 =>
            if x23 = 0 then
              (fBd (f_X12_spelled ((108 : Int32)) ((111 : Int32)) ((111 : Int32)) ((112 : Int32)) ((0 : Int32)) ((0 : Int32)) s24) fun x25 s26 =>
              fBd (f_X12_isWord x25 s26) fun x27 s28 =>
              if x27 = 0 then
                (fBd (f_X12_spelled ((115 : Int32)) ((116 : Int32)) ((111 : Int32)) ((112 : Int32)) ((0 : Int32)) ((0 : Int32)) s28) fun x29 s30 =>
                fBd (f_X12_isWord x29 s30) fun x31 s32 =>
                fJn (fun (x33 : Int32) (s34 : fSt) =>
                  (some (x33, s34))) fun (j35 : Int32 → fSt → Option (Int32 × fSt)) =>
                if x31 = 0 then
                  (j35 ((-1 : Int32)) s32)
                else
                  (j35 ((7 : Int32)) s32))
              else
                (some ((6 : Int32), s28)))
            else
              (some ((5 : Int32), s24)))
          else
            (some ((4 : Int32), s20)))
        else
          (some ((3 : Int32), s16)))
      else
        (some ((2 : Int32), s12)))
    else
      (some ((1 : Int32), s8)))
  else
    (some ((0 : Int32), s4))

set_option maxHeartbeats 4000000 in
set_option maxRecDepth 100000 in
theorem c_X12_stepWord (Δ : fDl) (hN : fNm Δ)   (st : fSt) : fMt eI Δ yX12_stepWord cX12_stepWord 1 (some .int) 2 [.ref (fad Δ 12 0 0)] st (f_X12_stepWord  st) := by
  unfold f_X12_stepWord
  refine r_method (by decide +kernel) (Nat.le_of_ble_eq_true rfl) (fun Γ C => ?_)
  have C : fC Δ Γ cX12_stepWord RX12 1 (some .int) 2 := C
  refine r_locs (lc' := [(0, .ref (fad Δ 12 0 0))]) [0] rfl ?_
  refine r_aload_n (q := 1) (i := 0) (z := 0) C dX12_stepWord_0 rfl rfl rfl ?_
  refine r_bipush (q := 3) (v := 112) C dX12_stepWord_1 rfl (by decide) ?_
  refine r_bipush (q := 5) (v := 108) C dX12_stepWord_3 rfl (by decide) ?_
  refine r_bipush (q := 7) (v := 97) C dX12_stepWord_5 rfl (by decide) ?_
  refine r_bipush (q := 9) (v := 121) C dX12_stepWord_7 rfl (by decide) ?_
  refine r_iconst (q := 10) (v := 0) C dX12_stepWord_9 rfl (by decide) ?_
  refine r_iconst (q := 11) (v := 0) C dX12_stepWord_10 rfl (by decide) ?_
  refine r_callSL (q := 14) (As := [.int ((112 : Int32)), .int ((108 : Int32)), .int ((97 : Int32)), .int ((121 : Int32)), .int ((0 : Int32)), .int ((0 : Int32))]) wm_X12_170 ysX12_spelled (c_X12_spelled Δ hN ((112 : Int32)) ((108 : Int32)) ((97 : Int32)) ((121 : Int32)) ((0 : Int32)) ((0 : Int32)) st) C (by decide) rfl (Nat.le_of_ble_eq_true rfl) dX12_stepWord_11 rfl (fun x1 s2 => ?_)
  refine r_callVI (q := 17) (As := [.long x1]) wm_X12_174 yvX12_isWord (c_X12_isWord Δ hN x1 s2) ⟨rfl, by decide⟩ C (nm_12 hN) (by decide) rfl (Nat.le_of_ble_eq_true rfl) dX12_stepWord_14 rfl (fun x3 s4 => ?_)
  refine r_if_eq (q := 20) (tgt := 22) C dX12_stepWord_17 (by decide) rfl ?_ ?_
  · refine r_aload_n (q := 23) (i := 0) (z := 0) C dX12_stepWord_22 rfl rfl rfl ?_
    refine r_bipush (q := 25) (v := 98) C dX12_stepWord_23 rfl (by decide) ?_
    refine r_bipush (q := 27) (v := 97) C dX12_stepWord_25 rfl (by decide) ?_
    refine r_bipush (q := 29) (v := 114) C dX12_stepWord_27 rfl (by decide) ?_
    refine r_iconst (q := 30) (v := 0) C dX12_stepWord_29 rfl (by decide) ?_
    refine r_iconst (q := 31) (v := 0) C dX12_stepWord_30 rfl (by decide) ?_
    refine r_iconst (q := 32) (v := 0) C dX12_stepWord_31 rfl (by decide) ?_
    refine r_callSL (q := 35) (As := [.int ((98 : Int32)), .int ((97 : Int32)), .int ((114 : Int32)), .int ((0 : Int32)), .int ((0 : Int32)), .int ((0 : Int32))]) wm_X12_170 ysX12_spelled (c_X12_spelled Δ hN ((98 : Int32)) ((97 : Int32)) ((114 : Int32)) ((0 : Int32)) ((0 : Int32)) ((0 : Int32)) s4) C (by decide) rfl (Nat.le_of_ble_eq_true rfl) dX12_stepWord_32 rfl (fun x5 s6 => ?_)
    refine r_callVI (q := 38) (As := [.long x5]) wm_X12_174 yvX12_isWord (c_X12_isWord Δ hN x5 s6) ⟨rfl, by decide⟩ C (nm_12 hN) (by decide) rfl (Nat.le_of_ble_eq_true rfl) dX12_stepWord_35 rfl (fun x7 s8 => ?_)
    refine r_if_eq (q := 41) (tgt := 43) C dX12_stepWord_38 (by decide) rfl ?_ ?_
    · refine r_aload_n (q := 44) (i := 0) (z := 0) C dX12_stepWord_43 rfl rfl rfl ?_
      refine r_bipush (q := 46) (v := 111) C dX12_stepWord_44 rfl (by decide) ?_
      refine r_bipush (q := 48) (v := 112) C dX12_stepWord_46 rfl (by decide) ?_
      refine r_bipush (q := 50) (v := 101) C dX12_stepWord_48 rfl (by decide) ?_
      refine r_bipush (q := 52) (v := 110) C dX12_stepWord_50 rfl (by decide) ?_
      refine r_iconst (q := 53) (v := 0) C dX12_stepWord_52 rfl (by decide) ?_
      refine r_iconst (q := 54) (v := 0) C dX12_stepWord_53 rfl (by decide) ?_
      refine r_callSL (q := 57) (As := [.int ((111 : Int32)), .int ((112 : Int32)), .int ((101 : Int32)), .int ((110 : Int32)), .int ((0 : Int32)), .int ((0 : Int32))]) wm_X12_170 ysX12_spelled (c_X12_spelled Δ hN ((111 : Int32)) ((112 : Int32)) ((101 : Int32)) ((110 : Int32)) ((0 : Int32)) ((0 : Int32)) s8) C (by decide) rfl (Nat.le_of_ble_eq_true rfl) dX12_stepWord_54 rfl (fun x9 s10 => ?_)
      refine r_callVI (q := 60) (As := [.long x9]) wm_X12_174 yvX12_isWord (c_X12_isWord Δ hN x9 s10) ⟨rfl, by decide⟩ C (nm_12 hN) (by decide) rfl (Nat.le_of_ble_eq_true rfl) dX12_stepWord_57 rfl (fun x11 s12 => ?_)
      refine r_if_eq (q := 63) (tgt := 65) C dX12_stepWord_60 (by decide) rfl ?_ ?_
      · refine r_aload_n (q := 66) (i := 0) (z := 0) C dX12_stepWord_65 rfl rfl rfl ?_
        refine r_bipush (q := 68) (v := 98) C dX12_stepWord_66 rfl (by decide) ?_
        refine r_bipush (q := 70) (v := 117) C dX12_stepWord_68 rfl (by decide) ?_
        refine r_bipush (q := 72) (v := 121) C dX12_stepWord_70 rfl (by decide) ?_
        refine r_iconst (q := 73) (v := 0) C dX12_stepWord_72 rfl (by decide) ?_
        refine r_iconst (q := 74) (v := 0) C dX12_stepWord_73 rfl (by decide) ?_
        refine r_iconst (q := 75) (v := 0) C dX12_stepWord_74 rfl (by decide) ?_
        refine r_callSL (q := 78) (As := [.int ((98 : Int32)), .int ((117 : Int32)), .int ((121 : Int32)), .int ((0 : Int32)), .int ((0 : Int32)), .int ((0 : Int32))]) wm_X12_170 ysX12_spelled (c_X12_spelled Δ hN ((98 : Int32)) ((117 : Int32)) ((121 : Int32)) ((0 : Int32)) ((0 : Int32)) ((0 : Int32)) s12) C (by decide) rfl (Nat.le_of_ble_eq_true rfl) dX12_stepWord_75 rfl (fun x13 s14 => ?_)
        refine r_callVI (q := 81) (As := [.long x13]) wm_X12_174 yvX12_isWord (c_X12_isWord Δ hN x13 s14) ⟨rfl, by decide⟩ C (nm_12 hN) (by decide) rfl (Nat.le_of_ble_eq_true rfl) dX12_stepWord_78 rfl (fun x15 s16 => ?_)
        refine r_if_eq (q := 84) (tgt := 86) C dX12_stepWord_81 (by decide) rfl ?_ ?_
        · refine r_aload_n (q := 87) (i := 0) (z := 0) C dX12_stepWord_86 rfl rfl rfl ?_
          refine r_bipush (q := 89) (v := 115) C dX12_stepWord_87 rfl (by decide) ?_
          refine r_bipush (q := 91) (v := 112) C dX12_stepWord_89 rfl (by decide) ?_
          refine r_bipush (q := 93) (v := 97) C dX12_stepWord_91 rfl (by decide) ?_
          refine r_bipush (q := 95) (v := 114) C dX12_stepWord_93 rfl (by decide) ?_
          refine r_bipush (q := 97) (v := 101) C dX12_stepWord_95 rfl (by decide) ?_
          refine r_iconst (q := 98) (v := 0) C dX12_stepWord_97 rfl (by decide) ?_
          refine r_callSL (q := 101) (As := [.int ((115 : Int32)), .int ((112 : Int32)), .int ((97 : Int32)), .int ((114 : Int32)), .int ((101 : Int32)), .int ((0 : Int32))]) wm_X12_170 ysX12_spelled (c_X12_spelled Δ hN ((115 : Int32)) ((112 : Int32)) ((97 : Int32)) ((114 : Int32)) ((101 : Int32)) ((0 : Int32)) s16) C (by decide) rfl (Nat.le_of_ble_eq_true rfl) dX12_stepWord_98 rfl (fun x17 s18 => ?_)
          refine r_callVI (q := 104) (As := [.long x17]) wm_X12_174 yvX12_isWord (c_X12_isWord Δ hN x17 s18) ⟨rfl, by decide⟩ C (nm_12 hN) (by decide) rfl (Nat.le_of_ble_eq_true rfl) dX12_stepWord_101 rfl (fun x19 s20 => ?_)
          refine r_if_eq (q := 107) (tgt := 109) C dX12_stepWord_104 (by decide) rfl ?_ ?_
          · refine r_aload_n (q := 110) (i := 0) (z := 0) C dX12_stepWord_109 rfl rfl rfl ?_
            refine r_bipush (q := 112) (v := 119) C dX12_stepWord_110 rfl (by decide) ?_
            refine r_bipush (q := 114) (v := 104) C dX12_stepWord_112 rfl (by decide) ?_
            refine r_bipush (q := 116) (v := 101) C dX12_stepWord_114 rfl (by decide) ?_
            refine r_bipush (q := 118) (v := 110) C dX12_stepWord_116 rfl (by decide) ?_
            refine r_iconst (q := 119) (v := 0) C dX12_stepWord_118 rfl (by decide) ?_
            refine r_iconst (q := 120) (v := 0) C dX12_stepWord_119 rfl (by decide) ?_
            refine r_callSL (q := 123) (As := [.int ((119 : Int32)), .int ((104 : Int32)), .int ((101 : Int32)), .int ((110 : Int32)), .int ((0 : Int32)), .int ((0 : Int32))]) wm_X12_170 ysX12_spelled (c_X12_spelled Δ hN ((119 : Int32)) ((104 : Int32)) ((101 : Int32)) ((110 : Int32)) ((0 : Int32)) ((0 : Int32)) s20) C (by decide) rfl (Nat.le_of_ble_eq_true rfl) dX12_stepWord_120 rfl (fun x21 s22 => ?_)
            refine r_callVI (q := 126) (As := [.long x21]) wm_X12_174 yvX12_isWord (c_X12_isWord Δ hN x21 s22) ⟨rfl, by decide⟩ C (nm_12 hN) (by decide) rfl (Nat.le_of_ble_eq_true rfl) dX12_stepWord_123 rfl (fun x23 s24 => ?_)
            refine r_if_eq (q := 129) (tgt := 131) C dX12_stepWord_126 (by decide) rfl ?_ ?_
            · refine r_aload_n (q := 132) (i := 0) (z := 0) C dX12_stepWord_131 rfl rfl rfl ?_
              refine r_bipush (q := 134) (v := 108) C dX12_stepWord_132 rfl (by decide) ?_
              refine r_bipush (q := 136) (v := 111) C dX12_stepWord_134 rfl (by decide) ?_
              refine r_bipush (q := 138) (v := 111) C dX12_stepWord_136 rfl (by decide) ?_
              refine r_bipush (q := 140) (v := 112) C dX12_stepWord_138 rfl (by decide) ?_
              refine r_iconst (q := 141) (v := 0) C dX12_stepWord_140 rfl (by decide) ?_
              refine r_iconst (q := 142) (v := 0) C dX12_stepWord_141 rfl (by decide) ?_
              refine r_callSL (q := 145) (As := [.int ((108 : Int32)), .int ((111 : Int32)), .int ((111 : Int32)), .int ((112 : Int32)), .int ((0 : Int32)), .int ((0 : Int32))]) wm_X12_170 ysX12_spelled (c_X12_spelled Δ hN ((108 : Int32)) ((111 : Int32)) ((111 : Int32)) ((112 : Int32)) ((0 : Int32)) ((0 : Int32)) s24) C (by decide) rfl (Nat.le_of_ble_eq_true rfl) dX12_stepWord_142 rfl (fun x25 s26 => ?_)
              refine r_callVI (q := 148) (As := [.long x25]) wm_X12_174 yvX12_isWord (c_X12_isWord Δ hN x25 s26) ⟨rfl, by decide⟩ C (nm_12 hN) (by decide) rfl (Nat.le_of_ble_eq_true rfl) dX12_stepWord_145 rfl (fun x27 s28 => ?_)
              refine r_if_eq (q := 151) (tgt := 154) C dX12_stepWord_148 (by decide) rfl ?_ ?_
              · refine r_aload_n (q := 155) (i := 0) (z := 0) C dX12_stepWord_154 rfl rfl rfl ?_
                refine r_bipush (q := 157) (v := 115) C dX12_stepWord_155 rfl (by decide) ?_
                refine r_bipush (q := 159) (v := 116) C dX12_stepWord_157 rfl (by decide) ?_
                refine r_bipush (q := 161) (v := 111) C dX12_stepWord_159 rfl (by decide) ?_
                refine r_bipush (q := 163) (v := 112) C dX12_stepWord_161 rfl (by decide) ?_
                refine r_iconst (q := 164) (v := 0) C dX12_stepWord_163 rfl (by decide) ?_
                refine r_iconst (q := 165) (v := 0) C dX12_stepWord_164 rfl (by decide) ?_
                refine r_callSL (q := 168) (As := [.int ((115 : Int32)), .int ((116 : Int32)), .int ((111 : Int32)), .int ((112 : Int32)), .int ((0 : Int32)), .int ((0 : Int32))]) wm_X12_170 ysX12_spelled (c_X12_spelled Δ hN ((115 : Int32)) ((116 : Int32)) ((111 : Int32)) ((112 : Int32)) ((0 : Int32)) ((0 : Int32)) s28) C (by decide) rfl (Nat.le_of_ble_eq_true rfl) dX12_stepWord_165 rfl (fun x29 s30 => ?_)
                refine r_callVI (q := 171) (As := [.long x29]) wm_X12_174 yvX12_isWord (c_X12_isWord Δ hN x29 s30) ⟨rfl, by decide⟩ C (nm_12 hN) (by decide) rfl (Nat.le_of_ble_eq_true rfl) dX12_stepWord_168 rfl (fun x31 s32 => ?_)
                refine r_join (fun j35 => ∀ (x33 : Int32) (s34 : fSt), fW Δ Γ 1 (fQ eI Δ Γ) 180 [] [.int x33] s34 (j35 x33 s34)) ?_ (fun j35 hj35 => ?_)
                · intro x33 s34
                  exact r_iret C dX12_stepWord_180
                refine r_if_eq (q := 174) (tgt := 179) C dX12_stepWord_171 (by decide) rfl ?_ ?_
                · refine r_iconst (q := 180) (v := (-1)) C dX12_stepWord_179 rfl (by decide) ?_
                  refine r_locs (lc' := []) [] rfl ?_
                  exact hj35 ((-1 : Int32)) s32
                · refine r_bipush (q := 176) (v := 7) C dX12_stepWord_174 rfl (by decide) ?_
                  refine r_goto (q := 180) C dX12_stepWord_176 (by decide) ?_
                  refine r_locs (lc' := []) [] rfl ?_
                  exact hj35 ((7 : Int32)) s32
              · refine r_bipush (q := 153) (v := 6) C dX12_stepWord_151 rfl (by decide) ?_
                exact r_iret C dX12_stepWord_153
            · refine r_iconst (q := 130) (v := 5) C dX12_stepWord_129 rfl (by decide) ?_
              exact r_iret C dX12_stepWord_130
          · refine r_iconst (q := 108) (v := 4) C dX12_stepWord_107 rfl (by decide) ?_
            exact r_iret C dX12_stepWord_108
        · refine r_iconst (q := 85) (v := 3) C dX12_stepWord_84 rfl (by decide) ?_
          exact r_iret C dX12_stepWord_85
      · refine r_iconst (q := 64) (v := 2) C dX12_stepWord_63 rfl (by decide) ?_
        exact r_iret C dX12_stepWord_64
    · refine r_iconst (q := 42) (v := 1) C dX12_stepWord_41 rfl (by decide) ?_
      exact r_iret C dX12_stepWord_42
  · refine r_iconst (q := 21) (v := 0) C dX12_stepWord_20 rfl (by decide) ?_
    exact r_iret C dX12_stepWord_21

noncomputable def f_X12_testWord  (st : fSt) : Option (Int32 × fSt) :=
  fBd (f_X12_spelled ((115 : Int32)) ((101 : Int32)) ((101 : Int32)) ((110 : Int32)) ((0 : Int32)) ((0 : Int32)) st) fun x1 s2 =>
  fBd (f_X12_isWord x1 s2) fun x3 s4 =>
  if x3 = 0 then
    (fBd (f_X12_spelled ((100 : Int32)) ((101 : Int32)) ((97 : Int32)) ((100 : Int32)) ((0 : Int32)) ((0 : Int32)) s4) fun x5 s6 =>
    fBd (f_X12_isWord x5 s6) fun x7 s8 =>
    if x7 = 0 then
      (fBd (f_X12_spelled ((101 : Int32)) ((110 : Int32)) ((100 : Int32)) ((101 : Int32)) ((100 : Int32)) ((0 : Int32)) s8) fun x9 s10 =>
      fBd (f_X12_isWord x9 s10) fun x11 s12 =>
      if x11 = 0 then
        (fBd (f_X12_spelled ((110 : Int32)) ((105 : Int32)) ((103 : Int32)) ((104 : Int32)) ((116 : Int32)) ((115 : Int32)) s12) fun x13 s14 =>
        fBd (f_X12_isWord x13 s14) fun x15 s16 =>
        fJn (fun (x17 : Int32) (s18 : fSt) =>
          (some (x17, s18))) fun (j19 : Int32 → fSt → Option (Int32 × fSt)) =>
        if x15 = 0 then
          (j19 ((-1 : Int32)) s16)
        else
          (j19 ((3 : Int32)) s16))
      else
        (some ((2 : Int32), s12)))
    else
      (some ((1 : Int32), s8)))
  else
    (some ((0 : Int32), s4))

set_option maxHeartbeats 4000000 in
set_option maxRecDepth 100000 in
theorem c_X12_testWord (Δ : fDl) (hN : fNm Δ)   (st : fSt) : fMt eI Δ yX12_testWord cX12_testWord 1 (some .int) 2 [.ref (fad Δ 12 0 0)] st (f_X12_testWord  st) := by
  unfold f_X12_testWord
  refine r_method (by decide +kernel) (Nat.le_of_ble_eq_true rfl) (fun Γ C => ?_)
  have C : fC Δ Γ cX12_testWord RX12 1 (some .int) 2 := C
  refine r_locs (lc' := [(0, .ref (fad Δ 12 0 0))]) [0] rfl ?_
  refine r_aload_n (q := 1) (i := 0) (z := 0) C dX12_testWord_0 rfl rfl rfl ?_
  refine r_bipush (q := 3) (v := 115) C dX12_testWord_1 rfl (by decide) ?_
  refine r_bipush (q := 5) (v := 101) C dX12_testWord_3 rfl (by decide) ?_
  refine r_bipush (q := 7) (v := 101) C dX12_testWord_5 rfl (by decide) ?_
  refine r_bipush (q := 9) (v := 110) C dX12_testWord_7 rfl (by decide) ?_
  refine r_iconst (q := 10) (v := 0) C dX12_testWord_9 rfl (by decide) ?_
  refine r_iconst (q := 11) (v := 0) C dX12_testWord_10 rfl (by decide) ?_
  refine r_callSL (q := 14) (As := [.int ((115 : Int32)), .int ((101 : Int32)), .int ((101 : Int32)), .int ((110 : Int32)), .int ((0 : Int32)), .int ((0 : Int32))]) wm_X12_170 ysX12_spelled (c_X12_spelled Δ hN ((115 : Int32)) ((101 : Int32)) ((101 : Int32)) ((110 : Int32)) ((0 : Int32)) ((0 : Int32)) st) C (by decide) rfl (Nat.le_of_ble_eq_true rfl) dX12_testWord_11 rfl (fun x1 s2 => ?_)
  refine r_callVI (q := 17) (As := [.long x1]) wm_X12_174 yvX12_isWord (c_X12_isWord Δ hN x1 s2) ⟨rfl, by decide⟩ C (nm_12 hN) (by decide) rfl (Nat.le_of_ble_eq_true rfl) dX12_testWord_14 rfl (fun x3 s4 => ?_)
  refine r_if_eq (q := 20) (tgt := 22) C dX12_testWord_17 (by decide) rfl ?_ ?_
  · refine r_aload_n (q := 23) (i := 0) (z := 0) C dX12_testWord_22 rfl rfl rfl ?_
    refine r_bipush (q := 25) (v := 100) C dX12_testWord_23 rfl (by decide) ?_
    refine r_bipush (q := 27) (v := 101) C dX12_testWord_25 rfl (by decide) ?_
    refine r_bipush (q := 29) (v := 97) C dX12_testWord_27 rfl (by decide) ?_
    refine r_bipush (q := 31) (v := 100) C dX12_testWord_29 rfl (by decide) ?_
    refine r_iconst (q := 32) (v := 0) C dX12_testWord_31 rfl (by decide) ?_
    refine r_iconst (q := 33) (v := 0) C dX12_testWord_32 rfl (by decide) ?_
    refine r_callSL (q := 36) (As := [.int ((100 : Int32)), .int ((101 : Int32)), .int ((97 : Int32)), .int ((100 : Int32)), .int ((0 : Int32)), .int ((0 : Int32))]) wm_X12_170 ysX12_spelled (c_X12_spelled Δ hN ((100 : Int32)) ((101 : Int32)) ((97 : Int32)) ((100 : Int32)) ((0 : Int32)) ((0 : Int32)) s4) C (by decide) rfl (Nat.le_of_ble_eq_true rfl) dX12_testWord_33 rfl (fun x5 s6 => ?_)
    refine r_callVI (q := 39) (As := [.long x5]) wm_X12_174 yvX12_isWord (c_X12_isWord Δ hN x5 s6) ⟨rfl, by decide⟩ C (nm_12 hN) (by decide) rfl (Nat.le_of_ble_eq_true rfl) dX12_testWord_36 rfl (fun x7 s8 => ?_)
    refine r_if_eq (q := 42) (tgt := 44) C dX12_testWord_39 (by decide) rfl ?_ ?_
    · refine r_aload_n (q := 45) (i := 0) (z := 0) C dX12_testWord_44 rfl rfl rfl ?_
      refine r_bipush (q := 47) (v := 101) C dX12_testWord_45 rfl (by decide) ?_
      refine r_bipush (q := 49) (v := 110) C dX12_testWord_47 rfl (by decide) ?_
      refine r_bipush (q := 51) (v := 100) C dX12_testWord_49 rfl (by decide) ?_
      refine r_bipush (q := 53) (v := 101) C dX12_testWord_51 rfl (by decide) ?_
      refine r_bipush (q := 55) (v := 100) C dX12_testWord_53 rfl (by decide) ?_
      refine r_iconst (q := 56) (v := 0) C dX12_testWord_55 rfl (by decide) ?_
      refine r_callSL (q := 59) (As := [.int ((101 : Int32)), .int ((110 : Int32)), .int ((100 : Int32)), .int ((101 : Int32)), .int ((100 : Int32)), .int ((0 : Int32))]) wm_X12_170 ysX12_spelled (c_X12_spelled Δ hN ((101 : Int32)) ((110 : Int32)) ((100 : Int32)) ((101 : Int32)) ((100 : Int32)) ((0 : Int32)) s8) C (by decide) rfl (Nat.le_of_ble_eq_true rfl) dX12_testWord_56 rfl (fun x9 s10 => ?_)
      refine r_callVI (q := 62) (As := [.long x9]) wm_X12_174 yvX12_isWord (c_X12_isWord Δ hN x9 s10) ⟨rfl, by decide⟩ C (nm_12 hN) (by decide) rfl (Nat.le_of_ble_eq_true rfl) dX12_testWord_59 rfl (fun x11 s12 => ?_)
      refine r_if_eq (q := 65) (tgt := 67) C dX12_testWord_62 (by decide) rfl ?_ ?_
      · refine r_aload_n (q := 68) (i := 0) (z := 0) C dX12_testWord_67 rfl rfl rfl ?_
        refine r_bipush (q := 70) (v := 110) C dX12_testWord_68 rfl (by decide) ?_
        refine r_bipush (q := 72) (v := 105) C dX12_testWord_70 rfl (by decide) ?_
        refine r_bipush (q := 74) (v := 103) C dX12_testWord_72 rfl (by decide) ?_
        refine r_bipush (q := 76) (v := 104) C dX12_testWord_74 rfl (by decide) ?_
        refine r_bipush (q := 78) (v := 116) C dX12_testWord_76 rfl (by decide) ?_
        refine r_bipush (q := 80) (v := 115) C dX12_testWord_78 rfl (by decide) ?_
        refine r_callSL (q := 83) (As := [.int ((110 : Int32)), .int ((105 : Int32)), .int ((103 : Int32)), .int ((104 : Int32)), .int ((116 : Int32)), .int ((115 : Int32))]) wm_X12_170 ysX12_spelled (c_X12_spelled Δ hN ((110 : Int32)) ((105 : Int32)) ((103 : Int32)) ((104 : Int32)) ((116 : Int32)) ((115 : Int32)) s12) C (by decide) rfl (Nat.le_of_ble_eq_true rfl) dX12_testWord_80 rfl (fun x13 s14 => ?_)
        refine r_callVI (q := 86) (As := [.long x13]) wm_X12_174 yvX12_isWord (c_X12_isWord Δ hN x13 s14) ⟨rfl, by decide⟩ C (nm_12 hN) (by decide) rfl (Nat.le_of_ble_eq_true rfl) dX12_testWord_83 rfl (fun x15 s16 => ?_)
        refine r_join (fun j19 => ∀ (x17 : Int32) (s18 : fSt), fW Δ Γ 1 (fQ eI Δ Γ) 94 [] [.int x17] s18 (j19 x17 s18)) ?_ (fun j19 hj19 => ?_)
        · intro x17 s18
          exact r_iret C dX12_testWord_94
        refine r_if_eq (q := 89) (tgt := 93) C dX12_testWord_86 (by decide) rfl ?_ ?_
        · refine r_iconst (q := 94) (v := (-1)) C dX12_testWord_93 rfl (by decide) ?_
          refine r_locs (lc' := []) [] rfl ?_
          exact hj19 ((-1 : Int32)) s16
        · refine r_iconst (q := 90) (v := 3) C dX12_testWord_89 rfl (by decide) ?_
          refine r_goto (q := 94) C dX12_testWord_90 (by decide) ?_
          refine r_locs (lc' := []) [] rfl ?_
          exact hj19 ((3 : Int32)) s16
      · refine r_iconst (q := 66) (v := 2) C dX12_testWord_65 rfl (by decide) ?_
        exact r_iret C dX12_testWord_66
    · refine r_iconst (q := 43) (v := 1) C dX12_testWord_42 rfl (by decide) ?_
      exact r_iret C dX12_testWord_43
  · refine r_iconst (q := 21) (v := 0) C dX12_testWord_20 rfl (by decide) ?_
    exact r_iret C dX12_testWord_21

noncomputable def f_X12_isKept  (st : fSt) : Option (Int32 × fSt) :=
  fBd (f_X12_isRole  st) fun x1 s2 =>
  fJn (fun (s3 : fSt) =>
    (some ((1 : Int32), s3))) fun (j4 : fSt → Option (Int32 × fSt)) =>
  if ¬ x1 = 0 then
    (j4 s2)
  else
    (fBd (f_X12_isActor  s2) fun x5 s6 =>
    if ¬ x5 = 0 then
      (j4 s6)
    else
      (fBd (f_X12_isPay  s6) fun x7 s8 =>
      if ¬ x7 = 0 then
        (j4 s8)
      else
        (fBd (f_X12_isBreath  s8) fun x9 s10 =>
        if ¬ x9 = 0 then
          (j4 s10)
        else
          (fBd (f_X12_isNot  s10) fun x11 s12 =>
          if ¬ x11 = 0 then
            (j4 s12)
          else
            (fBd (f_X12_isScene  s12) fun x13 s14 =>
            if ¬ x13 = 0 then
              (j4 s14)
            else
              (fBd (f_X12_isLines  s14) fun x15 s16 =>
              if ¬ x15 = 0 then
                (j4 s16)
              else
                (fBd (f_X12_isWith  s16) fun x17 s18 =>
                if ¬ x17 = 0 then
                  (j4 s18)
                else
                  (fBd (f_X12_isEnds  s18) fun x19 s20 =>
                  if ¬ x19 = 0 then
                    (j4 s20)
                  else
                    (fBd (f_X12_isThen  s20) fun x21 s22 =>
                    if ¬ x21 = 0 then
                      (j4 s22)
                    else
                      (fBd (f_X12_isTear  s22) fun x23 s24 =>
                      if ¬ x23 = 0 then
                        (j4 s24)
                      else
                        (fBd (f_X12_isLaugh  s24) fun x25 s26 =>
                        if ¬ x25 = 0 then
                          (j4 s26)
                        else
                          (fBd (f_X12_isSleep  s26) fun x27 s28 =>
                          if x27 = 0 then
                            (fBd (f_X12_isKills  s28) fun x29 s30 =>
                            fJn (fun (x31 : Int32) (s32 : fSt) =>
                              (fBo x31 (some (x31, s32)))) fun (j33 : Int32 → fSt → Option (Int32 × fSt)) =>
                            fJn (fun (s34 : fSt) =>
                              (j33 ((1 : Int32)) s34)) fun (j35 : fSt → Option (Int32 × fSt)) =>
                            if ¬ x29 = 0 then
                              (j35 s30)
                            else
                              (fBd (f_X12_isKind  s30) fun x36 s37 =>
                              if ¬ x36 = 0 then
                                (j35 s37)
                              else
                                (fBd (f_X12_isLots  s37) fun x38 s39 =>
                                if ¬ x38 = 0 then
                                  (j35 s39)
                                else
                                  (fBd (f_X12_isTears  s39) fun x40 s41 =>
                                  if ¬ x40 = 0 then
                                    (j35 s41)
                                  else
                                    (fBd (f_X12_isLaughs  s41) fun x42 s43 =>
                                    if ¬ x42 = 0 then
                                      (j35 s43)
                                    else
                                      (fBd (f_X12_isSleeps  s43) fun x44 s45 =>
                                      if ¬ x44 = 0 then
                                        (j35 s45)
                                      else
                                        (fBd (f_X12_stepWord  s45) fun x46 s47 =>
                                        if 0 ≤ x46 then
                                          (j35 s47)
                                        else
                                          (fBd (f_X12_testWord  s47) fun x48 s49 =>
                                          if 0 ≤ x48 then
                                            (j35 s49)
                                          else
                                            (fBd (f_X12_isEnd  s49) fun x50 s51 =>
                                            if x50 = 0 then
                                              (j33 ((0 : Int32)) s51)
                                            else
                                              (j35 s51))))))))))
                          else
                            (j4 s28)))))))))))))

set_option maxHeartbeats 4000000 in
set_option maxRecDepth 100000 in
theorem c_X12_isKept (Δ : fDl) (hN : fNm Δ)   (st : fSt) : fMt eI Δ yX12_isKept cX12_isKept 1 (some .boolean) 3 [.ref (fad Δ 12 0 0)] st (f_X12_isKept  st) := by
  unfold f_X12_isKept
  refine r_method (by decide +kernel) (Nat.le_of_ble_eq_true rfl) (fun Γ C => ?_)
  have C : fC Δ Γ cX12_isKept RX12 1 (some .boolean) 3 := C
  refine r_locs (lc' := [(0, .ref (fad Δ 12 0 0))]) [0] rfl ?_
  refine r_aload_n (q := 1) (i := 0) (z := 0) C dX12_isKept_0 rfl rfl rfl ?_
  refine r_callVI (q := 4) (As := []) wm_X12_178 yvX12_isRole (c_X12_isRole Δ hN st) ⟨rfl, by decide⟩ C (nm_12 hN) (by decide) rfl (Nat.le_of_ble_eq_true rfl) dX12_isKept_1 rfl (fun x1 s2 => ?_)
  refine r_join (fun j4 => ∀  (s3 : fSt), fW Δ Γ 1 (fQ eI Δ Γ) 91 [] [] s3 (j4 s3)) ?_ (fun j4 hj4 => ?_)
  · intro s3
    refine r_iconst (q := 92) (v := 1) C dX12_isKept_91 rfl (by decide) ?_
    exact r_zret0 (Or.inr rfl) C dX12_isKept_92
  refine r_if_ne (q := 7) (tgt := 91) C dX12_isKept_4 (by decide) rfl ?_ ?_
  · refine r_locs (lc' := []) [] rfl ?_
    exact hj4 s2
  · refine r_aload_n (q := 8) (i := 0) (z := 0) C dX12_isKept_7 rfl rfl rfl ?_
    refine r_callVI (q := 11) (As := []) wm_X12_182 yvX12_isActor (c_X12_isActor Δ hN s2) ⟨rfl, by decide⟩ C (nm_12 hN) (by decide) rfl (Nat.le_of_ble_eq_true rfl) dX12_isKept_8 rfl (fun x5 s6 => ?_)
    refine r_if_ne (q := 14) (tgt := 91) C dX12_isKept_11 (by decide) rfl ?_ ?_
    · refine r_locs (lc' := []) [] rfl ?_
      exact hj4 s6
    · refine r_aload_n (q := 15) (i := 0) (z := 0) C dX12_isKept_14 rfl rfl rfl ?_
      refine r_callVI (q := 18) (As := []) wm_X12_185 yvX12_isPay (c_X12_isPay Δ hN s6) ⟨rfl, by decide⟩ C (nm_12 hN) (by decide) rfl (Nat.le_of_ble_eq_true rfl) dX12_isKept_15 rfl (fun x7 s8 => ?_)
      refine r_if_ne (q := 21) (tgt := 91) C dX12_isKept_18 (by decide) rfl ?_ ?_
      · refine r_locs (lc' := []) [] rfl ?_
        exact hj4 s8
      · refine r_aload_n (q := 22) (i := 0) (z := 0) C dX12_isKept_21 rfl rfl rfl ?_
        refine r_callVI (q := 25) (As := []) wm_X12_188 yvX12_isBreath (c_X12_isBreath Δ hN s8) ⟨rfl, by decide⟩ C (nm_12 hN) (by decide) rfl (Nat.le_of_ble_eq_true rfl) dX12_isKept_22 rfl (fun x9 s10 => ?_)
        refine r_if_ne (q := 28) (tgt := 91) C dX12_isKept_25 (by decide) rfl ?_ ?_
        · refine r_locs (lc' := []) [] rfl ?_
          exact hj4 s10
        · refine r_aload_n (q := 29) (i := 0) (z := 0) C dX12_isKept_28 rfl rfl rfl ?_
          refine r_callVI (q := 32) (As := []) wm_X12_191 yvX12_isNot (c_X12_isNot Δ hN s10) ⟨rfl, by decide⟩ C (nm_12 hN) (by decide) rfl (Nat.le_of_ble_eq_true rfl) dX12_isKept_29 rfl (fun x11 s12 => ?_)
          refine r_if_ne (q := 35) (tgt := 91) C dX12_isKept_32 (by decide) rfl ?_ ?_
          · refine r_locs (lc' := []) [] rfl ?_
            exact hj4 s12
          · refine r_aload_n (q := 36) (i := 0) (z := 0) C dX12_isKept_35 rfl rfl rfl ?_
            refine r_callVI (q := 39) (As := []) wm_X12_194 yvX12_isScene (c_X12_isScene Δ hN s12) ⟨rfl, by decide⟩ C (nm_12 hN) (by decide) rfl (Nat.le_of_ble_eq_true rfl) dX12_isKept_36 rfl (fun x13 s14 => ?_)
            refine r_if_ne (q := 42) (tgt := 91) C dX12_isKept_39 (by decide) rfl ?_ ?_
            · refine r_locs (lc' := []) [] rfl ?_
              exact hj4 s14
            · refine r_aload_n (q := 43) (i := 0) (z := 0) C dX12_isKept_42 rfl rfl rfl ?_
              refine r_callVI (q := 46) (As := []) wm_X12_197 yvX12_isLines (c_X12_isLines Δ hN s14) ⟨rfl, by decide⟩ C (nm_12 hN) (by decide) rfl (Nat.le_of_ble_eq_true rfl) dX12_isKept_43 rfl (fun x15 s16 => ?_)
              refine r_if_ne (q := 49) (tgt := 91) C dX12_isKept_46 (by decide) rfl ?_ ?_
              · refine r_locs (lc' := []) [] rfl ?_
                exact hj4 s16
              · refine r_aload_n (q := 50) (i := 0) (z := 0) C dX12_isKept_49 rfl rfl rfl ?_
                refine r_callVI (q := 53) (As := []) wm_X12_200 yvX12_isWith (c_X12_isWith Δ hN s16) ⟨rfl, by decide⟩ C (nm_12 hN) (by decide) rfl (Nat.le_of_ble_eq_true rfl) dX12_isKept_50 rfl (fun x17 s18 => ?_)
                refine r_if_ne (q := 56) (tgt := 91) C dX12_isKept_53 (by decide) rfl ?_ ?_
                · refine r_locs (lc' := []) [] rfl ?_
                  exact hj4 s18
                · refine r_aload_n (q := 57) (i := 0) (z := 0) C dX12_isKept_56 rfl rfl rfl ?_
                  refine r_callVI (q := 60) (As := []) wm_X12_203 yvX12_isEnds (c_X12_isEnds Δ hN s18) ⟨rfl, by decide⟩ C (nm_12 hN) (by decide) rfl (Nat.le_of_ble_eq_true rfl) dX12_isKept_57 rfl (fun x19 s20 => ?_)
                  refine r_if_ne (q := 63) (tgt := 91) C dX12_isKept_60 (by decide) rfl ?_ ?_
                  · refine r_locs (lc' := []) [] rfl ?_
                    exact hj4 s20
                  · refine r_aload_n (q := 64) (i := 0) (z := 0) C dX12_isKept_63 rfl rfl rfl ?_
                    refine r_callVI (q := 67) (As := []) wm_X12_206 yvX12_isThen (c_X12_isThen Δ hN s20) ⟨rfl, by decide⟩ C (nm_12 hN) (by decide) rfl (Nat.le_of_ble_eq_true rfl) dX12_isKept_64 rfl (fun x21 s22 => ?_)
                    refine r_if_ne (q := 70) (tgt := 91) C dX12_isKept_67 (by decide) rfl ?_ ?_
                    · refine r_locs (lc' := []) [] rfl ?_
                      exact hj4 s22
                    · refine r_aload_n (q := 71) (i := 0) (z := 0) C dX12_isKept_70 rfl rfl rfl ?_
                      refine r_callVI (q := 74) (As := []) wm_X12_209 yvX12_isTear (c_X12_isTear Δ hN s22) ⟨rfl, by decide⟩ C (nm_12 hN) (by decide) rfl (Nat.le_of_ble_eq_true rfl) dX12_isKept_71 rfl (fun x23 s24 => ?_)
                      refine r_if_ne (q := 77) (tgt := 91) C dX12_isKept_74 (by decide) rfl ?_ ?_
                      · refine r_locs (lc' := []) [] rfl ?_
                        exact hj4 s24
                      · refine r_aload_n (q := 78) (i := 0) (z := 0) C dX12_isKept_77 rfl rfl rfl ?_
                        refine r_callVI (q := 81) (As := []) wm_X12_212 yvX12_isLaugh (c_X12_isLaugh Δ hN s24) ⟨rfl, by decide⟩ C (nm_12 hN) (by decide) rfl (Nat.le_of_ble_eq_true rfl) dX12_isKept_78 rfl (fun x25 s26 => ?_)
                        refine r_if_ne (q := 84) (tgt := 91) C dX12_isKept_81 (by decide) rfl ?_ ?_
                        · refine r_locs (lc' := []) [] rfl ?_
                          exact hj4 s26
                        · refine r_aload_n (q := 85) (i := 0) (z := 0) C dX12_isKept_84 rfl rfl rfl ?_
                          refine r_callVI (q := 88) (As := []) wm_X12_215 yvX12_isSleep (c_X12_isSleep Δ hN s26) ⟨rfl, by decide⟩ C (nm_12 hN) (by decide) rfl (Nat.le_of_ble_eq_true rfl) dX12_isKept_85 rfl (fun x27 s28 => ?_)
                          refine r_if_eq (q := 91) (tgt := 93) C dX12_isKept_88 (by decide) rfl ?_ ?_
                          · refine r_aload_n (q := 94) (i := 0) (z := 0) C dX12_isKept_93 rfl rfl rfl ?_
                            refine r_callVI (q := 97) (As := []) wm_X12_218 yvX12_isKills (c_X12_isKills Δ hN s28) ⟨rfl, by decide⟩ C (nm_12 hN) (by decide) rfl (Nat.le_of_ble_eq_true rfl) dX12_isKept_94 rfl (fun x29 s30 => ?_)
                            refine r_join (fun j33 => ∀ (x31 : Int32) (s32 : fSt), fW Δ Γ 1 (fQ eI Δ Γ) 161 [] [.int x31] s32 (j33 x31 s32)) ?_ (fun j33 hj33 => ?_)
                            · intro x31 s32
                              exact r_zret C dX12_isKept_161
                            refine r_join (fun j35 => ∀  (s34 : fSt), fW Δ Γ 1 (fQ eI Δ Γ) 156 [] [] s34 (j35 s34)) ?_ (fun j35 hj35 => ?_)
                            · intro s34
                              refine r_iconst (q := 157) (v := 1) C dX12_isKept_156 rfl (by decide) ?_
                              refine r_goto (q := 161) C dX12_isKept_157 (by decide) ?_
                              exact hj33 ((1 : Int32)) s34
                            refine r_if_ne (q := 100) (tgt := 156) C dX12_isKept_97 (by decide) rfl ?_ ?_
                            · refine r_locs (lc' := []) [] rfl ?_
                              exact hj35 s30
                            · refine r_aload_n (q := 101) (i := 0) (z := 0) C dX12_isKept_100 rfl rfl rfl ?_
                              refine r_callVI (q := 104) (As := []) wm_X12_221 yvX12_isKind (c_X12_isKind Δ hN s30) ⟨rfl, by decide⟩ C (nm_12 hN) (by decide) rfl (Nat.le_of_ble_eq_true rfl) dX12_isKept_101 rfl (fun x36 s37 => ?_)
                              refine r_if_ne (q := 107) (tgt := 156) C dX12_isKept_104 (by decide) rfl ?_ ?_
                              · refine r_locs (lc' := []) [] rfl ?_
                                exact hj35 s37
                              · refine r_aload_n (q := 108) (i := 0) (z := 0) C dX12_isKept_107 rfl rfl rfl ?_
                                refine r_callVI (q := 111) (As := []) wm_X12_224 yvX12_isLots (c_X12_isLots Δ hN s37) ⟨rfl, by decide⟩ C (nm_12 hN) (by decide) rfl (Nat.le_of_ble_eq_true rfl) dX12_isKept_108 rfl (fun x38 s39 => ?_)
                                refine r_if_ne (q := 114) (tgt := 156) C dX12_isKept_111 (by decide) rfl ?_ ?_
                                · refine r_locs (lc' := []) [] rfl ?_
                                  exact hj35 s39
                                · refine r_aload_n (q := 115) (i := 0) (z := 0) C dX12_isKept_114 rfl rfl rfl ?_
                                  refine r_callVI (q := 118) (As := []) wm_X12_227 yvX12_isTears (c_X12_isTears Δ hN s39) ⟨rfl, by decide⟩ C (nm_12 hN) (by decide) rfl (Nat.le_of_ble_eq_true rfl) dX12_isKept_115 rfl (fun x40 s41 => ?_)
                                  refine r_if_ne (q := 121) (tgt := 156) C dX12_isKept_118 (by decide) rfl ?_ ?_
                                  · refine r_locs (lc' := []) [] rfl ?_
                                    exact hj35 s41
                                  · refine r_aload_n (q := 122) (i := 0) (z := 0) C dX12_isKept_121 rfl rfl rfl ?_
                                    refine r_callVI (q := 125) (As := []) wm_X12_230 yvX12_isLaughs (c_X12_isLaughs Δ hN s41) ⟨rfl, by decide⟩ C (nm_12 hN) (by decide) rfl (Nat.le_of_ble_eq_true rfl) dX12_isKept_122 rfl (fun x42 s43 => ?_)
                                    refine r_if_ne (q := 128) (tgt := 156) C dX12_isKept_125 (by decide) rfl ?_ ?_
                                    · refine r_locs (lc' := []) [] rfl ?_
                                      exact hj35 s43
                                    · refine r_aload_n (q := 129) (i := 0) (z := 0) C dX12_isKept_128 rfl rfl rfl ?_
                                      refine r_callVI (q := 132) (As := []) wm_X12_233 yvX12_isSleeps (c_X12_isSleeps Δ hN s43) ⟨rfl, by decide⟩ C (nm_12 hN) (by decide) rfl (Nat.le_of_ble_eq_true rfl) dX12_isKept_129 rfl (fun x44 s45 => ?_)
                                      refine r_if_ne (q := 135) (tgt := 156) C dX12_isKept_132 (by decide) rfl ?_ ?_
                                      · refine r_locs (lc' := []) [] rfl ?_
                                        exact hj35 s45
                                      · refine r_aload_n (q := 136) (i := 0) (z := 0) C dX12_isKept_135 rfl rfl rfl ?_
                                        refine r_callVI (q := 139) (As := []) wm_X12_236 yvX12_stepWord (c_X12_stepWord Δ hN s45) ⟨rfl, by decide⟩ C (nm_12 hN) (by decide) rfl (Nat.le_of_ble_eq_true rfl) dX12_isKept_136 rfl (fun x46 s47 => ?_)
                                        refine r_if_ge (q := 142) (tgt := 156) C dX12_isKept_139 (by decide) rfl ?_ ?_
                                        · refine r_locs (lc' := []) [] rfl ?_
                                          exact hj35 s47
                                        · refine r_aload_n (q := 143) (i := 0) (z := 0) C dX12_isKept_142 rfl rfl rfl ?_
                                          refine r_callVI (q := 146) (As := []) wm_X12_240 yvX12_testWord (c_X12_testWord Δ hN s47) ⟨rfl, by decide⟩ C (nm_12 hN) (by decide) rfl (Nat.le_of_ble_eq_true rfl) dX12_isKept_143 rfl (fun x48 s49 => ?_)
                                          refine r_if_ge (q := 149) (tgt := 156) C dX12_isKept_146 (by decide) rfl ?_ ?_
                                          · refine r_locs (lc' := []) [] rfl ?_
                                            exact hj35 s49
                                          · refine r_aload_n (q := 150) (i := 0) (z := 0) C dX12_isKept_149 rfl rfl rfl ?_
                                            refine r_callVI (q := 153) (As := []) wm_X12_243 yvX12_isEnd (c_X12_isEnd Δ hN s49) ⟨rfl, by decide⟩ C (nm_12 hN) (by decide) rfl (Nat.le_of_ble_eq_true rfl) dX12_isKept_150 rfl (fun x50 s51 => ?_)
                                            refine r_if_eq (q := 156) (tgt := 160) C dX12_isKept_153 (by decide) rfl ?_ ?_
                                            · refine r_iconst (q := 161) (v := 0) C dX12_isKept_160 rfl (by decide) ?_
                                              refine r_locs (lc' := []) [] rfl ?_
                                              exact hj33 ((0 : Int32)) s51
                                            · refine r_locs (lc' := []) [] rfl ?_
                                              exact hj35 s51
                          · refine r_locs (lc' := []) [] rfl ?_
                            exact hj4 s28

noncomputable def f_X12_isKindAt (a1 : Int32) (st : fSt) : Option (Int32 × fSt) :=
  fIx ((3 : Int32)) 2150 <|
  fBd (f_X12_isIn a1.toInt64 ((0 : Int64)) (((gA st 12 0 5 ((3 : Int32)).toNatClampNeg) - ((1 : Int32))).toInt64) st) fun x1 s2 =>
  fBo x1 (some (x1, s2))

set_option maxHeartbeats 4000000 in
set_option maxRecDepth 100000 in
theorem c_X12_isKindAt (Δ : fDl) (hN : fNm Δ) (a1 : Int32)  (st : fSt) : fMt eI Δ yX12_isKindAt cX12_isKindAt 2 (some .boolean) 2 [.ref (fad Δ 12 0 0), .int a1] st (f_X12_isKindAt a1 st) := by
  unfold f_X12_isKindAt
  refine r_method (by decide +kernel) (Nat.le_of_ble_eq_true rfl) (fun Γ C => ?_)
  have C : fC Δ Γ cX12_isKindAt RX12 2 (some .boolean) 2 := C
  refine r_locs (lc' := [(0, .ref (fad Δ 12 0 0)), (1, .int a1)]) [0, 1] rfl ?_
  refine r_iload_n (q := 1) (i := 1) (z := 1) C dX12_isKindAt_0 rfl rfl rfl ?_
  refine r_i2l (q := 2) C dX12_isKindAt_1 rfl ?_
  refine r_lconst (q := 3) (v := 0) C dX12_isKindAt_2 rfl (by decide) ?_
  refine r_aload_n (q := 4) (i := 0) (z := 0) C dX12_isKindAt_3 rfl rfl rfl ?_
  refine g_X12_35 (q := 7) C (nm_12 hN) dX12_isKindAt_4 rfl ?_
  refine r_iconst (q := 8) (v := 3) C dX12_isKindAt_7 rfl (by decide) ?_
  refine r_ial (q := 9) q_12_5 h_12_5 C (nm_12 hN) dX12_isKindAt_8 rfl ?_
  refine r_iconst (q := 10) (v := 1) C dX12_isKindAt_9 rfl (by decide) ?_
  refine r_isub (q := 11) C dX12_isKindAt_10 rfl ?_
  refine r_i2l (q := 12) C dX12_isKindAt_11 rfl ?_
  refine r_callSI (q := 15) (As := [.long a1.toInt64, .long ((0 : Int64)), .long (((gA st 12 0 5 ((3 : Int32)).toNatClampNeg) - ((1 : Int32))).toInt64)]) wm_X12_129 ysX12_isIn (c_X12_isIn Δ hN a1.toInt64 ((0 : Int64)) (((gA st 12 0 5 ((3 : Int32)).toNatClampNeg) - ((1 : Int32))).toInt64) st) C (by decide) rfl (Nat.le_of_ble_eq_true rfl) dX12_isKindAt_12 rfl (fun x1 s2 => ?_)
  exact r_zret C dX12_isKindAt_15

noncomputable def f_X12_isKindOrLot (a1 : Int32) (st : fSt) : Option (Int32 × fSt) :=
  fJn (fun (x1 : Int32) (s2 : fSt) =>
    (fBo x1 (some (x1, s2)))) fun (j3 : Int32 → fSt → Option (Int32 × fSt)) =>
  fJn (fun (s4 : fSt) =>
    (j3 ((1 : Int32)) s4)) fun (j5 : fSt → Option (Int32 × fSt)) =>
  if a1 = ((-1 : Int32)) then
    (j5 st)
  else
    (fBd (f_X12_isKindAt a1 st) fun x6 s7 =>
    if x6 = 0 then
      (j3 ((0 : Int32)) s7)
    else
      (j5 s7))

set_option maxHeartbeats 4000000 in
set_option maxRecDepth 100000 in
theorem c_X12_isKindOrLot (Δ : fDl) (hN : fNm Δ) (a1 : Int32)  (st : fSt) : fMt eI Δ yX12_isKindOrLot cX12_isKindOrLot 2 (some .boolean) 3 [.ref (fad Δ 12 0 0), .int a1] st (f_X12_isKindOrLot a1 st) := by
  unfold f_X12_isKindOrLot
  refine r_method (by decide +kernel) (Nat.le_of_ble_eq_true rfl) (fun Γ C => ?_)
  have C : fC Δ Γ cX12_isKindOrLot RX12 2 (some .boolean) 3 := C
  refine r_locs (lc' := [(0, .ref (fad Δ 12 0 0)), (1, .int a1)]) [0, 1] rfl ?_
  refine r_iload_n (q := 1) (i := 1) (z := 1) C dX12_isKindOrLot_0 rfl rfl rfl ?_
  refine r_iconst (q := 2) (v := (-1)) C dX12_isKindOrLot_1 rfl (by decide) ?_
  refine r_join (fun j3 => ∀ (x1 : Int32) (s2 : fSt), fW Δ Γ 2 (fQ eI Δ Γ) 18 [] [.int x1] s2 (j3 x1 s2)) ?_ (fun j3 hj3 => ?_)
  · intro x1 s2
    exact r_zret C dX12_isKindOrLot_18
  refine r_join (fun j5 => ∀  (s4 : fSt), fW Δ Γ 2 (fQ eI Δ Γ) 13 [] [] s4 (j5 s4)) ?_ (fun j5 hj5 => ?_)
  · intro s4
    refine r_iconst (q := 14) (v := 1) C dX12_isKindOrLot_13 rfl (by decide) ?_
    refine r_goto (q := 18) C dX12_isKindOrLot_14 (by decide) ?_
    exact hj3 ((1 : Int32)) s4
  refine r_icmp_eq (q := 5) (tgt := 13) C dX12_isKindOrLot_2 (by decide) rfl ?_ ?_
  · refine r_locs (lc' := []) [] rfl ?_
    exact hj5 st
  · refine r_aload_n (q := 6) (i := 0) (z := 0) C dX12_isKindOrLot_5 rfl rfl rfl ?_
    refine r_iload_n (q := 7) (i := 1) (z := 1) C dX12_isKindOrLot_6 rfl rfl rfl ?_
    refine r_callVI (q := 10) (As := [.int a1]) wm_X12_360 yvX12_isKindAt (c_X12_isKindAt Δ hN a1 st) ⟨rfl, by decide⟩ C (nm_12 hN) (by decide) rfl (Nat.le_of_ble_eq_true rfl) dX12_isKindOrLot_7 rfl (fun x6 s7 => ?_)
    refine r_if_eq (q := 13) (tgt := 17) C dX12_isKindOrLot_10 (by decide) rfl ?_ ?_
    · refine r_iconst (q := 18) (v := 0) C dX12_isKindOrLot_17 rfl (by decide) ?_
      refine r_locs (lc' := []) [] rfl ?_
      exact hj3 ((0 : Int32)) s7
    · refine r_locs (lc' := []) [] rfl ?_
      exact hj5 s7

noncomputable def f_X12_isName  (st : fSt) : Option (Int32 × fSt) :=
  fJn (fun (x1 : Int32) (s2 : fSt) =>
    (fBo x1 (some (x1, s2)))) fun (j3 : Int32 → fSt → Option (Int32 × fSt)) =>
  fJn (fun (s4 : fSt) =>
    (j3 ((0 : Int32)) s4)) fun (j5 : fSt → Option (Int32 × fSt)) =>
  if ¬ (gI st 12 0 14) = ((1 : Int32)) then
    (j5 st)
  else
    (if ((8 : Int32)) < (gI st 12 0 18) then
      (j5 st)
    else
      (fBd (f_X12_isKept  st) fun x6 s7 =>
      if ¬ x6 = 0 then
        (j5 s7)
      else
        (j3 ((1 : Int32)) s7)))

set_option maxHeartbeats 4000000 in
set_option maxRecDepth 100000 in
theorem c_X12_isName (Δ : fDl) (hN : fNm Δ)   (st : fSt) : fMt eI Δ yX12_isName cX12_isName 1 (some .boolean) 4 [.ref (fad Δ 12 0 0)] st (f_X12_isName  st) := by
  unfold f_X12_isName
  refine r_method (by decide +kernel) (Nat.le_of_ble_eq_true rfl) (fun Γ C => ?_)
  have C : fC Δ Γ cX12_isName RX12 1 (some .boolean) 4 := C
  refine r_locs (lc' := [(0, .ref (fad Δ 12 0 0))]) [0] rfl ?_
  refine r_aload_n (q := 1) (i := 0) (z := 0) C dX12_isName_0 rfl rfl rfl ?_
  refine g_X12_145 (q := 4) C (nm_12 hN) dX12_isName_1 rfl ?_
  refine r_iconst (q := 5) (v := 1) C dX12_isName_4 rfl (by decide) ?_
  refine r_join (fun j3 => ∀ (x1 : Int32) (s2 : fSt), fW Δ Γ 1 (fQ eI Δ Γ) 29 [] [.int x1] s2 (j3 x1 s2)) ?_ (fun j3 hj3 => ?_)
  · intro x1 s2
    exact r_zret C dX12_isName_29
  refine r_join (fun j5 => ∀  (s4 : fSt), fW Δ Γ 1 (fQ eI Δ Γ) 28 [] [] s4 (j5 s4)) ?_ (fun j5 hj5 => ?_)
  · intro s4
    refine r_iconst (q := 29) (v := 0) C dX12_isName_28 rfl (by decide) ?_
    exact hj3 ((0 : Int32)) s4
  refine r_icmp_ne (q := 8) (tgt := 28) C dX12_isName_5 (by decide) rfl ?_ ?_
  · refine r_locs (lc' := []) [] rfl ?_
    exact hj5 st
  · refine r_aload_n (q := 9) (i := 0) (z := 0) C dX12_isName_8 rfl rfl rfl ?_
    refine g_X12_158 (q := 12) C (nm_12 hN) dX12_isName_9 rfl ?_
    refine r_bipush (q := 14) (v := 8) C dX12_isName_12 rfl (by decide) ?_
    refine r_icmp_gt (q := 17) (tgt := 28) C dX12_isName_14 (by decide) rfl ?_ ?_
    · refine r_locs (lc' := []) [] rfl ?_
      exact hj5 st
    · refine r_aload_n (q := 18) (i := 0) (z := 0) C dX12_isName_17 rfl rfl rfl ?_
      refine r_callVI (q := 21) (As := []) wm_X12_246 yvX12_isKept (c_X12_isKept Δ hN st) ⟨rfl, by decide⟩ C (nm_12 hN) (by decide) rfl (Nat.le_of_ble_eq_true rfl) dX12_isName_18 rfl (fun x6 s7 => ?_)
      refine r_if_ne (q := 24) (tgt := 28) C dX12_isName_21 (by decide) rfl ?_ ?_
      · refine r_locs (lc' := []) [] rfl ?_
        exact hj5 s7
      · refine r_iconst (q := 25) (v := 1) C dX12_isName_24 rfl (by decide) ?_
        refine r_goto (q := 29) C dX12_isName_25 (by decide) ?_
        refine r_locs (lc' := []) [] rfl ?_
        exact hj3 ((1 : Int32)) s7

noncomputable def f_X12_isSign (a1 : Int32) (st : fSt) : Option (Int32 × fSt) :=
  fJn (fun (x1 : Int32) (s2 : fSt) =>
    (fBo x1 (some (x1, s2)))) fun (j3 : Int32 → fSt → Option (Int32 × fSt)) =>
  fJn (fun (s4 : fSt) =>
    (j3 ((0 : Int32)) s4)) fun (j5 : fSt → Option (Int32 × fSt)) =>
  if ¬ (gI st 12 0 14) = ((3 : Int32)) then
    (j5 st)
  else
    (if ¬ (gI st 12 0 17) = a1 then
      (j5 st)
    else
      (j3 ((1 : Int32)) st))

set_option maxHeartbeats 4000000 in
set_option maxRecDepth 100000 in
theorem c_X12_isSign (Δ : fDl) (hN : fNm Δ) (a1 : Int32)  (st : fSt) : fMt eI Δ yX12_isSign cX12_isSign 2 (some .boolean) 1 [.ref (fad Δ 12 0 0), .int a1] st (f_X12_isSign a1 st) := by
  unfold f_X12_isSign
  refine r_method (by decide +kernel) (Nat.le_of_ble_eq_true rfl) (fun Γ C => ?_)
  have C : fC Δ Γ cX12_isSign RX12 2 (some .boolean) 1 := C
  refine r_locs (lc' := [(0, .ref (fad Δ 12 0 0)), (1, .int a1)]) [0, 1] rfl ?_
  refine r_aload_n (q := 1) (i := 0) (z := 0) C dX12_isSign_0 rfl rfl rfl ?_
  refine g_X12_145 (q := 4) C (nm_12 hN) dX12_isSign_1 rfl ?_
  refine r_iconst (q := 5) (v := 3) C dX12_isSign_4 rfl (by decide) ?_
  refine r_join (fun j3 => ∀ (x1 : Int32) (s2 : fSt), fW Δ Γ 2 (fQ eI Δ Γ) 21 [] [.int x1] s2 (j3 x1 s2)) ?_ (fun j3 hj3 => ?_)
  · intro x1 s2
    exact r_zret C dX12_isSign_21
  refine r_join (fun j5 => ∀  (s4 : fSt), fW Δ Γ 2 (fQ eI Δ Γ) 20 [] [] s4 (j5 s4)) ?_ (fun j5 hj5 => ?_)
  · intro s4
    refine r_iconst (q := 21) (v := 0) C dX12_isSign_20 rfl (by decide) ?_
    exact hj3 ((0 : Int32)) s4
  refine r_icmp_ne (q := 8) (tgt := 20) C dX12_isSign_5 (by decide) rfl ?_ ?_
  · refine r_locs (lc' := []) [] rfl ?_
    exact hj5 st
  · refine r_aload_n (q := 9) (i := 0) (z := 0) C dX12_isSign_8 rfl rfl rfl ?_
    refine g_X12_164 (q := 12) C (nm_12 hN) dX12_isSign_9 rfl ?_
    refine r_iload_n (q := 13) (i := 1) (z := 1) C dX12_isSign_12 rfl rfl rfl ?_
    refine r_icmp_ne (q := 16) (tgt := 20) C dX12_isSign_13 (by decide) rfl ?_ ?_
    · refine r_locs (lc' := []) [] rfl ?_
      exact hj5 st
    · refine r_iconst (q := 17) (v := 1) C dX12_isSign_16 rfl (by decide) ?_
      refine r_goto (q := 21) C dX12_isSign_17 (by decide) ?_
      refine r_locs (lc' := []) [] rfl ?_
      exact hj3 ((1 : Int32)) st

noncomputable def f_X12_named_L3 (a1 : Int32) (a2 : Int32) (a3 : Int32) : Nat → Int32 → fSt → Option (Int32 × fSt)
  | 0, _, _ => none
  | n4 + 1, x2, s3 =>
      if a3 ≤ x2 then
        (some ((-1 : Int32), s3))
      else
        (fIx (((((28 : Int32)) * a1) + a2) + x2) 140 <|
        if ¬ (lg_cmp (gB s3 12 0 7 (((((28 : Int32)) * a1) + a2) + x2).toNatClampNeg) (gL s3 12 0 19)) = 0 then
          (fLt (x2 + (1 : Int32)) fun (x5 : Int32) =>
          f_X12_named_L3 a1 a2 a3 n4 x5 s3)
        else
          (some (x2, s3)))

noncomputable def f_X12_named (a1 : Int32) (a2 : Int32) (a3 : Int32) (st : fSt) : Option (Int32 × fSt) :=
  fLt ((0 : Int32)) fun (x1 : Int32) =>
  f_X12_named_L3 a1 a2 a3 fF x1 st

set_option maxHeartbeats 4000000 in
set_option maxRecDepth 100000 in
theorem c_X12_named (Δ : fDl) (hN : fNm Δ) (a1 : Int32) (a2 : Int32) (a3 : Int32)  (st : fSt) : fMt eI Δ yX12_named cX12_named 5 (some .int) 1 [.ref (fad Δ 12 0 0), .int a1, .int a2, .int a3] st (f_X12_named a1 a2 a3 st) := by
  unfold f_X12_named
  refine r_method (by decide +kernel) (Nat.le_of_ble_eq_true rfl) (fun Γ C => ?_)
  have C : fC Δ Γ cX12_named RX12 5 (some .int) 1 := C
  refine r_locs (lc' := [(0, .ref (fad Δ 12 0 0)), (1, .int a1), (2, .int a2), (3, .int a3)]) [0, 1, 2, 3] rfl ?_
  refine r_iconst (q := 1) (v := 0) C dX12_named_0 rfl (by decide) ?_
  refine r_istore (q := 3) (i := 4) [(0, .ref (fad Δ 12 0 0)), (1, .int a1), (2, .int a2), (3, .int a3)] C dX12_named_1 rfl (by decide) rfl (fun x1 => ?_)
  refine r_locs (lc' := [(0, .ref (fad Δ 12 0 0)), (1, .int a1), (2, .int a2), (3, .int a3), (4, .int x1)]) [1, 2, 3, 4, 0] rfl ?_
  have L3 : ∀ (n4 : Nat) (x2 : Int32) (s3 : fSt), fW Δ Γ 5 (fQ eI Δ Γ) 3 [(0, .ref (fad Δ 12 0 0)), (1, .int a1), (2, .int a2), (3, .int a3), (4, .int x2)] [] s3 (f_X12_named_L3 a1 a2 a3 n4 x2 s3) := by
    intro n4
    induction n4 with
    | zero =>
      intro x2 s3
      rw [f_X12_named_L3]
      exact r_none
    | succ n4 ih_n4 =>
      intro x2 s3
      rw [f_X12_named_L3]
      refine r_iload (q := 5) (i := 4) (z := 4) C dX12_named_3 rfl rfl ?_
      refine r_iload_n (q := 6) (i := 3) (z := 3) C dX12_named_5 rfl rfl rfl ?_
      refine r_icmp_ge (q := 9) (tgt := 40) C dX12_named_6 (by decide) rfl ?_ ?_
      · refine r_iconst (q := 41) (v := (-1)) C dX12_named_40 rfl (by decide) ?_
        exact r_iret C dX12_named_41
      · refine r_aload_n (q := 10) (i := 0) (z := 0) C dX12_named_9 rfl rfl rfl ?_
        refine g_X12_41 (q := 13) C (nm_12 hN) dX12_named_10 rfl ?_
        refine r_bipush (q := 15) (v := 28) C dX12_named_13 rfl (by decide) ?_
        refine r_iload_n (q := 16) (i := 1) (z := 1) C dX12_named_15 rfl rfl rfl ?_
        refine r_imul (q := 17) C dX12_named_16 rfl ?_
        refine r_iload_n (q := 18) (i := 2) (z := 2) C dX12_named_17 rfl rfl rfl ?_
        refine r_iadd (q := 19) C dX12_named_18 rfl ?_
        refine r_iload (q := 21) (i := 4) (z := 4) C dX12_named_19 rfl rfl ?_
        refine r_iadd (q := 22) C dX12_named_21 rfl ?_
        refine r_lal (q := 23) q_12_7 h_12_7 C (nm_12 hN) dX12_named_22 rfl ?_
        refine r_aload_n (q := 24) (i := 0) (z := 0) C dX12_named_23 rfl rfl rfl ?_
        refine g_X12_151 (q := 27) C (nm_12 hN) dX12_named_24 rfl ?_
        refine r_lcmp (q := 28) C dX12_named_27 rfl ?_
        refine r_if_ne (q := 31) (tgt := 34) C dX12_named_28 (by decide) rfl ?_ ?_
        · refine r_iinc (q := 37) (z := 4) (d := 1) [(0, .ref (fad Δ 12 0 0)), (1, .int a1), (2, .int a2), (3, .int a3)] C dX12_named_34 rfl rfl (by decide) (by decide) rfl (fun x5 => ?_)
          refine r_goto (q := 3) C dX12_named_37 (by decide) ?_
          refine r_locs (lc' := [(0, .ref (fad Δ 12 0 0)), (1, .int a1), (2, .int a2), (3, .int a3), (4, .int x5)]) [1, 2, 3, 4, 0] rfl ?_
          exact ih_n4 x5 s3
        · refine r_iload (q := 33) (i := 4) (z := 4) C dX12_named_31 rfl rfl ?_
          exact r_iret C dX12_named_33
  exact L3 fF x1 st

noncomputable def f_X12_isTaken  (st : fSt) : Option (Int32 × fSt) :=
  fIx ((1720 : Int32)) 2150 <|
  fBd (f_X12_named ((4 : Int32)) ((0 : Int32)) (gA st 12 0 5 ((1720 : Int32)).toNatClampNeg) st) fun x1 s2 =>
  fJn (fun (x3 : Int32) (s4 : fSt) =>
    (fLt x3 fun (x6 : Int32) =>
    fJn (fun (x7 : Int32) (s8 : fSt) =>
      (fBo x7 (some (x7, s8)))) fun (j9 : Int32 → fSt → Option (Int32 × fSt)) =>
    fJn (fun (s10 : fSt) =>
      (j9 ((1 : Int32)) s10)) fun (j11 : fSt → Option (Int32 × fSt)) =>
    if ¬ x6 = 0 then
      (j11 s4)
    else
      (fIx ((1722 : Int32)) 2150 <|
      fBd (f_X12_named ((4 : Int32)) ((12 : Int32)) (gA s4 12 0 5 ((1722 : Int32)).toNatClampNeg) s4) fun x12 s13 =>
      if 0 ≤ x12 then
        (j11 s13)
      else
        (fIx ((1723 : Int32)) 2150 <|
        fBd (f_X12_named ((4 : Int32)) ((24 : Int32)) (gA s13 12 0 5 ((1723 : Int32)).toNatClampNeg) s13) fun x14 s15 =>
        if x14 < 0 then
          (j9 ((0 : Int32)) s15)
        else
          (j11 s15))))) fun (j5 : Int32 → fSt → Option (Int32 × fSt)) =>
  fJn (fun (s16 : fSt) =>
    (j5 ((1 : Int32)) s16)) fun (j17 : fSt → Option (Int32 × fSt)) =>
  if 0 ≤ x1 then
    (j17 s2)
  else
    (fIx ((1721 : Int32)) 2150 <|
    fBd (f_X12_named ((4 : Int32)) ((6 : Int32)) (gA s2 12 0 5 ((1721 : Int32)).toNatClampNeg) s2) fun x18 s19 =>
    if x18 < 0 then
      (j5 ((0 : Int32)) s19)
    else
      (j17 s19))

set_option maxHeartbeats 4000000 in
set_option maxRecDepth 100000 in
theorem c_X12_isTaken (Δ : fDl) (hN : fNm Δ)   (st : fSt) : fMt eI Δ yX12_isTaken cX12_isTaken 2 (some .boolean) 2 [.ref (fad Δ 12 0 0)] st (f_X12_isTaken  st) := by
  unfold f_X12_isTaken
  refine r_method (by decide +kernel) (Nat.le_of_ble_eq_true rfl) (fun Γ C => ?_)
  have C : fC Δ Γ cX12_isTaken RX12 2 (some .boolean) 2 := C
  refine r_locs (lc' := [(0, .ref (fad Δ 12 0 0))]) [0] rfl ?_
  refine r_aload_n (q := 1) (i := 0) (z := 0) C dX12_isTaken_0 rfl rfl rfl ?_
  refine r_iconst (q := 2) (v := 4) C dX12_isTaken_1 rfl (by decide) ?_
  refine r_iconst (q := 3) (v := 0) C dX12_isTaken_2 rfl (by decide) ?_
  refine r_aload_n (q := 4) (i := 0) (z := 0) C dX12_isTaken_3 rfl rfl rfl ?_
  refine g_X12_35 (q := 7) C (nm_12 hN) dX12_isTaken_4 rfl ?_
  refine r_sipush (q := 10) (v := 1720) C dX12_isTaken_7 rfl (by decide) ?_
  refine r_ial (q := 11) q_12_5 h_12_5 C (nm_12 hN) dX12_isTaken_10 rfl ?_
  refine r_callVI (q := 14) (As := [.int ((4 : Int32)), .int ((0 : Int32)), .int (gA st 12 0 5 ((1720 : Int32)).toNatClampNeg)]) wm_X12_272 yvX12_named (c_X12_named Δ hN ((4 : Int32)) ((0 : Int32)) (gA st 12 0 5 ((1720 : Int32)).toNatClampNeg) st) ⟨rfl, by decide⟩ C (nm_12 hN) (by decide) rfl (Nat.le_of_ble_eq_true rfl) dX12_isTaken_11 rfl (fun x1 s2 => ?_)
  refine r_join (fun j5 => ∀ (x3 : Int32) (s4 : fSt), fW Δ Γ 2 (fQ eI Δ Γ) 40 [(0, .ref (fad Δ 12 0 0))] [.int x3] s4 (j5 x3 s4)) ?_ (fun j5 hj5 => ?_)
  · intro x3 s4
    refine r_istore_n (q := 41) (i := 1) [(0, .ref (fad Δ 12 0 0))] C dX12_isTaken_40 rfl rfl (by decide) rfl (fun x6 => ?_)
    refine r_iload_n (q := 42) (i := 1) (z := 0) C dX12_isTaken_41 rfl rfl rfl ?_
    refine r_join (fun j9 => ∀ (x7 : Int32) (s8 : fSt), fW Δ Γ 2 (fQ eI Δ Γ) 86 [] [.int x7] s8 (j9 x7 s8)) ?_ (fun j9 hj9 => ?_)
    · intro x7 s8
      exact r_zret C dX12_isTaken_86
    refine r_join (fun j11 => ∀  (s10 : fSt), fW Δ Γ 2 (fQ eI Δ Γ) 81 [] [] s10 (j11 s10)) ?_ (fun j11 hj11 => ?_)
    · intro s10
      refine r_iconst (q := 82) (v := 1) C dX12_isTaken_81 rfl (by decide) ?_
      refine r_goto (q := 86) C dX12_isTaken_82 (by decide) ?_
      exact hj9 ((1 : Int32)) s10
    refine r_if_ne (q := 45) (tgt := 81) C dX12_isTaken_42 (by decide) rfl ?_ ?_
    · refine r_locs (lc' := []) [] rfl ?_
      exact hj11 s4
    · refine r_aload_n (q := 46) (i := 0) (z := 1) C dX12_isTaken_45 rfl rfl rfl ?_
      refine r_iconst (q := 47) (v := 4) C dX12_isTaken_46 rfl (by decide) ?_
      refine r_bipush (q := 49) (v := 12) C dX12_isTaken_47 rfl (by decide) ?_
      refine r_aload_n (q := 50) (i := 0) (z := 1) C dX12_isTaken_49 rfl rfl rfl ?_
      refine g_X12_35 (q := 53) C (nm_12 hN) dX12_isTaken_50 rfl ?_
      refine r_sipush (q := 56) (v := 1722) C dX12_isTaken_53 rfl (by decide) ?_
      refine r_ial (q := 57) q_12_5 h_12_5 C (nm_12 hN) dX12_isTaken_56 rfl ?_
      refine r_callVI (q := 60) (As := [.int ((4 : Int32)), .int ((12 : Int32)), .int (gA s4 12 0 5 ((1722 : Int32)).toNatClampNeg)]) wm_X12_272 yvX12_named (c_X12_named Δ hN ((4 : Int32)) ((12 : Int32)) (gA s4 12 0 5 ((1722 : Int32)).toNatClampNeg) s4) ⟨rfl, by decide⟩ C (nm_12 hN) (by decide) rfl (Nat.le_of_ble_eq_true rfl) dX12_isTaken_57 rfl (fun x12 s13 => ?_)
      refine r_if_ge (q := 63) (tgt := 81) C dX12_isTaken_60 (by decide) rfl ?_ ?_
      · refine r_locs (lc' := []) [] rfl ?_
        exact hj11 s13
      · refine r_aload_n (q := 64) (i := 0) (z := 1) C dX12_isTaken_63 rfl rfl rfl ?_
        refine r_iconst (q := 65) (v := 4) C dX12_isTaken_64 rfl (by decide) ?_
        refine r_bipush (q := 67) (v := 24) C dX12_isTaken_65 rfl (by decide) ?_
        refine r_aload_n (q := 68) (i := 0) (z := 1) C dX12_isTaken_67 rfl rfl rfl ?_
        refine g_X12_35 (q := 71) C (nm_12 hN) dX12_isTaken_68 rfl ?_
        refine r_sipush (q := 74) (v := 1723) C dX12_isTaken_71 rfl (by decide) ?_
        refine r_ial (q := 75) q_12_5 h_12_5 C (nm_12 hN) dX12_isTaken_74 rfl ?_
        refine r_callVI (q := 78) (As := [.int ((4 : Int32)), .int ((24 : Int32)), .int (gA s13 12 0 5 ((1723 : Int32)).toNatClampNeg)]) wm_X12_272 yvX12_named (c_X12_named Δ hN ((4 : Int32)) ((24 : Int32)) (gA s13 12 0 5 ((1723 : Int32)).toNatClampNeg) s13) ⟨rfl, by decide⟩ C (nm_12 hN) (by decide) rfl (Nat.le_of_ble_eq_true rfl) dX12_isTaken_75 rfl (fun x14 s15 => ?_)
        refine r_if_lt (q := 81) (tgt := 85) C dX12_isTaken_78 (by decide) rfl ?_ ?_
        · refine r_iconst (q := 86) (v := 0) C dX12_isTaken_85 rfl (by decide) ?_
          refine r_locs (lc' := []) [] rfl ?_
          exact hj9 ((0 : Int32)) s15
        · refine r_locs (lc' := []) [] rfl ?_
          exact hj11 s15
  refine r_join (fun j17 => ∀  (s16 : fSt), fW Δ Γ 2 (fQ eI Δ Γ) 35 [(0, .ref (fad Δ 12 0 0))] [] s16 (j17 s16)) ?_ (fun j17 hj17 => ?_)
  · intro s16
    refine r_iconst (q := 36) (v := 1) C dX12_isTaken_35 rfl (by decide) ?_
    refine r_goto (q := 40) C dX12_isTaken_36 (by decide) ?_
    exact hj5 ((1 : Int32)) s16
  refine r_if_ge (q := 17) (tgt := 35) C dX12_isTaken_14 (by decide) rfl ?_ ?_
  · exact hj17 s2
  · refine r_aload_n (q := 18) (i := 0) (z := 0) C dX12_isTaken_17 rfl rfl rfl ?_
    refine r_iconst (q := 19) (v := 4) C dX12_isTaken_18 rfl (by decide) ?_
    refine r_bipush (q := 21) (v := 6) C dX12_isTaken_19 rfl (by decide) ?_
    refine r_aload_n (q := 22) (i := 0) (z := 0) C dX12_isTaken_21 rfl rfl rfl ?_
    refine g_X12_35 (q := 25) C (nm_12 hN) dX12_isTaken_22 rfl ?_
    refine r_sipush (q := 28) (v := 1721) C dX12_isTaken_25 rfl (by decide) ?_
    refine r_ial (q := 29) q_12_5 h_12_5 C (nm_12 hN) dX12_isTaken_28 rfl ?_
    refine r_callVI (q := 32) (As := [.int ((4 : Int32)), .int ((6 : Int32)), .int (gA s2 12 0 5 ((1721 : Int32)).toNatClampNeg)]) wm_X12_272 yvX12_named (c_X12_named Δ hN ((4 : Int32)) ((6 : Int32)) (gA s2 12 0 5 ((1721 : Int32)).toNatClampNeg) s2) ⟨rfl, by decide⟩ C (nm_12 hN) (by decide) rfl (Nat.le_of_ble_eq_true rfl) dX12_isTaken_29 rfl (fun x18 s19 => ?_)
    refine r_if_lt (q := 35) (tgt := 39) C dX12_isTaken_32 (by decide) rfl ?_ ?_
    · refine r_iconst (q := 40) (v := 0) C dX12_isTaken_39 rfl (by decide) ?_
      exact hj5 ((0 : Int32)) s19
    · exact hj17 s19

noncomputable def f_X12_isTray (a1 : Int32) (st : fSt) : Option (Int32 × fSt) :=
  fBd (f_X12_isIn a1.toInt64 ((0 : Int64)) ((3 : Int64)) st) fun x1 s2 =>
  fBo x1 (some (x1, s2))

set_option maxHeartbeats 4000000 in
set_option maxRecDepth 100000 in
theorem c_X12_isTray (Δ : fDl) (hN : fNm Δ) (a1 : Int32)  (st : fSt) : fMt eI Δ yX12_isTray cX12_isTray 2 (some .boolean) 2 [.ref (fad Δ 12 0 0), .int a1] st (f_X12_isTray a1 st) := by
  unfold f_X12_isTray
  refine r_method (by decide +kernel) (Nat.le_of_ble_eq_true rfl) (fun Γ C => ?_)
  have C : fC Δ Γ cX12_isTray RX12 2 (some .boolean) 2 := C
  refine r_locs (lc' := [(0, .ref (fad Δ 12 0 0)), (1, .int a1)]) [0, 1] rfl ?_
  refine r_iload_n (q := 1) (i := 1) (z := 1) C dX12_isTray_0 rfl rfl rfl ?_
  refine r_i2l (q := 2) C dX12_isTray_1 rfl ?_
  refine r_lconst (q := 3) (v := 0) C dX12_isTray_2 rfl (by decide) ?_
  refine r_ldc2 (q := 6) C dX12_isTray_3 rfl wl_X12_127 ?_
  refine r_callSI (q := 9) (As := [.long a1.toInt64, .long ((0 : Int64)), .long ((3 : Int64))]) wm_X12_129 ysX12_isIn (c_X12_isIn Δ hN a1.toInt64 ((0 : Int64)) ((3 : Int64)) st) C (by decide) rfl (Nat.le_of_ble_eq_true rfl) dX12_isTray_6 rfl (fun x1 s2 => ?_)
  exact r_zret C dX12_isTray_9

noncomputable def f_X12_isWell  (st : fSt) : Option (Int32 × fSt) :=
  fLt (sI st 12 0 10 (gI st 12 0 12)) fun s1 =>
  fJn (fun (x2 : Int32) (s3 : fSt) =>
    (fLt (sI s3 12 0 11 x2) fun s5 =>
    fJn (fun (x6 : Int32) (s7 : fSt) =>
      (fBo x6 (some (x6, s7)))) fun (j8 : Int32 → fSt → Option (Int32 × fSt)) =>
    fJn (fun (s9 : fSt) =>
      (j8 ((1 : Int32)) s9)) fun (j10 : fSt → Option (Int32 × fSt)) =>
    if (gI s5 12 0 12) = 0 then
      (j10 s5)
    else
      (fBd (f_X12_no ((10 : Int32)) s5) fun x11 s12 =>
      if x11 = 0 then
        (j8 ((0 : Int32)) s12)
      else
        (j10 s12)))) fun (j4 : Int32 → fSt → Option (Int32 × fSt)) =>
  if ¬ (gI s1 12 0 12) = 0 then
    (j4 (gI s1 12 0 13) s1)
  else
    (j4 ((-1 : Int32)) s1)

set_option maxHeartbeats 4000000 in
set_option maxRecDepth 100000 in
theorem c_X12_isWell (Δ : fDl) (hN : fNm Δ)   (st : fSt) : fMt eI Δ yX12_isWell cX12_isWell 1 (some .boolean) 2 [.ref (fad Δ 12 0 0)] st (f_X12_isWell  st) := by
  unfold f_X12_isWell
  refine r_method (by decide +kernel) (Nat.le_of_ble_eq_true rfl) (fun Γ C => ?_)
  have C : fC Δ Γ cX12_isWell RX12 1 (some .boolean) 2 := C
  refine r_locs (lc' := [(0, .ref (fad Δ 12 0 0))]) [0] rfl ?_
  refine r_aload_n (q := 1) (i := 0) (z := 0) C dX12_isWell_0 rfl rfl rfl ?_
  refine r_aload_n (q := 2) (i := 0) (z := 0) C dX12_isWell_1 rfl rfl rfl ?_
  refine g_X12_249 (q := 5) C (nm_12 hN) dX12_isWell_2 rfl ?_
  refine p_X12_28 (q := 8) C (nm_12 hN) dX12_isWell_5 rfl (fun s1 => ?_)
  refine r_aload_n (q := 9) (i := 0) (z := 0) C dX12_isWell_8 rfl rfl rfl ?_
  refine r_aload_n (q := 10) (i := 0) (z := 0) C dX12_isWell_9 rfl rfl rfl ?_
  refine g_X12_249 (q := 13) C (nm_12 hN) dX12_isWell_10 rfl ?_
  refine r_join (fun j4 => ∀ (x2 : Int32) (s3 : fSt), fW Δ Γ 1 (fQ eI Δ Γ) 24 [(0, .ref (fad Δ 12 0 0))] [.int x2, .ref (fad Δ 12 0 0)] s3 (j4 x2 s3)) ?_ (fun j4 hj4 => ?_)
  · intro x2 s3
    refine p_X12_32 (q := 27) C (nm_12 hN) dX12_isWell_24 rfl (fun s5 => ?_)
    refine r_aload_n (q := 28) (i := 0) (z := 0) C dX12_isWell_27 rfl rfl rfl ?_
    refine g_X12_249 (q := 31) C (nm_12 hN) dX12_isWell_28 rfl ?_
    refine r_join (fun j8 => ∀ (x6 : Int32) (s7 : fSt), fW Δ Γ 1 (fQ eI Δ Γ) 48 [] [.int x6] s7 (j8 x6 s7)) ?_ (fun j8 hj8 => ?_)
    · intro x6 s7
      exact r_zret C dX12_isWell_48
    refine r_join (fun j10 => ∀  (s9 : fSt), fW Δ Γ 1 (fQ eI Δ Γ) 43 [] [] s9 (j10 s9)) ?_ (fun j10 hj10 => ?_)
    · intro s9
      refine r_iconst (q := 44) (v := 1) C dX12_isWell_43 rfl (by decide) ?_
      refine r_goto (q := 48) C dX12_isWell_44 (by decide) ?_
      exact hj8 ((1 : Int32)) s9
    refine r_if_eq (q := 34) (tgt := 43) C dX12_isWell_31 (by decide) rfl ?_ ?_
    · refine r_locs (lc' := []) [] rfl ?_
      exact hj10 s5
    · refine r_aload_n (q := 35) (i := 0) (z := 0) C dX12_isWell_34 rfl rfl rfl ?_
      refine r_bipush (q := 37) (v := 10) C dX12_isWell_35 rfl (by decide) ?_
      refine r_callVI (q := 40) (As := [.int ((10 : Int32))]) wm_X12_109 yvX12_no (c_X12_no Δ hN ((10 : Int32)) s5) ⟨rfl, by decide⟩ C (nm_12 hN) (by decide) rfl (Nat.le_of_ble_eq_true rfl) dX12_isWell_37 rfl (fun x11 s12 => ?_)
      refine r_if_eq (q := 43) (tgt := 47) C dX12_isWell_40 (by decide) rfl ?_ ?_
      · refine r_iconst (q := 48) (v := 0) C dX12_isWell_47 rfl (by decide) ?_
        refine r_locs (lc' := []) [] rfl ?_
        exact hj8 ((0 : Int32)) s12
      · refine r_locs (lc' := []) [] rfl ?_
        exact hj10 s12
  refine r_if_ne (q := 16) (tgt := 20) C dX12_isWell_13 (by decide) rfl ?_ ?_
  · refine r_aload_n (q := 21) (i := 0) (z := 0) C dX12_isWell_20 rfl rfl rfl ?_
    refine g_X12_252 (q := 24) C (nm_12 hN) dX12_isWell_21 rfl ?_
    exact hj4 (gI s1 12 0 13) s1
  · refine r_iconst (q := 17) (v := (-1)) C dX12_isWell_16 rfl (by decide) ?_
    refine r_goto (q := 24) C dX12_isWell_17 (by decide) ?_
    exact hj4 ((-1 : Int32)) s1

noncomputable def f_X12_kill (a1 : Int32) (a2 : Int32) (st : fSt) : Option (Int32 × fSt) :=
  fLt (sI st 12 0 1 ((0 : Int32))) fun s1 =>
  fLt (sI s1 12 0 0 ((0 : Int32))) fun s2 =>
  fBd (f_X12_isRoleAt a1 s2) fun x3 s4 =>
  if ¬ x3 = 0 then
    (fIx ((5 : Int32)) 2150 <|
    fBd (f_X12_with (gA s4 12 0 5 ((5 : Int32)).toNatClampNeg) a1 a2 s4) fun x5 s6 =>
    fIx ((5 : Int32)) 2150 <|
    fLt (sA s6 12 0 5 (upd (gA s6 12 0 5) ((5 : Int32)).toNatClampNeg x5)) fun s7 =>
    some ((1 : Int32), s7))
  else
    (fBd (f_X12_no ((2 : Int32)) s4) fun x8 s9 =>
    fBo x8 (some (x8, s9)))

set_option maxHeartbeats 4000000 in
set_option maxRecDepth 100000 in
theorem c_X12_kill (Δ : fDl) (hN : fNm Δ) (a1 : Int32) (a2 : Int32)  (st : fSt) : fMt eI Δ yX12_kill cX12_kill 3 (some .boolean) 3 [.ref (fad Δ 12 0 0), .int a1, .int a2] st (f_X12_kill a1 a2 st) := by
  unfold f_X12_kill
  refine r_method (by decide +kernel) (Nat.le_of_ble_eq_true rfl) (fun Γ C => ?_)
  have C : fC Δ Γ cX12_kill RX12 3 (some .boolean) 3 := C
  refine r_locs (lc' := [(0, .ref (fad Δ 12 0 0)), (1, .int a1), (2, .int a2)]) [0, 1, 2] rfl ?_
  refine r_aload_n (q := 1) (i := 0) (z := 0) C dX12_kill_0 rfl rfl rfl ?_
  refine r_iconst (q := 2) (v := 0) C dX12_kill_1 rfl (by decide) ?_
  refine p_X12_90 (q := 5) C (nm_12 hN) dX12_kill_2 rfl (fun s1 => ?_)
  refine r_aload_n (q := 6) (i := 0) (z := 0) C dX12_kill_5 rfl rfl rfl ?_
  refine r_iconst (q := 7) (v := 0) C dX12_kill_6 rfl (by decide) ?_
  refine p_X12_93 (q := 10) C (nm_12 hN) dX12_kill_7 rfl (fun s2 => ?_)
  refine r_aload_n (q := 11) (i := 0) (z := 0) C dX12_kill_10 rfl rfl rfl ?_
  refine r_iload_n (q := 12) (i := 1) (z := 1) C dX12_kill_11 rfl rfl rfl ?_
  refine r_callVI (q := 15) (As := [.int a1]) wm_X12_370 yvX12_isRoleAt (c_X12_isRoleAt Δ hN a1 s2) ⟨rfl, by decide⟩ C (nm_12 hN) (by decide) rfl (Nat.le_of_ble_eq_true rfl) dX12_kill_12 rfl (fun x3 s4 => ?_)
  refine r_if_ne (q := 18) (tgt := 24) C dX12_kill_15 (by decide) rfl ?_ ?_
  · refine r_aload_n (q := 25) (i := 0) (z := 0) C dX12_kill_24 rfl rfl rfl ?_
    refine g_X12_35 (q := 28) C (nm_12 hN) dX12_kill_25 rfl ?_
    refine r_iconst (q := 29) (v := 5) C dX12_kill_28 rfl (by decide) ?_
    refine r_aload_n (q := 30) (i := 0) (z := 0) C dX12_kill_29 rfl rfl rfl ?_
    refine g_X12_35 (q := 33) C (nm_12 hN) dX12_kill_30 rfl ?_
    refine r_iconst (q := 34) (v := 5) C dX12_kill_33 rfl (by decide) ?_
    refine r_ial (q := 35) q_12_5 h_12_5 C (nm_12 hN) dX12_kill_34 rfl ?_
    refine r_iload_n (q := 36) (i := 1) (z := 1) C dX12_kill_35 rfl rfl rfl ?_
    refine r_iload_n (q := 37) (i := 2) (z := 2) C dX12_kill_36 rfl rfl rfl ?_
    refine r_callSI (q := 40) (As := [.int (gA s4 12 0 5 ((5 : Int32)).toNatClampNeg), .int a1, .int a2]) wm_X12_366 ysX12_with (c_X12_with Δ hN (gA s4 12 0 5 ((5 : Int32)).toNatClampNeg) a1 a2 s4) C (by decide) rfl (Nat.le_of_ble_eq_true rfl) dX12_kill_37 rfl (fun x5 s6 => ?_)
    refine r_ast (q := 41) q_12_5 h_12_5 C (nm_12 hN) dX12_kill_40 rfl (fun s7 => ?_)
    refine r_iconst (q := 42) (v := 1) C dX12_kill_41 rfl (by decide) ?_
    exact r_zret0 (Or.inr rfl) C dX12_kill_42
  · refine r_aload_n (q := 19) (i := 0) (z := 0) C dX12_kill_18 rfl rfl rfl ?_
    refine r_iconst (q := 20) (v := 2) C dX12_kill_19 rfl (by decide) ?_
    refine r_callVI (q := 23) (As := [.int ((2 : Int32))]) wm_X12_109 yvX12_no (c_X12_no Δ hN ((2 : Int32)) s4) ⟨rfl, by decide⟩ C (nm_12 hN) (by decide) rfl (Nat.le_of_ble_eq_true rfl) dX12_kill_20 rfl (fun x8 s9 => ?_)
    exact r_zret C dX12_kill_23

noncomputable def f_X12_kind (a1 : Int32) (a2 : Int32) (st : fSt) : Option (Int32 × fSt) :=
  fLt (sI st 12 0 1 ((0 : Int32))) fun s1 =>
  fLt (sI s1 12 0 0 ((0 : Int32))) fun s2 =>
  fBd (f_X12_isKindAt a1 s2) fun x3 s4 =>
  if ¬ x3 = 0 then
    (if a2 = (0 : Int32) then
      (fIx (((121 : Int32)) + a1) 2150 <|
      some (gA s4 12 0 5 (((121 : Int32)) + a1).toNatClampNeg, s4))
    else
    if a2 = (1 : Int32) then
      (fIx (((125 : Int32)) + a1) 2150 <|
      some (gA s4 12 0 5 (((125 : Int32)) + a1).toNatClampNeg, s4))
    else
    if a2 = (2 : Int32) then
      (fIx (((129 : Int32)) + a1) 2150 <|
      some (gA s4 12 0 5 (((129 : Int32)) + a1).toNatClampNeg, s4))
    else
    if a2 = (3 : Int32) then
      (fIx (((133 : Int32)) + a1) 2150 <|
      some (gA s4 12 0 5 (((133 : Int32)) + a1).toNatClampNeg, s4))
    else
    fBd (f_X12_refuse ((5 : Int32)) s4) fun x9 s10 =>
    some (x9, s10))
  else
    (fBd (f_X12_refuse ((2 : Int32)) s4) fun x11 s12 =>
    some (x11, s12))

set_option maxHeartbeats 4000000 in
set_option maxRecDepth 100000 in
theorem c_X12_kind (Δ : fDl) (hN : fNm Δ) (a1 : Int32) (a2 : Int32)  (st : fSt) : fMt eI Δ yX12_kind cX12_kind 3 (some .int) 3 [.ref (fad Δ 12 0 0), .int a1, .int a2] st (f_X12_kind a1 a2 st) := by
  unfold f_X12_kind
  refine r_method (by decide +kernel) (Nat.le_of_ble_eq_true rfl) (fun Γ C => ?_)
  have C : fC Δ Γ cX12_kind RX12 3 (some .int) 3 := C
  refine r_locs (lc' := [(0, .ref (fad Δ 12 0 0)), (1, .int a1), (2, .int a2)]) [0, 1, 2] rfl ?_
  refine r_aload_n (q := 1) (i := 0) (z := 0) C dX12_kind_0 rfl rfl rfl ?_
  refine r_iconst (q := 2) (v := 0) C dX12_kind_1 rfl (by decide) ?_
  refine p_X12_90 (q := 5) C (nm_12 hN) dX12_kind_2 rfl (fun s1 => ?_)
  refine r_aload_n (q := 6) (i := 0) (z := 0) C dX12_kind_5 rfl rfl rfl ?_
  refine r_iconst (q := 7) (v := 0) C dX12_kind_6 rfl (by decide) ?_
  refine p_X12_93 (q := 10) C (nm_12 hN) dX12_kind_7 rfl (fun s2 => ?_)
  refine r_aload_n (q := 11) (i := 0) (z := 0) C dX12_kind_10 rfl rfl rfl ?_
  refine r_iload_n (q := 12) (i := 1) (z := 1) C dX12_kind_11 rfl rfl rfl ?_
  refine r_callVI (q := 15) (As := [.int a1]) wm_X12_360 yvX12_isKindAt (c_X12_isKindAt Δ hN a1 s2) ⟨rfl, by decide⟩ C (nm_12 hN) (by decide) rfl (Nat.le_of_ble_eq_true rfl) dX12_kind_12 rfl (fun x3 s4 => ?_)
  refine r_if_ne (q := 18) (tgt := 24) C dX12_kind_15 (by decide) rfl ?_ ?_
  · refine r_iload_n (q := 25) (i := 2) (z := 2) C dX12_kind_24 rfl rfl rfl ?_
    refine r_bif (fun hs5 => ?_) (fun hs5 => ?_)
    · refine r_tsHit (tgt := 56) (n := 0) C dX12_kind_25 hs5 (by decide) (by decide) (by decide) rfl (by decide) ?_
      refine r_aload_n (q := 57) (i := 0) (z := 0) C dX12_kind_56 rfl rfl rfl ?_
      refine g_X12_35 (q := 60) C (nm_12 hN) dX12_kind_57 rfl ?_
      refine r_bipush (q := 62) (v := 121) C dX12_kind_60 rfl (by decide) ?_
      refine r_iload_n (q := 63) (i := 1) (z := 1) C dX12_kind_62 rfl rfl rfl ?_
      refine r_iadd (q := 64) C dX12_kind_63 rfl ?_
      refine r_ial (q := 65) q_12_5 h_12_5 C (nm_12 hN) dX12_kind_64 rfl ?_
      exact r_iret C dX12_kind_65
    refine r_bif (fun hs6 => ?_) (fun hs6 => ?_)
    · refine r_tsHit (tgt := 66) (n := 1) C dX12_kind_25 hs6 (by decide) (by decide) (by decide) rfl (by decide) ?_
      refine r_aload_n (q := 67) (i := 0) (z := 0) C dX12_kind_66 rfl rfl rfl ?_
      refine g_X12_35 (q := 70) C (nm_12 hN) dX12_kind_67 rfl ?_
      refine r_bipush (q := 72) (v := 125) C dX12_kind_70 rfl (by decide) ?_
      refine r_iload_n (q := 73) (i := 1) (z := 1) C dX12_kind_72 rfl rfl rfl ?_
      refine r_iadd (q := 74) C dX12_kind_73 rfl ?_
      refine r_ial (q := 75) q_12_5 h_12_5 C (nm_12 hN) dX12_kind_74 rfl ?_
      exact r_iret C dX12_kind_75
    refine r_bif (fun hs7 => ?_) (fun hs7 => ?_)
    · refine r_tsHit (tgt := 76) (n := 2) C dX12_kind_25 hs7 (by decide) (by decide) (by decide) rfl (by decide) ?_
      refine r_aload_n (q := 77) (i := 0) (z := 0) C dX12_kind_76 rfl rfl rfl ?_
      refine g_X12_35 (q := 80) C (nm_12 hN) dX12_kind_77 rfl ?_
      refine r_sipush (q := 83) (v := 129) C dX12_kind_80 rfl (by decide) ?_
      refine r_iload_n (q := 84) (i := 1) (z := 1) C dX12_kind_83 rfl rfl rfl ?_
      refine r_iadd (q := 85) C dX12_kind_84 rfl ?_
      refine r_ial (q := 86) q_12_5 h_12_5 C (nm_12 hN) dX12_kind_85 rfl ?_
      exact r_iret C dX12_kind_86
    refine r_bif (fun hs8 => ?_) (fun hs8 => ?_)
    · refine r_tsHit (tgt := 87) (n := 3) C dX12_kind_25 hs8 (by decide) (by decide) (by decide) rfl (by decide) ?_
      refine r_aload_n (q := 88) (i := 0) (z := 0) C dX12_kind_87 rfl rfl rfl ?_
      refine g_X12_35 (q := 91) C (nm_12 hN) dX12_kind_88 rfl ?_
      refine r_sipush (q := 94) (v := 133) C dX12_kind_91 rfl (by decide) ?_
      refine r_iload_n (q := 95) (i := 1) (z := 1) C dX12_kind_94 rfl rfl rfl ?_
      refine r_iadd (q := 96) C dX12_kind_95 rfl ?_
      refine r_ial (q := 97) q_12_5 h_12_5 C (nm_12 hN) dX12_kind_96 rfl ?_
      exact r_iret C dX12_kind_97
    refine r_tsDef (tgt := 98) C dX12_kind_25 (by have ehs5 := fNe hs5 0 (by decide); have ehs6 := fNe hs6 1 (by decide); have ehs7 := fNe hs7 2 (by decide); have ehs8 := fNe hs8 3 (by decide); omega) (by decide) ?_
    refine r_aload_n (q := 99) (i := 0) (z := 0) C dX12_kind_98 rfl rfl rfl ?_
    refine r_iconst (q := 100) (v := 5) C dX12_kind_99 rfl (by decide) ?_
    refine r_callVI (q := 103) (As := [.int ((5 : Int32))]) wm_X12_348 yvX12_refuse (c_X12_refuse Δ hN ((5 : Int32)) s4) ⟨rfl, by decide⟩ C (nm_12 hN) (by decide) rfl (Nat.le_of_ble_eq_true rfl) dX12_kind_100 rfl (fun x9 s10 => ?_)
    exact r_iret C dX12_kind_103
  · refine r_aload_n (q := 19) (i := 0) (z := 0) C dX12_kind_18 rfl rfl rfl ?_
    refine r_iconst (q := 20) (v := 2) C dX12_kind_19 rfl (by decide) ?_
    refine r_callVI (q := 23) (As := [.int ((2 : Int32))]) wm_X12_348 yvX12_refuse (c_X12_refuse Δ hN ((2 : Int32)) s4) ⟨rfl, by decide⟩ C (nm_12 hN) (by decide) rfl (Nat.le_of_ble_eq_true rfl) dX12_kind_20 rfl (fun x11 s12 => ?_)
    exact r_iret C dX12_kind_23

noncomputable def f_X12_led (a1 : Int32) (st : fSt) : Option (Int32 × fSt) :=
  fLt (sI st 12 0 1 ((0 : Int32))) fun s1 =>
  fLt (sI s1 12 0 0 ((0 : Int32))) fun s2 =>
  fBd (f_X12_allLines  s2) fun x3 s4 =>
  fBd (f_X12_isIn a1.toInt64 ((0 : Int64)) ((x3 - ((1 : Int32))).toInt64) s4) fun x5 s6 =>
  fJn (fun (x7 : Int32) (s8 : fSt) =>
    (some (x7, s8))) fun (j9 : Int32 → fSt → Option (Int32 × fSt)) =>
  if x5 = 0 then
    (fBd (f_X12_refuse ((5 : Int32)) s6) fun x10 s11 =>
    j9 x10 s11)
  else
    (fBd (f_X12_sceneOf a1 s6) fun x12 s13 =>
    j9 x12 s13)

set_option maxHeartbeats 4000000 in
set_option maxRecDepth 100000 in
theorem c_X12_led (Δ : fDl) (hN : fNm Δ) (a1 : Int32)  (st : fSt) : fMt eI Δ yX12_led cX12_led 2 (some .int) 2 [.ref (fad Δ 12 0 0), .int a1] st (f_X12_led a1 st) := by
  unfold f_X12_led
  refine r_method (by decide +kernel) (Nat.le_of_ble_eq_true rfl) (fun Γ C => ?_)
  have C : fC Δ Γ cX12_led RX12 2 (some .int) 2 := C
  refine r_locs (lc' := [(0, .ref (fad Δ 12 0 0)), (1, .int a1)]) [0, 1] rfl ?_
  refine r_aload_n (q := 1) (i := 0) (z := 0) C dX12_led_0 rfl rfl rfl ?_
  refine r_iconst (q := 2) (v := 0) C dX12_led_1 rfl (by decide) ?_
  refine p_X12_90 (q := 5) C (nm_12 hN) dX12_led_2 rfl (fun s1 => ?_)
  refine r_aload_n (q := 6) (i := 0) (z := 0) C dX12_led_5 rfl rfl rfl ?_
  refine r_iconst (q := 7) (v := 0) C dX12_led_6 rfl (by decide) ?_
  refine p_X12_93 (q := 10) C (nm_12 hN) dX12_led_7 rfl (fun s2 => ?_)
  refine r_iload_n (q := 11) (i := 1) (z := 1) C dX12_led_10 rfl rfl rfl ?_
  refine r_i2l (q := 12) C dX12_led_11 rfl ?_
  refine r_lconst (q := 13) (v := 0) C dX12_led_12 rfl (by decide) ?_
  refine r_aload_n (q := 14) (i := 0) (z := 0) C dX12_led_13 rfl rfl rfl ?_
  refine r_callVI (q := 17) (As := []) wm_X12_345 yvX12_allLines (c_X12_allLines Δ hN s2) ⟨rfl, by decide⟩ C (nm_12 hN) (by decide) rfl (Nat.le_of_ble_eq_true rfl) dX12_led_14 rfl (fun x3 s4 => ?_)
  refine r_iconst (q := 18) (v := 1) C dX12_led_17 rfl (by decide) ?_
  refine r_isub (q := 19) C dX12_led_18 rfl ?_
  refine r_i2l (q := 20) C dX12_led_19 rfl ?_
  refine r_callSI (q := 23) (As := [.long a1.toInt64, .long ((0 : Int64)), .long ((x3 - ((1 : Int32))).toInt64)]) wm_X12_129 ysX12_isIn (c_X12_isIn Δ hN a1.toInt64 ((0 : Int64)) ((x3 - ((1 : Int32))).toInt64) s4) C (by decide) rfl (Nat.le_of_ble_eq_true rfl) dX12_led_20 rfl (fun x5 s6 => ?_)
  refine r_join (fun j9 => ∀ (x7 : Int32) (s8 : fSt), fW Δ Γ 2 (fQ eI Δ Γ) 39 [] [.int x7] s8 (j9 x7 s8)) ?_ (fun j9 hj9 => ?_)
  · intro x7 s8
    exact r_iret C dX12_led_39
  refine r_if_eq (q := 26) (tgt := 34) C dX12_led_23 (by decide) rfl ?_ ?_
  · refine r_aload_n (q := 35) (i := 0) (z := 0) C dX12_led_34 rfl rfl rfl ?_
    refine r_iconst (q := 36) (v := 5) C dX12_led_35 rfl (by decide) ?_
    refine r_callVI (q := 39) (As := [.int ((5 : Int32))]) wm_X12_348 yvX12_refuse (c_X12_refuse Δ hN ((5 : Int32)) s6) ⟨rfl, by decide⟩ C (nm_12 hN) (by decide) rfl (Nat.le_of_ble_eq_true rfl) dX12_led_36 rfl (fun x10 s11 => ?_)
    refine r_locs (lc' := []) [] rfl ?_
    exact hj9 x10 s11
  · refine r_aload_n (q := 27) (i := 0) (z := 0) C dX12_led_26 rfl rfl rfl ?_
    refine r_iload_n (q := 28) (i := 1) (z := 1) C dX12_led_27 rfl rfl rfl ?_
    refine r_callVI (q := 31) (As := [.int a1]) wm_X12_439 yvX12_sceneOf (c_X12_sceneOf Δ hN a1 s6) ⟨rfl, by decide⟩ C (nm_12 hN) (by decide) rfl (Nat.le_of_ble_eq_true rfl) dX12_led_28 rfl (fun x12 s13 => ?_)
    refine r_goto (q := 39) C dX12_led_31 (by decide) ?_
    refine r_locs (lc' := []) [] rfl ?_
    exact hj9 x12 s13

noncomputable def f_X12_length (a1 : Int32) (st : fSt) : Option (Int32 × fSt) :=
  fLt (sI st 12 0 1 ((0 : Int32))) fun s1 =>
  fLt (sI s1 12 0 0 ((0 : Int32))) fun s2 =>
  fBd (f_X12_isIn a1.toInt64 ((0 : Int64)) ((1 : Int64)) s2) fun x3 s4 =>
  if ¬ x3 = 0 then
    (fBd (f_X12_isDark  s4) fun x5 s6 =>
    if x5 = 0 then
      (fBd (f_X12_goAll ((-1 : Int32)) s6) fun _ s7 =>
      fJn (fun (x8 : Int32) (s9 : fSt) =>
        (some (x8, s9))) fun (j10 : Int32 → fSt → Option (Int32 × fSt)) =>
      if ¬ a1 = 0 then
        (j10 (gI s7 12 0 36) s7)
      else
        (j10 (gI s7 12 0 35) s7))
    else
      (fBd (f_X12_refuse ((9 : Int32)) s6) fun x11 s12 =>
      some (x11, s12)))
  else
    (fBd (f_X12_refuse ((5 : Int32)) s4) fun x13 s14 =>
    some (x13, s14))

set_option maxHeartbeats 4000000 in
set_option maxRecDepth 100000 in
theorem c_X12_length (Δ : fDl) (hN : fNm Δ) (a1 : Int32)  (st : fSt) : fMt eI Δ yX12_length cX12_length 2 (some .int) 19 [.ref (fad Δ 12 0 0), .int a1] st (f_X12_length a1 st) := by
  unfold f_X12_length
  refine r_method (by decide +kernel) (Nat.le_of_ble_eq_true rfl) (fun Γ C => ?_)
  have C : fC Δ Γ cX12_length RX12 2 (some .int) 19 := C
  refine r_locs (lc' := [(0, .ref (fad Δ 12 0 0)), (1, .int a1)]) [0, 1] rfl ?_
  refine r_aload_n (q := 1) (i := 0) (z := 0) C dX12_length_0 rfl rfl rfl ?_
  refine r_iconst (q := 2) (v := 0) C dX12_length_1 rfl (by decide) ?_
  refine p_X12_90 (q := 5) C (nm_12 hN) dX12_length_2 rfl (fun s1 => ?_)
  refine r_aload_n (q := 6) (i := 0) (z := 0) C dX12_length_5 rfl rfl rfl ?_
  refine r_iconst (q := 7) (v := 0) C dX12_length_6 rfl (by decide) ?_
  refine p_X12_93 (q := 10) C (nm_12 hN) dX12_length_7 rfl (fun s2 => ?_)
  refine r_iload_n (q := 11) (i := 1) (z := 1) C dX12_length_10 rfl rfl rfl ?_
  refine r_i2l (q := 12) C dX12_length_11 rfl ?_
  refine r_lconst (q := 13) (v := 0) C dX12_length_12 rfl (by decide) ?_
  refine r_lconst (q := 14) (v := 1) C dX12_length_13 rfl (by decide) ?_
  refine r_callSI (q := 17) (As := [.long a1.toInt64, .long ((0 : Int64)), .long ((1 : Int64))]) wm_X12_129 ysX12_isIn (c_X12_isIn Δ hN a1.toInt64 ((0 : Int64)) ((1 : Int64)) s2) C (by decide) rfl (Nat.le_of_ble_eq_true rfl) dX12_length_14 rfl (fun x3 s4 => ?_)
  refine r_if_ne (q := 20) (tgt := 26) C dX12_length_17 (by decide) rfl ?_ ?_
  · refine r_aload_n (q := 27) (i := 0) (z := 0) C dX12_length_26 rfl rfl rfl ?_
    refine r_callVI (q := 30) (As := []) wm_X12_403 yvX12_isDark (c_X12_isDark Δ hN s4) ⟨rfl, by decide⟩ C (nm_12 hN) (by decide) rfl (Nat.le_of_ble_eq_true rfl) dX12_length_27 rfl (fun x5 s6 => ?_)
    refine r_if_eq (q := 33) (tgt := 40) C dX12_length_30 (by decide) rfl ?_ ?_
    · refine r_aload_n (q := 41) (i := 0) (z := 0) C dX12_length_40 rfl rfl rfl ?_
      refine r_iconst (q := 42) (v := (-1)) C dX12_length_41 rfl (by decide) ?_
      refine r_callVV (q := 45) (As := [.int ((-1 : Int32))]) wm_X12_492 yvX12_goAll (c_X12_goAll Δ hN ((-1 : Int32)) s6) ⟨rfl, by decide⟩ C (nm_12 hN) (by decide) rfl (Nat.le_of_ble_eq_true rfl) dX12_length_42 rfl (fun _ s7 => ?_)
      refine r_iload_n (q := 46) (i := 1) (z := 1) C dX12_length_45 rfl rfl rfl ?_
      refine r_join (fun j10 => ∀ (x8 : Int32) (s9 : fSt), fW Δ Γ 2 (fQ eI Δ Γ) 60 [] [.int x8] s9 (j10 x8 s9)) ?_ (fun j10 hj10 => ?_)
      · intro x8 s9
        exact r_iret C dX12_length_60
      refine r_if_ne (q := 49) (tgt := 56) C dX12_length_46 (by decide) rfl ?_ ?_
      · refine r_aload_n (q := 57) (i := 0) (z := 0) C dX12_length_56 rfl rfl rfl ?_
        refine g_X12_453 (q := 60) C (nm_12 hN) dX12_length_57 rfl ?_
        refine r_locs (lc' := []) [] rfl ?_
        exact hj10 (gI s7 12 0 36) s7
      · refine r_aload_n (q := 50) (i := 0) (z := 0) C dX12_length_49 rfl rfl rfl ?_
        refine g_X12_450 (q := 53) C (nm_12 hN) dX12_length_50 rfl ?_
        refine r_goto (q := 60) C dX12_length_53 (by decide) ?_
        refine r_locs (lc' := []) [] rfl ?_
        exact hj10 (gI s7 12 0 35) s7
    · refine r_aload_n (q := 34) (i := 0) (z := 0) C dX12_length_33 rfl rfl rfl ?_
      refine r_bipush (q := 36) (v := 9) C dX12_length_34 rfl (by decide) ?_
      refine r_callVI (q := 39) (As := [.int ((9 : Int32))]) wm_X12_348 yvX12_refuse (c_X12_refuse Δ hN ((9 : Int32)) s6) ⟨rfl, by decide⟩ C (nm_12 hN) (by decide) rfl (Nat.le_of_ble_eq_true rfl) dX12_length_36 rfl (fun x11 s12 => ?_)
      exact r_iret C dX12_length_39
  · refine r_aload_n (q := 21) (i := 0) (z := 0) C dX12_length_20 rfl rfl rfl ?_
    refine r_iconst (q := 22) (v := 5) C dX12_length_21 rfl (by decide) ?_
    refine r_callVI (q := 25) (As := [.int ((5 : Int32))]) wm_X12_348 yvX12_refuse (c_X12_refuse Δ hN ((5 : Int32)) s4) ⟨rfl, by decide⟩ C (nm_12 hN) (by decide) rfl (Nat.le_of_ble_eq_true rfl) dX12_length_22 rfl (fun x13 s14 => ?_)
    exact r_iret C dX12_length_25
