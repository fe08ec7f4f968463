noncomputable def f_X12_ending (a1 : Int32) (st : fSt) : Option (Int32 × fSt) :=
  fIx (((49 : Int32)) + a1) 2150 <|
  fJn (fun (x1 : Int32) (s2 : fSt) =>
    (some (x1, s2))) fun (j3 : Int32 → fSt → Option (Int32 × fSt)) =>
  if 0 ≤ (gA st 12 0 5 (((49 : Int32)) + a1).toNatClampNeg) then
    (fIx (((49 : Int32)) + a1) 2150 <|
    j3 (gA st 12 0 5 (((49 : Int32)) + a1).toNatClampNeg) st)
  else
    (j3 ((9 : Int32)) st)

set_option maxHeartbeats 4000000 in
set_option maxRecDepth 100000 in
theorem c_X12_ending (Δ : fDl) (hN : fNm Δ) (a1 : Int32)  (st : fSt) : fMt eI Δ yX12_ending cX12_ending 2 (some .int) 1 [.ref (fad Δ 12 0 0), .int a1] st (f_X12_ending a1 st) := by
  unfold f_X12_ending
  refine r_method (by decide +kernel) (Nat.le_of_ble_eq_true rfl) (fun Γ C => ?_)
  have C : fC Δ Γ cX12_ending RX12 2 (some .int) 1 := C
  refine r_locs (lc' := [(0, .ref (fad Δ 12 0 0)), (1, .int a1)]) [0, 1] rfl ?_
  refine r_aload_n (q := 1) (i := 0) (z := 0) C dX12_ending_0 rfl rfl rfl ?_
  refine g_X12_35 (q := 4) C (nm_12 hN) dX12_ending_1 rfl ?_
  refine r_bipush (q := 6) (v := 49) C dX12_ending_4 rfl (by decide) ?_
  refine r_iload_n (q := 7) (i := 1) (z := 1) C dX12_ending_6 rfl rfl rfl ?_
  refine r_iadd (q := 8) C dX12_ending_7 rfl ?_
  refine r_ial (q := 9) q_12_5 h_12_5 C (nm_12 hN) dX12_ending_8 rfl ?_
  refine r_join (fun j3 => ∀ (x1 : Int32) (s2 : fSt), fW Δ Γ 2 (fQ eI Δ Γ) 26 [] [.int x1] s2 (j3 x1 s2)) ?_ (fun j3 hj3 => ?_)
  · intro x1 s2
    exact r_iret C dX12_ending_26
  refine r_if_ge (q := 12) (tgt := 17) C dX12_ending_9 (by decide) rfl ?_ ?_
  · refine r_aload_n (q := 18) (i := 0) (z := 0) C dX12_ending_17 rfl rfl rfl ?_
    refine g_X12_35 (q := 21) C (nm_12 hN) dX12_ending_18 rfl ?_
    refine r_bipush (q := 23) (v := 49) C dX12_ending_21 rfl (by decide) ?_
    refine r_iload_n (q := 24) (i := 1) (z := 1) C dX12_ending_23 rfl rfl rfl ?_
    refine r_iadd (q := 25) C dX12_ending_24 rfl ?_
    refine r_ial (q := 26) q_12_5 h_12_5 C (nm_12 hN) dX12_ending_25 rfl ?_
    refine r_locs (lc' := []) [] rfl ?_
    exact hj3 (gA st 12 0 5 (((49 : Int32)) + a1).toNatClampNeg) st
  · refine r_bipush (q := 14) (v := 9) C dX12_ending_12 rfl (by decide) ?_
    refine r_goto (q := 26) C dX12_ending_14 (by decide) ?_
    refine r_locs (lc' := []) [] rfl ?_
    exact hj3 ((9 : Int32)) st

noncomputable def f_X12_curtain_L90 (a1 : Int32) (a2 : Int32) (a3 : Int64) : Nat → Int32 → fSt → Option (Unit × fSt)
  | 0, _, _ => none
  | n19 + 1, x17, s18 =>
      fIx ((2 : Int32)) 2150 <|
      if (gA s18 12 0 5 ((2 : Int32)).toNatClampNeg) ≤ x17 then
        (some ((), s18))
      else
        (fBd (f_X12_has a2 x17 s18) fun x20 s21 =>
        fJn (fun (s22 : fSt) =>
          (fLt (x17 + (1 : Int32)) fun (x24 : Int32) =>
          f_X12_curtain_L90 a1 a2 a3 n19 x24 s22)) fun (j23 : fSt → Option (Unit × fSt)) =>
        if ¬ x20 = 0 then
          (fIx x17 12 <|
          fBd (f_X12_ending a1 s21) fun x25 s26 =>
          fIx x17 12 <|
          fLt (sA s26 12 0 10 (upd (gA s26 12 0 10) x17.toNatClampNeg ((gA s21 12 0 10 x17.toNatClampNeg) ||| (((1 : Int32)) <<< (x25 &&& 31))))) fun s27 =>
          fIx x17 12 <|
          fIx x17 12 <|
          fLt (sB s27 12 0 9 (vp_updL (gB s27 12 0 9) x17.toNatClampNeg ((gB s27 12 0 9 x17.toNatClampNeg) + a3))) fun s28 =>
          fBd (f_X12_breathsOf x17 s28) fun x29 s30 =>
          fLt (sL s30 12 0 31 ((gL s28 12 0 31) + (a3 * x29.toInt64))) fun s31 =>
          j23 s31)
        else
          (j23 s21))

noncomputable def f_X12_curtain (a1 : Int32) (a2 : Int32) (a3 : Int64) (st : fSt) : Option (Unit × fSt) :=
  fLt (sI st 12 0 34 ((gI st 12 0 34) + ((1 : Int32)))) fun s1 =>
  fBd (f_X12_bits a2 s1) fun x2 s3 =>
  fLt (sI s3 12 0 35 (if (gI s1 12 0 35) < x2 then x2 else (gI s1 12 0 35))) fun s4 =>
  fBd (f_X12_bits a2 s4) fun x5 s6 =>
  fLt (sI s6 12 0 36 (if x5 < (gI s4 12 0 36) then x5 else (gI s4 12 0 36))) fun s7 =>
  fLt (sI s7 12 0 37 ((gI s7 12 0 37) ||| a2)) fun s8 =>
  fBd (f_X12_ending a1 s8) fun x9 s10 =>
  fLt (sI s10 12 0 38 ((gI s8 12 0 38) ||| (((1 : Int32)) <<< (x9 &&& 31)))) fun s11 =>
  fIx a2 4096 <|
  fLt (sA s11 12 0 11 (upd (gA s11 12 0 11) a2.toNatClampNeg (vp_nar .boolean ((1 : Int32))))) fun s12 =>
  fBd (f_X12_ending a1 s12) fun x13 s14 =>
  fIx x13 10 <|
  fIx x13 10 <|
  fLt (sB s14 12 0 8 (vp_updL (gB s14 12 0 8) x13.toNatClampNeg ((gB s14 12 0 8 x13.toNatClampNeg) + a3))) fun s15 =>
  fLt ((0 : Int32)) fun (x16 : Int32) =>
  f_X12_curtain_L90 a1 a2 a3 fF x16 s15

set_option maxHeartbeats 4000000 in
set_option maxRecDepth 100000 in
theorem c_X12_curtain (Δ : fDl) (hN : fNm Δ) (a1 : Int32) (a2 : Int32) (a3 : Int64)  (st : fSt) : fMt eV Δ yX12_curtain cX12_curtain 6 none 3 [.ref (fad Δ 12 0 0), .int a1, .int a2, .long a3] st (f_X12_curtain a1 a2 a3 st) := by
  unfold f_X12_curtain
  refine r_method (by decide +kernel) (Nat.le_of_ble_eq_true rfl) (fun Γ C => ?_)
  have C : fC Δ Γ cX12_curtain RX12 6 none 3 := C
  refine r_locs (lc' := [(0, .ref (fad Δ 12 0 0)), (1, .int a1), (2, .int a2), (3, .long a3)]) [0, 1, 2, 3] rfl ?_
  refine r_aload_n (q := 1) (i := 0) (z := 0) C dX12_curtain_0 rfl rfl rfl ?_
  refine r_dup (q := 2) C dX12_curtain_1 rfl rfl ?_
  refine g_X12_447 (q := 5) C (nm_12 hN) dX12_curtain_2 rfl ?_
  refine r_iconst (q := 6) (v := 1) C dX12_curtain_5 rfl (by decide) ?_
  refine r_iadd (q := 7) C dX12_curtain_6 rfl ?_
  refine p_X12_447 (q := 10) C (nm_12 hN) dX12_curtain_7 rfl (fun s1 => ?_)
  refine r_aload_n (q := 11) (i := 0) (z := 0) C dX12_curtain_10 rfl rfl rfl ?_
  refine r_aload_n (q := 12) (i := 0) (z := 0) C dX12_curtain_11 rfl rfl rfl ?_
  refine g_X12_450 (q := 15) C (nm_12 hN) dX12_curtain_12 rfl ?_
  refine r_iload_n (q := 16) (i := 2) (z := 2) C dX12_curtain_15 rfl rfl rfl ?_
  refine r_callSI (q := 19) (As := [.int a2]) wm_X12_342 ysX12_bits (c_X12_bits Δ hN a2 s1) C (by decide) rfl (Nat.le_of_ble_eq_true rfl) dX12_curtain_16 rfl (fun x2 s3 => ?_)
  refine r_max (q := 22) wk_X12_462 mw_max.1 mw_max.2.1 mw_max.2.2 C (by decide) (Nat.le_of_ble_eq_true rfl) dX12_curtain_19 rfl ?_
  refine p_X12_450 (q := 25) C (nm_12 hN) dX12_curtain_22 rfl (fun s4 => ?_)
  refine r_aload_n (q := 26) (i := 0) (z := 0) C dX12_curtain_25 rfl rfl rfl ?_
  refine r_aload_n (q := 27) (i := 0) (z := 0) C dX12_curtain_26 rfl rfl rfl ?_
  refine g_X12_453 (q := 30) C (nm_12 hN) dX12_curtain_27 rfl ?_
  refine r_iload_n (q := 31) (i := 2) (z := 2) C dX12_curtain_30 rfl rfl rfl ?_
  refine r_callSI (q := 34) (As := [.int a2]) wm_X12_342 ysX12_bits (c_X12_bits Δ hN a2 s4) C (by decide) rfl (Nat.le_of_ble_eq_true rfl) dX12_curtain_31 rfl (fun x5 s6 => ?_)
  refine r_min (q := 37) wk_X12_391 mw_min.1 mw_min.2.1 mw_min.2.2 C (by decide) (Nat.le_of_ble_eq_true rfl) dX12_curtain_34 rfl ?_
  refine p_X12_453 (q := 40) C (nm_12 hN) dX12_curtain_37 rfl (fun s7 => ?_)
  refine r_aload_n (q := 41) (i := 0) (z := 0) C dX12_curtain_40 rfl rfl rfl ?_
  refine r_dup (q := 42) C dX12_curtain_41 rfl rfl ?_
  refine g_X12_456 (q := 45) C (nm_12 hN) dX12_curtain_42 rfl ?_
  refine r_iload_n (q := 46) (i := 2) (z := 2) C dX12_curtain_45 rfl rfl rfl ?_
  refine r_ior (q := 47) C dX12_curtain_46 rfl ?_
  refine p_X12_456 (q := 50) C (nm_12 hN) dX12_curtain_47 rfl (fun s8 => ?_)
  refine r_aload_n (q := 51) (i := 0) (z := 0) C dX12_curtain_50 rfl rfl rfl ?_
  refine r_dup (q := 52) C dX12_curtain_51 rfl rfl ?_
  refine g_X12_459 (q := 55) C (nm_12 hN) dX12_curtain_52 rfl ?_
  refine r_iconst (q := 56) (v := 1) C dX12_curtain_55 rfl (by decide) ?_
  refine r_aload_n (q := 57) (i := 0) (z := 0) C dX12_curtain_56 rfl rfl rfl ?_
  refine r_iload_n (q := 58) (i := 1) (z := 1) C dX12_curtain_57 rfl rfl rfl ?_
  refine r_callVI (q := 61) (As := [.int a1]) wm_X12_465 yvX12_ending (c_X12_ending Δ hN a1 s8) ⟨rfl, by decide⟩ C (nm_12 hN) (by decide) rfl (Nat.le_of_ble_eq_true rfl) dX12_curtain_58 rfl (fun x9 s10 => ?_)
  refine r_ishl (q := 62) C dX12_curtain_61 rfl ?_
  refine r_ior (q := 63) C dX12_curtain_62 rfl ?_
  refine p_X12_459 (q := 66) C (nm_12 hN) dX12_curtain_63 rfl (fun s11 => ?_)
  refine r_aload_n (q := 67) (i := 0) (z := 0) C dX12_curtain_66 rfl rfl rfl ?_
  refine g_X12_53 (q := 70) C (nm_12 hN) dX12_curtain_67 rfl ?_
  refine r_iload_n (q := 71) (i := 2) (z := 2) C dX12_curtain_70 rfl rfl rfl ?_
  refine r_iconst (q := 72) (v := 1) C dX12_curtain_71 rfl (by decide) ?_
  refine r_zst (q := 73) q_12_11 h_12_11 C (nm_12 hN) dX12_curtain_72 rfl (fun s12 => ?_)
  refine r_aload_n (q := 74) (i := 0) (z := 0) C dX12_curtain_73 rfl rfl rfl ?_
  refine g_X12_44 (q := 77) C (nm_12 hN) dX12_curtain_74 rfl ?_
  refine r_aload_n (q := 78) (i := 0) (z := 0) C dX12_curtain_77 rfl rfl rfl ?_
  refine r_iload_n (q := 79) (i := 1) (z := 1) C dX12_curtain_78 rfl rfl rfl ?_
  refine r_callVI (q := 82) (As := [.int a1]) wm_X12_465 yvX12_ending (c_X12_ending Δ hN a1 s12) ⟨rfl, by decide⟩ C (nm_12 hN) (by decide) rfl (Nat.le_of_ble_eq_true rfl) dX12_curtain_79 rfl (fun x13 s14 => ?_)
  refine r_dup2 (q := 83) C dX12_curtain_82 rfl rfl rfl ?_
  refine r_lal (q := 84) q_12_8 h_12_8 C (nm_12 hN) dX12_curtain_83 rfl ?_
  refine r_lload_n (q := 85) (i := 3) (z := 3) C dX12_curtain_84 rfl rfl rfl ?_
  refine r_ladd (q := 86) C dX12_curtain_85 rfl ?_
  refine r_lst (q := 87) q_12_8 h_12_8 C (nm_12 hN) dX12_curtain_86 rfl (fun s15 => ?_)
  refine r_iconst (q := 88) (v := 0) C dX12_curtain_87 rfl (by decide) ?_
  refine r_istore (q := 90) (i := 5) [(0, .ref (fad Δ 12 0 0)), (1, .int a1), (2, .int a2), (3, .long a3)] C dX12_curtain_88 rfl (by decide) rfl (fun x16 => ?_)
  refine r_locs (lc' := [(0, .ref (fad Δ 12 0 0)), (1, .int a1), (2, .int a2), (3, .long a3), (5, .int x16)]) [1, 2, 3, 4, 0] rfl ?_
  have L90 : ∀ (n19 : Nat) (x17 : Int32) (s18 : fSt), fW Δ Γ 6 (fQ eV Δ Γ) 90 [(0, .ref (fad Δ 12 0 0)), (1, .int a1), (2, .int a2), (3, .long a3), (5, .int x17)] [] s18 (f_X12_curtain_L90 a1 a2 a3 n19 x17 s18) := by
    intro n19
    induction n19 with
    | zero =>
      intro x17 s18
      rw [f_X12_curtain_L90]
      exact r_none
    | succ n19 ih_n19 =>
      intro x17 s18
      rw [f_X12_curtain_L90]
      refine r_iload (q := 92) (i := 5) (z := 4) C dX12_curtain_90 rfl rfl ?_
      refine r_aload_n (q := 93) (i := 0) (z := 0) C dX12_curtain_92 rfl rfl rfl ?_
      refine g_X12_35 (q := 96) C (nm_12 hN) dX12_curtain_93 rfl ?_
      refine r_iconst (q := 97) (v := 2) C dX12_curtain_96 rfl (by decide) ?_
      refine r_ial (q := 98) q_12_5 h_12_5 C (nm_12 hN) dX12_curtain_97 rfl ?_
      refine r_icmp_ge (q := 101) (tgt := 165) C dX12_curtain_98 (by decide) rfl ?_ ?_
      · exact r_vret C dX12_curtain_165
      · refine r_iload_n (q := 102) (i := 2) (z := 2) C dX12_curtain_101 rfl rfl rfl ?_
        refine r_iload (q := 104) (i := 5) (z := 4) C dX12_curtain_102 rfl rfl ?_
        refine r_callSI (q := 107) (As := [.int a2, .int x17]) wm_X12_373 ysX12_has (c_X12_has Δ hN a2 x17 s18) C (by decide) rfl (Nat.le_of_ble_eq_true rfl) dX12_curtain_104 rfl (fun x20 s21 => ?_)
        refine r_join (fun j23 => ∀  (s22 : fSt), fW Δ Γ 6 (fQ eV Δ Γ) 159 [(0, .ref (fad Δ 12 0 0)), (1, .int a1), (2, .int a2), (3, .long a3), (5, .int x17)] [] s22 (j23 s22)) ?_ (fun j23 hj23 => ?_)
        · intro s22
          refine r_iinc (q := 162) (z := 4) (d := 1) [(0, .ref (fad Δ 12 0 0)), (1, .int a1), (2, .int a2), (3, .long a3)] C dX12_curtain_159 rfl rfl (by decide) (by decide) rfl (fun x24 => ?_)
          refine r_goto (q := 90) C dX12_curtain_162 (by decide) ?_
          refine r_locs (lc' := [(0, .ref (fad Δ 12 0 0)), (1, .int a1), (2, .int a2), (3, .long a3), (5, .int x24)]) [1, 2, 3, 4, 0] rfl ?_
          exact ih_n19 x24 s22
        refine r_if_ne (q := 110) (tgt := 113) C dX12_curtain_107 (by decide) rfl ?_ ?_
        · refine r_aload_n (q := 114) (i := 0) (z := 0) C dX12_curtain_113 rfl rfl rfl ?_
          refine g_X12_50 (q := 117) C (nm_12 hN) dX12_curtain_114 rfl ?_
          refine r_iload (q := 119) (i := 5) (z := 4) C dX12_curtain_117 rfl rfl ?_
          refine r_dup2 (q := 120) C dX12_curtain_119 rfl rfl rfl ?_
          refine r_ial (q := 121) q_12_10 h_12_10 C (nm_12 hN) dX12_curtain_120 rfl ?_
          refine r_iconst (q := 122) (v := 1) C dX12_curtain_121 rfl (by decide) ?_
          refine r_aload_n (q := 123) (i := 0) (z := 0) C dX12_curtain_122 rfl rfl rfl ?_
          refine r_iload_n (q := 124) (i := 1) (z := 1) C dX12_curtain_123 rfl rfl rfl ?_
          refine r_callVI (q := 127) (As := [.int a1]) wm_X12_465 yvX12_ending (c_X12_ending Δ hN a1 s21) ⟨rfl, by decide⟩ C (nm_12 hN) (by decide) rfl (Nat.le_of_ble_eq_true rfl) dX12_curtain_124 rfl (fun x25 s26 => ?_)
          refine r_ishl (q := 128) C dX12_curtain_127 rfl ?_
          refine r_ior (q := 129) C dX12_curtain_128 rfl ?_
          refine r_ast (q := 130) q_12_10 h_12_10 C (nm_12 hN) dX12_curtain_129 rfl (fun s27 => ?_)
          refine r_aload_n (q := 131) (i := 0) (z := 0) C dX12_curtain_130 rfl rfl rfl ?_
          refine g_X12_47 (q := 134) C (nm_12 hN) dX12_curtain_131 rfl ?_
          refine r_iload (q := 136) (i := 5) (z := 4) C dX12_curtain_134 rfl rfl ?_
          refine r_dup2 (q := 137) C dX12_curtain_136 rfl rfl rfl ?_
          refine r_lal (q := 138) q_12_9 h_12_9 C (nm_12 hN) dX12_curtain_137 rfl ?_
          refine r_lload_n (q := 139) (i := 3) (z := 3) C dX12_curtain_138 rfl rfl rfl ?_
          refine r_ladd (q := 140) C dX12_curtain_139 rfl ?_
          refine r_lst (q := 141) q_12_9 h_12_9 C (nm_12 hN) dX12_curtain_140 rfl (fun s28 => ?_)
          refine r_aload_n (q := 142) (i := 0) (z := 0) C dX12_curtain_141 rfl rfl rfl ?_
          refine r_dup (q := 143) C dX12_curtain_142 rfl rfl ?_
          refine g_X12_444 (q := 146) C (nm_12 hN) dX12_curtain_143 rfl ?_
          refine r_lload_n (q := 147) (i := 3) (z := 3) C dX12_curtain_146 rfl rfl rfl ?_
          refine r_aload_n (q := 148) (i := 0) (z := 0) C dX12_curtain_147 rfl rfl rfl ?_
          refine r_iload (q := 150) (i := 5) (z := 4) C dX12_curtain_148 rfl rfl ?_
          refine r_callVI (q := 153) (As := [.int x17]) wm_X12_357 yvX12_breathsOf (c_X12_breathsOf Δ hN x17 s28) ⟨rfl, by decide⟩ C (nm_12 hN) (by decide) rfl (Nat.le_of_ble_eq_true rfl) dX12_curtain_150 rfl (fun x29 s30 => ?_)
          refine r_i2l (q := 154) C dX12_curtain_153 rfl ?_
          refine r_lmul (q := 155) C dX12_curtain_154 rfl ?_
          refine r_ladd (q := 156) C dX12_curtain_155 rfl ?_
          refine p_X12_444 (q := 159) C (nm_12 hN) dX12_curtain_156 rfl (fun s31 => ?_)
          exact hj23 s31
        · refine r_goto (q := 159) C dX12_curtain_110 (by decide) ?_
          exact hj23 s21
  exact L90 fF x16 s15

noncomputable def f_X12_sixteenths (a1 : Int32) (a2 : Int32) (st : fSt) : Option (Int32 × fSt) :=
  if 0 ≤ a1 then
    (fIx (((125 : Int32)) + a1) 2150 <|
    fIx (((129 : Int32)) + a1) 2150 <|
    fIx (((133 : Int32)) + a1) 2150 <|
    fLt (((((16 : Int32)) - (gA st 12 0 5 (((125 : Int32)) + a1).toNatClampNeg)) - (gA st 12 0 5 (((129 : Int32)) + a1).toNatClampNeg)) - (gA st 12 0 5 (((133 : Int32)) + a1).toNatClampNeg)) fun (x1 : Int32) =>
    fJn (fun (x2 : Int32) (s3 : fSt) =>
      (some (x2, s3))) fun (j4 : Int32 → fSt → Option (Int32 × fSt)) =>
    if ¬ a2 = 0 then
      (if ¬ a2 = ((1 : Int32)) then
        (if ¬ a2 = ((2 : Int32)) then
          (fIx (((133 : Int32)) + a1) 2150 <|
          j4 (gA st 12 0 5 (((133 : Int32)) + a1).toNatClampNeg) st)
        else
          (fIx (((129 : Int32)) + a1) 2150 <|
          j4 (gA st 12 0 5 (((129 : Int32)) + a1).toNatClampNeg) st))
      else
        (fIx (((125 : Int32)) + a1) 2150 <|
        j4 (gA st 12 0 5 (((125 : Int32)) + a1).toNatClampNeg) st))
    else
      (j4 x1 st))
  else
    (some ((4 : Int32), st))

set_option maxHeartbeats 4000000 in
set_option maxRecDepth 100000 in
theorem c_X12_sixteenths (Δ : fDl) (hN : fNm Δ) (a1 : Int32) (a2 : Int32)  (st : fSt) : fMt eI Δ yX12_sixteenths cX12_sixteenths 4 (some .int) 1 [.ref (fad Δ 12 0 0), .int a1, .int a2] st (f_X12_sixteenths a1 a2 st) := by
  unfold f_X12_sixteenths
  refine r_method (by decide +kernel) (Nat.le_of_ble_eq_true rfl) (fun Γ C => ?_)
  have C : fC Δ Γ cX12_sixteenths RX12 4 (some .int) 1 := C
  refine r_locs (lc' := [(0, .ref (fad Δ 12 0 0)), (1, .int a1), (2, .int a2)]) [0, 1, 2] rfl ?_
  refine r_iload_n (q := 1) (i := 1) (z := 1) C dX12_sixteenths_0 rfl rfl rfl ?_
  refine r_if_ge (q := 4) (tgt := 6) C dX12_sixteenths_1 (by decide) rfl ?_ ?_
  · refine r_bipush (q := 8) (v := 16) C dX12_sixteenths_6 rfl (by decide) ?_
    refine r_aload_n (q := 9) (i := 0) (z := 0) C dX12_sixteenths_8 rfl rfl rfl ?_
    refine g_X12_35 (q := 12) C (nm_12 hN) dX12_sixteenths_9 rfl ?_
    refine r_bipush (q := 14) (v := 125) C dX12_sixteenths_12 rfl (by decide) ?_
    refine r_iload_n (q := 15) (i := 1) (z := 1) C dX12_sixteenths_14 rfl rfl rfl ?_
    refine r_iadd (q := 16) C dX12_sixteenths_15 rfl ?_
    refine r_ial (q := 17) q_12_5 h_12_5 C (nm_12 hN) dX12_sixteenths_16 rfl ?_
    refine r_isub (q := 18) C dX12_sixteenths_17 rfl ?_
    refine r_aload_n (q := 19) (i := 0) (z := 0) C dX12_sixteenths_18 rfl rfl rfl ?_
    refine g_X12_35 (q := 22) C (nm_12 hN) dX12_sixteenths_19 rfl ?_
    refine r_sipush (q := 25) (v := 129) C dX12_sixteenths_22 rfl (by decide) ?_
    refine r_iload_n (q := 26) (i := 1) (z := 1) C dX12_sixteenths_25 rfl rfl rfl ?_
    refine r_iadd (q := 27) C dX12_sixteenths_26 rfl ?_
    refine r_ial (q := 28) q_12_5 h_12_5 C (nm_12 hN) dX12_sixteenths_27 rfl ?_
    refine r_isub (q := 29) C dX12_sixteenths_28 rfl ?_
    refine r_aload_n (q := 30) (i := 0) (z := 0) C dX12_sixteenths_29 rfl rfl rfl ?_
    refine g_X12_35 (q := 33) C (nm_12 hN) dX12_sixteenths_30 rfl ?_
    refine r_sipush (q := 36) (v := 133) C dX12_sixteenths_33 rfl (by decide) ?_
    refine r_iload_n (q := 37) (i := 1) (z := 1) C dX12_sixteenths_36 rfl rfl rfl ?_
    refine r_iadd (q := 38) C dX12_sixteenths_37 rfl ?_
    refine r_ial (q := 39) q_12_5 h_12_5 C (nm_12 hN) dX12_sixteenths_38 rfl ?_
    refine r_isub (q := 40) C dX12_sixteenths_39 rfl ?_
    refine r_istore_n (q := 41) (i := 3) [(0, .ref (fad Δ 12 0 0)), (1, .int a1), (2, .int a2)] C dX12_sixteenths_40 rfl rfl (by decide) rfl (fun x1 => ?_)
    refine r_iload_n (q := 42) (i := 2) (z := 3) C dX12_sixteenths_41 rfl rfl rfl ?_
    refine r_join (fun j4 => ∀ (x2 : Int32) (s3 : fSt), fW Δ Γ 4 (fQ eI Δ Γ) 94 [] [.int x2] s3 (j4 x2 s3)) ?_ (fun j4 hj4 => ?_)
    · intro x2 s3
      exact r_iret C dX12_sixteenths_94
    refine r_if_ne (q := 45) (tgt := 49) C dX12_sixteenths_42 (by decide) rfl ?_ ?_
    · refine r_iload_n (q := 50) (i := 2) (z := 3) C dX12_sixteenths_49 rfl rfl rfl ?_
      refine r_iconst (q := 51) (v := 1) C dX12_sixteenths_50 rfl (by decide) ?_
      refine r_icmp_ne (q := 54) (tgt := 66) C dX12_sixteenths_51 (by decide) rfl ?_ ?_
      · refine r_iload_n (q := 67) (i := 2) (z := 3) C dX12_sixteenths_66 rfl rfl rfl ?_
        refine r_iconst (q := 68) (v := 2) C dX12_sixteenths_67 rfl (by decide) ?_
        refine r_icmp_ne (q := 71) (tgt := 84) C dX12_sixteenths_68 (by decide) rfl ?_ ?_
        · refine r_aload_n (q := 85) (i := 0) (z := 1) C dX12_sixteenths_84 rfl rfl rfl ?_
          refine g_X12_35 (q := 88) C (nm_12 hN) dX12_sixteenths_85 rfl ?_
          refine r_sipush (q := 91) (v := 133) C dX12_sixteenths_88 rfl (by decide) ?_
          refine r_iload_n (q := 92) (i := 1) (z := 2) C dX12_sixteenths_91 rfl rfl rfl ?_
          refine r_iadd (q := 93) C dX12_sixteenths_92 rfl ?_
          refine r_ial (q := 94) q_12_5 h_12_5 C (nm_12 hN) dX12_sixteenths_93 rfl ?_
          refine r_locs (lc' := []) [] rfl ?_
          exact hj4 (gA st 12 0 5 (((133 : Int32)) + a1).toNatClampNeg) st
        · refine r_aload_n (q := 72) (i := 0) (z := 1) C dX12_sixteenths_71 rfl rfl rfl ?_
          refine g_X12_35 (q := 75) C (nm_12 hN) dX12_sixteenths_72 rfl ?_
          refine r_sipush (q := 78) (v := 129) C dX12_sixteenths_75 rfl (by decide) ?_
          refine r_iload_n (q := 79) (i := 1) (z := 2) C dX12_sixteenths_78 rfl rfl rfl ?_
          refine r_iadd (q := 80) C dX12_sixteenths_79 rfl ?_
          refine r_ial (q := 81) q_12_5 h_12_5 C (nm_12 hN) dX12_sixteenths_80 rfl ?_
          refine r_goto (q := 94) C dX12_sixteenths_81 (by decide) ?_
          refine r_locs (lc' := []) [] rfl ?_
          exact hj4 (gA st 12 0 5 (((129 : Int32)) + a1).toNatClampNeg) st
      · refine r_aload_n (q := 55) (i := 0) (z := 1) C dX12_sixteenths_54 rfl rfl rfl ?_
        refine g_X12_35 (q := 58) C (nm_12 hN) dX12_sixteenths_55 rfl ?_
        refine r_bipush (q := 60) (v := 125) C dX12_sixteenths_58 rfl (by decide) ?_
        refine r_iload_n (q := 61) (i := 1) (z := 2) C dX12_sixteenths_60 rfl rfl rfl ?_
        refine r_iadd (q := 62) C dX12_sixteenths_61 rfl ?_
        refine r_ial (q := 63) q_12_5 h_12_5 C (nm_12 hN) dX12_sixteenths_62 rfl ?_
        refine r_goto (q := 94) C dX12_sixteenths_63 (by decide) ?_
        refine r_locs (lc' := []) [] rfl ?_
        exact hj4 (gA st 12 0 5 (((125 : Int32)) + a1).toNatClampNeg) st
    · refine r_iload_n (q := 46) (i := 3) (z := 0) C dX12_sixteenths_45 rfl rfl rfl ?_
      refine r_goto (q := 94) C dX12_sixteenths_46 (by decide) ?_
      refine r_locs (lc' := []) [] rfl ?_
      exact hj4 x1 st
  · refine r_iconst (q := 5) (v := 4) C dX12_sixteenths_4 rfl (by decide) ?_
    exact r_iret C dX12_sixteenths_5

noncomputable def f_X12_goThrough_L90 (a1 : Int32) (a2 : Int32) (a6 : Int32) (x8 : Int32) (x13 : Int32) (k20 : Int32 → Int32 → fSt → Option (Unit × fSt)) : Nat → Int32 → Int32 → Int32 → fSt → Option (Unit × fSt)
  | 0, _, _, _, _ => none
  | n33 + 1, x29, x30, x31, s32 =>
      if ((4 : Int32)) ≤ x31 then
                  (k20 x29 x30 s32)
                else
                  (fBd (f_X12_behind2 a1 x31 a2 s32) fun x34 s35 =>
                  fJn (fun (x36 : Int32) (x37 : Int32) (s38 : fSt) =>
                    (fLt (x31 + (1 : Int32)) fun (x40 : Int32) =>
                    f_X12_goThrough_L90 a1 a2 a6 x8 x13 k20 n33 x36 x37 x40 s38)) fun (j39 : Int32 → Int32 → fSt → Option (Unit × fSt)) =>
                  if x34 = x13 then
                    (fJn (fun (x41 : Int32) (s42 : fSt) =>
                      (fLt x41 fun (x44 : Int32) =>
                      fBd (f_X12_sixteenths a6 x31 s42) fun x45 s46 =>
                      fLt (x30 + x45) fun (x47 : Int32) =>
                      j39 x44 x47 s46)) fun (j43 : Int32 → fSt → Option (Unit × fSt)) =>
                    fJn (fun (s48 : fSt) =>
                      (j43 ((1 : Int32)) s48)) fun (j49 : fSt → Option (Unit × fSt)) =>
                    if ¬ x29 = 0 then
                      (j49 s35)
                    else
                      (if x8 ≤ x31 then
                        (j43 ((0 : Int32)) s35)
                      else
                        (j49 s35)))
                  else
                    (j39 x29 x30 s35))

noncomputable def f_X12_goThrough_L65 (rec : Int32 → Int32 → Int32 → Int64 → Int32 → fSt → Option (Unit × fSt)) (a1 : Int32) (a2 : Int32) (a4 : Int64) (a6 : Int32) (x1 : Int32) : Nat → Int32 → fSt → Option (Unit × fSt)
  | 0, _, _ => none
  | n10 + 1, x8, s9 =>
      if ((4 : Int32)) ≤ x8 then
            (some ((), s9))
          else
            (fBd (f_X12_behind2 a1 x8 a2 s9) fun x11 s12 =>
            fLt x11 fun (x13 : Int32) =>
            fLt ((0 : Int32)) fun (x14 : Int32) =>
            fLt ((0 : Int32)) fun (x15 : Int32) =>
            fLt ((0 : Int32)) fun (x16 : Int32) =>
            fJn (fun (x17 : Int32) (x18 : Int32) (s19 : fSt) =>
              (fJn (fun (s21 : fSt) =>
                (fLt (x8 + (1 : Int32)) fun (x23 : Int32) =>
                f_X12_goThrough_L65 rec a1 a2 a4 a6 x1 n10 x23 s21)) fun (j22 : fSt → Option (Unit × fSt)) =>
              if x17 = 0 then
                (fNz ((16 : Int64)) <|
                fLt ((a4 / ((16 : Int64))) * x18.toInt64) fun (x24 : Int64) =>
                if 0 ≤ x13 then
                  (fBd (f_X12_kills a1 a2 s19) fun x25 s26 =>
                  fBd (rec x13 x25 x1 x24 a6 s26) fun _ s27 =>
                  j22 s27)
                else
                  (fBd (f_X12_curtain a1 x1 x24 s19) fun _ s28 =>
                  j22 s28))
              else
                (j22 s19))) fun (k20 : Int32 → Int32 → fSt → Option (Unit × fSt)) =>
            f_X12_goThrough_L90 a1 a2 a6 x8 x13 k20 fF x14 x15 x16 s12)

noncomputable def f_X12_goThrough_L13 (a1 : Int32) (a2 : Int32) (k6 : Int32 → fSt → Option (Unit × fSt)) : Nat → Int32 → Int32 → fSt → Option (Unit × fSt)
  | 0, _, _, _ => none
  | n54 + 1, x51, x52, s53 =>
      if ((4 : Int32)) ≤ x52 then
        (k6 x51 s53)
      else
        (fBd (f_X12_behind2 a1 x52 a2 s53) fun x55 s56 =>
        fJn (fun (x57 : Int32) (s58 : fSt) =>
          (fLt (x51 + x57) fun (x60 : Int32) =>
          fLt (x52 + (1 : Int32)) fun (x61 : Int32) =>
          f_X12_goThrough_L13 a1 a2 k6 n54 x60 x61 s58)) fun (j59 : Int32 → fSt → Option (Unit × fSt)) =>
        if 0 ≤ x55 then
          (j59 ((0 : Int32)) s56)
        else
          (j59 ((1 : Int32)) s56))

noncomputable def f_X12_goThrough_b (rec : Int32 → Int32 → Int32 → Int64 → Int32 → fSt → Option (Unit × fSt)) (a1 : Int32) (a2 : Int32) (a3 : Int32) (a4 : Int64) (a6 : Int32) (st : fSt) : Option (Unit × fSt) :=
  fLt (a3 ||| (((1 : Int32)) <<< (a1 &&& 31))) fun (x1 : Int32) =>
  fLt ((0 : Int32)) fun (x2 : Int32) =>
  fLt ((0 : Int32)) fun (x3 : Int32) =>
  fJn (fun (x4 : Int32) (s5 : fSt) =>
    (if ¬ x4 = ((4 : Int32)) then
      (fLt ((0 : Int32)) fun (x7 : Int32) =>
      f_X12_goThrough_L65 rec a1 a2 a4 a6 x1 fF x7 s5)
    else
      (fBd (f_X12_curtain a1 x1 a4 s5) fun _ s50 =>
      some ((), s50)))) fun (k6 : Int32 → fSt → Option (Unit × fSt)) =>
  f_X12_goThrough_L13 a1 a2 k6 fF x2 x3 st

set_option maxHeartbeats 4000000 in
set_option maxRecDepth 100000 in
theorem c_X12_goThrough_b (Δ : fDl) (hN : fNm Δ) (lv0 : Nat) (hlv : 3 ≤ lv0) (rec : Int32 → Int32 → Int32 → Int64 → Int32 → fSt → Option (Unit × fSt)) (hrec : ∀ (a1 : Int32) (a2 : Int32) (a3 : Int32) (a4 : Int64) (a6 : Int32) (st : fSt), fMt eV Δ yX12_goThrough cX12_goThrough 15 none lv0 [.ref (fad Δ 12 0 0), .int a1, .int a2, .int a3, .long a4, .int a6] st (rec a1 a2 a3 a4 a6 st)) (a1 : Int32) (a2 : Int32) (a3 : Int32) (a4 : Int64) (a6 : Int32) (st : fSt) : fMt eV Δ yX12_goThrough cX12_goThrough 15 none (lv0 + 1) [.ref (fad Δ 12 0 0), .int a1, .int a2, .int a3, .long a4, .int a6] st (f_X12_goThrough_b rec a1 a2 a3 a4 a6 st) := by
  unfold f_X12_goThrough_b
  refine r_method (by decide +kernel) (Nat.le_of_ble_eq_true rfl) (fun Γ C => ?_)
  have C : fC Δ Γ cX12_goThrough RX12 15 none (lv0 + 1) := C
  refine r_locs (lc' := [(0, .ref (fad Δ 12 0 0)), (1, .int a1), (2, .int a2), (3, .int a3), (4, .long a4), (6, .int a6)]) [0, 1, 2, 3, 4, 5] rfl ?_
  refine r_iload_n (q := 1) (i := 3) (z := 3) C dX12_goThrough_0 rfl rfl rfl ?_
  refine r_iconst (q := 2) (v := 1) C dX12_goThrough_1 rfl (by decide) ?_
  refine r_iload_n (q := 3) (i := 1) (z := 1) C dX12_goThrough_2 rfl rfl rfl ?_
  refine r_ishl (q := 4) C dX12_goThrough_3 rfl ?_
  refine r_ior (q := 5) C dX12_goThrough_4 rfl ?_
  refine r_istore (q := 7) (i := 7) [(0, .ref (fad Δ 12 0 0)), (1, .int a1), (2, .int a2), (3, .int a3), (4, .long a4), (6, .int a6)] C dX12_goThrough_5 rfl (by decide) rfl (fun x1 => ?_)
  refine r_iconst (q := 8) (v := 0) C dX12_goThrough_7 rfl (by decide) ?_
  refine r_istore (q := 10) (i := 8) [(7, .int x1), (0, .ref (fad Δ 12 0 0)), (1, .int a1), (2, .int a2), (3, .int a3), (4, .long a4), (6, .int a6)] C dX12_goThrough_8 rfl (by decide) rfl (fun x2 => ?_)
  refine r_iconst (q := 11) (v := 0) C dX12_goThrough_10 rfl (by decide) ?_
  refine r_istore (q := 13) (i := 9) [(8, .int x2), (7, .int x1), (0, .ref (fad Δ 12 0 0)), (1, .int a1), (2, .int a2), (3, .int a3), (4, .long a4), (6, .int a6)] C dX12_goThrough_11 rfl (by decide) rfl (fun x3 => ?_)
  refine r_join (fun k6 => ∀ (x4 : Int32) (s5 : fSt), fW Δ Γ 15 (fQ eV Δ Γ) 46 [(0, .ref (fad Δ 12 0 0)), (1, .int a1), (2, .int a2), (4, .long a4), (6, .int a6), (7, .int x1), (8, .int x4)] [] s5 (k6 x4 s5)) ?_ (fun k6 hk6 => ?_)
  · intro x4 s5
    refine r_iload (q := 48) (i := 8) (z := 6) C dX12_goThrough_46 rfl rfl ?_
    refine r_iconst (q := 49) (v := 4) C dX12_goThrough_48 rfl (by decide) ?_
    refine r_icmp_ne (q := 52) (tgt := 62) C dX12_goThrough_49 (by decide) rfl ?_ ?_
    · refine r_iconst (q := 63) (v := 0) C dX12_goThrough_62 rfl (by decide) ?_
      refine r_istore (q := 65) (i := 9) [(0, .ref (fad Δ 12 0 0)), (1, .int a1), (2, .int a2), (4, .long a4), (6, .int a6), (7, .int x1), (8, .int x4)] C dX12_goThrough_63 rfl (by decide) rfl (fun x7 => ?_)
      refine r_locs (lc' := [(0, .ref (fad Δ 12 0 0)), (1, .int a1), (2, .int a2), (4, .long a4), (6, .int a6), (7, .int x1), (9, .int x7)]) [1, 2, 3, 4, 5, 6, 0] rfl ?_
      have L65 : ∀ (n10 : Nat) (x8 : Int32) (s9 : fSt), fW Δ Γ 15 (fQ eV Δ Γ) 65 [(0, .ref (fad Δ 12 0 0)), (1, .int a1), (2, .int a2), (4, .long a4), (6, .int a6), (7, .int x1), (9, .int x8)] [] s9 (f_X12_goThrough_L65 rec a1 a2 a4 a6 x1 n10 x8 s9) := by
        intro n10
        induction n10 with
        | zero =>
          intro x8 s9
          rw [f_X12_goThrough_L65]
          exact r_none
        | succ n10 ih_n10 =>
          intro x8 s9
          rw [f_X12_goThrough_L65]
          refine r_iload (q := 67) (i := 9) (z := 6) C dX12_goThrough_65 rfl rfl ?_
          refine r_iconst (q := 68) (v := 4) C dX12_goThrough_67 rfl (by decide) ?_
          refine r_icmp_ge (q := 71) (tgt := 211) C dX12_goThrough_68 (by decide) rfl ?_ ?_
          · exact r_vret C dX12_goThrough_211
          · refine r_aload_n (q := 72) (i := 0) (z := 0) C dX12_goThrough_71 rfl rfl rfl ?_
            refine r_iload_n (q := 73) (i := 1) (z := 1) C dX12_goThrough_72 rfl rfl rfl ?_
            refine r_iload (q := 75) (i := 9) (z := 6) C dX12_goThrough_73 rfl rfl ?_
            refine r_iload_n (q := 76) (i := 2) (z := 2) C dX12_goThrough_75 rfl rfl rfl ?_
            refine r_callVI (q := 79) (As := [.int a1, .int x8, .int a2]) wm_X12_412 yvX12_behind2 (c_X12_behind2 Δ hN a1 x8 a2 s9) ⟨rfl, by decide⟩ C (nm_12 hN) (by omega) rfl (Nat.le_of_ble_eq_true rfl) dX12_goThrough_76 rfl (fun x11 s12 => ?_)
            refine r_istore (q := 81) (i := 10) [(0, .ref (fad Δ 12 0 0)), (1, .int a1), (2, .int a2), (4, .long a4), (6, .int a6), (7, .int x1), (9, .int x8)] C dX12_goThrough_79 rfl (by decide) rfl (fun x13 => ?_)
            refine r_iconst (q := 82) (v := 0) C dX12_goThrough_81 rfl (by decide) ?_
            refine r_istore (q := 84) (i := 11) [(10, .int x13), (0, .ref (fad Δ 12 0 0)), (1, .int a1), (2, .int a2), (4, .long a4), (6, .int a6), (7, .int x1), (9, .int x8)] C dX12_goThrough_82 rfl (by decide) rfl (fun x14 => ?_)
            refine r_iconst (q := 85) (v := 0) C dX12_goThrough_84 rfl (by decide) ?_
            refine r_istore (q := 87) (i := 12) [(11, .int x14), (10, .int x13), (0, .ref (fad Δ 12 0 0)), (1, .int a1), (2, .int a2), (4, .long a4), (6, .int a6), (7, .int x1), (9, .int x8)] C dX12_goThrough_85 rfl (by decide) rfl (fun x15 => ?_)
            refine r_iconst (q := 88) (v := 0) C dX12_goThrough_87 rfl (by decide) ?_
            refine r_istore (q := 90) (i := 13) [(12, .int x15), (11, .int x14), (10, .int x13), (0, .ref (fad Δ 12 0 0)), (1, .int a1), (2, .int a2), (4, .long a4), (6, .int a6), (7, .int x1), (9, .int x8)] C dX12_goThrough_88 rfl (by decide) rfl (fun x16 => ?_)
            refine r_join (fun k20 => ∀ (x17 : Int32) (x18 : Int32) (s19 : fSt), fW Δ Γ 15 (fQ eV Δ Γ) 150 [(0, .ref (fad Δ 12 0 0)), (1, .int a1), (2, .int a2), (4, .long a4), (6, .int a6), (7, .int x1), (9, .int x8), (10, .int x13), (11, .int x17), (12, .int x18)] [] s19 (k20 x17 x18 s19)) ?_ (fun k20 hk20 => ?_)
            · intro x17 x18 s19
              refine r_iload (q := 152) (i := 11) (z := 8) C dX12_goThrough_150 rfl rfl ?_
              refine r_join (fun j22 => ∀  (s21 : fSt), fW Δ Γ 15 (fQ eV Δ Γ) 205 [(0, .ref (fad Δ 12 0 0)), (1, .int a1), (2, .int a2), (4, .long a4), (6, .int a6), (7, .int x1), (9, .int x8)] [] s21 (j22 s21)) ?_ (fun j22 hj22 => ?_)
              · intro s21
                refine r_iinc (q := 208) (z := 6) (d := 1) [(0, .ref (fad Δ 12 0 0)), (1, .int a1), (2, .int a2), (4, .long a4), (6, .int a6), (7, .int x1)] C dX12_goThrough_205 rfl rfl (by decide) (by decide) rfl (fun x23 => ?_)
                refine r_goto (q := 65) C dX12_goThrough_208 (by decide) ?_
                refine r_locs (lc' := [(0, .ref (fad Δ 12 0 0)), (1, .int a1), (2, .int a2), (4, .long a4), (6, .int a6), (7, .int x1), (9, .int x23)]) [1, 2, 3, 4, 5, 6, 0] rfl ?_
                exact ih_n10 x23 s21
              refine r_if_eq (q := 155) (tgt := 158) C dX12_goThrough_152 (by decide) rfl ?_ ?_
              · refine r_lload (q := 160) (i := 4) (z := 3) C dX12_goThrough_158 rfl rfl ?_
                refine r_ldc2 (q := 163) C dX12_goThrough_160 rfl wl_X12_475 ?_
                refine r_ldiv (q := 164) C dX12_goThrough_163 rfl ?_
                refine r_iload (q := 166) (i := 12) (z := 9) C dX12_goThrough_164 rfl rfl ?_
                refine r_i2l (q := 167) C dX12_goThrough_166 rfl ?_
                refine r_lmul (q := 168) C dX12_goThrough_167 rfl ?_
                refine r_lstore (q := 170) (i := 13) [(0, .ref (fad Δ 12 0 0)), (1, .int a1), (2, .int a2), (4, .long a4), (6, .int a6), (7, .int x1), (9, .int x8), (10, .int x13), (11, .int x17), (12, .int x18)] C dX12_goThrough_168 rfl (by decide) rfl (fun x24 => ?_)
                refine r_iload (q := 172) (i := 10) (z := 8) C dX12_goThrough_170 rfl rfl ?_
                refine r_if_ge (q := 175) (tgt := 187) C dX12_goThrough_172 (by decide) rfl ?_ ?_
                · refine r_aload_n (q := 188) (i := 0) (z := 1) C dX12_goThrough_187 rfl rfl rfl ?_
                  refine r_iload (q := 190) (i := 10) (z := 8) C dX12_goThrough_188 rfl rfl ?_
                  refine r_aload_n (q := 191) (i := 0) (z := 1) C dX12_goThrough_190 rfl rfl rfl ?_
                  refine r_iload_n (q := 192) (i := 1) (z := 2) C dX12_goThrough_191 rfl rfl rfl ?_
                  refine r_iload_n (q := 193) (i := 2) (z := 3) C dX12_goThrough_192 rfl rfl rfl ?_
                  refine r_callVI (q := 196) (As := [.int a1, .int a2]) wm_X12_379 yvX12_kills (c_X12_kills Δ hN a1 a2 s19) ⟨rfl, by decide⟩ C (nm_12 hN) (by omega) rfl (Nat.le_of_ble_eq_true rfl) dX12_goThrough_193 rfl (fun x25 s26 => ?_)
                  refine r_iload (q := 198) (i := 7) (z := 6) C dX12_goThrough_196 rfl rfl ?_
                  refine r_lload (q := 200) (i := 13) (z := 0) C dX12_goThrough_198 rfl rfl ?_
                  refine r_iload (q := 202) (i := 6) (z := 5) C dX12_goThrough_200 rfl rfl ?_
                  refine r_callVV (q := 205) (As := [.int x13, .int x25, .int x1, .long x24, .int a6]) wm_X12_477 yvX12_goThrough (hrec x13 x25 x1 x24 a6 s26) ⟨rfl, by decide⟩ C (nm_12 hN) (Nat.le_refl _) rfl (Nat.le_of_ble_eq_true rfl) dX12_goThrough_202 rfl (fun _ s27 => ?_)
                  refine r_locs (lc' := [(0, .ref (fad Δ 12 0 0)), (1, .int a1), (2, .int a2), (4, .long a4), (6, .int a6), (7, .int x1), (9, .int x8)]) [1, 2, 3, 4, 5, 6, 7] rfl ?_
                  exact hj22 s27
                · refine r_aload_n (q := 176) (i := 0) (z := 1) C dX12_goThrough_175 rfl rfl rfl ?_
                  refine r_iload_n (q := 177) (i := 1) (z := 2) C dX12_goThrough_176 rfl rfl rfl ?_
                  refine r_iload (q := 179) (i := 7) (z := 6) C dX12_goThrough_177 rfl rfl ?_
                  refine r_lload (q := 181) (i := 13) (z := 0) C dX12_goThrough_179 rfl rfl ?_
                  refine r_callVV (q := 184) (As := [.int a1, .int x1, .long x24]) wm_X12_468 yvX12_curtain (c_X12_curtain Δ hN a1 x1 x24 s19) ⟨rfl, by decide⟩ C (nm_12 hN) (by omega) rfl (Nat.le_of_ble_eq_true rfl) dX12_goThrough_181 rfl (fun _ s28 => ?_)
                  refine r_goto (q := 205) C dX12_goThrough_184 (by decide) ?_
                  refine r_locs (lc' := [(0, .ref (fad Δ 12 0 0)), (1, .int a1), (2, .int a2), (4, .long a4), (6, .int a6), (7, .int x1), (9, .int x8)]) [1, 2, 3, 4, 5, 6, 7] rfl ?_
                  exact hj22 s28
              · refine r_goto (q := 205) C dX12_goThrough_155 (by decide) ?_
                refine r_locs (lc' := [(0, .ref (fad Δ 12 0 0)), (1, .int a1), (2, .int a2), (4, .long a4), (6, .int a6), (7, .int x1), (9, .int x8)]) [0, 1, 2, 3, 4, 5, 6] rfl ?_
                exact hj22 s19
            refine r_locs (lc' := [(0, .ref (fad Δ 12 0 0)), (1, .int a1), (2, .int a2), (4, .long a4), (6, .int a6), (7, .int x1), (9, .int x8), (10, .int x13), (11, .int x14), (12, .int x15), (13, .int x16)]) [4, 5, 6, 7, 8, 9, 10, 3, 2, 1, 0] rfl ?_
            have L90 : ∀ (n33 : Nat) (x29 : Int32) (x30 : Int32) (x31 : Int32) (s32 : fSt), fW Δ Γ 15 (fQ eV Δ Γ) 90 [(0, .ref (fad Δ 12 0 0)), (1, .int a1), (2, .int a2), (4, .long a4), (6, .int a6), (7, .int x1), (9, .int x8), (10, .int x13), (11, .int x29), (12, .int x30), (13, .int x31)] [] s32 (f_X12_goThrough_L90 a1 a2 a6 x8 x13 k20 n33 x29 x30 x31 s32) := by
              intro n33
              induction n33 with
              | zero =>
                intro x29 x30 x31 s32
                rw [f_X12_goThrough_L90]
                exact r_none
              | succ n33 ih_n33 =>
                intro x29 x30 x31 s32
                rw [f_X12_goThrough_L90]
                refine r_iload (q := 92) (i := 13) (z := 10) C dX12_goThrough_90 rfl rfl ?_
                refine r_iconst (q := 93) (v := 4) C dX12_goThrough_92 rfl (by decide) ?_
                refine r_icmp_ge (q := 96) (tgt := 150) C dX12_goThrough_93 (by decide) rfl ?_ ?_
                · refine r_locs (lc' := [(0, .ref (fad Δ 12 0 0)), (1, .int a1), (2, .int a2), (4, .long a4), (6, .int a6), (7, .int x1), (9, .int x8), (10, .int x13), (11, .int x29), (12, .int x30)]) [0, 1, 2, 3, 4, 5, 6, 7, 8, 9] rfl ?_
                  exact hk20 x29 x30 s32
                · refine r_aload_n (q := 97) (i := 0) (z := 0) C dX12_goThrough_96 rfl rfl rfl ?_
                  refine r_iload_n (q := 98) (i := 1) (z := 1) C dX12_goThrough_97 rfl rfl rfl ?_
                  refine r_iload (q := 100) (i := 13) (z := 10) C dX12_goThrough_98 rfl rfl ?_
                  refine r_iload_n (q := 101) (i := 2) (z := 2) C dX12_goThrough_100 rfl rfl rfl ?_
                  refine r_callVI (q := 104) (As := [.int a1, .int x31, .int a2]) wm_X12_412 yvX12_behind2 (c_X12_behind2 Δ hN a1 x31 a2 s32) ⟨rfl, by decide⟩ C (nm_12 hN) (by omega) rfl (Nat.le_of_ble_eq_true rfl) dX12_goThrough_101 rfl (fun x34 s35 => ?_)
                  refine r_iload (q := 106) (i := 10) (z := 7) C dX12_goThrough_104 rfl rfl ?_
                  refine r_join (fun j39 => ∀ (x36 : Int32) (x37 : Int32) (s38 : fSt), fW Δ Γ 15 (fQ eV Δ Γ) 144 [(0, .ref (fad Δ 12 0 0)), (1, .int a1), (2, .int a2), (4, .long a4), (6, .int a6), (7, .int x1), (9, .int x8), (10, .int x13), (11, .int x36), (12, .int x37), (13, .int x31)] [] s38 (j39 x36 x37 s38)) ?_ (fun j39 hj39 => ?_)
                  · intro x36 x37 s38
                    refine r_iinc (q := 147) (z := 10) (d := 1) [(0, .ref (fad Δ 12 0 0)), (1, .int a1), (2, .int a2), (4, .long a4), (6, .int a6), (7, .int x1), (9, .int x8), (10, .int x13), (11, .int x36), (12, .int x37)] C dX12_goThrough_144 rfl rfl (by decide) (by decide) rfl (fun x40 => ?_)
                    refine r_goto (q := 90) C dX12_goThrough_147 (by decide) ?_
                    refine r_locs (lc' := [(0, .ref (fad Δ 12 0 0)), (1, .int a1), (2, .int a2), (4, .long a4), (6, .int a6), (7, .int x1), (9, .int x8), (10, .int x13), (11, .int x36), (12, .int x37), (13, .int x40)]) [1, 2, 3, 4, 5, 6, 7, 8, 9, 10, 0] rfl ?_
                    exact ih_n33 x36 x37 x40 s38
                  refine r_icmp_eq (q := 109) (tgt := 112) C dX12_goThrough_106 (by decide) rfl ?_ ?_
                  · refine r_iload (q := 114) (i := 11) (z := 8) C dX12_goThrough_112 rfl rfl ?_
                    refine r_join (fun j43 => ∀ (x41 : Int32) (s42 : fSt), fW Δ Γ 15 (fQ eV Δ Γ) 129 [(0, .ref (fad Δ 12 0 0)), (1, .int a1), (2, .int a2), (4, .long a4), (6, .int a6), (7, .int x1), (9, .int x8), (10, .int x13), (12, .int x30), (13, .int x31)] [.int x41] s42 (j43 x41 s42)) ?_ (fun j43 hj43 => ?_)
                    · intro x41 s42
                      refine r_istore (q := 131) (i := 11) [(0, .ref (fad Δ 12 0 0)), (1, .int a1), (2, .int a2), (4, .long a4), (6, .int a6), (7, .int x1), (9, .int x8), (10, .int x13), (12, .int x30), (13, .int x31)] C dX12_goThrough_129 rfl (by decide) rfl (fun x44 => ?_)
                      refine r_iload (q := 133) (i := 12) (z := 9) C dX12_goThrough_131 rfl rfl ?_
                      refine r_aload_n (q := 134) (i := 0) (z := 1) C dX12_goThrough_133 rfl rfl rfl ?_
                      refine r_iload (q := 136) (i := 6) (z := 5) C dX12_goThrough_134 rfl rfl ?_
                      refine r_iload (q := 138) (i := 13) (z := 10) C dX12_goThrough_136 rfl rfl ?_
                      refine r_callVI (q := 141) (As := [.int a6, .int x31]) wm_X12_472 yvX12_sixteenths (c_X12_sixteenths Δ hN a6 x31 s42) ⟨rfl, by decide⟩ C (nm_12 hN) (by omega) rfl (Nat.le_of_ble_eq_true rfl) dX12_goThrough_138 rfl (fun x45 s46 => ?_)
                      refine r_iadd (q := 142) C dX12_goThrough_141 rfl ?_
                      refine r_istore (q := 144) (i := 12) [(11, .int x44), (0, .ref (fad Δ 12 0 0)), (1, .int a1), (2, .int a2), (4, .long a4), (6, .int a6), (7, .int x1), (9, .int x8), (10, .int x13), (13, .int x31)] C dX12_goThrough_142 rfl (by decide) rfl (fun x47 => ?_)
                      refine r_locs (lc' := [(0, .ref (fad Δ 12 0 0)), (1, .int a1), (2, .int a2), (4, .long a4), (6, .int a6), (7, .int x1), (9, .int x8), (10, .int x13), (11, .int x44), (12, .int x47), (13, .int x31)]) [2, 3, 4, 5, 6, 7, 8, 9, 1, 0, 10] rfl ?_
                      exact hj39 x44 x47 s46
                    refine r_join (fun j49 => ∀  (s48 : fSt), fW Δ Γ 15 (fQ eV Δ Γ) 124 [(0, .ref (fad Δ 12 0 0)), (1, .int a1), (2, .int a2), (4, .long a4), (6, .int a6), (7, .int x1), (9, .int x8), (10, .int x13), (12, .int x30), (13, .int x31)] [] s48 (j49 s48)) ?_ (fun j49 hj49 => ?_)
                    · intro s48
                      refine r_iconst (q := 125) (v := 1) C dX12_goThrough_124 rfl (by decide) ?_
                      refine r_goto (q := 129) C dX12_goThrough_125 (by decide) ?_
                      exact hj43 ((1 : Int32)) s48
                    refine r_if_ne (q := 117) (tgt := 124) C dX12_goThrough_114 (by decide) rfl ?_ ?_
                    · refine r_locs (lc' := [(0, .ref (fad Δ 12 0 0)), (1, .int a1), (2, .int a2), (4, .long a4), (6, .int a6), (7, .int x1), (9, .int x8), (10, .int x13), (12, .int x30), (13, .int x31)]) [0, 1, 2, 3, 4, 5, 6, 7, 9, 10] rfl ?_
                      exact hj49 s35
                    · refine r_iload (q := 119) (i := 13) (z := 10) C dX12_goThrough_117 rfl rfl ?_
                      refine r_iload (q := 121) (i := 9) (z := 6) C dX12_goThrough_119 rfl rfl ?_
                      refine r_icmp_ge (q := 124) (tgt := 128) C dX12_goThrough_121 (by decide) rfl ?_ ?_
                      · refine r_iconst (q := 129) (v := 0) C dX12_goThrough_128 rfl (by decide) ?_
                        refine r_locs (lc' := [(0, .ref (fad Δ 12 0 0)), (1, .int a1), (2, .int a2), (4, .long a4), (6, .int a6), (7, .int x1), (9, .int x8), (10, .int x13), (12, .int x30), (13, .int x31)]) [0, 1, 2, 3, 4, 5, 6, 7, 9, 10] rfl ?_
                        exact hj43 ((0 : Int32)) s35
                      · refine r_locs (lc' := [(0, .ref (fad Δ 12 0 0)), (1, .int a1), (2, .int a2), (4, .long a4), (6, .int a6), (7, .int x1), (9, .int x8), (10, .int x13), (12, .int x30), (13, .int x31)]) [0, 1, 2, 3, 4, 5, 6, 7, 9, 10] rfl ?_
                        exact hj49 s35
                  · refine r_goto (q := 144) C dX12_goThrough_109 (by decide) ?_
                    exact hj39 x29 x30 s35
            exact L90 fF x14 x15 x16 s12
      exact L65 fF x7 s5
    · refine r_aload_n (q := 53) (i := 0) (z := 0) C dX12_goThrough_52 rfl rfl rfl ?_
      refine r_iload_n (q := 54) (i := 1) (z := 1) C dX12_goThrough_53 rfl rfl rfl ?_
      refine r_iload (q := 56) (i := 7) (z := 5) C dX12_goThrough_54 rfl rfl ?_
      refine r_lload (q := 58) (i := 4) (z := 3) C dX12_goThrough_56 rfl rfl ?_
      refine r_callVV (q := 61) (As := [.int a1, .int x1, .long a4]) wm_X12_468 yvX12_curtain (c_X12_curtain Δ hN a1 x1 a4 s5) ⟨rfl, by decide⟩ C (nm_12 hN) (by omega) rfl (Nat.le_of_ble_eq_true rfl) dX12_goThrough_58 rfl (fun _ s50 => ?_)
      exact r_vret C dX12_goThrough_61
  refine r_locs (lc' := [(0, .ref (fad Δ 12 0 0)), (1, .int a1), (2, .int a2), (4, .long a4), (6, .int a6), (7, .int x1), (8, .int x2), (9, .int x3)]) [3, 4, 5, 7, 8, 2, 1, 0] rfl ?_
  have L13 : ∀ (n54 : Nat) (x51 : Int32) (x52 : Int32) (s53 : fSt), fW Δ Γ 15 (fQ eV Δ Γ) 13 [(0, .ref (fad Δ 12 0 0)), (1, .int a1), (2, .int a2), (4, .long a4), (6, .int a6), (7, .int x1), (8, .int x51), (9, .int x52)] [] s53 (f_X12_goThrough_L13 a1 a2 k6 n54 x51 x52 s53) := by
    intro n54
    induction n54 with
    | zero =>
      intro x51 x52 s53
      rw [f_X12_goThrough_L13]
      exact r_none
    | succ n54 ih_n54 =>
      intro x51 x52 s53
      rw [f_X12_goThrough_L13]
      refine r_iload (q := 15) (i := 9) (z := 7) C dX12_goThrough_13 rfl rfl ?_
      refine r_iconst (q := 16) (v := 4) C dX12_goThrough_15 rfl (by decide) ?_
      refine r_icmp_ge (q := 19) (tgt := 46) C dX12_goThrough_16 (by decide) rfl ?_ ?_
      · refine r_locs (lc' := [(0, .ref (fad Δ 12 0 0)), (1, .int a1), (2, .int a2), (4, .long a4), (6, .int a6), (7, .int x1), (8, .int x51)]) [0, 1, 2, 3, 4, 5, 6] rfl ?_
        exact hk6 x51 s53
      · refine r_iload (q := 21) (i := 8) (z := 6) C dX12_goThrough_19 rfl rfl ?_
        refine r_aload_n (q := 22) (i := 0) (z := 0) C dX12_goThrough_21 rfl rfl rfl ?_
        refine r_iload_n (q := 23) (i := 1) (z := 1) C dX12_goThrough_22 rfl rfl rfl ?_
        refine r_iload (q := 25) (i := 9) (z := 7) C dX12_goThrough_23 rfl rfl ?_
        refine r_iload_n (q := 26) (i := 2) (z := 2) C dX12_goThrough_25 rfl rfl rfl ?_
        refine r_callVI (q := 29) (As := [.int a1, .int x52, .int a2]) wm_X12_412 yvX12_behind2 (c_X12_behind2 Δ hN a1 x52 a2 s53) ⟨rfl, by decide⟩ C (nm_12 hN) (by omega) rfl (Nat.le_of_ble_eq_true rfl) dX12_goThrough_26 rfl (fun x55 s56 => ?_)
        refine r_join (fun j59 => ∀ (x57 : Int32) (s58 : fSt), fW Δ Γ 15 (fQ eV Δ Γ) 37 [(0, .ref (fad Δ 12 0 0)), (1, .int a1), (2, .int a2), (4, .long a4), (6, .int a6), (7, .int x1), (9, .int x52)] [.int x57, .int x51] s58 (j59 x57 s58)) ?_ (fun j59 hj59 => ?_)
        · intro x57 s58
          refine r_iadd (q := 38) C dX12_goThrough_37 rfl ?_
          refine r_istore (q := 40) (i := 8) [(0, .ref (fad Δ 12 0 0)), (1, .int a1), (2, .int a2), (4, .long a4), (6, .int a6), (7, .int x1), (9, .int x52)] C dX12_goThrough_38 rfl (by decide) rfl (fun x60 => ?_)
          refine r_iinc (q := 43) (z := 7) (d := 1) [(8, .int x60), (0, .ref (fad Δ 12 0 0)), (1, .int a1), (2, .int a2), (4, .long a4), (6, .int a6), (7, .int x1)] C dX12_goThrough_40 rfl rfl (by decide) (by decide) rfl (fun x61 => ?_)
          refine r_goto (q := 13) C dX12_goThrough_43 (by decide) ?_
          refine r_locs (lc' := [(0, .ref (fad Δ 12 0 0)), (1, .int a1), (2, .int a2), (4, .long a4), (6, .int a6), (7, .int x1), (8, .int x60), (9, .int x61)]) [2, 3, 4, 5, 6, 7, 1, 0] rfl ?_
          exact ih_n54 x60 x61 s58
        refine r_if_ge (q := 32) (tgt := 36) C dX12_goThrough_29 (by decide) rfl ?_ ?_
        · refine r_iconst (q := 37) (v := 0) C dX12_goThrough_36 rfl (by decide) ?_
          refine r_locs (lc' := [(0, .ref (fad Δ 12 0 0)), (1, .int a1), (2, .int a2), (4, .long a4), (6, .int a6), (7, .int x1), (9, .int x52)]) [0, 1, 2, 3, 4, 5, 7] rfl ?_
          exact hj59 ((0 : Int32)) s56
        · refine r_iconst (q := 33) (v := 1) C dX12_goThrough_32 rfl (by decide) ?_
          refine r_goto (q := 37) C dX12_goThrough_33 (by decide) ?_
          refine r_locs (lc' := [(0, .ref (fad Δ 12 0 0)), (1, .int a1), (2, .int a2), (4, .long a4), (6, .int a6), (7, .int x1), (9, .int x52)]) [0, 1, 2, 3, 4, 5, 7] rfl ?_
          exact hj59 ((1 : Int32)) s56
  exact L13 fF x2 x3 st

noncomputable def f_X12_goThrough : Nat → Int32 → Int32 → Int32 → Int64 → Int32 → fSt → Option (Unit × fSt)
  | 0 => fun _ _ _ _ _ _ => none
  | n + 1 => f_X12_goThrough_b (f_X12_goThrough n)

theorem c_X12_goThrough (Δ : fDl) (hN : fNm Δ) (n : Nat) (a1 : Int32) (a2 : Int32) (a3 : Int32) (a4 : Int64) (a6 : Int32) (st : fSt) : fMt eV Δ yX12_goThrough cX12_goThrough 15 none (3 + 1 * n) [.ref (fad Δ 12 0 0), .int a1, .int a2, .int a3, .long a4, .int a6] st (f_X12_goThrough n a1 a2 a3 a4 a6 st) := by
  induction n generalizing a1 a2 a3 a4 a6 st with
  | zero => exact fun _ _ h => by cases h
  | succ n ih => exact c_X12_goThrough_b Δ hN (3 + 1 * n) (by omega) (f_X12_goThrough n) (fun a1 a2 a3 a4 a6 st => ih a1 a2 a3 a4 a6 st) a1 a2 a3 a4 a6 st

noncomputable def f_X12_goAll (a1 : Int32) (st : fSt) : Option (Unit × fSt) :=
  fBd (f_X12_noRows  st) fun _ s1 =>
  fBd (f_X12_isDark  s1) fun x2 s3 =>
  fJn (fun (s4 : fSt) =>
    (some ((), s4))) fun (j5 : fSt → Option (Unit × fSt)) =>
  if ¬ x2 = 0 then
    (j5 s3)
  else
    (fIx ((2 : Int32)) 2150 <|
    fBd (f_X12_goThrough 14 ((gA s3 12 0 5 ((2 : Int32)).toNatClampNeg) - ((1 : Int32))) ((0 : Int32)) ((0 : Int32)) ((17592186044416 : Int64)) a1 s3) fun _ s6 =>
    j5 s6)

set_option maxHeartbeats 4000000 in
set_option maxRecDepth 100000 in
theorem c_X12_goAll (Δ : fDl) (hN : fNm Δ) (a1 : Int32)  (st : fSt) : fMt eV Δ yX12_goAll cX12_goAll 2 none 18 [.ref (fad Δ 12 0 0), .int a1] st (f_X12_goAll a1 st) := by
  unfold f_X12_goAll
  refine r_method (by decide +kernel) (Nat.le_of_ble_eq_true rfl) (fun Γ C => ?_)
  have C : fC Δ Γ cX12_goAll RX12 2 none 18 := C
  refine r_locs (lc' := [(0, .ref (fad Δ 12 0 0)), (1, .int a1)]) [0, 1] rfl ?_
  refine r_aload_n (q := 1) (i := 0) (z := 0) C dX12_goAll_0 rfl rfl rfl ?_
  refine r_callVV (q := 4) (As := []) wm_X12_481 yvX12_noRows (c_X12_noRows Δ hN st) ⟨rfl, by decide⟩ C (nm_12 hN) (by decide) rfl (Nat.le_of_ble_eq_true rfl) dX12_goAll_1 rfl (fun _ s1 => ?_)
  refine r_aload_n (q := 5) (i := 0) (z := 0) C dX12_goAll_4 rfl rfl rfl ?_
  refine r_callVI (q := 8) (As := []) wm_X12_403 yvX12_isDark (c_X12_isDark Δ hN s1) ⟨rfl, by decide⟩ C (nm_12 hN) (by decide) rfl (Nat.le_of_ble_eq_true rfl) dX12_goAll_5 rfl (fun x2 s3 => ?_)
  refine r_join (fun j5 => ∀  (s4 : fSt), fW Δ Γ 2 (fQ eV Δ Γ) 29 [] [] s4 (j5 s4)) ?_ (fun j5 hj5 => ?_)
  · intro s4
    exact r_vret C dX12_goAll_29
  refine r_if_ne (q := 11) (tgt := 29) C dX12_goAll_8 (by decide) rfl ?_ ?_
  · refine r_locs (lc' := []) [] rfl ?_
    exact hj5 s3
  · refine r_aload_n (q := 12) (i := 0) (z := 0) C dX12_goAll_11 rfl rfl rfl ?_
    refine r_aload_n (q := 13) (i := 0) (z := 0) C dX12_goAll_12 rfl rfl rfl ?_
    refine g_X12_35 (q := 16) C (nm_12 hN) dX12_goAll_13 rfl ?_
    refine r_iconst (q := 17) (v := 2) C dX12_goAll_16 rfl (by decide) ?_
    refine r_ial (q := 18) q_12_5 h_12_5 C (nm_12 hN) dX12_goAll_17 rfl ?_
    refine r_iconst (q := 19) (v := 1) C dX12_goAll_18 rfl (by decide) ?_
    refine r_isub (q := 20) C dX12_goAll_19 rfl ?_
    refine r_iconst (q := 21) (v := 0) C dX12_goAll_20 rfl (by decide) ?_
    refine r_iconst (q := 22) (v := 0) C dX12_goAll_21 rfl (by decide) ?_
    refine r_ldc2 (q := 25) C dX12_goAll_22 rfl wl_X12_484 ?_
    refine r_iload_n (q := 26) (i := 1) (z := 1) C dX12_goAll_25 rfl rfl rfl ?_
    refine r_callVV (q := 29) (As := [.int ((gA s3 12 0 5 ((2 : Int32)).toNatClampNeg) - ((1 : Int32))), .int ((0 : Int32)), .int ((0 : Int32)), .long ((17592186044416 : Int64)), .int a1]) wm_X12_477 yvX12_goThrough (c_X12_goThrough Δ hN 14 ((gA s3 12 0 5 ((2 : Int32)).toNatClampNeg) - ((1 : Int32))) ((0 : Int32)) ((0 : Int32)) ((17592186044416 : Int64)) a1 s3) ⟨rfl, by decide⟩ C (nm_12 hN) (by decide) rfl (Nat.le_of_ble_eq_true rfl) dX12_goAll_26 rfl (fun _ s6 => ?_)
    refine r_locs (lc' := []) [] rfl ?_
    exact hj5 s6

noncomputable def f_X12_by (a1 : Int32) (st : fSt) : Option (Int32 × fSt) :=
  fLt (sI st 12 0 1 ((0 : Int32))) fun s1 =>
  fLt (sI s1 12 0 0 ((0 : Int32))) fun s2 =>
  fBd (f_X12_isSceneAt a1 s2) fun x3 s4 =>
  if ¬ x3 = 0 then
    (fBd (f_X12_goAll ((-1 : Int32)) s4) fun _ s5 =>
    fIx a1 12 <|
    some (gA s5 12 0 10 a1.toNatClampNeg, s5))
  else
    (fBd (f_X12_refuse ((2 : Int32)) s4) fun x6 s7 =>
    some (x6, s7))

set_option maxHeartbeats 4000000 in
set_option maxRecDepth 100000 in
theorem c_X12_by (Δ : fDl) (hN : fNm Δ) (a1 : Int32)  (st : fSt) : fMt eI Δ yX12_by cX12_by 2 (some .int) 19 [.ref (fad Δ 12 0 0), .int a1] st (f_X12_by a1 st) := by
  unfold f_X12_by
  refine r_method (by decide +kernel) (Nat.le_of_ble_eq_true rfl) (fun Γ C => ?_)
  have C : fC Δ Γ cX12_by RX12 2 (some .int) 19 := C
  refine r_locs (lc' := [(0, .ref (fad Δ 12 0 0)), (1, .int a1)]) [0, 1] rfl ?_
  refine r_aload_n (q := 1) (i := 0) (z := 0) C dX12_by_0 rfl rfl rfl ?_
  refine r_iconst (q := 2) (v := 0) C dX12_by_1 rfl (by decide) ?_
  refine p_X12_90 (q := 5) C (nm_12 hN) dX12_by_2 rfl (fun s1 => ?_)
  refine r_aload_n (q := 6) (i := 0) (z := 0) C dX12_by_5 rfl rfl rfl ?_
  refine r_iconst (q := 7) (v := 0) C dX12_by_6 rfl (by decide) ?_
  refine p_X12_93 (q := 10) C (nm_12 hN) dX12_by_7 rfl (fun s2 => ?_)
  refine r_aload_n (q := 11) (i := 0) (z := 0) C dX12_by_10 rfl rfl rfl ?_
  refine r_iload_n (q := 12) (i := 1) (z := 1) C dX12_by_11 rfl rfl rfl ?_
  refine r_callVI (q := 15) (As := [.int a1]) wm_X12_351 yvX12_isSceneAt (c_X12_isSceneAt Δ hN a1 s2) ⟨rfl, by decide⟩ C (nm_12 hN) (by decide) rfl (Nat.le_of_ble_eq_true rfl) dX12_by_12 rfl (fun x3 s4 => ?_)
  refine r_if_ne (q := 18) (tgt := 24) C dX12_by_15 (by decide) rfl ?_ ?_
  · refine r_aload_n (q := 25) (i := 0) (z := 0) C dX12_by_24 rfl rfl rfl ?_
    refine r_iconst (q := 26) (v := (-1)) C dX12_by_25 rfl (by decide) ?_
    refine r_callVV (q := 29) (As := [.int ((-1 : Int32))]) wm_X12_492 yvX12_goAll (c_X12_goAll Δ hN ((-1 : Int32)) s4) ⟨rfl, by decide⟩ C (nm_12 hN) (by decide) rfl (Nat.le_of_ble_eq_true rfl) dX12_by_26 rfl (fun _ s5 => ?_)
    refine r_aload_n (q := 30) (i := 0) (z := 0) C dX12_by_29 rfl rfl rfl ?_
    refine g_X12_50 (q := 33) C (nm_12 hN) dX12_by_30 rfl ?_
    refine r_iload_n (q := 34) (i := 1) (z := 1) C dX12_by_33 rfl rfl rfl ?_
    refine r_ial (q := 35) q_12_10 h_12_10 C (nm_12 hN) dX12_by_34 rfl ?_
    exact r_iret C dX12_by_35
  · refine r_aload_n (q := 19) (i := 0) (z := 0) C dX12_by_18 rfl rfl rfl ?_
    refine r_iconst (q := 20) (v := 2) C dX12_by_19 rfl (by decide) ?_
    refine r_callVI (q := 23) (As := [.int ((2 : Int32))]) wm_X12_348 yvX12_refuse (c_X12_refuse Δ hN ((2 : Int32)) s4) ⟨rfl, by decide⟩ C (nm_12 hN) (by decide) rfl (Nat.le_of_ble_eq_true rfl) dX12_by_20 rfl (fun x6 s7 => ?_)
    exact r_iret C dX12_by_23

noncomputable def f_X12_can (a1 : Int32) (st : fSt) : Option (Int32 × fSt) :=
  fLt (sI st 12 0 1 ((0 : Int32))) fun s1 =>
  fLt (sI s1 12 0 0 ((0 : Int32))) fun s2 =>
  fBd (f_X12_isIn a1.toInt64 ((0 : Int64)) ((1 : Int64)) s2) fun x3 s4 =>
  if ¬ x3 = 0 then
    (fBd (f_X12_goAll ((-1 : Int32)) s4) fun _ s5 =>
    fJn (fun (x6 : Int32) (s7 : fSt) =>
      (some (x6, s7))) fun (j8 : Int32 → fSt → Option (Int32 × fSt)) =>
    if ¬ a1 = 0 then
      (j8 (gI s5 12 0 38) s5)
    else
      (j8 (gI s5 12 0 37) s5))
  else
    (fBd (f_X12_refuse ((5 : Int32)) s4) fun x9 s10 =>
    some (x9, s10))

set_option maxHeartbeats 4000000 in
set_option maxRecDepth 100000 in
theorem c_X12_can (Δ : fDl) (hN : fNm Δ) (a1 : Int32)  (st : fSt) : fMt eI Δ yX12_can cX12_can 2 (some .int) 19 [.ref (fad Δ 12 0 0), .int a1] st (f_X12_can a1 st) := by
  unfold f_X12_can
  refine r_method (by decide +kernel) (Nat.le_of_ble_eq_true rfl) (fun Γ C => ?_)
  have C : fC Δ Γ cX12_can RX12 2 (some .int) 19 := C
  refine r_locs (lc' := [(0, .ref (fad Δ 12 0 0)), (1, .int a1)]) [0, 1] rfl ?_
  refine r_aload_n (q := 1) (i := 0) (z := 0) C dX12_can_0 rfl rfl rfl ?_
  refine r_iconst (q := 2) (v := 0) C dX12_can_1 rfl (by decide) ?_
  refine p_X12_90 (q := 5) C (nm_12 hN) dX12_can_2 rfl (fun s1 => ?_)
  refine r_aload_n (q := 6) (i := 0) (z := 0) C dX12_can_5 rfl rfl rfl ?_
  refine r_iconst (q := 7) (v := 0) C dX12_can_6 rfl (by decide) ?_
  refine p_X12_93 (q := 10) C (nm_12 hN) dX12_can_7 rfl (fun s2 => ?_)
  refine r_iload_n (q := 11) (i := 1) (z := 1) C dX12_can_10 rfl rfl rfl ?_
  refine r_i2l (q := 12) C dX12_can_11 rfl ?_
  refine r_lconst (q := 13) (v := 0) C dX12_can_12 rfl (by decide) ?_
  refine r_lconst (q := 14) (v := 1) C dX12_can_13 rfl (by decide) ?_
  refine r_callSI (q := 17) (As := [.long a1.toInt64, .long ((0 : Int64)), .long ((1 : Int64))]) wm_X12_129 ysX12_isIn (c_X12_isIn Δ hN a1.toInt64 ((0 : Int64)) ((1 : Int64)) s2) C (by decide) rfl (Nat.le_of_ble_eq_true rfl) dX12_can_14 rfl (fun x3 s4 => ?_)
  refine r_if_ne (q := 20) (tgt := 26) C dX12_can_17 (by decide) rfl ?_ ?_
  · refine r_aload_n (q := 27) (i := 0) (z := 0) C dX12_can_26 rfl rfl rfl ?_
    refine r_iconst (q := 28) (v := (-1)) C dX12_can_27 rfl (by decide) ?_
    refine r_callVV (q := 31) (As := [.int ((-1 : Int32))]) wm_X12_492 yvX12_goAll (c_X12_goAll Δ hN ((-1 : Int32)) s4) ⟨rfl, by decide⟩ C (nm_12 hN) (by decide) rfl (Nat.le_of_ble_eq_true rfl) dX12_can_28 rfl (fun _ s5 => ?_)
    refine r_iload_n (q := 32) (i := 1) (z := 1) C dX12_can_31 rfl rfl rfl ?_
    refine r_join (fun j8 => ∀ (x6 : Int32) (s7 : fSt), fW Δ Γ 2 (fQ eI Δ Γ) 46 [] [.int x6] s7 (j8 x6 s7)) ?_ (fun j8 hj8 => ?_)
    · intro x6 s7
      exact r_iret C dX12_can_46
    refine r_if_ne (q := 35) (tgt := 42) C dX12_can_32 (by decide) rfl ?_ ?_
    · refine r_aload_n (q := 43) (i := 0) (z := 0) C dX12_can_42 rfl rfl rfl ?_
      refine g_X12_459 (q := 46) C (nm_12 hN) dX12_can_43 rfl ?_
      refine r_locs (lc' := []) [] rfl ?_
      exact hj8 (gI s5 12 0 38) s5
    · refine r_aload_n (q := 36) (i := 0) (z := 0) C dX12_can_35 rfl rfl rfl ?_
      refine g_X12_456 (q := 39) C (nm_12 hN) dX12_can_36 rfl ?_
      refine r_goto (q := 46) C dX12_can_39 (by decide) ?_
      refine r_locs (lc' := []) [] rfl ?_
      exact hj8 (gI s5 12 0 37) s5
  · refine r_aload_n (q := 21) (i := 0) (z := 0) C dX12_can_20 rfl rfl rfl ?_
    refine r_iconst (q := 22) (v := 5) C dX12_can_21 rfl (by decide) ?_
    refine r_callVI (q := 25) (As := [.int ((5 : Int32))]) wm_X12_348 yvX12_refuse (c_X12_refuse Δ hN ((5 : Int32)) s4) ⟨rfl, by decide⟩ C (nm_12 hN) (by decide) rfl (Nat.le_of_ble_eq_true rfl) dX12_can_22 rfl (fun x9 s10 => ?_)
    exact r_iret C dX12_can_25

noncomputable def f_X12_canTake_L28 (a1 : Int32) (a2 : Int32) (k7 : Int32 → fSt → Option (Int32 × fSt)) : Nat → Int32 → Int32 → fSt → Option (Int32 × fSt)
  | 0, _, _, _ => none
  | n14 + 1, x11, x12, s13 =>
      if a2 ≤ x12 then
          (k7 x11 s13)
        else
          (fIx x12 6 <|
          fJn (fun (x15 : Int32) (s16 : fSt) =>
            (fLt (x12 + (1 : Int32)) fun (x18 : Int32) =>
            f_X12_canTake_L28 a1 a2 k7 n14 x15 x18 s16)) fun (j17 : Int32 → fSt → Option (Int32 × fSt)) =>
          if (gA s13 12 0 18 x12.toNatClampNeg) = a1 then
            (fBd (f_X12_areTogether x12 a2 s13) fun x19 s20 =>
            if x19 = 0 then
              (fIx x12 6 <|
              fLt (x11 + (gA s20 12 0 21 x12.toNatClampNeg)) fun (x21 : Int32) =>
              j17 x21 s20)
            else
              (some ((0 : Int32), s20)))
          else
            (j17 x11 s13))

noncomputable def f_X12_canTake (a1 : Int32) (a2 : Int32) (st : fSt) : Option (Int32 × fSt) :=
  fIx (((19 : Int32)) + a1) 2150 <|
  fBd (f_X12_has (gA st 12 0 5 (((19 : Int32)) + a1).toNatClampNeg) a2 st) fun x1 s2 =>
  if x1 = 0 then
    (fIx a2 6 <|
    fLt (gA s2 12 0 21 a2.toNatClampNeg) fun (x3 : Int32) =>
    fLt ((0 : Int32)) fun (x4 : Int32) =>
    fJn (fun (x5 : Int32) (s6 : fSt) =>
      (fIx (((13 : Int32)) + a1) 2150 <|
      fJn (fun (x8 : Int32) (s9 : fSt) =>
        (fBo x8 (some (x8, s9)))) fun (j10 : Int32 → fSt → Option (Int32 × fSt)) =>
      if (gA s6 12 0 5 (((13 : Int32)) + a1).toNatClampNeg) < x5 then
        (j10 ((0 : Int32)) s6)
      else
        (j10 ((1 : Int32)) s6))) fun (k7 : Int32 → fSt → Option (Int32 × fSt)) =>
    f_X12_canTake_L28 a1 a2 k7 fF x3 x4 s2)
  else
    (some ((0 : Int32), s2))

set_option maxHeartbeats 4000000 in
set_option maxRecDepth 100000 in
theorem c_X12_canTake (Δ : fDl) (hN : fNm Δ) (a1 : Int32) (a2 : Int32)  (st : fSt) : fMt eI Δ yX12_canTake cX12_canTake 5 (some .boolean) 3 [.ref (fad Δ 12 0 0), .int a1, .int a2] st (f_X12_canTake a1 a2 st) := by
  unfold f_X12_canTake
  refine r_method (by decide +kernel) (Nat.le_of_ble_eq_true rfl) (fun Γ C => ?_)
  have C : fC Δ Γ cX12_canTake RX12 5 (some .boolean) 3 := C
  refine r_locs (lc' := [(0, .ref (fad Δ 12 0 0)), (1, .int a1), (2, .int a2)]) [0, 1, 2] rfl ?_
  refine r_aload_n (q := 1) (i := 0) (z := 0) C dX12_canTake_0 rfl rfl rfl ?_
  refine g_X12_35 (q := 4) C (nm_12 hN) dX12_canTake_1 rfl ?_
  refine r_bipush (q := 6) (v := 19) C dX12_canTake_4 rfl (by decide) ?_
  refine r_iload_n (q := 7) (i := 1) (z := 1) C dX12_canTake_6 rfl rfl rfl ?_
  refine r_iadd (q := 8) C dX12_canTake_7 rfl ?_
  refine r_ial (q := 9) q_12_5 h_12_5 C (nm_12 hN) dX12_canTake_8 rfl ?_
  refine r_iload_n (q := 10) (i := 2) (z := 2) C dX12_canTake_9 rfl rfl rfl ?_
  refine r_callSI (q := 13) (As := [.int (gA st 12 0 5 (((19 : Int32)) + a1).toNatClampNeg), .int a2]) wm_X12_373 ysX12_has (c_X12_has Δ hN (gA st 12 0 5 (((19 : Int32)) + a1).toNatClampNeg) a2 st) C (by decide) rfl (Nat.le_of_ble_eq_true rfl) dX12_canTake_10 rfl (fun x1 s2 => ?_)
  refine r_if_eq (q := 16) (tgt := 18) C dX12_canTake_13 (by decide) rfl ?_ ?_
  · refine r_aload_n (q := 19) (i := 0) (z := 0) C dX12_canTake_18 rfl rfl rfl ?_
    refine g_X12_84 (q := 22) C (nm_12 hN) dX12_canTake_19 rfl ?_
    refine r_iload_n (q := 23) (i := 2) (z := 2) C dX12_canTake_22 rfl rfl rfl ?_
    refine r_ial (q := 24) q_12_21 h_12_21 C (nm_12 hN) dX12_canTake_23 rfl ?_
    refine r_istore_n (q := 25) (i := 3) [(0, .ref (fad Δ 12 0 0)), (1, .int a1), (2, .int a2)] C dX12_canTake_24 rfl rfl (by decide) rfl (fun x3 => ?_)
    refine r_iconst (q := 26) (v := 0) C dX12_canTake_25 rfl (by decide) ?_
    refine r_istore (q := 28) (i := 4) [(3, .int x3), (0, .ref (fad Δ 12 0 0)), (1, .int a1), (2, .int a2)] C dX12_canTake_26 rfl (by decide) rfl (fun x4 => ?_)
    refine r_join (fun k7 => ∀ (x5 : Int32) (s6 : fSt), fW Δ Γ 5 (fQ eI Δ Γ) 76 [(0, .ref (fad Δ 12 0 0)), (1, .int a1), (3, .int x5)] [] s6 (k7 x5 s6)) ?_ (fun k7 hk7 => ?_)
    · intro x5 s6
      refine r_iload_n (q := 77) (i := 3) (z := 2) C dX12_canTake_76 rfl rfl rfl ?_
      refine r_aload_n (q := 78) (i := 0) (z := 0) C dX12_canTake_77 rfl rfl rfl ?_
      refine g_X12_35 (q := 81) C (nm_12 hN) dX12_canTake_78 rfl ?_
      refine r_bipush (q := 83) (v := 13) C dX12_canTake_81 rfl (by decide) ?_
      refine r_iload_n (q := 84) (i := 1) (z := 1) C dX12_canTake_83 rfl rfl rfl ?_
      refine r_iadd (q := 85) C dX12_canTake_84 rfl ?_
      refine r_ial (q := 86) q_12_5 h_12_5 C (nm_12 hN) dX12_canTake_85 rfl ?_
      refine r_join (fun j10 => ∀ (x8 : Int32) (s9 : fSt), fW Δ Γ 5 (fQ eI Δ Γ) 94 [] [.int x8] s9 (j10 x8 s9)) ?_ (fun j10 hj10 => ?_)
      · intro x8 s9
        exact r_zret C dX12_canTake_94
      refine r_icmp_gt (q := 89) (tgt := 93) C dX12_canTake_86 (by decide) rfl ?_ ?_
      · refine r_iconst (q := 94) (v := 0) C dX12_canTake_93 rfl (by decide) ?_
        refine r_locs (lc' := []) [] rfl ?_
        exact hj10 ((0 : Int32)) s6
      · refine r_iconst (q := 90) (v := 1) C dX12_canTake_89 rfl (by decide) ?_
        refine r_goto (q := 94) C dX12_canTake_90 (by decide) ?_
        refine r_locs (lc' := []) [] rfl ?_
        exact hj10 ((1 : Int32)) s6
    refine r_locs (lc' := [(0, .ref (fad Δ 12 0 0)), (1, .int a1), (2, .int a2), (3, .int x3), (4, .int x4)]) [2, 3, 4, 1, 0] rfl ?_
    have L28 : ∀ (n14 : Nat) (x11 : Int32) (x12 : Int32) (s13 : fSt), fW Δ Γ 5 (fQ eI Δ Γ) 28 [(0, .ref (fad Δ 12 0 0)), (1, .int a1), (2, .int a2), (3, .int x11), (4, .int x12)] [] s13 (f_X12_canTake_L28 a1 a2 k7 n14 x11 x12 s13) := by
      intro n14
      induction n14 with
      | zero =>
        intro x11 x12 s13
        rw [f_X12_canTake_L28]
        exact r_none
      | succ n14 ih_n14 =>
        intro x11 x12 s13
        rw [f_X12_canTake_L28]
        refine r_iload (q := 30) (i := 4) (z := 4) C dX12_canTake_28 rfl rfl ?_
        refine r_iload_n (q := 31) (i := 2) (z := 2) C dX12_canTake_30 rfl rfl rfl ?_
        refine r_icmp_ge (q := 34) (tgt := 76) C dX12_canTake_31 (by decide) rfl ?_ ?_
        · refine r_locs (lc' := [(0, .ref (fad Δ 12 0 0)), (1, .int a1), (3, .int x11)]) [0, 1, 3] rfl ?_
          exact hk7 x11 s13
        · refine r_aload_n (q := 35) (i := 0) (z := 0) C dX12_canTake_34 rfl rfl rfl ?_
          refine g_X12_75 (q := 38) C (nm_12 hN) dX12_canTake_35 rfl ?_
          refine r_iload (q := 40) (i := 4) (z := 4) C dX12_canTake_38 rfl rfl ?_
          refine r_ial (q := 41) q_12_18 h_12_18 C (nm_12 hN) dX12_canTake_40 rfl ?_
          refine r_iload_n (q := 42) (i := 1) (z := 1) C dX12_canTake_41 rfl rfl rfl ?_
          refine r_join (fun j17 => ∀ (x15 : Int32) (s16 : fSt), fW Δ Γ 5 (fQ eI Δ Γ) 70 [(0, .ref (fad Δ 12 0 0)), (1, .int a1), (2, .int a2), (3, .int x15), (4, .int x12)] [] s16 (j17 x15 s16)) ?_ (fun j17 hj17 => ?_)
          · intro x15 s16
            refine r_iinc (q := 73) (z := 4) (d := 1) [(0, .ref (fad Δ 12 0 0)), (1, .int a1), (2, .int a2), (3, .int x15)] C dX12_canTake_70 rfl rfl (by decide) (by decide) rfl (fun x18 => ?_)
            refine r_goto (q := 28) C dX12_canTake_73 (by decide) ?_
            refine r_locs (lc' := [(0, .ref (fad Δ 12 0 0)), (1, .int a1), (2, .int a2), (3, .int x15), (4, .int x18)]) [1, 2, 3, 4, 0] rfl ?_
            exact ih_n14 x15 x18 s16
          refine r_icmp_eq (q := 45) (tgt := 48) C dX12_canTake_42 (by decide) rfl ?_ ?_
          · refine r_aload_n (q := 49) (i := 0) (z := 0) C dX12_canTake_48 rfl rfl rfl ?_
            refine r_iload (q := 51) (i := 4) (z := 4) C dX12_canTake_49 rfl rfl ?_
            refine r_iload_n (q := 52) (i := 2) (z := 2) C dX12_canTake_51 rfl rfl rfl ?_
            refine r_callVI (q := 55) (As := [.int x12, .int a2]) wm_X12_520 yvX12_areTogether (c_X12_areTogether Δ hN x12 a2 s13) ⟨rfl, by decide⟩ C (nm_12 hN) (by decide) rfl (Nat.le_of_ble_eq_true rfl) dX12_canTake_52 rfl (fun x19 s20 => ?_)
            refine r_if_eq (q := 58) (tgt := 60) C dX12_canTake_55 (by decide) rfl ?_ ?_
            · refine r_iload_n (q := 61) (i := 3) (z := 3) C dX12_canTake_60 rfl rfl rfl ?_
              refine r_aload_n (q := 62) (i := 0) (z := 0) C dX12_canTake_61 rfl rfl rfl ?_
              refine g_X12_84 (q := 65) C (nm_12 hN) dX12_canTake_62 rfl ?_
              refine r_iload (q := 67) (i := 4) (z := 4) C dX12_canTake_65 rfl rfl ?_
              refine r_ial (q := 68) q_12_21 h_12_21 C (nm_12 hN) dX12_canTake_67 rfl ?_
              refine r_iadd (q := 69) C dX12_canTake_68 rfl ?_
              refine r_istore_n (q := 70) (i := 3) [(0, .ref (fad Δ 12 0 0)), (1, .int a1), (2, .int a2), (4, .int x12)] C dX12_canTake_69 rfl rfl (by decide) rfl (fun x21 => ?_)
              refine r_locs (lc' := [(0, .ref (fad Δ 12 0 0)), (1, .int a1), (2, .int a2), (3, .int x21), (4, .int x12)]) [1, 2, 3, 0, 4] rfl ?_
              exact hj17 x21 s20
            · refine r_iconst (q := 59) (v := 0) C dX12_canTake_58 rfl (by decide) ?_
              exact r_zret0 (Or.inl rfl) C dX12_canTake_59
          · refine r_goto (q := 70) C dX12_canTake_45 (by decide) ?_
            exact hj17 x11 s13
    exact L28 fF x3 x4 s2
  · refine r_iconst (q := 17) (v := 0) C dX12_canTake_16 rfl (by decide) ?_
    exact r_zret0 (Or.inl rfl) C dX12_canTake_17

noncomputable def f_X12_isInScene_L2 (a1 : Int32) : Nat → Int32 → fSt → Option (Int32 × fSt)
  | 0, _, _ => none
  | n4 + 1, x2, s3 =>
      fIx ((2 : Int32)) 2150 <|
      if (gA s3 12 0 5 ((2 : Int32)).toNatClampNeg) ≤ x2 then
        (some ((0 : Int32), s3))
      else
        (fIx (((37 : Int32)) + x2) 2150 <|
        fBd (f_X12_has (gA s3 12 0 5 (((37 : Int32)) + x2).toNatClampNeg) a1 s3) fun x5 s6 =>
        if x5 = 0 then
          (fLt (x2 + (1 : Int32)) fun (x7 : Int32) =>
          f_X12_isInScene_L2 a1 n4 x7 s6)
        else
          (some ((1 : Int32), s6)))

noncomputable def f_X12_isInScene (a1 : Int32) (st : fSt) : Option (Int32 × fSt) :=
  fLt ((0 : Int32)) fun (x1 : Int32) =>
  f_X12_isInScene_L2 a1 fF x1 st

set_option maxHeartbeats 4000000 in
set_option maxRecDepth 100000 in
theorem c_X12_isInScene (Δ : fDl) (hN : fNm Δ) (a1 : Int32)  (st : fSt) : fMt eI Δ yX12_isInScene cX12_isInScene 3 (some .boolean) 2 [.ref (fad Δ 12 0 0), .int a1] st (f_X12_isInScene a1 st) := by
  unfold f_X12_isInScene
  refine r_method (by decide +kernel) (Nat.le_of_ble_eq_true rfl) (fun Γ C => ?_)
  have C : fC Δ Γ cX12_isInScene RX12 3 (some .boolean) 2 := C
  refine r_locs (lc' := [(0, .ref (fad Δ 12 0 0)), (1, .int a1)]) [0, 1] rfl ?_
  refine r_iconst (q := 1) (v := 0) C dX12_isInScene_0 rfl (by decide) ?_
  refine r_istore_n (q := 2) (i := 2) [(0, .ref (fad Δ 12 0 0)), (1, .int a1)] C dX12_isInScene_1 rfl rfl (by decide) rfl (fun x1 => ?_)
  refine r_locs (lc' := [(0, .ref (fad Δ 12 0 0)), (1, .int a1), (2, .int x1)]) [1, 2, 0] rfl ?_
  have L2 : ∀ (n4 : Nat) (x2 : Int32) (s3 : fSt), fW Δ Γ 3 (fQ eI Δ Γ) 2 [(0, .ref (fad Δ 12 0 0)), (1, .int a1), (2, .int x2)] [] s3 (f_X12_isInScene_L2 a1 n4 x2 s3) := by
    intro n4
    induction n4 with
    | zero =>
      intro x2 s3
      rw [f_X12_isInScene_L2]
      exact r_none
    | succ n4 ih_n4 =>
      intro x2 s3
      rw [f_X12_isInScene_L2]
      refine r_iload_n (q := 3) (i := 2) (z := 2) C dX12_isInScene_2 rfl rfl rfl ?_
      refine r_aload_n (q := 4) (i := 0) (z := 0) C dX12_isInScene_3 rfl rfl rfl ?_
      refine g_X12_35 (q := 7) C (nm_12 hN) dX12_isInScene_4 rfl ?_
      refine r_iconst (q := 8) (v := 2) C dX12_isInScene_7 rfl (by decide) ?_
      refine r_ial (q := 9) q_12_5 h_12_5 C (nm_12 hN) dX12_isInScene_8 rfl ?_
      refine r_icmp_ge (q := 12) (tgt := 36) C dX12_isInScene_9 (by decide) rfl ?_ ?_
      · refine r_iconst (q := 37) (v := 0) C dX12_isInScene_36 rfl (by decide) ?_
        exact r_zret0 (Or.inl rfl) C dX12_isInScene_37
      · refine r_aload_n (q := 13) (i := 0) (z := 0) C dX12_isInScene_12 rfl rfl rfl ?_
        refine g_X12_35 (q := 16) C (nm_12 hN) dX12_isInScene_13 rfl ?_
        refine r_bipush (q := 18) (v := 37) C dX12_isInScene_16 rfl (by decide) ?_
        refine r_iload_n (q := 19) (i := 2) (z := 2) C dX12_isInScene_18 rfl rfl rfl ?_
        refine r_iadd (q := 20) C dX12_isInScene_19 rfl ?_
        refine r_ial (q := 21) q_12_5 h_12_5 C (nm_12 hN) dX12_isInScene_20 rfl ?_
        refine r_iload_n (q := 22) (i := 1) (z := 1) C dX12_isInScene_21 rfl rfl rfl ?_
        refine r_callSI (q := 25) (As := [.int (gA s3 12 0 5 (((37 : Int32)) + x2).toNatClampNeg), .int a1]) wm_X12_373 ysX12_has (c_X12_has Δ hN (gA s3 12 0 5 (((37 : Int32)) + x2).toNatClampNeg) a1 s3) C (by decide) rfl (Nat.le_of_ble_eq_true rfl) dX12_isInScene_22 rfl (fun x5 s6 => ?_)
        refine r_if_eq (q := 28) (tgt := 30) C dX12_isInScene_25 (by decide) rfl ?_ ?_
        · refine r_iinc (q := 33) (z := 2) (d := 1) [(0, .ref (fad Δ 12 0 0)), (1, .int a1)] C dX12_isInScene_30 rfl rfl (by decide) (by decide) rfl (fun x7 => ?_)
          refine r_goto (q := 2) C dX12_isInScene_33 (by decide) ?_
          refine r_locs (lc' := [(0, .ref (fad Δ 12 0 0)), (1, .int a1), (2, .int x7)]) [1, 2, 0] rfl ?_
          exact ih_n4 x7 s6
        · refine r_iconst (q := 29) (v := 1) C dX12_isInScene_28 rfl (by decide) ?_
          exact r_zret0 (Or.inr rfl) C dX12_isInScene_29
  exact L2 fF x1 st

noncomputable def f_X12_casts_L93 (rec : Int32 → Int32 → fSt → Option (Unit × fSt)) (a1 : Int32) (a2 : Int32) : Nat → Int32 → fSt → Option (Unit × fSt)
  | 0, _, _ => none
  | n9 + 1, x7, s8 =>
      fIx ((1 : Int32)) 2150 <|
            if (gA s8 12 0 5 ((1 : Int32)).toNatClampNeg) ≤ x7 then
              (fIx a1 6 <|
              fLt (sA s8 12 0 18 (upd (gA s8 12 0 18) a1.toNatClampNeg ((-1 : Int32)))) fun s10 =>
              some ((), s10))
            else
              (fIx a1 6 <|
              fLt (sA s8 12 0 18 (upd (gA s8 12 0 18) a1.toNatClampNeg ((-1 : Int32)))) fun s11 =>
              fBd (f_X12_canTake x7 a1 s11) fun x12 s13 =>
              fJn (fun (s14 : fSt) =>
                (fLt (x7 + (1 : Int32)) fun (x16 : Int32) =>
                f_X12_casts_L93 rec a1 a2 n9 x16 s14)) fun (j15 : fSt → Option (Unit × fSt)) =>
              if ¬ x12 = 0 then
                (fIx a1 6 <|
                fLt (sA s13 12 0 18 (upd (gA s13 12 0 18) a1.toNatClampNeg x7)) fun s17 =>
                fIx a1 6 <|
                fIx (((7 : Int32)) + x7) 2150 <|
                fBd (rec (a1 + ((1 : Int32))) (a2 + ((gA s17 12 0 21 a1.toNatClampNeg) * (gA s17 12 0 5 (((7 : Int32)) + x7).toNatClampNeg))) s17) fun _ s18 =>
                j15 s18)
              else
                (j15 s13))

noncomputable def f_X12_casts_L33 (a1 : Int32) : Nat → Int32 → fSt → Option (Unit × fSt)
  | 0, _, _ => none
  | n24 + 1, x22, s23 =>
      if ((6 : Int32)) ≤ x22 then
            (some ((), s23))
          else
            (fJn (fun (x25 : Int32) (s26 : fSt) =>
              (fIx x22 6 <|
              fLt (sA s26 12 0 19 (upd (gA s26 12 0 19) x22.toNatClampNeg x25)) fun s28 =>
              fLt (x22 + (1 : Int32)) fun (x29 : Int32) =>
              f_X12_casts_L33 a1 n24 x29 s28)) fun (j27 : Int32 → fSt → Option (Unit × fSt)) =>
            if a1 ≤ x22 then
              (j27 ((-1 : Int32)) s23)
            else
              (fIx x22 6 <|
              j27 (gA s23 12 0 18 x22.toNatClampNeg) s23))

noncomputable def f_X12_casts_b (rec : Int32 → Int32 → fSt → Option (Unit × fSt)) (a1 : Int32) (a2 : Int32) (st : fSt) : Option (Unit × fSt) :=
  fJn (fun (s1 : fSt) =>
    (fIx ((0 : Int32)) 2150 <|
    if ¬ a1 = (gA s1 12 0 5 ((0 : Int32)).toNatClampNeg) then
      (fIx a1 6 <|
      fLt (sA s1 12 0 18 (upd (gA s1 12 0 18) a1.toNatClampNeg ((-1 : Int32)))) fun s3 =>
      fBd (f_X12_isInScene a1 s3) fun x4 s5 =>
      if ¬ x4 = 0 then
        (fLt ((0 : Int32)) fun (x6 : Int32) =>
        f_X12_casts_L93 rec a1 a2 fF x6 s5)
      else
        (fBd (rec (a1 + ((1 : Int32))) a2 s5) fun _ s19 =>
        some ((), s19)))
    else
      (fLt (sI s1 12 0 53 a2) fun s20 =>
      fLt ((0 : Int32)) fun (x21 : Int32) =>
      f_X12_casts_L33 a1 fF x21 s20))) fun (j2 : fSt → Option (Unit × fSt)) =>
  if (gI st 12 0 53) < 0 then
    (j2 st)
  else
    (if a2 < (gI st 12 0 53) then
      (j2 st)
    else
      (some ((), st)))

set_option maxHeartbeats 4000000 in
set_option maxRecDepth 100000 in
theorem c_X12_casts_b (Δ : fDl) (hN : fNm Δ) (lv0 : Nat) (hlv : 3 ≤ lv0) (rec : Int32 → Int32 → fSt → Option (Unit × fSt)) (hrec : ∀ (a1 : Int32) (a2 : Int32) (st : fSt), fMt eV Δ yX12_casts cX12_casts 4 none lv0 [.ref (fad Δ 12 0 0), .int a1, .int a2] st (rec a1 a2 st)) (a1 : Int32) (a2 : Int32) (st : fSt) : fMt eV Δ yX12_casts cX12_casts 4 none (lv0 + 1) [.ref (fad Δ 12 0 0), .int a1, .int a2] st (f_X12_casts_b rec a1 a2 st) := by
  unfold f_X12_casts_b
  refine r_method (by decide +kernel) (Nat.le_of_ble_eq_true rfl) (fun Γ C => ?_)
  have C : fC Δ Γ cX12_casts RX12 4 none (lv0 + 1) := C
  refine r_locs (lc' := [(0, .ref (fad Δ 12 0 0)), (1, .int a1), (2, .int a2)]) [0, 1, 2] rfl ?_
  refine r_aload_n (q := 1) (i := 0) (z := 0) C dX12_casts_0 rfl rfl rfl ?_
  refine g_X12_523 (q := 4) C (nm_12 hN) dX12_casts_1 rfl ?_
  refine r_join (fun j2 => ∀  (s1 : fSt), fW Δ Γ 4 (fQ eV Δ Γ) 16 [(0, .ref (fad Δ 12 0 0)), (1, .int a1), (2, .int a2)] [] s1 (j2 s1)) ?_ (fun j2 hj2 => ?_)
  · intro s1
    refine r_iload_n (q := 17) (i := 1) (z := 1) C dX12_casts_16 rfl rfl rfl ?_
    refine r_aload_n (q := 18) (i := 0) (z := 0) C dX12_casts_17 rfl rfl rfl ?_
    refine g_X12_35 (q := 21) C (nm_12 hN) dX12_casts_18 rfl ?_
    refine r_iconst (q := 22) (v := 0) C dX12_casts_21 rfl (by decide) ?_
    refine r_ial (q := 23) q_12_5 h_12_5 C (nm_12 hN) dX12_casts_22 rfl ?_
    refine r_icmp_ne (q := 26) (tgt := 67) C dX12_casts_23 (by decide) rfl ?_ ?_
    · refine r_aload_n (q := 68) (i := 0) (z := 0) C dX12_casts_67 rfl rfl rfl ?_
      refine g_X12_75 (q := 71) C (nm_12 hN) dX12_casts_68 rfl ?_
      refine r_iload_n (q := 72) (i := 1) (z := 1) C dX12_casts_71 rfl rfl rfl ?_
      refine r_iconst (q := 73) (v := (-1)) C dX12_casts_72 rfl (by decide) ?_
      refine r_ast (q := 74) q_12_18 h_12_18 C (nm_12 hN) dX12_casts_73 rfl (fun s3 => ?_)
      refine r_aload_n (q := 75) (i := 0) (z := 0) C dX12_casts_74 rfl rfl rfl ?_
      refine r_iload_n (q := 76) (i := 1) (z := 1) C dX12_casts_75 rfl rfl rfl ?_
      refine r_callVI (q := 79) (As := [.int a1]) wm_X12_526 yvX12_isInScene (c_X12_isInScene Δ hN a1 s3) ⟨rfl, by decide⟩ C (nm_12 hN) (by omega) rfl (Nat.le_of_ble_eq_true rfl) dX12_casts_76 rfl (fun x4 s5 => ?_)
      refine r_if_ne (q := 82) (tgt := 91) C dX12_casts_79 (by decide) rfl ?_ ?_
      · refine r_iconst (q := 92) (v := 0) C dX12_casts_91 rfl (by decide) ?_
        refine r_istore_n (q := 93) (i := 3) [(0, .ref (fad Δ 12 0 0)), (1, .int a1), (2, .int a2)] C dX12_casts_92 rfl rfl (by decide) rfl (fun x6 => ?_)
        refine r_locs (lc' := [(0, .ref (fad Δ 12 0 0)), (1, .int a1), (2, .int a2), (3, .int x6)]) [1, 2, 3, 0] rfl ?_
        have L93 : ∀ (n9 : Nat) (x7 : Int32) (s8 : fSt), fW Δ Γ 4 (fQ eV Δ Γ) 93 [(0, .ref (fad Δ 12 0 0)), (1, .int a1), (2, .int a2), (3, .int x7)] [] s8 (f_X12_casts_L93 rec a1 a2 n9 x7 s8) := by
          intro n9
          induction n9 with
          | zero =>
            intro x7 s8
            rw [f_X12_casts_L93]
            exact r_none
          | succ n9 ih_n9 =>
            intro x7 s8
            rw [f_X12_casts_L93]
            refine r_iload_n (q := 94) (i := 3) (z := 3) C dX12_casts_93 rfl rfl rfl ?_
            refine r_aload_n (q := 95) (i := 0) (z := 0) C dX12_casts_94 rfl rfl rfl ?_
            refine g_X12_35 (q := 98) C (nm_12 hN) dX12_casts_95 rfl ?_
            refine r_iconst (q := 99) (v := 1) C dX12_casts_98 rfl (by decide) ?_
            refine r_ial (q := 100) q_12_5 h_12_5 C (nm_12 hN) dX12_casts_99 rfl ?_
            refine r_icmp_ge (q := 103) (tgt := 160) C dX12_casts_100 (by decide) rfl ?_ ?_
            · refine r_aload_n (q := 161) (i := 0) (z := 0) C dX12_casts_160 rfl rfl rfl ?_
              refine g_X12_75 (q := 164) C (nm_12 hN) dX12_casts_161 rfl ?_
              refine r_iload_n (q := 165) (i := 1) (z := 1) C dX12_casts_164 rfl rfl rfl ?_
              refine r_iconst (q := 166) (v := (-1)) C dX12_casts_165 rfl (by decide) ?_
              refine r_ast (q := 167) q_12_18 h_12_18 C (nm_12 hN) dX12_casts_166 rfl (fun s10 => ?_)
              exact r_vret C dX12_casts_167
            · refine r_aload_n (q := 104) (i := 0) (z := 0) C dX12_casts_103 rfl rfl rfl ?_
              refine g_X12_75 (q := 107) C (nm_12 hN) dX12_casts_104 rfl ?_
              refine r_iload_n (q := 108) (i := 1) (z := 1) C dX12_casts_107 rfl rfl rfl ?_
              refine r_iconst (q := 109) (v := (-1)) C dX12_casts_108 rfl (by decide) ?_
              refine r_ast (q := 110) q_12_18 h_12_18 C (nm_12 hN) dX12_casts_109 rfl (fun s11 => ?_)
              refine r_aload_n (q := 111) (i := 0) (z := 0) C dX12_casts_110 rfl rfl rfl ?_
              refine r_iload_n (q := 112) (i := 3) (z := 3) C dX12_casts_111 rfl rfl rfl ?_
              refine r_iload_n (q := 113) (i := 1) (z := 1) C dX12_casts_112 rfl rfl rfl ?_
              refine r_callVI (q := 116) (As := [.int x7, .int a1]) wm_X12_532 yvX12_canTake (c_X12_canTake Δ hN x7 a1 s11) ⟨rfl, by decide⟩ C (nm_12 hN) (by omega) rfl (Nat.le_of_ble_eq_true rfl) dX12_casts_113 rfl (fun x12 s13 => ?_)
              refine r_join (fun j15 => ∀  (s14 : fSt), fW Δ Γ 4 (fQ eV Δ Γ) 154 [(0, .ref (fad Δ 12 0 0)), (1, .int a1), (2, .int a2), (3, .int x7)] [] s14 (j15 s14)) ?_ (fun j15 hj15 => ?_)
              · intro s14
                refine r_iinc (q := 157) (z := 3) (d := 1) [(0, .ref (fad Δ 12 0 0)), (1, .int a1), (2, .int a2)] C dX12_casts_154 rfl rfl (by decide) (by decide) rfl (fun x16 => ?_)
                refine r_goto (q := 93) C dX12_casts_157 (by decide) ?_
                refine r_locs (lc' := [(0, .ref (fad Δ 12 0 0)), (1, .int a1), (2, .int a2), (3, .int x16)]) [1, 2, 3, 0] rfl ?_
                exact ih_n9 x16 s14
              refine r_if_ne (q := 119) (tgt := 122) C dX12_casts_116 (by decide) rfl ?_ ?_
              · refine r_aload_n (q := 123) (i := 0) (z := 0) C dX12_casts_122 rfl rfl rfl ?_
                refine g_X12_75 (q := 126) C (nm_12 hN) dX12_casts_123 rfl ?_
                refine r_iload_n (q := 127) (i := 1) (z := 1) C dX12_casts_126 rfl rfl rfl ?_
                refine r_iload_n (q := 128) (i := 3) (z := 3) C dX12_casts_127 rfl rfl rfl ?_
                refine r_ast (q := 129) q_12_18 h_12_18 C (nm_12 hN) dX12_casts_128 rfl (fun s17 => ?_)
                refine r_aload_n (q := 130) (i := 0) (z := 0) C dX12_casts_129 rfl rfl rfl ?_
                refine r_iload_n (q := 131) (i := 1) (z := 1) C dX12_casts_130 rfl rfl rfl ?_
                refine r_iconst (q := 132) (v := 1) C dX12_casts_131 rfl (by decide) ?_
                refine r_iadd (q := 133) C dX12_casts_132 rfl ?_
                refine r_iload_n (q := 134) (i := 2) (z := 2) C dX12_casts_133 rfl rfl rfl ?_
                refine r_aload_n (q := 135) (i := 0) (z := 0) C dX12_casts_134 rfl rfl rfl ?_
                refine g_X12_84 (q := 138) C (nm_12 hN) dX12_casts_135 rfl ?_
                refine r_iload_n (q := 139) (i := 1) (z := 1) C dX12_casts_138 rfl rfl rfl ?_
                refine r_ial (q := 140) q_12_21 h_12_21 C (nm_12 hN) dX12_casts_139 rfl ?_
                refine r_aload_n (q := 141) (i := 0) (z := 0) C dX12_casts_140 rfl rfl rfl ?_
                refine g_X12_35 (q := 144) C (nm_12 hN) dX12_casts_141 rfl ?_
                refine r_bipush (q := 146) (v := 7) C dX12_casts_144 rfl (by decide) ?_
                refine r_iload_n (q := 147) (i := 3) (z := 3) C dX12_casts_146 rfl rfl rfl ?_
                refine r_iadd (q := 148) C dX12_casts_147 rfl ?_
                refine r_ial (q := 149) q_12_5 h_12_5 C (nm_12 hN) dX12_casts_148 rfl ?_
                refine r_imul (q := 150) C dX12_casts_149 rfl ?_
                refine r_iadd (q := 151) C dX12_casts_150 rfl ?_
                refine r_callVV (q := 154) (As := [.int (a1 + ((1 : Int32))), .int (a2 + ((gA s17 12 0 21 a1.toNatClampNeg) * (gA s17 12 0 5 (((7 : Int32)) + x7).toNatClampNeg)))]) wm_X12_529 yvX12_casts (hrec (a1 + ((1 : Int32))) (a2 + ((gA s17 12 0 21 a1.toNatClampNeg) * (gA s17 12 0 5 (((7 : Int32)) + x7).toNatClampNeg))) s17) ⟨rfl, by decide⟩ C (nm_12 hN) (Nat.le_refl _) rfl (Nat.le_of_ble_eq_true rfl) dX12_casts_151 rfl (fun _ s18 => ?_)
                exact hj15 s18
              · refine r_goto (q := 154) C dX12_casts_119 (by decide) ?_
                exact hj15 s13
        exact L93 fF x6 s5
      · refine r_aload_n (q := 83) (i := 0) (z := 0) C dX12_casts_82 rfl rfl rfl ?_
        refine r_iload_n (q := 84) (i := 1) (z := 1) C dX12_casts_83 rfl rfl rfl ?_
        refine r_iconst (q := 85) (v := 1) C dX12_casts_84 rfl (by decide) ?_
        refine r_iadd (q := 86) C dX12_casts_85 rfl ?_
        refine r_iload_n (q := 87) (i := 2) (z := 2) C dX12_casts_86 rfl rfl rfl ?_
        refine r_callVV (q := 90) (As := [.int (a1 + ((1 : Int32))), .int a2]) wm_X12_529 yvX12_casts (hrec (a1 + ((1 : Int32))) a2 s5) ⟨rfl, by decide⟩ C (nm_12 hN) (Nat.le_refl _) rfl (Nat.le_of_ble_eq_true rfl) dX12_casts_87 rfl (fun _ s19 => ?_)
        exact r_vret C dX12_casts_90
    · refine r_aload_n (q := 27) (i := 0) (z := 0) C dX12_casts_26 rfl rfl rfl ?_
      refine r_iload_n (q := 28) (i := 2) (z := 2) C dX12_casts_27 rfl rfl rfl ?_
      refine p_X12_523 (q := 31) C (nm_12 hN) dX12_casts_28 rfl (fun s20 => ?_)
      refine r_iconst (q := 32) (v := 0) C dX12_casts_31 rfl (by decide) ?_
      refine r_istore_n (q := 33) (i := 3) [(0, .ref (fad Δ 12 0 0)), (1, .int a1), (2, .int a2)] C dX12_casts_32 rfl rfl (by decide) rfl (fun x21 => ?_)
      refine r_locs (lc' := [(0, .ref (fad Δ 12 0 0)), (1, .int a1), (3, .int x21)]) [1, 2, 0] rfl ?_
      have L33 : ∀ (n24 : Nat) (x22 : Int32) (s23 : fSt), fW Δ Γ 4 (fQ eV Δ Γ) 33 [(0, .ref (fad Δ 12 0 0)), (1, .int a1), (3, .int x22)] [] s23 (f_X12_casts_L33 a1 n24 x22 s23) := by
        intro n24
        induction n24 with
        | zero =>
          intro x22 s23
          rw [f_X12_casts_L33]
          exact r_none
        | succ n24 ih_n24 =>
          intro x22 s23
          rw [f_X12_casts_L33]
          refine r_iload_n (q := 34) (i := 3) (z := 2) C dX12_casts_33 rfl rfl rfl ?_
          refine r_bipush (q := 36) (v := 6) C dX12_casts_34 rfl (by decide) ?_
          refine r_icmp_ge (q := 39) (tgt := 66) C dX12_casts_36 (by decide) rfl ?_ ?_
          · exact r_vret C dX12_casts_66
          · refine r_aload_n (q := 40) (i := 0) (z := 0) C dX12_casts_39 rfl rfl rfl ?_
            refine g_X12_78 (q := 43) C (nm_12 hN) dX12_casts_40 rfl ?_
            refine r_iload_n (q := 44) (i := 3) (z := 2) C dX12_casts_43 rfl rfl rfl ?_
            refine r_iload_n (q := 45) (i := 3) (z := 2) C dX12_casts_44 rfl rfl rfl ?_
            refine r_iload_n (q := 46) (i := 1) (z := 1) C dX12_casts_45 rfl rfl rfl ?_
            refine r_join (fun j27 => ∀ (x25 : Int32) (s26 : fSt), fW Δ Γ 4 (fQ eV Δ Γ) 59 [(0, .ref (fad Δ 12 0 0)), (1, .int a1), (3, .int x22)] [.int x25, .int x22, .ref (fad Δ 12 0 19)] s26 (j27 x25 s26)) ?_ (fun j27 hj27 => ?_)
            · intro x25 s26
              refine r_ast (q := 60) q_12_19 h_12_19 C (nm_12 hN) dX12_casts_59 rfl (fun s28 => ?_)
              refine r_iinc (q := 63) (z := 2) (d := 1) [(0, .ref (fad Δ 12 0 0)), (1, .int a1)] C dX12_casts_60 rfl rfl (by decide) (by decide) rfl (fun x29 => ?_)
              refine r_goto (q := 33) C dX12_casts_63 (by decide) ?_
              refine r_locs (lc' := [(0, .ref (fad Δ 12 0 0)), (1, .int a1), (3, .int x29)]) [1, 2, 0] rfl ?_
              exact ih_n24 x29 s28
            refine r_icmp_ge (q := 49) (tgt := 58) C dX12_casts_46 (by decide) rfl ?_ ?_
            · refine r_iconst (q := 59) (v := (-1)) C dX12_casts_58 rfl (by decide) ?_
              exact hj27 ((-1 : Int32)) s23
            · refine r_aload_n (q := 50) (i := 0) (z := 0) C dX12_casts_49 rfl rfl rfl ?_
              refine g_X12_75 (q := 53) C (nm_12 hN) dX12_casts_50 rfl ?_
              refine r_iload_n (q := 54) (i := 3) (z := 2) C dX12_casts_53 rfl rfl rfl ?_
              refine r_ial (q := 55) q_12_18 h_12_18 C (nm_12 hN) dX12_casts_54 rfl ?_
              refine r_goto (q := 59) C dX12_casts_55 (by decide) ?_
              exact hj27 (gA s23 12 0 18 x22.toNatClampNeg) s23
      exact L33 fF x21 s20
  refine r_if_lt (q := 7) (tgt := 16) C dX12_casts_4 (by decide) rfl ?_ ?_
  · exact hj2 st
  · refine r_iload_n (q := 8) (i := 2) (z := 2) C dX12_casts_7 rfl rfl rfl ?_
    refine r_aload_n (q := 9) (i := 0) (z := 0) C dX12_casts_8 rfl rfl rfl ?_
    refine g_X12_523 (q := 12) C (nm_12 hN) dX12_casts_9 rfl ?_
    refine r_icmp_lt (q := 15) (tgt := 16) C dX12_casts_12 (by decide) rfl ?_ ?_
    · exact hj2 st
    · exact r_vret C dX12_casts_15

noncomputable def f_X12_casts : Nat → Int32 → Int32 → fSt → Option (Unit × fSt)
  | 0 => fun _ _ _ => none
  | n + 1 => f_X12_casts_b (f_X12_casts n)

theorem c_X12_casts (Δ : fDl) (hN : fNm Δ) (n : Nat) (a1 : Int32) (a2 : Int32) (st : fSt) : fMt eV Δ yX12_casts cX12_casts 4 none (3 + 1 * n) [.ref (fad Δ 12 0 0), .int a1, .int a2] st (f_X12_casts n a1 a2 st) := by
  induction n generalizing a1 a2 st with
  | zero => exact fun _ _ h => by cases h
  | succ n ih => exact c_X12_casts_b Δ hN (3 + 1 * n) (by omega) (f_X12_casts n) (fun a1 a2 st => ih a1 a2 st) a1 a2 st

noncomputable def f_X12_cast_L121  : Nat → Int32 → fSt → Option (Int32 × fSt)
  | 0, _, _ => none
  | n16 + 1, x14, s15 =>
      if ((6 : Int32)) ≤ x14 then
                (some (gI s15 12 0 53, s15))
              else
                (fIx x14 6 <|
                fIx x14 6 <|
                fLt (sA s15 12 0 20 (upd (gA s15 12 0 20) x14.toNatClampNeg (gA s15 12 0 19 x14.toNatClampNeg))) fun s17 =>
                fLt (x14 + (1 : Int32)) fun (x18 : Int32) =>
                f_X12_cast_L121 n16 x18 s17)

noncomputable def f_X12_cast_L32 (a1 : Int32) (k9 : Int32 → fSt → Option (Int32 × fSt)) : Nat → Int32 → Int32 → fSt → Option (Int32 × fSt)
  | 0, _, _, _ => none
  | n26 + 1, x23, x24, s25 =>
      fIx ((0 : Int32)) 2150 <|
        if (gA s25 12 0 5 ((0 : Int32)).toNatClampNeg) ≤ x24 then
          (k9 x23 s25)
        else
          (fJn (fun (x27 : Int32) (s28 : fSt) =>
            (fLt x27 fun (x30 : Int32) =>
            fBd (f_X12_breathsFor x24 a1 s28) fun x31 s32 =>
            fIx x24 6 <|
            fLt (sA s32 12 0 21 (upd (gA s32 12 0 21) x24.toNatClampNeg x31)) fun s33 =>
            fLt (x24 + (1 : Int32)) fun (x34 : Int32) =>
            f_X12_cast_L32 a1 k9 n26 x30 x34 s33)) fun (j29 : Int32 → fSt → Option (Int32 × fSt)) =>
          fJn (fun (s35 : fSt) =>
            (j29 ((1 : Int32)) s35)) fun (j36 : fSt → Option (Int32 × fSt)) =>
          if ¬ x23 = 0 then
            (j36 s25)
          else
            (fBd (f_X12_isInScene x24 s25) fun x37 s38 =>
            if x37 = 0 then
              (j29 ((0 : Int32)) s38)
            else
              (j36 s38)))

noncomputable def f_X12_cast (a1 : Int32) (st : fSt) : Option (Int32 × fSt) :=
  fLt (sI st 12 0 1 ((0 : Int32))) fun s1 =>
  fLt (sI s1 12 0 0 ((0 : Int32))) fun s2 =>
  fBd (f_X12_isIn a1.toInt64 ((1 : Int64)) ((7 : Int64)) s2) fun x3 s4 =>
  if ¬ x3 = 0 then
    (fLt ((0 : Int32)) fun (x5 : Int32) =>
    fLt ((0 : Int32)) fun (x6 : Int32) =>
    fJn (fun (x7 : Int32) (s8 : fSt) =>
      (if ¬ x7 = 0 then
        (fLt (sI s8 12 0 53 ((-1 : Int32))) fun s10 =>
        fBd (f_X12_casts 8 ((0 : Int32)) ((0 : Int32)) s10) fun _ s11 =>
        if 0 ≤ (gI s11 12 0 53) then
          (fLt (sI s11 12 0 54 ((1 : Int32))) fun s12 =>
          fLt ((0 : Int32)) fun (x13 : Int32) =>
          f_X12_cast_L121 fF x13 s12)
        else
          (fBd (f_X12_refuse ((9 : Int32)) s11) fun x19 s20 =>
          some (x19, s20)))
      else
        (fBd (f_X12_refuse ((8 : Int32)) s8) fun x21 s22 =>
        some (x21, s22)))) fun (k9 : Int32 → fSt → Option (Int32 × fSt)) =>
    f_X12_cast_L32 a1 k9 fF x5 x6 s4)
  else
    (fBd (f_X12_refuse ((5 : Int32)) s4) fun x39 s40 =>
    some (x39, s40))

set_option maxHeartbeats 4000000 in
set_option maxRecDepth 100000 in
theorem c_X12_cast (Δ : fDl) (hN : fNm Δ) (a1 : Int32)  (st : fSt) : fMt eI Δ yX12_cast cX12_cast 4 (some .int) 12 [.ref (fad Δ 12 0 0), .int a1] st (f_X12_cast a1 st) := by
  unfold f_X12_cast
  refine r_method (by decide +kernel) (Nat.le_of_ble_eq_true rfl) (fun Γ C => ?_)
  have C : fC Δ Γ cX12_cast RX12 4 (some .int) 12 := C
  refine r_locs (lc' := [(0, .ref (fad Δ 12 0 0)), (1, .int a1)]) [0, 1] rfl ?_
  refine r_aload_n (q := 1) (i := 0) (z := 0) C dX12_cast_0 rfl rfl rfl ?_
  refine r_iconst (q := 2) (v := 0) C dX12_cast_1 rfl (by decide) ?_
  refine p_X12_90 (q := 5) C (nm_12 hN) dX12_cast_2 rfl (fun s1 => ?_)
  refine r_aload_n (q := 6) (i := 0) (z := 0) C dX12_cast_5 rfl rfl rfl ?_
  refine r_iconst (q := 7) (v := 0) C dX12_cast_6 rfl (by decide) ?_
  refine p_X12_93 (q := 10) C (nm_12 hN) dX12_cast_7 rfl (fun s2 => ?_)
  refine r_iload_n (q := 11) (i := 1) (z := 1) C dX12_cast_10 rfl rfl rfl ?_
  refine r_i2l (q := 12) C dX12_cast_11 rfl ?_
  refine r_lconst (q := 13) (v := 1) C dX12_cast_12 rfl (by decide) ?_
  refine r_ldc2 (q := 16) C dX12_cast_13 rfl wl_X12_535 ?_
  refine r_callSI (q := 19) (As := [.long a1.toInt64, .long ((1 : Int64)), .long ((7 : Int64))]) wm_X12_129 ysX12_isIn (c_X12_isIn Δ hN a1.toInt64 ((1 : Int64)) ((7 : Int64)) s2) C (by decide) rfl (Nat.le_of_ble_eq_true rfl) dX12_cast_16 rfl (fun x3 s4 => ?_)
  refine r_if_ne (q := 22) (tgt := 28) C dX12_cast_19 (by decide) rfl ?_ ?_
  · refine r_iconst (q := 29) (v := 0) C dX12_cast_28 rfl (by decide) ?_
    refine r_istore_n (q := 30) (i := 2) [(0, .ref (fad Δ 12 0 0)), (1, .int a1)] C dX12_cast_29 rfl rfl (by decide) rfl (fun x5 => ?_)
    refine r_iconst (q := 31) (v := 0) C dX12_cast_30 rfl (by decide) ?_
    refine r_istore_n (q := 32) (i := 3) [(2, .int x5), (0, .ref (fad Δ 12 0 0)), (1, .int a1)] C dX12_cast_31 rfl rfl (by decide) rfl (fun x6 => ?_)
    refine r_join (fun k9 => ∀ (x7 : Int32) (s8 : fSt), fW Δ Γ 4 (fQ eI Δ Γ) 78 [(0, .ref (fad Δ 12 0 0)), (2, .int x7)] [] s8 (k9 x7 s8)) ?_ (fun k9 hk9 => ?_)
    · intro x7 s8
      refine r_iload_n (q := 79) (i := 2) (z := 1) C dX12_cast_78 rfl rfl rfl ?_
      refine r_if_ne (q := 82) (tgt := 89) C dX12_cast_79 (by decide) rfl ?_ ?_
      · refine r_aload_n (q := 90) (i := 0) (z := 0) C dX12_cast_89 rfl rfl rfl ?_
        refine r_iconst (q := 91) (v := (-1)) C dX12_cast_90 rfl (by decide) ?_
        refine p_X12_523 (q := 94) C (nm_12 hN) dX12_cast_91 rfl (fun s10 => ?_)
        refine r_aload_n (q := 95) (i := 0) (z := 0) C dX12_cast_94 rfl rfl rfl ?_
        refine r_iconst (q := 96) (v := 0) C dX12_cast_95 rfl (by decide) ?_
        refine r_iconst (q := 97) (v := 0) C dX12_cast_96 rfl (by decide) ?_
        refine r_callVV (q := 100) (As := [.int ((0 : Int32)), .int ((0 : Int32))]) wm_X12_529 yvX12_casts (c_X12_casts Δ hN 8 ((0 : Int32)) ((0 : Int32)) s10) ⟨rfl, by decide⟩ C (nm_12 hN) (by decide) rfl (Nat.le_of_ble_eq_true rfl) dX12_cast_97 rfl (fun _ s11 => ?_)
        refine r_aload_n (q := 101) (i := 0) (z := 0) C dX12_cast_100 rfl rfl rfl ?_
        refine g_X12_523 (q := 104) C (nm_12 hN) dX12_cast_101 rfl ?_
        refine r_if_ge (q := 107) (tgt := 114) C dX12_cast_104 (by decide) rfl ?_ ?_
        · refine r_aload_n (q := 115) (i := 0) (z := 0) C dX12_cast_114 rfl rfl rfl ?_
          refine r_iconst (q := 116) (v := 1) C dX12_cast_115 rfl (by decide) ?_
          refine p_X12_540 (q := 119) C (nm_12 hN) dX12_cast_116 rfl (fun s12 => ?_)
          refine r_iconst (q := 120) (v := 0) C dX12_cast_119 rfl (by decide) ?_
          refine r_istore_n (q := 121) (i := 3) [(0, .ref (fad Δ 12 0 0)), (2, .int x7)] C dX12_cast_120 rfl rfl (by decide) rfl (fun x13 => ?_)
          refine r_locs (lc' := [(0, .ref (fad Δ 12 0 0)), (3, .int x13)]) [1, 0] rfl ?_
          have L121 : ∀ (n16 : Nat) (x14 : Int32) (s15 : fSt), fW Δ Γ 4 (fQ eI Δ Γ) 121 [(0, .ref (fad Δ 12 0 0)), (3, .int x14)] [] s15 (f_X12_cast_L121 n16 x14 s15) := by
            intro n16
            induction n16 with
            | zero =>
              intro x14 s15
              rw [f_X12_cast_L121]
              exact r_none
            | succ n16 ih_n16 =>
              intro x14 s15
              rw [f_X12_cast_L121]
              refine r_iload_n (q := 122) (i := 3) (z := 1) C dX12_cast_121 rfl rfl rfl ?_
              refine r_bipush (q := 124) (v := 6) C dX12_cast_122 rfl (by decide) ?_
              refine r_icmp_ge (q := 127) (tgt := 145) C dX12_cast_124 (by decide) rfl ?_ ?_
              · refine r_aload_n (q := 146) (i := 0) (z := 0) C dX12_cast_145 rfl rfl rfl ?_
                refine g_X12_523 (q := 149) C (nm_12 hN) dX12_cast_146 rfl ?_
                exact r_iret C dX12_cast_149
              · refine r_aload_n (q := 128) (i := 0) (z := 0) C dX12_cast_127 rfl rfl rfl ?_
                refine g_X12_81 (q := 131) C (nm_12 hN) dX12_cast_128 rfl ?_
                refine r_iload_n (q := 132) (i := 3) (z := 1) C dX12_cast_131 rfl rfl rfl ?_
                refine r_aload_n (q := 133) (i := 0) (z := 0) C dX12_cast_132 rfl rfl rfl ?_
                refine g_X12_78 (q := 136) C (nm_12 hN) dX12_cast_133 rfl ?_
                refine r_iload_n (q := 137) (i := 3) (z := 1) C dX12_cast_136 rfl rfl rfl ?_
                refine r_ial (q := 138) q_12_19 h_12_19 C (nm_12 hN) dX12_cast_137 rfl ?_
                refine r_ast (q := 139) q_12_20 h_12_20 C (nm_12 hN) dX12_cast_138 rfl (fun s17 => ?_)
                refine r_iinc (q := 142) (z := 1) (d := 1) [(0, .ref (fad Δ 12 0 0))] C dX12_cast_139 rfl rfl (by decide) (by decide) rfl (fun x18 => ?_)
                refine r_goto (q := 121) C dX12_cast_142 (by decide) ?_
                refine r_locs (lc' := [(0, .ref (fad Δ 12 0 0)), (3, .int x18)]) [1, 0] rfl ?_
                exact ih_n16 x18 s17
          exact L121 fF x13 s12
        · refine r_aload_n (q := 108) (i := 0) (z := 0) C dX12_cast_107 rfl rfl rfl ?_
          refine r_bipush (q := 110) (v := 9) C dX12_cast_108 rfl (by decide) ?_
          refine r_callVI (q := 113) (As := [.int ((9 : Int32))]) wm_X12_348 yvX12_refuse (c_X12_refuse Δ hN ((9 : Int32)) s11) ⟨rfl, by decide⟩ C (nm_12 hN) (by decide) rfl (Nat.le_of_ble_eq_true rfl) dX12_cast_110 rfl (fun x19 s20 => ?_)
          exact r_iret C dX12_cast_113
      · refine r_aload_n (q := 83) (i := 0) (z := 0) C dX12_cast_82 rfl rfl rfl ?_
        refine r_bipush (q := 85) (v := 8) C dX12_cast_83 rfl (by decide) ?_
        refine r_callVI (q := 88) (As := [.int ((8 : Int32))]) wm_X12_348 yvX12_refuse (c_X12_refuse Δ hN ((8 : Int32)) s8) ⟨rfl, by decide⟩ C (nm_12 hN) (by decide) rfl (Nat.le_of_ble_eq_true rfl) dX12_cast_85 rfl (fun x21 s22 => ?_)
        exact r_iret C dX12_cast_88
    refine r_locs (lc' := [(0, .ref (fad Δ 12 0 0)), (1, .int a1), (2, .int x5), (3, .int x6)]) [2, 3, 1, 0] rfl ?_
    have L32 : ∀ (n26 : Nat) (x23 : Int32) (x24 : Int32) (s25 : fSt), fW Δ Γ 4 (fQ eI Δ Γ) 32 [(0, .ref (fad Δ 12 0 0)), (1, .int a1), (2, .int x23), (3, .int x24)] [] s25 (f_X12_cast_L32 a1 k9 n26 x23 x24 s25) := by
      intro n26
      induction n26 with
      | zero =>
        intro x23 x24 s25
        rw [f_X12_cast_L32]
        exact r_none
      | succ n26 ih_n26 =>
        intro x23 x24 s25
        rw [f_X12_cast_L32]
        refine r_iload_n (q := 33) (i := 3) (z := 3) C dX12_cast_32 rfl rfl rfl ?_
        refine r_aload_n (q := 34) (i := 0) (z := 0) C dX12_cast_33 rfl rfl rfl ?_
        refine g_X12_35 (q := 37) C (nm_12 hN) dX12_cast_34 rfl ?_
        refine r_iconst (q := 38) (v := 0) C dX12_cast_37 rfl (by decide) ?_
        refine r_ial (q := 39) q_12_5 h_12_5 C (nm_12 hN) dX12_cast_38 rfl ?_
        refine r_icmp_ge (q := 42) (tgt := 78) C dX12_cast_39 (by decide) rfl ?_ ?_
        · refine r_locs (lc' := [(0, .ref (fad Δ 12 0 0)), (2, .int x23)]) [0, 2] rfl ?_
          exact hk9 x23 s25
        · refine r_iload_n (q := 43) (i := 2) (z := 2) C dX12_cast_42 rfl rfl rfl ?_
          refine r_join (fun j29 => ∀ (x27 : Int32) (s28 : fSt), fW Δ Γ 4 (fQ eI Δ Γ) 59 [(0, .ref (fad Δ 12 0 0)), (1, .int a1), (3, .int x24)] [.int x27] s28 (j29 x27 s28)) ?_ (fun j29 hj29 => ?_)
          · intro x27 s28
            refine r_istore_n (q := 60) (i := 2) [(0, .ref (fad Δ 12 0 0)), (1, .int a1), (3, .int x24)] C dX12_cast_59 rfl rfl (by decide) rfl (fun x30 => ?_)
            refine r_aload_n (q := 61) (i := 0) (z := 1) C dX12_cast_60 rfl rfl rfl ?_
            refine g_X12_84 (q := 64) C (nm_12 hN) dX12_cast_61 rfl ?_
            refine r_iload_n (q := 65) (i := 3) (z := 3) C dX12_cast_64 rfl rfl rfl ?_
            refine r_aload_n (q := 66) (i := 0) (z := 1) C dX12_cast_65 rfl rfl rfl ?_
            refine r_iload_n (q := 67) (i := 3) (z := 3) C dX12_cast_66 rfl rfl rfl ?_
            refine r_iload_n (q := 68) (i := 1) (z := 2) C dX12_cast_67 rfl rfl rfl ?_
            refine r_callVI (q := 71) (As := [.int x24, .int a1]) wm_X12_537 yvX12_breathsFor (c_X12_breathsFor Δ hN x24 a1 s28) ⟨rfl, by decide⟩ C (nm_12 hN) (by decide) rfl (Nat.le_of_ble_eq_true rfl) dX12_cast_68 rfl (fun x31 s32 => ?_)
            refine r_ast (q := 72) q_12_21 h_12_21 C (nm_12 hN) dX12_cast_71 rfl (fun s33 => ?_)
            refine r_iinc (q := 75) (z := 3) (d := 1) [(2, .int x30), (0, .ref (fad Δ 12 0 0)), (1, .int a1)] C dX12_cast_72 rfl rfl (by decide) (by decide) rfl (fun x34 => ?_)
            refine r_goto (q := 32) C dX12_cast_75 (by decide) ?_
            refine r_locs (lc' := [(0, .ref (fad Δ 12 0 0)), (1, .int a1), (2, .int x30), (3, .int x34)]) [2, 3, 1, 0] rfl ?_
            exact ih_n26 x30 x34 s33
          refine r_join (fun j36 => ∀  (s35 : fSt), fW Δ Γ 4 (fQ eI Δ Γ) 54 [(0, .ref (fad Δ 12 0 0)), (1, .int a1), (3, .int x24)] [] s35 (j36 s35)) ?_ (fun j36 hj36 => ?_)
          · intro s35
            refine r_iconst (q := 55) (v := 1) C dX12_cast_54 rfl (by decide) ?_
            refine r_goto (q := 59) C dX12_cast_55 (by decide) ?_
            exact hj29 ((1 : Int32)) s35
          refine r_if_ne (q := 46) (tgt := 54) C dX12_cast_43 (by decide) rfl ?_ ?_
          · refine r_locs (lc' := [(0, .ref (fad Δ 12 0 0)), (1, .int a1), (3, .int x24)]) [0, 1, 3] rfl ?_
            exact hj36 s25
          · refine r_aload_n (q := 47) (i := 0) (z := 0) C dX12_cast_46 rfl rfl rfl ?_
            refine r_iload_n (q := 48) (i := 3) (z := 3) C dX12_cast_47 rfl rfl rfl ?_
            refine r_callVI (q := 51) (As := [.int x24]) wm_X12_526 yvX12_isInScene (c_X12_isInScene Δ hN x24 s25) ⟨rfl, by decide⟩ C (nm_12 hN) (by decide) rfl (Nat.le_of_ble_eq_true rfl) dX12_cast_48 rfl (fun x37 s38 => ?_)
            refine r_if_eq (q := 54) (tgt := 58) C dX12_cast_51 (by decide) rfl ?_ ?_
            · refine r_iconst (q := 59) (v := 0) C dX12_cast_58 rfl (by decide) ?_
              refine r_locs (lc' := [(0, .ref (fad Δ 12 0 0)), (1, .int a1), (3, .int x24)]) [0, 1, 3] rfl ?_
              exact hj29 ((0 : Int32)) s38
            · refine r_locs (lc' := [(0, .ref (fad Δ 12 0 0)), (1, .int a1), (3, .int x24)]) [0, 1, 3] rfl ?_
              exact hj36 s38
    exact L32 fF x5 x6 s4
  · refine r_aload_n (q := 23) (i := 0) (z := 0) C dX12_cast_22 rfl rfl rfl ?_
    refine r_iconst (q := 24) (v := 5) C dX12_cast_23 rfl (by decide) ?_
    refine r_callVI (q := 27) (As := [.int ((5 : Int32))]) wm_X12_348 yvX12_refuse (c_X12_refuse Δ hN ((5 : Int32)) s4) ⟨rfl, by decide⟩ C (nm_12 hN) (by decide) rfl (Nat.le_of_ble_eq_true rfl) dX12_cast_24 rfl (fun x39 s40 => ?_)
    exact r_iret C dX12_cast_27

noncomputable def f_X12_castAt (a1 : Int32) (st : fSt) : Option (Int32 × fSt) :=
  fLt (sI st 12 0 1 ((0 : Int32))) fun s1 =>
  fLt (sI s1 12 0 0 ((0 : Int32))) fun s2 =>
  fBd (f_X12_isIn a1.toInt64 ((0 : Int64)) ((5 : Int64)) s2) fun x3 s4 =>
  if ¬ x3 = 0 then
    (fJn (fun (x5 : Int32) (s6 : fSt) =>
      (some (x5, s6))) fun (j7 : Int32 → fSt → Option (Int32 × fSt)) =>
    fJn (fun (s8 : fSt) =>
      (fBd (f_X12_refuse ((8 : Int32)) s8) fun x10 s11 =>
      j7 x10 s11)) fun (j9 : fSt → Option (Int32 × fSt)) =>
    if (gI s4 12 0 54) = 0 then
      (j9 s4)
    else
      (fIx a1 6 <|
      if 0 ≤ (gA s4 12 0 20 a1.toNatClampNeg) then
        (fIx a1 6 <|
        j7 (gA s4 12 0 20 a1.toNatClampNeg) s4)
      else
        (j9 s4)))
  else
    (fBd (f_X12_refuse ((5 : Int32)) s4) fun x12 s13 =>
    some (x12, s13))

set_option maxHeartbeats 4000000 in
set_option maxRecDepth 100000 in
theorem c_X12_castAt (Δ : fDl) (hN : fNm Δ) (a1 : Int32)  (st : fSt) : fMt eI Δ yX12_castAt cX12_castAt 2 (some .int) 2 [.ref (fad Δ 12 0 0), .int a1] st (f_X12_castAt a1 st) := by
  unfold f_X12_castAt
  refine r_method (by decide +kernel) (Nat.le_of_ble_eq_true rfl) (fun Γ C => ?_)
  have C : fC Δ Γ cX12_castAt RX12 2 (some .int) 2 := C
  refine r_locs (lc' := [(0, .ref (fad Δ 12 0 0)), (1, .int a1)]) [0, 1] rfl ?_
  refine r_aload_n (q := 1) (i := 0) (z := 0) C dX12_castAt_0 rfl rfl rfl ?_
  refine r_iconst (q := 2) (v := 0) C dX12_castAt_1 rfl (by decide) ?_
  refine p_X12_90 (q := 5) C (nm_12 hN) dX12_castAt_2 rfl (fun s1 => ?_)
  refine r_aload_n (q := 6) (i := 0) (z := 0) C dX12_castAt_5 rfl rfl rfl ?_
  refine r_iconst (q := 7) (v := 0) C dX12_castAt_6 rfl (by decide) ?_
  refine p_X12_93 (q := 10) C (nm_12 hN) dX12_castAt_7 rfl (fun s2 => ?_)
  refine r_iload_n (q := 11) (i := 1) (z := 1) C dX12_castAt_10 rfl rfl rfl ?_
  refine r_i2l (q := 12) C dX12_castAt_11 rfl ?_
  refine r_lconst (q := 13) (v := 0) C dX12_castAt_12 rfl (by decide) ?_
  refine r_ldc2 (q := 16) C dX12_castAt_13 rfl wl_X12_543 ?_
  refine r_callSI (q := 19) (As := [.long a1.toInt64, .long ((0 : Int64)), .long ((5 : Int64))]) wm_X12_129 ysX12_isIn (c_X12_isIn Δ hN a1.toInt64 ((0 : Int64)) ((5 : Int64)) s2) C (by decide) rfl (Nat.le_of_ble_eq_true rfl) dX12_castAt_16 rfl (fun x3 s4 => ?_)
  refine r_if_ne (q := 22) (tgt := 28) C dX12_castAt_19 (by decide) rfl ?_ ?_
  · refine r_aload_n (q := 29) (i := 0) (z := 0) C dX12_castAt_28 rfl rfl rfl ?_
    refine g_X12_540 (q := 32) C (nm_12 hN) dX12_castAt_29 rfl ?_
    refine r_join (fun j7 => ∀ (x5 : Int32) (s6 : fSt), fW Δ Γ 2 (fQ eI Δ Γ) 59 [] [.int x5] s6 (j7 x5 s6)) ?_ (fun j7 hj7 => ?_)
    · intro x5 s6
      exact r_iret C dX12_castAt_59
    refine r_join (fun j9 => ∀  (s8 : fSt), fW Δ Γ 2 (fQ eI Δ Γ) 44 [(0, .ref (fad Δ 12 0 0))] [] s8 (j9 s8)) ?_ (fun j9 hj9 => ?_)
    · intro s8
      refine r_aload_n (q := 45) (i := 0) (z := 0) C dX12_castAt_44 rfl rfl rfl ?_
      refine r_bipush (q := 47) (v := 8) C dX12_castAt_45 rfl (by decide) ?_
      refine r_callVI (q := 50) (As := [.int ((8 : Int32))]) wm_X12_348 yvX12_refuse (c_X12_refuse Δ hN ((8 : Int32)) s8) ⟨rfl, by decide⟩ C (nm_12 hN) (by decide) rfl (Nat.le_of_ble_eq_true rfl) dX12_castAt_47 rfl (fun x10 s11 => ?_)
      refine r_goto (q := 59) C dX12_castAt_50 (by decide) ?_
      refine r_locs (lc' := []) [] rfl ?_
      exact hj7 x10 s11
    refine r_if_eq (q := 35) (tgt := 44) C dX12_castAt_32 (by decide) rfl ?_ ?_
    · refine r_locs (lc' := [(0, .ref (fad Δ 12 0 0))]) [0] rfl ?_
      exact hj9 s4
    · refine r_aload_n (q := 36) (i := 0) (z := 0) C dX12_castAt_35 rfl rfl rfl ?_
      refine g_X12_81 (q := 39) C (nm_12 hN) dX12_castAt_36 rfl ?_
      refine r_iload_n (q := 40) (i := 1) (z := 1) C dX12_castAt_39 rfl rfl rfl ?_
      refine r_ial (q := 41) q_12_20 h_12_20 C (nm_12 hN) dX12_castAt_40 rfl ?_
      refine r_if_ge (q := 44) (tgt := 53) C dX12_castAt_41 (by decide) rfl ?_ ?_
      · refine r_aload_n (q := 54) (i := 0) (z := 0) C dX12_castAt_53 rfl rfl rfl ?_
        refine g_X12_81 (q := 57) C (nm_12 hN) dX12_castAt_54 rfl ?_
        refine r_iload_n (q := 58) (i := 1) (z := 1) C dX12_castAt_57 rfl rfl rfl ?_
        refine r_ial (q := 59) q_12_20 h_12_20 C (nm_12 hN) dX12_castAt_58 rfl ?_
        refine r_locs (lc' := []) [] rfl ?_
        exact hj7 (gA s4 12 0 20 a1.toNatClampNeg) s4
      · refine r_locs (lc' := [(0, .ref (fad Δ 12 0 0))]) [0] rfl ?_
        exact hj9 s4
  · refine r_aload_n (q := 23) (i := 0) (z := 0) C dX12_castAt_22 rfl rfl rfl ?_
    refine r_iconst (q := 24) (v := 5) C dX12_castAt_23 rfl (by decide) ?_
    refine r_callVI (q := 27) (As := [.int ((5 : Int32))]) wm_X12_348 yvX12_refuse (c_X12_refuse Δ hN ((5 : Int32)) s4) ⟨rfl, by decide⟩ C (nm_12 hN) (by decide) rfl (Nat.le_of_ble_eq_true rfl) dX12_castAt_24 rfl (fun x12 s13 => ?_)
    exact r_iret C dX12_castAt_27

noncomputable def f_X12_common_L12  : Nat → Int64 → Int64 → fSt → Option (Int64 × fSt)
  | 0, _, _, _ => none
  | n6 + 1, x3, x4, s5 =>
      if (lg_cmp x4 ((0 : Int64))) = 0 then
        (some (x3, s5))
      else
        (fNz x4 <|
        fLt (x3 - x3 / x4 * x4) fun (x7 : Int64) =>
        fLt x4 fun (x8 : Int64) =>
        fLt x7 fun (x9 : Int64) =>
        f_X12_common_L12 n6 x8 x9 s5)

noncomputable def f_X12_common (a0 : Int64) (a2 : Int64) (st : fSt) : Option (Int64 × fSt) :=
  fLt (if 0 < a0 then a0 else -a0) fun (x1 : Int64) =>
  fLt (if 0 < a2 then a2 else -a2) fun (x2 : Int64) =>
  f_X12_common_L12 fF x1 x2 st

set_option maxHeartbeats 4000000 in
set_option maxRecDepth 100000 in
theorem c_X12_common (Δ : fDl) (hN : fNm Δ) (a0 : Int64) (a2 : Int64)  (st : fSt) : fMt eL Δ yX12_common cX12_common 10 (some .long) 1 [.long a0, .long a2] st (f_X12_common a0 a2 st) := by
  unfold f_X12_common
  refine r_method (by decide +kernel) (Nat.le_of_ble_eq_true rfl) (fun Γ C => ?_)
  have C : fC Δ Γ cX12_common RX12 10 (some .long) 1 := C
  refine r_locs (lc' := [(0, .long a0), (2, .long a2)]) [0, 1] rfl ?_
  refine r_lload_n (q := 1) (i := 0) (z := 0) C dX12_common_0 rfl rfl rfl ?_
  refine r_labs (q := 4) wk_X12_99 mw_labs.1 mw_labs.2.1 mw_labs.2.2 C (by decide) (Nat.le_of_ble_eq_true rfl) dX12_common_1 rfl ?_
  refine r_lstore (q := 6) (i := 4) [(0, .long a0), (2, .long a2)] C dX12_common_4 rfl (by decide) rfl (fun x1 => ?_)
  refine r_lload_n (q := 7) (i := 2) (z := 2) C dX12_common_6 rfl rfl rfl ?_
  refine r_labs (q := 10) wk_X12_99 mw_labs.1 mw_labs.2.1 mw_labs.2.2 C (by decide) (Nat.le_of_ble_eq_true rfl) dX12_common_7 rfl ?_
  refine r_lstore (q := 12) (i := 6) [(4, .long x1), (0, .long a0), (2, .long a2)] C dX12_common_10 rfl (by decide) rfl (fun x2 => ?_)
  refine r_locs (lc' := [(4, .long x1), (6, .long x2)]) [1, 0] rfl ?_
  have L12 : ∀ (n6 : Nat) (x3 : Int64) (x4 : Int64) (s5 : fSt), fW Δ Γ 10 (fQ eL Δ Γ) 12 [(4, .long x3), (6, .long x4)] [] s5 (f_X12_common_L12 n6 x3 x4 s5) := by
    intro n6
    induction n6 with
    | zero =>
      intro x3 x4 s5
      rw [f_X12_common_L12]
      exact r_none
    | succ n6 ih_n6 =>
      intro x3 x4 s5
      rw [f_X12_common_L12]
      refine r_lload (q := 14) (i := 6) (z := 1) C dX12_common_12 rfl rfl ?_
      refine r_lconst (q := 15) (v := 0) C dX12_common_14 rfl (by decide) ?_
      refine r_lcmp (q := 16) C dX12_common_15 rfl ?_
      refine r_if_eq (q := 19) (tgt := 37) C dX12_common_16 (by decide) rfl ?_ ?_
      · refine r_lload (q := 39) (i := 4) (z := 0) C dX12_common_37 rfl rfl ?_
        exact r_lret C dX12_common_39
      · refine r_lload (q := 21) (i := 4) (z := 0) C dX12_common_19 rfl rfl ?_
        refine r_lload (q := 23) (i := 6) (z := 1) C dX12_common_21 rfl rfl ?_
        refine r_lrem (q := 24) C dX12_common_23 rfl ?_
        refine r_lstore (q := 26) (i := 8) [(4, .long x3), (6, .long x4)] C dX12_common_24 rfl (by decide) rfl (fun x7 => ?_)
        refine r_lload (q := 28) (i := 6) (z := 2) C dX12_common_26 rfl rfl ?_
        refine r_lstore (q := 30) (i := 4) [(8, .long x7), (6, .long x4)] C dX12_common_28 rfl (by decide) rfl (fun x8 => ?_)
        refine r_lload (q := 32) (i := 8) (z := 1) C dX12_common_30 rfl rfl ?_
        refine r_lstore (q := 34) (i := 6) [(4, .long x8), (8, .long x7)] C dX12_common_32 rfl (by decide) rfl (fun x9 => ?_)
        refine r_goto (q := 12) C dX12_common_34 (by decide) ?_
        refine r_locs (lc' := [(4, .long x8), (6, .long x9)]) [1, 0] rfl ?_
        exact ih_n6 x8 x9 s5
  exact L12 fF x1 x2 st

noncomputable def f_X12_fail (a1 : Int32) (a2 : Int32) (st : fSt) : Option (Unit × fSt) :=
  if (gI st 12 0 12) ≤ 0 then
    (fLt (sI st 12 0 12 a1) fun s1 =>
    fLt (sI s1 12 0 13 a2) fun s2 =>
    some ((), s2))
  else
    (some ((), st))

set_option maxHeartbeats 4000000 in
set_option maxRecDepth 100000 in
theorem c_X12_fail (Δ : fDl) (hN : fNm Δ) (a1 : Int32) (a2 : Int32)  (st : fSt) : fMt eV Δ yX12_fail cX12_fail 3 none 1 [.ref (fad Δ 12 0 0), .int a1, .int a2] st (f_X12_fail a1 a2 st) := by
  unfold f_X12_fail
  refine r_method (by decide +kernel) (Nat.le_of_ble_eq_true rfl) (fun Γ C => ?_)
  have C : fC Δ Γ cX12_fail RX12 3 none 1 := C
  refine r_locs (lc' := [(0, .ref (fad Δ 12 0 0)), (1, .int a1), (2, .int a2)]) [0, 1, 2] rfl ?_
  refine r_aload_n (q := 1) (i := 0) (z := 0) C dX12_fail_0 rfl rfl rfl ?_
  refine g_X12_249 (q := 4) C (nm_12 hN) dX12_fail_1 rfl ?_
  refine r_if_le (q := 7) (tgt := 8) C dX12_fail_4 (by decide) rfl ?_ ?_
  · refine r_aload_n (q := 9) (i := 0) (z := 0) C dX12_fail_8 rfl rfl rfl ?_
    refine r_iload_n (q := 10) (i := 1) (z := 1) C dX12_fail_9 rfl rfl rfl ?_
    refine p_X12_249 (q := 13) C (nm_12 hN) dX12_fail_10 rfl (fun s1 => ?_)
    refine r_aload_n (q := 14) (i := 0) (z := 0) C dX12_fail_13 rfl rfl rfl ?_
    refine r_iload_n (q := 15) (i := 2) (z := 2) C dX12_fail_14 rfl rfl rfl ?_
    refine p_X12_252 (q := 18) C (nm_12 hN) dX12_fail_15 rfl (fun s2 => ?_)
    exact r_vret C dX12_fail_18
  · exact r_vret C dX12_fail_7

noncomputable def f_X12_wrong  (st : fSt) : Option (Unit × fSt) :=
  fJn (fun (x1 : Int32) (s2 : fSt) =>
    (fBd (f_X12_fail x1 (gI s2 12 0 15) s2) fun _ s4 =>
    some ((), s4))) fun (j3 : Int32 → fSt → Option (Unit × fSt)) =>
  if ¬ (gI st 12 0 14) = ((4 : Int32)) then
    (j3 ((2 : Int32)) st)
  else
    (j3 ((1 : Int32)) st)

set_option maxHeartbeats 4000000 in
set_option maxRecDepth 100000 in
theorem c_X12_wrong (Δ : fDl) (hN : fNm Δ)   (st : fSt) : fMt eV Δ yX12_wrong cX12_wrong 1 none 2 [.ref (fad Δ 12 0 0)] st (f_X12_wrong  st) := by
  unfold f_X12_wrong
  refine r_method (by decide +kernel) (Nat.le_of_ble_eq_true rfl) (fun Γ C => ?_)
  have C : fC Δ Γ cX12_wrong RX12 1 none 2 := C
  refine r_locs (lc' := [(0, .ref (fad Δ 12 0 0))]) [0] rfl ?_
  refine r_aload_n (q := 1) (i := 0) (z := 0) C dX12_wrong_0 rfl rfl rfl ?_
  refine r_aload_n (q := 2) (i := 0) (z := 0) C dX12_wrong_1 rfl rfl rfl ?_
  refine g_X12_145 (q := 5) C (nm_12 hN) dX12_wrong_2 rfl ?_
  refine r_iconst (q := 6) (v := 4) C dX12_wrong_5 rfl (by decide) ?_
  refine r_join (fun j3 => ∀ (x1 : Int32) (s2 : fSt), fW Δ Γ 1 (fQ eV Δ Γ) 14 [(0, .ref (fad Δ 12 0 0))] [.int x1, .ref (fad Δ 12 0 0)] s2 (j3 x1 s2)) ?_ (fun j3 hj3 => ?_)
  · intro x1 s2
    refine r_aload_n (q := 15) (i := 0) (z := 0) C dX12_wrong_14 rfl rfl rfl ?_
    refine g_X12_139 (q := 18) C (nm_12 hN) dX12_wrong_15 rfl ?_
    refine r_callVV (q := 21) (As := [.int x1, .int (gI s2 12 0 15)]) wm_X12_255 yvX12_fail (c_X12_fail Δ hN x1 (gI s2 12 0 15) s2) ⟨rfl, by decide⟩ C (nm_12 hN) (by decide) rfl (Nat.le_of_ble_eq_true rfl) dX12_wrong_18 rfl (fun _ s4 => ?_)
    exact r_vret C dX12_wrong_21
  refine r_icmp_ne (q := 9) (tgt := 13) C dX12_wrong_6 (by decide) rfl ?_ ?_
  · refine r_iconst (q := 14) (v := 2) C dX12_wrong_13 rfl (by decide) ?_
    exact hj3 ((2 : Int32)) st
  · refine r_iconst (q := 10) (v := 1) C dX12_wrong_9 rfl (by decide) ?_
    refine r_goto (q := 14) C dX12_wrong_10 (by decide) ?_
    exact hj3 ((1 : Int32)) st
