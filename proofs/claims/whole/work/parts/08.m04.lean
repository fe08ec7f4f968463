noncomputable def f_X12_plays2 (a1 : Int32) (st : fSt) : Option (Unit × fSt) :=
  fBd (f_X12_isDark  st) fun x1 s2 =>
  fJn (fun (s3 : fSt) =>
    (fLt (sI s3 12 0 63 ((gI s3 12 0 63) + ((1 : Int32)))) fun s5 =>
    some ((), s5))) fun (j4 : fSt → Option (Unit × fSt)) =>
  if ¬ x1 = 0 then
    (j4 s2)
  else
    (fJn (fun (s6 : fSt) =>
      (fJn (fun (x8 : Int32) (s9 : fSt) =>
        (fBd (f_X12_playFor x8 s9) fun _ s11 =>
        fLt (sI s11 12 0 59 ((gI s11 12 0 59) + ((1 : Int32)))) fun s12 =>
        fLt (sI s12 12 0 60 ((gI s12 12 0 60) ||| (gI s12 12 0 25))) fun s13 =>
        fJn (fun (x14 : Int32) (s15 : fSt) =>
          (fLt (sI s15 12 0 64 x14) fun s17 =>
          fLt (sI s17 12 0 61 ((gI s17 12 0 61) ||| (((1 : Int32)) <<< ((gI s17 12 0 64) &&& 31)))) fun s18 =>
          fLt (sI s18 12 0 62 ((gI s18 12 0 62) + (gI s18 12 0 27))) fun s19 =>
          some ((), s19))) fun (j16 : Int32 → fSt → Option (Unit × fSt)) =>
        if 0 ≤ (gI s13 12 0 26) then
          (j16 (gI s13 12 0 26) s13)
        else
          (j16 ((9 : Int32)) s13))) fun (j10 : Int32 → fSt → Option (Unit × fSt)) =>
      if ¬ a1 = ((-1 : Int32)) then
        (j10 a1 s6)
      else
        (fBd (f_X12_drawnKind  s6) fun x20 s21 =>
        j10 x20 s21))) fun (j7 : fSt → Option (Unit × fSt)) =>
    if ¬ a1 = ((-1 : Int32)) then
      (j7 s2)
    else
      (fIx ((3 : Int32)) 2150 <|
      if ¬ (gA s2 12 0 5 ((3 : Int32)).toNatClampNeg) = 0 then
        (j7 s2)
      else
        (j4 s2)))

set_option maxHeartbeats 4000000 in
set_option maxRecDepth 100000 in
theorem c_X12_plays2 (Δ : fDl) (hN : fNm Δ) (a1 : Int32)  (st : fSt) : fMt eV Δ yX12_plays2 cX12_plays2 2 none 5 [.ref (fad Δ 12 0 0), .int a1] st (f_X12_plays2 a1 st) := by
  unfold f_X12_plays2
  refine r_method (by decide +kernel) (Nat.le_of_ble_eq_true rfl) (fun Γ C => ?_)
  have C : fC Δ Γ cX12_plays2 RX12 2 none 5 := C
  refine r_locs (lc' := [(0, .ref (fad Δ 12 0 0)), (1, .int a1)]) [0, 1] rfl ?_
  refine r_aload_n (q := 1) (i := 0) (z := 0) C dX12_plays2_0 rfl rfl rfl ?_
  refine r_callVI (q := 4) (As := []) wm_X12_403 yvX12_isDark (c_X12_isDark Δ hN st) ⟨rfl, by decide⟩ C (nm_12 hN) (by decide) rfl (Nat.le_of_ble_eq_true rfl) dX12_plays2_1 rfl (fun x1 s2 => ?_)
  refine r_join (fun j4 => ∀  (s3 : fSt), fW Δ Γ 2 (fQ eV Δ Γ) 21 [(0, .ref (fad Δ 12 0 0))] [] s3 (j4 s3)) ?_ (fun j4 hj4 => ?_)
  · intro s3
    refine r_aload_n (q := 22) (i := 0) (z := 0) C dX12_plays2_21 rfl rfl rfl ?_
    refine r_dup (q := 23) C dX12_plays2_22 rfl rfl ?_
    refine g_X12_545 (q := 26) C (nm_12 hN) dX12_plays2_23 rfl ?_
    refine r_iconst (q := 27) (v := 1) C dX12_plays2_26 rfl (by decide) ?_
    refine r_iadd (q := 28) C dX12_plays2_27 rfl ?_
    refine p_X12_545 (q := 31) C (nm_12 hN) dX12_plays2_28 rfl (fun s5 => ?_)
    exact r_vret C dX12_plays2_31
  refine r_if_ne (q := 7) (tgt := 21) C dX12_plays2_4 (by decide) rfl ?_ ?_
  · refine r_locs (lc' := [(0, .ref (fad Δ 12 0 0))]) [0] rfl ?_
    exact hj4 s2
  · refine r_iload_n (q := 8) (i := 1) (z := 1) C dX12_plays2_7 rfl rfl rfl ?_
    refine r_iconst (q := 9) (v := (-1)) C dX12_plays2_8 rfl (by decide) ?_
    refine r_join (fun j7 => ∀  (s6 : fSt), fW Δ Γ 2 (fQ eV Δ Γ) 32 [(0, .ref (fad Δ 12 0 0)), (1, .int a1)] [] s6 (j7 s6)) ?_ (fun j7 hj7 => ?_)
    · intro s6
      refine r_aload_n (q := 33) (i := 0) (z := 0) C dX12_plays2_32 rfl rfl rfl ?_
      refine r_iload_n (q := 34) (i := 1) (z := 1) C dX12_plays2_33 rfl rfl rfl ?_
      refine r_iconst (q := 35) (v := (-1)) C dX12_plays2_34 rfl (by decide) ?_
      refine r_join (fun j10 => ∀ (x8 : Int32) (s9 : fSt), fW Δ Γ 2 (fQ eV Δ Γ) 46 [(0, .ref (fad Δ 12 0 0))] [.int x8, .ref (fad Δ 12 0 0)] s9 (j10 x8 s9)) ?_ (fun j10 hj10 => ?_)
      · intro x8 s9
        refine r_callVV (q := 49) (As := [.int x8]) wm_X12_436 yvX12_playFor (c_X12_playFor Δ hN x8 s9) ⟨rfl, by decide⟩ C (nm_12 hN) (by decide) rfl (Nat.le_of_ble_eq_true rfl) dX12_plays2_46 rfl (fun _ s11 => ?_)
        refine r_aload_n (q := 50) (i := 0) (z := 0) C dX12_plays2_49 rfl rfl rfl ?_
        refine r_dup (q := 51) C dX12_plays2_50 rfl rfl ?_
        refine g_X12_548 (q := 54) C (nm_12 hN) dX12_plays2_51 rfl ?_
        refine r_iconst (q := 55) (v := 1) C dX12_plays2_54 rfl (by decide) ?_
        refine r_iadd (q := 56) C dX12_plays2_55 rfl ?_
        refine p_X12_548 (q := 59) C (nm_12 hN) dX12_plays2_56 rfl (fun s12 => ?_)
        refine r_aload_n (q := 60) (i := 0) (z := 0) C dX12_plays2_59 rfl rfl rfl ?_
        refine r_dup (q := 61) C dX12_plays2_60 rfl rfl ?_
        refine g_X12_551 (q := 64) C (nm_12 hN) dX12_plays2_61 rfl ?_
        refine r_aload_n (q := 65) (i := 0) (z := 0) C dX12_plays2_64 rfl rfl rfl ?_
        refine g_X12_382 (q := 68) C (nm_12 hN) dX12_plays2_65 rfl ?_
        refine r_ior (q := 69) C dX12_plays2_68 rfl ?_
        refine p_X12_551 (q := 72) C (nm_12 hN) dX12_plays2_69 rfl (fun s13 => ?_)
        refine r_aload_n (q := 73) (i := 0) (z := 0) C dX12_plays2_72 rfl rfl rfl ?_
        refine r_aload_n (q := 74) (i := 0) (z := 0) C dX12_plays2_73 rfl rfl rfl ?_
        refine g_X12_385 (q := 77) C (nm_12 hN) dX12_plays2_74 rfl ?_
        refine r_join (fun j16 => ∀ (x14 : Int32) (s15 : fSt), fW Δ Γ 2 (fQ eV Δ Γ) 89 [(0, .ref (fad Δ 12 0 0))] [.int x14, .ref (fad Δ 12 0 0)] s15 (j16 x14 s15)) ?_ (fun j16 hj16 => ?_)
        · intro x14 s15
          refine p_X12_554 (q := 92) C (nm_12 hN) dX12_plays2_89 rfl (fun s17 => ?_)
          refine r_aload_n (q := 93) (i := 0) (z := 0) C dX12_plays2_92 rfl rfl rfl ?_
          refine r_dup (q := 94) C dX12_plays2_93 rfl rfl ?_
          refine g_X12_557 (q := 97) C (nm_12 hN) dX12_plays2_94 rfl ?_
          refine r_iconst (q := 98) (v := 1) C dX12_plays2_97 rfl (by decide) ?_
          refine r_aload_n (q := 99) (i := 0) (z := 0) C dX12_plays2_98 rfl rfl rfl ?_
          refine g_X12_554 (q := 102) C (nm_12 hN) dX12_plays2_99 rfl ?_
          refine r_ishl (q := 103) C dX12_plays2_102 rfl ?_
          refine r_ior (q := 104) C dX12_plays2_103 rfl ?_
          refine p_X12_557 (q := 107) C (nm_12 hN) dX12_plays2_104 rfl (fun s18 => ?_)
          refine r_aload_n (q := 108) (i := 0) (z := 0) C dX12_plays2_107 rfl rfl rfl ?_
          refine r_dup (q := 109) C dX12_plays2_108 rfl rfl ?_
          refine g_X12_560 (q := 112) C (nm_12 hN) dX12_plays2_109 rfl ?_
          refine r_aload_n (q := 113) (i := 0) (z := 0) C dX12_plays2_112 rfl rfl rfl ?_
          refine g_X12_388 (q := 116) C (nm_12 hN) dX12_plays2_113 rfl ?_
          refine r_iadd (q := 117) C dX12_plays2_116 rfl ?_
          refine p_X12_560 (q := 120) C (nm_12 hN) dX12_plays2_117 rfl (fun s19 => ?_)
          exact r_vret C dX12_plays2_120
        refine r_if_ge (q := 80) (tgt := 85) C dX12_plays2_77 (by decide) rfl ?_ ?_
        · refine r_aload_n (q := 86) (i := 0) (z := 0) C dX12_plays2_85 rfl rfl rfl ?_
          refine g_X12_385 (q := 89) C (nm_12 hN) dX12_plays2_86 rfl ?_
          exact hj16 (gI s13 12 0 26) s13
        · refine r_bipush (q := 82) (v := 9) C dX12_plays2_80 rfl (by decide) ?_
          refine r_goto (q := 89) C dX12_plays2_82 (by decide) ?_
          exact hj16 ((9 : Int32)) s13
      refine r_icmp_ne (q := 38) (tgt := 45) C dX12_plays2_35 (by decide) rfl ?_ ?_
      · refine r_iload_n (q := 46) (i := 1) (z := 1) C dX12_plays2_45 rfl rfl rfl ?_
        refine r_locs (lc' := [(0, .ref (fad Δ 12 0 0))]) [0] rfl ?_
        exact hj10 a1 s6
      · refine r_aload_n (q := 39) (i := 0) (z := 0) C dX12_plays2_38 rfl rfl rfl ?_
        refine r_callVI (q := 42) (As := []) wm_X12_433 yvX12_drawnKind (c_X12_drawnKind Δ hN s6) ⟨rfl, by decide⟩ C (nm_12 hN) (by decide) rfl (Nat.le_of_ble_eq_true rfl) dX12_plays2_39 rfl (fun x20 s21 => ?_)
        refine r_goto (q := 46) C dX12_plays2_42 (by decide) ?_
        refine r_locs (lc' := [(0, .ref (fad Δ 12 0 0))]) [0] rfl ?_
        exact hj10 x20 s21
    refine r_icmp_ne (q := 12) (tgt := 32) C dX12_plays2_9 (by decide) rfl ?_ ?_
    · exact hj7 s2
    · refine r_aload_n (q := 13) (i := 0) (z := 0) C dX12_plays2_12 rfl rfl rfl ?_
      refine g_X12_35 (q := 16) C (nm_12 hN) dX12_plays2_13 rfl ?_
      refine r_iconst (q := 17) (v := 3) C dX12_plays2_16 rfl (by decide) ?_
      refine r_ial (q := 18) q_12_5 h_12_5 C (nm_12 hN) dX12_plays2_17 rfl ?_
      refine r_if_ne (q := 21) (tgt := 32) C dX12_plays2_18 (by decide) rfl ?_ ?_
      · exact hj7 s2
      · refine r_locs (lc' := [(0, .ref (fad Δ 12 0 0))]) [0] rfl ?_
        exact hj4 s2

noncomputable def f_X12_isSo (a1 : Int32) (st : fSt) : Option (Int32 × fSt) :=
  fIx (a1 + ((2 : Int32))) 2150 <|
  fLt (gA st 12 0 5 (a1 + ((2 : Int32))).toNatClampNeg) fun (x1 : Int32) =>
  if ¬ x1 = 0 then
    (if ¬ x1 = ((1 : Int32)) then
      (if ¬ x1 = ((2 : Int32)) then
        (fIx (a1 + ((3 : Int32))) 2150 <|
        fJn (fun (x2 : Int32) (s3 : fSt) =>
          (fBo x2 (some (x2, s3)))) fun (j4 : Int32 → fSt → Option (Int32 × fSt)) =>
        if ¬ (gA st 12 0 5 (a1 + ((3 : Int32))).toNatClampNeg) = ((60 : Int32)) then
          (fIx (a1 + ((3 : Int32))) 2150 <|
          if ¬ (gA st 12 0 5 (a1 + ((3 : Int32))).toNatClampNeg) = ((62 : Int32)) then
            (fIx (a1 + ((4 : Int32))) 2150 <|
            if ¬ (gI st 12 0 59) = (gA st 12 0 5 (a1 + ((4 : Int32))).toNatClampNeg) then
              (j4 ((0 : Int32)) st)
            else
              (j4 ((1 : Int32)) st))
          else
            (fIx (a1 + ((4 : Int32))) 2150 <|
            if (gI st 12 0 59) ≤ (gA st 12 0 5 (a1 + ((4 : Int32))).toNatClampNeg) then
              (j4 ((0 : Int32)) st)
            else
              (j4 ((1 : Int32)) st)))
        else
          (fIx (a1 + ((4 : Int32))) 2150 <|
          if (gA st 12 0 5 (a1 + ((4 : Int32))).toNatClampNeg) ≤ (gI st 12 0 59) then
            (j4 ((0 : Int32)) st)
          else
            (j4 ((1 : Int32)) st)))
      else
        (fIx (a1 + ((1 : Int32))) 2150 <|
        fJn (fun (x5 : Int32) (s6 : fSt) =>
          (fBo x5 (some (x5, s6)))) fun (j7 : Int32 → fSt → Option (Int32 × fSt)) =>
        if ¬ (gI st 12 0 64) = (gA st 12 0 5 (a1 + ((1 : Int32))).toNatClampNeg) then
          (j7 ((0 : Int32)) st)
        else
          (j7 ((1 : Int32)) st)))
    else
      (fIx ((5 : Int32)) 2150 <|
      fIx (a1 + ((1 : Int32))) 2150 <|
      fBd (f_X12_has (gA st 12 0 5 ((5 : Int32)).toNatClampNeg) (gA st 12 0 5 (a1 + ((1 : Int32))).toNatClampNeg) st) fun x8 s9 =>
      fBo x8 (some (x8, s9))))
  else
    (fIx (a1 + ((1 : Int32))) 2150 <|
    fBd (f_X12_has (gI st 12 0 60) (gA st 12 0 5 (a1 + ((1 : Int32))).toNatClampNeg) st) fun x10 s11 =>
    fBo x10 (some (x10, s11)))

set_option maxHeartbeats 4000000 in
set_option maxRecDepth 100000 in
theorem c_X12_isSo (Δ : fDl) (hN : fNm Δ) (a1 : Int32)  (st : fSt) : fMt eI Δ yX12_isSo cX12_isSo 3 (some .boolean) 2 [.ref (fad Δ 12 0 0), .int a1] st (f_X12_isSo a1 st) := by
  unfold f_X12_isSo
  refine r_method (by decide +kernel) (Nat.le_of_ble_eq_true rfl) (fun Γ C => ?_)
  have C : fC Δ Γ cX12_isSo RX12 3 (some .boolean) 2 := C
  refine r_locs (lc' := [(0, .ref (fad Δ 12 0 0)), (1, .int a1)]) [0, 1] rfl ?_
  refine r_aload_n (q := 1) (i := 0) (z := 0) C dX12_isSo_0 rfl rfl rfl ?_
  refine g_X12_35 (q := 4) C (nm_12 hN) dX12_isSo_1 rfl ?_
  refine r_iload_n (q := 5) (i := 1) (z := 1) C dX12_isSo_4 rfl rfl rfl ?_
  refine r_iconst (q := 6) (v := 2) C dX12_isSo_5 rfl (by decide) ?_
  refine r_iadd (q := 7) C dX12_isSo_6 rfl ?_
  refine r_ial (q := 8) q_12_5 h_12_5 C (nm_12 hN) dX12_isSo_7 rfl ?_
  refine r_istore_n (q := 9) (i := 2) [(0, .ref (fad Δ 12 0 0)), (1, .int a1)] C dX12_isSo_8 rfl rfl (by decide) rfl (fun x1 => ?_)
  refine r_iload_n (q := 10) (i := 2) (z := 0) C dX12_isSo_9 rfl rfl rfl ?_
  refine r_if_ne (q := 13) (tgt := 29) C dX12_isSo_10 (by decide) rfl ?_ ?_
  · refine r_iload_n (q := 30) (i := 2) (z := 0) C dX12_isSo_29 rfl rfl rfl ?_
    refine r_iconst (q := 31) (v := 1) C dX12_isSo_30 rfl (by decide) ?_
    refine r_icmp_ne (q := 34) (tgt := 52) C dX12_isSo_31 (by decide) rfl ?_ ?_
    · refine r_iload_n (q := 53) (i := 2) (z := 0) C dX12_isSo_52 rfl rfl rfl ?_
      refine r_iconst (q := 54) (v := 2) C dX12_isSo_53 rfl (by decide) ?_
      refine r_icmp_ne (q := 57) (tgt := 78) C dX12_isSo_54 (by decide) rfl ?_ ?_
      · refine r_aload_n (q := 79) (i := 0) (z := 1) C dX12_isSo_78 rfl rfl rfl ?_
        refine g_X12_35 (q := 82) C (nm_12 hN) dX12_isSo_79 rfl ?_
        refine r_iload_n (q := 83) (i := 1) (z := 2) C dX12_isSo_82 rfl rfl rfl ?_
        refine r_iconst (q := 84) (v := 3) C dX12_isSo_83 rfl (by decide) ?_
        refine r_iadd (q := 85) C dX12_isSo_84 rfl ?_
        refine r_ial (q := 86) q_12_5 h_12_5 C (nm_12 hN) dX12_isSo_85 rfl ?_
        refine r_bipush (q := 88) (v := 60) C dX12_isSo_86 rfl (by decide) ?_
        refine r_join (fun j4 => ∀ (x2 : Int32) (s3 : fSt), fW Δ Γ 3 (fQ eI Δ Γ) 170 [] [.int x2] s3 (j4 x2 s3)) ?_ (fun j4 hj4 => ?_)
        · intro x2 s3
          exact r_zret C dX12_isSo_170
        refine r_icmp_ne (q := 91) (tgt := 114) C dX12_isSo_88 (by decide) rfl ?_ ?_
        · refine r_aload_n (q := 115) (i := 0) (z := 1) C dX12_isSo_114 rfl rfl rfl ?_
          refine g_X12_35 (q := 118) C (nm_12 hN) dX12_isSo_115 rfl ?_
          refine r_iload_n (q := 119) (i := 1) (z := 2) C dX12_isSo_118 rfl rfl rfl ?_
          refine r_iconst (q := 120) (v := 3) C dX12_isSo_119 rfl (by decide) ?_
          refine r_iadd (q := 121) C dX12_isSo_120 rfl ?_
          refine r_ial (q := 122) q_12_5 h_12_5 C (nm_12 hN) dX12_isSo_121 rfl ?_
          refine r_bipush (q := 124) (v := 62) C dX12_isSo_122 rfl (by decide) ?_
          refine r_icmp_ne (q := 127) (tgt := 150) C dX12_isSo_124 (by decide) rfl ?_ ?_
          · refine r_aload_n (q := 151) (i := 0) (z := 1) C dX12_isSo_150 rfl rfl rfl ?_
            refine g_X12_548 (q := 154) C (nm_12 hN) dX12_isSo_151 rfl ?_
            refine r_aload_n (q := 155) (i := 0) (z := 1) C dX12_isSo_154 rfl rfl rfl ?_
            refine g_X12_35 (q := 158) C (nm_12 hN) dX12_isSo_155 rfl ?_
            refine r_iload_n (q := 159) (i := 1) (z := 2) C dX12_isSo_158 rfl rfl rfl ?_
            refine r_iconst (q := 160) (v := 4) C dX12_isSo_159 rfl (by decide) ?_
            refine r_iadd (q := 161) C dX12_isSo_160 rfl ?_
            refine r_ial (q := 162) q_12_5 h_12_5 C (nm_12 hN) dX12_isSo_161 rfl ?_
            refine r_icmp_ne (q := 165) (tgt := 169) C dX12_isSo_162 (by decide) rfl ?_ ?_
            · refine r_iconst (q := 170) (v := 0) C dX12_isSo_169 rfl (by decide) ?_
              refine r_locs (lc' := []) [] rfl ?_
              exact hj4 ((0 : Int32)) st
            · refine r_iconst (q := 166) (v := 1) C dX12_isSo_165 rfl (by decide) ?_
              refine r_goto (q := 170) C dX12_isSo_166 (by decide) ?_
              refine r_locs (lc' := []) [] rfl ?_
              exact hj4 ((1 : Int32)) st
          · refine r_aload_n (q := 128) (i := 0) (z := 1) C dX12_isSo_127 rfl rfl rfl ?_
            refine g_X12_548 (q := 131) C (nm_12 hN) dX12_isSo_128 rfl ?_
            refine r_aload_n (q := 132) (i := 0) (z := 1) C dX12_isSo_131 rfl rfl rfl ?_
            refine g_X12_35 (q := 135) C (nm_12 hN) dX12_isSo_132 rfl ?_
            refine r_iload_n (q := 136) (i := 1) (z := 2) C dX12_isSo_135 rfl rfl rfl ?_
            refine r_iconst (q := 137) (v := 4) C dX12_isSo_136 rfl (by decide) ?_
            refine r_iadd (q := 138) C dX12_isSo_137 rfl ?_
            refine r_ial (q := 139) q_12_5 h_12_5 C (nm_12 hN) dX12_isSo_138 rfl ?_
            refine r_icmp_le (q := 142) (tgt := 146) C dX12_isSo_139 (by decide) rfl ?_ ?_
            · refine r_iconst (q := 147) (v := 0) C dX12_isSo_146 rfl (by decide) ?_
              refine r_goto (q := 170) C dX12_isSo_147 (by decide) ?_
              refine r_locs (lc' := []) [] rfl ?_
              exact hj4 ((0 : Int32)) st
            · refine r_iconst (q := 143) (v := 1) C dX12_isSo_142 rfl (by decide) ?_
              refine r_goto (q := 170) C dX12_isSo_143 (by decide) ?_
              refine r_locs (lc' := []) [] rfl ?_
              exact hj4 ((1 : Int32)) st
        · refine r_aload_n (q := 92) (i := 0) (z := 1) C dX12_isSo_91 rfl rfl rfl ?_
          refine g_X12_548 (q := 95) C (nm_12 hN) dX12_isSo_92 rfl ?_
          refine r_aload_n (q := 96) (i := 0) (z := 1) C dX12_isSo_95 rfl rfl rfl ?_
          refine g_X12_35 (q := 99) C (nm_12 hN) dX12_isSo_96 rfl ?_
          refine r_iload_n (q := 100) (i := 1) (z := 2) C dX12_isSo_99 rfl rfl rfl ?_
          refine r_iconst (q := 101) (v := 4) C dX12_isSo_100 rfl (by decide) ?_
          refine r_iadd (q := 102) C dX12_isSo_101 rfl ?_
          refine r_ial (q := 103) q_12_5 h_12_5 C (nm_12 hN) dX12_isSo_102 rfl ?_
          refine r_icmp_ge (q := 106) (tgt := 110) C dX12_isSo_103 (by decide) rfl ?_ ?_
          · refine r_iconst (q := 111) (v := 0) C dX12_isSo_110 rfl (by decide) ?_
            refine r_goto (q := 170) C dX12_isSo_111 (by decide) ?_
            refine r_locs (lc' := []) [] rfl ?_
            exact hj4 ((0 : Int32)) st
          · refine r_iconst (q := 107) (v := 1) C dX12_isSo_106 rfl (by decide) ?_
            refine r_goto (q := 170) C dX12_isSo_107 (by decide) ?_
            refine r_locs (lc' := []) [] rfl ?_
            exact hj4 ((1 : Int32)) st
      · refine r_aload_n (q := 58) (i := 0) (z := 1) C dX12_isSo_57 rfl rfl rfl ?_
        refine g_X12_554 (q := 61) C (nm_12 hN) dX12_isSo_58 rfl ?_
        refine r_aload_n (q := 62) (i := 0) (z := 1) C dX12_isSo_61 rfl rfl rfl ?_
        refine g_X12_35 (q := 65) C (nm_12 hN) dX12_isSo_62 rfl ?_
        refine r_iload_n (q := 66) (i := 1) (z := 2) C dX12_isSo_65 rfl rfl rfl ?_
        refine r_iconst (q := 67) (v := 1) C dX12_isSo_66 rfl (by decide) ?_
        refine r_iadd (q := 68) C dX12_isSo_67 rfl ?_
        refine r_ial (q := 69) q_12_5 h_12_5 C (nm_12 hN) dX12_isSo_68 rfl ?_
        refine r_join (fun j7 => ∀ (x5 : Int32) (s6 : fSt), fW Δ Γ 3 (fQ eI Δ Γ) 77 [] [.int x5] s6 (j7 x5 s6)) ?_ (fun j7 hj7 => ?_)
        · intro x5 s6
          exact r_zret C dX12_isSo_77
        refine r_icmp_ne (q := 72) (tgt := 76) C dX12_isSo_69 (by decide) rfl ?_ ?_
        · refine r_iconst (q := 77) (v := 0) C dX12_isSo_76 rfl (by decide) ?_
          refine r_locs (lc' := []) [] rfl ?_
          exact hj7 ((0 : Int32)) st
        · refine r_iconst (q := 73) (v := 1) C dX12_isSo_72 rfl (by decide) ?_
          refine r_goto (q := 77) C dX12_isSo_73 (by decide) ?_
          refine r_locs (lc' := []) [] rfl ?_
          exact hj7 ((1 : Int32)) st
    · refine r_aload_n (q := 35) (i := 0) (z := 1) C dX12_isSo_34 rfl rfl rfl ?_
      refine g_X12_35 (q := 38) C (nm_12 hN) dX12_isSo_35 rfl ?_
      refine r_iconst (q := 39) (v := 5) C dX12_isSo_38 rfl (by decide) ?_
      refine r_ial (q := 40) q_12_5 h_12_5 C (nm_12 hN) dX12_isSo_39 rfl ?_
      refine r_aload_n (q := 41) (i := 0) (z := 1) C dX12_isSo_40 rfl rfl rfl ?_
      refine g_X12_35 (q := 44) C (nm_12 hN) dX12_isSo_41 rfl ?_
      refine r_iload_n (q := 45) (i := 1) (z := 2) C dX12_isSo_44 rfl rfl rfl ?_
      refine r_iconst (q := 46) (v := 1) C dX12_isSo_45 rfl (by decide) ?_
      refine r_iadd (q := 47) C dX12_isSo_46 rfl ?_
      refine r_ial (q := 48) q_12_5 h_12_5 C (nm_12 hN) dX12_isSo_47 rfl ?_
      refine r_callSI (q := 51) (As := [.int (gA st 12 0 5 ((5 : Int32)).toNatClampNeg), .int (gA st 12 0 5 (a1 + ((1 : Int32))).toNatClampNeg)]) wm_X12_373 ysX12_has (c_X12_has Δ hN (gA st 12 0 5 ((5 : Int32)).toNatClampNeg) (gA st 12 0 5 (a1 + ((1 : Int32))).toNatClampNeg) st) C (by decide) rfl (Nat.le_of_ble_eq_true rfl) dX12_isSo_48 rfl (fun x8 s9 => ?_)
      exact r_zret C dX12_isSo_51
  · refine r_aload_n (q := 14) (i := 0) (z := 1) C dX12_isSo_13 rfl rfl rfl ?_
    refine g_X12_551 (q := 17) C (nm_12 hN) dX12_isSo_14 rfl ?_
    refine r_aload_n (q := 18) (i := 0) (z := 1) C dX12_isSo_17 rfl rfl rfl ?_
    refine g_X12_35 (q := 21) C (nm_12 hN) dX12_isSo_18 rfl ?_
    refine r_iload_n (q := 22) (i := 1) (z := 2) C dX12_isSo_21 rfl rfl rfl ?_
    refine r_iconst (q := 23) (v := 1) C dX12_isSo_22 rfl (by decide) ?_
    refine r_iadd (q := 24) C dX12_isSo_23 rfl ?_
    refine r_ial (q := 25) q_12_5 h_12_5 C (nm_12 hN) dX12_isSo_24 rfl ?_
    refine r_callSI (q := 28) (As := [.int (gI st 12 0 60), .int (gA st 12 0 5 (a1 + ((1 : Int32))).toNatClampNeg)]) wm_X12_373 ysX12_has (c_X12_has Δ hN (gI st 12 0 60) (gA st 12 0 5 (a1 + ((1 : Int32))).toNatClampNeg) st) C (by decide) rfl (Nat.le_of_ble_eq_true rfl) dX12_isSo_25 rfl (fun x10 s11 => ?_)
    exact r_zret C dX12_isSo_28

noncomputable def f_X12_doOne_L194 (rec : Int32 → Int32 → fSt → Option (Unit × fSt)) (a1 : Int32) (x2 : Int32) (k27 : fSt → Option (Unit × fSt)) : Nat → Int32 → fSt → Option (Unit × fSt)
  | 0, _, _ => none
  | n30 + 1, x28, s29 =>
      fIx (x2 + ((1 : Int32))) 2150 <|
                      if (gA s29 12 0 5 (x2 + ((1 : Int32))).toNatClampNeg) ≤ x28 then
                        (k27 s29)
                      else
                        (if ¬ (gI s29 12 0 57) = 0 then
                          (k27 s29)
                        else
                          (fIx (x2 + ((6 : Int32))) 2150 <|
                          fBd (rec (a1 + ((1 : Int32))) (gA s29 12 0 5 (x2 + ((6 : Int32))).toNatClampNeg) s29) fun _ s31 =>
                          fLt (x28 + (1 : Int32)) fun (x32 : Int32) =>
                          f_X12_doOne_L194 rec a1 x2 k27 n30 x32 s31))

noncomputable def f_X12_doOne (rec : Int32 → Int32 → fSt → Option (Unit × fSt)) (a1 : Int32) (st : fSt) : Option (Unit × fSt) :=
  if ¬ (gI st 12 0 58) = ((200 : Int32)) then
    (fLt (sI st 12 0 58 ((gI st 12 0 58) + ((1 : Int32)))) fun s1 =>
    fLt (((219 : Int32)) + (((7 : Int32)) * a1)) fun (x2 : Int32) =>
    fIx x2 2150 <|
    fLt (gA s1 12 0 5 x2.toNatClampNeg) fun (x3 : Int32) =>
    fJn (fun (s4 : fSt) =>
      (some ((), s4))) fun (j5 : fSt → Option (Unit × fSt)) =>
    if ¬ x3 = 0 then
      (fJn (fun (s6 : fSt) =>
        (fIx ((4 : Int32)) 2150 <|
        fIx (x2 + ((1 : Int32))) 2150 <|
        fJn (fun (x8 : Int32) (s9 : fSt) =>
          (fBd (f_X12_with (gA s6 12 0 5 ((4 : Int32)).toNatClampNeg) (gA s6 12 0 5 (x2 + ((1 : Int32))).toNatClampNeg) x8 s9) fun x11 s12 =>
          fIx ((4 : Int32)) 2150 <|
          fLt (sA s12 12 0 5 (upd (gA s12 12 0 5) ((4 : Int32)).toNatClampNeg x11)) fun s13 =>
          j5 s13)) fun (j10 : Int32 → fSt → Option (Unit × fSt)) =>
        if ¬ x3 = ((1 : Int32)) then
          (j10 ((0 : Int32)) s6)
        else
          (j10 ((1 : Int32)) s6))) fun (j7 : fSt → Option (Unit × fSt)) =>
      if x3 = ((1 : Int32)) then
        (j7 s1)
      else
        (if ¬ x3 = ((2 : Int32)) then
          (fJn (fun (s14 : fSt) =>
            (fIx ((5 : Int32)) 2150 <|
            fIx (x2 + ((1 : Int32))) 2150 <|
            fJn (fun (x16 : Int32) (s17 : fSt) =>
              (fBd (f_X12_with (gA s14 12 0 5 ((5 : Int32)).toNatClampNeg) (gA s14 12 0 5 (x2 + ((1 : Int32))).toNatClampNeg) x16 s17) fun x19 s20 =>
              fIx ((5 : Int32)) 2150 <|
              fLt (sA s20 12 0 5 (upd (gA s20 12 0 5) ((5 : Int32)).toNatClampNeg x19)) fun s21 =>
              j5 s21)) fun (j18 : Int32 → fSt → Option (Unit × fSt)) =>
            if ¬ x3 = ((3 : Int32)) then
              (j18 ((0 : Int32)) s14)
            else
              (j18 ((1 : Int32)) s14))) fun (j15 : fSt → Option (Unit × fSt)) =>
          if x3 = ((3 : Int32)) then
            (j15 s1)
          else
            (if ¬ x3 = ((4 : Int32)) then
              (fJn (fun (s22 : fSt) =>
                (if ¬ x3 = ((6 : Int32)) then
                  (if x3 ≤ ((6 : Int32)) then
                    (j5 s22)
                  else
                    (fBo ((1 : Int32)) <| fLt (sI s22 12 0 57 ((1 : Int32))) fun s24 =>
                    j5 s24))
                else
                  (fLt ((0 : Int32)) fun (x25 : Int32) =>
                  fJn (fun (s26 : fSt) =>
                    (j5 s26)) fun (k27 : fSt → Option (Unit × fSt)) =>
                  f_X12_doOne_L194 rec a1 x2 k27 fF x25 s22))) fun (j23 : fSt → Option (Unit × fSt)) =>
              if ¬ x3 = ((5 : Int32)) then
                (j23 s1)
              else
                (fBd (f_X12_isSo x2 s1) fun x33 s34 =>
                if x33 = 0 then
                  (j23 s34)
                else
                  (fIx (x2 + ((6 : Int32))) 2150 <|
                  fBd (rec (a1 + ((1 : Int32))) (gA s34 12 0 5 (x2 + ((6 : Int32))).toNatClampNeg) s34) fun _ s35 =>
                  j5 s35)))
            else
              (j15 s1)))
        else
          (j7 s1)))
    else
      (fIx (x2 + ((1 : Int32))) 2150 <|
      fBd (f_X12_plays2 (gA s1 12 0 5 (x2 + ((1 : Int32))).toNatClampNeg) s1) fun _ s36 =>
      j5 s36))
  else
    (fBo ((1 : Int32)) <| fLt (sI st 12 0 57 ((1 : Int32))) fun s37 =>
    some ((), s37))

set_option maxHeartbeats 4000000 in
set_option maxRecDepth 100000 in
theorem c_X12_doOne (Δ : fDl) (hN : fNm Δ) (lv0 : Nat) (hlv : 5 ≤ lv0) (rec : Int32 → Int32 → fSt → Option (Unit × fSt)) (hrec : ∀ (a1 : Int32) (a2 : Int32) (st : fSt), fMt eV Δ yX12_doAll cX12_doAll 4 none lv0 [.ref (fad Δ 12 0 0), .int a1, .int a2] st (rec a1 a2 st)) (a1 : Int32) (st : fSt) : fMt eV Δ yX12_doOne cX12_doOne 5 none (lv0 + 1) [.ref (fad Δ 12 0 0), .int a1] st (f_X12_doOne rec a1 st) := by
  unfold f_X12_doOne
  refine r_method (by decide +kernel) (Nat.le_of_ble_eq_true rfl) (fun Γ C => ?_)
  have C : fC Δ Γ cX12_doOne RX12 5 none (lv0 + 1) := C
  refine r_locs (lc' := [(0, .ref (fad Δ 12 0 0)), (1, .int a1)]) [0, 1] rfl ?_
  refine r_aload_n (q := 1) (i := 0) (z := 0) C dX12_doOne_0 rfl rfl rfl ?_
  refine g_X12_563 (q := 4) C (nm_12 hN) dX12_doOne_1 rfl ?_
  refine r_sipush (q := 7) (v := 200) C dX12_doOne_4 rfl (by decide) ?_
  refine r_icmp_ne (q := 10) (tgt := 16) C dX12_doOne_7 (by decide) rfl ?_ ?_
  · refine r_aload_n (q := 17) (i := 0) (z := 0) C dX12_doOne_16 rfl rfl rfl ?_
    refine r_dup (q := 18) C dX12_doOne_17 rfl rfl ?_
    refine g_X12_563 (q := 21) C (nm_12 hN) dX12_doOne_18 rfl ?_
    refine r_iconst (q := 22) (v := 1) C dX12_doOne_21 rfl (by decide) ?_
    refine r_iadd (q := 23) C dX12_doOne_22 rfl ?_
    refine p_X12_563 (q := 26) C (nm_12 hN) dX12_doOne_23 rfl (fun s1 => ?_)
    refine r_sipush (q := 29) (v := 219) C dX12_doOne_26 rfl (by decide) ?_
    refine r_bipush (q := 31) (v := 7) C dX12_doOne_29 rfl (by decide) ?_
    refine r_iload_n (q := 32) (i := 1) (z := 1) C dX12_doOne_31 rfl rfl rfl ?_
    refine r_imul (q := 33) C dX12_doOne_32 rfl ?_
    refine r_iadd (q := 34) C dX12_doOne_33 rfl ?_
    refine r_istore_n (q := 35) (i := 2) [(0, .ref (fad Δ 12 0 0)), (1, .int a1)] C dX12_doOne_34 rfl rfl (by decide) rfl (fun x2 => ?_)
    refine r_aload_n (q := 36) (i := 0) (z := 1) C dX12_doOne_35 rfl rfl rfl ?_
    refine g_X12_35 (q := 39) C (nm_12 hN) dX12_doOne_36 rfl ?_
    refine r_iload_n (q := 40) (i := 2) (z := 0) C dX12_doOne_39 rfl rfl rfl ?_
    refine r_ial (q := 41) q_12_5 h_12_5 C (nm_12 hN) dX12_doOne_40 rfl ?_
    refine r_istore_n (q := 42) (i := 3) [(2, .int x2), (0, .ref (fad Δ 12 0 0)), (1, .int a1)] C dX12_doOne_41 rfl rfl (by decide) rfl (fun x3 => ?_)
    refine r_iload_n (q := 43) (i := 3) (z := 0) C dX12_doOne_42 rfl rfl rfl ?_
    refine r_join (fun j5 => ∀  (s4 : fSt), fW Δ Γ 5 (fQ eV Δ Γ) 250 [] [] s4 (j5 s4)) ?_ (fun j5 hj5 => ?_)
    · intro s4
      exact r_vret C dX12_doOne_250
    refine r_if_ne (q := 46) (tgt := 61) C dX12_doOne_43 (by decide) rfl ?_ ?_
    · refine r_iload_n (q := 62) (i := 3) (z := 0) C dX12_doOne_61 rfl rfl rfl ?_
      refine r_iconst (q := 63) (v := 1) C dX12_doOne_62 rfl (by decide) ?_
      refine r_join (fun j7 => ∀  (s6 : fSt), fW Δ Γ 5 (fQ eV Δ Γ) 71 [(0, .ref (fad Δ 12 0 0)), (2, .int x2), (3, .int x3)] [] s6 (j7 s6)) ?_ (fun j7 hj7 => ?_)
      · intro s6
        refine r_aload_n (q := 72) (i := 0) (z := 0) C dX12_doOne_71 rfl rfl rfl ?_
        refine g_X12_35 (q := 75) C (nm_12 hN) dX12_doOne_72 rfl ?_
        refine r_iconst (q := 76) (v := 4) C dX12_doOne_75 rfl (by decide) ?_
        refine r_aload_n (q := 77) (i := 0) (z := 0) C dX12_doOne_76 rfl rfl rfl ?_
        refine g_X12_35 (q := 80) C (nm_12 hN) dX12_doOne_77 rfl ?_
        refine r_iconst (q := 81) (v := 4) C dX12_doOne_80 rfl (by decide) ?_
        refine r_ial (q := 82) q_12_5 h_12_5 C (nm_12 hN) dX12_doOne_81 rfl ?_
        refine r_aload_n (q := 83) (i := 0) (z := 0) C dX12_doOne_82 rfl rfl rfl ?_
        refine g_X12_35 (q := 86) C (nm_12 hN) dX12_doOne_83 rfl ?_
        refine r_iload_n (q := 87) (i := 2) (z := 1) C dX12_doOne_86 rfl rfl rfl ?_
        refine r_iconst (q := 88) (v := 1) C dX12_doOne_87 rfl (by decide) ?_
        refine r_iadd (q := 89) C dX12_doOne_88 rfl ?_
        refine r_ial (q := 90) q_12_5 h_12_5 C (nm_12 hN) dX12_doOne_89 rfl ?_
        refine r_iload_n (q := 91) (i := 3) (z := 2) C dX12_doOne_90 rfl rfl rfl ?_
        refine r_iconst (q := 92) (v := 1) C dX12_doOne_91 rfl (by decide) ?_
        refine r_join (fun j10 => ∀ (x8 : Int32) (s9 : fSt), fW Δ Γ 5 (fQ eV Δ Γ) 100 [] [.int x8, .int (gA s6 12 0 5 (x2 + ((1 : Int32))).toNatClampNeg), .int (gA s6 12 0 5 ((4 : Int32)).toNatClampNeg), .int ((4 : Int32)), .ref (fad Δ 12 0 5)] s9 (j10 x8 s9)) ?_ (fun j10 hj10 => ?_)
        · intro x8 s9
          refine r_callSI (q := 103) (As := [.int (gA s6 12 0 5 ((4 : Int32)).toNatClampNeg), .int (gA s6 12 0 5 (x2 + ((1 : Int32))).toNatClampNeg), .int x8]) wm_X12_366 ysX12_with (c_X12_with Δ hN (gA s6 12 0 5 ((4 : Int32)).toNatClampNeg) (gA s6 12 0 5 (x2 + ((1 : Int32))).toNatClampNeg) x8 s9) C (by omega) rfl (Nat.le_of_ble_eq_true rfl) dX12_doOne_100 rfl (fun x11 s12 => ?_)
          refine r_ast (q := 104) q_12_5 h_12_5 C (nm_12 hN) dX12_doOne_103 rfl (fun s13 => ?_)
          refine r_goto (q := 250) C dX12_doOne_104 (by decide) ?_
          exact hj5 s13
        refine r_icmp_ne (q := 95) (tgt := 99) C dX12_doOne_92 (by decide) rfl ?_ ?_
        · refine r_iconst (q := 100) (v := 0) C dX12_doOne_99 rfl (by decide) ?_
          refine r_locs (lc' := []) [] rfl ?_
          exact hj10 ((0 : Int32)) s6
        · refine r_iconst (q := 96) (v := 1) C dX12_doOne_95 rfl (by decide) ?_
          refine r_goto (q := 100) C dX12_doOne_96 (by decide) ?_
          refine r_locs (lc' := []) [] rfl ?_
          exact hj10 ((1 : Int32)) s6
      refine r_icmp_eq (q := 66) (tgt := 71) C dX12_doOne_63 (by decide) rfl ?_ ?_
      · refine r_locs (lc' := [(0, .ref (fad Δ 12 0 0)), (2, .int x2), (3, .int x3)]) [2, 1, 0] rfl ?_
        exact hj7 s1
      · refine r_iload_n (q := 67) (i := 3) (z := 0) C dX12_doOne_66 rfl rfl rfl ?_
        refine r_iconst (q := 68) (v := 2) C dX12_doOne_67 rfl (by decide) ?_
        refine r_icmp_ne (q := 71) (tgt := 107) C dX12_doOne_68 (by decide) rfl ?_ ?_
        · refine r_iload_n (q := 108) (i := 3) (z := 0) C dX12_doOne_107 rfl rfl rfl ?_
          refine r_iconst (q := 109) (v := 3) C dX12_doOne_108 rfl (by decide) ?_
          refine r_join (fun j15 => ∀  (s14 : fSt), fW Δ Γ 5 (fQ eV Δ Γ) 117 [(0, .ref (fad Δ 12 0 0)), (2, .int x2), (3, .int x3)] [] s14 (j15 s14)) ?_ (fun j15 hj15 => ?_)
          · intro s14
            refine r_aload_n (q := 118) (i := 0) (z := 0) C dX12_doOne_117 rfl rfl rfl ?_
            refine g_X12_35 (q := 121) C (nm_12 hN) dX12_doOne_118 rfl ?_
            refine r_iconst (q := 122) (v := 5) C dX12_doOne_121 rfl (by decide) ?_
            refine r_aload_n (q := 123) (i := 0) (z := 0) C dX12_doOne_122 rfl rfl rfl ?_
            refine g_X12_35 (q := 126) C (nm_12 hN) dX12_doOne_123 rfl ?_
            refine r_iconst (q := 127) (v := 5) C dX12_doOne_126 rfl (by decide) ?_
            refine r_ial (q := 128) q_12_5 h_12_5 C (nm_12 hN) dX12_doOne_127 rfl ?_
            refine r_aload_n (q := 129) (i := 0) (z := 0) C dX12_doOne_128 rfl rfl rfl ?_
            refine g_X12_35 (q := 132) C (nm_12 hN) dX12_doOne_129 rfl ?_
            refine r_iload_n (q := 133) (i := 2) (z := 1) C dX12_doOne_132 rfl rfl rfl ?_
            refine r_iconst (q := 134) (v := 1) C dX12_doOne_133 rfl (by decide) ?_
            refine r_iadd (q := 135) C dX12_doOne_134 rfl ?_
            refine r_ial (q := 136) q_12_5 h_12_5 C (nm_12 hN) dX12_doOne_135 rfl ?_
            refine r_iload_n (q := 137) (i := 3) (z := 2) C dX12_doOne_136 rfl rfl rfl ?_
            refine r_iconst (q := 138) (v := 3) C dX12_doOne_137 rfl (by decide) ?_
            refine r_join (fun j18 => ∀ (x16 : Int32) (s17 : fSt), fW Δ Γ 5 (fQ eV Δ Γ) 146 [] [.int x16, .int (gA s14 12 0 5 (x2 + ((1 : Int32))).toNatClampNeg), .int (gA s14 12 0 5 ((5 : Int32)).toNatClampNeg), .int ((5 : Int32)), .ref (fad Δ 12 0 5)] s17 (j18 x16 s17)) ?_ (fun j18 hj18 => ?_)
            · intro x16 s17
              refine r_callSI (q := 149) (As := [.int (gA s14 12 0 5 ((5 : Int32)).toNatClampNeg), .int (gA s14 12 0 5 (x2 + ((1 : Int32))).toNatClampNeg), .int x16]) wm_X12_366 ysX12_with (c_X12_with Δ hN (gA s14 12 0 5 ((5 : Int32)).toNatClampNeg) (gA s14 12 0 5 (x2 + ((1 : Int32))).toNatClampNeg) x16 s17) C (by omega) rfl (Nat.le_of_ble_eq_true rfl) dX12_doOne_146 rfl (fun x19 s20 => ?_)
              refine r_ast (q := 150) q_12_5 h_12_5 C (nm_12 hN) dX12_doOne_149 rfl (fun s21 => ?_)
              refine r_goto (q := 250) C dX12_doOne_150 (by decide) ?_
              exact hj5 s21
            refine r_icmp_ne (q := 141) (tgt := 145) C dX12_doOne_138 (by decide) rfl ?_ ?_
            · refine r_iconst (q := 146) (v := 0) C dX12_doOne_145 rfl (by decide) ?_
              refine r_locs (lc' := []) [] rfl ?_
              exact hj18 ((0 : Int32)) s14
            · refine r_iconst (q := 142) (v := 1) C dX12_doOne_141 rfl (by decide) ?_
              refine r_goto (q := 146) C dX12_doOne_142 (by decide) ?_
              refine r_locs (lc' := []) [] rfl ?_
              exact hj18 ((1 : Int32)) s14
          refine r_icmp_eq (q := 112) (tgt := 117) C dX12_doOne_109 (by decide) rfl ?_ ?_
          · refine r_locs (lc' := [(0, .ref (fad Δ 12 0 0)), (2, .int x2), (3, .int x3)]) [2, 1, 0] rfl ?_
            exact hj15 s1
          · refine r_iload_n (q := 113) (i := 3) (z := 0) C dX12_doOne_112 rfl rfl rfl ?_
            refine r_iconst (q := 114) (v := 4) C dX12_doOne_113 rfl (by decide) ?_
            refine r_icmp_ne (q := 117) (tgt := 153) C dX12_doOne_114 (by decide) rfl ?_ ?_
            · refine r_iload_n (q := 154) (i := 3) (z := 0) C dX12_doOne_153 rfl rfl rfl ?_
              refine r_iconst (q := 155) (v := 5) C dX12_doOne_154 rfl (by decide) ?_
              refine r_join (fun j23 => ∀  (s22 : fSt), fW Δ Γ 5 (fQ eV Δ Γ) 185 [(0, .ref (fad Δ 12 0 0)), (1, .int a1), (2, .int x2), (3, .int x3)] [] s22 (j23 s22)) ?_ (fun j23 hj23 => ?_)
              · intro s22
                refine r_iload_n (q := 186) (i := 3) (z := 3) C dX12_doOne_185 rfl rfl rfl ?_
                refine r_bipush (q := 188) (v := 6) C dX12_doOne_186 rfl (by decide) ?_
                refine r_icmp_ne (q := 191) (tgt := 239) C dX12_doOne_188 (by decide) rfl ?_ ?_
                · refine r_iload_n (q := 240) (i := 3) (z := 3) C dX12_doOne_239 rfl rfl rfl ?_
                  refine r_bipush (q := 242) (v := 6) C dX12_doOne_240 rfl (by decide) ?_
                  refine r_icmp_le (q := 245) (tgt := 250) C dX12_doOne_242 (by decide) rfl ?_ ?_
                  · refine r_locs (lc' := []) [] rfl ?_
                    exact hj5 s22
                  · refine r_aload_n (q := 246) (i := 0) (z := 0) C dX12_doOne_245 rfl rfl rfl ?_
                    refine r_iconst (q := 247) (v := 1) C dX12_doOne_246 rfl (by decide) ?_
                    refine p_X12_566 (q := 250) C (nm_12 hN) dX12_doOne_247 rfl (fun s24 => ?_)
                    refine r_locs (lc' := []) [] rfl ?_
                    exact hj5 s24
                · refine r_iconst (q := 192) (v := 0) C dX12_doOne_191 rfl (by decide) ?_
                  refine r_istore (q := 194) (i := 4) [(0, .ref (fad Δ 12 0 0)), (1, .int a1), (2, .int x2), (3, .int x3)] C dX12_doOne_192 rfl (by decide) rfl (fun x25 => ?_)
                  refine r_join (fun k27 => ∀  (s26 : fSt), fW Δ Γ 5 (fQ eV Δ Γ) 236 [] [] s26 (k27 s26)) ?_ (fun k27 hk27 => ?_)
                  · intro s26
                    refine r_goto (q := 250) C dX12_doOne_236 (by decide) ?_
                    exact hj5 s26
                  refine r_locs (lc' := [(0, .ref (fad Δ 12 0 0)), (1, .int a1), (2, .int x2), (4, .int x25)]) [1, 2, 3, 0] rfl ?_
                  have L194 : ∀ (n30 : Nat) (x28 : Int32) (s29 : fSt), fW Δ Γ 5 (fQ eV Δ Γ) 194 [(0, .ref (fad Δ 12 0 0)), (1, .int a1), (2, .int x2), (4, .int x28)] [] s29 (f_X12_doOne_L194 rec a1 x2 k27 n30 x28 s29) := by
                    intro n30
                    induction n30 with
                    | zero =>
                      intro x28 s29
                      rw [f_X12_doOne_L194]
                      exact r_none
                    | succ n30 ih_n30 =>
                      intro x28 s29
                      rw [f_X12_doOne_L194]
                      refine r_iload (q := 196) (i := 4) (z := 3) C dX12_doOne_194 rfl rfl ?_
                      refine r_aload_n (q := 197) (i := 0) (z := 0) C dX12_doOne_196 rfl rfl rfl ?_
                      refine g_X12_35 (q := 200) C (nm_12 hN) dX12_doOne_197 rfl ?_
                      refine r_iload_n (q := 201) (i := 2) (z := 2) C dX12_doOne_200 rfl rfl rfl ?_
                      refine r_iconst (q := 202) (v := 1) C dX12_doOne_201 rfl (by decide) ?_
                      refine r_iadd (q := 203) C dX12_doOne_202 rfl ?_
                      refine r_ial (q := 204) q_12_5 h_12_5 C (nm_12 hN) dX12_doOne_203 rfl ?_
                      refine r_icmp_ge (q := 207) (tgt := 236) C dX12_doOne_204 (by decide) rfl ?_ ?_
                      · refine r_locs (lc' := []) [] rfl ?_
                        exact hk27 s29
                      · refine r_aload_n (q := 208) (i := 0) (z := 0) C dX12_doOne_207 rfl rfl rfl ?_
                        refine g_X12_566 (q := 211) C (nm_12 hN) dX12_doOne_208 rfl ?_
                        refine r_if_ne (q := 214) (tgt := 236) C dX12_doOne_211 (by decide) rfl ?_ ?_
                        · refine r_locs (lc' := []) [] rfl ?_
                          exact hk27 s29
                        · refine r_aload_n (q := 215) (i := 0) (z := 0) C dX12_doOne_214 rfl rfl rfl ?_
                          refine r_iload_n (q := 216) (i := 1) (z := 1) C dX12_doOne_215 rfl rfl rfl ?_
                          refine r_iconst (q := 217) (v := 1) C dX12_doOne_216 rfl (by decide) ?_
                          refine r_iadd (q := 218) C dX12_doOne_217 rfl ?_
                          refine r_aload_n (q := 219) (i := 0) (z := 0) C dX12_doOne_218 rfl rfl rfl ?_
                          refine g_X12_35 (q := 222) C (nm_12 hN) dX12_doOne_219 rfl ?_
                          refine r_iload_n (q := 223) (i := 2) (z := 2) C dX12_doOne_222 rfl rfl rfl ?_
                          refine r_bipush (q := 225) (v := 6) C dX12_doOne_223 rfl (by decide) ?_
                          refine r_iadd (q := 226) C dX12_doOne_225 rfl ?_
                          refine r_ial (q := 227) q_12_5 h_12_5 C (nm_12 hN) dX12_doOne_226 rfl ?_
                          refine r_callVV (q := 230) (As := [.int (a1 + ((1 : Int32))), .int (gA s29 12 0 5 (x2 + ((6 : Int32))).toNatClampNeg)]) wm_X12_576 yvX12_doAll (hrec (a1 + ((1 : Int32))) (gA s29 12 0 5 (x2 + ((6 : Int32))).toNatClampNeg) s29) ⟨rfl, by decide⟩ C (nm_12 hN) (Nat.le_refl _) rfl (Nat.le_of_ble_eq_true rfl) dX12_doOne_227 rfl (fun _ s31 => ?_)
                          refine r_iinc (q := 233) (z := 3) (d := 1) [(0, .ref (fad Δ 12 0 0)), (1, .int a1), (2, .int x2)] C dX12_doOne_230 rfl rfl (by decide) (by decide) rfl (fun x32 => ?_)
                          refine r_goto (q := 194) C dX12_doOne_233 (by decide) ?_
                          refine r_locs (lc' := [(0, .ref (fad Δ 12 0 0)), (1, .int a1), (2, .int x2), (4, .int x32)]) [1, 2, 3, 0] rfl ?_
                          exact ih_n30 x32 s31
                  exact L194 fF x25 s22
              refine r_icmp_ne (q := 158) (tgt := 185) C dX12_doOne_155 (by decide) rfl ?_ ?_
              · refine r_locs (lc' := [(0, .ref (fad Δ 12 0 0)), (1, .int a1), (2, .int x2), (3, .int x3)]) [2, 3, 1, 0] rfl ?_
                exact hj23 s1
              · refine r_aload_n (q := 159) (i := 0) (z := 2) C dX12_doOne_158 rfl rfl rfl ?_
                refine r_iload_n (q := 160) (i := 2) (z := 1) C dX12_doOne_159 rfl rfl rfl ?_
                refine r_callVI (q := 163) (As := [.int x2]) wm_X12_573 yvX12_isSo (c_X12_isSo Δ hN x2 s1) ⟨rfl, by decide⟩ C (nm_12 hN) (by omega) rfl (Nat.le_of_ble_eq_true rfl) dX12_doOne_160 rfl (fun x33 s34 => ?_)
                refine r_if_eq (q := 166) (tgt := 185) C dX12_doOne_163 (by decide) rfl ?_ ?_
                · refine r_locs (lc' := [(0, .ref (fad Δ 12 0 0)), (1, .int a1), (2, .int x2), (3, .int x3)]) [2, 3, 1, 0] rfl ?_
                  exact hj23 s34
                · refine r_aload_n (q := 167) (i := 0) (z := 2) C dX12_doOne_166 rfl rfl rfl ?_
                  refine r_iload_n (q := 168) (i := 1) (z := 3) C dX12_doOne_167 rfl rfl rfl ?_
                  refine r_iconst (q := 169) (v := 1) C dX12_doOne_168 rfl (by decide) ?_
                  refine r_iadd (q := 170) C dX12_doOne_169 rfl ?_
                  refine r_aload_n (q := 171) (i := 0) (z := 2) C dX12_doOne_170 rfl rfl rfl ?_
                  refine g_X12_35 (q := 174) C (nm_12 hN) dX12_doOne_171 rfl ?_
                  refine r_iload_n (q := 175) (i := 2) (z := 1) C dX12_doOne_174 rfl rfl rfl ?_
                  refine r_bipush (q := 177) (v := 6) C dX12_doOne_175 rfl (by decide) ?_
                  refine r_iadd (q := 178) C dX12_doOne_177 rfl ?_
                  refine r_ial (q := 179) q_12_5 h_12_5 C (nm_12 hN) dX12_doOne_178 rfl ?_
                  refine r_callVV (q := 182) (As := [.int (a1 + ((1 : Int32))), .int (gA s34 12 0 5 (x2 + ((6 : Int32))).toNatClampNeg)]) wm_X12_576 yvX12_doAll (hrec (a1 + ((1 : Int32))) (gA s34 12 0 5 (x2 + ((6 : Int32))).toNatClampNeg) s34) ⟨rfl, by decide⟩ C (nm_12 hN) (Nat.le_refl _) rfl (Nat.le_of_ble_eq_true rfl) dX12_doOne_179 rfl (fun _ s35 => ?_)
                  refine r_goto (q := 250) C dX12_doOne_182 (by decide) ?_
                  refine r_locs (lc' := []) [] rfl ?_
                  exact hj5 s35
            · refine r_locs (lc' := [(0, .ref (fad Δ 12 0 0)), (2, .int x2), (3, .int x3)]) [2, 1, 0] rfl ?_
              exact hj15 s1
        · refine r_locs (lc' := [(0, .ref (fad Δ 12 0 0)), (2, .int x2), (3, .int x3)]) [2, 1, 0] rfl ?_
          exact hj7 s1
    · refine r_aload_n (q := 47) (i := 0) (z := 2) C dX12_doOne_46 rfl rfl rfl ?_
      refine r_aload_n (q := 48) (i := 0) (z := 2) C dX12_doOne_47 rfl rfl rfl ?_
      refine g_X12_35 (q := 51) C (nm_12 hN) dX12_doOne_48 rfl ?_
      refine r_iload_n (q := 52) (i := 2) (z := 1) C dX12_doOne_51 rfl rfl rfl ?_
      refine r_iconst (q := 53) (v := 1) C dX12_doOne_52 rfl (by decide) ?_
      refine r_iadd (q := 54) C dX12_doOne_53 rfl ?_
      refine r_ial (q := 55) q_12_5 h_12_5 C (nm_12 hN) dX12_doOne_54 rfl ?_
      refine r_callVV (q := 58) (As := [.int (gA s1 12 0 5 (x2 + ((1 : Int32))).toNatClampNeg)]) wm_X12_570 yvX12_plays2 (c_X12_plays2 Δ hN (gA s1 12 0 5 (x2 + ((1 : Int32))).toNatClampNeg) s1) ⟨rfl, by decide⟩ C (nm_12 hN) (by omega) rfl (Nat.le_of_ble_eq_true rfl) dX12_doOne_55 rfl (fun _ s36 => ?_)
      refine r_goto (q := 250) C dX12_doOne_58 (by decide) ?_
      refine r_locs (lc' := []) [] rfl ?_
      exact hj5 s36
  · refine r_aload_n (q := 11) (i := 0) (z := 0) C dX12_doOne_10 rfl rfl rfl ?_
    refine r_iconst (q := 12) (v := 1) C dX12_doOne_11 rfl (by decide) ?_
    refine p_X12_566 (q := 15) C (nm_12 hN) dX12_doOne_12 rfl (fun s37 => ?_)
    exact r_vret C dX12_doOne_15

noncomputable def f_X12_doAll_L2 (rec : Int32 → Int32 → fSt → Option (Unit × fSt)) (a2 : Int32) (k3 : fSt → Option (Unit × fSt)) : Nat → Int32 → fSt → Option (Unit × fSt)
  | 0, _, _ => none
  | n6 + 1, x4, s5 =>
      if a2 ≤ x4 then
        (k3 s5)
      else
        (if ¬ (gI s5 12 0 57) = 0 then
          (k3 s5)
        else
          (fBd (f_X12_doOne rec x4 s5) fun _ s7 =>
          fIx ((((219 : Int32)) + (((7 : Int32)) * x4)) + ((6 : Int32))) 2150 <|
          fLt (gA s7 12 0 5 ((((219 : Int32)) + (((7 : Int32)) * x4)) + ((6 : Int32))).toNatClampNeg) fun (x8 : Int32) =>
          f_X12_doAll_L2 rec a2 k3 n6 x8 s7))

noncomputable def f_X12_doAll_b (rec : Int32 → Int32 → fSt → Option (Unit × fSt)) (a1 : Int32) (a2 : Int32) (st : fSt) : Option (Unit × fSt) :=
  fLt a1 fun (x1 : Int32) =>
  fJn (fun (s2 : fSt) =>
    (some ((), s2))) fun (k3 : fSt → Option (Unit × fSt)) =>
  f_X12_doAll_L2 rec a2 k3 fF x1 st

set_option maxHeartbeats 4000000 in
set_option maxRecDepth 100000 in
theorem c_X12_doAll_b (Δ : fDl) (hN : fNm Δ) (lv0 : Nat) (hlv : 5 ≤ lv0) (rec : Int32 → Int32 → fSt → Option (Unit × fSt)) (hrec : ∀ (a1 : Int32) (a2 : Int32) (st : fSt), fMt eV Δ yX12_doAll cX12_doAll 4 none lv0 [.ref (fad Δ 12 0 0), .int a1, .int a2] st (rec a1 a2 st)) (a1 : Int32) (a2 : Int32) (st : fSt) : fMt eV Δ yX12_doAll cX12_doAll 4 none (lv0 + 2) [.ref (fad Δ 12 0 0), .int a1, .int a2] st (f_X12_doAll_b rec a1 a2 st) := by
  unfold f_X12_doAll_b
  refine r_method (by decide +kernel) (Nat.le_of_ble_eq_true rfl) (fun Γ C => ?_)
  have C : fC Δ Γ cX12_doAll RX12 4 none (lv0 + 2) := C
  refine r_locs (lc' := [(0, .ref (fad Δ 12 0 0)), (1, .int a1), (2, .int a2)]) [0, 1, 2] rfl ?_
  refine r_iload_n (q := 1) (i := 1) (z := 1) C dX12_doAll_0 rfl rfl rfl ?_
  refine r_istore_n (q := 2) (i := 3) [(0, .ref (fad Δ 12 0 0)), (1, .int a1), (2, .int a2)] C dX12_doAll_1 rfl rfl (by decide) rfl (fun x1 => ?_)
  refine r_join (fun k3 => ∀  (s2 : fSt), fW Δ Γ 4 (fQ eV Δ Γ) 39 [] [] s2 (k3 s2)) ?_ (fun k3 hk3 => ?_)
  · intro s2
    exact r_vret C dX12_doAll_39
  refine r_locs (lc' := [(0, .ref (fad Δ 12 0 0)), (2, .int a2), (3, .int x1)]) [1, 3, 0] rfl ?_
  have L2 : ∀ (n6 : Nat) (x4 : Int32) (s5 : fSt), fW Δ Γ 4 (fQ eV Δ Γ) 2 [(0, .ref (fad Δ 12 0 0)), (2, .int a2), (3, .int x4)] [] s5 (f_X12_doAll_L2 rec a2 k3 n6 x4 s5) := by
    intro n6
    induction n6 with
    | zero =>
      intro x4 s5
      rw [f_X12_doAll_L2]
      exact r_none
    | succ n6 ih_n6 =>
      intro x4 s5
      rw [f_X12_doAll_L2]
      refine r_iload_n (q := 3) (i := 3) (z := 2) C dX12_doAll_2 rfl rfl rfl ?_
      refine r_iload_n (q := 4) (i := 2) (z := 1) C dX12_doAll_3 rfl rfl rfl ?_
      refine r_icmp_ge (q := 7) (tgt := 39) C dX12_doAll_4 (by decide) rfl ?_ ?_
      · refine r_locs (lc' := []) [] rfl ?_
        exact hk3 s5
      · refine r_aload_n (q := 8) (i := 0) (z := 0) C dX12_doAll_7 rfl rfl rfl ?_
        refine g_X12_566 (q := 11) C (nm_12 hN) dX12_doAll_8 rfl ?_
        refine r_if_ne (q := 14) (tgt := 39) C dX12_doAll_11 (by decide) rfl ?_ ?_
        · refine r_locs (lc' := []) [] rfl ?_
          exact hk3 s5
        · refine r_aload_n (q := 15) (i := 0) (z := 0) C dX12_doAll_14 rfl rfl rfl ?_
          refine r_iload_n (q := 16) (i := 3) (z := 2) C dX12_doAll_15 rfl rfl rfl ?_
          refine r_callVV (q := 19) (As := [.int x4]) wm_X12_579 yvX12_doOne (c_X12_doOne Δ hN lv0 hlv rec hrec x4 s5) ⟨rfl, by decide⟩ C (nm_12 hN) (Nat.le_refl _) rfl (Nat.le_of_ble_eq_true rfl) dX12_doAll_16 rfl (fun _ s7 => ?_)
          refine r_aload_n (q := 20) (i := 0) (z := 0) C dX12_doAll_19 rfl rfl rfl ?_
          refine g_X12_35 (q := 23) C (nm_12 hN) dX12_doAll_20 rfl ?_
          refine r_sipush (q := 26) (v := 219) C dX12_doAll_23 rfl (by decide) ?_
          refine r_bipush (q := 28) (v := 7) C dX12_doAll_26 rfl (by decide) ?_
          refine r_iload_n (q := 29) (i := 3) (z := 2) C dX12_doAll_28 rfl rfl rfl ?_
          refine r_imul (q := 30) C dX12_doAll_29 rfl ?_
          refine r_iadd (q := 31) C dX12_doAll_30 rfl ?_
          refine r_bipush (q := 33) (v := 6) C dX12_doAll_31 rfl (by decide) ?_
          refine r_iadd (q := 34) C dX12_doAll_33 rfl ?_
          refine r_ial (q := 35) q_12_5 h_12_5 C (nm_12 hN) dX12_doAll_34 rfl ?_
          refine r_istore_n (q := 36) (i := 3) [(0, .ref (fad Δ 12 0 0)), (2, .int a2)] C dX12_doAll_35 rfl rfl (by decide) rfl (fun x8 => ?_)
          refine r_goto (q := 2) C dX12_doAll_36 (by decide) ?_
          refine r_locs (lc' := [(0, .ref (fad Δ 12 0 0)), (2, .int a2), (3, .int x8)]) [1, 2, 0] rfl ?_
          exact ih_n6 x8 s7
  exact L2 fF x1 st

noncomputable def f_X12_doAll : Nat → Int32 → Int32 → fSt → Option (Unit × fSt)
  | 0 => fun _ _ _ => none
  | n + 1 => f_X12_doAll_b (f_X12_doAll n)

theorem c_X12_doAll (Δ : fDl) (hN : fNm Δ) (n : Nat) (a1 : Int32) (a2 : Int32) (st : fSt) : fMt eV Δ yX12_doAll cX12_doAll 4 none (5 + 2 * n) [.ref (fad Δ 12 0 0), .int a1, .int a2] st (f_X12_doAll n a1 a2 st) := by
  induction n generalizing a1 a2 st with
  | zero => exact fun _ _ h => by cases h
  | succ n ih => exact c_X12_doAll_b Δ hN (5 + 2 * n) (by omega) (f_X12_doAll n) (fun a1 a2 st => ih a1 a2 st) a1 a2 st

noncomputable def f_X12_fault (a1 : Int32) (st : fSt) : Option (Int32 × fSt) :=
  fLt (sI st 12 0 1 ((0 : Int32))) fun s1 =>
  fJn (fun (x2 : Int32) (s3 : fSt) =>
    (some (x2, s3))) fun (j4 : Int32 → fSt → Option (Int32 × fSt)) =>
  if ¬ a1 = 0 then
    (if ¬ a1 = ((1 : Int32)) then
      (j4 ((-1 : Int32)) s1)
    else
      (j4 (gI s1 12 0 11) s1))
  else
    (j4 (gI s1 12 0 10) s1)

set_option maxHeartbeats 4000000 in
set_option maxRecDepth 100000 in
theorem c_X12_fault (Δ : fDl) (hN : fNm Δ) (a1 : Int32)  (st : fSt) : fMt eI Δ yX12_fault cX12_fault 2 (some .int) 1 [.ref (fad Δ 12 0 0), .int a1] st (f_X12_fault a1 st) := by
  unfold f_X12_fault
  refine r_method (by decide +kernel) (Nat.le_of_ble_eq_true rfl) (fun Γ C => ?_)
  have C : fC Δ Γ cX12_fault RX12 2 (some .int) 1 := C
  refine r_locs (lc' := [(0, .ref (fad Δ 12 0 0)), (1, .int a1)]) [0, 1] rfl ?_
  refine r_aload_n (q := 1) (i := 0) (z := 0) C dX12_fault_0 rfl rfl rfl ?_
  refine r_iconst (q := 2) (v := 0) C dX12_fault_1 rfl (by decide) ?_
  refine p_X12_90 (q := 5) C (nm_12 hN) dX12_fault_2 rfl (fun s1 => ?_)
  refine r_iload_n (q := 6) (i := 1) (z := 1) C dX12_fault_5 rfl rfl rfl ?_
  refine r_join (fun j4 => ∀ (x2 : Int32) (s3 : fSt), fW Δ Γ 2 (fQ eI Δ Γ) 29 [] [.int x2] s3 (j4 x2 s3)) ?_ (fun j4 hj4 => ?_)
  · intro x2 s3
    exact r_iret C dX12_fault_29
  refine r_if_ne (q := 9) (tgt := 16) C dX12_fault_6 (by decide) rfl ?_ ?_
  · refine r_iload_n (q := 17) (i := 1) (z := 1) C dX12_fault_16 rfl rfl rfl ?_
    refine r_iconst (q := 18) (v := 1) C dX12_fault_17 rfl (by decide) ?_
    refine r_icmp_ne (q := 21) (tgt := 28) C dX12_fault_18 (by decide) rfl ?_ ?_
    · refine r_iconst (q := 29) (v := (-1)) C dX12_fault_28 rfl (by decide) ?_
      refine r_locs (lc' := []) [] rfl ?_
      exact hj4 ((-1 : Int32)) s1
    · refine r_aload_n (q := 22) (i := 0) (z := 0) C dX12_fault_21 rfl rfl rfl ?_
      refine g_X12_32 (q := 25) C (nm_12 hN) dX12_fault_22 rfl ?_
      refine r_goto (q := 29) C dX12_fault_25 (by decide) ?_
      refine r_locs (lc' := []) [] rfl ?_
      exact hj4 (gI s1 12 0 11) s1
  · refine r_aload_n (q := 10) (i := 0) (z := 0) C dX12_fault_9 rfl rfl rfl ?_
    refine g_X12_28 (q := 13) C (nm_12 hN) dX12_fault_10 rfl ?_
    refine r_goto (q := 29) C dX12_fault_13 (by decide) ?_
    refine r_locs (lc' := []) [] rfl ?_
    exact hj4 (gI s1 12 0 10) s1

noncomputable def f_X12_lay_L2 (a1 : Int32) : Nat → Int32 → fSt → Option (Unit × fSt)
  | 0, _, _ => none
  | n4 + 1, x2, s3 =>
      if x2 < 0 then
        (some ((), s3))
      else
        (fIx (gI s3 12 0 8) 900 <|
        fLt (sA s3 12 0 4 (upd (gA s3 12 0 4) (gI s3 12 0 8).toNatClampNeg (vp_nar .byte ((a1 >>> ((((8 : Int32)) * x2) &&& 31)).toInt8.toInt32)))) fun s5 =>
        fLt (sI s5 12 0 8 ((gI s5 12 0 8) + ((1 : Int32)))) fun s6 =>
        fLt (x2 + (-1 : Int32)) fun (x7 : Int32) =>
        f_X12_lay_L2 a1 n4 x7 s6)

noncomputable def f_X12_lay (a1 : Int32) (st : fSt) : Option (Unit × fSt) :=
  fLt ((3 : Int32)) fun (x1 : Int32) =>
  f_X12_lay_L2 a1 fF x1 st

set_option maxHeartbeats 4000000 in
set_option maxRecDepth 100000 in
theorem c_X12_lay (Δ : fDl) (hN : fNm Δ) (a1 : Int32)  (st : fSt) : fMt eV Δ yX12_lay cX12_lay 3 none 1 [.ref (fad Δ 12 0 0), .int a1] st (f_X12_lay a1 st) := by
  unfold f_X12_lay
  refine r_method (by decide +kernel) (Nat.le_of_ble_eq_true rfl) (fun Γ C => ?_)
  have C : fC Δ Γ cX12_lay RX12 3 none 1 := C
  refine r_locs (lc' := [(0, .ref (fad Δ 12 0 0)), (1, .int a1)]) [0, 1] rfl ?_
  refine r_iconst (q := 1) (v := 3) C dX12_lay_0 rfl (by decide) ?_
  refine r_istore_n (q := 2) (i := 2) [(0, .ref (fad Δ 12 0 0)), (1, .int a1)] C dX12_lay_1 rfl rfl (by decide) rfl (fun x1 => ?_)
  refine r_locs (lc' := [(0, .ref (fad Δ 12 0 0)), (1, .int a1), (2, .int x1)]) [1, 2, 0] rfl ?_
  have L2 : ∀ (n4 : Nat) (x2 : Int32) (s3 : fSt), fW Δ Γ 3 (fQ eV Δ Γ) 2 [(0, .ref (fad Δ 12 0 0)), (1, .int a1), (2, .int x2)] [] s3 (f_X12_lay_L2 a1 n4 x2 s3) := by
    intro n4
    induction n4 with
    | zero =>
      intro x2 s3
      rw [f_X12_lay_L2]
      exact r_none
    | succ n4 ih_n4 =>
      intro x2 s3
      rw [f_X12_lay_L2]
      refine r_iload_n (q := 3) (i := 2) (z := 2) C dX12_lay_2 rfl rfl rfl ?_
      refine r_if_lt (q := 6) (tgt := 38) C dX12_lay_3 (by decide) rfl ?_ ?_
      · exact r_vret C dX12_lay_38
      · refine r_aload_n (q := 7) (i := 0) (z := 0) C dX12_lay_6 rfl rfl rfl ?_
        refine g_X12_24 (q := 10) C (nm_12 hN) dX12_lay_7 rfl ?_
        refine r_aload_n (q := 11) (i := 0) (z := 0) C dX12_lay_10 rfl rfl rfl ?_
        refine g_X12_265 (q := 14) C (nm_12 hN) dX12_lay_11 rfl ?_
        refine r_iload_n (q := 15) (i := 1) (z := 1) C dX12_lay_14 rfl rfl rfl ?_
        refine r_bipush (q := 17) (v := 8) C dX12_lay_15 rfl (by decide) ?_
        refine r_iload_n (q := 18) (i := 2) (z := 2) C dX12_lay_17 rfl rfl rfl ?_
        refine r_imul (q := 19) C dX12_lay_18 rfl ?_
        refine r_ishr (q := 20) C dX12_lay_19 rfl ?_
        refine r_i2b (q := 21) C dX12_lay_20 rfl ?_
        refine r_bst (q := 22) q_12_4 h_12_4 C (nm_12 hN) dX12_lay_21 rfl (fun s5 => ?_)
        refine r_aload_n (q := 23) (i := 0) (z := 0) C dX12_lay_22 rfl rfl rfl ?_
        refine r_dup (q := 24) C dX12_lay_23 rfl rfl ?_
        refine g_X12_265 (q := 27) C (nm_12 hN) dX12_lay_24 rfl ?_
        refine r_iconst (q := 28) (v := 1) C dX12_lay_27 rfl (by decide) ?_
        refine r_iadd (q := 29) C dX12_lay_28 rfl ?_
        refine p_X12_265 (q := 32) C (nm_12 hN) dX12_lay_29 rfl (fun s6 => ?_)
        refine r_iinc (q := 35) (z := 2) (d := (-1)) [(0, .ref (fad Δ 12 0 0)), (1, .int a1)] C dX12_lay_32 rfl rfl (by decide) (by decide) rfl (fun x7 => ?_)
        refine r_goto (q := 2) C dX12_lay_35 (by decide) ?_
        refine r_locs (lc' := [(0, .ref (fad Δ 12 0 0)), (1, .int a1), (2, .int x7)]) [1, 2, 0] rfl ?_
        exact ih_n4 x7 s6
  exact L2 fF x1 st

noncomputable def f_X12_feed (a1 : Int32) (a2 : Int32) (a3 : Int32) (a4 : Int32) (a5 : Int32) (st : fSt) : Option (Int32 × fSt) :=
  fLt (sI st 12 0 1 ((0 : Int32))) fun s1 =>
  if ((gI s1 12 0 8) + ((20 : Int32))) ≤ ((900 : Int32)) then
    (fBd (f_X12_lay a1 s1) fun _ s2 =>
    fBd (f_X12_lay a2 s2) fun _ s3 =>
    fBd (f_X12_lay a3 s3) fun _ s4 =>
    fBd (f_X12_lay a4 s4) fun _ s5 =>
    fBd (f_X12_lay a5 s5) fun _ s6 =>
    some (gI s6 12 0 8, s6))
  else
    (some ((-1 : Int32), s1))

set_option maxHeartbeats 4000000 in
set_option maxRecDepth 100000 in
theorem c_X12_feed (Δ : fDl) (hN : fNm Δ) (a1 : Int32) (a2 : Int32) (a3 : Int32) (a4 : Int32) (a5 : Int32)  (st : fSt) : fMt eI Δ yX12_feed cX12_feed 6 (some .int) 2 [.ref (fad Δ 12 0 0), .int a1, .int a2, .int a3, .int a4, .int a5] st (f_X12_feed a1 a2 a3 a4 a5 st) := by
  unfold f_X12_feed
  refine r_method (by decide +kernel) (Nat.le_of_ble_eq_true rfl) (fun Γ C => ?_)
  have C : fC Δ Γ cX12_feed RX12 6 (some .int) 2 := C
  refine r_locs (lc' := [(0, .ref (fad Δ 12 0 0)), (1, .int a1), (2, .int a2), (3, .int a3), (4, .int a4), (5, .int a5)]) [0, 1, 2, 3, 4, 5] rfl ?_
  refine r_aload_n (q := 1) (i := 0) (z := 0) C dX12_feed_0 rfl rfl rfl ?_
  refine r_iconst (q := 2) (v := 0) C dX12_feed_1 rfl (by decide) ?_
  refine p_X12_90 (q := 5) C (nm_12 hN) dX12_feed_2 rfl (fun s1 => ?_)
  refine r_aload_n (q := 6) (i := 0) (z := 0) C dX12_feed_5 rfl rfl rfl ?_
  refine g_X12_265 (q := 9) C (nm_12 hN) dX12_feed_6 rfl ?_
  refine r_bipush (q := 11) (v := 20) C dX12_feed_9 rfl (by decide) ?_
  refine r_iadd (q := 12) C dX12_feed_11 rfl ?_
  refine r_sipush (q := 15) (v := 900) C dX12_feed_12 rfl (by decide) ?_
  refine r_icmp_le (q := 18) (tgt := 20) C dX12_feed_15 (by decide) rfl ?_ ?_
  · refine r_aload_n (q := 21) (i := 0) (z := 0) C dX12_feed_20 rfl rfl rfl ?_
    refine r_iload_n (q := 22) (i := 1) (z := 1) C dX12_feed_21 rfl rfl rfl ?_
    refine r_callVV (q := 25) (As := [.int a1]) wm_X12_268 yvX12_lay (c_X12_lay Δ hN a1 s1) ⟨rfl, by decide⟩ C (nm_12 hN) (by decide) rfl (Nat.le_of_ble_eq_true rfl) dX12_feed_22 rfl (fun _ s2 => ?_)
    refine r_aload_n (q := 26) (i := 0) (z := 0) C dX12_feed_25 rfl rfl rfl ?_
    refine r_iload_n (q := 27) (i := 2) (z := 2) C dX12_feed_26 rfl rfl rfl ?_
    refine r_callVV (q := 30) (As := [.int a2]) wm_X12_268 yvX12_lay (c_X12_lay Δ hN a2 s2) ⟨rfl, by decide⟩ C (nm_12 hN) (by decide) rfl (Nat.le_of_ble_eq_true rfl) dX12_feed_27 rfl (fun _ s3 => ?_)
    refine r_aload_n (q := 31) (i := 0) (z := 0) C dX12_feed_30 rfl rfl rfl ?_
    refine r_iload_n (q := 32) (i := 3) (z := 3) C dX12_feed_31 rfl rfl rfl ?_
    refine r_callVV (q := 35) (As := [.int a3]) wm_X12_268 yvX12_lay (c_X12_lay Δ hN a3 s3) ⟨rfl, by decide⟩ C (nm_12 hN) (by decide) rfl (Nat.le_of_ble_eq_true rfl) dX12_feed_32 rfl (fun _ s4 => ?_)
    refine r_aload_n (q := 36) (i := 0) (z := 0) C dX12_feed_35 rfl rfl rfl ?_
    refine r_iload (q := 38) (i := 4) (z := 4) C dX12_feed_36 rfl rfl ?_
    refine r_callVV (q := 41) (As := [.int a4]) wm_X12_268 yvX12_lay (c_X12_lay Δ hN a4 s4) ⟨rfl, by decide⟩ C (nm_12 hN) (by decide) rfl (Nat.le_of_ble_eq_true rfl) dX12_feed_38 rfl (fun _ s5 => ?_)
    refine r_aload_n (q := 42) (i := 0) (z := 0) C dX12_feed_41 rfl rfl rfl ?_
    refine r_iload (q := 44) (i := 5) (z := 5) C dX12_feed_42 rfl rfl ?_
    refine r_callVV (q := 47) (As := [.int a5]) wm_X12_268 yvX12_lay (c_X12_lay Δ hN a5 s5) ⟨rfl, by decide⟩ C (nm_12 hN) (by decide) rfl (Nat.le_of_ble_eq_true rfl) dX12_feed_44 rfl (fun _ s6 => ?_)
    refine r_aload_n (q := 48) (i := 0) (z := 0) C dX12_feed_47 rfl rfl rfl ?_
    refine g_X12_265 (q := 51) C (nm_12 hN) dX12_feed_48 rfl ?_
    exact r_iret C dX12_feed_51
  · refine r_iconst (q := 19) (v := (-1)) C dX12_feed_18 rfl (by decide) ?_
    exact r_iret C dX12_feed_19

noncomputable def f_X12_fewest_L100 (x10 : Int32) (x17 : Int32) (j21 : fSt → Option (Int32 × fSt)) : Nat → Int32 → fSt → Option (Int32 × fSt)
  | 0, _, _ => none
  | n26 + 1, x24, s25 =>
      if ((4096 : Int32)) ≤ x24 then
                          (j21 s25)
                        else
                          (fIx x24 4096 <|
                          fJn (fun (s27 : fSt) =>
                            (fLt (x24 + (1 : Int32)) fun (x29 : Int32) =>
                            f_X12_fewest_L100 x10 x17 j21 n26 x29 s27)) fun (j28 : fSt → Option (Int32 × fSt)) =>
                          if (gA s25 12 0 11 x24.toNatClampNeg) = 0 then
                            (j28 s25)
                          else
                            (fIx (x17 ||| x24) 4096 <|
                            fIx (x17 ||| x24) 4096 <|
                            fLt (sA s25 12 0 14 (upd (gA s25 12 0 14) (x17 ||| x24).toNatClampNeg (if (x10 + ((1 : Int32))) < (gA s25 12 0 14 (x17 ||| x24).toNatClampNeg) then (x10 + ((1 : Int32))) else (gA s25 12 0 14 (x17 ||| x24).toNatClampNeg)))) fun s30 =>
                            j28 s30))

noncomputable def f_X12_fewest_L78 (x10 : Int32) (k15 : fSt → Option (Int32 × fSt)) : Nat → Int32 → fSt → Option (Int32 × fSt)
  | 0, _, _ => none
  | n19 + 1, x17, s18 =>
      if ((4096 : Int32)) ≤ x17 then
                  (k15 s18)
                else
                  (fIx x17 4096 <|
                  fJn (fun (s20 : fSt) =>
                    (fLt (x17 + (1 : Int32)) fun (x22 : Int32) =>
                    f_X12_fewest_L78 x10 k15 n19 x22 s20)) fun (j21 : fSt → Option (Int32 × fSt)) =>
                  if (gA s18 12 0 14 x17.toNatClampNeg) = x10 then
                    (fLt ((0 : Int32)) fun (x23 : Int32) =>
                    f_X12_fewest_L100 x10 x17 j21 fF x23 s18)
                  else
                    (j21 s18))

noncomputable def f_X12_fewest_L62  : Nat → Int32 → fSt → Option (Int32 × fSt)
  | 0, _, _ => none
  | n12 + 1, x10, s11 =>
      fIx (gI s11 12 0 37) 4096 <|
          if ¬ (gA s11 12 0 14 (gI s11 12 0 37).toNatClampNeg) = ((99 : Int32)) then
            (fIx (gI s11 12 0 37) 4096 <|
            some (gA s11 12 0 14 (gI s11 12 0 37).toNatClampNeg, s11))
          else
            (fLt ((0 : Int32)) fun (x13 : Int32) =>
            fJn (fun (s14 : fSt) =>
              (fLt (x10 + (1 : Int32)) fun (x16 : Int32) =>
              f_X12_fewest_L62 n12 x16 s14)) fun (k15 : fSt → Option (Int32 × fSt)) =>
            f_X12_fewest_L78 x10 k15 fF x13 s11)

noncomputable def f_X12_fewest_L31 (k8 : fSt → Option (Int32 × fSt)) : Nat → Int32 → fSt → Option (Int32 × fSt)
  | 0, _, _ => none
  | n33 + 1, x31, s32 =>
      if ((4096 : Int32)) ≤ x31 then
          (k8 s32)
        else
          (fJn (fun (x34 : Int32) (s35 : fSt) =>
            (fIx x31 4096 <|
            fLt (sA s35 12 0 14 (upd (gA s35 12 0 14) x31.toNatClampNeg x34)) fun s37 =>
            fLt (x31 + (1 : Int32)) fun (x38 : Int32) =>
            f_X12_fewest_L31 k8 n33 x38 s37)) fun (j36 : Int32 → fSt → Option (Int32 × fSt)) =>
          if ¬ x31 = 0 then
            (j36 ((99 : Int32)) s32)
          else
            (j36 ((0 : Int32)) s32))

noncomputable def f_X12_fewest  (st : fSt) : Option (Int32 × fSt) :=
  fLt (sI st 12 0 1 ((0 : Int32))) fun s1 =>
  fLt (sI s1 12 0 0 ((0 : Int32))) fun s2 =>
  fBd (f_X12_isDark  s2) fun x3 s4 =>
  if x3 = 0 then
    (fBd (f_X12_goAll ((-1 : Int32)) s4) fun _ s5 =>
    fLt ((0 : Int32)) fun (x6 : Int32) =>
    fJn (fun (s7 : fSt) =>
      (fLt ((0 : Int32)) fun (x9 : Int32) =>
      f_X12_fewest_L62 fF x9 s7)) fun (k8 : fSt → Option (Int32 × fSt)) =>
    f_X12_fewest_L31 k8 fF x6 s5)
  else
    (fBd (f_X12_refuse ((9 : Int32)) s4) fun x39 s40 =>
    some (x39, s40))

set_option maxHeartbeats 4000000 in
set_option maxRecDepth 100000 in
theorem c_X12_fewest (Δ : fDl) (hN : fNm Δ)   (st : fSt) : fMt eI Δ yX12_fewest cX12_fewest 4 (some .int) 19 [.ref (fad Δ 12 0 0)] st (f_X12_fewest  st) := by
  unfold f_X12_fewest
  refine r_method (by decide +kernel) (Nat.le_of_ble_eq_true rfl) (fun Γ C => ?_)
  have C : fC Δ Γ cX12_fewest RX12 4 (some .int) 19 := C
  refine r_locs (lc' := [(0, .ref (fad Δ 12 0 0))]) [0] rfl ?_
  refine r_aload_n (q := 1) (i := 0) (z := 0) C dX12_fewest_0 rfl rfl rfl ?_
  refine r_iconst (q := 2) (v := 0) C dX12_fewest_1 rfl (by decide) ?_
  refine p_X12_90 (q := 5) C (nm_12 hN) dX12_fewest_2 rfl (fun s1 => ?_)
  refine r_aload_n (q := 6) (i := 0) (z := 0) C dX12_fewest_5 rfl rfl rfl ?_
  refine r_iconst (q := 7) (v := 0) C dX12_fewest_6 rfl (by decide) ?_
  refine p_X12_93 (q := 10) C (nm_12 hN) dX12_fewest_7 rfl (fun s2 => ?_)
  refine r_aload_n (q := 11) (i := 0) (z := 0) C dX12_fewest_10 rfl rfl rfl ?_
  refine r_callVI (q := 14) (As := []) wm_X12_403 yvX12_isDark (c_X12_isDark Δ hN s2) ⟨rfl, by decide⟩ C (nm_12 hN) (by decide) rfl (Nat.le_of_ble_eq_true rfl) dX12_fewest_11 rfl (fun x3 s4 => ?_)
  refine r_if_eq (q := 17) (tgt := 24) C dX12_fewest_14 (by decide) rfl ?_ ?_
  · refine r_aload_n (q := 25) (i := 0) (z := 0) C dX12_fewest_24 rfl rfl rfl ?_
    refine r_iconst (q := 26) (v := (-1)) C dX12_fewest_25 rfl (by decide) ?_
    refine r_callVV (q := 29) (As := [.int ((-1 : Int32))]) wm_X12_492 yvX12_goAll (c_X12_goAll Δ hN ((-1 : Int32)) s4) ⟨rfl, by decide⟩ C (nm_12 hN) (by decide) rfl (Nat.le_of_ble_eq_true rfl) dX12_fewest_26 rfl (fun _ s5 => ?_)
    refine r_iconst (q := 30) (v := 0) C dX12_fewest_29 rfl (by decide) ?_
    refine r_istore_n (q := 31) (i := 1) [(0, .ref (fad Δ 12 0 0))] C dX12_fewest_30 rfl rfl (by decide) rfl (fun x6 => ?_)
    refine r_join (fun k8 => ∀  (s7 : fSt), fW Δ Γ 4 (fQ eI Δ Γ) 60 [(0, .ref (fad Δ 12 0 0))] [] s7 (k8 s7)) ?_ (fun k8 hk8 => ?_)
    · intro s7
      refine r_iconst (q := 61) (v := 0) C dX12_fewest_60 rfl (by decide) ?_
      refine r_istore_n (q := 62) (i := 1) [(0, .ref (fad Δ 12 0 0))] C dX12_fewest_61 rfl rfl (by decide) rfl (fun x9 => ?_)
      refine r_locs (lc' := [(0, .ref (fad Δ 12 0 0)), (1, .int x9)]) [1, 0] rfl ?_
      have L62 : ∀ (n12 : Nat) (x10 : Int32) (s11 : fSt), fW Δ Γ 4 (fQ eI Δ Γ) 62 [(0, .ref (fad Δ 12 0 0)), (1, .int x10)] [] s11 (f_X12_fewest_L62 n12 x10 s11) := by
        intro n12
        induction n12 with
        | zero =>
          intro x10 s11
          rw [f_X12_fewest_L62]
          exact r_none
        | succ n12 ih_n12 =>
          intro x10 s11
          rw [f_X12_fewest_L62]
          refine r_aload_n (q := 63) (i := 0) (z := 0) C dX12_fewest_62 rfl rfl rfl ?_
          refine g_X12_63 (q := 66) C (nm_12 hN) dX12_fewest_63 rfl ?_
          refine r_aload_n (q := 67) (i := 0) (z := 0) C dX12_fewest_66 rfl rfl rfl ?_
          refine g_X12_456 (q := 70) C (nm_12 hN) dX12_fewest_67 rfl ?_
          refine r_ial (q := 71) q_12_14 h_12_14 C (nm_12 hN) dX12_fewest_70 rfl ?_
          refine r_bipush (q := 73) (v := 99) C dX12_fewest_71 rfl (by decide) ?_
          refine r_icmp_ne (q := 76) (tgt := 156) C dX12_fewest_73 (by decide) rfl ?_ ?_
          · refine r_aload_n (q := 157) (i := 0) (z := 0) C dX12_fewest_156 rfl rfl rfl ?_
            refine g_X12_63 (q := 160) C (nm_12 hN) dX12_fewest_157 rfl ?_
            refine r_aload_n (q := 161) (i := 0) (z := 0) C dX12_fewest_160 rfl rfl rfl ?_
            refine g_X12_456 (q := 164) C (nm_12 hN) dX12_fewest_161 rfl ?_
            refine r_ial (q := 165) q_12_14 h_12_14 C (nm_12 hN) dX12_fewest_164 rfl ?_
            exact r_iret C dX12_fewest_165
          · refine r_iconst (q := 77) (v := 0) C dX12_fewest_76 rfl (by decide) ?_
            refine r_istore_n (q := 78) (i := 2) [(0, .ref (fad Δ 12 0 0)), (1, .int x10)] C dX12_fewest_77 rfl rfl (by decide) rfl (fun x13 => ?_)
            refine r_join (fun k15 => ∀  (s14 : fSt), fW Δ Γ 4 (fQ eI Δ Γ) 150 [(0, .ref (fad Δ 12 0 0)), (1, .int x10)] [] s14 (k15 s14)) ?_ (fun k15 hk15 => ?_)
            · intro s14
              refine r_iinc (q := 153) (z := 1) (d := 1) [(0, .ref (fad Δ 12 0 0))] C dX12_fewest_150 rfl rfl (by decide) (by decide) rfl (fun x16 => ?_)
              refine r_goto (q := 62) C dX12_fewest_153 (by decide) ?_
              refine r_locs (lc' := [(0, .ref (fad Δ 12 0 0)), (1, .int x16)]) [1, 0] rfl ?_
              exact ih_n12 x16 s14
            refine r_locs (lc' := [(0, .ref (fad Δ 12 0 0)), (1, .int x10), (2, .int x13)]) [1, 2, 0] rfl ?_
            have L78 : ∀ (n19 : Nat) (x17 : Int32) (s18 : fSt), fW Δ Γ 4 (fQ eI Δ Γ) 78 [(0, .ref (fad Δ 12 0 0)), (1, .int x10), (2, .int x17)] [] s18 (f_X12_fewest_L78 x10 k15 n19 x17 s18) := by
              intro n19
              induction n19 with
              | zero =>
                intro x17 s18
                rw [f_X12_fewest_L78]
                exact r_none
              | succ n19 ih_n19 =>
                intro x17 s18
                rw [f_X12_fewest_L78]
                refine r_iload_n (q := 79) (i := 2) (z := 2) C dX12_fewest_78 rfl rfl rfl ?_
                refine r_sipush (q := 82) (v := 4096) C dX12_fewest_79 rfl (by decide) ?_
                refine r_icmp_ge (q := 85) (tgt := 150) C dX12_fewest_82 (by decide) rfl ?_ ?_
                · refine r_locs (lc' := [(0, .ref (fad Δ 12 0 0)), (1, .int x10)]) [0, 1] rfl ?_
                  exact hk15 s18
                · refine r_aload_n (q := 86) (i := 0) (z := 0) C dX12_fewest_85 rfl rfl rfl ?_
                  refine g_X12_63 (q := 89) C (nm_12 hN) dX12_fewest_86 rfl ?_
                  refine r_iload_n (q := 90) (i := 2) (z := 2) C dX12_fewest_89 rfl rfl rfl ?_
                  refine r_ial (q := 91) q_12_14 h_12_14 C (nm_12 hN) dX12_fewest_90 rfl ?_
                  refine r_iload_n (q := 92) (i := 1) (z := 1) C dX12_fewest_91 rfl rfl rfl ?_
                  refine r_join (fun j21 => ∀  (s20 : fSt), fW Δ Γ 4 (fQ eI Δ Γ) 144 [(0, .ref (fad Δ 12 0 0)), (1, .int x10), (2, .int x17)] [] s20 (j21 s20)) ?_ (fun j21 hj21 => ?_)
                  · intro s20
                    refine r_iinc (q := 147) (z := 2) (d := 1) [(0, .ref (fad Δ 12 0 0)), (1, .int x10)] C dX12_fewest_144 rfl rfl (by decide) (by decide) rfl (fun x22 => ?_)
                    refine r_goto (q := 78) C dX12_fewest_147 (by decide) ?_
                    refine r_locs (lc' := [(0, .ref (fad Δ 12 0 0)), (1, .int x10), (2, .int x22)]) [1, 2, 0] rfl ?_
                    exact ih_n19 x22 s20
                  refine r_icmp_eq (q := 95) (tgt := 98) C dX12_fewest_92 (by decide) rfl ?_ ?_
                  · refine r_iconst (q := 99) (v := 0) C dX12_fewest_98 rfl (by decide) ?_
                    refine r_istore_n (q := 100) (i := 3) [(0, .ref (fad Δ 12 0 0)), (1, .int x10), (2, .int x17)] C dX12_fewest_99 rfl rfl (by decide) rfl (fun x23 => ?_)
                    refine r_locs (lc' := [(0, .ref (fad Δ 12 0 0)), (1, .int x10), (2, .int x17), (3, .int x23)]) [1, 2, 3, 0] rfl ?_
                    have L100 : ∀ (n26 : Nat) (x24 : Int32) (s25 : fSt), fW Δ Γ 4 (fQ eI Δ Γ) 100 [(0, .ref (fad Δ 12 0 0)), (1, .int x10), (2, .int x17), (3, .int x24)] [] s25 (f_X12_fewest_L100 x10 x17 j21 n26 x24 s25) := by
                      intro n26
                      induction n26 with
                      | zero =>
                        intro x24 s25
                        rw [f_X12_fewest_L100]
                        exact r_none
                      | succ n26 ih_n26 =>
                        intro x24 s25
                        rw [f_X12_fewest_L100]
                        refine r_iload_n (q := 101) (i := 3) (z := 3) C dX12_fewest_100 rfl rfl rfl ?_
                        refine r_sipush (q := 104) (v := 4096) C dX12_fewest_101 rfl (by decide) ?_
                        refine r_icmp_ge (q := 107) (tgt := 144) C dX12_fewest_104 (by decide) rfl ?_ ?_
                        · refine r_locs (lc' := [(0, .ref (fad Δ 12 0 0)), (1, .int x10), (2, .int x17)]) [0, 1, 2] rfl ?_
                          exact hj21 s25
                        · refine r_aload_n (q := 108) (i := 0) (z := 0) C dX12_fewest_107 rfl rfl rfl ?_
                          refine g_X12_53 (q := 111) C (nm_12 hN) dX12_fewest_108 rfl ?_
                          refine r_iload_n (q := 112) (i := 3) (z := 3) C dX12_fewest_111 rfl rfl rfl ?_
                          refine r_zal (q := 113) q_12_11 h_12_11 C (nm_12 hN) dX12_fewest_112 rfl ?_
                          refine r_join (fun j28 => ∀  (s27 : fSt), fW Δ Γ 4 (fQ eI Δ Γ) 138 [(0, .ref (fad Δ 12 0 0)), (1, .int x10), (2, .int x17), (3, .int x24)] [] s27 (j28 s27)) ?_ (fun j28 hj28 => ?_)
                          · intro s27
                            refine r_iinc (q := 141) (z := 3) (d := 1) [(0, .ref (fad Δ 12 0 0)), (1, .int x10), (2, .int x17)] C dX12_fewest_138 rfl rfl (by decide) (by decide) rfl (fun x29 => ?_)
                            refine r_goto (q := 100) C dX12_fewest_141 (by decide) ?_
                            refine r_locs (lc' := [(0, .ref (fad Δ 12 0 0)), (1, .int x10), (2, .int x17), (3, .int x29)]) [1, 2, 3, 0] rfl ?_
                            exact ih_n26 x29 s27
                          refine r_if_eq (q := 116) (tgt := 138) C dX12_fewest_113 (by decide) rfl ?_ ?_
                          · exact hj28 s25
                          · refine r_aload_n (q := 117) (i := 0) (z := 0) C dX12_fewest_116 rfl rfl rfl ?_
                            refine g_X12_63 (q := 120) C (nm_12 hN) dX12_fewest_117 rfl ?_
                            refine r_iload_n (q := 121) (i := 2) (z := 2) C dX12_fewest_120 rfl rfl rfl ?_
                            refine r_iload_n (q := 122) (i := 3) (z := 3) C dX12_fewest_121 rfl rfl rfl ?_
                            refine r_ior (q := 123) C dX12_fewest_122 rfl ?_
                            refine r_aload_n (q := 124) (i := 0) (z := 0) C dX12_fewest_123 rfl rfl rfl ?_
                            refine g_X12_63 (q := 127) C (nm_12 hN) dX12_fewest_124 rfl ?_
                            refine r_iload_n (q := 128) (i := 2) (z := 2) C dX12_fewest_127 rfl rfl rfl ?_
                            refine r_iload_n (q := 129) (i := 3) (z := 3) C dX12_fewest_128 rfl rfl rfl ?_
                            refine r_ior (q := 130) C dX12_fewest_129 rfl ?_
                            refine r_ial (q := 131) q_12_14 h_12_14 C (nm_12 hN) dX12_fewest_130 rfl ?_
                            refine r_iload_n (q := 132) (i := 1) (z := 1) C dX12_fewest_131 rfl rfl rfl ?_
                            refine r_iconst (q := 133) (v := 1) C dX12_fewest_132 rfl (by decide) ?_
                            refine r_iadd (q := 134) C dX12_fewest_133 rfl ?_
                            refine r_min (q := 137) wk_X12_391 mw_min.1 mw_min.2.1 mw_min.2.2 C (by decide) (Nat.le_of_ble_eq_true rfl) dX12_fewest_134 rfl ?_
                            refine r_ast (q := 138) q_12_14 h_12_14 C (nm_12 hN) dX12_fewest_137 rfl (fun s30 => ?_)
                            exact hj28 s30
                    exact L100 fF x23 s18
                  · refine r_goto (q := 144) C dX12_fewest_95 (by decide) ?_
                    exact hj21 s18
            exact L78 fF x13 s11
      exact L62 fF x9 s7
    refine r_locs (lc' := [(0, .ref (fad Δ 12 0 0)), (1, .int x6)]) [1, 0] rfl ?_
    have L31 : ∀ (n33 : Nat) (x31 : Int32) (s32 : fSt), fW Δ Γ 4 (fQ eI Δ Γ) 31 [(0, .ref (fad Δ 12 0 0)), (1, .int x31)] [] s32 (f_X12_fewest_L31 k8 n33 x31 s32) := by
      intro n33
      induction n33 with
      | zero =>
        intro x31 s32
        rw [f_X12_fewest_L31]
        exact r_none
      | succ n33 ih_n33 =>
        intro x31 s32
        rw [f_X12_fewest_L31]
        refine r_iload_n (q := 32) (i := 1) (z := 1) C dX12_fewest_31 rfl rfl rfl ?_
        refine r_sipush (q := 35) (v := 4096) C dX12_fewest_32 rfl (by decide) ?_
        refine r_icmp_ge (q := 38) (tgt := 60) C dX12_fewest_35 (by decide) rfl ?_ ?_
        · refine r_locs (lc' := [(0, .ref (fad Δ 12 0 0))]) [0] rfl ?_
          exact hk8 s32
        · refine r_aload_n (q := 39) (i := 0) (z := 0) C dX12_fewest_38 rfl rfl rfl ?_
          refine g_X12_63 (q := 42) C (nm_12 hN) dX12_fewest_39 rfl ?_
          refine r_iload_n (q := 43) (i := 1) (z := 1) C dX12_fewest_42 rfl rfl rfl ?_
          refine r_iload_n (q := 44) (i := 1) (z := 1) C dX12_fewest_43 rfl rfl rfl ?_
          refine r_join (fun j36 => ∀ (x34 : Int32) (s35 : fSt), fW Δ Γ 4 (fQ eI Δ Γ) 53 [(0, .ref (fad Δ 12 0 0)), (1, .int x31)] [.int x34, .int x31, .ref (fad Δ 12 0 14)] s35 (j36 x34 s35)) ?_ (fun j36 hj36 => ?_)
          · intro x34 s35
            refine r_ast (q := 54) q_12_14 h_12_14 C (nm_12 hN) dX12_fewest_53 rfl (fun s37 => ?_)
            refine r_iinc (q := 57) (z := 1) (d := 1) [(0, .ref (fad Δ 12 0 0))] C dX12_fewest_54 rfl rfl (by decide) (by decide) rfl (fun x38 => ?_)
            refine r_goto (q := 31) C dX12_fewest_57 (by decide) ?_
            refine r_locs (lc' := [(0, .ref (fad Δ 12 0 0)), (1, .int x38)]) [1, 0] rfl ?_
            exact ih_n33 x38 s37
          refine r_if_ne (q := 47) (tgt := 51) C dX12_fewest_44 (by decide) rfl ?_ ?_
          · refine r_bipush (q := 53) (v := 99) C dX12_fewest_51 rfl (by decide) ?_
            exact hj36 ((99 : Int32)) s32
          · refine r_iconst (q := 48) (v := 0) C dX12_fewest_47 rfl (by decide) ?_
            refine r_goto (q := 53) C dX12_fewest_48 (by decide) ?_
            exact hj36 ((0 : Int32)) s32
    exact L31 fF x6 s5
  · refine r_aload_n (q := 18) (i := 0) (z := 0) C dX12_fewest_17 rfl rfl rfl ?_
    refine r_bipush (q := 20) (v := 9) C dX12_fewest_18 rfl (by decide) ?_
    refine r_callVI (q := 23) (As := [.int ((9 : Int32))]) wm_X12_348 yvX12_refuse (c_X12_refuse Δ hN ((9 : Int32)) s4) ⟨rfl, by decide⟩ C (nm_12 hN) (by decide) rfl (Nat.le_of_ble_eq_true rfl) dX12_fewest_20 rfl (fun x39 s40 => ?_)
    exact r_iret C dX12_fewest_23

noncomputable def f_X12_sceneOf_L4  : Nat → Int32 → Int32 → fSt → Option (Int32 × fSt)
  | 0, _, _, _ => none
  | n6 + 1, x3, x4, s5 =>
      fIx (((25 : Int32)) + x4) 2150 <|
      if x3 < (gA s5 12 0 5 (((25 : Int32)) + x4).toNatClampNeg) then
        (some (x4, s5))
      else
        (fIx (((25 : Int32)) + x4) 2150 <|
        fLt (x3 - (gA s5 12 0 5 (((25 : Int32)) + x4).toNatClampNeg)) fun (x7 : Int32) =>
        fLt (x4 + (1 : Int32)) fun (x8 : Int32) =>
        f_X12_sceneOf_L4 n6 x7 x8 s5)

noncomputable def f_X12_sceneOf (a1 : Int32) (st : fSt) : Option (Int32 × fSt) :=
  fLt a1 fun (x1 : Int32) =>
  fLt ((0 : Int32)) fun (x2 : Int32) =>
  f_X12_sceneOf_L4 fF x1 x2 st

set_option maxHeartbeats 4000000 in
set_option maxRecDepth 100000 in
theorem c_X12_sceneOf (Δ : fDl) (hN : fNm Δ) (a1 : Int32)  (st : fSt) : fMt eI Δ yX12_sceneOf cX12_sceneOf 4 (some .int) 1 [.ref (fad Δ 12 0 0), .int a1] st (f_X12_sceneOf a1 st) := by
  unfold f_X12_sceneOf
  refine r_method (by decide +kernel) (Nat.le_of_ble_eq_true rfl) (fun Γ C => ?_)
  have C : fC Δ Γ cX12_sceneOf RX12 4 (some .int) 1 := C
  refine r_locs (lc' := [(0, .ref (fad Δ 12 0 0)), (1, .int a1)]) [0, 1] rfl ?_
  refine r_iload_n (q := 1) (i := 1) (z := 1) C dX12_sceneOf_0 rfl rfl rfl ?_
  refine r_istore_n (q := 2) (i := 2) [(0, .ref (fad Δ 12 0 0)), (1, .int a1)] C dX12_sceneOf_1 rfl rfl (by decide) rfl (fun x1 => ?_)
  refine r_iconst (q := 3) (v := 0) C dX12_sceneOf_2 rfl (by decide) ?_
  refine r_istore_n (q := 4) (i := 3) [(2, .int x1), (0, .ref (fad Δ 12 0 0)), (1, .int a1)] C dX12_sceneOf_3 rfl rfl (by decide) rfl (fun x2 => ?_)
  refine r_locs (lc' := [(0, .ref (fad Δ 12 0 0)), (2, .int x1), (3, .int x2)]) [2, 1, 0] rfl ?_
  have L4 : ∀ (n6 : Nat) (x3 : Int32) (x4 : Int32) (s5 : fSt), fW Δ Γ 4 (fQ eI Δ Γ) 4 [(0, .ref (fad Δ 12 0 0)), (2, .int x3), (3, .int x4)] [] s5 (f_X12_sceneOf_L4 n6 x3 x4 s5) := by
    intro n6
    induction n6 with
    | zero =>
      intro x3 x4 s5
      rw [f_X12_sceneOf_L4]
      exact r_none
    | succ n6 ih_n6 =>
      intro x3 x4 s5
      rw [f_X12_sceneOf_L4]
      refine r_iload_n (q := 5) (i := 2) (z := 1) C dX12_sceneOf_4 rfl rfl rfl ?_
      refine r_aload_n (q := 6) (i := 0) (z := 0) C dX12_sceneOf_5 rfl rfl rfl ?_
      refine g_X12_35 (q := 9) C (nm_12 hN) dX12_sceneOf_6 rfl ?_
      refine r_bipush (q := 11) (v := 25) C dX12_sceneOf_9 rfl (by decide) ?_
      refine r_iload_n (q := 12) (i := 3) (z := 2) C dX12_sceneOf_11 rfl rfl rfl ?_
      refine r_iadd (q := 13) C dX12_sceneOf_12 rfl ?_
      refine r_ial (q := 14) q_12_5 h_12_5 C (nm_12 hN) dX12_sceneOf_13 rfl ?_
      refine r_icmp_lt (q := 17) (tgt := 35) C dX12_sceneOf_14 (by decide) rfl ?_ ?_
      · refine r_iload_n (q := 36) (i := 3) (z := 2) C dX12_sceneOf_35 rfl rfl rfl ?_
        exact r_iret C dX12_sceneOf_36
      · refine r_iload_n (q := 18) (i := 2) (z := 1) C dX12_sceneOf_17 rfl rfl rfl ?_
        refine r_aload_n (q := 19) (i := 0) (z := 0) C dX12_sceneOf_18 rfl rfl rfl ?_
        refine g_X12_35 (q := 22) C (nm_12 hN) dX12_sceneOf_19 rfl ?_
        refine r_bipush (q := 24) (v := 25) C dX12_sceneOf_22 rfl (by decide) ?_
        refine r_iload_n (q := 25) (i := 3) (z := 2) C dX12_sceneOf_24 rfl rfl rfl ?_
        refine r_iadd (q := 26) C dX12_sceneOf_25 rfl ?_
        refine r_ial (q := 27) q_12_5 h_12_5 C (nm_12 hN) dX12_sceneOf_26 rfl ?_
        refine r_isub (q := 28) C dX12_sceneOf_27 rfl ?_
        refine r_istore_n (q := 29) (i := 2) [(0, .ref (fad Δ 12 0 0)), (3, .int x4)] C dX12_sceneOf_28 rfl rfl (by decide) rfl (fun x7 => ?_)
        refine r_iinc (q := 32) (z := 2) (d := 1) [(2, .int x7), (0, .ref (fad Δ 12 0 0))] C dX12_sceneOf_29 rfl rfl (by decide) (by decide) rfl (fun x8 => ?_)
        refine r_goto (q := 4) C dX12_sceneOf_32 (by decide) ?_
        refine r_locs (lc' := [(0, .ref (fad Δ 12 0 0)), (2, .int x7), (3, .int x8)]) [2, 1, 0] rfl ?_
        exact ih_n6 x7 x8 s5
  exact L4 fF x1 x2 st

noncomputable def f_X12_heard_L43 (x9 : Int32) : Nat → Int32 → Int32 → fSt → Option (Int32 × fSt)
  | 0, _, _, _ => none
  | n15 + 1, x12, x13, s14 =>
      fIx ((6 : Int32)) 2150 <|
        if (gA s14 12 0 5 ((6 : Int32)).toNatClampNeg) ≤ x13 then
          (some (x12, s14))
        else
          (fIx (((137 : Int32)) + (((4 : Int32)) * x13)) 2150 <|
          fBd (f_X12_has (gA s14 12 0 5 (((137 : Int32)) + (((4 : Int32)) * x13)).toNatClampNeg) x9 s14) fun x16 s17 =>
          fJn (fun (x18 : Int32) (s19 : fSt) =>
            (fLt (x12 + x18) fun (x21 : Int32) =>
            fLt (x13 + (1 : Int32)) fun (x22 : Int32) =>
            f_X12_heard_L43 x9 n15 x21 x22 s19)) fun (j20 : Int32 → fSt → Option (Int32 × fSt)) =>
          if x16 = 0 then
            (j20 ((0 : Int32)) s17)
          else
            (j20 ((1 : Int32)) s17))

noncomputable def f_X12_heard (a1 : Int32) (st : fSt) : Option (Int32 × fSt) :=
  fLt (sI st 12 0 1 ((0 : Int32))) fun s1 =>
  fLt (sI s1 12 0 0 ((0 : Int32))) fun s2 =>
  fBd (f_X12_allLines  s2) fun x3 s4 =>
  fBd (f_X12_isIn a1.toInt64 ((0 : Int64)) ((x3 - ((1 : Int32))).toInt64) s4) fun x5 s6 =>
  if ¬ x5 = 0 then
    (fBd (f_X12_sceneOf a1 s6) fun x7 s8 =>
    fLt x7 fun (x9 : Int32) =>
    fLt ((0 : Int32)) fun (x10 : Int32) =>
    fLt ((0 : Int32)) fun (x11 : Int32) =>
    f_X12_heard_L43 x9 fF x10 x11 s8)
  else
    (fBd (f_X12_refuse ((5 : Int32)) s6) fun x23 s24 =>
    some (x23, s24))

set_option maxHeartbeats 4000000 in
set_option maxRecDepth 100000 in
theorem c_X12_heard (Δ : fDl) (hN : fNm Δ) (a1 : Int32)  (st : fSt) : fMt eI Δ yX12_heard cX12_heard 5 (some .int) 2 [.ref (fad Δ 12 0 0), .int a1] st (f_X12_heard a1 st) := by
  unfold f_X12_heard
  refine r_method (by decide +kernel) (Nat.le_of_ble_eq_true rfl) (fun Γ C => ?_)
  have C : fC Δ Γ cX12_heard RX12 5 (some .int) 2 := C
  refine r_locs (lc' := [(0, .ref (fad Δ 12 0 0)), (1, .int a1)]) [0, 1] rfl ?_
  refine r_aload_n (q := 1) (i := 0) (z := 0) C dX12_heard_0 rfl rfl rfl ?_
  refine r_iconst (q := 2) (v := 0) C dX12_heard_1 rfl (by decide) ?_
  refine p_X12_90 (q := 5) C (nm_12 hN) dX12_heard_2 rfl (fun s1 => ?_)
  refine r_aload_n (q := 6) (i := 0) (z := 0) C dX12_heard_5 rfl rfl rfl ?_
  refine r_iconst (q := 7) (v := 0) C dX12_heard_6 rfl (by decide) ?_
  refine p_X12_93 (q := 10) C (nm_12 hN) dX12_heard_7 rfl (fun s2 => ?_)
  refine r_iload_n (q := 11) (i := 1) (z := 1) C dX12_heard_10 rfl rfl rfl ?_
  refine r_i2l (q := 12) C dX12_heard_11 rfl ?_
  refine r_lconst (q := 13) (v := 0) C dX12_heard_12 rfl (by decide) ?_
  refine r_aload_n (q := 14) (i := 0) (z := 0) C dX12_heard_13 rfl rfl rfl ?_
  refine r_callVI (q := 17) (As := []) wm_X12_345 yvX12_allLines (c_X12_allLines Δ hN s2) ⟨rfl, by decide⟩ C (nm_12 hN) (by decide) rfl (Nat.le_of_ble_eq_true rfl) dX12_heard_14 rfl (fun x3 s4 => ?_)
  refine r_iconst (q := 18) (v := 1) C dX12_heard_17 rfl (by decide) ?_
  refine r_isub (q := 19) C dX12_heard_18 rfl ?_
  refine r_i2l (q := 20) C dX12_heard_19 rfl ?_
  refine r_callSI (q := 23) (As := [.long a1.toInt64, .long ((0 : Int64)), .long ((x3 - ((1 : Int32))).toInt64)]) wm_X12_129 ysX12_isIn (c_X12_isIn Δ hN a1.toInt64 ((0 : Int64)) ((x3 - ((1 : Int32))).toInt64) s4) C (by decide) rfl (Nat.le_of_ble_eq_true rfl) dX12_heard_20 rfl (fun x5 s6 => ?_)
  refine r_if_ne (q := 26) (tgt := 32) C dX12_heard_23 (by decide) rfl ?_ ?_
  · refine r_aload_n (q := 33) (i := 0) (z := 0) C dX12_heard_32 rfl rfl rfl ?_
    refine r_iload_n (q := 34) (i := 1) (z := 1) C dX12_heard_33 rfl rfl rfl ?_
    refine r_callVI (q := 37) (As := [.int a1]) wm_X12_439 yvX12_sceneOf (c_X12_sceneOf Δ hN a1 s6) ⟨rfl, by decide⟩ C (nm_12 hN) (by decide) rfl (Nat.le_of_ble_eq_true rfl) dX12_heard_34 rfl (fun x7 s8 => ?_)
    refine r_istore_n (q := 38) (i := 2) [(0, .ref (fad Δ 12 0 0)), (1, .int a1)] C dX12_heard_37 rfl rfl (by decide) rfl (fun x9 => ?_)
    refine r_iconst (q := 39) (v := 0) C dX12_heard_38 rfl (by decide) ?_
    refine r_istore_n (q := 40) (i := 3) [(2, .int x9), (0, .ref (fad Δ 12 0 0)), (1, .int a1)] C dX12_heard_39 rfl rfl (by decide) rfl (fun x10 => ?_)
    refine r_iconst (q := 41) (v := 0) C dX12_heard_40 rfl (by decide) ?_
    refine r_istore (q := 43) (i := 4) [(3, .int x10), (2, .int x9), (0, .ref (fad Δ 12 0 0)), (1, .int a1)] C dX12_heard_41 rfl (by decide) rfl (fun x11 => ?_)
    refine r_locs (lc' := [(0, .ref (fad Δ 12 0 0)), (2, .int x9), (3, .int x10), (4, .int x11)]) [3, 2, 1, 0] rfl ?_
    have L43 : ∀ (n15 : Nat) (x12 : Int32) (x13 : Int32) (s14 : fSt), fW Δ Γ 5 (fQ eI Δ Γ) 43 [(0, .ref (fad Δ 12 0 0)), (2, .int x9), (3, .int x12), (4, .int x13)] [] s14 (f_X12_heard_L43 x9 n15 x12 x13 s14) := by
      intro n15
      induction n15 with
      | zero =>
        intro x12 x13 s14
        rw [f_X12_heard_L43]
        exact r_none
      | succ n15 ih_n15 =>
        intro x12 x13 s14
        rw [f_X12_heard_L43]
        refine r_iload (q := 45) (i := 4) (z := 3) C dX12_heard_43 rfl rfl ?_
        refine r_aload_n (q := 46) (i := 0) (z := 0) C dX12_heard_45 rfl rfl rfl ?_
        refine g_X12_35 (q := 49) C (nm_12 hN) dX12_heard_46 rfl ?_
        refine r_bipush (q := 51) (v := 6) C dX12_heard_49 rfl (by decide) ?_
        refine r_ial (q := 52) q_12_5 h_12_5 C (nm_12 hN) dX12_heard_51 rfl ?_
        refine r_icmp_ge (q := 55) (tgt := 89) C dX12_heard_52 (by decide) rfl ?_ ?_
        · refine r_iload_n (q := 90) (i := 3) (z := 2) C dX12_heard_89 rfl rfl rfl ?_
          exact r_iret C dX12_heard_90
        · refine r_iload_n (q := 56) (i := 3) (z := 2) C dX12_heard_55 rfl rfl rfl ?_
          refine r_aload_n (q := 57) (i := 0) (z := 0) C dX12_heard_56 rfl rfl rfl ?_
          refine g_X12_35 (q := 60) C (nm_12 hN) dX12_heard_57 rfl ?_
          refine r_sipush (q := 63) (v := 137) C dX12_heard_60 rfl (by decide) ?_
          refine r_iconst (q := 64) (v := 4) C dX12_heard_63 rfl (by decide) ?_
          refine r_iload (q := 66) (i := 4) (z := 3) C dX12_heard_64 rfl rfl ?_
          refine r_imul (q := 67) C dX12_heard_66 rfl ?_
          refine r_iadd (q := 68) C dX12_heard_67 rfl ?_
          refine r_ial (q := 69) q_12_5 h_12_5 C (nm_12 hN) dX12_heard_68 rfl ?_
          refine r_iload_n (q := 70) (i := 2) (z := 1) C dX12_heard_69 rfl rfl rfl ?_
          refine r_callSI (q := 73) (As := [.int (gA s14 12 0 5 (((137 : Int32)) + (((4 : Int32)) * x13)).toNatClampNeg), .int x9]) wm_X12_373 ysX12_has (c_X12_has Δ hN (gA s14 12 0 5 (((137 : Int32)) + (((4 : Int32)) * x13)).toNatClampNeg) x9 s14) C (by decide) rfl (Nat.le_of_ble_eq_true rfl) dX12_heard_70 rfl (fun x16 s17 => ?_)
          refine r_join (fun j20 => ∀ (x18 : Int32) (s19 : fSt), fW Δ Γ 5 (fQ eI Δ Γ) 81 [(0, .ref (fad Δ 12 0 0)), (2, .int x9), (4, .int x13)] [.int x18, .int x12] s19 (j20 x18 s19)) ?_ (fun j20 hj20 => ?_)
          · intro x18 s19
            refine r_iadd (q := 82) C dX12_heard_81 rfl ?_
            refine r_istore_n (q := 83) (i := 3) [(0, .ref (fad Δ 12 0 0)), (2, .int x9), (4, .int x13)] C dX12_heard_82 rfl rfl (by decide) rfl (fun x21 => ?_)
            refine r_iinc (q := 86) (z := 3) (d := 1) [(3, .int x21), (0, .ref (fad Δ 12 0 0)), (2, .int x9)] C dX12_heard_83 rfl rfl (by decide) (by decide) rfl (fun x22 => ?_)
            refine r_goto (q := 43) C dX12_heard_86 (by decide) ?_
            refine r_locs (lc' := [(0, .ref (fad Δ 12 0 0)), (2, .int x9), (3, .int x21), (4, .int x22)]) [2, 3, 1, 0] rfl ?_
            exact ih_n15 x21 x22 s19
          refine r_if_eq (q := 76) (tgt := 80) C dX12_heard_73 (by decide) rfl ?_ ?_
          · refine r_iconst (q := 81) (v := 0) C dX12_heard_80 rfl (by decide) ?_
            refine r_locs (lc' := [(0, .ref (fad Δ 12 0 0)), (2, .int x9), (4, .int x13)]) [0, 1, 3] rfl ?_
            exact hj20 ((0 : Int32)) s17
          · refine r_iconst (q := 77) (v := 1) C dX12_heard_76 rfl (by decide) ?_
            refine r_goto (q := 81) C dX12_heard_77 (by decide) ?_
            refine r_locs (lc' := [(0, .ref (fad Δ 12 0 0)), (2, .int x9), (4, .int x13)]) [0, 1, 3] rfl ?_
            exact hj20 ((1 : Int32)) s17
    exact L43 fF x10 x11 s8
  · refine r_aload_n (q := 27) (i := 0) (z := 0) C dX12_heard_26 rfl rfl rfl ?_
    refine r_iconst (q := 28) (v := 5) C dX12_heard_27 rfl (by decide) ?_
    refine r_callVI (q := 31) (As := [.int ((5 : Int32))]) wm_X12_348 yvX12_refuse (c_X12_refuse Δ hN ((5 : Int32)) s6) ⟨rfl, by decide⟩ C (nm_12 hN) (by decide) rfl (Nat.le_of_ble_eq_true rfl) dX12_heard_28 rfl (fun x23 s24 => ?_)
    exact r_iret C dX12_heard_31

noncomputable def f_X12_spelled (a0 : Int32) (a1 : Int32) (a2 : Int32) (a3 : Int32) (a4 : Int32) (a5 : Int32) (st : fSt) : Option (Int64 × fSt) :=
  fLt ((((a0.toInt64 - ((96 : Int64))) * ((32 : Int64))) + a1.toInt64) - ((96 : Int64))) fun (x1 : Int64) =>
  fJn (fun (x2 : Int64) (s3 : fSt) =>
    (fLt x2 fun (x5 : Int64) =>
    fJn (fun (x6 : Int64) (s7 : fSt) =>
      (fLt x6 fun (x9 : Int64) =>
      fJn (fun (x10 : Int64) (s11 : fSt) =>
        (fLt x10 fun (x13 : Int64) =>
        fJn (fun (x14 : Int64) (s15 : fSt) =>
          (some (x14, s15))) fun (j16 : Int64 → fSt → Option (Int64 × fSt)) =>
        if a5 ≤ 0 then
          (j16 x13 s11)
        else
          (j16 (((x13 * ((32 : Int64))) + a5.toInt64) - ((96 : Int64))) s11))) fun (j12 : Int64 → fSt → Option (Int64 × fSt)) =>
      if a4 ≤ 0 then
        (j12 x9 s7)
      else
        (j12 (((x9 * ((32 : Int64))) + a4.toInt64) - ((96 : Int64))) s7))) fun (j8 : Int64 → fSt → Option (Int64 × fSt)) =>
    if a3 ≤ 0 then
      (j8 x5 s3)
    else
      (j8 (((x5 * ((32 : Int64))) + a3.toInt64) - ((96 : Int64))) s3))) fun (j4 : Int64 → fSt → Option (Int64 × fSt)) =>
  if a2 ≤ 0 then
    (j4 x1 st)
  else
    (j4 (((x1 * ((32 : Int64))) + a2.toInt64) - ((96 : Int64))) st)

set_option maxHeartbeats 4000000 in
set_option maxRecDepth 100000 in
theorem c_X12_spelled (Δ : fDl) (hN : fNm Δ) (a0 : Int32) (a1 : Int32) (a2 : Int32) (a3 : Int32) (a4 : Int32) (a5 : Int32)  (st : fSt) : fMt eL Δ yX12_spelled cX12_spelled 8 (some .long) 1 [.int a0, .int a1, .int a2, .int a3, .int a4, .int a5] st (f_X12_spelled a0 a1 a2 a3 a4 a5 st) := by
  unfold f_X12_spelled
  refine r_method (by decide +kernel) (Nat.le_of_ble_eq_true rfl) (fun Γ C => ?_)
  have C : fC Δ Γ cX12_spelled RX12 8 (some .long) 1 := C
  refine r_locs (lc' := [(0, .int a0), (1, .int a1), (2, .int a2), (3, .int a3), (4, .int a4), (5, .int a5)]) [0, 1, 2, 3, 4, 5] rfl ?_
  refine r_iload_n (q := 1) (i := 0) (z := 0) C dX12_spelled_0 rfl rfl rfl ?_
  refine r_i2l (q := 2) C dX12_spelled_1 rfl ?_
  refine r_ldc2 (q := 5) C dX12_spelled_2 rfl wl_X12_156 ?_
  refine r_lsub (q := 6) C dX12_spelled_5 rfl ?_
  refine r_ldc2 (q := 9) C dX12_spelled_6 rfl wl_X12_154 ?_
  refine r_lmul (q := 10) C dX12_spelled_9 rfl ?_
  refine r_iload_n (q := 11) (i := 1) (z := 1) C dX12_spelled_10 rfl rfl rfl ?_
  refine r_i2l (q := 12) C dX12_spelled_11 rfl ?_
  refine r_ladd (q := 13) C dX12_spelled_12 rfl ?_
  refine r_ldc2 (q := 16) C dX12_spelled_13 rfl wl_X12_156 ?_
  refine r_lsub (q := 17) C dX12_spelled_16 rfl ?_
  refine r_lstore (q := 19) (i := 6) [(0, .int a0), (1, .int a1), (2, .int a2), (3, .int a3), (4, .int a4), (5, .int a5)] C dX12_spelled_17 rfl (by decide) rfl (fun x1 => ?_)
  refine r_iload_n (q := 20) (i := 2) (z := 3) C dX12_spelled_19 rfl rfl rfl ?_
  refine r_join (fun j4 => ∀ (x2 : Int64) (s3 : fSt), fW Δ Γ 8 (fQ eL Δ Γ) 41 [(3, .int a3), (4, .int a4), (5, .int a5)] [.long x2] s3 (j4 x2 s3)) ?_ (fun j4 hj4 => ?_)
  · intro x2 s3
    refine r_lstore (q := 43) (i := 6) [(3, .int a3), (4, .int a4), (5, .int a5)] C dX12_spelled_41 rfl (by decide) rfl (fun x5 => ?_)
    refine r_iload_n (q := 44) (i := 3) (z := 1) C dX12_spelled_43 rfl rfl rfl ?_
    refine r_join (fun j8 => ∀ (x6 : Int64) (s7 : fSt), fW Δ Γ 8 (fQ eL Δ Γ) 65 [(4, .int a4), (5, .int a5)] [.long x6] s7 (j8 x6 s7)) ?_ (fun j8 hj8 => ?_)
    · intro x6 s7
      refine r_lstore (q := 67) (i := 6) [(4, .int a4), (5, .int a5)] C dX12_spelled_65 rfl (by decide) rfl (fun x9 => ?_)
      refine r_iload (q := 69) (i := 4) (z := 1) C dX12_spelled_67 rfl rfl ?_
      refine r_join (fun j12 => ∀ (x10 : Int64) (s11 : fSt), fW Δ Γ 8 (fQ eL Δ Γ) 91 [(5, .int a5)] [.long x10] s11 (j12 x10 s11)) ?_ (fun j12 hj12 => ?_)
      · intro x10 s11
        refine r_lstore (q := 93) (i := 6) [(5, .int a5)] C dX12_spelled_91 rfl (by decide) rfl (fun x13 => ?_)
        refine r_iload (q := 95) (i := 5) (z := 1) C dX12_spelled_93 rfl rfl ?_
        refine r_join (fun j16 => ∀ (x14 : Int64) (s15 : fSt), fW Δ Γ 8 (fQ eL Δ Γ) 117 [] [.long x14] s15 (j16 x14 s15)) ?_ (fun j16 hj16 => ?_)
        · intro x14 s15
          exact r_lret C dX12_spelled_117
        refine r_if_le (q := 98) (tgt := 115) C dX12_spelled_95 (by decide) rfl ?_ ?_
        · refine r_lload (q := 117) (i := 6) (z := 0) C dX12_spelled_115 rfl rfl ?_
          refine r_locs (lc' := []) [] rfl ?_
          exact hj16 x13 s11
        · refine r_lload (q := 100) (i := 6) (z := 0) C dX12_spelled_98 rfl rfl ?_
          refine r_ldc2 (q := 103) C dX12_spelled_100 rfl wl_X12_154 ?_
          refine r_lmul (q := 104) C dX12_spelled_103 rfl ?_
          refine r_iload (q := 106) (i := 5) (z := 1) C dX12_spelled_104 rfl rfl ?_
          refine r_i2l (q := 107) C dX12_spelled_106 rfl ?_
          refine r_ladd (q := 108) C dX12_spelled_107 rfl ?_
          refine r_ldc2 (q := 111) C dX12_spelled_108 rfl wl_X12_156 ?_
          refine r_lsub (q := 112) C dX12_spelled_111 rfl ?_
          refine r_goto (q := 117) C dX12_spelled_112 (by decide) ?_
          refine r_locs (lc' := []) [] rfl ?_
          exact hj16 (((x13 * ((32 : Int64))) + a5.toInt64) - ((96 : Int64))) s11
      refine r_if_le (q := 72) (tgt := 89) C dX12_spelled_69 (by decide) rfl ?_ ?_
      · refine r_lload (q := 91) (i := 6) (z := 0) C dX12_spelled_89 rfl rfl ?_
        refine r_locs (lc' := [(5, .int a5)]) [2] rfl ?_
        exact hj12 x9 s7
      · refine r_lload (q := 74) (i := 6) (z := 0) C dX12_spelled_72 rfl rfl ?_
        refine r_ldc2 (q := 77) C dX12_spelled_74 rfl wl_X12_154 ?_
        refine r_lmul (q := 78) C dX12_spelled_77 rfl ?_
        refine r_iload (q := 80) (i := 4) (z := 1) C dX12_spelled_78 rfl rfl ?_
        refine r_i2l (q := 81) C dX12_spelled_80 rfl ?_
        refine r_ladd (q := 82) C dX12_spelled_81 rfl ?_
        refine r_ldc2 (q := 85) C dX12_spelled_82 rfl wl_X12_156 ?_
        refine r_lsub (q := 86) C dX12_spelled_85 rfl ?_
        refine r_goto (q := 91) C dX12_spelled_86 (by decide) ?_
        refine r_locs (lc' := [(5, .int a5)]) [2] rfl ?_
        exact hj12 (((x9 * ((32 : Int64))) + a4.toInt64) - ((96 : Int64))) s7
    refine r_if_le (q := 47) (tgt := 63) C dX12_spelled_44 (by decide) rfl ?_ ?_
    · refine r_lload (q := 65) (i := 6) (z := 0) C dX12_spelled_63 rfl rfl ?_
      refine r_locs (lc' := [(4, .int a4), (5, .int a5)]) [2, 3] rfl ?_
      exact hj8 x5 s3
    · refine r_lload (q := 49) (i := 6) (z := 0) C dX12_spelled_47 rfl rfl ?_
      refine r_ldc2 (q := 52) C dX12_spelled_49 rfl wl_X12_154 ?_
      refine r_lmul (q := 53) C dX12_spelled_52 rfl ?_
      refine r_iload_n (q := 54) (i := 3) (z := 1) C dX12_spelled_53 rfl rfl rfl ?_
      refine r_i2l (q := 55) C dX12_spelled_54 rfl ?_
      refine r_ladd (q := 56) C dX12_spelled_55 rfl ?_
      refine r_ldc2 (q := 59) C dX12_spelled_56 rfl wl_X12_156 ?_
      refine r_lsub (q := 60) C dX12_spelled_59 rfl ?_
      refine r_goto (q := 65) C dX12_spelled_60 (by decide) ?_
      refine r_locs (lc' := [(4, .int a4), (5, .int a5)]) [2, 3] rfl ?_
      exact hj8 (((x5 * ((32 : Int64))) + a3.toInt64) - ((96 : Int64))) s3
  refine r_if_le (q := 23) (tgt := 39) C dX12_spelled_20 (by decide) rfl ?_ ?_
  · refine r_lload (q := 41) (i := 6) (z := 0) C dX12_spelled_39 rfl rfl ?_
    refine r_locs (lc' := [(3, .int a3), (4, .int a4), (5, .int a5)]) [4, 5, 6] rfl ?_
    exact hj4 x1 st
  · refine r_lload (q := 25) (i := 6) (z := 0) C dX12_spelled_23 rfl rfl ?_
    refine r_ldc2 (q := 28) C dX12_spelled_25 rfl wl_X12_154 ?_
    refine r_lmul (q := 29) C dX12_spelled_28 rfl ?_
    refine r_iload_n (q := 30) (i := 2) (z := 3) C dX12_spelled_29 rfl rfl rfl ?_
    refine r_i2l (q := 31) C dX12_spelled_30 rfl ?_
    refine r_ladd (q := 32) C dX12_spelled_31 rfl ?_
    refine r_ldc2 (q := 35) C dX12_spelled_32 rfl wl_X12_156 ?_
    refine r_lsub (q := 36) C dX12_spelled_35 rfl ?_
    refine r_goto (q := 41) C dX12_spelled_36 (by decide) ?_
    refine r_locs (lc' := [(3, .int a3), (4, .int a4), (5, .int a5)]) [4, 5, 6] rfl ?_
    exact hj4 (((x1 * ((32 : Int64))) + a2.toInt64) - ((96 : Int64))) st

noncomputable def f_X12_isWord (a1 : Int64) (st : fSt) : Option (Int32 × fSt) :=
  fJn (fun (x1 : Int32) (s2 : fSt) =>
    (fBo x1 (some (x1, s2)))) fun (j3 : Int32 → fSt → Option (Int32 × fSt)) =>
  fJn (fun (s4 : fSt) =>
    (j3 ((0 : Int32)) s4)) fun (j5 : fSt → Option (Int32 × fSt)) =>
  if ¬ (gI st 12 0 14) = ((1 : Int32)) then
    (j5 st)
  else
    (if ¬ (lg_cmp (gL st 12 0 19) a1) = 0 then
      (j5 st)
    else
      (j3 ((1 : Int32)) st))

set_option maxHeartbeats 4000000 in
set_option maxRecDepth 100000 in
theorem c_X12_isWord (Δ : fDl) (hN : fNm Δ) (a1 : Int64)  (st : fSt) : fMt eI Δ yX12_isWord cX12_isWord 3 (some .boolean) 1 [.ref (fad Δ 12 0 0), .long a1] st (f_X12_isWord a1 st) := by
  unfold f_X12_isWord
  refine r_method (by decide +kernel) (Nat.le_of_ble_eq_true rfl) (fun Γ C => ?_)
  have C : fC Δ Γ cX12_isWord RX12 3 (some .boolean) 1 := C
  refine r_locs (lc' := [(0, .ref (fad Δ 12 0 0)), (1, .long a1)]) [0, 1] rfl ?_
  refine r_aload_n (q := 1) (i := 0) (z := 0) C dX12_isWord_0 rfl rfl rfl ?_
  refine g_X12_145 (q := 4) C (nm_12 hN) dX12_isWord_1 rfl ?_
  refine r_iconst (q := 5) (v := 1) C dX12_isWord_4 rfl (by decide) ?_
  refine r_join (fun j3 => ∀ (x1 : Int32) (s2 : fSt), fW Δ Γ 3 (fQ eI Δ Γ) 22 [] [.int x1] s2 (j3 x1 s2)) ?_ (fun j3 hj3 => ?_)
  · intro x1 s2
    exact r_zret C dX12_isWord_22
  refine r_join (fun j5 => ∀  (s4 : fSt), fW Δ Γ 3 (fQ eI Δ Γ) 21 [] [] s4 (j5 s4)) ?_ (fun j5 hj5 => ?_)
  · intro s4
    refine r_iconst (q := 22) (v := 0) C dX12_isWord_21 rfl (by decide) ?_
    exact hj3 ((0 : Int32)) s4
  refine r_icmp_ne (q := 8) (tgt := 21) C dX12_isWord_5 (by decide) rfl ?_ ?_
  · refine r_locs (lc' := []) [] rfl ?_
    exact hj5 st
  · refine r_aload_n (q := 9) (i := 0) (z := 0) C dX12_isWord_8 rfl rfl rfl ?_
    refine g_X12_151 (q := 12) C (nm_12 hN) dX12_isWord_9 rfl ?_
    refine r_lload_n (q := 13) (i := 1) (z := 1) C dX12_isWord_12 rfl rfl rfl ?_
    refine r_lcmp (q := 14) C dX12_isWord_13 rfl ?_
    refine r_if_ne (q := 17) (tgt := 21) C dX12_isWord_14 (by decide) rfl ?_ ?_
    · refine r_locs (lc' := []) [] rfl ?_
      exact hj5 st
    · refine r_iconst (q := 18) (v := 1) C dX12_isWord_17 rfl (by decide) ?_
      refine r_goto (q := 22) C dX12_isWord_18 (by decide) ?_
      refine r_locs (lc' := []) [] rfl ?_
      exact hj3 ((1 : Int32)) st

noncomputable def f_X12_isActor  (st : fSt) : Option (Int32 × fSt) :=
  fBd (f_X12_spelled ((97 : Int32)) ((99 : Int32)) ((116 : Int32)) ((111 : Int32)) ((114 : Int32)) ((0 : Int32)) st) fun x1 s2 =>
  fBd (f_X12_isWord x1 s2) fun x3 s4 =>
  fBo x3 (some (x3, s4))

set_option maxHeartbeats 4000000 in
set_option maxRecDepth 100000 in
theorem c_X12_isActor (Δ : fDl) (hN : fNm Δ)   (st : fSt) : fMt eI Δ yX12_isActor cX12_isActor 1 (some .boolean) 2 [.ref (fad Δ 12 0 0)] st (f_X12_isActor  st) := by
  unfold f_X12_isActor
  refine r_method (by decide +kernel) (Nat.le_of_ble_eq_true rfl) (fun Γ C => ?_)
  have C : fC Δ Γ cX12_isActor RX12 1 (some .boolean) 2 := C
  refine r_locs (lc' := [(0, .ref (fad Δ 12 0 0))]) [0] rfl ?_
  refine r_aload_n (q := 1) (i := 0) (z := 0) C dX12_isActor_0 rfl rfl rfl ?_
  refine r_bipush (q := 3) (v := 97) C dX12_isActor_1 rfl (by decide) ?_
  refine r_bipush (q := 5) (v := 99) C dX12_isActor_3 rfl (by decide) ?_
  refine r_bipush (q := 7) (v := 116) C dX12_isActor_5 rfl (by decide) ?_
  refine r_bipush (q := 9) (v := 111) C dX12_isActor_7 rfl (by decide) ?_
  refine r_bipush (q := 11) (v := 114) C dX12_isActor_9 rfl (by decide) ?_
  refine r_iconst (q := 12) (v := 0) C dX12_isActor_11 rfl (by decide) ?_
  refine r_callSL (q := 15) (As := [.int ((97 : Int32)), .int ((99 : Int32)), .int ((116 : Int32)), .int ((111 : Int32)), .int ((114 : Int32)), .int ((0 : Int32))]) wm_X12_170 ysX12_spelled (c_X12_spelled Δ hN ((97 : Int32)) ((99 : Int32)) ((116 : Int32)) ((111 : Int32)) ((114 : Int32)) ((0 : Int32)) st) C (by decide) rfl (Nat.le_of_ble_eq_true rfl) dX12_isActor_12 rfl (fun x1 s2 => ?_)
  refine r_callVI (q := 18) (As := [.long x1]) wm_X12_174 yvX12_isWord (c_X12_isWord Δ hN x1 s2) ⟨rfl, by decide⟩ C (nm_12 hN) (by decide) rfl (Nat.le_of_ble_eq_true rfl) dX12_isActor_15 rfl (fun x3 s4 => ?_)
  exact r_zret C dX12_isActor_18

noncomputable def f_X12_isBreath  (st : fSt) : Option (Int32 × fSt) :=
  fBd (f_X12_spelled ((98 : Int32)) ((114 : Int32)) ((101 : Int32)) ((97 : Int32)) ((116 : Int32)) ((104 : Int32)) st) fun x1 s2 =>
  fBd (f_X12_isWord x1 s2) fun x3 s4 =>
  fBo x3 (some (x3, s4))

set_option maxHeartbeats 4000000 in
set_option maxRecDepth 100000 in
theorem c_X12_isBreath (Δ : fDl) (hN : fNm Δ)   (st : fSt) : fMt eI Δ yX12_isBreath cX12_isBreath 1 (some .boolean) 2 [.ref (fad Δ 12 0 0)] st (f_X12_isBreath  st) := by
  unfold f_X12_isBreath
  refine r_method (by decide +kernel) (Nat.le_of_ble_eq_true rfl) (fun Γ C => ?_)
  have C : fC Δ Γ cX12_isBreath RX12 1 (some .boolean) 2 := C
  refine r_locs (lc' := [(0, .ref (fad Δ 12 0 0))]) [0] rfl ?_
  refine r_aload_n (q := 1) (i := 0) (z := 0) C dX12_isBreath_0 rfl rfl rfl ?_
  refine r_bipush (q := 3) (v := 98) C dX12_isBreath_1 rfl (by decide) ?_
  refine r_bipush (q := 5) (v := 114) C dX12_isBreath_3 rfl (by decide) ?_
  refine r_bipush (q := 7) (v := 101) C dX12_isBreath_5 rfl (by decide) ?_
  refine r_bipush (q := 9) (v := 97) C dX12_isBreath_7 rfl (by decide) ?_
  refine r_bipush (q := 11) (v := 116) C dX12_isBreath_9 rfl (by decide) ?_
  refine r_bipush (q := 13) (v := 104) C dX12_isBreath_11 rfl (by decide) ?_
  refine r_callSL (q := 16) (As := [.int ((98 : Int32)), .int ((114 : Int32)), .int ((101 : Int32)), .int ((97 : Int32)), .int ((116 : Int32)), .int ((104 : Int32))]) wm_X12_170 ysX12_spelled (c_X12_spelled Δ hN ((98 : Int32)) ((114 : Int32)) ((101 : Int32)) ((97 : Int32)) ((116 : Int32)) ((104 : Int32)) st) C (by decide) rfl (Nat.le_of_ble_eq_true rfl) dX12_isBreath_13 rfl (fun x1 s2 => ?_)
  refine r_callVI (q := 19) (As := [.long x1]) wm_X12_174 yvX12_isWord (c_X12_isWord Δ hN x1 s2) ⟨rfl, by decide⟩ C (nm_12 hN) (by decide) rfl (Nat.le_of_ble_eq_true rfl) dX12_isBreath_16 rfl (fun x3 s4 => ?_)
  exact r_zret C dX12_isBreath_19

noncomputable def f_X12_isEnd  (st : fSt) : Option (Int32 × fSt) :=
  fBd (f_X12_spelled ((101 : Int32)) ((110 : Int32)) ((100 : Int32)) ((0 : Int32)) ((0 : Int32)) ((0 : Int32)) st) fun x1 s2 =>
  fBd (f_X12_isWord x1 s2) fun x3 s4 =>
  fBo x3 (some (x3, s4))

set_option maxHeartbeats 4000000 in
set_option maxRecDepth 100000 in
theorem c_X12_isEnd (Δ : fDl) (hN : fNm Δ)   (st : fSt) : fMt eI Δ yX12_isEnd cX12_isEnd 1 (some .boolean) 2 [.ref (fad Δ 12 0 0)] st (f_X12_isEnd  st) := by
  unfold f_X12_isEnd
  refine r_method (by decide +kernel) (Nat.le_of_ble_eq_true rfl) (fun Γ C => ?_)
  have C : fC Δ Γ cX12_isEnd RX12 1 (some .boolean) 2 := C
  refine r_locs (lc' := [(0, .ref (fad Δ 12 0 0))]) [0] rfl ?_
  refine r_aload_n (q := 1) (i := 0) (z := 0) C dX12_isEnd_0 rfl rfl rfl ?_
  refine r_bipush (q := 3) (v := 101) C dX12_isEnd_1 rfl (by decide) ?_
  refine r_bipush (q := 5) (v := 110) C dX12_isEnd_3 rfl (by decide) ?_
  refine r_bipush (q := 7) (v := 100) C dX12_isEnd_5 rfl (by decide) ?_
  refine r_iconst (q := 8) (v := 0) C dX12_isEnd_7 rfl (by decide) ?_
  refine r_iconst (q := 9) (v := 0) C dX12_isEnd_8 rfl (by decide) ?_
  refine r_iconst (q := 10) (v := 0) C dX12_isEnd_9 rfl (by decide) ?_
  refine r_callSL (q := 13) (As := [.int ((101 : Int32)), .int ((110 : Int32)), .int ((100 : Int32)), .int ((0 : Int32)), .int ((0 : Int32)), .int ((0 : Int32))]) wm_X12_170 ysX12_spelled (c_X12_spelled Δ hN ((101 : Int32)) ((110 : Int32)) ((100 : Int32)) ((0 : Int32)) ((0 : Int32)) ((0 : Int32)) st) C (by decide) rfl (Nat.le_of_ble_eq_true rfl) dX12_isEnd_10 rfl (fun x1 s2 => ?_)
  refine r_callVI (q := 16) (As := [.long x1]) wm_X12_174 yvX12_isWord (c_X12_isWord Δ hN x1 s2) ⟨rfl, by decide⟩ C (nm_12 hN) (by decide) rfl (Nat.le_of_ble_eq_true rfl) dX12_isEnd_13 rfl (fun x3 s4 => ?_)
  exact r_zret C dX12_isEnd_16

noncomputable def f_X12_isEnds  (st : fSt) : Option (Int32 × fSt) :=
  fBd (f_X12_spelled ((101 : Int32)) ((110 : Int32)) ((100 : Int32)) ((115 : Int32)) ((0 : Int32)) ((0 : Int32)) st) fun x1 s2 =>
  fBd (f_X12_isWord x1 s2) fun x3 s4 =>
  fBo x3 (some (x3, s4))

set_option maxHeartbeats 4000000 in
set_option maxRecDepth 100000 in
theorem c_X12_isEnds (Δ : fDl) (hN : fNm Δ)   (st : fSt) : fMt eI Δ yX12_isEnds cX12_isEnds 1 (some .boolean) 2 [.ref (fad Δ 12 0 0)] st (f_X12_isEnds  st) := by
  unfold f_X12_isEnds
  refine r_method (by decide +kernel) (Nat.le_of_ble_eq_true rfl) (fun Γ C => ?_)
  have C : fC Δ Γ cX12_isEnds RX12 1 (some .boolean) 2 := C
  refine r_locs (lc' := [(0, .ref (fad Δ 12 0 0))]) [0] rfl ?_
  refine r_aload_n (q := 1) (i := 0) (z := 0) C dX12_isEnds_0 rfl rfl rfl ?_
  refine r_bipush (q := 3) (v := 101) C dX12_isEnds_1 rfl (by decide) ?_
  refine r_bipush (q := 5) (v := 110) C dX12_isEnds_3 rfl (by decide) ?_
  refine r_bipush (q := 7) (v := 100) C dX12_isEnds_5 rfl (by decide) ?_
  refine r_bipush (q := 9) (v := 115) C dX12_isEnds_7 rfl (by decide) ?_
  refine r_iconst (q := 10) (v := 0) C dX12_isEnds_9 rfl (by decide) ?_
  refine r_iconst (q := 11) (v := 0) C dX12_isEnds_10 rfl (by decide) ?_
  refine r_callSL (q := 14) (As := [.int ((101 : Int32)), .int ((110 : Int32)), .int ((100 : Int32)), .int ((115 : Int32)), .int ((0 : Int32)), .int ((0 : Int32))]) wm_X12_170 ysX12_spelled (c_X12_spelled Δ hN ((101 : Int32)) ((110 : Int32)) ((100 : Int32)) ((115 : Int32)) ((0 : Int32)) ((0 : Int32)) st) C (by decide) rfl (Nat.le_of_ble_eq_true rfl) dX12_isEnds_11 rfl (fun x1 s2 => ?_)
  refine r_callVI (q := 17) (As := [.long x1]) wm_X12_174 yvX12_isWord (c_X12_isWord Δ hN x1 s2) ⟨rfl, by decide⟩ C (nm_12 hN) (by decide) rfl (Nat.le_of_ble_eq_true rfl) dX12_isEnds_14 rfl (fun x3 s4 => ?_)
  exact r_zret C dX12_isEnds_17
