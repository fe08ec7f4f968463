noncomputable def f_X5_advance_L0 (k2 : fSt → Option (Unit × fSt)) : Nat → fSt → Option (Unit × fSt)
  | 0, _ => none
  | n22 + 1, s21 =>
      if (gI s21 5 0 3) ≤ (gI s21 5 0 5) then
        (k2 s21)
      else
        (fIx (gI s21 5 0 5) 900 <|
        fJn (fun (s23 : fSt) =>
          (fLt (sI s23 5 0 5 ((gI s23 5 0 5) + ((1 : Int32)))) fun s25 =>
          f_X5_advance_L0 k2 n22 s25)) fun (j24 : fSt → Option (Unit × fSt)) =>
        if (gA s21 5 0 1 (gI s21 5 0 5).toNatClampNeg) = ((32 : Int32)) then
          (j24 s21)
        else
          (fIx (gI s21 5 0 5) 900 <|
          if ¬ (gA s21 5 0 1 (gI s21 5 0 5).toNatClampNeg) = ((10 : Int32)) then
            (k2 s21)
          else
            (j24 s21)))

noncomputable def f_X5_advance  (st : fSt) : Option (Unit × fSt) :=
  fJn (fun (s1 : fSt) =>
    (fLt (sI s1 5 0 4 (gI s1 5 0 5)) fun s3 =>
    if (gI s3 5 0 4) < (gI s3 5 0 3) then
      (fIx (gI s3 5 0 4) 900 <|
      fLt (gA s3 5 0 1 (gI s3 5 0 4).toNatClampNeg) fun (x4 : Int32) =>
      fBd (f_X5_isLetter x4 s3) fun x5 s6 =>
      fJn (fun (s7 : fSt) =>
        (some ((), s7))) fun (j8 : fSt → Option (Unit × fSt)) =>
      if x5 = 0 then
        (fBd (f_X5_isDigit x4 s6) fun x9 s10 =>
        if x9 = 0 then
          (fJn (fun (x11 : Int32) (s12 : fSt) =>
            (fLt (sI s12 5 0 6 x11) fun s14 =>
            fLt (sI s14 5 0 5 ((gI s14 5 0 4) + ((1 : Int32)))) fun s15 =>
            j8 s15)) fun (j13 : Int32 → fSt → Option (Unit × fSt)) =>
          fJn (fun (s16 : fSt) =>
            (j13 x4 s16)) fun (j17 : fSt → Option (Unit × fSt)) =>
          if x4 = ((59 : Int32)) then
            (j17 s10)
          else
            (if x4 = ((60 : Int32)) then
              (j17 s10)
            else
              (if x4 = ((62 : Int32)) then
                (j17 s10)
              else
                (if ¬ x4 = ((61 : Int32)) then
                  (j13 ((36 : Int32)) s10)
                else
                  (j17 s10)))))
        else
          (fBd (f_X5_scanNumber  s10) fun _ s18 =>
          j8 s18))
      else
        (fBd (f_X5_scanWord  s6) fun _ s19 =>
        j8 s19))
    else
      (fLt (sI s3 5 0 6 ((35 : Int32))) fun s20 =>
      some ((), s20)))) fun (k2 : fSt → Option (Unit × fSt)) =>
  f_X5_advance_L0 k2 fF st

set_option maxHeartbeats 4000000 in
set_option maxRecDepth 100000 in
theorem c_X5_advance (Δ : fDl) (hN : fNx Δ)   (st : fSt) : fMt eV Δ yX5_advance cX5_advance 2 none 3 [.ref (fad Δ 5 0 0)] st (f_X5_advance  st) := by
  unfold f_X5_advance
  refine r_method (by decide +kernel) (Nat.le_of_ble_eq_true rfl) (fun Γ C => ?_)
  have C : fC Δ Γ cX5_advance RX5 2 none 3 := C
  refine r_locs (lc' := [(0, .ref (fad Δ 5 0 0))]) [0] rfl ?_
  refine r_join (fun k2 => ∀  (s1 : fSt), fW Δ Γ 2 (fQ eV Δ Γ) 52 [(0, .ref (fad Δ 5 0 0))] [] s1 (k2 s1)) ?_ (fun k2 hk2 => ?_)
  · intro s1
    refine r_aload_n (q := 53) (i := 0) (z := 0) C dX5_advance_52 rfl rfl rfl ?_
    refine r_aload_n (q := 54) (i := 0) (z := 0) C dX5_advance_53 rfl rfl rfl ?_
    refine g_X5_51 (q := 57) C (nk_5_0 hN) dX5_advance_54 rfl ?_
    refine p_X5_63 (q := 60) C (nk_5_0 hN) dX5_advance_57 rfl (fun s3 => ?_)
    refine r_aload_n (q := 61) (i := 0) (z := 0) C dX5_advance_60 rfl rfl rfl ?_
    refine g_X5_63 (q := 64) C (nk_5_0 hN) dX5_advance_61 rfl ?_
    refine r_aload_n (q := 65) (i := 0) (z := 0) C dX5_advance_64 rfl rfl rfl ?_
    refine g_X5_48 (q := 68) C (nk_5_0 hN) dX5_advance_65 rfl ?_
    refine r_icmp_lt (q := 71) (tgt := 78) C dX5_advance_68 (by decide) rfl ?_ ?_
    · refine r_aload_n (q := 79) (i := 0) (z := 0) C dX5_advance_78 rfl rfl rfl ?_
      refine g_X5_9 (q := 82) C (nk_5_0 hN) dX5_advance_79 rfl ?_
      refine r_aload_n (q := 83) (i := 0) (z := 0) C dX5_advance_82 rfl rfl rfl ?_
      refine g_X5_63 (q := 86) C (nk_5_0 hN) dX5_advance_83 rfl ?_
      refine r_bal (q := 87) q_5_1 h_5_1 C (nk_5_0 hN) dX5_advance_86 rfl ?_
      refine r_istore_n (q := 88) (i := 1) [(0, .ref (fad Δ 5 0 0))] C dX5_advance_87 rfl rfl (by decide) rfl (fun x4 => ?_)
      refine r_iload_n (q := 89) (i := 1) (z := 0) C dX5_advance_88 rfl rfl rfl ?_
      refine r_callSI (q := 92) (As := [.int x4]) wm_X5_69 ysX5_isLetter (c_X5_isLetter Δ hN x4 s3) C (by decide) rfl (Nat.le_of_ble_eq_true rfl) dX5_advance_89 rfl (fun x5 s6 => ?_)
      refine r_join (fun j8 => ∀  (s7 : fSt), fW Δ Γ 2 (fQ eV Δ Γ) 160 [] [] s7 (j8 s7)) ?_ (fun j8 hj8 => ?_)
      · intro s7
        exact r_vret C dX5_advance_160
      refine r_if_eq (q := 95) (tgt := 102) C dX5_advance_92 (by decide) rfl ?_ ?_
      · refine r_iload_n (q := 103) (i := 1) (z := 0) C dX5_advance_102 rfl rfl rfl ?_
        refine r_callSI (q := 106) (As := [.int x4]) wm_X5_76 ysX5_isDigit (c_X5_isDigit Δ hN x4 s6) C (by decide) rfl (Nat.le_of_ble_eq_true rfl) dX5_advance_103 rfl (fun x9 s10 => ?_)
        refine r_if_eq (q := 109) (tgt := 116) C dX5_advance_106 (by decide) rfl ?_ ?_
        · refine r_aload_n (q := 117) (i := 0) (z := 1) C dX5_advance_116 rfl rfl rfl ?_
          refine r_iload_n (q := 118) (i := 1) (z := 0) C dX5_advance_117 rfl rfl rfl ?_
          refine r_bipush (q := 120) (v := 59) C dX5_advance_118 rfl (by decide) ?_
          refine r_join (fun j13 => ∀ (x11 : Int32) (s12 : fSt), fW Δ Γ 2 (fQ eV Δ Γ) 147 [(0, .ref (fad Δ 5 0 0))] [.int x11, .ref (fad Δ 5 0 0)] s12 (j13 x11 s12)) ?_ (fun j13 hj13 => ?_)
          · intro x11 s12
            refine p_X5_66 (q := 150) C (nk_5_0 hN) dX5_advance_147 rfl (fun s14 => ?_)
            refine r_aload_n (q := 151) (i := 0) (z := 0) C dX5_advance_150 rfl rfl rfl ?_
            refine r_aload_n (q := 152) (i := 0) (z := 0) C dX5_advance_151 rfl rfl rfl ?_
            refine g_X5_63 (q := 155) C (nk_5_0 hN) dX5_advance_152 rfl ?_
            refine r_iconst (q := 156) (v := 1) C dX5_advance_155 rfl (by decide) ?_
            refine r_iadd (q := 157) C dX5_advance_156 rfl ?_
            refine p_X5_51 (q := 160) C (nk_5_0 hN) dX5_advance_157 rfl (fun s15 => ?_)
            refine r_locs (lc' := []) [] rfl ?_
            exact hj8 s15
          refine r_join (fun j17 => ∀  (s16 : fSt), fW Δ Γ 2 (fQ eV Δ Γ) 141 [(0, .ref (fad Δ 5 0 0)), (1, .int x4)] [.ref (fad Δ 5 0 0)] s16 (j17 s16)) ?_ (fun j17 hj17 => ?_)
          · intro s16
            refine r_iload_n (q := 142) (i := 1) (z := 1) C dX5_advance_141 rfl rfl rfl ?_
            refine r_goto (q := 147) C dX5_advance_142 (by decide) ?_
            refine r_locs (lc' := [(0, .ref (fad Δ 5 0 0))]) [0] rfl ?_
            exact hj13 x4 s16
          refine r_icmp_eq (q := 123) (tgt := 141) C dX5_advance_120 (by decide) rfl ?_ ?_
          · refine r_locs (lc' := [(0, .ref (fad Δ 5 0 0)), (1, .int x4)]) [1, 0] rfl ?_
            exact hj17 s10
          · refine r_iload_n (q := 124) (i := 1) (z := 0) C dX5_advance_123 rfl rfl rfl ?_
            refine r_bipush (q := 126) (v := 60) C dX5_advance_124 rfl (by decide) ?_
            refine r_icmp_eq (q := 129) (tgt := 141) C dX5_advance_126 (by decide) rfl ?_ ?_
            · refine r_locs (lc' := [(0, .ref (fad Δ 5 0 0)), (1, .int x4)]) [1, 0] rfl ?_
              exact hj17 s10
            · refine r_iload_n (q := 130) (i := 1) (z := 0) C dX5_advance_129 rfl rfl rfl ?_
              refine r_bipush (q := 132) (v := 62) C dX5_advance_130 rfl (by decide) ?_
              refine r_icmp_eq (q := 135) (tgt := 141) C dX5_advance_132 (by decide) rfl ?_ ?_
              · refine r_locs (lc' := [(0, .ref (fad Δ 5 0 0)), (1, .int x4)]) [1, 0] rfl ?_
                exact hj17 s10
              · refine r_iload_n (q := 136) (i := 1) (z := 0) C dX5_advance_135 rfl rfl rfl ?_
                refine r_bipush (q := 138) (v := 61) C dX5_advance_136 rfl (by decide) ?_
                refine r_icmp_ne (q := 141) (tgt := 145) C dX5_advance_138 (by decide) rfl ?_ ?_
                · refine r_bipush (q := 147) (v := 36) C dX5_advance_145 rfl (by decide) ?_
                  refine r_locs (lc' := [(0, .ref (fad Δ 5 0 0))]) [1] rfl ?_
                  exact hj13 ((36 : Int32)) s10
                · refine r_locs (lc' := [(0, .ref (fad Δ 5 0 0)), (1, .int x4)]) [1, 0] rfl ?_
                  exact hj17 s10
        · refine r_aload_n (q := 110) (i := 0) (z := 1) C dX5_advance_109 rfl rfl rfl ?_
          refine r_callVV (q := 113) (As := []) wm_X5_79 yvX5_scanNumber (c_X5_scanNumber Δ hN s10) ⟨rfl, by decide⟩ C (nk_5_0 hN) (by decide) rfl (Nat.le_of_ble_eq_true rfl) dX5_advance_110 rfl (fun _ s18 => ?_)
          refine r_goto (q := 160) C dX5_advance_113 (by decide) ?_
          refine r_locs (lc' := []) [] rfl ?_
          exact hj8 s18
      · refine r_aload_n (q := 96) (i := 0) (z := 1) C dX5_advance_95 rfl rfl rfl ?_
        refine r_callVV (q := 99) (As := []) wm_X5_73 yvX5_scanWord (c_X5_scanWord Δ hN s6) ⟨rfl, by decide⟩ C (nk_5_0 hN) (by decide) rfl (Nat.le_of_ble_eq_true rfl) dX5_advance_96 rfl (fun _ s19 => ?_)
        refine r_goto (q := 160) C dX5_advance_99 (by decide) ?_
        refine r_locs (lc' := []) [] rfl ?_
        exact hj8 s19
    · refine r_aload_n (q := 72) (i := 0) (z := 0) C dX5_advance_71 rfl rfl rfl ?_
      refine r_bipush (q := 74) (v := 35) C dX5_advance_72 rfl (by decide) ?_
      refine p_X5_66 (q := 77) C (nk_5_0 hN) dX5_advance_74 rfl (fun s20 => ?_)
      exact r_vret C dX5_advance_77
  have L0 : ∀ (n22 : Nat)  (s21 : fSt), fW Δ Γ 2 (fQ eV Δ Γ) 0 [(0, .ref (fad Δ 5 0 0))] [] s21 (f_X5_advance_L0 k2 n22 s21) := by
    intro n22
    induction n22 with
    | zero =>
      intro s21
      rw [f_X5_advance_L0]
      exact r_none
    | succ n22 ih_n22 =>
      intro s21
      rw [f_X5_advance_L0]
      refine r_aload_n (q := 1) (i := 0) (z := 0) C dX5_advance_0 rfl rfl rfl ?_
      refine g_X5_51 (q := 4) C (nk_5_0 hN) dX5_advance_1 rfl ?_
      refine r_aload_n (q := 5) (i := 0) (z := 0) C dX5_advance_4 rfl rfl rfl ?_
      refine g_X5_48 (q := 8) C (nk_5_0 hN) dX5_advance_5 rfl ?_
      refine r_icmp_ge (q := 11) (tgt := 52) C dX5_advance_8 (by decide) rfl ?_ ?_
      · exact hk2 s21
      · refine r_aload_n (q := 12) (i := 0) (z := 0) C dX5_advance_11 rfl rfl rfl ?_
        refine g_X5_9 (q := 15) C (nk_5_0 hN) dX5_advance_12 rfl ?_
        refine r_aload_n (q := 16) (i := 0) (z := 0) C dX5_advance_15 rfl rfl rfl ?_
        refine g_X5_51 (q := 19) C (nk_5_0 hN) dX5_advance_16 rfl ?_
        refine r_bal (q := 20) q_5_1 h_5_1 C (nk_5_0 hN) dX5_advance_19 rfl ?_
        refine r_bipush (q := 22) (v := 32) C dX5_advance_20 rfl (by decide) ?_
        refine r_join (fun j24 => ∀  (s23 : fSt), fW Δ Γ 2 (fQ eV Δ Γ) 39 [(0, .ref (fad Δ 5 0 0))] [] s23 (j24 s23)) ?_ (fun j24 hj24 => ?_)
        · intro s23
          refine r_aload_n (q := 40) (i := 0) (z := 0) C dX5_advance_39 rfl rfl rfl ?_
          refine r_dup (q := 41) C dX5_advance_40 rfl rfl ?_
          refine g_X5_51 (q := 44) C (nk_5_0 hN) dX5_advance_41 rfl ?_
          refine r_iconst (q := 45) (v := 1) C dX5_advance_44 rfl (by decide) ?_
          refine r_iadd (q := 46) C dX5_advance_45 rfl ?_
          refine p_X5_51 (q := 49) C (nk_5_0 hN) dX5_advance_46 rfl (fun s25 => ?_)
          refine r_goto (q := 0) C dX5_advance_49 (by decide) ?_
          exact ih_n22 s25
        refine r_icmp_eq (q := 25) (tgt := 39) C dX5_advance_22 (by decide) rfl ?_ ?_
        · exact hj24 s21
        · refine r_aload_n (q := 26) (i := 0) (z := 0) C dX5_advance_25 rfl rfl rfl ?_
          refine g_X5_9 (q := 29) C (nk_5_0 hN) dX5_advance_26 rfl ?_
          refine r_aload_n (q := 30) (i := 0) (z := 0) C dX5_advance_29 rfl rfl rfl ?_
          refine g_X5_51 (q := 33) C (nk_5_0 hN) dX5_advance_30 rfl ?_
          refine r_bal (q := 34) q_5_1 h_5_1 C (nk_5_0 hN) dX5_advance_33 rfl ?_
          refine r_bipush (q := 36) (v := 10) C dX5_advance_34 rfl (by decide) ?_
          refine r_icmp_ne (q := 39) (tgt := 52) C dX5_advance_36 (by decide) rfl ?_ ?_
          · exact hk2 s21
          · exact hj24 s21
  exact L0 fF st

noncomputable def f_X5_start (a1 : Int32) (st : fSt) : Option (Unit × fSt) :=
  fLt (sI st 5 0 3 (if ((0 : Int32)) < (if ((900 : Int32)) < a1 then ((900 : Int32)) else a1) then (if ((900 : Int32)) < a1 then ((900 : Int32)) else a1) else ((0 : Int32)))) fun s1 =>
  fLt (sI s1 5 0 2 ((0 : Int32))) fun s2 =>
  fLt (sI s2 5 0 5 ((0 : Int32))) fun s3 =>
  fLt (sI s3 5 0 10 ((0 : Int32))) fun s4 =>
  fLt (sI s4 5 0 11 ((-1 : Int32))) fun s5 =>
  fBd (f_X5_advance  s5) fun _ s6 =>
  some ((), s6)

set_option maxHeartbeats 4000000 in
set_option maxRecDepth 100000 in
theorem c_X5_start (Δ : fDl) (hN : fNx Δ) (a1 : Int32)  (st : fSt) : fMt eV Δ yX5_start cX5_start 2 none 4 [.ref (fad Δ 5 0 0), .int a1] st (f_X5_start a1 st) := by
  unfold f_X5_start
  refine r_method (by decide +kernel) (Nat.le_of_ble_eq_true rfl) (fun Γ C => ?_)
  have C : fC Δ Γ cX5_start RX5 2 none 4 := C
  refine r_locs (lc' := [(0, .ref (fad Δ 5 0 0)), (1, .int a1)]) [0, 1] rfl ?_
  refine r_aload_n (q := 1) (i := 0) (z := 0) C dX5_start_0 rfl rfl rfl ?_
  refine r_iconst (q := 2) (v := 0) C dX5_start_1 rfl (by decide) ?_
  refine r_iload_n (q := 3) (i := 1) (z := 1) C dX5_start_2 rfl rfl rfl ?_
  refine r_sipush (q := 6) (v := 900) C dX5_start_3 rfl (by decide) ?_
  refine r_min (q := 9) wk_X5_39 mw_min.1 mw_min.2.1 mw_min.2.2 C (by decide) (Nat.le_of_ble_eq_true rfl) dX5_start_6 rfl ?_
  refine r_max (q := 12) wk_X5_45 mw_max.1 mw_max.2.1 mw_max.2.2 C (by decide) (Nat.le_of_ble_eq_true rfl) dX5_start_9 rfl ?_
  refine p_X5_48 (q := 15) C (nk_5_0 hN) dX5_start_12 rfl (fun s1 => ?_)
  refine r_aload_n (q := 16) (i := 0) (z := 0) C dX5_start_15 rfl rfl rfl ?_
  refine r_iconst (q := 17) (v := 0) C dX5_start_16 rfl (by decide) ?_
  refine p_X5_35 (q := 20) C (nk_5_0 hN) dX5_start_17 rfl (fun s2 => ?_)
  refine r_aload_n (q := 21) (i := 0) (z := 0) C dX5_start_20 rfl rfl rfl ?_
  refine r_iconst (q := 22) (v := 0) C dX5_start_21 rfl (by decide) ?_
  refine p_X5_51 (q := 25) C (nk_5_0 hN) dX5_start_22 rfl (fun s3 => ?_)
  refine r_aload_n (q := 26) (i := 0) (z := 0) C dX5_start_25 rfl rfl rfl ?_
  refine r_iconst (q := 27) (v := 0) C dX5_start_26 rfl (by decide) ?_
  refine p_X5_54 (q := 30) C (nk_5_0 hN) dX5_start_27 rfl (fun s4 => ?_)
  refine r_aload_n (q := 31) (i := 0) (z := 0) C dX5_start_30 rfl rfl rfl ?_
  refine r_iconst (q := 32) (v := (-1)) C dX5_start_31 rfl (by decide) ?_
  refine p_X5_57 (q := 35) C (nk_5_0 hN) dX5_start_32 rfl (fun s5 => ?_)
  refine r_aload_n (q := 36) (i := 0) (z := 0) C dX5_start_35 rfl rfl rfl ?_
  refine r_callVV (q := 39) (As := []) wm_X5_60 yvX5_advance (c_X5_advance Δ hN s5) ⟨rfl, by decide⟩ C (nk_5_0 hN) (by decide) rfl (Nat.le_of_ble_eq_true rfl) dX5_start_36 rfl (fun _ s6 => ?_)
  exact r_vret C dX5_start_39

noncomputable def f_X5_fail (a1 : Int32) (st : fSt) : Option (Int32 × fSt) :=
  fLt (sI st 5 0 10 a1) fun s1 =>
  fLt (sI s1 5 0 11 (gI s1 5 0 4)) fun s2 =>
  some ((0 : Int32), s2)

set_option maxHeartbeats 4000000 in
set_option maxRecDepth 100000 in
theorem c_X5_fail (Δ : fDl) (hN : fNx Δ) (a1 : Int32)  (st : fSt) : fMt eI Δ yX5_fail cX5_fail 2 (some .boolean) 1 [.ref (fad Δ 5 0 0), .int a1] st (f_X5_fail a1 st) := by
  unfold f_X5_fail
  refine r_method (by decide +kernel) (Nat.le_of_ble_eq_true rfl) (fun Γ C => ?_)
  have C : fC Δ Γ cX5_fail RX5 2 (some .boolean) 1 := C
  refine r_locs (lc' := [(0, .ref (fad Δ 5 0 0)), (1, .int a1)]) [0, 1] rfl ?_
  refine r_aload_n (q := 1) (i := 0) (z := 0) C dX5_fail_0 rfl rfl rfl ?_
  refine r_iload_n (q := 2) (i := 1) (z := 1) C dX5_fail_1 rfl rfl rfl ?_
  refine p_X5_54 (q := 5) C (nk_5_0 hN) dX5_fail_2 rfl (fun s1 => ?_)
  refine r_aload_n (q := 6) (i := 0) (z := 0) C dX5_fail_5 rfl rfl rfl ?_
  refine r_aload_n (q := 7) (i := 0) (z := 0) C dX5_fail_6 rfl rfl rfl ?_
  refine g_X5_63 (q := 10) C (nk_5_0 hN) dX5_fail_7 rfl ?_
  refine p_X5_57 (q := 13) C (nk_5_0 hN) dX5_fail_10 rfl (fun s2 => ?_)
  refine r_iconst (q := 14) (v := 0) C dX5_fail_13 rfl (by decide) ?_
  exact r_zret0 (Or.inl rfl) C dX5_fail_14

noncomputable def f_X5_failHere  (st : fSt) : Option (Int32 × fSt) :=
  fJn (fun (x1 : Int32) (s2 : fSt) =>
    (fBd (f_X5_fail x1 s2) fun x4 s5 =>
    fBo x4 (some (x4, s5)))) fun (j3 : Int32 → fSt → Option (Int32 × fSt)) =>
  if ¬ (gI st 5 0 6) = ((36 : Int32)) then
    (j3 ((2 : Int32)) st)
  else
    (j3 ((1 : Int32)) st)

set_option maxHeartbeats 4000000 in
set_option maxRecDepth 100000 in
theorem c_X5_failHere (Δ : fDl) (hN : fNx Δ)   (st : fSt) : fMt eI Δ yX5_failHere cX5_failHere 1 (some .boolean) 2 [.ref (fad Δ 5 0 0)] st (f_X5_failHere  st) := by
  unfold f_X5_failHere
  refine r_method (by decide +kernel) (Nat.le_of_ble_eq_true rfl) (fun Γ C => ?_)
  have C : fC Δ Γ cX5_failHere RX5 1 (some .boolean) 2 := C
  refine r_locs (lc' := [(0, .ref (fad Δ 5 0 0))]) [0] rfl ?_
  refine r_aload_n (q := 1) (i := 0) (z := 0) C dX5_failHere_0 rfl rfl rfl ?_
  refine r_aload_n (q := 2) (i := 0) (z := 0) C dX5_failHere_1 rfl rfl rfl ?_
  refine g_X5_66 (q := 5) C (nk_5_0 hN) dX5_failHere_2 rfl ?_
  refine r_bipush (q := 7) (v := 36) C dX5_failHere_5 rfl (by decide) ?_
  refine r_join (fun j3 => ∀ (x1 : Int32) (s2 : fSt), fW Δ Γ 1 (fQ eI Δ Γ) 15 [] [.int x1, .ref (fad Δ 5 0 0)] s2 (j3 x1 s2)) ?_ (fun j3 hj3 => ?_)
  · intro x1 s2
    refine r_callVI (q := 18) (As := [.int x1]) wm_X5_93 yvX5_fail (c_X5_fail Δ hN x1 s2) ⟨rfl, by decide⟩ C (nk_5_0 hN) (by decide) rfl (Nat.le_of_ble_eq_true rfl) dX5_failHere_15 rfl (fun x4 s5 => ?_)
    exact r_zret C dX5_failHere_18
  refine r_icmp_ne (q := 10) (tgt := 14) C dX5_failHere_7 (by decide) rfl ?_ ?_
  · refine r_iconst (q := 15) (v := 2) C dX5_failHere_14 rfl (by decide) ?_
    refine r_locs (lc' := []) [] rfl ?_
    exact hj3 ((2 : Int32)) st
  · refine r_iconst (q := 11) (v := 1) C dX5_failHere_10 rfl (by decide) ?_
    refine r_goto (q := 15) C dX5_failHere_11 (by decide) ?_
    refine r_locs (lc' := []) [] rfl ?_
    exact hj3 ((1 : Int32)) st

noncomputable def f_X5_take (a1 : Int32) (st : fSt) : Option (Int32 × fSt) :=
  if (gI st 5 0 6) = a1 then
    (fBd (f_X5_advance  st) fun _ s1 =>
    some ((1 : Int32), s1))
  else
    (fBd (f_X5_failHere  st) fun x2 s3 =>
    fBo x2 (some (x2, s3)))

set_option maxHeartbeats 4000000 in
set_option maxRecDepth 100000 in
theorem c_X5_take (Δ : fDl) (hN : fNx Δ) (a1 : Int32)  (st : fSt) : fMt eI Δ yX5_take cX5_take 2 (some .boolean) 4 [.ref (fad Δ 5 0 0), .int a1] st (f_X5_take a1 st) := by
  unfold f_X5_take
  refine r_method (by decide +kernel) (Nat.le_of_ble_eq_true rfl) (fun Γ C => ?_)
  have C : fC Δ Γ cX5_take RX5 2 (some .boolean) 4 := C
  refine r_locs (lc' := [(0, .ref (fad Δ 5 0 0)), (1, .int a1)]) [0, 1] rfl ?_
  refine r_aload_n (q := 1) (i := 0) (z := 0) C dX5_take_0 rfl rfl rfl ?_
  refine g_X5_66 (q := 4) C (nk_5_0 hN) dX5_take_1 rfl ?_
  refine r_iload_n (q := 5) (i := 1) (z := 1) C dX5_take_4 rfl rfl rfl ?_
  refine r_icmp_eq (q := 8) (tgt := 13) C dX5_take_5 (by decide) rfl ?_ ?_
  · refine r_aload_n (q := 14) (i := 0) (z := 0) C dX5_take_13 rfl rfl rfl ?_
    refine r_callVV (q := 17) (As := []) wm_X5_60 yvX5_advance (c_X5_advance Δ hN st) ⟨rfl, by decide⟩ C (nk_5_0 hN) (by decide) rfl (Nat.le_of_ble_eq_true rfl) dX5_take_14 rfl (fun _ s1 => ?_)
    refine r_iconst (q := 18) (v := 1) C dX5_take_17 rfl (by decide) ?_
    exact r_zret0 (Or.inr rfl) C dX5_take_18
  · refine r_aload_n (q := 9) (i := 0) (z := 0) C dX5_take_8 rfl rfl rfl ?_
    refine r_callVI (q := 12) (As := []) wm_X5_96 yvX5_failHere (c_X5_failHere Δ hN st) ⟨rfl, by decide⟩ C (nk_5_0 hN) (by decide) rfl (Nat.le_of_ble_eq_true rfl) dX5_take_9 rfl (fun x2 s3 => ?_)
    exact r_zret C dX5_take_12

noncomputable def f_X11_isIn (a0 : Int32) (a1 : Int32) (a2 : Int32) (st : fSt) : Option (Int32 × fSt) :=
  fJn (fun (x1 : Int32) (s2 : fSt) =>
    (fBo x1 (some (x1, s2)))) fun (j3 : Int32 → fSt → Option (Int32 × fSt)) =>
  fJn (fun (s4 : fSt) =>
    (j3 ((0 : Int32)) s4)) fun (j5 : fSt → Option (Int32 × fSt)) =>
  if a0 < a1 then
    (j5 st)
  else
    (if a2 < a0 then
      (j5 st)
    else
      (j3 ((1 : Int32)) st))

set_option maxHeartbeats 4000000 in
set_option maxRecDepth 100000 in
theorem c_X11_isIn (Δ : fDl) (hN : fNx Δ) (a0 : Int32) (a1 : Int32) (a2 : Int32)  (st : fSt) : fMt eI Δ yX11_isIn cX11_isIn 3 (some .boolean) 1 [.int a0, .int a1, .int a2] st (f_X11_isIn a0 a1 a2 st) := by
  unfold f_X11_isIn
  refine r_method (by decide +kernel) (Nat.le_of_ble_eq_true rfl) (fun Γ C => ?_)
  have C : fC Δ Γ cX11_isIn RX11 3 (some .boolean) 1 := C
  refine r_locs (lc' := [(0, .int a0), (1, .int a1), (2, .int a2)]) [0, 1, 2] rfl ?_
  refine r_iload_n (q := 1) (i := 0) (z := 0) C dX11_isIn_0 rfl rfl rfl ?_
  refine r_iload_n (q := 2) (i := 1) (z := 1) C dX11_isIn_1 rfl rfl rfl ?_
  refine r_join (fun j3 => ∀ (x1 : Int32) (s2 : fSt), fW Δ Γ 3 (fQ eI Δ Γ) 15 [] [.int x1] s2 (j3 x1 s2)) ?_ (fun j3 hj3 => ?_)
  · intro x1 s2
    exact r_zret C dX11_isIn_15
  refine r_join (fun j5 => ∀  (s4 : fSt), fW Δ Γ 3 (fQ eI Δ Γ) 14 [] [] s4 (j5 s4)) ?_ (fun j5 hj5 => ?_)
  · intro s4
    refine r_iconst (q := 15) (v := 0) C dX11_isIn_14 rfl (by decide) ?_
    exact hj3 ((0 : Int32)) s4
  refine r_icmp_lt (q := 5) (tgt := 14) C dX11_isIn_2 (by decide) rfl ?_ ?_
  · refine r_locs (lc' := []) [] rfl ?_
    exact hj5 st
  · refine r_iload_n (q := 6) (i := 0) (z := 0) C dX11_isIn_5 rfl rfl rfl ?_
    refine r_iload_n (q := 7) (i := 2) (z := 2) C dX11_isIn_6 rfl rfl rfl ?_
    refine r_icmp_gt (q := 10) (tgt := 14) C dX11_isIn_7 (by decide) rfl ?_ ?_
    · refine r_locs (lc' := []) [] rfl ?_
      exact hj5 st
    · refine r_iconst (q := 11) (v := 1) C dX11_isIn_10 rfl (by decide) ?_
      refine r_goto (q := 15) C dX11_isIn_11 (by decide) ?_
      refine r_locs (lc' := []) [] rfl ?_
      exact hj3 ((1 : Int32)) st

noncomputable def f_X5_takeNumber (a1 : Int32) (a2 : Int32) (st : fSt) : Option (Int32 × fSt) :=
  if (gI st 5 0 6) = ((34 : Int32)) then
    (fBd (f_X11_isIn (gI st 5 0 8) a1 a2 st) fun x1 s2 =>
    if ¬ x1 = 0 then
      (fLt (sI s2 5 0 9 (gI s2 5 0 8)) fun s3 =>
      fBd (f_X5_advance  s3) fun _ s4 =>
      some ((1 : Int32), s4))
    else
      (fBd (f_X5_fail ((4 : Int32)) s2) fun x5 s6 =>
      fBo x5 (some (x5, s6))))
  else
    (fBd (f_X5_failHere  st) fun x7 s8 =>
    fBo x7 (some (x7, s8)))

set_option maxHeartbeats 4000000 in
set_option maxRecDepth 100000 in
theorem c_X5_takeNumber (Δ : fDl) (hN : fNx Δ) (a1 : Int32) (a2 : Int32)  (st : fSt) : fMt eI Δ yX5_takeNumber cX5_takeNumber 3 (some .boolean) 4 [.ref (fad Δ 5 0 0), .int a1, .int a2] st (f_X5_takeNumber a1 a2 st) := by
  unfold f_X5_takeNumber
  refine r_method (by decide +kernel) (Nat.le_of_ble_eq_true rfl) (fun Γ C => ?_)
  have C : fC Δ Γ cX5_takeNumber RX5 3 (some .boolean) 4 := C
  refine r_locs (lc' := [(0, .ref (fad Δ 5 0 0)), (1, .int a1), (2, .int a2)]) [0, 1, 2] rfl ?_
  refine r_aload_n (q := 1) (i := 0) (z := 0) C dX5_takeNumber_0 rfl rfl rfl ?_
  refine g_X5_66 (q := 4) C (nk_5_0 hN) dX5_takeNumber_1 rfl ?_
  refine r_bipush (q := 6) (v := 34) C dX5_takeNumber_4 rfl (by decide) ?_
  refine r_icmp_eq (q := 9) (tgt := 14) C dX5_takeNumber_6 (by decide) rfl ?_ ?_
  · refine r_aload_n (q := 15) (i := 0) (z := 0) C dX5_takeNumber_14 rfl rfl rfl ?_
    refine g_X5_90 (q := 18) C (nk_5_0 hN) dX5_takeNumber_15 rfl ?_
    refine r_iload_n (q := 19) (i := 1) (z := 1) C dX5_takeNumber_18 rfl rfl rfl ?_
    refine r_iload_n (q := 20) (i := 2) (z := 2) C dX5_takeNumber_19 rfl rfl rfl ?_
    refine r_callSNI (q := 23) (As := [.int (gI st 5 0 8), .int a1, .int a2]) wn_X5_100 ysX11_isIn (c_X11_isIn Δ hN (gI st 5 0 8) a1 a2 st) C (by decide) rfl (Nat.le_of_ble_eq_true rfl) dX5_takeNumber_20 rfl (fun x1 s2 => ?_)
    refine r_if_ne (q := 26) (tgt := 32) C dX5_takeNumber_23 (by decide) rfl ?_ ?_
    · refine r_aload_n (q := 33) (i := 0) (z := 0) C dX5_takeNumber_32 rfl rfl rfl ?_
      refine r_aload_n (q := 34) (i := 0) (z := 0) C dX5_takeNumber_33 rfl rfl rfl ?_
      refine g_X5_90 (q := 37) C (nk_5_0 hN) dX5_takeNumber_34 rfl ?_
      refine p_X5_104 (q := 40) C (nk_5_0 hN) dX5_takeNumber_37 rfl (fun s3 => ?_)
      refine r_aload_n (q := 41) (i := 0) (z := 0) C dX5_takeNumber_40 rfl rfl rfl ?_
      refine r_callVV (q := 44) (As := []) wm_X5_60 yvX5_advance (c_X5_advance Δ hN s3) ⟨rfl, by decide⟩ C (nk_5_0 hN) (by decide) rfl (Nat.le_of_ble_eq_true rfl) dX5_takeNumber_41 rfl (fun _ s4 => ?_)
      refine r_iconst (q := 45) (v := 1) C dX5_takeNumber_44 rfl (by decide) ?_
      exact r_zret0 (Or.inr rfl) C dX5_takeNumber_45
    · refine r_aload_n (q := 27) (i := 0) (z := 0) C dX5_takeNumber_26 rfl rfl rfl ?_
      refine r_iconst (q := 28) (v := 4) C dX5_takeNumber_27 rfl (by decide) ?_
      refine r_callVI (q := 31) (As := [.int ((4 : Int32))]) wm_X5_93 yvX5_fail (c_X5_fail Δ hN ((4 : Int32)) s2) ⟨rfl, by decide⟩ C (nk_5_0 hN) (by decide) rfl (Nat.le_of_ble_eq_true rfl) dX5_takeNumber_28 rfl (fun x5 s6 => ?_)
      exact r_zret C dX5_takeNumber_31
  · refine r_aload_n (q := 10) (i := 0) (z := 0) C dX5_takeNumber_9 rfl rfl rfl ?_
    refine r_callVI (q := 13) (As := []) wm_X5_96 yvX5_failHere (c_X5_failHere Δ hN st) ⟨rfl, by decide⟩ C (nk_5_0 hN) (by decide) rfl (Nat.le_of_ble_eq_true rfl) dX5_takeNumber_10 rfl (fun x7 s8 => ?_)
    exact r_zret C dX5_takeNumber_13

noncomputable def f_X5_find_L3 (c0 : Nat) (i0 : Nat) (j0 : Nat) (n0 : Nat) (a1 : Int32) (a2 : Int64) (k3 : fSt → Option (Int32 × fSt)) : Nat → Int32 → fSt → Option (Int32 × fSt)
  | 0, _, _ => none
  | n6 + 1, x4, s5 =>
      if a1 ≤ x4 then
        (k3 s5)
      else
        (if (Int32.ofNat n0) ≤ x4 then
          (k3 s5)
        else
          (fIx x4 n0 <|
          if ¬ (lg_cmp (gB s5 c0 i0 j0 x4.toNatClampNeg) a2) = 0 then
            (fLt (x4 + (1 : Int32)) fun (x7 : Int32) =>
            f_X5_find_L3 c0 i0 j0 n0 a1 a2 k3 n6 x7 s5)
          else
            (some (x4, s5))))

noncomputable def f_X5_find (c0 : Nat) (i0 : Nat) (j0 : Nat) (n0 : Nat) (a1 : Int32) (a2 : Int64) (st : fSt) : Option (Int32 × fSt) :=
  fLt ((0 : Int32)) fun (x1 : Int32) =>
  fJn (fun (s2 : fSt) =>
    (some ((-1 : Int32), s2))) fun (k3 : fSt → Option (Int32 × fSt)) =>
  f_X5_find_L3 c0 i0 j0 n0 a1 a2 k3 fF x1 st

set_option maxHeartbeats 4000000 in
set_option maxRecDepth 100000 in
theorem c_X5_find (Δ : fDl) (hN : fNx Δ) (c0 : Nat) (i0 : Nat) (j0 : Nat) (n0 : Nat) (a1 : Int32) (a2 : Int64) (hk0 : fAK c0 j0 = (3, n0)) (hj0 : c0 < 13 ∧ j0 ≠ 0 ∧ j0 ≤ fNA c0) (hi0 : i0 < fN Δ c0)  (st : fSt) : fMt eI Δ yX5_find cX5_find 5 (some .int) 1 [.ref (fad Δ c0 i0 j0), .int a1, .long a2] st (f_X5_find c0 i0 j0 n0 a1 a2 st) := by
  unfold f_X5_find
  refine r_method (by decide +kernel) (Nat.le_of_ble_eq_true rfl) (fun Γ C => ?_)
  have C : fC Δ Γ cX5_find RX5 5 (some .int) 1 := C
  refine r_locs (lc' := [(0, .ref (fad Δ c0 i0 j0)), (1, .int a1), (2, .long a2)]) [0, 1, 2] rfl ?_
  refine r_iconst (q := 1) (v := 0) C dX5_find_0 rfl (by decide) ?_
  refine r_istore (q := 3) (i := 4) [(0, .ref (fad Δ c0 i0 j0)), (1, .int a1), (2, .long a2)] C dX5_find_1 rfl (by decide) rfl (fun x1 => ?_)
  refine r_join (fun k3 => ∀  (s2 : fSt), fW Δ Γ 5 (fQ eI Δ Γ) 34 [] [] s2 (k3 s2)) ?_ (fun k3 hk3 => ?_)
  · intro s2
    refine r_iconst (q := 35) (v := (-1)) C dX5_find_34 rfl (by decide) ?_
    exact r_iret C dX5_find_35
  refine r_locs (lc' := [(0, .ref (fad Δ c0 i0 j0)), (1, .int a1), (2, .long a2), (4, .int x1)]) [1, 2, 3, 0] rfl ?_
  have L3 : ∀ (n6 : Nat) (x4 : Int32) (s5 : fSt), fW Δ Γ 5 (fQ eI Δ Γ) 3 [(0, .ref (fad Δ c0 i0 j0)), (1, .int a1), (2, .long a2), (4, .int x4)] [] s5 (f_X5_find_L3 c0 i0 j0 n0 a1 a2 k3 n6 x4 s5) := by
    intro n6
    induction n6 with
    | zero =>
      intro x4 s5
      rw [f_X5_find_L3]
      exact r_none
    | succ n6 ih_n6 =>
      intro x4 s5
      rw [f_X5_find_L3]
      refine r_iload (q := 5) (i := 4) (z := 3) C dX5_find_3 rfl rfl ?_
      refine r_iload_n (q := 6) (i := 1) (z := 1) C dX5_find_5 rfl rfl rfl ?_
      refine r_icmp_ge (q := 9) (tgt := 34) C dX5_find_6 (by decide) rfl ?_ ?_
      · refine r_locs (lc' := []) [] rfl ?_
        exact hk3 s5
      · refine r_iload (q := 11) (i := 4) (z := 3) C dX5_find_9 rfl rfl ?_
        refine r_aload_n (q := 12) (i := 0) (z := 0) C dX5_find_11 rfl rfl rfl ?_
        refine r_len (q := 13) (v := Int32.ofNat n0) hk0 (by decide) hj0 C hi0 rfl dX5_find_12 rfl ?_
        refine r_icmp_ge (q := 16) (tgt := 34) C dX5_find_13 (by decide) rfl ?_ ?_
        · refine r_locs (lc' := []) [] rfl ?_
          exact hk3 s5
        · refine r_aload_n (q := 17) (i := 0) (z := 0) C dX5_find_16 rfl rfl rfl ?_
          refine r_iload (q := 19) (i := 4) (z := 3) C dX5_find_17 rfl rfl ?_
          refine r_lal (q := 20) hk0 hj0 C hi0 dX5_find_19 rfl ?_
          refine r_lload_n (q := 21) (i := 2) (z := 2) C dX5_find_20 rfl rfl rfl ?_
          refine r_lcmp (q := 22) C dX5_find_21 rfl ?_
          refine r_if_ne (q := 25) (tgt := 28) C dX5_find_22 (by decide) rfl ?_ ?_
          · refine r_iinc (q := 31) (z := 3) (d := 1) [(0, .ref (fad Δ c0 i0 j0)), (1, .int a1), (2, .long a2)] C dX5_find_28 rfl rfl (by decide) (by decide) rfl (fun x7 => ?_)
            refine r_goto (q := 3) C dX5_find_31 (by decide) ?_
            refine r_locs (lc' := [(0, .ref (fad Δ c0 i0 j0)), (1, .int a1), (2, .long a2), (4, .int x7)]) [1, 2, 3, 0] rfl ?_
            exact ih_n6 x7 s5
          · refine r_iload (q := 27) (i := 4) (z := 3) C dX5_find_25 rfl rfl ?_
            exact r_iret C dX5_find_27
  exact L3 fF x1 st

noncomputable def f_X5_takeName (c1 : Nat) (i1 : Nat) (j1 : Nat) (n1 : Nat) (a2 : Int32) (st : fSt) : Option (Int32 × fSt) :=
  if (gI st 5 0 6) = ((32 : Int32)) then
    (fBd (f_X5_find c1 i1 j1 n1 a2 (gL st 5 0 7) st) fun x1 s2 =>
    fLt x1 fun (x3 : Int32) =>
    if ¬ x3 = ((-1 : Int32)) then
      (fLt (sI s2 5 0 9 x3) fun s4 =>
      fBd (f_X5_advance  s4) fun _ s5 =>
      some ((1 : Int32), s5))
    else
      (fBd (f_X5_fail ((3 : Int32)) s2) fun x6 s7 =>
      fBo x6 (some (x6, s7))))
  else
    (fBd (f_X5_failHere  st) fun x8 s9 =>
    fBo x8 (some (x8, s9)))

set_option maxHeartbeats 4000000 in
set_option maxRecDepth 100000 in
theorem c_X5_takeName (Δ : fDl) (hN : fNx Δ) (c1 : Nat) (i1 : Nat) (j1 : Nat) (n1 : Nat) (a2 : Int32) (hk1 : fAK c1 j1 = (3, n1)) (hj1 : c1 < 13 ∧ j1 ≠ 0 ∧ j1 ≤ fNA c1) (hi1 : i1 < fN Δ c1)  (st : fSt) : fMt eI Δ yX5_takeName cX5_takeName 4 (some .boolean) 4 [.ref (fad Δ 5 0 0), .ref (fad Δ c1 i1 j1), .int a2] st (f_X5_takeName c1 i1 j1 n1 a2 st) := by
  unfold f_X5_takeName
  refine r_method (by decide +kernel) (Nat.le_of_ble_eq_true rfl) (fun Γ C => ?_)
  have C : fC Δ Γ cX5_takeName RX5 4 (some .boolean) 4 := C
  refine r_locs (lc' := [(0, .ref (fad Δ 5 0 0)), (1, .ref (fad Δ c1 i1 j1)), (2, .int a2)]) [0, 1, 2] rfl ?_
  refine r_aload_n (q := 1) (i := 0) (z := 0) C dX5_takeName_0 rfl rfl rfl ?_
  refine g_X5_66 (q := 4) C (nk_5_0 hN) dX5_takeName_1 rfl ?_
  refine r_bipush (q := 6) (v := 32) C dX5_takeName_4 rfl (by decide) ?_
  refine r_icmp_eq (q := 9) (tgt := 14) C dX5_takeName_6 (by decide) rfl ?_ ?_
  · refine r_aload_n (q := 15) (i := 1) (z := 1) C dX5_takeName_14 rfl rfl rfl ?_
    refine r_iload_n (q := 16) (i := 2) (z := 2) C dX5_takeName_15 rfl rfl rfl ?_
    refine r_aload_n (q := 17) (i := 0) (z := 0) C dX5_takeName_16 rfl rfl rfl ?_
    refine g_X5_82 (q := 20) C (nk_5_0 hN) dX5_takeName_17 rfl ?_
    refine r_callSI (q := 23) (As := [.ref (fad Δ c1 i1 j1), .int a2, .long (gL st 5 0 7)]) wm_X5_107 ysX5_find (c_X5_find Δ hN c1 i1 j1 n1 a2 (gL st 5 0 7) hk1 hj1 hi1 st) C (by decide) rfl (Nat.le_of_ble_eq_true rfl) dX5_takeName_20 rfl (fun x1 s2 => ?_)
    refine r_istore_n (q := 24) (i := 3) [(0, .ref (fad Δ 5 0 0)), (1, .ref (fad Δ c1 i1 j1)), (2, .int a2)] C dX5_takeName_23 rfl rfl (by decide) rfl (fun x3 => ?_)
    refine r_iload_n (q := 25) (i := 3) (z := 0) C dX5_takeName_24 rfl rfl rfl ?_
    refine r_iconst (q := 26) (v := (-1)) C dX5_takeName_25 rfl (by decide) ?_
    refine r_icmp_ne (q := 29) (tgt := 35) C dX5_takeName_26 (by decide) rfl ?_ ?_
    · refine r_aload_n (q := 36) (i := 0) (z := 1) C dX5_takeName_35 rfl rfl rfl ?_
      refine r_iload_n (q := 37) (i := 3) (z := 0) C dX5_takeName_36 rfl rfl rfl ?_
      refine p_X5_104 (q := 40) C (nk_5_0 hN) dX5_takeName_37 rfl (fun s4 => ?_)
      refine r_aload_n (q := 41) (i := 0) (z := 1) C dX5_takeName_40 rfl rfl rfl ?_
      refine r_callVV (q := 44) (As := []) wm_X5_60 yvX5_advance (c_X5_advance Δ hN s4) ⟨rfl, by decide⟩ C (nk_5_0 hN) (by decide) rfl (Nat.le_of_ble_eq_true rfl) dX5_takeName_41 rfl (fun _ s5 => ?_)
      refine r_iconst (q := 45) (v := 1) C dX5_takeName_44 rfl (by decide) ?_
      exact r_zret0 (Or.inr rfl) C dX5_takeName_45
    · refine r_aload_n (q := 30) (i := 0) (z := 1) C dX5_takeName_29 rfl rfl rfl ?_
      refine r_iconst (q := 31) (v := 3) C dX5_takeName_30 rfl (by decide) ?_
      refine r_callVI (q := 34) (As := [.int ((3 : Int32))]) wm_X5_93 yvX5_fail (c_X5_fail Δ hN ((3 : Int32)) s2) ⟨rfl, by decide⟩ C (nk_5_0 hN) (by decide) rfl (Nat.le_of_ble_eq_true rfl) dX5_takeName_31 rfl (fun x6 s7 => ?_)
      exact r_zret C dX5_takeName_34
  · refine r_aload_n (q := 10) (i := 0) (z := 0) C dX5_takeName_9 rfl rfl rfl ?_
    refine r_callVI (q := 13) (As := []) wm_X5_96 yvX5_failHere (c_X5_failHere Δ hN st) ⟨rfl, by decide⟩ C (nk_5_0 hN) (by decide) rfl (Nat.le_of_ble_eq_true rfl) dX5_takeName_10 rfl (fun x8 s9 => ?_)
    exact r_zret C dX5_takeName_13

noncomputable def f_X6_add (i1 : Nat) (a2 : Int32) (a3 : Int32) (a4 : Int32) (st : fSt) : Option (Unit × fSt) :=
  fJn (fun (s1 : fSt) =>
    (some ((), s1))) fun (j2 : fSt → Option (Unit × fSt)) =>
  if ((2048 : Int32)) ≤ (gI st 6 0 2) then
    (j2 st)
  else
    (fLt (sI st 6 0 2 ((gI st 6 0 2) + ((1 : Int32)))) fun s3 =>
    fNn (gP s3 2 i1 0) fun y4 =>
    fBd (f_X7_killedIn y4 a3 s3) fun x5 s6 =>
    fIx (gI st 6 0 2) 2048 <|
    fLt (sA s6 6 0 1 (upd (gA s6 6 0 1) (gI st 6 0 2).toNatClampNeg ((a2 ||| (((1 : Int32)) <<< (a3 &&& 31))) ||| ((a4 ||| x5) <<< (((12 : Int32)) &&& 31))))) fun s7 =>
    j2 s7)

set_option maxHeartbeats 4000000 in
set_option maxRecDepth 100000 in
theorem c_X6_add (Δ : fDl) (hN : fNx Δ) (i1 : Nat) (a2 : Int32) (a3 : Int32) (a4 : Int32) (hi1 : i1 < fN Δ 2)  (st : fSt) : fMt eV Δ yX6_add cX6_add 5 none 2 [.ref (fad Δ 6 0 0), .ref (fad Δ 2 i1 0), .int a2, .int a3, .int a4] st (f_X6_add i1 a2 a3 a4 st) := by
  unfold f_X6_add
  refine r_method (by decide +kernel) (Nat.le_of_ble_eq_true rfl) (fun Γ C => ?_)
  have C : fC Δ Γ cX6_add RX6 5 none 2 := C
  refine r_locs (lc' := [(0, .ref (fad Δ 6 0 0)), (1, .ref (fad Δ 2 i1 0)), (2, .int a2), (3, .int a3), (4, .int a4)]) [0, 1, 2, 3, 4] rfl ?_
  refine r_aload_n (q := 1) (i := 0) (z := 0) C dX6_add_0 rfl rfl rfl ?_
  refine g_X6_18 (q := 4) C (nk_6_0 hN) dX6_add_1 rfl ?_
  refine r_sipush (q := 7) (v := 2048) C dX6_add_4 rfl (by decide) ?_
  refine r_join (fun j2 => ∀  (s1 : fSt), fW Δ Γ 5 (fQ eV Δ Γ) 46 [] [] s1 (j2 s1)) ?_ (fun j2 hj2 => ?_)
  · intro s1
    exact r_vret C dX6_add_46
  refine r_icmp_ge (q := 10) (tgt := 46) C dX6_add_7 (by decide) rfl ?_ ?_
  · refine r_locs (lc' := []) [] rfl ?_
    exact hj2 st
  · refine r_aload_n (q := 11) (i := 0) (z := 0) C dX6_add_10 rfl rfl rfl ?_
    refine g_X6_11 (q := 14) C (nk_6_0 hN) dX6_add_11 rfl ?_
    refine r_aload_n (q := 15) (i := 0) (z := 0) C dX6_add_14 rfl rfl rfl ?_
    refine r_dup (q := 16) C dX6_add_15 rfl rfl ?_
    refine g_X6_18 (q := 19) C (nk_6_0 hN) dX6_add_16 rfl ?_
    refine r_dup_x1 (q := 20) C dX6_add_19 rfl rfl rfl ?_
    refine r_iconst (q := 21) (v := 1) C dX6_add_20 rfl (by decide) ?_
    refine r_iadd (q := 22) C dX6_add_21 rfl ?_
    refine p_X6_18 (q := 25) C (nk_6_0 hN) dX6_add_22 rfl (fun s3 => ?_)
    refine r_iload_n (q := 26) (i := 2) (z := 2) C dX6_add_25 rfl rfl rfl ?_
    refine r_iconst (q := 27) (v := 1) C dX6_add_26 rfl (by decide) ?_
    refine r_iload_n (q := 28) (i := 3) (z := 3) C dX6_add_27 rfl rfl rfl ?_
    refine r_ishl (q := 29) C dX6_add_28 rfl ?_
    refine r_ior (q := 30) C dX6_add_29 rfl ?_
    refine r_iload (q := 32) (i := 4) (z := 4) C dX6_add_30 rfl rfl ?_
    refine r_aload_n (q := 33) (i := 1) (z := 1) C dX6_add_32 rfl rfl rfl ?_
    refine g_X6_42 (q := 36) C hi1 dX6_add_33 rfl ?_
    refine r_deref C (fun h => (h _ hi1).1) (fun y4 hy4 => ?_)
    refine r_iload_n (q := 37) (i := 3) (z := 3) C dX6_add_36 rfl rfl rfl ?_
    refine r_callVI (q := 40) (As := [.int a3]) wm_X6_46 yvX7_killedIn (c_X7_killedIn Δ hN y4 a3 hy4 s3) ⟨rfl, by decide⟩ C hy4 (by decide) rfl (Nat.le_of_ble_eq_true rfl) dX6_add_37 rfl (fun x5 s6 => ?_)
    refine r_ior (q := 41) C dX6_add_40 rfl ?_
    refine r_bipush (q := 43) (v := 12) C dX6_add_41 rfl (by decide) ?_
    refine r_ishl (q := 44) C dX6_add_43 rfl ?_
    refine r_ior (q := 45) C dX6_add_44 rfl ?_
    refine r_ast (q := 46) q_6_1 h_6_1 C (nk_6_0 hN) dX6_add_45 rfl (fun s7 => ?_)
    refine r_locs (lc' := []) [] rfl ?_
    exact hj2 s7

noncomputable def f_X6_lastOf (a0 : Int32) (st : fSt) : Option (Int32 × fSt) :=
  fBd (f_J6_numberOfTrailingZeros_0f7a4 a0 st) fun x1 s2 =>
  some (x1, s2)

set_option maxHeartbeats 4000000 in
set_option maxRecDepth 100000 in
theorem c_X6_lastOf (Δ : fDl) (hN : fNx Δ) (a0 : Int32)  (st : fSt) : fMt eI Δ yX6_lastOf cX6_lastOf 1 (some .int) 2 [.int a0] st (f_X6_lastOf a0 st) := by
  unfold f_X6_lastOf
  refine r_method (by decide +kernel) (Nat.le_of_ble_eq_true rfl) (fun Γ C => ?_)
  have C : fC Δ Γ cX6_lastOf RX6 1 (some .int) 2 := C
  refine r_locs (lc' := [(0, .int a0)]) [0] rfl ?_
  refine r_iload_n (q := 1) (i := 0) (z := 0) C dX6_lastOf_0 rfl rfl rfl ?_
  refine r_callSI (q := 4) (As := [.int a0]) wm_X6_59 ysJ6_numberOfTrailingZeros_0f7a4 (c_J6_numberOfTrailingZeros_0f7a4 Δ a0 st) C (by decide) rfl (Nat.le_of_ble_eq_true rfl) dX6_lastOf_1 rfl (fun x1 s2 => ?_)
  exact r_iret C dX6_lastOf_4

noncomputable def f_X6_goOn_L41 (i1 : Nat) (a2 : Int32) (x1 : Int32) (x2 : Int32) (x5 : Int32) : Nat → Int32 → Int32 → fSt → Option (Unit × fSt)
  | 0, _, _, _ => none
  | n12 + 1, x9, x10, s11 =>
      if ((4 : Int32)) ≤ x10 then
        (some ((), s11))
      else
        (fBd (f_X2_onward i1 x5 x10 x2 s11) fun x13 s14 =>
        fLt x13 fun (x15 : Int32) =>
        fJn (fun (x16 : Int32) (s17 : fSt) =>
          (fLt (x10 + (1 : Int32)) fun (x19 : Int32) =>
          f_X6_goOn_L41 i1 a2 x1 x2 x5 n12 x16 x19 s17)) fun (j18 : Int32 → fSt → Option (Unit × fSt)) =>
        if ¬ x15 = ((-1 : Int32)) then
          (if ¬ ((x9 >>> (x15 &&& 31)) &&& ((1 : Int32))) = 0 then
            (j18 x9 s14)
          else
            (fLt (x9 ||| (((1 : Int32)) <<< (x15 &&& 31))) fun (x20 : Int32) =>
            fBd (f_X6_add i1 x1 x15 x2 s14) fun _ s21 =>
            j18 x20 s21))
        else
          (fIx a2 2048 <|
          fIx a2 2048 <|
          fLt (sA s14 6 0 1 (upd (gA s14 6 0 1) a2.toNatClampNeg ((gA s14 6 0 1 a2.toNatClampNeg) ||| ((1048576 : Int32))))) fun s22 =>
          j18 x9 s22))

noncomputable def f_X6_goOn (i1 : Nat) (a2 : Int32) (st : fSt) : Option (Unit × fSt) :=
  fIx a2 2048 <|
  fLt ((gA st 6 0 1 a2.toNatClampNeg) &&& ((4095 : Int32))) fun (x1 : Int32) =>
  fIx a2 2048 <|
  fLt ((gA st 6 0 1 a2.toNatClampNeg) >>> (((12 : Int32)) &&& 31)) fun (x2 : Int32) =>
  fBd (f_X6_lastOf x1 st) fun x3 s4 =>
  fLt x3 fun (x5 : Int32) =>
  fLt ((0 : Int32)) fun (x6 : Int32) =>
  fIx a2 2048 <|
  fLt (sA s4 6 0 1 (upd (gA s4 6 0 1) a2.toNatClampNeg x1)) fun s7 =>
  fLt ((0 : Int32)) fun (x8 : Int32) =>
  f_X6_goOn_L41 i1 a2 x1 x2 x5 fF x6 x8 s7

set_option maxHeartbeats 4000000 in
set_option maxRecDepth 100000 in
theorem c_X6_goOn (Δ : fDl) (hN : fNx Δ) (i1 : Nat) (a2 : Int32) (hi1 : i1 < fN Δ 2)  (st : fSt) : fMt eV Δ yX6_goOn cX6_goOn 9 none 3 [.ref (fad Δ 6 0 0), .ref (fad Δ 2 i1 0), .int a2] st (f_X6_goOn i1 a2 st) := by
  unfold f_X6_goOn
  refine r_method (by decide +kernel) (Nat.le_of_ble_eq_true rfl) (fun Γ C => ?_)
  have C : fC Δ Γ cX6_goOn RX6 9 none 3 := C
  refine r_locs (lc' := [(0, .ref (fad Δ 6 0 0)), (1, .ref (fad Δ 2 i1 0)), (2, .int a2)]) [0, 1, 2] rfl ?_
  refine r_aload_n (q := 1) (i := 0) (z := 0) C dX6_goOn_0 rfl rfl rfl ?_
  refine g_X6_11 (q := 4) C (nk_6_0 hN) dX6_goOn_1 rfl ?_
  refine r_iload_n (q := 5) (i := 2) (z := 2) C dX6_goOn_4 rfl rfl rfl ?_
  refine r_ial (q := 6) q_6_1 h_6_1 C (nk_6_0 hN) dX6_goOn_5 rfl ?_
  refine r_sipush (q := 9) (v := 4095) C dX6_goOn_6 rfl (by decide) ?_
  refine r_iand (q := 10) C dX6_goOn_9 rfl ?_
  refine r_istore_n (q := 11) (i := 3) [(0, .ref (fad Δ 6 0 0)), (1, .ref (fad Δ 2 i1 0)), (2, .int a2)] C dX6_goOn_10 rfl rfl (by decide) rfl (fun x1 => ?_)
  refine r_aload_n (q := 12) (i := 0) (z := 1) C dX6_goOn_11 rfl rfl rfl ?_
  refine g_X6_11 (q := 15) C (nk_6_0 hN) dX6_goOn_12 rfl ?_
  refine r_iload_n (q := 16) (i := 2) (z := 3) C dX6_goOn_15 rfl rfl rfl ?_
  refine r_ial (q := 17) q_6_1 h_6_1 C (nk_6_0 hN) dX6_goOn_16 rfl ?_
  refine r_bipush (q := 19) (v := 12) C dX6_goOn_17 rfl (by decide) ?_
  refine r_ishr (q := 20) C dX6_goOn_19 rfl ?_
  refine r_istore (q := 22) (i := 4) [(3, .int x1), (0, .ref (fad Δ 6 0 0)), (1, .ref (fad Δ 2 i1 0)), (2, .int a2)] C dX6_goOn_20 rfl (by decide) rfl (fun x2 => ?_)
  refine r_iload_n (q := 23) (i := 3) (z := 1) C dX6_goOn_22 rfl rfl rfl ?_
  refine r_callSI (q := 26) (As := [.int x1]) wm_X6_51 ysX6_lastOf (c_X6_lastOf Δ hN x1 st) C (by decide) rfl (Nat.le_of_ble_eq_true rfl) dX6_goOn_23 rfl (fun x3 s4 => ?_)
  refine r_istore (q := 28) (i := 5) [(4, .int x2), (3, .int x1), (0, .ref (fad Δ 6 0 0)), (1, .ref (fad Δ 2 i1 0)), (2, .int a2)] C dX6_goOn_26 rfl (by decide) rfl (fun x5 => ?_)
  refine r_iconst (q := 29) (v := 0) C dX6_goOn_28 rfl (by decide) ?_
  refine r_istore (q := 31) (i := 6) [(5, .int x5), (4, .int x2), (3, .int x1), (0, .ref (fad Δ 6 0 0)), (1, .ref (fad Δ 2 i1 0)), (2, .int a2)] C dX6_goOn_29 rfl (by decide) rfl (fun x6 => ?_)
  refine r_aload_n (q := 32) (i := 0) (z := 4) C dX6_goOn_31 rfl rfl rfl ?_
  refine g_X6_11 (q := 35) C (nk_6_0 hN) dX6_goOn_32 rfl ?_
  refine r_iload_n (q := 36) (i := 2) (z := 6) C dX6_goOn_35 rfl rfl rfl ?_
  refine r_iload_n (q := 37) (i := 3) (z := 3) C dX6_goOn_36 rfl rfl rfl ?_
  refine r_ast (q := 38) q_6_1 h_6_1 C (nk_6_0 hN) dX6_goOn_37 rfl (fun s7 => ?_)
  refine r_iconst (q := 39) (v := 0) C dX6_goOn_38 rfl (by decide) ?_
  refine r_istore (q := 41) (i := 7) [(6, .int x6), (5, .int x5), (4, .int x2), (3, .int x1), (0, .ref (fad Δ 6 0 0)), (1, .ref (fad Δ 2 i1 0)), (2, .int a2)] C dX6_goOn_39 rfl (by decide) rfl (fun x8 => ?_)
  refine r_locs (lc' := [(0, .ref (fad Δ 6 0 0)), (1, .ref (fad Δ 2 i1 0)), (2, .int a2), (3, .int x1), (4, .int x2), (5, .int x5), (6, .int x6), (7, .int x8)]) [5, 6, 7, 4, 3, 2, 1, 0] rfl ?_
  have L41 : ∀ (n12 : Nat) (x9 : Int32) (x10 : Int32) (s11 : fSt), fW Δ Γ 9 (fQ eV Δ Γ) 41 [(0, .ref (fad Δ 6 0 0)), (1, .ref (fad Δ 2 i1 0)), (2, .int a2), (3, .int x1), (4, .int x2), (5, .int x5), (6, .int x9), (7, .int x10)] [] s11 (f_X6_goOn_L41 i1 a2 x1 x2 x5 n12 x9 x10 s11) := by
    intro n12
    induction n12 with
    | zero =>
      intro x9 x10 s11
      rw [f_X6_goOn_L41]
      exact r_none
    | succ n12 ih_n12 =>
      intro x9 x10 s11
      rw [f_X6_goOn_L41]
      refine r_iload (q := 43) (i := 7) (z := 7) C dX6_goOn_41 rfl rfl ?_
      refine r_iconst (q := 44) (v := 4) C dX6_goOn_43 rfl (by decide) ?_
      refine r_icmp_ge (q := 47) (tgt := 114) C dX6_goOn_44 (by decide) rfl ?_ ?_
      · exact r_vret C dX6_goOn_114
      · refine r_aload_n (q := 48) (i := 1) (z := 1) C dX6_goOn_47 rfl rfl rfl ?_
        refine r_iload (q := 50) (i := 5) (z := 5) C dX6_goOn_48 rfl rfl ?_
        refine r_iload (q := 52) (i := 7) (z := 7) C dX6_goOn_50 rfl rfl ?_
        refine r_iload (q := 54) (i := 4) (z := 4) C dX6_goOn_52 rfl rfl ?_
        refine r_callVI (q := 57) (As := [.int x5, .int x10, .int x2]) wm_X6_54 yvX2_onward (c_X2_onward Δ hN i1 x5 x10 x2 hi1 s11) ⟨rfl, by decide⟩ C hi1 (by decide) rfl (Nat.le_of_ble_eq_true rfl) dX6_goOn_54 rfl (fun x13 s14 => ?_)
        refine r_istore (q := 59) (i := 8) [(0, .ref (fad Δ 6 0 0)), (1, .ref (fad Δ 2 i1 0)), (2, .int a2), (3, .int x1), (4, .int x2), (5, .int x5), (6, .int x9), (7, .int x10)] C dX6_goOn_57 rfl (by decide) rfl (fun x15 => ?_)
        refine r_iload (q := 61) (i := 8) (z := 0) C dX6_goOn_59 rfl rfl ?_
        refine r_iconst (q := 62) (v := (-1)) C dX6_goOn_61 rfl (by decide) ?_
        refine r_join (fun j18 => ∀ (x16 : Int32) (s17 : fSt), fW Δ Γ 9 (fQ eV Δ Γ) 108 [(0, .ref (fad Δ 6 0 0)), (1, .ref (fad Δ 2 i1 0)), (2, .int a2), (3, .int x1), (4, .int x2), (5, .int x5), (6, .int x16), (7, .int x10)] [] s17 (j18 x16 s17)) ?_ (fun j18 hj18 => ?_)
        · intro x16 s17
          refine r_iinc (q := 111) (z := 7) (d := 1) [(0, .ref (fad Δ 6 0 0)), (1, .ref (fad Δ 2 i1 0)), (2, .int a2), (3, .int x1), (4, .int x2), (5, .int x5), (6, .int x16)] C dX6_goOn_108 rfl rfl (by decide) (by decide) rfl (fun x19 => ?_)
          refine r_goto (q := 41) C dX6_goOn_111 (by decide) ?_
          refine r_locs (lc' := [(0, .ref (fad Δ 6 0 0)), (1, .ref (fad Δ 2 i1 0)), (2, .int a2), (3, .int x1), (4, .int x2), (5, .int x5), (6, .int x16), (7, .int x19)]) [1, 2, 3, 4, 5, 6, 7, 0] rfl ?_
          exact ih_n12 x16 x19 s17
        refine r_icmp_ne (q := 65) (tgt := 79) C dX6_goOn_62 (by decide) rfl ?_ ?_
        · refine r_iload (q := 81) (i := 6) (z := 7) C dX6_goOn_79 rfl rfl ?_
          refine r_iload (q := 83) (i := 8) (z := 0) C dX6_goOn_81 rfl rfl ?_
          refine r_ishr (q := 84) C dX6_goOn_83 rfl ?_
          refine r_iconst (q := 85) (v := 1) C dX6_goOn_84 rfl (by decide) ?_
          refine r_iand (q := 86) C dX6_goOn_85 rfl ?_
          refine r_if_ne (q := 89) (tgt := 108) C dX6_goOn_86 (by decide) rfl ?_ ?_
          · refine r_locs (lc' := [(0, .ref (fad Δ 6 0 0)), (1, .ref (fad Δ 2 i1 0)), (2, .int a2), (3, .int x1), (4, .int x2), (5, .int x5), (6, .int x9), (7, .int x10)]) [1, 2, 3, 4, 5, 6, 7, 8] rfl ?_
            exact hj18 x9 s14
          · refine r_iload (q := 91) (i := 6) (z := 7) C dX6_goOn_89 rfl rfl ?_
            refine r_iconst (q := 92) (v := 1) C dX6_goOn_91 rfl (by decide) ?_
            refine r_iload (q := 94) (i := 8) (z := 0) C dX6_goOn_92 rfl rfl ?_
            refine r_ishl (q := 95) C dX6_goOn_94 rfl ?_
            refine r_ior (q := 96) C dX6_goOn_95 rfl ?_
            refine r_istore (q := 98) (i := 6) [(8, .int x15), (0, .ref (fad Δ 6 0 0)), (1, .ref (fad Δ 2 i1 0)), (2, .int a2), (3, .int x1), (4, .int x2), (5, .int x5), (7, .int x10)] C dX6_goOn_96 rfl (by decide) rfl (fun x20 => ?_)
            refine r_aload_n (q := 99) (i := 0) (z := 2) C dX6_goOn_98 rfl rfl rfl ?_
            refine r_aload_n (q := 100) (i := 1) (z := 3) C dX6_goOn_99 rfl rfl rfl ?_
            refine r_iload_n (q := 101) (i := 3) (z := 5) C dX6_goOn_100 rfl rfl rfl ?_
            refine r_iload (q := 103) (i := 8) (z := 1) C dX6_goOn_101 rfl rfl ?_
            refine r_iload (q := 105) (i := 4) (z := 6) C dX6_goOn_103 rfl rfl ?_
            refine r_callVV (q := 108) (As := [.ref (fad Δ 2 i1 0), .int x1, .int x15, .int x2]) wm_X6_34 yvX6_add (c_X6_add Δ hN i1 x1 x15 x2 hi1 s14) ⟨rfl, by decide⟩ C (nk_6_0 hN) (by decide) rfl (Nat.le_of_ble_eq_true rfl) dX6_goOn_105 rfl (fun _ s21 => ?_)
            refine r_locs (lc' := [(0, .ref (fad Δ 6 0 0)), (1, .ref (fad Δ 2 i1 0)), (2, .int a2), (3, .int x1), (4, .int x2), (5, .int x5), (6, .int x20), (7, .int x10)]) [2, 3, 4, 5, 6, 7, 0, 8] rfl ?_
            exact hj18 x20 s21
        · refine r_aload_n (q := 66) (i := 0) (z := 1) C dX6_goOn_65 rfl rfl rfl ?_
          refine g_X6_11 (q := 69) C (nk_6_0 hN) dX6_goOn_66 rfl ?_
          refine r_iload_n (q := 70) (i := 2) (z := 3) C dX6_goOn_69 rfl rfl rfl ?_
          refine r_dup2 (q := 71) C dX6_goOn_70 rfl rfl rfl ?_
          refine r_ial (q := 72) q_6_1 h_6_1 C (nk_6_0 hN) dX6_goOn_71 rfl ?_
          refine r_ldc (q := 74) C dX6_goOn_72 rfl wc_X6_58 ?_
          refine r_ior (q := 75) C dX6_goOn_74 rfl ?_
          refine r_ast (q := 76) q_6_1 h_6_1 C (nk_6_0 hN) dX6_goOn_75 rfl (fun s22 => ?_)
          refine r_goto (q := 108) C dX6_goOn_76 (by decide) ?_
          refine r_locs (lc' := [(0, .ref (fad Δ 6 0 0)), (1, .ref (fad Δ 2 i1 0)), (2, .int a2), (3, .int x1), (4, .int x2), (5, .int x5), (6, .int x9), (7, .int x10)]) [1, 2, 3, 4, 5, 6, 7, 8] rfl ?_
          exact hj18 x9 s22
  exact L41 fF x6 x8 s7

noncomputable def f_X6_findAll_L48 (i1 : Nat) (k13 : fSt → Option (Unit × fSt)) : Nat → Int32 → fSt → Option (Unit × fSt)
  | 0, _, _ => none
  | n16 + 1, x14, s15 =>
      if (gI s15 6 0 2) ≤ x14 then
            (k13 s15)
          else
            (if ((2048 : Int32)) ≤ x14 then
              (k13 s15)
            else
              (fBd (f_X6_goOn i1 x14 s15) fun _ s17 =>
              fLt (x14 + (1 : Int32)) fun (x18 : Int32) =>
              f_X6_findAll_L48 i1 k13 n16 x18 s17))

noncomputable def f_X6_findAll (i1 : Nat) (st : fSt) : Option (Unit × fSt) :=
  fLt (sI st 6 0 2 ((0 : Int32))) fun s1 =>
  fBd (f_X2_opening i1 (gI s1 2 i1 3) s1) fun x2 s3 =>
  fLt x2 fun (x4 : Int32) =>
  fJn (fun (x5 : Int32) (s6 : fSt) =>
    (fLt (sI s6 6 0 3 x5) fun s8 =>
    fJn (fun (s9 : fSt) =>
      (fLt ((0 : Int32)) fun (x11 : Int32) =>
      fJn (fun (s12 : fSt) =>
        (some ((), s12))) fun (k13 : fSt → Option (Unit × fSt)) =>
      f_X6_findAll_L48 i1 k13 fF x11 s9)) fun (j10 : fSt → Option (Unit × fSt)) =>
    if x4 = ((-1 : Int32)) then
      (j10 s8)
    else
      (fBd (f_X6_add i1 ((0 : Int32)) x4 (gI s8 2 i1 3) s8) fun _ s19 =>
      j10 s19))) fun (j7 : Int32 → fSt → Option (Unit × fSt)) =>
  if ¬ x4 = ((-1 : Int32)) then
    (j7 (((1 : Int32)) <<< (x4 &&& 31)) s3)
  else
    (j7 ((0 : Int32)) s3)

set_option maxHeartbeats 4000000 in
set_option maxRecDepth 100000 in
theorem c_X6_findAll (Δ : fDl) (hN : fNx Δ) (i1 : Nat) (hi1 : i1 < fN Δ 2)  (st : fSt) : fMt eV Δ yX6_findAll cX6_findAll 4 none 4 [.ref (fad Δ 6 0 0), .ref (fad Δ 2 i1 0)] st (f_X6_findAll i1 st) := by
  unfold f_X6_findAll
  refine r_method (by decide +kernel) (Nat.le_of_ble_eq_true rfl) (fun Γ C => ?_)
  have C : fC Δ Γ cX6_findAll RX6 4 none 4 := C
  refine r_locs (lc' := [(0, .ref (fad Δ 6 0 0)), (1, .ref (fad Δ 2 i1 0))]) [0, 1] rfl ?_
  refine r_aload_n (q := 1) (i := 0) (z := 0) C dX6_findAll_0 rfl rfl rfl ?_
  refine r_iconst (q := 2) (v := 0) C dX6_findAll_1 rfl (by decide) ?_
  refine p_X6_18 (q := 5) C (nk_6_0 hN) dX6_findAll_2 rfl (fun s1 => ?_)
  refine r_aload_n (q := 6) (i := 1) (z := 1) C dX6_findAll_5 rfl rfl rfl ?_
  refine r_aload_n (q := 7) (i := 1) (z := 1) C dX6_findAll_6 rfl rfl rfl ?_
  refine g_X6_22 (q := 10) C hi1 dX6_findAll_7 rfl ?_
  refine r_callVI (q := 13) (As := [.int (gI s1 2 i1 3)]) wm_X6_27 yvX2_opening (c_X2_opening Δ hN i1 (gI s1 2 i1 3) hi1 s1) ⟨rfl, by decide⟩ C hi1 (by decide) rfl (Nat.le_of_ble_eq_true rfl) dX6_findAll_10 rfl (fun x2 s3 => ?_)
  refine r_istore_n (q := 14) (i := 2) [(0, .ref (fad Δ 6 0 0)), (1, .ref (fad Δ 2 i1 0))] C dX6_findAll_13 rfl rfl (by decide) rfl (fun x4 => ?_)
  refine r_aload_n (q := 15) (i := 0) (z := 1) C dX6_findAll_14 rfl rfl rfl ?_
  refine r_iload_n (q := 16) (i := 2) (z := 0) C dX6_findAll_15 rfl rfl rfl ?_
  refine r_iconst (q := 17) (v := (-1)) C dX6_findAll_16 rfl (by decide) ?_
  refine r_join (fun j7 => ∀ (x5 : Int32) (s6 : fSt), fW Δ Γ 4 (fQ eV Δ Γ) 27 [(0, .ref (fad Δ 6 0 0)), (1, .ref (fad Δ 2 i1 0)), (2, .int x4)] [.int x5, .ref (fad Δ 6 0 0)] s6 (j7 x5 s6)) ?_ (fun j7 hj7 => ?_)
  · intro x5 s6
    refine p_X6_31 (q := 30) C (nk_6_0 hN) dX6_findAll_27 rfl (fun s8 => ?_)
    refine r_iload_n (q := 31) (i := 2) (z := 2) C dX6_findAll_30 rfl rfl rfl ?_
    refine r_iconst (q := 32) (v := (-1)) C dX6_findAll_31 rfl (by decide) ?_
    refine r_join (fun j10 => ∀  (s9 : fSt), fW Δ Γ 4 (fQ eV Δ Γ) 46 [(0, .ref (fad Δ 6 0 0)), (1, .ref (fad Δ 2 i1 0))] [] s9 (j10 s9)) ?_ (fun j10 hj10 => ?_)
    · intro s9
      refine r_iconst (q := 47) (v := 0) C dX6_findAll_46 rfl (by decide) ?_
      refine r_istore_n (q := 48) (i := 3) [(0, .ref (fad Δ 6 0 0)), (1, .ref (fad Δ 2 i1 0))] C dX6_findAll_47 rfl rfl (by decide) rfl (fun x11 => ?_)
      refine r_join (fun k13 => ∀  (s12 : fSt), fW Δ Γ 4 (fQ eV Δ Γ) 75 [] [] s12 (k13 s12)) ?_ (fun k13 hk13 => ?_)
      · intro s12
        exact r_vret C dX6_findAll_75
      refine r_locs (lc' := [(0, .ref (fad Δ 6 0 0)), (1, .ref (fad Δ 2 i1 0)), (3, .int x11)]) [1, 2, 0] rfl ?_
      have L48 : ∀ (n16 : Nat) (x14 : Int32) (s15 : fSt), fW Δ Γ 4 (fQ eV Δ Γ) 48 [(0, .ref (fad Δ 6 0 0)), (1, .ref (fad Δ 2 i1 0)), (3, .int x14)] [] s15 (f_X6_findAll_L48 i1 k13 n16 x14 s15) := by
        intro n16
        induction n16 with
        | zero =>
          intro x14 s15
          rw [f_X6_findAll_L48]
          exact r_none
        | succ n16 ih_n16 =>
          intro x14 s15
          rw [f_X6_findAll_L48]
          refine r_iload_n (q := 49) (i := 3) (z := 2) C dX6_findAll_48 rfl rfl rfl ?_
          refine r_aload_n (q := 50) (i := 0) (z := 0) C dX6_findAll_49 rfl rfl rfl ?_
          refine g_X6_18 (q := 53) C (nk_6_0 hN) dX6_findAll_50 rfl ?_
          refine r_icmp_ge (q := 56) (tgt := 75) C dX6_findAll_53 (by decide) rfl ?_ ?_
          · refine r_locs (lc' := []) [] rfl ?_
            exact hk13 s15
          · refine r_iload_n (q := 57) (i := 3) (z := 2) C dX6_findAll_56 rfl rfl rfl ?_
            refine r_sipush (q := 60) (v := 2048) C dX6_findAll_57 rfl (by decide) ?_
            refine r_icmp_ge (q := 63) (tgt := 75) C dX6_findAll_60 (by decide) rfl ?_ ?_
            · refine r_locs (lc' := []) [] rfl ?_
              exact hk13 s15
            · refine r_aload_n (q := 64) (i := 0) (z := 0) C dX6_findAll_63 rfl rfl rfl ?_
              refine r_aload_n (q := 65) (i := 1) (z := 1) C dX6_findAll_64 rfl rfl rfl ?_
              refine r_iload_n (q := 66) (i := 3) (z := 2) C dX6_findAll_65 rfl rfl rfl ?_
              refine r_callVV (q := 69) (As := [.ref (fad Δ 2 i1 0), .int x14]) wm_X6_38 yvX6_goOn (c_X6_goOn Δ hN i1 x14 hi1 s15) ⟨rfl, by decide⟩ C (nk_6_0 hN) (by decide) rfl (Nat.le_of_ble_eq_true rfl) dX6_findAll_66 rfl (fun _ s17 => ?_)
              refine r_iinc (q := 72) (z := 2) (d := 1) [(0, .ref (fad Δ 6 0 0)), (1, .ref (fad Δ 2 i1 0))] C dX6_findAll_69 rfl rfl (by decide) (by decide) rfl (fun x18 => ?_)
              refine r_goto (q := 48) C dX6_findAll_72 (by decide) ?_
              refine r_locs (lc' := [(0, .ref (fad Δ 6 0 0)), (1, .ref (fad Δ 2 i1 0)), (3, .int x18)]) [1, 2, 0] rfl ?_
              exact ih_n16 x18 s17
      exact L48 fF x11 s9
    refine r_icmp_eq (q := 35) (tgt := 46) C dX6_findAll_32 (by decide) rfl ?_ ?_
    · refine r_locs (lc' := [(0, .ref (fad Δ 6 0 0)), (1, .ref (fad Δ 2 i1 0))]) [0, 1] rfl ?_
      exact hj10 s8
    · refine r_aload_n (q := 36) (i := 0) (z := 0) C dX6_findAll_35 rfl rfl rfl ?_
      refine r_aload_n (q := 37) (i := 1) (z := 1) C dX6_findAll_36 rfl rfl rfl ?_
      refine r_iconst (q := 38) (v := 0) C dX6_findAll_37 rfl (by decide) ?_
      refine r_iload_n (q := 39) (i := 2) (z := 2) C dX6_findAll_38 rfl rfl rfl ?_
      refine r_aload_n (q := 40) (i := 1) (z := 1) C dX6_findAll_39 rfl rfl rfl ?_
      refine g_X6_22 (q := 43) C hi1 dX6_findAll_40 rfl ?_
      refine r_callVV (q := 46) (As := [.ref (fad Δ 2 i1 0), .int ((0 : Int32)), .int x4, .int (gI s8 2 i1 3)]) wm_X6_34 yvX6_add (c_X6_add Δ hN i1 ((0 : Int32)) x4 (gI s8 2 i1 3) hi1 s8) ⟨rfl, by decide⟩ C (nk_6_0 hN) (by decide) rfl (Nat.le_of_ble_eq_true rfl) dX6_findAll_43 rfl (fun _ s19 => ?_)
      refine r_locs (lc' := [(0, .ref (fad Δ 6 0 0)), (1, .ref (fad Δ 2 i1 0))]) [0, 1] rfl ?_
      exact hj10 s19
  refine r_icmp_ne (q := 20) (tgt := 24) C dX6_findAll_17 (by decide) rfl ?_ ?_
  · refine r_iconst (q := 25) (v := 1) C dX6_findAll_24 rfl (by decide) ?_
    refine r_iload_n (q := 26) (i := 2) (z := 0) C dX6_findAll_25 rfl rfl rfl ?_
    refine r_ishl (q := 27) C dX6_findAll_26 rfl ?_
    refine r_locs (lc' := [(0, .ref (fad Δ 6 0 0)), (1, .ref (fad Δ 2 i1 0)), (2, .int x4)]) [1, 2, 0] rfl ?_
    exact hj7 (((1 : Int32)) <<< (x4 &&& 31)) s3
  · refine r_iconst (q := 21) (v := 0) C dX6_findAll_20 rfl (by decide) ?_
    refine r_goto (q := 27) C dX6_findAll_21 (by decide) ?_
    refine r_locs (lc' := [(0, .ref (fad Δ 6 0 0)), (1, .ref (fad Δ 2 i1 0)), (2, .int x4)]) [1, 2, 0] rfl ?_
    exact hj7 ((0 : Int32)) s3

noncomputable def f_X6_isOver (a1 : Int32) (st : fSt) : Option (Int32 × fSt) :=
  fIx a1 2048 <|
  fJn (fun (x1 : Int32) (s2 : fSt) =>
    (fBo x1 (some (x1, s2)))) fun (j3 : Int32 → fSt → Option (Int32 × fSt)) =>
  if ((gA st 6 0 1 a1.toNatClampNeg) &&& ((1048576 : Int32))) = 0 then
    (j3 ((0 : Int32)) st)
  else
    (j3 ((1 : Int32)) st)

set_option maxHeartbeats 4000000 in
set_option maxRecDepth 100000 in
theorem c_X6_isOver (Δ : fDl) (hN : fNx Δ) (a1 : Int32)  (st : fSt) : fMt eI Δ yX6_isOver cX6_isOver 2 (some .boolean) 1 [.ref (fad Δ 6 0 0), .int a1] st (f_X6_isOver a1 st) := by
  unfold f_X6_isOver
  refine r_method (by decide +kernel) (Nat.le_of_ble_eq_true rfl) (fun Γ C => ?_)
  have C : fC Δ Γ cX6_isOver RX6 2 (some .boolean) 1 := C
  refine r_locs (lc' := [(0, .ref (fad Δ 6 0 0)), (1, .int a1)]) [0, 1] rfl ?_
  refine r_aload_n (q := 1) (i := 0) (z := 0) C dX6_isOver_0 rfl rfl rfl ?_
  refine g_X6_11 (q := 4) C (nk_6_0 hN) dX6_isOver_1 rfl ?_
  refine r_iload_n (q := 5) (i := 1) (z := 1) C dX6_isOver_4 rfl rfl rfl ?_
  refine r_ial (q := 6) q_6_1 h_6_1 C (nk_6_0 hN) dX6_isOver_5 rfl ?_
  refine r_ldc (q := 8) C dX6_isOver_6 rfl wc_X6_58 ?_
  refine r_iand (q := 9) C dX6_isOver_8 rfl ?_
  refine r_join (fun j3 => ∀ (x1 : Int32) (s2 : fSt), fW Δ Γ 2 (fQ eI Δ Γ) 17 [] [.int x1] s2 (j3 x1 s2)) ?_ (fun j3 hj3 => ?_)
  · intro x1 s2
    exact r_zret C dX6_isOver_17
  refine r_if_eq (q := 12) (tgt := 16) C dX6_isOver_9 (by decide) rfl ?_ ?_
  · refine r_iconst (q := 17) (v := 0) C dX6_isOver_16 rfl (by decide) ?_
    refine r_locs (lc' := []) [] rfl ?_
    exact hj3 ((0 : Int32)) st
  · refine r_iconst (q := 13) (v := 1) C dX6_isOver_12 rfl (by decide) ?_
    refine r_goto (q := 17) C dX6_isOver_13 (by decide) ?_
    refine r_locs (lc' := []) [] rfl ?_
    exact hj3 ((1 : Int32)) st

noncomputable def f_X6_lengthOf (a1 : Int32) (st : fSt) : Option (Int32 × fSt) :=
  fIx a1 2048 <|
  fBd (f_J6_bitCount_0f7a4 (gA st 6 0 1 a1.toNatClampNeg) st) fun x1 s2 =>
  some (x1 - ((1 : Int32)), s2)

set_option maxHeartbeats 4000000 in
set_option maxRecDepth 100000 in
theorem c_X6_lengthOf (Δ : fDl) (hN : fNx Δ) (a1 : Int32)  (st : fSt) : fMt eI Δ yX6_lengthOf cX6_lengthOf 2 (some .int) 2 [.ref (fad Δ 6 0 0), .int a1] st (f_X6_lengthOf a1 st) := by
  unfold f_X6_lengthOf
  refine r_method (by decide +kernel) (Nat.le_of_ble_eq_true rfl) (fun Γ C => ?_)
  have C : fC Δ Γ cX6_lengthOf RX6 2 (some .int) 2 := C
  refine r_locs (lc' := [(0, .ref (fad Δ 6 0 0)), (1, .int a1)]) [0, 1] rfl ?_
  refine r_aload_n (q := 1) (i := 0) (z := 0) C dX6_lengthOf_0 rfl rfl rfl ?_
  refine g_X6_11 (q := 4) C (nk_6_0 hN) dX6_lengthOf_1 rfl ?_
  refine r_iload_n (q := 5) (i := 1) (z := 1) C dX6_lengthOf_4 rfl rfl rfl ?_
  refine r_ial (q := 6) q_6_1 h_6_1 C (nk_6_0 hN) dX6_lengthOf_5 rfl ?_
  refine r_callSI (q := 9) (As := [.int (gA st 6 0 1 a1.toNatClampNeg)]) wm_X6_64 ysJ6_bitCount_0f7a4 (c_J6_bitCount_0f7a4 Δ (gA st 6 0 1 a1.toNatClampNeg) st) C (by decide) rfl (Nat.le_of_ble_eq_true rfl) dX6_lengthOf_6 rfl (fun x1 s2 => ?_)
  refine r_iconst (q := 10) (v := 1) C dX6_lengthOf_9 rfl (by decide) ?_
  refine r_isub (q := 11) C dX6_lengthOf_10 rfl ?_
  exact r_iret C dX6_lengthOf_11

noncomputable def f_X6_countOver_L4  : Nat → Int32 → Int32 → fSt → Option (Int32 × fSt)
  | 0, _, _, _ => none
  | n6 + 1, x3, x4, s5 =>
      if (gI s5 6 0 2) ≤ x4 then
        (some (x3, s5))
      else
        (fBd (f_X6_isOver x4 s5) fun x7 s8 =>
        fJn (fun (x9 : Int32) (s10 : fSt) =>
          (fLt (x3 + x9) fun (x12 : Int32) =>
          fLt (x4 + (1 : Int32)) fun (x13 : Int32) =>
          f_X6_countOver_L4 n6 x12 x13 s10)) fun (j11 : Int32 → fSt → Option (Int32 × fSt)) =>
        if x7 = 0 then
          (j11 ((0 : Int32)) s8)
        else
          (j11 ((1 : Int32)) s8))

noncomputable def f_X6_countOver  (st : fSt) : Option (Int32 × fSt) :=
  fLt ((0 : Int32)) fun (x1 : Int32) =>
  fLt ((0 : Int32)) fun (x2 : Int32) =>
  f_X6_countOver_L4 fF x1 x2 st

set_option maxHeartbeats 4000000 in
set_option maxRecDepth 100000 in
theorem c_X6_countOver (Δ : fDl) (hN : fNx Δ)   (st : fSt) : fMt eI Δ yX6_countOver cX6_countOver 3 (some .int) 2 [.ref (fad Δ 6 0 0)] st (f_X6_countOver  st) := by
  unfold f_X6_countOver
  refine r_method (by decide +kernel) (Nat.le_of_ble_eq_true rfl) (fun Γ C => ?_)
  have C : fC Δ Γ cX6_countOver RX6 3 (some .int) 2 := C
  refine r_locs (lc' := [(0, .ref (fad Δ 6 0 0))]) [0] rfl ?_
  refine r_iconst (q := 1) (v := 0) C dX6_countOver_0 rfl (by decide) ?_
  refine r_istore_n (q := 2) (i := 1) [(0, .ref (fad Δ 6 0 0))] C dX6_countOver_1 rfl rfl (by decide) rfl (fun x1 => ?_)
  refine r_iconst (q := 3) (v := 0) C dX6_countOver_2 rfl (by decide) ?_
  refine r_istore_n (q := 4) (i := 2) [(1, .int x1), (0, .ref (fad Δ 6 0 0))] C dX6_countOver_3 rfl rfl (by decide) rfl (fun x2 => ?_)
  refine r_locs (lc' := [(0, .ref (fad Δ 6 0 0)), (1, .int x1), (2, .int x2)]) [2, 1, 0] rfl ?_
  have L4 : ∀ (n6 : Nat) (x3 : Int32) (x4 : Int32) (s5 : fSt), fW Δ Γ 3 (fQ eI Δ Γ) 4 [(0, .ref (fad Δ 6 0 0)), (1, .int x3), (2, .int x4)] [] s5 (f_X6_countOver_L4 n6 x3 x4 s5) := by
    intro n6
    induction n6 with
    | zero =>
      intro x3 x4 s5
      rw [f_X6_countOver_L4]
      exact r_none
    | succ n6 ih_n6 =>
      intro x3 x4 s5
      rw [f_X6_countOver_L4]
      refine r_iload_n (q := 5) (i := 2) (z := 2) C dX6_countOver_4 rfl rfl rfl ?_
      refine r_aload_n (q := 6) (i := 0) (z := 0) C dX6_countOver_5 rfl rfl rfl ?_
      refine g_X6_18 (q := 9) C (nk_6_0 hN) dX6_countOver_6 rfl ?_
      refine r_icmp_ge (q := 12) (tgt := 34) C dX6_countOver_9 (by decide) rfl ?_ ?_
      · refine r_iload_n (q := 35) (i := 1) (z := 1) C dX6_countOver_34 rfl rfl rfl ?_
        exact r_iret C dX6_countOver_35
      · refine r_iload_n (q := 13) (i := 1) (z := 1) C dX6_countOver_12 rfl rfl rfl ?_
        refine r_aload_n (q := 14) (i := 0) (z := 0) C dX6_countOver_13 rfl rfl rfl ?_
        refine r_iload_n (q := 15) (i := 2) (z := 2) C dX6_countOver_14 rfl rfl rfl ?_
        refine r_callVI (q := 18) (As := [.int x4]) wm_X6_67 yvX6_isOver (c_X6_isOver Δ hN x4 s5) ⟨rfl, by decide⟩ C (nk_6_0 hN) (by decide) rfl (Nat.le_of_ble_eq_true rfl) dX6_countOver_15 rfl (fun x7 s8 => ?_)
        refine r_join (fun j11 => ∀ (x9 : Int32) (s10 : fSt), fW Δ Γ 3 (fQ eI Δ Γ) 26 [(0, .ref (fad Δ 6 0 0)), (2, .int x4)] [.int x9, .int x3] s10 (j11 x9 s10)) ?_ (fun j11 hj11 => ?_)
        · intro x9 s10
          refine r_iadd (q := 27) C dX6_countOver_26 rfl ?_
          refine r_istore_n (q := 28) (i := 1) [(0, .ref (fad Δ 6 0 0)), (2, .int x4)] C dX6_countOver_27 rfl rfl (by decide) rfl (fun x12 => ?_)
          refine r_iinc (q := 31) (z := 2) (d := 1) [(1, .int x12), (0, .ref (fad Δ 6 0 0))] C dX6_countOver_28 rfl rfl (by decide) (by decide) rfl (fun x13 => ?_)
          refine r_goto (q := 4) C dX6_countOver_31 (by decide) ?_
          refine r_locs (lc' := [(0, .ref (fad Δ 6 0 0)), (1, .int x12), (2, .int x13)]) [2, 1, 0] rfl ?_
          exact ih_n6 x12 x13 s10
        refine r_if_eq (q := 21) (tgt := 25) C dX6_countOver_18 (by decide) rfl ?_ ?_
        · refine r_iconst (q := 26) (v := 0) C dX6_countOver_25 rfl (by decide) ?_
          refine r_locs (lc' := [(0, .ref (fad Δ 6 0 0)), (2, .int x4)]) [0, 2] rfl ?_
          exact hj11 ((0 : Int32)) s8
        · refine r_iconst (q := 22) (v := 1) C dX6_countOver_21 rfl (by decide) ?_
          refine r_goto (q := 26) C dX6_countOver_22 (by decide) ?_
          refine r_locs (lc' := [(0, .ref (fad Δ 6 0 0)), (2, .int x4)]) [0, 2] rfl ?_
          exact hj11 ((1 : Int32)) s8
  exact L4 fF x1 x2 st

noncomputable def f_X6_longest_L4  : Nat → Int32 → Int32 → fSt → Option (Int32 × fSt)
  | 0, _, _, _ => none
  | n6 + 1, x3, x4, s5 =>
      if (gI s5 6 0 2) ≤ x4 then
        (some (x3, s5))
      else
        (fBd (f_X6_isOver x4 s5) fun x7 s8 =>
        fJn (fun (x9 : Int32) (s10 : fSt) =>
          (fLt x9 fun (x12 : Int32) =>
          fLt (x4 + (1 : Int32)) fun (x13 : Int32) =>
          f_X6_longest_L4 n6 x12 x13 s10)) fun (j11 : Int32 → fSt → Option (Int32 × fSt)) =>
        if x7 = 0 then
          (j11 x3 s8)
        else
          (fBd (f_X6_lengthOf x4 s8) fun x14 s15 =>
          j11 (if x3 < x14 then x14 else x3) s15))

noncomputable def f_X6_longest  (st : fSt) : Option (Int32 × fSt) :=
  fLt ((0 : Int32)) fun (x1 : Int32) =>
  fLt ((0 : Int32)) fun (x2 : Int32) =>
  f_X6_longest_L4 fF x1 x2 st

set_option maxHeartbeats 4000000 in
set_option maxRecDepth 100000 in
theorem c_X6_longest (Δ : fDl) (hN : fNx Δ)   (st : fSt) : fMt eI Δ yX6_longest cX6_longest 3 (some .int) 3 [.ref (fad Δ 6 0 0)] st (f_X6_longest  st) := by
  unfold f_X6_longest
  refine r_method (by decide +kernel) (Nat.le_of_ble_eq_true rfl) (fun Γ C => ?_)
  have C : fC Δ Γ cX6_longest RX6 3 (some .int) 3 := C
  refine r_locs (lc' := [(0, .ref (fad Δ 6 0 0))]) [0] rfl ?_
  refine r_iconst (q := 1) (v := 0) C dX6_longest_0 rfl (by decide) ?_
  refine r_istore_n (q := 2) (i := 1) [(0, .ref (fad Δ 6 0 0))] C dX6_longest_1 rfl rfl (by decide) rfl (fun x1 => ?_)
  refine r_iconst (q := 3) (v := 0) C dX6_longest_2 rfl (by decide) ?_
  refine r_istore_n (q := 4) (i := 2) [(1, .int x1), (0, .ref (fad Δ 6 0 0))] C dX6_longest_3 rfl rfl (by decide) rfl (fun x2 => ?_)
  refine r_locs (lc' := [(0, .ref (fad Δ 6 0 0)), (1, .int x1), (2, .int x2)]) [2, 1, 0] rfl ?_
  have L4 : ∀ (n6 : Nat) (x3 : Int32) (x4 : Int32) (s5 : fSt), fW Δ Γ 3 (fQ eI Δ Γ) 4 [(0, .ref (fad Δ 6 0 0)), (1, .int x3), (2, .int x4)] [] s5 (f_X6_longest_L4 n6 x3 x4 s5) := by
    intro n6
    induction n6 with
    | zero =>
      intro x3 x4 s5
      rw [f_X6_longest_L4]
      exact r_none
    | succ n6 ih_n6 =>
      intro x3 x4 s5
      rw [f_X6_longest_L4]
      refine r_iload_n (q := 5) (i := 2) (z := 2) C dX6_longest_4 rfl rfl rfl ?_
      refine r_aload_n (q := 6) (i := 0) (z := 0) C dX6_longest_5 rfl rfl rfl ?_
      refine g_X6_18 (q := 9) C (nk_6_0 hN) dX6_longest_6 rfl ?_
      refine r_icmp_ge (q := 12) (tgt := 40) C dX6_longest_9 (by decide) rfl ?_ ?_
      · refine r_iload_n (q := 41) (i := 1) (z := 1) C dX6_longest_40 rfl rfl rfl ?_
        exact r_iret C dX6_longest_41
      · refine r_aload_n (q := 13) (i := 0) (z := 0) C dX6_longest_12 rfl rfl rfl ?_
        refine r_iload_n (q := 14) (i := 2) (z := 2) C dX6_longest_13 rfl rfl rfl ?_
        refine r_callVI (q := 17) (As := [.int x4]) wm_X6_67 yvX6_isOver (c_X6_isOver Δ hN x4 s5) ⟨rfl, by decide⟩ C (nk_6_0 hN) (by decide) rfl (Nat.le_of_ble_eq_true rfl) dX6_longest_14 rfl (fun x7 s8 => ?_)
        refine r_join (fun j11 => ∀ (x9 : Int32) (s10 : fSt), fW Δ Γ 3 (fQ eI Δ Γ) 33 [(0, .ref (fad Δ 6 0 0)), (2, .int x4)] [.int x9] s10 (j11 x9 s10)) ?_ (fun j11 hj11 => ?_)
        · intro x9 s10
          refine r_istore_n (q := 34) (i := 1) [(0, .ref (fad Δ 6 0 0)), (2, .int x4)] C dX6_longest_33 rfl rfl (by decide) rfl (fun x12 => ?_)
          refine r_iinc (q := 37) (z := 2) (d := 1) [(1, .int x12), (0, .ref (fad Δ 6 0 0))] C dX6_longest_34 rfl rfl (by decide) (by decide) rfl (fun x13 => ?_)
          refine r_goto (q := 4) C dX6_longest_37 (by decide) ?_
          refine r_locs (lc' := [(0, .ref (fad Δ 6 0 0)), (1, .int x12), (2, .int x13)]) [2, 1, 0] rfl ?_
          exact ih_n6 x12 x13 s10
        refine r_if_eq (q := 20) (tgt := 32) C dX6_longest_17 (by decide) rfl ?_ ?_
        · refine r_iload_n (q := 33) (i := 1) (z := 1) C dX6_longest_32 rfl rfl rfl ?_
          refine r_locs (lc' := [(0, .ref (fad Δ 6 0 0)), (2, .int x4)]) [0, 2] rfl ?_
          exact hj11 x3 s8
        · refine r_iload_n (q := 21) (i := 1) (z := 1) C dX6_longest_20 rfl rfl rfl ?_
          refine r_aload_n (q := 22) (i := 0) (z := 0) C dX6_longest_21 rfl rfl rfl ?_
          refine r_iload_n (q := 23) (i := 2) (z := 2) C dX6_longest_22 rfl rfl rfl ?_
          refine r_callVI (q := 26) (As := [.int x4]) wm_X6_71 yvX6_lengthOf (c_X6_lengthOf Δ hN x4 s8) ⟨rfl, by decide⟩ C (nk_6_0 hN) (by decide) rfl (Nat.le_of_ble_eq_true rfl) dX6_longest_23 rfl (fun x14 s15 => ?_)
          refine r_max (q := 29) wk_X6_74 mw_max.1 mw_max.2.1 mw_max.2.2 C (by decide) (Nat.le_of_ble_eq_true rfl) dX6_longest_26 rfl ?_
          refine r_goto (q := 33) C dX6_longest_29 (by decide) ?_
          refine r_locs (lc' := [(0, .ref (fad Δ 6 0 0)), (2, .int x4)]) [0, 2] rfl ?_
          exact hj11 (if x3 < x14 then x14 else x3) s15
  exact L4 fF x1 x2 st

noncomputable def f_X6_shortest_L5  : Nat → Int32 → Int32 → fSt → Option (Int32 × fSt)
  | 0, _, _, _ => none
  | n6 + 1, x3, x4, s5 =>
      if (gI s5 6 0 2) ≤ x4 then
        (some (x3, s5))
      else
        (fBd (f_X6_isOver x4 s5) fun x7 s8 =>
        fJn (fun (x9 : Int32) (s10 : fSt) =>
          (fLt x9 fun (x12 : Int32) =>
          fLt (x4 + (1 : Int32)) fun (x13 : Int32) =>
          f_X6_shortest_L5 n6 x12 x13 s10)) fun (j11 : Int32 → fSt → Option (Int32 × fSt)) =>
        if x7 = 0 then
          (j11 x3 s8)
        else
          (fBd (f_X6_lengthOf x4 s8) fun x14 s15 =>
          j11 (if x14 < x3 then x14 else x3) s15))

noncomputable def f_X6_shortest  (st : fSt) : Option (Int32 × fSt) :=
  fLt ((12 : Int32)) fun (x1 : Int32) =>
  fLt ((0 : Int32)) fun (x2 : Int32) =>
  f_X6_shortest_L5 fF x1 x2 st

set_option maxHeartbeats 4000000 in
set_option maxRecDepth 100000 in
theorem c_X6_shortest (Δ : fDl) (hN : fNx Δ)   (st : fSt) : fMt eI Δ yX6_shortest cX6_shortest 3 (some .int) 3 [.ref (fad Δ 6 0 0)] st (f_X6_shortest  st) := by
  unfold f_X6_shortest
  refine r_method (by decide +kernel) (Nat.le_of_ble_eq_true rfl) (fun Γ C => ?_)
  have C : fC Δ Γ cX6_shortest RX6 3 (some .int) 3 := C
  refine r_locs (lc' := [(0, .ref (fad Δ 6 0 0))]) [0] rfl ?_
  refine r_bipush (q := 2) (v := 12) C dX6_shortest_0 rfl (by decide) ?_
  refine r_istore_n (q := 3) (i := 1) [(0, .ref (fad Δ 6 0 0))] C dX6_shortest_2 rfl rfl (by decide) rfl (fun x1 => ?_)
  refine r_iconst (q := 4) (v := 0) C dX6_shortest_3 rfl (by decide) ?_
  refine r_istore_n (q := 5) (i := 2) [(1, .int x1), (0, .ref (fad Δ 6 0 0))] C dX6_shortest_4 rfl rfl (by decide) rfl (fun x2 => ?_)
  refine r_locs (lc' := [(0, .ref (fad Δ 6 0 0)), (1, .int x1), (2, .int x2)]) [2, 1, 0] rfl ?_
  have L5 : ∀ (n6 : Nat) (x3 : Int32) (x4 : Int32) (s5 : fSt), fW Δ Γ 3 (fQ eI Δ Γ) 5 [(0, .ref (fad Δ 6 0 0)), (1, .int x3), (2, .int x4)] [] s5 (f_X6_shortest_L5 n6 x3 x4 s5) := by
    intro n6
    induction n6 with
    | zero =>
      intro x3 x4 s5
      rw [f_X6_shortest_L5]
      exact r_none
    | succ n6 ih_n6 =>
      intro x3 x4 s5
      rw [f_X6_shortest_L5]
      refine r_iload_n (q := 6) (i := 2) (z := 2) C dX6_shortest_5 rfl rfl rfl ?_
      refine r_aload_n (q := 7) (i := 0) (z := 0) C dX6_shortest_6 rfl rfl rfl ?_
      refine g_X6_18 (q := 10) C (nk_6_0 hN) dX6_shortest_7 rfl ?_
      refine r_icmp_ge (q := 13) (tgt := 41) C dX6_shortest_10 (by decide) rfl ?_ ?_
      · refine r_iload_n (q := 42) (i := 1) (z := 1) C dX6_shortest_41 rfl rfl rfl ?_
        exact r_iret C dX6_shortest_42
      · refine r_aload_n (q := 14) (i := 0) (z := 0) C dX6_shortest_13 rfl rfl rfl ?_
        refine r_iload_n (q := 15) (i := 2) (z := 2) C dX6_shortest_14 rfl rfl rfl ?_
        refine r_callVI (q := 18) (As := [.int x4]) wm_X6_67 yvX6_isOver (c_X6_isOver Δ hN x4 s5) ⟨rfl, by decide⟩ C (nk_6_0 hN) (by decide) rfl (Nat.le_of_ble_eq_true rfl) dX6_shortest_15 rfl (fun x7 s8 => ?_)
        refine r_join (fun j11 => ∀ (x9 : Int32) (s10 : fSt), fW Δ Γ 3 (fQ eI Δ Γ) 34 [(0, .ref (fad Δ 6 0 0)), (2, .int x4)] [.int x9] s10 (j11 x9 s10)) ?_ (fun j11 hj11 => ?_)
        · intro x9 s10
          refine r_istore_n (q := 35) (i := 1) [(0, .ref (fad Δ 6 0 0)), (2, .int x4)] C dX6_shortest_34 rfl rfl (by decide) rfl (fun x12 => ?_)
          refine r_iinc (q := 38) (z := 2) (d := 1) [(1, .int x12), (0, .ref (fad Δ 6 0 0))] C dX6_shortest_35 rfl rfl (by decide) (by decide) rfl (fun x13 => ?_)
          refine r_goto (q := 5) C dX6_shortest_38 (by decide) ?_
          refine r_locs (lc' := [(0, .ref (fad Δ 6 0 0)), (1, .int x12), (2, .int x13)]) [2, 1, 0] rfl ?_
          exact ih_n6 x12 x13 s10
        refine r_if_eq (q := 21) (tgt := 33) C dX6_shortest_18 (by decide) rfl ?_ ?_
        · refine r_iload_n (q := 34) (i := 1) (z := 1) C dX6_shortest_33 rfl rfl rfl ?_
          refine r_locs (lc' := [(0, .ref (fad Δ 6 0 0)), (2, .int x4)]) [0, 2] rfl ?_
          exact hj11 x3 s8
        · refine r_iload_n (q := 22) (i := 1) (z := 1) C dX6_shortest_21 rfl rfl rfl ?_
          refine r_aload_n (q := 23) (i := 0) (z := 0) C dX6_shortest_22 rfl rfl rfl ?_
          refine r_iload_n (q := 24) (i := 2) (z := 2) C dX6_shortest_23 rfl rfl rfl ?_
          refine r_callVI (q := 27) (As := [.int x4]) wm_X6_71 yvX6_lengthOf (c_X6_lengthOf Δ hN x4 s8) ⟨rfl, by decide⟩ C (nk_6_0 hN) (by decide) rfl (Nat.le_of_ble_eq_true rfl) dX6_shortest_24 rfl (fun x14 s15 => ?_)
          refine r_min (q := 30) wk_X6_80 mw_min.1 mw_min.2.1 mw_min.2.2 C (by decide) (Nat.le_of_ble_eq_true rfl) dX6_shortest_27 rfl ?_
          refine r_goto (q := 34) C dX6_shortest_30 (by decide) ?_
          refine r_locs (lc' := [(0, .ref (fad Δ 6 0 0)), (2, .int x4)]) [0, 2] rfl ?_
          exact hj11 (if x14 < x3 then x14 else x3) s15
  exact L5 fF x1 x2 st

noncomputable def f_X6_canSee_L4  : Nat → Int32 → Int32 → fSt → Option (Int32 × fSt)
  | 0, _, _, _ => none
  | n6 + 1, x3, x4, s5 =>
      if (gI s5 6 0 2) ≤ x4 then
        (some (x3 &&& ((4095 : Int32)), s5))
      else
        (fIx x4 2048 <|
        fLt (x3 ||| (gA s5 6 0 1 x4.toNatClampNeg)) fun (x7 : Int32) =>
        fLt (x4 + (1 : Int32)) fun (x8 : Int32) =>
        f_X6_canSee_L4 n6 x7 x8 s5)

noncomputable def f_X6_canSee  (st : fSt) : Option (Int32 × fSt) :=
  fLt ((0 : Int32)) fun (x1 : Int32) =>
  fLt ((0 : Int32)) fun (x2 : Int32) =>
  f_X6_canSee_L4 fF x1 x2 st

set_option maxHeartbeats 4000000 in
set_option maxRecDepth 100000 in
theorem c_X6_canSee (Δ : fDl) (hN : fNx Δ)   (st : fSt) : fMt eI Δ yX6_canSee cX6_canSee 3 (some .int) 1 [.ref (fad Δ 6 0 0)] st (f_X6_canSee  st) := by
  unfold f_X6_canSee
  refine r_method (by decide +kernel) (Nat.le_of_ble_eq_true rfl) (fun Γ C => ?_)
  have C : fC Δ Γ cX6_canSee RX6 3 (some .int) 1 := C
  refine r_locs (lc' := [(0, .ref (fad Δ 6 0 0))]) [0] rfl ?_
  refine r_iconst (q := 1) (v := 0) C dX6_canSee_0 rfl (by decide) ?_
  refine r_istore_n (q := 2) (i := 1) [(0, .ref (fad Δ 6 0 0))] C dX6_canSee_1 rfl rfl (by decide) rfl (fun x1 => ?_)
  refine r_iconst (q := 3) (v := 0) C dX6_canSee_2 rfl (by decide) ?_
  refine r_istore_n (q := 4) (i := 2) [(1, .int x1), (0, .ref (fad Δ 6 0 0))] C dX6_canSee_3 rfl rfl (by decide) rfl (fun x2 => ?_)
  refine r_locs (lc' := [(0, .ref (fad Δ 6 0 0)), (1, .int x1), (2, .int x2)]) [2, 1, 0] rfl ?_
  have L4 : ∀ (n6 : Nat) (x3 : Int32) (x4 : Int32) (s5 : fSt), fW Δ Γ 3 (fQ eI Δ Γ) 4 [(0, .ref (fad Δ 6 0 0)), (1, .int x3), (2, .int x4)] [] s5 (f_X6_canSee_L4 n6 x3 x4 s5) := by
    intro n6
    induction n6 with
    | zero =>
      intro x3 x4 s5
      rw [f_X6_canSee_L4]
      exact r_none
    | succ n6 ih_n6 =>
      intro x3 x4 s5
      rw [f_X6_canSee_L4]
      refine r_iload_n (q := 5) (i := 2) (z := 2) C dX6_canSee_4 rfl rfl rfl ?_
      refine r_aload_n (q := 6) (i := 0) (z := 0) C dX6_canSee_5 rfl rfl rfl ?_
      refine g_X6_18 (q := 9) C (nk_6_0 hN) dX6_canSee_6 rfl ?_
      refine r_icmp_ge (q := 12) (tgt := 27) C dX6_canSee_9 (by decide) rfl ?_ ?_
      · refine r_iload_n (q := 28) (i := 1) (z := 1) C dX6_canSee_27 rfl rfl rfl ?_
        refine r_sipush (q := 31) (v := 4095) C dX6_canSee_28 rfl (by decide) ?_
        refine r_iand (q := 32) C dX6_canSee_31 rfl ?_
        exact r_iret C dX6_canSee_32
      · refine r_iload_n (q := 13) (i := 1) (z := 1) C dX6_canSee_12 rfl rfl rfl ?_
        refine r_aload_n (q := 14) (i := 0) (z := 0) C dX6_canSee_13 rfl rfl rfl ?_
        refine g_X6_11 (q := 17) C (nk_6_0 hN) dX6_canSee_14 rfl ?_
        refine r_iload_n (q := 18) (i := 2) (z := 2) C dX6_canSee_17 rfl rfl rfl ?_
        refine r_ial (q := 19) q_6_1 h_6_1 C (nk_6_0 hN) dX6_canSee_18 rfl ?_
        refine r_ior (q := 20) C dX6_canSee_19 rfl ?_
        refine r_istore_n (q := 21) (i := 1) [(0, .ref (fad Δ 6 0 0)), (2, .int x4)] C dX6_canSee_20 rfl rfl (by decide) rfl (fun x7 => ?_)
        refine r_iinc (q := 24) (z := 2) (d := 1) [(1, .int x7), (0, .ref (fad Δ 6 0 0))] C dX6_canSee_21 rfl rfl (by decide) (by decide) rfl (fun x8 => ?_)
        refine r_goto (q := 4) C dX6_canSee_24 (by decide) ?_
        refine r_locs (lc' := [(0, .ref (fad Δ 6 0 0)), (1, .int x7), (2, .int x8)]) [2, 1, 0] rfl ?_
        exact ih_n6 x7 x8 s5
  exact L4 fF x1 x2 st

noncomputable def f_X6_endingsBy_L5 (i1 : Nat) (a2 : Int32) : Nat → Int32 → Int32 → fSt → Option (Int32 × fSt)
  | 0, _, _, _ => none
  | n6 + 1, x3, x4, s5 =>
      if (gI s5 6 0 2) ≤ x4 then
        (some (x3, s5))
      else
        (fBd (f_X6_isOver x4 s5) fun x7 s8 =>
        fJn (fun (x9 : Int32) (s10 : fSt) =>
          (fLt (x4 + (1 : Int32)) fun (x12 : Int32) =>
          f_X6_endingsBy_L5 i1 a2 n6 x9 x12 s10)) fun (j11 : Int32 → fSt → Option (Int32 × fSt)) =>
        if x7 = 0 then
          (j11 x3 s8)
        else
          (fIx x4 2048 <|
          if ((gA s8 6 0 1 x4.toNatClampNeg) &&& a2) = 0 then
            (j11 x3 s8)
          else
            (fIx x4 2048 <|
            fBd (f_X6_lastOf (gA s8 6 0 1 x4.toNatClampNeg) s8) fun x13 s14 =>
            fBd (f_X7_endSlot i1 x13 s14) fun x15 s16 =>
            fLt (x3 ||| (((1 : Int32)) <<< (x15 &&& 31))) fun (x17 : Int32) =>
            j11 x17 s16)))

noncomputable def f_X6_endingsBy (i1 : Nat) (a2 : Int32) (st : fSt) : Option (Int32 × fSt) :=
  fLt ((0 : Int32)) fun (x1 : Int32) =>
  fLt ((0 : Int32)) fun (x2 : Int32) =>
  f_X6_endingsBy_L5 i1 a2 fF x1 x2 st

set_option maxHeartbeats 4000000 in
set_option maxRecDepth 100000 in
theorem c_X6_endingsBy (Δ : fDl) (hN : fNx Δ) (i1 : Nat) (a2 : Int32) (hi1 : i1 < fN Δ 7)  (st : fSt) : fMt eI Δ yX6_endingsBy cX6_endingsBy 5 (some .int) 3 [.ref (fad Δ 6 0 0), .ref (fad Δ 7 i1 0), .int a2] st (f_X6_endingsBy i1 a2 st) := by
  unfold f_X6_endingsBy
  refine r_method (by decide +kernel) (Nat.le_of_ble_eq_true rfl) (fun Γ C => ?_)
  have C : fC Δ Γ cX6_endingsBy RX6 5 (some .int) 3 := C
  refine r_locs (lc' := [(0, .ref (fad Δ 6 0 0)), (1, .ref (fad Δ 7 i1 0)), (2, .int a2)]) [0, 1, 2] rfl ?_
  refine r_iconst (q := 1) (v := 0) C dX6_endingsBy_0 rfl (by decide) ?_
  refine r_istore_n (q := 2) (i := 3) [(0, .ref (fad Δ 6 0 0)), (1, .ref (fad Δ 7 i1 0)), (2, .int a2)] C dX6_endingsBy_1 rfl rfl (by decide) rfl (fun x1 => ?_)
  refine r_iconst (q := 3) (v := 0) C dX6_endingsBy_2 rfl (by decide) ?_
  refine r_istore (q := 5) (i := 4) [(3, .int x1), (0, .ref (fad Δ 6 0 0)), (1, .ref (fad Δ 7 i1 0)), (2, .int a2)] C dX6_endingsBy_3 rfl (by decide) rfl (fun x2 => ?_)
  refine r_locs (lc' := [(0, .ref (fad Δ 6 0 0)), (1, .ref (fad Δ 7 i1 0)), (2, .int a2), (3, .int x1), (4, .int x2)]) [2, 3, 4, 1, 0] rfl ?_
  have L5 : ∀ (n6 : Nat) (x3 : Int32) (x4 : Int32) (s5 : fSt), fW Δ Γ 5 (fQ eI Δ Γ) 5 [(0, .ref (fad Δ 6 0 0)), (1, .ref (fad Δ 7 i1 0)), (2, .int a2), (3, .int x3), (4, .int x4)] [] s5 (f_X6_endingsBy_L5 i1 a2 n6 x3 x4 s5) := by
    intro n6
    induction n6 with
    | zero =>
      intro x3 x4 s5
      rw [f_X6_endingsBy_L5]
      exact r_none
    | succ n6 ih_n6 =>
      intro x3 x4 s5
      rw [f_X6_endingsBy_L5]
      refine r_iload (q := 7) (i := 4) (z := 4) C dX6_endingsBy_5 rfl rfl ?_
      refine r_aload_n (q := 8) (i := 0) (z := 0) C dX6_endingsBy_7 rfl rfl rfl ?_
      refine g_X6_18 (q := 11) C (nk_6_0 hN) dX6_endingsBy_8 rfl ?_
      refine r_icmp_ge (q := 14) (tgt := 60) C dX6_endingsBy_11 (by decide) rfl ?_ ?_
      · refine r_iload_n (q := 61) (i := 3) (z := 3) C dX6_endingsBy_60 rfl rfl rfl ?_
        exact r_iret C dX6_endingsBy_61
      · refine r_aload_n (q := 15) (i := 0) (z := 0) C dX6_endingsBy_14 rfl rfl rfl ?_
        refine r_iload (q := 17) (i := 4) (z := 4) C dX6_endingsBy_15 rfl rfl ?_
        refine r_callVI (q := 20) (As := [.int x4]) wm_X6_67 yvX6_isOver (c_X6_isOver Δ hN x4 s5) ⟨rfl, by decide⟩ C (nk_6_0 hN) (by decide) rfl (Nat.le_of_ble_eq_true rfl) dX6_endingsBy_17 rfl (fun x7 s8 => ?_)
        refine r_join (fun j11 => ∀ (x9 : Int32) (s10 : fSt), fW Δ Γ 5 (fQ eI Δ Γ) 54 [(0, .ref (fad Δ 6 0 0)), (1, .ref (fad Δ 7 i1 0)), (2, .int a2), (3, .int x9), (4, .int x4)] [] s10 (j11 x9 s10)) ?_ (fun j11 hj11 => ?_)
        · intro x9 s10
          refine r_iinc (q := 57) (z := 4) (d := 1) [(0, .ref (fad Δ 6 0 0)), (1, .ref (fad Δ 7 i1 0)), (2, .int a2), (3, .int x9)] C dX6_endingsBy_54 rfl rfl (by decide) (by decide) rfl (fun x12 => ?_)
          refine r_goto (q := 5) C dX6_endingsBy_57 (by decide) ?_
          refine r_locs (lc' := [(0, .ref (fad Δ 6 0 0)), (1, .ref (fad Δ 7 i1 0)), (2, .int a2), (3, .int x9), (4, .int x12)]) [1, 2, 3, 4, 0] rfl ?_
          exact ih_n6 x9 x12 s10
        refine r_if_eq (q := 23) (tgt := 54) C dX6_endingsBy_20 (by decide) rfl ?_ ?_
        · exact hj11 x3 s8
        · refine r_aload_n (q := 24) (i := 0) (z := 0) C dX6_endingsBy_23 rfl rfl rfl ?_
          refine g_X6_11 (q := 27) C (nk_6_0 hN) dX6_endingsBy_24 rfl ?_
          refine r_iload (q := 29) (i := 4) (z := 4) C dX6_endingsBy_27 rfl rfl ?_
          refine r_ial (q := 30) q_6_1 h_6_1 C (nk_6_0 hN) dX6_endingsBy_29 rfl ?_
          refine r_iload_n (q := 31) (i := 2) (z := 2) C dX6_endingsBy_30 rfl rfl rfl ?_
          refine r_iand (q := 32) C dX6_endingsBy_31 rfl ?_
          refine r_if_eq (q := 35) (tgt := 54) C dX6_endingsBy_32 (by decide) rfl ?_ ?_
          · exact hj11 x3 s8
          · refine r_iload_n (q := 36) (i := 3) (z := 3) C dX6_endingsBy_35 rfl rfl rfl ?_
            refine r_iconst (q := 37) (v := 1) C dX6_endingsBy_36 rfl (by decide) ?_
            refine r_aload_n (q := 38) (i := 1) (z := 1) C dX6_endingsBy_37 rfl rfl rfl ?_
            refine r_aload_n (q := 39) (i := 0) (z := 0) C dX6_endingsBy_38 rfl rfl rfl ?_
            refine g_X6_11 (q := 42) C (nk_6_0 hN) dX6_endingsBy_39 rfl ?_
            refine r_iload (q := 44) (i := 4) (z := 4) C dX6_endingsBy_42 rfl rfl ?_
            refine r_ial (q := 45) q_6_1 h_6_1 C (nk_6_0 hN) dX6_endingsBy_44 rfl ?_
            refine r_callSI (q := 48) (As := [.int (gA s8 6 0 1 x4.toNatClampNeg)]) wm_X6_51 ysX6_lastOf (c_X6_lastOf Δ hN (gA s8 6 0 1 x4.toNatClampNeg) s8) C (by decide) rfl (Nat.le_of_ble_eq_true rfl) dX6_endingsBy_45 rfl (fun x13 s14 => ?_)
            refine r_callVI (q := 51) (As := [.int x13]) wm_X6_83 yvX7_endSlot (c_X7_endSlot Δ hN i1 x13 hi1 s14) ⟨rfl, by decide⟩ C hi1 (by decide) rfl (Nat.le_of_ble_eq_true rfl) dX6_endingsBy_48 rfl (fun x15 s16 => ?_)
            refine r_ishl (q := 52) C dX6_endingsBy_51 rfl ?_
            refine r_ior (q := 53) C dX6_endingsBy_52 rfl ?_
            refine r_istore_n (q := 54) (i := 3) [(0, .ref (fad Δ 6 0 0)), (1, .ref (fad Δ 7 i1 0)), (2, .int a2), (4, .int x4)] C dX6_endingsBy_53 rfl rfl (by decide) rfl (fun x17 => ?_)
            refine r_locs (lc' := [(0, .ref (fad Δ 6 0 0)), (1, .ref (fad Δ 7 i1 0)), (2, .int a2), (3, .int x17), (4, .int x4)]) [1, 2, 3, 0, 4] rfl ?_
            exact hj11 x17 s16
  exact L5 fF x1 x2 st

noncomputable def f_X6_endsAt (i1 : Nat) (a2 : Int32) (a3 : Int32) (st : fSt) : Option (Int32 × fSt) :=
  fBd (f_X6_isOver a2 st) fun x1 s2 =>
  fJn (fun (x3 : Int32) (s4 : fSt) =>
    (fBo x3 (some (x3, s4)))) fun (j5 : Int32 → fSt → Option (Int32 × fSt)) =>
  fJn (fun (s6 : fSt) =>
    (j5 ((0 : Int32)) s6)) fun (j7 : fSt → Option (Int32 × fSt)) =>
  if x1 = 0 then
    (j7 s2)
  else
    (fIx a2 2048 <|
    fBd (f_X6_lastOf (gA s2 6 0 1 a2.toNatClampNeg) s2) fun x8 s9 =>
    fBd (f_X7_endSlot i1 x8 s9) fun x10 s11 =>
    if ¬ x10 = a3 then
      (j7 s11)
    else
      (j5 ((1 : Int32)) s11))

set_option maxHeartbeats 4000000 in
set_option maxRecDepth 100000 in
theorem c_X6_endsAt (Δ : fDl) (hN : fNx Δ) (i1 : Nat) (a2 : Int32) (a3 : Int32) (hi1 : i1 < fN Δ 7)  (st : fSt) : fMt eI Δ yX6_endsAt cX6_endsAt 4 (some .boolean) 3 [.ref (fad Δ 6 0 0), .ref (fad Δ 7 i1 0), .int a2, .int a3] st (f_X6_endsAt i1 a2 a3 st) := by
  unfold f_X6_endsAt
  refine r_method (by decide +kernel) (Nat.le_of_ble_eq_true rfl) (fun Γ C => ?_)
  have C : fC Δ Γ cX6_endsAt RX6 4 (some .boolean) 3 := C
  refine r_locs (lc' := [(0, .ref (fad Δ 6 0 0)), (1, .ref (fad Δ 7 i1 0)), (2, .int a2), (3, .int a3)]) [0, 1, 2, 3] rfl ?_
  refine r_aload_n (q := 1) (i := 0) (z := 0) C dX6_endsAt_0 rfl rfl rfl ?_
  refine r_iload_n (q := 2) (i := 2) (z := 2) C dX6_endsAt_1 rfl rfl rfl ?_
  refine r_callVI (q := 5) (As := [.int a2]) wm_X6_67 yvX6_isOver (c_X6_isOver Δ hN a2 st) ⟨rfl, by decide⟩ C (nk_6_0 hN) (by decide) rfl (Nat.le_of_ble_eq_true rfl) dX6_endsAt_2 rfl (fun x1 s2 => ?_)
  refine r_join (fun j5 => ∀ (x3 : Int32) (s4 : fSt), fW Δ Γ 4 (fQ eI Δ Γ) 30 [] [.int x3] s4 (j5 x3 s4)) ?_ (fun j5 hj5 => ?_)
  · intro x3 s4
    exact r_zret C dX6_endsAt_30
  refine r_join (fun j7 => ∀  (s6 : fSt), fW Δ Γ 4 (fQ eI Δ Γ) 29 [] [] s6 (j7 s6)) ?_ (fun j7 hj7 => ?_)
  · intro s6
    refine r_iconst (q := 30) (v := 0) C dX6_endsAt_29 rfl (by decide) ?_
    exact hj5 ((0 : Int32)) s6
  refine r_if_eq (q := 8) (tgt := 29) C dX6_endsAt_5 (by decide) rfl ?_ ?_
  · refine r_locs (lc' := []) [] rfl ?_
    exact hj7 s2
  · refine r_aload_n (q := 9) (i := 1) (z := 1) C dX6_endsAt_8 rfl rfl rfl ?_
    refine r_aload_n (q := 10) (i := 0) (z := 0) C dX6_endsAt_9 rfl rfl rfl ?_
    refine g_X6_11 (q := 13) C (nk_6_0 hN) dX6_endsAt_10 rfl ?_
    refine r_iload_n (q := 14) (i := 2) (z := 2) C dX6_endsAt_13 rfl rfl rfl ?_
    refine r_ial (q := 15) q_6_1 h_6_1 C (nk_6_0 hN) dX6_endsAt_14 rfl ?_
    refine r_callSI (q := 18) (As := [.int (gA s2 6 0 1 a2.toNatClampNeg)]) wm_X6_51 ysX6_lastOf (c_X6_lastOf Δ hN (gA s2 6 0 1 a2.toNatClampNeg) s2) C (by decide) rfl (Nat.le_of_ble_eq_true rfl) dX6_endsAt_15 rfl (fun x8 s9 => ?_)
    refine r_callVI (q := 21) (As := [.int x8]) wm_X6_83 yvX7_endSlot (c_X7_endSlot Δ hN i1 x8 hi1 s9) ⟨rfl, by decide⟩ C hi1 (by decide) rfl (Nat.le_of_ble_eq_true rfl) dX6_endsAt_18 rfl (fun x10 s11 => ?_)
    refine r_iload_n (q := 22) (i := 3) (z := 3) C dX6_endsAt_21 rfl rfl rfl ?_
    refine r_icmp_ne (q := 25) (tgt := 29) C dX6_endsAt_22 (by decide) rfl ?_ ?_
    · refine r_locs (lc' := []) [] rfl ?_
      exact hj7 s11
    · refine r_iconst (q := 26) (v := 1) C dX6_endsAt_25 rfl (by decide) ?_
      refine r_goto (q := 30) C dX6_endsAt_26 (by decide) ?_
      refine r_locs (lc' := []) [] rfl ?_
      exact hj5 ((1 : Int32)) s11

noncomputable def f_X6_shortestTo_L5 (i1 : Nat) (a2 : Int32) : Nat → Int32 → Int32 → fSt → Option (Int32 × fSt)
  | 0, _, _, _ => none
  | n6 + 1, x3, x4, s5 =>
      if (gI s5 6 0 2) ≤ x4 then
        (some (x3, s5))
      else
        (fBd (f_X6_endsAt i1 x4 a2 s5) fun x7 s8 =>
        fJn (fun (x9 : Int32) (s10 : fSt) =>
          (fLt (x4 + (1 : Int32)) fun (x12 : Int32) =>
          f_X6_shortestTo_L5 i1 a2 n6 x9 x12 s10)) fun (j11 : Int32 → fSt → Option (Int32 × fSt)) =>
        if x7 = 0 then
          (j11 x3 s8)
        else
          (fJn (fun (s13 : fSt) =>
            (fBd (f_X6_lengthOf x4 s13) fun x15 s16 =>
            fLt x15 fun (x17 : Int32) =>
            j11 x17 s16)) fun (j14 : fSt → Option (Int32 × fSt)) =>
          if x3 = 0 then
            (j14 s8)
          else
            (fBd (f_X6_lengthOf x4 s8) fun x18 s19 =>
            if x3 ≤ x18 then
              (j11 x3 s19)
            else
              (j14 s19))))

noncomputable def f_X6_shortestTo (i1 : Nat) (a2 : Int32) (st : fSt) : Option (Int32 × fSt) :=
  fLt ((0 : Int32)) fun (x1 : Int32) =>
  fLt ((0 : Int32)) fun (x2 : Int32) =>
  f_X6_shortestTo_L5 i1 a2 fF x1 x2 st

set_option maxHeartbeats 4000000 in
set_option maxRecDepth 100000 in
theorem c_X6_shortestTo (Δ : fDl) (hN : fNx Δ) (i1 : Nat) (a2 : Int32) (hi1 : i1 < fN Δ 7)  (st : fSt) : fMt eI Δ yX6_shortestTo cX6_shortestTo 5 (some .int) 4 [.ref (fad Δ 6 0 0), .ref (fad Δ 7 i1 0), .int a2] st (f_X6_shortestTo i1 a2 st) := by
  unfold f_X6_shortestTo
  refine r_method (by decide +kernel) (Nat.le_of_ble_eq_true rfl) (fun Γ C => ?_)
  have C : fC Δ Γ cX6_shortestTo RX6 5 (some .int) 4 := C
  refine r_locs (lc' := [(0, .ref (fad Δ 6 0 0)), (1, .ref (fad Δ 7 i1 0)), (2, .int a2)]) [0, 1, 2] rfl ?_
  refine r_iconst (q := 1) (v := 0) C dX6_shortestTo_0 rfl (by decide) ?_
  refine r_istore_n (q := 2) (i := 3) [(0, .ref (fad Δ 6 0 0)), (1, .ref (fad Δ 7 i1 0)), (2, .int a2)] C dX6_shortestTo_1 rfl rfl (by decide) rfl (fun x1 => ?_)
  refine r_iconst (q := 3) (v := 0) C dX6_shortestTo_2 rfl (by decide) ?_
  refine r_istore (q := 5) (i := 4) [(3, .int x1), (0, .ref (fad Δ 6 0 0)), (1, .ref (fad Δ 7 i1 0)), (2, .int a2)] C dX6_shortestTo_3 rfl (by decide) rfl (fun x2 => ?_)
  refine r_locs (lc' := [(0, .ref (fad Δ 6 0 0)), (1, .ref (fad Δ 7 i1 0)), (2, .int a2), (3, .int x1), (4, .int x2)]) [2, 3, 4, 1, 0] rfl ?_
  have L5 : ∀ (n6 : Nat) (x3 : Int32) (x4 : Int32) (s5 : fSt), fW Δ Γ 5 (fQ eI Δ Γ) 5 [(0, .ref (fad Δ 6 0 0)), (1, .ref (fad Δ 7 i1 0)), (2, .int a2), (3, .int x3), (4, .int x4)] [] s5 (f_X6_shortestTo_L5 i1 a2 n6 x3 x4 s5) := by
    intro n6
    induction n6 with
    | zero =>
      intro x3 x4 s5
      rw [f_X6_shortestTo_L5]
      exact r_none
    | succ n6 ih_n6 =>
      intro x3 x4 s5
      rw [f_X6_shortestTo_L5]
      refine r_iload (q := 7) (i := 4) (z := 4) C dX6_shortestTo_5 rfl rfl ?_
      refine r_aload_n (q := 8) (i := 0) (z := 0) C dX6_shortestTo_7 rfl rfl rfl ?_
      refine g_X6_18 (q := 11) C (nk_6_0 hN) dX6_shortestTo_8 rfl ?_
      refine r_icmp_ge (q := 14) (tgt := 52) C dX6_shortestTo_11 (by decide) rfl ?_ ?_
      · refine r_iload_n (q := 53) (i := 3) (z := 3) C dX6_shortestTo_52 rfl rfl rfl ?_
        exact r_iret C dX6_shortestTo_53
      · refine r_aload_n (q := 15) (i := 0) (z := 0) C dX6_shortestTo_14 rfl rfl rfl ?_
        refine r_aload_n (q := 16) (i := 1) (z := 1) C dX6_shortestTo_15 rfl rfl rfl ?_
        refine r_iload (q := 18) (i := 4) (z := 4) C dX6_shortestTo_16 rfl rfl ?_
        refine r_iload_n (q := 19) (i := 2) (z := 2) C dX6_shortestTo_18 rfl rfl rfl ?_
        refine r_callVI (q := 22) (As := [.ref (fad Δ 7 i1 0), .int x4, .int a2]) wm_X6_86 yvX6_endsAt (c_X6_endsAt Δ hN i1 x4 a2 hi1 s5) ⟨rfl, by decide⟩ C (nk_6_0 hN) (by decide) rfl (Nat.le_of_ble_eq_true rfl) dX6_shortestTo_19 rfl (fun x7 s8 => ?_)
        refine r_join (fun j11 => ∀ (x9 : Int32) (s10 : fSt), fW Δ Γ 5 (fQ eI Δ Γ) 46 [(0, .ref (fad Δ 6 0 0)), (1, .ref (fad Δ 7 i1 0)), (2, .int a2), (3, .int x9), (4, .int x4)] [] s10 (j11 x9 s10)) ?_ (fun j11 hj11 => ?_)
        · intro x9 s10
          refine r_iinc (q := 49) (z := 4) (d := 1) [(0, .ref (fad Δ 6 0 0)), (1, .ref (fad Δ 7 i1 0)), (2, .int a2), (3, .int x9)] C dX6_shortestTo_46 rfl rfl (by decide) (by decide) rfl (fun x12 => ?_)
          refine r_goto (q := 5) C dX6_shortestTo_49 (by decide) ?_
          refine r_locs (lc' := [(0, .ref (fad Δ 6 0 0)), (1, .ref (fad Δ 7 i1 0)), (2, .int a2), (3, .int x9), (4, .int x12)]) [1, 2, 3, 4, 0] rfl ?_
          exact ih_n6 x9 x12 s10
        refine r_if_eq (q := 25) (tgt := 46) C dX6_shortestTo_22 (by decide) rfl ?_ ?_
        · exact hj11 x3 s8
        · refine r_iload_n (q := 26) (i := 3) (z := 3) C dX6_shortestTo_25 rfl rfl rfl ?_
          refine r_join (fun j14 => ∀  (s13 : fSt), fW Δ Γ 5 (fQ eI Δ Γ) 39 [(0, .ref (fad Δ 6 0 0)), (1, .ref (fad Δ 7 i1 0)), (2, .int a2), (4, .int x4)] [] s13 (j14 s13)) ?_ (fun j14 hj14 => ?_)
          · intro s13
            refine r_aload_n (q := 40) (i := 0) (z := 0) C dX6_shortestTo_39 rfl rfl rfl ?_
            refine r_iload (q := 42) (i := 4) (z := 3) C dX6_shortestTo_40 rfl rfl ?_
            refine r_callVI (q := 45) (As := [.int x4]) wm_X6_71 yvX6_lengthOf (c_X6_lengthOf Δ hN x4 s13) ⟨rfl, by decide⟩ C (nk_6_0 hN) (by decide) rfl (Nat.le_of_ble_eq_true rfl) dX6_shortestTo_42 rfl (fun x15 s16 => ?_)
            refine r_istore_n (q := 46) (i := 3) [(0, .ref (fad Δ 6 0 0)), (1, .ref (fad Δ 7 i1 0)), (2, .int a2), (4, .int x4)] C dX6_shortestTo_45 rfl rfl (by decide) rfl (fun x17 => ?_)
            refine r_locs (lc' := [(0, .ref (fad Δ 6 0 0)), (1, .ref (fad Δ 7 i1 0)), (2, .int a2), (3, .int x17), (4, .int x4)]) [1, 2, 3, 0, 4] rfl ?_
            exact hj11 x17 s16
          refine r_if_eq (q := 29) (tgt := 39) C dX6_shortestTo_26 (by decide) rfl ?_ ?_
          · refine r_locs (lc' := [(0, .ref (fad Δ 6 0 0)), (1, .ref (fad Δ 7 i1 0)), (2, .int a2), (4, .int x4)]) [0, 1, 2, 4] rfl ?_
            exact hj14 s8
          · refine r_aload_n (q := 30) (i := 0) (z := 0) C dX6_shortestTo_29 rfl rfl rfl ?_
            refine r_iload (q := 32) (i := 4) (z := 4) C dX6_shortestTo_30 rfl rfl ?_
            refine r_callVI (q := 35) (As := [.int x4]) wm_X6_71 yvX6_lengthOf (c_X6_lengthOf Δ hN x4 s8) ⟨rfl, by decide⟩ C (nk_6_0 hN) (by decide) rfl (Nat.le_of_ble_eq_true rfl) dX6_shortestTo_32 rfl (fun x18 s19 => ?_)
            refine r_iload_n (q := 36) (i := 3) (z := 3) C dX6_shortestTo_35 rfl rfl rfl ?_
            refine r_icmp_ge (q := 39) (tgt := 46) C dX6_shortestTo_36 (by decide) rfl ?_ ?_
            · exact hj11 x3 s19
            · refine r_locs (lc' := [(0, .ref (fad Δ 6 0 0)), (1, .ref (fad Δ 7 i1 0)), (2, .int a2), (4, .int x4)]) [0, 1, 2, 4] rfl ?_
              exact hj14 s19
  exact L5 fF x1 x2 st

noncomputable def f_X6_someGoesBy_L9 (i1 : Nat) (a2 : Int32) (a3 : Int32) (a4 : Int32) (x3 : Int32) : Nat → Int32 → fSt → Option (Int32 × fSt)
  | 0, _, _ => none
  | n7 + 1, x5, s6 =>
      if (gI s6 6 0 2) ≤ x5 then
        (some ((0 : Int32), s6))
      else
        (fIx x5 2048 <|
        fJn (fun (x8 : Int32) (s9 : fSt) =>
          (fLt x8 fun (x11 : Int32) =>
          fJn (fun (s12 : fSt) =>
            (fLt (x5 + (1 : Int32)) fun (x14 : Int32) =>
            f_X6_someGoesBy_L9 i1 a2 a3 a4 x3 n7 x14 s12)) fun (j13 : fSt → Option (Int32 × fSt)) =>
          if x11 = 0 then
            (j13 s9)
          else
            (fBd (f_X6_endsAt i1 x5 a3 s9) fun x15 s16 =>
            if x15 = 0 then
              (j13 s16)
            else
              (fBd (f_X6_lengthOf x5 s16) fun x17 s18 =>
              if ¬ x17 = a4 then
                (j13 s18)
              else
                (some ((1 : Int32), s18)))))) fun (j10 : Int32 → fSt → Option (Int32 × fSt)) =>
        if ¬ (((gA s6 6 0 1 x5.toNatClampNeg) &&& ((4095 : Int32))) >>> (x3 &&& 31)) = (a2 >>> (x3 &&& 31)) then
          (j10 ((0 : Int32)) s6)
        else
          (j10 ((1 : Int32)) s6))

noncomputable def f_X6_someGoesBy (i1 : Nat) (a2 : Int32) (a3 : Int32) (a4 : Int32) (st : fSt) : Option (Int32 × fSt) :=
  fBd (f_X6_lastOf a2 st) fun x1 s2 =>
  fLt x1 fun (x3 : Int32) =>
  fLt ((0 : Int32)) fun (x4 : Int32) =>
  f_X6_someGoesBy_L9 i1 a2 a3 a4 x3 fF x4 s2

set_option maxHeartbeats 4000000 in
set_option maxRecDepth 100000 in
theorem c_X6_someGoesBy (Δ : fDl) (hN : fNx Δ) (i1 : Nat) (a2 : Int32) (a3 : Int32) (a4 : Int32) (hi1 : i1 < fN Δ 7)  (st : fSt) : fMt eI Δ yX6_someGoesBy cX6_someGoesBy 8 (some .boolean) 4 [.ref (fad Δ 6 0 0), .ref (fad Δ 7 i1 0), .int a2, .int a3, .int a4] st (f_X6_someGoesBy i1 a2 a3 a4 st) := by
  unfold f_X6_someGoesBy
  refine r_method (by decide +kernel) (Nat.le_of_ble_eq_true rfl) (fun Γ C => ?_)
  have C : fC Δ Γ cX6_someGoesBy RX6 8 (some .boolean) 4 := C
  refine r_locs (lc' := [(0, .ref (fad Δ 6 0 0)), (1, .ref (fad Δ 7 i1 0)), (2, .int a2), (3, .int a3), (4, .int a4)]) [0, 1, 2, 3, 4] rfl ?_
  refine r_iload_n (q := 1) (i := 2) (z := 2) C dX6_someGoesBy_0 rfl rfl rfl ?_
  refine r_callSI (q := 4) (As := [.int a2]) wm_X6_51 ysX6_lastOf (c_X6_lastOf Δ hN a2 st) C (by decide) rfl (Nat.le_of_ble_eq_true rfl) dX6_someGoesBy_1 rfl (fun x1 s2 => ?_)
  refine r_istore (q := 6) (i := 5) [(0, .ref (fad Δ 6 0 0)), (1, .ref (fad Δ 7 i1 0)), (2, .int a2), (3, .int a3), (4, .int a4)] C dX6_someGoesBy_4 rfl (by decide) rfl (fun x3 => ?_)
  refine r_iconst (q := 7) (v := 0) C dX6_someGoesBy_6 rfl (by decide) ?_
  refine r_istore (q := 9) (i := 6) [(5, .int x3), (0, .ref (fad Δ 6 0 0)), (1, .ref (fad Δ 7 i1 0)), (2, .int a2), (3, .int a3), (4, .int a4)] C dX6_someGoesBy_7 rfl (by decide) rfl (fun x4 => ?_)
  refine r_locs (lc' := [(0, .ref (fad Δ 6 0 0)), (1, .ref (fad Δ 7 i1 0)), (2, .int a2), (3, .int a3), (4, .int a4), (5, .int x3), (6, .int x4)]) [2, 3, 4, 5, 6, 1, 0] rfl ?_
  have L9 : ∀ (n7 : Nat) (x5 : Int32) (s6 : fSt), fW Δ Γ 8 (fQ eI Δ Γ) 9 [(0, .ref (fad Δ 6 0 0)), (1, .ref (fad Δ 7 i1 0)), (2, .int a2), (3, .int a3), (4, .int a4), (5, .int x3), (6, .int x5)] [] s6 (f_X6_someGoesBy_L9 i1 a2 a3 a4 x3 n7 x5 s6) := by
    intro n7
    induction n7 with
    | zero =>
      intro x5 s6
      rw [f_X6_someGoesBy_L9]
      exact r_none
    | succ n7 ih_n7 =>
      intro x5 s6
      rw [f_X6_someGoesBy_L9]
      refine r_iload (q := 11) (i := 6) (z := 6) C dX6_someGoesBy_9 rfl rfl ?_
      refine r_aload_n (q := 12) (i := 0) (z := 0) C dX6_someGoesBy_11 rfl rfl rfl ?_
      refine g_X6_18 (q := 15) C (nk_6_0 hN) dX6_someGoesBy_12 rfl ?_
      refine r_icmp_ge (q := 18) (tgt := 81) C dX6_someGoesBy_15 (by decide) rfl ?_ ?_
      · refine r_iconst (q := 82) (v := 0) C dX6_someGoesBy_81 rfl (by decide) ?_
        exact r_zret0 (Or.inl rfl) C dX6_someGoesBy_82
      · refine r_aload_n (q := 19) (i := 0) (z := 0) C dX6_someGoesBy_18 rfl rfl rfl ?_
        refine g_X6_11 (q := 22) C (nk_6_0 hN) dX6_someGoesBy_19 rfl ?_
        refine r_iload (q := 24) (i := 6) (z := 6) C dX6_someGoesBy_22 rfl rfl ?_
        refine r_ial (q := 25) q_6_1 h_6_1 C (nk_6_0 hN) dX6_someGoesBy_24 rfl ?_
        refine r_sipush (q := 28) (v := 4095) C dX6_someGoesBy_25 rfl (by decide) ?_
        refine r_iand (q := 29) C dX6_someGoesBy_28 rfl ?_
        refine r_iload (q := 31) (i := 5) (z := 5) C dX6_someGoesBy_29 rfl rfl ?_
        refine r_ishr (q := 32) C dX6_someGoesBy_31 rfl ?_
        refine r_iload_n (q := 33) (i := 2) (z := 2) C dX6_someGoesBy_32 rfl rfl rfl ?_
        refine r_iload (q := 35) (i := 5) (z := 5) C dX6_someGoesBy_33 rfl rfl ?_
        refine r_ishr (q := 36) C dX6_someGoesBy_35 rfl ?_
        refine r_join (fun j10 => ∀ (x8 : Int32) (s9 : fSt), fW Δ Γ 8 (fQ eI Δ Γ) 44 [(0, .ref (fad Δ 6 0 0)), (1, .ref (fad Δ 7 i1 0)), (2, .int a2), (3, .int a3), (4, .int a4), (5, .int x3), (6, .int x5)] [.int x8] s9 (j10 x8 s9)) ?_ (fun j10 hj10 => ?_)
        · intro x8 s9
          refine r_istore (q := 46) (i := 7) [(0, .ref (fad Δ 6 0 0)), (1, .ref (fad Δ 7 i1 0)), (2, .int a2), (3, .int a3), (4, .int a4), (5, .int x3), (6, .int x5)] C dX6_someGoesBy_44 rfl (by decide) rfl (fun x11 => ?_)
          refine r_iload (q := 48) (i := 7) (z := 0) C dX6_someGoesBy_46 rfl rfl ?_
          refine r_join (fun j13 => ∀  (s12 : fSt), fW Δ Γ 8 (fQ eI Δ Γ) 75 [(0, .ref (fad Δ 6 0 0)), (1, .ref (fad Δ 7 i1 0)), (2, .int a2), (3, .int a3), (4, .int a4), (5, .int x3), (6, .int x5)] [] s12 (j13 s12)) ?_ (fun j13 hj13 => ?_)
          · intro s12
            refine r_iinc (q := 78) (z := 6) (d := 1) [(0, .ref (fad Δ 6 0 0)), (1, .ref (fad Δ 7 i1 0)), (2, .int a2), (3, .int a3), (4, .int a4), (5, .int x3)] C dX6_someGoesBy_75 rfl rfl (by decide) (by decide) rfl (fun x14 => ?_)
            refine r_goto (q := 9) C dX6_someGoesBy_78 (by decide) ?_
            refine r_locs (lc' := [(0, .ref (fad Δ 6 0 0)), (1, .ref (fad Δ 7 i1 0)), (2, .int a2), (3, .int a3), (4, .int a4), (5, .int x3), (6, .int x14)]) [1, 2, 3, 4, 5, 6, 0] rfl ?_
            exact ih_n7 x14 s12
          refine r_if_eq (q := 51) (tgt := 75) C dX6_someGoesBy_48 (by decide) rfl ?_ ?_
          · refine r_locs (lc' := [(0, .ref (fad Δ 6 0 0)), (1, .ref (fad Δ 7 i1 0)), (2, .int a2), (3, .int a3), (4, .int a4), (5, .int x3), (6, .int x5)]) [1, 2, 3, 4, 5, 6, 7] rfl ?_
            exact hj13 s9
          · refine r_aload_n (q := 52) (i := 0) (z := 1) C dX6_someGoesBy_51 rfl rfl rfl ?_
            refine r_aload_n (q := 53) (i := 1) (z := 2) C dX6_someGoesBy_52 rfl rfl rfl ?_
            refine r_iload (q := 55) (i := 6) (z := 7) C dX6_someGoesBy_53 rfl rfl ?_
            refine r_iload_n (q := 56) (i := 3) (z := 4) C dX6_someGoesBy_55 rfl rfl rfl ?_
            refine r_callVI (q := 59) (As := [.ref (fad Δ 7 i1 0), .int x5, .int a3]) wm_X6_86 yvX6_endsAt (c_X6_endsAt Δ hN i1 x5 a3 hi1 s9) ⟨rfl, by decide⟩ C (nk_6_0 hN) (by decide) rfl (Nat.le_of_ble_eq_true rfl) dX6_someGoesBy_56 rfl (fun x15 s16 => ?_)
            refine r_if_eq (q := 62) (tgt := 75) C dX6_someGoesBy_59 (by decide) rfl ?_ ?_
            · refine r_locs (lc' := [(0, .ref (fad Δ 6 0 0)), (1, .ref (fad Δ 7 i1 0)), (2, .int a2), (3, .int a3), (4, .int a4), (5, .int x3), (6, .int x5)]) [1, 2, 3, 4, 5, 6, 7] rfl ?_
              exact hj13 s16
            · refine r_aload_n (q := 63) (i := 0) (z := 1) C dX6_someGoesBy_62 rfl rfl rfl ?_
              refine r_iload (q := 65) (i := 6) (z := 7) C dX6_someGoesBy_63 rfl rfl ?_
              refine r_callVI (q := 68) (As := [.int x5]) wm_X6_71 yvX6_lengthOf (c_X6_lengthOf Δ hN x5 s16) ⟨rfl, by decide⟩ C (nk_6_0 hN) (by decide) rfl (Nat.le_of_ble_eq_true rfl) dX6_someGoesBy_65 rfl (fun x17 s18 => ?_)
              refine r_iload (q := 70) (i := 4) (z := 5) C dX6_someGoesBy_68 rfl rfl ?_
              refine r_icmp_ne (q := 73) (tgt := 75) C dX6_someGoesBy_70 (by decide) rfl ?_ ?_
              · refine r_locs (lc' := [(0, .ref (fad Δ 6 0 0)), (1, .ref (fad Δ 7 i1 0)), (2, .int a2), (3, .int a3), (4, .int a4), (5, .int x3), (6, .int x5)]) [1, 2, 3, 4, 5, 6, 7] rfl ?_
                exact hj13 s18
              · refine r_iconst (q := 74) (v := 1) C dX6_someGoesBy_73 rfl (by decide) ?_
                exact r_zret0 (Or.inr rfl) C dX6_someGoesBy_74
        refine r_icmp_ne (q := 39) (tgt := 43) C dX6_someGoesBy_36 (by decide) rfl ?_ ?_
        · refine r_iconst (q := 44) (v := 0) C dX6_someGoesBy_43 rfl (by decide) ?_
          exact hj10 ((0 : Int32)) s6
        · refine r_iconst (q := 40) (v := 1) C dX6_someGoesBy_39 rfl (by decide) ?_
          refine r_goto (q := 44) C dX6_someGoesBy_40 (by decide) ?_
          exact hj10 ((1 : Int32)) s6
  exact L9 fF x4 s2

noncomputable def f_X6_steerTo_L53 (i1 : Nat) (a2 : Int32) (a3 : Int32) (x6 : Int32) (x8 : Int32) (x13 : Int32) (x17 : Int32) (k21 : Int32 → fSt → Option (Unit × fSt)) (k26 : Int32 → Int32 → fSt → Option (Unit × fSt)) : Nat → Int32 → fSt → Option (Unit × fSt)
  | 0, _, _ => none
  | n34 + 1, x32, s33 =>
      if ((4 : Int32)) ≤ x32 then
                (k21 x6 s33)
              else
                (fBd (f_X2_onward i1 x13 x32 x17 s33) fun x35 s36 =>
                fLt x35 fun (x37 : Int32) =>
                fJn (fun (x38 : Int32) (s39 : fSt) =>
                  (fLt x38 fun (x41 : Int32) =>
                  if x41 = 0 then
                    (fLt (x32 + (1 : Int32)) fun (x42 : Int32) =>
                    f_X6_steerTo_L53 i1 a2 a3 x6 x8 x13 x17 k21 k26 n34 x42 s39)
                  else
                    (k26 x32 x37 s39))) fun (j40 : Int32 → fSt → Option (Unit × fSt)) =>
                if ¬ (x8 + ((1 : Int32))) = a3 then
                  (fJn (fun (s43 : fSt) =>
                    (j40 ((0 : Int32)) s43)) fun (j44 : fSt → Option (Unit × fSt)) =>
                  if x37 = ((-1 : Int32)) then
                    (j44 s36)
                  else
                    (fNn (gP s36 2 i1 0) fun y45 =>
                    fBd (f_X6_someGoesBy y45 (x6 ||| (((1 : Int32)) <<< (x37 &&& 31))) a2 a3 s36) fun x46 s47 =>
                    if x46 = 0 then
                      (j44 s47)
                    else
                      (j40 ((1 : Int32)) s47)))
                else
                  (if ¬ x37 = ((-1 : Int32)) then
                    (j40 ((0 : Int32)) s36)
                  else
                    (j40 ((1 : Int32)) s36)))

noncomputable def f_X6_steerTo_L15 (i1 : Nat) (a2 : Int32) (a3 : Int32) (k5 : fSt → Option (Unit × fSt)) : Nat → Int32 → Int32 → Int32 → fSt → Option (Unit × fSt)
  | 0, _, _, _, _ => none
  | n10 + 1, x6, x7, x8, s9 =>
      if a3 ≤ x8 then
        (k5 s9)
      else
        (if ((12 : Int32)) ≤ x8 then
          (k5 s9)
        else
          (fBd (f_X6_lastOf x6 s9) fun x11 s12 =>
          fLt x11 fun (x13 : Int32) =>
          fNn (gP s12 2 i1 0) fun y14 =>
          fBd (f_X7_killedIn y14 x13 s12) fun x15 s16 =>
          fLt (x7 ||| x15) fun (x17 : Int32) =>
          fLt ((0 : Int32)) fun (x18 : Int32) =>
          fJn (fun (x19 : Int32) (s20 : fSt) =>
            (fLt (x8 + (1 : Int32)) fun (x22 : Int32) =>
            f_X6_steerTo_L15 i1 a2 a3 k5 n10 x19 x17 x22 s20)) fun (k21 : Int32 → fSt → Option (Unit × fSt)) =>
          fJn (fun (x23 : Int32) (x24 : Int32) (s25 : fSt) =>
            (fIx x8 12 <|
            fLt (sA s25 11 0 3 (upd (gA s25 11 0 3) x8.toNatClampNeg x23)) fun s27 =>
            fJn (fun (x28 : Int32) (s29 : fSt) =>
              (fLt x28 fun (x31 : Int32) =>
              k21 x31 s29)) fun (j30 : Int32 → fSt → Option (Unit × fSt)) =>
            if ¬ x24 = ((-1 : Int32)) then
              (j30 (x6 ||| (((1 : Int32)) <<< (x24 &&& 31))) s27)
            else
              (j30 x6 s27))) fun (k26 : Int32 → Int32 → fSt → Option (Unit × fSt)) =>
          f_X6_steerTo_L53 i1 a2 a3 x6 x8 x13 x17 k21 k26 fF x18 s16))

noncomputable def f_X6_steerTo (i1 : Nat) (a2 : Int32) (a3 : Int32) (st : fSt) : Option (Unit × fSt) :=
  fLt (gI st 6 0 3) fun (x1 : Int32) =>
  fLt (gI st 2 i1 3) fun (x2 : Int32) =>
  fLt ((0 : Int32)) fun (x3 : Int32) =>
  fJn (fun (s4 : fSt) =>
    (some ((), s4))) fun (k5 : fSt → Option (Unit × fSt)) =>
  f_X6_steerTo_L15 i1 a2 a3 k5 fF x1 x2 x3 st

set_option maxHeartbeats 4000000 in
set_option maxRecDepth 100000 in
theorem c_X6_steerTo (Δ : fDl) (hN : fNx Δ) (i1 : Nat) (a2 : Int32) (a3 : Int32) (hi1 : i1 < fN Δ 2)  (st : fSt) : fMt eV Δ yX6_steerTo cX6_steerTo 12 none 5 [.ref (fad Δ 6 0 0), .ref (fad Δ 2 i1 0), .int a2, .int a3, .ref (fad Δ 11 0 3)] st (f_X6_steerTo i1 a2 a3 st) := by
  unfold f_X6_steerTo
  refine r_method (by decide +kernel) (Nat.le_of_ble_eq_true rfl) (fun Γ C => ?_)
  have C : fC Δ Γ cX6_steerTo RX6 12 none 5 := C
  refine r_locs (lc' := [(0, .ref (fad Δ 6 0 0)), (1, .ref (fad Δ 2 i1 0)), (2, .int a2), (3, .int a3), (4, .ref (fad Δ 11 0 3))]) [0, 1, 2, 3, 4] rfl ?_
  refine r_aload_n (q := 1) (i := 0) (z := 0) C dX6_steerTo_0 rfl rfl rfl ?_
  refine g_X6_31 (q := 4) C (nk_6_0 hN) dX6_steerTo_1 rfl ?_
  refine r_istore (q := 6) (i := 5) [(0, .ref (fad Δ 6 0 0)), (1, .ref (fad Δ 2 i1 0)), (2, .int a2), (3, .int a3), (4, .ref (fad Δ 11 0 3))] C dX6_steerTo_4 rfl (by decide) rfl (fun x1 => ?_)
  refine r_aload_n (q := 7) (i := 1) (z := 2) C dX6_steerTo_6 rfl rfl rfl ?_
  refine g_X6_22 (q := 10) C hi1 dX6_steerTo_7 rfl ?_
  refine r_istore (q := 12) (i := 6) [(5, .int x1), (0, .ref (fad Δ 6 0 0)), (1, .ref (fad Δ 2 i1 0)), (2, .int a2), (3, .int a3), (4, .ref (fad Δ 11 0 3))] C dX6_steerTo_10 rfl (by decide) rfl (fun x2 => ?_)
  refine r_iconst (q := 13) (v := 0) C dX6_steerTo_12 rfl (by decide) ?_
  refine r_istore (q := 15) (i := 7) [(6, .int x2), (5, .int x1), (0, .ref (fad Δ 6 0 0)), (1, .ref (fad Δ 2 i1 0)), (2, .int a2), (3, .int a3), (4, .ref (fad Δ 11 0 3))] C dX6_steerTo_13 rfl (by decide) rfl (fun x3 => ?_)
  refine r_join (fun k5 => ∀  (s4 : fSt), fW Δ Γ 12 (fQ eV Δ Γ) 173 [] [] s4 (k5 s4)) ?_ (fun k5 hk5 => ?_)
  · intro s4
    exact r_vret C dX6_steerTo_173
  refine r_locs (lc' := [(0, .ref (fad Δ 6 0 0)), (1, .ref (fad Δ 2 i1 0)), (2, .int a2), (3, .int a3), (4, .ref (fad Δ 11 0 3)), (5, .int x1), (6, .int x2), (7, .int x3)]) [3, 4, 5, 6, 7, 2, 1, 0] rfl ?_
  have L15 : ∀ (n10 : Nat) (x6 : Int32) (x7 : Int32) (x8 : Int32) (s9 : fSt), fW Δ Γ 12 (fQ eV Δ Γ) 15 [(0, .ref (fad Δ 6 0 0)), (1, .ref (fad Δ 2 i1 0)), (2, .int a2), (3, .int a3), (4, .ref (fad Δ 11 0 3)), (5, .int x6), (6, .int x7), (7, .int x8)] [] s9 (f_X6_steerTo_L15 i1 a2 a3 k5 n10 x6 x7 x8 s9) := by
    intro n10
    induction n10 with
    | zero =>
      intro x6 x7 x8 s9
      rw [f_X6_steerTo_L15]
      exact r_none
    | succ n10 ih_n10 =>
      intro x6 x7 x8 s9
      rw [f_X6_steerTo_L15]
      refine r_iload (q := 17) (i := 7) (z := 7) C dX6_steerTo_15 rfl rfl ?_
      refine r_iload_n (q := 18) (i := 3) (z := 3) C dX6_steerTo_17 rfl rfl rfl ?_
      refine r_icmp_ge (q := 21) (tgt := 173) C dX6_steerTo_18 (by decide) rfl ?_ ?_
      · refine r_locs (lc' := []) [] rfl ?_
        exact hk5 s9
      · refine r_iload (q := 23) (i := 7) (z := 7) C dX6_steerTo_21 rfl rfl ?_
        refine r_aload (q := 25) (i := 4) (z := 4) C dX6_steerTo_23 rfl rfl ?_
        refine r_len (q := 26) (v := (12 : Int32)) q_11_3 (by decide) h_11_3 C (nk_11_0 hN) rfl dX6_steerTo_25 rfl ?_
        refine r_icmp_ge (q := 29) (tgt := 173) C dX6_steerTo_26 (by decide) rfl ?_ ?_
        · refine r_locs (lc' := []) [] rfl ?_
          exact hk5 s9
        · refine r_iload (q := 31) (i := 5) (z := 5) C dX6_steerTo_29 rfl rfl ?_
          refine r_callSI (q := 34) (As := [.int x6]) wm_X6_51 ysX6_lastOf (c_X6_lastOf Δ hN x6 s9) C (by decide) rfl (Nat.le_of_ble_eq_true rfl) dX6_steerTo_31 rfl (fun x11 s12 => ?_)
          refine r_istore (q := 36) (i := 8) [(0, .ref (fad Δ 6 0 0)), (1, .ref (fad Δ 2 i1 0)), (2, .int a2), (3, .int a3), (4, .ref (fad Δ 11 0 3)), (5, .int x6), (6, .int x7), (7, .int x8)] C dX6_steerTo_34 rfl (by decide) rfl (fun x13 => ?_)
          refine r_iload (q := 38) (i := 6) (z := 7) C dX6_steerTo_36 rfl rfl ?_
          refine r_aload_n (q := 39) (i := 1) (z := 2) C dX6_steerTo_38 rfl rfl rfl ?_
          refine g_X6_42 (q := 42) C hi1 dX6_steerTo_39 rfl ?_
          refine r_deref C (fun h => (h _ hi1).1) (fun y14 hy14 => ?_)
          refine r_iload (q := 44) (i := 8) (z := 0) C dX6_steerTo_42 rfl rfl ?_
          refine r_callVI (q := 47) (As := [.int x13]) wm_X6_46 yvX7_killedIn (c_X7_killedIn Δ hN y14 x13 hy14 s12) ⟨rfl, by decide⟩ C hy14 (by decide) rfl (Nat.le_of_ble_eq_true rfl) dX6_steerTo_44 rfl (fun x15 s16 => ?_)
          refine r_ior (q := 48) C dX6_steerTo_47 rfl ?_
          refine r_istore (q := 50) (i := 6) [(8, .int x13), (0, .ref (fad Δ 6 0 0)), (1, .ref (fad Δ 2 i1 0)), (2, .int a2), (3, .int a3), (4, .ref (fad Δ 11 0 3)), (5, .int x6), (7, .int x8)] C dX6_steerTo_48 rfl (by decide) rfl (fun x17 => ?_)
          refine r_iconst (q := 51) (v := 0) C dX6_steerTo_50 rfl (by decide) ?_
          refine r_istore (q := 53) (i := 9) [(6, .int x17), (8, .int x13), (0, .ref (fad Δ 6 0 0)), (1, .ref (fad Δ 2 i1 0)), (2, .int a2), (3, .int a3), (4, .ref (fad Δ 11 0 3)), (5, .int x6), (7, .int x8)] C dX6_steerTo_51 rfl (by decide) rfl (fun x18 => ?_)
          refine r_join (fun k21 => ∀ (x19 : Int32) (s20 : fSt), fW Δ Γ 12 (fQ eV Δ Γ) 167 [(0, .ref (fad Δ 6 0 0)), (1, .ref (fad Δ 2 i1 0)), (2, .int a2), (3, .int a3), (4, .ref (fad Δ 11 0 3)), (5, .int x19), (6, .int x17), (7, .int x8)] [] s20 (k21 x19 s20)) ?_ (fun k21 hk21 => ?_)
          · intro x19 s20
            refine r_iinc (q := 170) (z := 7) (d := 1) [(0, .ref (fad Δ 6 0 0)), (1, .ref (fad Δ 2 i1 0)), (2, .int a2), (3, .int a3), (4, .ref (fad Δ 11 0 3)), (5, .int x19), (6, .int x17)] C dX6_steerTo_167 rfl rfl (by decide) (by decide) rfl (fun x22 => ?_)
            refine r_goto (q := 15) C dX6_steerTo_170 (by decide) ?_
            refine r_locs (lc' := [(0, .ref (fad Δ 6 0 0)), (1, .ref (fad Δ 2 i1 0)), (2, .int a2), (3, .int a3), (4, .ref (fad Δ 11 0 3)), (5, .int x19), (6, .int x17), (7, .int x22)]) [1, 2, 3, 4, 5, 6, 7, 0] rfl ?_
            exact ih_n10 x19 x17 x22 s20
          refine r_join (fun k26 => ∀ (x23 : Int32) (x24 : Int32) (s25 : fSt), fW Δ Γ 12 (fQ eV Δ Γ) 131 [(0, .ref (fad Δ 6 0 0)), (1, .ref (fad Δ 2 i1 0)), (2, .int a2), (3, .int a3), (4, .ref (fad Δ 11 0 3)), (5, .int x6), (6, .int x17), (7, .int x8), (9, .int x23), (10, .int x24)] [] s25 (k26 x23 x24 s25)) ?_ (fun k26 hk26 => ?_)
          · intro x23 x24 s25
            refine r_aload (q := 133) (i := 4) (z := 4) C dX6_steerTo_131 rfl rfl ?_
            refine r_iload (q := 135) (i := 7) (z := 7) C dX6_steerTo_133 rfl rfl ?_
            refine r_iload (q := 137) (i := 9) (z := 8) C dX6_steerTo_135 rfl rfl ?_
            refine r_ast (q := 138) q_11_3 h_11_3 C (nk_11_0 hN) dX6_steerTo_137 rfl (fun s27 => ?_)
            refine r_iload (q := 140) (i := 10) (z := 9) C dX6_steerTo_138 rfl rfl ?_
            refine r_iconst (q := 141) (v := (-1)) C dX6_steerTo_140 rfl (by decide) ?_
            refine r_join (fun j30 => ∀ (x28 : Int32) (s29 : fSt), fW Δ Γ 12 (fQ eV Δ Γ) 156 [(0, .ref (fad Δ 6 0 0)), (1, .ref (fad Δ 2 i1 0)), (2, .int a2), (3, .int a3), (4, .ref (fad Δ 11 0 3)), (6, .int x17), (7, .int x8)] [.int x28] s29 (j30 x28 s29)) ?_ (fun j30 hj30 => ?_)
            · intro x28 s29
              refine r_istore (q := 158) (i := 5) [(0, .ref (fad Δ 6 0 0)), (1, .ref (fad Δ 2 i1 0)), (2, .int a2), (3, .int a3), (4, .ref (fad Δ 11 0 3)), (6, .int x17), (7, .int x8)] C dX6_steerTo_156 rfl (by decide) rfl (fun x31 => ?_)
              refine r_goto (q := 167) C dX6_steerTo_158 (by decide) ?_
              refine r_locs (lc' := [(0, .ref (fad Δ 6 0 0)), (1, .ref (fad Δ 2 i1 0)), (2, .int a2), (3, .int a3), (4, .ref (fad Δ 11 0 3)), (5, .int x31), (6, .int x17), (7, .int x8)]) [1, 2, 3, 4, 5, 0, 6, 7] rfl ?_
              exact hk21 x31 s29
            refine r_icmp_ne (q := 144) (tgt := 149) C dX6_steerTo_141 (by decide) rfl ?_ ?_
            · refine r_iload (q := 151) (i := 5) (z := 5) C dX6_steerTo_149 rfl rfl ?_
              refine r_iconst (q := 152) (v := 1) C dX6_steerTo_151 rfl (by decide) ?_
              refine r_iload (q := 154) (i := 10) (z := 9) C dX6_steerTo_152 rfl rfl ?_
              refine r_ishl (q := 155) C dX6_steerTo_154 rfl ?_
              refine r_ior (q := 156) C dX6_steerTo_155 rfl ?_
              refine r_locs (lc' := [(0, .ref (fad Δ 6 0 0)), (1, .ref (fad Δ 2 i1 0)), (2, .int a2), (3, .int a3), (4, .ref (fad Δ 11 0 3)), (6, .int x17), (7, .int x8)]) [0, 1, 2, 3, 4, 6, 7] rfl ?_
              exact hj30 (x6 ||| (((1 : Int32)) <<< (x24 &&& 31))) s27
            · refine r_iload (q := 146) (i := 5) (z := 5) C dX6_steerTo_144 rfl rfl ?_
              refine r_goto (q := 156) C dX6_steerTo_146 (by decide) ?_
              refine r_locs (lc' := [(0, .ref (fad Δ 6 0 0)), (1, .ref (fad Δ 2 i1 0)), (2, .int a2), (3, .int a3), (4, .ref (fad Δ 11 0 3)), (6, .int x17), (7, .int x8)]) [0, 1, 2, 3, 4, 6, 7] rfl ?_
              exact hj30 x6 s27
          refine r_locs (lc' := [(0, .ref (fad Δ 6 0 0)), (1, .ref (fad Δ 2 i1 0)), (2, .int a2), (3, .int a3), (4, .ref (fad Δ 11 0 3)), (5, .int x6), (6, .int x17), (7, .int x8), (8, .int x13), (9, .int x18)]) [3, 4, 5, 6, 7, 8, 1, 9, 2, 0] rfl ?_
          have L53 : ∀ (n34 : Nat) (x32 : Int32) (s33 : fSt), fW Δ Γ 12 (fQ eV Δ Γ) 53 [(0, .ref (fad Δ 6 0 0)), (1, .ref (fad Δ 2 i1 0)), (2, .int a2), (3, .int a3), (4, .ref (fad Δ 11 0 3)), (5, .int x6), (6, .int x17), (7, .int x8), (8, .int x13), (9, .int x32)] [] s33 (f_X6_steerTo_L53 i1 a2 a3 x6 x8 x13 x17 k21 k26 n34 x32 s33) := by
            intro n34
            induction n34 with
            | zero =>
              intro x32 s33
              rw [f_X6_steerTo_L53]
              exact r_none
            | succ n34 ih_n34 =>
              intro x32 s33
              rw [f_X6_steerTo_L53]
              refine r_iload (q := 55) (i := 9) (z := 9) C dX6_steerTo_53 rfl rfl ?_
              refine r_iconst (q := 56) (v := 4) C dX6_steerTo_55 rfl (by decide) ?_
              refine r_icmp_ge (q := 59) (tgt := 167) C dX6_steerTo_56 (by decide) rfl ?_ ?_
              · refine r_locs (lc' := [(0, .ref (fad Δ 6 0 0)), (1, .ref (fad Δ 2 i1 0)), (2, .int a2), (3, .int a3), (4, .ref (fad Δ 11 0 3)), (5, .int x6), (6, .int x17), (7, .int x8)]) [0, 1, 2, 3, 4, 5, 6, 7] rfl ?_
                exact hk21 x6 s33
              · refine r_aload_n (q := 60) (i := 1) (z := 1) C dX6_steerTo_59 rfl rfl rfl ?_
                refine r_iload (q := 62) (i := 8) (z := 8) C dX6_steerTo_60 rfl rfl ?_
                refine r_iload (q := 64) (i := 9) (z := 9) C dX6_steerTo_62 rfl rfl ?_
                refine r_iload (q := 66) (i := 6) (z := 6) C dX6_steerTo_64 rfl rfl ?_
                refine r_callVI (q := 69) (As := [.int x13, .int x32, .int x17]) wm_X6_54 yvX2_onward (c_X2_onward Δ hN i1 x13 x32 x17 hi1 s33) ⟨rfl, by decide⟩ C hi1 (by decide) rfl (Nat.le_of_ble_eq_true rfl) dX6_steerTo_66 rfl (fun x35 s36 => ?_)
                refine r_istore (q := 71) (i := 10) [(0, .ref (fad Δ 6 0 0)), (1, .ref (fad Δ 2 i1 0)), (2, .int a2), (3, .int a3), (4, .ref (fad Δ 11 0 3)), (5, .int x6), (6, .int x17), (7, .int x8), (8, .int x13), (9, .int x32)] C dX6_steerTo_69 rfl (by decide) rfl (fun x37 => ?_)
                refine r_iload (q := 73) (i := 7) (z := 8) C dX6_steerTo_71 rfl rfl ?_
                refine r_iconst (q := 74) (v := 1) C dX6_steerTo_73 rfl (by decide) ?_
                refine r_iadd (q := 75) C dX6_steerTo_74 rfl ?_
                refine r_iload_n (q := 76) (i := 3) (z := 4) C dX6_steerTo_75 rfl rfl rfl ?_
                refine r_join (fun j40 => ∀ (x38 : Int32) (s39 : fSt), fW Δ Γ 12 (fQ eV Δ Γ) 124 [(0, .ref (fad Δ 6 0 0)), (1, .ref (fad Δ 2 i1 0)), (2, .int a2), (3, .int a3), (4, .ref (fad Δ 11 0 3)), (5, .int x6), (6, .int x17), (7, .int x8), (8, .int x13), (9, .int x32), (10, .int x37)] [.int x38] s39 (j40 x38 s39)) ?_ (fun j40 hj40 => ?_)
                · intro x38 s39
                  refine r_istore (q := 126) (i := 11) [(0, .ref (fad Δ 6 0 0)), (1, .ref (fad Δ 2 i1 0)), (2, .int a2), (3, .int a3), (4, .ref (fad Δ 11 0 3)), (5, .int x6), (6, .int x17), (7, .int x8), (8, .int x13), (9, .int x32), (10, .int x37)] C dX6_steerTo_124 rfl (by decide) rfl (fun x41 => ?_)
                  refine r_iload (q := 128) (i := 11) (z := 0) C dX6_steerTo_126 rfl rfl ?_
                  refine r_if_eq (q := 131) (tgt := 161) C dX6_steerTo_128 (by decide) rfl ?_ ?_
                  · refine r_iinc (q := 164) (z := 10) (d := 1) [(11, .int x41), (0, .ref (fad Δ 6 0 0)), (1, .ref (fad Δ 2 i1 0)), (2, .int a2), (3, .int a3), (4, .ref (fad Δ 11 0 3)), (5, .int x6), (6, .int x17), (7, .int x8), (8, .int x13), (10, .int x37)] C dX6_steerTo_161 rfl rfl (by decide) (by decide) rfl (fun x42 => ?_)
                    refine r_goto (q := 53) C dX6_steerTo_164 (by decide) ?_
                    refine r_locs (lc' := [(0, .ref (fad Δ 6 0 0)), (1, .ref (fad Δ 2 i1 0)), (2, .int a2), (3, .int a3), (4, .ref (fad Δ 11 0 3)), (5, .int x6), (6, .int x17), (7, .int x8), (8, .int x13), (9, .int x42)]) [2, 3, 4, 5, 6, 7, 8, 9, 10, 0] rfl ?_
                    exact ih_n34 x42 s39
                  · refine r_locs (lc' := [(0, .ref (fad Δ 6 0 0)), (1, .ref (fad Δ 2 i1 0)), (2, .int a2), (3, .int a3), (4, .ref (fad Δ 11 0 3)), (5, .int x6), (6, .int x17), (7, .int x8), (9, .int x32), (10, .int x37)]) [1, 2, 3, 4, 5, 6, 7, 8, 10, 11] rfl ?_
                    exact hk26 x32 x37 s39
                refine r_icmp_ne (q := 79) (tgt := 93) C dX6_steerTo_76 (by decide) rfl ?_ ?_
                · refine r_iload (q := 95) (i := 10) (z := 0) C dX6_steerTo_93 rfl rfl ?_
                  refine r_iconst (q := 96) (v := (-1)) C dX6_steerTo_95 rfl (by decide) ?_
                  refine r_join (fun j44 => ∀  (s43 : fSt), fW Δ Γ 12 (fQ eV Δ Γ) 123 [(0, .ref (fad Δ 6 0 0)), (1, .ref (fad Δ 2 i1 0)), (2, .int a2), (3, .int a3), (4, .ref (fad Δ 11 0 3)), (5, .int x6), (6, .int x17), (7, .int x8), (8, .int x13), (9, .int x32), (10, .int x37)] [] s43 (j44 s43)) ?_ (fun j44 hj44 => ?_)
                  · intro s43
                    refine r_iconst (q := 124) (v := 0) C dX6_steerTo_123 rfl (by decide) ?_
                    exact hj40 ((0 : Int32)) s43
                  refine r_icmp_eq (q := 99) (tgt := 123) C dX6_steerTo_96 (by decide) rfl ?_ ?_
                  · refine r_locs (lc' := [(0, .ref (fad Δ 6 0 0)), (1, .ref (fad Δ 2 i1 0)), (2, .int a2), (3, .int a3), (4, .ref (fad Δ 11 0 3)), (5, .int x6), (6, .int x17), (7, .int x8), (8, .int x13), (9, .int x32), (10, .int x37)]) [1, 2, 3, 4, 5, 6, 7, 8, 9, 10, 0] rfl ?_
                    exact hj44 s36
                  · refine r_aload_n (q := 100) (i := 0) (z := 1) C dX6_steerTo_99 rfl rfl rfl ?_
                    refine r_aload_n (q := 101) (i := 1) (z := 2) C dX6_steerTo_100 rfl rfl rfl ?_
                    refine g_X6_42 (q := 104) C hi1 dX6_steerTo_101 rfl ?_
                    refine r_deref C (fun h => (h _ hi1).1) (fun y45 hy45 => ?_)
                    refine r_iload (q := 106) (i := 5) (z := 6) C dX6_steerTo_104 rfl rfl ?_
                    refine r_iconst (q := 107) (v := 1) C dX6_steerTo_106 rfl (by decide) ?_
                    refine r_iload (q := 109) (i := 10) (z := 0) C dX6_steerTo_107 rfl rfl ?_
                    refine r_ishl (q := 110) C dX6_steerTo_109 rfl ?_
                    refine r_ior (q := 111) C dX6_steerTo_110 rfl ?_
                    refine r_iload_n (q := 112) (i := 2) (z := 3) C dX6_steerTo_111 rfl rfl rfl ?_
                    refine r_iload_n (q := 113) (i := 3) (z := 4) C dX6_steerTo_112 rfl rfl rfl ?_
                    refine r_callVI (q := 116) (As := [.ref (fad Δ 7 y45 0), .int (x6 ||| (((1 : Int32)) <<< (x37 &&& 31))), .int a2, .int a3]) wm_X6_90 yvX6_someGoesBy (c_X6_someGoesBy Δ hN y45 (x6 ||| (((1 : Int32)) <<< (x37 &&& 31))) a2 a3 hy45 s36) ⟨rfl, by decide⟩ C (nk_6_0 hN) (by decide) rfl (Nat.le_of_ble_eq_true rfl) dX6_steerTo_113 rfl (fun x46 s47 => ?_)
                    refine r_if_eq (q := 119) (tgt := 123) C dX6_steerTo_116 (by decide) rfl ?_ ?_
                    · refine r_locs (lc' := [(0, .ref (fad Δ 6 0 0)), (1, .ref (fad Δ 2 i1 0)), (2, .int a2), (3, .int a3), (4, .ref (fad Δ 11 0 3)), (5, .int x6), (6, .int x17), (7, .int x8), (8, .int x13), (9, .int x32), (10, .int x37)]) [1, 2, 3, 4, 5, 6, 7, 8, 9, 10, 0] rfl ?_
                      exact hj44 s47
                    · refine r_iconst (q := 120) (v := 1) C dX6_steerTo_119 rfl (by decide) ?_
                      refine r_goto (q := 124) C dX6_steerTo_120 (by decide) ?_
                      refine r_locs (lc' := [(0, .ref (fad Δ 6 0 0)), (1, .ref (fad Δ 2 i1 0)), (2, .int a2), (3, .int a3), (4, .ref (fad Δ 11 0 3)), (5, .int x6), (6, .int x17), (7, .int x8), (8, .int x13), (9, .int x32), (10, .int x37)]) [1, 2, 3, 4, 5, 6, 7, 8, 9, 10, 0] rfl ?_
                      exact hj40 ((1 : Int32)) s47
                · refine r_iload (q := 81) (i := 10) (z := 0) C dX6_steerTo_79 rfl rfl ?_
                  refine r_iconst (q := 82) (v := (-1)) C dX6_steerTo_81 rfl (by decide) ?_
                  refine r_icmp_ne (q := 85) (tgt := 89) C dX6_steerTo_82 (by decide) rfl ?_ ?_
                  · refine r_iconst (q := 90) (v := 0) C dX6_steerTo_89 rfl (by decide) ?_
                    refine r_goto (q := 124) C dX6_steerTo_90 (by decide) ?_
                    refine r_locs (lc' := [(0, .ref (fad Δ 6 0 0)), (1, .ref (fad Δ 2 i1 0)), (2, .int a2), (3, .int a3), (4, .ref (fad Δ 11 0 3)), (5, .int x6), (6, .int x17), (7, .int x8), (8, .int x13), (9, .int x32), (10, .int x37)]) [1, 2, 3, 4, 5, 6, 7, 8, 9, 10, 0] rfl ?_
                    exact hj40 ((0 : Int32)) s36
                  · refine r_iconst (q := 86) (v := 1) C dX6_steerTo_85 rfl (by decide) ?_
                    refine r_goto (q := 124) C dX6_steerTo_86 (by decide) ?_
                    refine r_locs (lc' := [(0, .ref (fad Δ 6 0 0)), (1, .ref (fad Δ 2 i1 0)), (2, .int a2), (3, .int a3), (4, .ref (fad Δ 11 0 3)), (5, .int x6), (6, .int x17), (7, .int x8), (8, .int x13), (9, .int x32), (10, .int x37)]) [1, 2, 3, 4, 5, 6, 7, 8, 9, 10, 0] rfl ?_
                    exact hj40 ((1 : Int32)) s36
          exact L53 fF x18 s16
  exact L15 fF x1 x2 x3 st
