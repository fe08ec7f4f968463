noncomputable def f_X12_pour_L158 (a1 : Int32) (a2 : Int32) (a3 : Int32) (a4 : Int32) (a5 : Int32) (x18 : Int32) : Nat → Int32 → fSt → Option (Int32 × fSt)
  | 0, _, _ => none
  | n22 + 1, x20, s21 =>
      if a5 ≤ x20 then
                                  (some ((1 : Int32), s21))
                                else
                                  (fJn (fun (x23 : Int32) (s24 : fSt) =>
                                    (fLt x23 fun (x26 : Int32) =>
                                    fIx (((((60 : Int32)) * a1) + a2) + x26) 240 <|
                                    fIx (((((60 : Int32)) * a3) + a4) + x26) 240 <|
                                    fLt (sB s24 12 0 3 (vp_updL (gB s24 12 0 3) (((((60 : Int32)) * a3) + a4) + x26).toNatClampNeg (gB s24 12 0 3 (((((60 : Int32)) * a1) + a2) + x26).toNatClampNeg))) fun s27 =>
                                    fLt (x20 + (1 : Int32)) fun (x28 : Int32) =>
                                    f_X12_pour_L158 a1 a2 a3 a4 a5 x18 n22 x28 s27)) fun (j25 : Int32 → fSt → Option (Int32 × fSt)) =>
                                  if x18 = 0 then
                                    (j25 x20 s21)
                                  else
                                    (j25 ((a5 - ((1 : Int32))) - x20) s21))

noncomputable def f_X12_pour (a1 : Int32) (a2 : Int32) (a3 : Int32) (a4 : Int32) (a5 : Int32) (st : fSt) : Option (Int32 × fSt) :=
  fLt (sI st 12 0 1 ((0 : Int32))) fun s1 =>
  fLt (sI s1 12 0 0 ((0 : Int32))) fun s2 =>
  fJn (fun (s3 : fSt) =>
    (fBd (f_X12_no ((1 : Int32)) s3) fun x5 s6 =>
    fBo x5 (some (x5, s6)))) fun (j4 : fSt → Option (Int32 × fSt)) =>
  if a1 < 0 then
    (j4 s2)
  else
    (if ((4 : Int32)) ≤ a1 then
      (j4 s2)
    else
      (if a3 < 0 then
        (j4 s2)
      else
        (if a3 < ((4 : Int32)) then
          (fIx a1 4 <|
          fJn (fun (s7 : fSt) =>
            (fBd (f_X12_no ((3 : Int32)) s7) fun x9 s10 =>
            fBo x9 (some (x9, s10)))) fun (j8 : fSt → Option (Int32 × fSt)) =>
          if (gA s2 12 0 2 a1.toNatClampNeg) < 0 then
            (j8 s2)
          else
            (fIx a3 4 <|
            if 0 ≤ (gA s2 12 0 2 a3.toNatClampNeg) then
              (fIx a1 4 <|
              fIx a3 4 <|
              if (gA s2 12 0 1 a1.toNatClampNeg) = (gA s2 12 0 1 a3.toNatClampNeg) then
                (if 0 ≤ a5 then
                  (fJn (fun (s11 : fSt) =>
                    (fBd (f_X12_no ((4 : Int32)) s11) fun x13 s14 =>
                    fBo x13 (some (x13, s14)))) fun (j12 : fSt → Option (Int32 × fSt)) =>
                  if a2 < 0 then
                    (j12 s2)
                  else
                    (if a4 < 0 then
                      (j12 s2)
                    else
                      (fIx a1 4 <|
                      if 0 < (lg_cmp (a2.toInt64 + a5.toInt64) ((gA s2 12 0 2 a1.toNatClampNeg).toInt64)) then
                        (j12 s2)
                      else
                        (fIx a3 4 <|
                        if (lg_cmp (a4.toInt64 + a5.toInt64) ((gA s2 12 0 2 a3.toNatClampNeg).toInt64)) ≤ 0 then
                          (fJn (fun (x15 : Int32) (s16 : fSt) =>
                            (fLt x15 fun (x18 : Int32) =>
                            fLt ((0 : Int32)) fun (x19 : Int32) =>
                            f_X12_pour_L158 a1 a2 a3 a4 a5 x18 fF x19 s16)) fun (j17 : Int32 → fSt → Option (Int32 × fSt)) =>
                          if a4 ≤ a2 then
                            (j17 ((0 : Int32)) s2)
                          else
                            (j17 ((1 : Int32)) s2))
                        else
                          (j12 s2)))))
                else
                  (fBd (f_X12_no ((6 : Int32)) s2) fun x29 s30 =>
                  fBo x29 (some (x29, s30))))
              else
                (fBd (f_X12_no ((11 : Int32)) s2) fun x31 s32 =>
                fBo x31 (some (x31, s32))))
            else
              (j8 s2)))
        else
          (j4 s2))))

set_option maxHeartbeats 4000000 in
set_option maxRecDepth 100000 in
theorem c_X12_pour (Δ : fDl) (hN : fNm Δ) (a1 : Int32) (a2 : Int32) (a3 : Int32) (a4 : Int32) (a5 : Int32)  (st : fSt) : fMt eI Δ yX12_pour cX12_pour 9 (some .boolean) 2 [.ref (fad Δ 12 0 0), .int a1, .int a2, .int a3, .int a4, .int a5] st (f_X12_pour a1 a2 a3 a4 a5 st) := by
  unfold f_X12_pour
  refine r_method (by decide +kernel) (Nat.le_of_ble_eq_true rfl) (fun Γ C => ?_)
  have C : fC Δ Γ cX12_pour RX12 9 (some .boolean) 2 := C
  refine r_locs (lc' := [(0, .ref (fad Δ 12 0 0)), (1, .int a1), (2, .int a2), (3, .int a3), (4, .int a4), (5, .int a5)]) [0, 1, 2, 3, 4, 5] rfl ?_
  refine r_aload_n (q := 1) (i := 0) (z := 0) C dX12_pour_0 rfl rfl rfl ?_
  refine r_iconst (q := 2) (v := 0) C dX12_pour_1 rfl (by decide) ?_
  refine p_X12_90 (q := 5) C (nm_12 hN) dX12_pour_2 rfl (fun s1 => ?_)
  refine r_aload_n (q := 6) (i := 0) (z := 0) C dX12_pour_5 rfl rfl rfl ?_
  refine r_iconst (q := 7) (v := 0) C dX12_pour_6 rfl (by decide) ?_
  refine p_X12_93 (q := 10) C (nm_12 hN) dX12_pour_7 rfl (fun s2 => ?_)
  refine r_iload_n (q := 11) (i := 1) (z := 1) C dX12_pour_10 rfl rfl rfl ?_
  refine r_join (fun j4 => ∀  (s3 : fSt), fW Δ Γ 9 (fQ eI Δ Γ) 28 [(0, .ref (fad Δ 12 0 0))] [] s3 (j4 s3)) ?_ (fun j4 hj4 => ?_)
  · intro s3
    refine r_aload_n (q := 29) (i := 0) (z := 0) C dX12_pour_28 rfl rfl rfl ?_
    refine r_iconst (q := 30) (v := 1) C dX12_pour_29 rfl (by decide) ?_
    refine r_callVI (q := 33) (As := [.int ((1 : Int32))]) wm_X12_109 yvX12_no (c_X12_no Δ hN ((1 : Int32)) s3) ⟨rfl, by decide⟩ C (nm_12 hN) (by decide) rfl (Nat.le_of_ble_eq_true rfl) dX12_pour_30 rfl (fun x5 s6 => ?_)
    exact r_zret C dX12_pour_33
  refine r_if_lt (q := 14) (tgt := 28) C dX12_pour_11 (by decide) rfl ?_ ?_
  · refine r_locs (lc' := [(0, .ref (fad Δ 12 0 0))]) [0] rfl ?_
    exact hj4 s2
  · refine r_iload_n (q := 15) (i := 1) (z := 1) C dX12_pour_14 rfl rfl rfl ?_
    refine r_iconst (q := 16) (v := 4) C dX12_pour_15 rfl (by decide) ?_
    refine r_icmp_ge (q := 19) (tgt := 28) C dX12_pour_16 (by decide) rfl ?_ ?_
    · refine r_locs (lc' := [(0, .ref (fad Δ 12 0 0))]) [0] rfl ?_
      exact hj4 s2
    · refine r_iload_n (q := 20) (i := 3) (z := 3) C dX12_pour_19 rfl rfl rfl ?_
      refine r_if_lt (q := 23) (tgt := 28) C dX12_pour_20 (by decide) rfl ?_ ?_
      · refine r_locs (lc' := [(0, .ref (fad Δ 12 0 0))]) [0] rfl ?_
        exact hj4 s2
      · refine r_iload_n (q := 24) (i := 3) (z := 3) C dX12_pour_23 rfl rfl rfl ?_
        refine r_iconst (q := 25) (v := 4) C dX12_pour_24 rfl (by decide) ?_
        refine r_icmp_lt (q := 28) (tgt := 34) C dX12_pour_25 (by decide) rfl ?_ ?_
        · refine r_aload_n (q := 35) (i := 0) (z := 0) C dX12_pour_34 rfl rfl rfl ?_
          refine g_X12_17 (q := 38) C (nm_12 hN) dX12_pour_35 rfl ?_
          refine r_iload_n (q := 39) (i := 1) (z := 1) C dX12_pour_38 rfl rfl rfl ?_
          refine r_ial (q := 40) q_12_2 h_12_2 C (nm_12 hN) dX12_pour_39 rfl ?_
          refine r_join (fun j8 => ∀  (s7 : fSt), fW Δ Γ 9 (fQ eI Δ Γ) 52 [(0, .ref (fad Δ 12 0 0))] [] s7 (j8 s7)) ?_ (fun j8 hj8 => ?_)
          · intro s7
            refine r_aload_n (q := 53) (i := 0) (z := 0) C dX12_pour_52 rfl rfl rfl ?_
            refine r_iconst (q := 54) (v := 3) C dX12_pour_53 rfl (by decide) ?_
            refine r_callVI (q := 57) (As := [.int ((3 : Int32))]) wm_X12_109 yvX12_no (c_X12_no Δ hN ((3 : Int32)) s7) ⟨rfl, by decide⟩ C (nm_12 hN) (by decide) rfl (Nat.le_of_ble_eq_true rfl) dX12_pour_54 rfl (fun x9 s10 => ?_)
            exact r_zret C dX12_pour_57
          refine r_if_lt (q := 43) (tgt := 52) C dX12_pour_40 (by decide) rfl ?_ ?_
          · refine r_locs (lc' := [(0, .ref (fad Δ 12 0 0))]) [0] rfl ?_
            exact hj8 s2
          · refine r_aload_n (q := 44) (i := 0) (z := 0) C dX12_pour_43 rfl rfl rfl ?_
            refine g_X12_17 (q := 47) C (nm_12 hN) dX12_pour_44 rfl ?_
            refine r_iload_n (q := 48) (i := 3) (z := 3) C dX12_pour_47 rfl rfl rfl ?_
            refine r_ial (q := 49) q_12_2 h_12_2 C (nm_12 hN) dX12_pour_48 rfl ?_
            refine r_if_ge (q := 52) (tgt := 58) C dX12_pour_49 (by decide) rfl ?_ ?_
            · refine r_aload_n (q := 59) (i := 0) (z := 0) C dX12_pour_58 rfl rfl rfl ?_
              refine g_X12_13 (q := 62) C (nm_12 hN) dX12_pour_59 rfl ?_
              refine r_iload_n (q := 63) (i := 1) (z := 1) C dX12_pour_62 rfl rfl rfl ?_
              refine r_ial (q := 64) q_12_1 h_12_1 C (nm_12 hN) dX12_pour_63 rfl ?_
              refine r_aload_n (q := 65) (i := 0) (z := 0) C dX12_pour_64 rfl rfl rfl ?_
              refine g_X12_13 (q := 68) C (nm_12 hN) dX12_pour_65 rfl ?_
              refine r_iload_n (q := 69) (i := 3) (z := 3) C dX12_pour_68 rfl rfl rfl ?_
              refine r_ial (q := 70) q_12_1 h_12_1 C (nm_12 hN) dX12_pour_69 rfl ?_
              refine r_icmp_eq (q := 73) (tgt := 80) C dX12_pour_70 (by decide) rfl ?_ ?_
              · refine r_iload (q := 82) (i := 5) (z := 5) C dX12_pour_80 rfl rfl ?_
                refine r_if_ge (q := 85) (tgt := 92) C dX12_pour_82 (by decide) rfl ?_ ?_
                · refine r_iload_n (q := 93) (i := 2) (z := 2) C dX12_pour_92 rfl rfl rfl ?_
                  refine r_join (fun j12 => ∀  (s11 : fSt), fW Δ Γ 9 (fQ eI Δ Γ) 136 [(0, .ref (fad Δ 12 0 0))] [] s11 (j12 s11)) ?_ (fun j12 hj12 => ?_)
                  · intro s11
                    refine r_aload_n (q := 137) (i := 0) (z := 0) C dX12_pour_136 rfl rfl rfl ?_
                    refine r_iconst (q := 138) (v := 4) C dX12_pour_137 rfl (by decide) ?_
                    refine r_callVI (q := 141) (As := [.int ((4 : Int32))]) wm_X12_109 yvX12_no (c_X12_no Δ hN ((4 : Int32)) s11) ⟨rfl, by decide⟩ C (nm_12 hN) (by decide) rfl (Nat.le_of_ble_eq_true rfl) dX12_pour_138 rfl (fun x13 s14 => ?_)
                    exact r_zret C dX12_pour_141
                  refine r_if_lt (q := 96) (tgt := 136) C dX12_pour_93 (by decide) rfl ?_ ?_
                  · refine r_locs (lc' := [(0, .ref (fad Δ 12 0 0))]) [0] rfl ?_
                    exact hj12 s2
                  · refine r_iload (q := 98) (i := 4) (z := 4) C dX12_pour_96 rfl rfl ?_
                    refine r_if_lt (q := 101) (tgt := 136) C dX12_pour_98 (by decide) rfl ?_ ?_
                    · refine r_locs (lc' := [(0, .ref (fad Δ 12 0 0))]) [0] rfl ?_
                      exact hj12 s2
                    · refine r_iload_n (q := 102) (i := 2) (z := 2) C dX12_pour_101 rfl rfl rfl ?_
                      refine r_i2l (q := 103) C dX12_pour_102 rfl ?_
                      refine r_iload (q := 105) (i := 5) (z := 5) C dX12_pour_103 rfl rfl ?_
                      refine r_i2l (q := 106) C dX12_pour_105 rfl ?_
                      refine r_ladd (q := 107) C dX12_pour_106 rfl ?_
                      refine r_aload_n (q := 108) (i := 0) (z := 0) C dX12_pour_107 rfl rfl rfl ?_
                      refine g_X12_17 (q := 111) C (nm_12 hN) dX12_pour_108 rfl ?_
                      refine r_iload_n (q := 112) (i := 1) (z := 1) C dX12_pour_111 rfl rfl rfl ?_
                      refine r_ial (q := 113) q_12_2 h_12_2 C (nm_12 hN) dX12_pour_112 rfl ?_
                      refine r_i2l (q := 114) C dX12_pour_113 rfl ?_
                      refine r_lcmp (q := 115) C dX12_pour_114 rfl ?_
                      refine r_if_gt (q := 118) (tgt := 136) C dX12_pour_115 (by decide) rfl ?_ ?_
                      · refine r_locs (lc' := [(0, .ref (fad Δ 12 0 0))]) [0] rfl ?_
                        exact hj12 s2
                      · refine r_iload (q := 120) (i := 4) (z := 4) C dX12_pour_118 rfl rfl ?_
                        refine r_i2l (q := 121) C dX12_pour_120 rfl ?_
                        refine r_iload (q := 123) (i := 5) (z := 5) C dX12_pour_121 rfl rfl ?_
                        refine r_i2l (q := 124) C dX12_pour_123 rfl ?_
                        refine r_ladd (q := 125) C dX12_pour_124 rfl ?_
                        refine r_aload_n (q := 126) (i := 0) (z := 0) C dX12_pour_125 rfl rfl rfl ?_
                        refine g_X12_17 (q := 129) C (nm_12 hN) dX12_pour_126 rfl ?_
                        refine r_iload_n (q := 130) (i := 3) (z := 3) C dX12_pour_129 rfl rfl rfl ?_
                        refine r_ial (q := 131) q_12_2 h_12_2 C (nm_12 hN) dX12_pour_130 rfl ?_
                        refine r_i2l (q := 132) C dX12_pour_131 rfl ?_
                        refine r_lcmp (q := 133) C dX12_pour_132 rfl ?_
                        refine r_if_le (q := 136) (tgt := 142) C dX12_pour_133 (by decide) rfl ?_ ?_
                        · refine r_iload_n (q := 143) (i := 2) (z := 2) C dX12_pour_142 rfl rfl rfl ?_
                          refine r_iload (q := 145) (i := 4) (z := 4) C dX12_pour_143 rfl rfl ?_
                          refine r_join (fun j17 => ∀ (x15 : Int32) (s16 : fSt), fW Δ Γ 9 (fQ eI Δ Γ) 153 [(0, .ref (fad Δ 12 0 0)), (1, .int a1), (2, .int a2), (3, .int a3), (4, .int a4), (5, .int a5)] [.int x15] s16 (j17 x15 s16)) ?_ (fun j17 hj17 => ?_)
                          · intro x15 s16
                            refine r_istore (q := 155) (i := 6) [(0, .ref (fad Δ 12 0 0)), (1, .int a1), (2, .int a2), (3, .int a3), (4, .int a4), (5, .int a5)] C dX12_pour_153 rfl (by decide) rfl (fun x18 => ?_)
                            refine r_iconst (q := 156) (v := 0) C dX12_pour_155 rfl (by decide) ?_
                            refine r_istore (q := 158) (i := 7) [(6, .int x18), (0, .ref (fad Δ 12 0 0)), (1, .int a1), (2, .int a2), (3, .int a3), (4, .int a4), (5, .int a5)] C dX12_pour_156 rfl (by decide) rfl (fun x19 => ?_)
                            refine r_locs (lc' := [(0, .ref (fad Δ 12 0 0)), (1, .int a1), (2, .int a2), (3, .int a3), (4, .int a4), (5, .int a5), (6, .int x18), (7, .int x19)]) [2, 3, 4, 5, 6, 7, 1, 0] rfl ?_
                            have L158 : ∀ (n22 : Nat) (x20 : Int32) (s21 : fSt), fW Δ Γ 9 (fQ eI Δ Γ) 158 [(0, .ref (fad Δ 12 0 0)), (1, .int a1), (2, .int a2), (3, .int a3), (4, .int a4), (5, .int a5), (6, .int x18), (7, .int x20)] [] s21 (f_X12_pour_L158 a1 a2 a3 a4 a5 x18 n22 x20 s21) := by
                              intro n22
                              induction n22 with
                              | zero =>
                                intro x20 s21
                                rw [f_X12_pour_L158]
                                exact r_none
                              | succ n22 ih_n22 =>
                                intro x20 s21
                                rw [f_X12_pour_L158]
                                refine r_iload (q := 160) (i := 7) (z := 7) C dX12_pour_158 rfl rfl ?_
                                refine r_iload (q := 162) (i := 5) (z := 5) C dX12_pour_160 rfl rfl ?_
                                refine r_icmp_ge (q := 165) (tgt := 219) C dX12_pour_162 (by decide) rfl ?_ ?_
                                · refine r_iconst (q := 220) (v := 1) C dX12_pour_219 rfl (by decide) ?_
                                  exact r_zret0 (Or.inr rfl) C dX12_pour_220
                                · refine r_iload (q := 167) (i := 6) (z := 6) C dX12_pour_165 rfl rfl ?_
                                  refine r_join (fun j25 => ∀ (x23 : Int32) (s24 : fSt), fW Δ Γ 9 (fQ eI Δ Γ) 182 [(0, .ref (fad Δ 12 0 0)), (1, .int a1), (2, .int a2), (3, .int a3), (4, .int a4), (5, .int a5), (6, .int x18), (7, .int x20)] [.int x23] s24 (j25 x23 s24)) ?_ (fun j25 hj25 => ?_)
                                  · intro x23 s24
                                    refine r_istore (q := 184) (i := 8) [(0, .ref (fad Δ 12 0 0)), (1, .int a1), (2, .int a2), (3, .int a3), (4, .int a4), (5, .int a5), (6, .int x18), (7, .int x20)] C dX12_pour_182 rfl (by decide) rfl (fun x26 => ?_)
                                    refine r_aload_n (q := 185) (i := 0) (z := 1) C dX12_pour_184 rfl rfl rfl ?_
                                    refine g_X12_20 (q := 188) C (nm_12 hN) dX12_pour_185 rfl ?_
                                    refine r_bipush (q := 190) (v := 60) C dX12_pour_188 rfl (by decide) ?_
                                    refine r_iload_n (q := 191) (i := 3) (z := 4) C dX12_pour_190 rfl rfl rfl ?_
                                    refine r_imul (q := 192) C dX12_pour_191 rfl ?_
                                    refine r_iload (q := 194) (i := 4) (z := 5) C dX12_pour_192 rfl rfl ?_
                                    refine r_iadd (q := 195) C dX12_pour_194 rfl ?_
                                    refine r_iload (q := 197) (i := 8) (z := 0) C dX12_pour_195 rfl rfl ?_
                                    refine r_iadd (q := 198) C dX12_pour_197 rfl ?_
                                    refine r_aload_n (q := 199) (i := 0) (z := 1) C dX12_pour_198 rfl rfl rfl ?_
                                    refine g_X12_20 (q := 202) C (nm_12 hN) dX12_pour_199 rfl ?_
                                    refine r_bipush (q := 204) (v := 60) C dX12_pour_202 rfl (by decide) ?_
                                    refine r_iload_n (q := 205) (i := 1) (z := 2) C dX12_pour_204 rfl rfl rfl ?_
                                    refine r_imul (q := 206) C dX12_pour_205 rfl ?_
                                    refine r_iload_n (q := 207) (i := 2) (z := 3) C dX12_pour_206 rfl rfl rfl ?_
                                    refine r_iadd (q := 208) C dX12_pour_207 rfl ?_
                                    refine r_iload (q := 210) (i := 8) (z := 0) C dX12_pour_208 rfl rfl ?_
                                    refine r_iadd (q := 211) C dX12_pour_210 rfl ?_
                                    refine r_lal (q := 212) q_12_3 h_12_3 C (nm_12 hN) dX12_pour_211 rfl ?_
                                    refine r_lst (q := 213) q_12_3 h_12_3 C (nm_12 hN) dX12_pour_212 rfl (fun s27 => ?_)
                                    refine r_iinc (q := 216) (z := 8) (d := 1) [(8, .int x26), (0, .ref (fad Δ 12 0 0)), (1, .int a1), (2, .int a2), (3, .int a3), (4, .int a4), (5, .int a5), (6, .int x18)] C dX12_pour_213 rfl rfl (by decide) (by decide) rfl (fun x28 => ?_)
                                    refine r_goto (q := 158) C dX12_pour_216 (by decide) ?_
                                    refine r_locs (lc' := [(0, .ref (fad Δ 12 0 0)), (1, .int a1), (2, .int a2), (3, .int a3), (4, .int a4), (5, .int a5), (6, .int x18), (7, .int x28)]) [2, 3, 4, 5, 6, 7, 8, 0] rfl ?_
                                    exact ih_n22 x28 s27
                                  refine r_if_eq (q := 170) (tgt := 180) C dX12_pour_167 (by decide) rfl ?_ ?_
                                  · refine r_iload (q := 182) (i := 7) (z := 7) C dX12_pour_180 rfl rfl ?_
                                    exact hj25 x20 s21
                                  · refine r_iload (q := 172) (i := 5) (z := 5) C dX12_pour_170 rfl rfl ?_
                                    refine r_iconst (q := 173) (v := 1) C dX12_pour_172 rfl (by decide) ?_
                                    refine r_isub (q := 174) C dX12_pour_173 rfl ?_
                                    refine r_iload (q := 176) (i := 7) (z := 7) C dX12_pour_174 rfl rfl ?_
                                    refine r_isub (q := 177) C dX12_pour_176 rfl ?_
                                    refine r_goto (q := 182) C dX12_pour_177 (by decide) ?_
                                    exact hj25 ((a5 - ((1 : Int32))) - x20) s21
                            exact L158 fF x19 s16
                          refine r_icmp_ge (q := 148) (tgt := 152) C dX12_pour_145 (by decide) rfl ?_ ?_
                          · refine r_iconst (q := 153) (v := 0) C dX12_pour_152 rfl (by decide) ?_
                            exact hj17 ((0 : Int32)) s2
                          · refine r_iconst (q := 149) (v := 1) C dX12_pour_148 rfl (by decide) ?_
                            refine r_goto (q := 153) C dX12_pour_149 (by decide) ?_
                            exact hj17 ((1 : Int32)) s2
                        · refine r_locs (lc' := [(0, .ref (fad Δ 12 0 0))]) [0] rfl ?_
                          exact hj12 s2
                · refine r_aload_n (q := 86) (i := 0) (z := 0) C dX12_pour_85 rfl rfl rfl ?_
                  refine r_bipush (q := 88) (v := 6) C dX12_pour_86 rfl (by decide) ?_
                  refine r_callVI (q := 91) (As := [.int ((6 : Int32))]) wm_X12_109 yvX12_no (c_X12_no Δ hN ((6 : Int32)) s2) ⟨rfl, by decide⟩ C (nm_12 hN) (by decide) rfl (Nat.le_of_ble_eq_true rfl) dX12_pour_88 rfl (fun x29 s30 => ?_)
                  exact r_zret C dX12_pour_91
              · refine r_aload_n (q := 74) (i := 0) (z := 0) C dX12_pour_73 rfl rfl rfl ?_
                refine r_bipush (q := 76) (v := 11) C dX12_pour_74 rfl (by decide) ?_
                refine r_callVI (q := 79) (As := [.int ((11 : Int32))]) wm_X12_109 yvX12_no (c_X12_no Δ hN ((11 : Int32)) s2) ⟨rfl, by decide⟩ C (nm_12 hN) (by decide) rfl (Nat.le_of_ble_eq_true rfl) dX12_pour_76 rfl (fun x31 s32 => ?_)
                exact r_zret C dX12_pour_79
            · refine r_locs (lc' := [(0, .ref (fad Δ 12 0 0))]) [0] rfl ?_
              exact hj8 s2
        · refine r_locs (lc' := [(0, .ref (fad Δ 12 0 0))]) [0] rfl ?_
          exact hj4 s2

noncomputable def f_X12_ran (a1 : Int32) (st : fSt) : Option (Int32 × fSt) :=
  fLt (sI st 12 0 1 ((0 : Int32))) fun s1 =>
  fLt (sI s1 12 0 0 ((0 : Int32))) fun s2 =>
  fBd (f_X12_isIn a1.toInt64 ((0 : Int64)) ((4 : Int64)) s2) fun x3 s4 =>
  if ¬ x3 = 0 then
    (fJn (fun (x5 : Int32) (s6 : fSt) =>
      (some (x5, s6))) fun (j7 : Int32 → fSt → Option (Int32 × fSt)) =>
    if (gI s4 12 0 56) = 0 then
      (fBd (f_X12_refuse ((8 : Int32)) s4) fun x8 s9 =>
      j7 x8 s9)
    else
      (fIx a1 5 <|
      j7 (gA s4 12 0 22 a1.toNatClampNeg) s4))
  else
    (fBd (f_X12_refuse ((5 : Int32)) s4) fun x10 s11 =>
    some (x10, s11))

set_option maxHeartbeats 4000000 in
set_option maxRecDepth 100000 in
theorem c_X12_ran (Δ : fDl) (hN : fNm Δ) (a1 : Int32)  (st : fSt) : fMt eI Δ yX12_ran cX12_ran 2 (some .int) 2 [.ref (fad Δ 12 0 0), .int a1] st (f_X12_ran a1 st) := by
  unfold f_X12_ran
  refine r_method (by decide +kernel) (Nat.le_of_ble_eq_true rfl) (fun Γ C => ?_)
  have C : fC Δ Γ cX12_ran RX12 2 (some .int) 2 := C
  refine r_locs (lc' := [(0, .ref (fad Δ 12 0 0)), (1, .int a1)]) [0, 1] rfl ?_
  refine r_aload_n (q := 1) (i := 0) (z := 0) C dX12_ran_0 rfl rfl rfl ?_
  refine r_iconst (q := 2) (v := 0) C dX12_ran_1 rfl (by decide) ?_
  refine p_X12_90 (q := 5) C (nm_12 hN) dX12_ran_2 rfl (fun s1 => ?_)
  refine r_aload_n (q := 6) (i := 0) (z := 0) C dX12_ran_5 rfl rfl rfl ?_
  refine r_iconst (q := 7) (v := 0) C dX12_ran_6 rfl (by decide) ?_
  refine p_X12_93 (q := 10) C (nm_12 hN) dX12_ran_7 rfl (fun s2 => ?_)
  refine r_iload_n (q := 11) (i := 1) (z := 1) C dX12_ran_10 rfl rfl rfl ?_
  refine r_i2l (q := 12) C dX12_ran_11 rfl ?_
  refine r_lconst (q := 13) (v := 0) C dX12_ran_12 rfl (by decide) ?_
  refine r_ldc2 (q := 16) C dX12_ran_13 rfl wl_X12_588 ?_
  refine r_callSI (q := 19) (As := [.long a1.toInt64, .long ((0 : Int64)), .long ((4 : Int64))]) wm_X12_129 ysX12_isIn (c_X12_isIn Δ hN a1.toInt64 ((0 : Int64)) ((4 : Int64)) s2) C (by decide) rfl (Nat.le_of_ble_eq_true rfl) dX12_ran_16 rfl (fun x3 s4 => ?_)
  refine r_if_ne (q := 22) (tgt := 28) C dX12_ran_19 (by decide) rfl ?_ ?_
  · refine r_aload_n (q := 29) (i := 0) (z := 0) C dX12_ran_28 rfl rfl rfl ?_
    refine g_X12_585 (q := 32) C (nm_12 hN) dX12_ran_29 rfl ?_
    refine r_join (fun j7 => ∀ (x5 : Int32) (s6 : fSt), fW Δ Γ 2 (fQ eI Δ Γ) 50 [] [.int x5] s6 (j7 x5 s6)) ?_ (fun j7 hj7 => ?_)
    · intro x5 s6
      exact r_iret C dX12_ran_50
    refine r_if_eq (q := 35) (tgt := 44) C dX12_ran_32 (by decide) rfl ?_ ?_
    · refine r_aload_n (q := 45) (i := 0) (z := 0) C dX12_ran_44 rfl rfl rfl ?_
      refine r_bipush (q := 47) (v := 8) C dX12_ran_45 rfl (by decide) ?_
      refine r_callVI (q := 50) (As := [.int ((8 : Int32))]) wm_X12_348 yvX12_refuse (c_X12_refuse Δ hN ((8 : Int32)) s4) ⟨rfl, by decide⟩ C (nm_12 hN) (by decide) rfl (Nat.le_of_ble_eq_true rfl) dX12_ran_47 rfl (fun x8 s9 => ?_)
      refine r_locs (lc' := []) [] rfl ?_
      exact hj7 x8 s9
    · refine r_aload_n (q := 36) (i := 0) (z := 0) C dX12_ran_35 rfl rfl rfl ?_
      refine g_X12_87 (q := 39) C (nm_12 hN) dX12_ran_36 rfl ?_
      refine r_iload_n (q := 40) (i := 1) (z := 1) C dX12_ran_39 rfl rfl rfl ?_
      refine r_ial (q := 41) q_12_22 h_12_22 C (nm_12 hN) dX12_ran_40 rfl ?_
      refine r_goto (q := 50) C dX12_ran_41 (by decide) ?_
      refine r_locs (lc' := []) [] rfl ?_
      exact hj7 (gA s4 12 0 22 a1.toNatClampNeg) s4
  · refine r_aload_n (q := 23) (i := 0) (z := 0) C dX12_ran_22 rfl rfl rfl ?_
    refine r_iconst (q := 24) (v := 5) C dX12_ran_23 rfl (by decide) ?_
    refine r_callVI (q := 27) (As := [.int ((5 : Int32))]) wm_X12_348 yvX12_refuse (c_X12_refuse Δ hN ((5 : Int32)) s4) ⟨rfl, by decide⟩ C (nm_12 hN) (by decide) rfl (Nat.le_of_ble_eq_true rfl) dX12_ran_24 rfl (fun x10 s11 => ?_)
    exact r_iret C dX12_ran_27

noncomputable def f_X12_read (a1 : Int32) (a2 : Int32) (st : fSt) : Option (Int64 × fSt) :=
  fLt (sI st 12 0 1 ((0 : Int32))) fun s1 =>
  fBd (f_X12_placed a1 a2 s1) fun x2 s3 =>
  fLt (sI s3 12 0 0 x2) fun s4 =>
  fJn (fun (x5 : Int64) (s6 : fSt) =>
    (some (x5, s6))) fun (j7 : Int64 → fSt → Option (Int64 × fSt)) =>
  if (gI s4 12 0 0) ≤ 0 then
    (fIx ((((60 : Int32)) * a1) + a2) 240 <|
    j7 (gB s4 12 0 3 ((((60 : Int32)) * a1) + a2).toNatClampNeg) s4)
  else
    (j7 ((-1 : Int64)) s4)

set_option maxHeartbeats 4000000 in
set_option maxRecDepth 100000 in
theorem c_X12_read (Δ : fDl) (hN : fNm Δ) (a1 : Int32) (a2 : Int32)  (st : fSt) : fMt eL Δ yX12_read cX12_read 3 (some .long) 3 [.ref (fad Δ 12 0 0), .int a1, .int a2] st (f_X12_read a1 a2 st) := by
  unfold f_X12_read
  refine r_method (by decide +kernel) (Nat.le_of_ble_eq_true rfl) (fun Γ C => ?_)
  have C : fC Δ Γ cX12_read RX12 3 (some .long) 3 := C
  refine r_locs (lc' := [(0, .ref (fad Δ 12 0 0)), (1, .int a1), (2, .int a2)]) [0, 1, 2] rfl ?_
  refine r_aload_n (q := 1) (i := 0) (z := 0) C dX12_read_0 rfl rfl rfl ?_
  refine r_iconst (q := 2) (v := 0) C dX12_read_1 rfl (by decide) ?_
  refine p_X12_90 (q := 5) C (nm_12 hN) dX12_read_2 rfl (fun s1 => ?_)
  refine r_aload_n (q := 6) (i := 0) (z := 0) C dX12_read_5 rfl rfl rfl ?_
  refine r_aload_n (q := 7) (i := 0) (z := 0) C dX12_read_6 rfl rfl rfl ?_
  refine r_iload_n (q := 8) (i := 1) (z := 1) C dX12_read_7 rfl rfl rfl ?_
  refine r_iload_n (q := 9) (i := 2) (z := 2) C dX12_read_8 rfl rfl rfl ?_
  refine r_callVI (q := 12) (As := [.int a1, .int a2]) wm_X12_117 yvX12_placed (c_X12_placed Δ hN a1 a2 s1) ⟨rfl, by decide⟩ C (nm_12 hN) (by decide) rfl (Nat.le_of_ble_eq_true rfl) dX12_read_9 rfl (fun x2 s3 => ?_)
  refine p_X12_93 (q := 15) C (nm_12 hN) dX12_read_12 rfl (fun s4 => ?_)
  refine r_aload_n (q := 16) (i := 0) (z := 0) C dX12_read_15 rfl rfl rfl ?_
  refine g_X12_93 (q := 19) C (nm_12 hN) dX12_read_16 rfl ?_
  refine r_join (fun j7 => ∀ (x5 : Int64) (s6 : fSt), fW Δ Γ 3 (fQ eL Δ Γ) 39 [] [.long x5] s6 (j7 x5 s6)) ?_ (fun j7 hj7 => ?_)
  · intro x5 s6
    exact r_lret C dX12_read_39
  refine r_if_le (q := 22) (tgt := 28) C dX12_read_19 (by decide) rfl ?_ ?_
  · refine r_aload_n (q := 29) (i := 0) (z := 0) C dX12_read_28 rfl rfl rfl ?_
    refine g_X12_20 (q := 32) C (nm_12 hN) dX12_read_29 rfl ?_
    refine r_bipush (q := 34) (v := 60) C dX12_read_32 rfl (by decide) ?_
    refine r_iload_n (q := 35) (i := 1) (z := 1) C dX12_read_34 rfl rfl rfl ?_
    refine r_imul (q := 36) C dX12_read_35 rfl ?_
    refine r_iload_n (q := 37) (i := 2) (z := 2) C dX12_read_36 rfl rfl rfl ?_
    refine r_iadd (q := 38) C dX12_read_37 rfl ?_
    refine r_lal (q := 39) q_12_3 h_12_3 C (nm_12 hN) dX12_read_38 rfl ?_
    refine r_locs (lc' := []) [] rfl ?_
    exact hj7 (gB s4 12 0 3 ((((60 : Int32)) * a1) + a2).toNatClampNeg) s4
  · refine r_ldc2 (q := 25) C dX12_read_22 rfl wl_X12_125 ?_
    refine r_goto (q := 39) C dX12_read_25 (by decide) ?_
    refine r_locs (lc' := []) [] rfl ?_
    exact hj7 ((-1 : Int64)) s4

noncomputable def f_X12_readNew (a1 : Int32) (a2 : Int32) (st : fSt) : Option (Unit × fSt) :=
  fBd (f_X12_next  st) fun _ s1 =>
  fBd (f_X12_isName  s1) fun x2 s3 =>
  fJn (fun (s4 : fSt) =>
    (fJn (fun (s6 : fSt) =>
      (if (gI s6 12 0 12) ≤ 0 then
        (fIx ((((112 : Int32)) + a1) + a2) 140 <|
        fLt (sB s6 12 0 7 (vp_updL (gB s6 12 0 7) ((((112 : Int32)) + a1) + a2).toNatClampNeg (gL s6 12 0 19))) fun s8 =>
        fBd (f_X12_next  s8) fun _ s9 =>
        some ((), s9))
      else
        (some ((), s6)))) fun (j7 : fSt → Option (Unit × fSt)) =>
    if ¬ (gI s4 12 0 12) = 0 then
      (j7 s4)
    else
      (fBd (f_X12_isTaken  s4) fun x10 s11 =>
      if x10 = 0 then
        (j7 s11)
      else
        (fBd (f_X12_fail ((3 : Int32)) (gI s11 12 0 15) s11) fun _ s12 =>
        j7 s12)))) fun (j5 : fSt → Option (Unit × fSt)) =>
  if ¬ x2 = 0 then
    (j5 s3)
  else
    (fBd (f_X12_wrong  s3) fun _ s13 =>
    j5 s13)

set_option maxHeartbeats 4000000 in
set_option maxRecDepth 100000 in
theorem c_X12_readNew (Δ : fDl) (hN : fNm Δ) (a1 : Int32) (a2 : Int32)  (st : fSt) : fMt eV Δ yX12_readNew cX12_readNew 3 none 5 [.ref (fad Δ 12 0 0), .int a1, .int a2] st (f_X12_readNew a1 a2 st) := by
  unfold f_X12_readNew
  refine r_method (by decide +kernel) (Nat.le_of_ble_eq_true rfl) (fun Γ C => ?_)
  have C : fC Δ Γ cX12_readNew RX12 3 none 5 := C
  refine r_locs (lc' := [(0, .ref (fad Δ 12 0 0)), (1, .int a1), (2, .int a2)]) [0, 1, 2] rfl ?_
  refine r_aload_n (q := 1) (i := 0) (z := 0) C dX12_readNew_0 rfl rfl rfl ?_
  refine r_callVV (q := 4) (As := []) wm_X12_259 yvX12_next (c_X12_next Δ hN st) ⟨rfl, by decide⟩ C (nm_12 hN) (by decide) rfl (Nat.le_of_ble_eq_true rfl) dX12_readNew_1 rfl (fun _ s1 => ?_)
  refine r_aload_n (q := 5) (i := 0) (z := 0) C dX12_readNew_4 rfl rfl rfl ?_
  refine r_callVI (q := 8) (As := []) wm_X12_276 yvX12_isName (c_X12_isName Δ hN s1) ⟨rfl, by decide⟩ C (nm_12 hN) (by decide) rfl (Nat.le_of_ble_eq_true rfl) dX12_readNew_5 rfl (fun x2 s3 => ?_)
  refine r_join (fun j5 => ∀  (s4 : fSt), fW Δ Γ 3 (fQ eV Δ Γ) 15 [(0, .ref (fad Δ 12 0 0)), (1, .int a1), (2, .int a2)] [] s4 (j5 s4)) ?_ (fun j5 hj5 => ?_)
  · intro s4
    refine r_aload_n (q := 16) (i := 0) (z := 0) C dX12_readNew_15 rfl rfl rfl ?_
    refine g_X12_249 (q := 19) C (nm_12 hN) dX12_readNew_16 rfl ?_
    refine r_join (fun j7 => ∀  (s6 : fSt), fW Δ Γ 3 (fQ eV Δ Γ) 38 [(0, .ref (fad Δ 12 0 0)), (1, .int a1), (2, .int a2)] [] s6 (j7 s6)) ?_ (fun j7 hj7 => ?_)
    · intro s6
      refine r_aload_n (q := 39) (i := 0) (z := 0) C dX12_readNew_38 rfl rfl rfl ?_
      refine g_X12_249 (q := 42) C (nm_12 hN) dX12_readNew_39 rfl ?_
      refine r_if_le (q := 45) (tgt := 46) C dX12_readNew_42 (by decide) rfl ?_ ?_
      · refine r_aload_n (q := 47) (i := 0) (z := 0) C dX12_readNew_46 rfl rfl rfl ?_
        refine g_X12_41 (q := 50) C (nm_12 hN) dX12_readNew_47 rfl ?_
        refine r_bipush (q := 52) (v := 112) C dX12_readNew_50 rfl (by decide) ?_
        refine r_iload_n (q := 53) (i := 1) (z := 1) C dX12_readNew_52 rfl rfl rfl ?_
        refine r_iadd (q := 54) C dX12_readNew_53 rfl ?_
        refine r_iload_n (q := 55) (i := 2) (z := 2) C dX12_readNew_54 rfl rfl rfl ?_
        refine r_iadd (q := 56) C dX12_readNew_55 rfl ?_
        refine r_aload_n (q := 57) (i := 0) (z := 0) C dX12_readNew_56 rfl rfl rfl ?_
        refine g_X12_151 (q := 60) C (nm_12 hN) dX12_readNew_57 rfl ?_
        refine r_lst (q := 61) q_12_7 h_12_7 C (nm_12 hN) dX12_readNew_60 rfl (fun s8 => ?_)
        refine r_aload_n (q := 62) (i := 0) (z := 0) C dX12_readNew_61 rfl rfl rfl ?_
        refine r_callVV (q := 65) (As := []) wm_X12_259 yvX12_next (c_X12_next Δ hN s8) ⟨rfl, by decide⟩ C (nm_12 hN) (by decide) rfl (Nat.le_of_ble_eq_true rfl) dX12_readNew_62 rfl (fun _ s9 => ?_)
        exact r_vret C dX12_readNew_65
      · exact r_vret C dX12_readNew_45
    refine r_if_ne (q := 22) (tgt := 38) C dX12_readNew_19 (by decide) rfl ?_ ?_
    · exact hj7 s4
    · refine r_aload_n (q := 23) (i := 0) (z := 0) C dX12_readNew_22 rfl rfl rfl ?_
      refine r_callVI (q := 26) (As := []) wm_X12_279 yvX12_isTaken (c_X12_isTaken Δ hN s4) ⟨rfl, by decide⟩ C (nm_12 hN) (by decide) rfl (Nat.le_of_ble_eq_true rfl) dX12_readNew_23 rfl (fun x10 s11 => ?_)
      refine r_if_eq (q := 29) (tgt := 38) C dX12_readNew_26 (by decide) rfl ?_ ?_
      · exact hj7 s11
      · refine r_aload_n (q := 30) (i := 0) (z := 0) C dX12_readNew_29 rfl rfl rfl ?_
        refine r_iconst (q := 31) (v := 3) C dX12_readNew_30 rfl (by decide) ?_
        refine r_aload_n (q := 32) (i := 0) (z := 0) C dX12_readNew_31 rfl rfl rfl ?_
        refine g_X12_139 (q := 35) C (nm_12 hN) dX12_readNew_32 rfl ?_
        refine r_callVV (q := 38) (As := [.int ((3 : Int32)), .int (gI s11 12 0 15)]) wm_X12_255 yvX12_fail (c_X12_fail Δ hN ((3 : Int32)) (gI s11 12 0 15) s11) ⟨rfl, by decide⟩ C (nm_12 hN) (by decide) rfl (Nat.le_of_ble_eq_true rfl) dX12_readNew_35 rfl (fun _ s12 => ?_)
        exact hj7 s12
  refine r_if_ne (q := 11) (tgt := 15) C dX12_readNew_8 (by decide) rfl ?_ ?_
  · exact hj5 s3
  · refine r_aload_n (q := 12) (i := 0) (z := 0) C dX12_readNew_11 rfl rfl rfl ?_
    refine r_callVV (q := 15) (As := []) wm_X12_262 yvX12_wrong (c_X12_wrong Δ hN s3) ⟨rfl, by decide⟩ C (nm_12 hN) (by decide) rfl (Nat.le_of_ble_eq_true rfl) dX12_readNew_12 rfl (fun _ s13 => ?_)
    exact hj5 s13

noncomputable def f_X12_readTold (a1 : Int32) (a2 : Int32) (a3 : Int32) (st : fSt) : Option (Int32 × fSt) :=
  fJn (fun (s1 : fSt) =>
    (fJn (fun (x3 : Int32) (s4 : fSt) =>
      (fLt x3 fun (x6 : Int32) =>
      fJn (fun (s7 : fSt) =>
        (fBd (f_X12_must ((1 : Int32)) s7) fun _ s9 =>
        some (x6, s9))) fun (j8 : fSt → Option (Int32 × fSt)) =>
      if ¬ (gI s4 12 0 12) = 0 then
        (j8 s4)
      else
        (if 0 ≤ x6 then
          (j8 s4)
        else
          (fBd (f_X12_fail ((3 : Int32)) (gI s4 12 0 15) s4) fun _ s10 =>
          j8 s10)))) fun (j5 : Int32 → fSt → Option (Int32 × fSt)) =>
    if ¬ (gI s1 12 0 12) = 0 then
      (j5 ((0 : Int32)) s1)
    else
      (fBd (f_X12_named a1 a2 a3 s1) fun x11 s12 =>
      j5 x11 s12))) fun (j2 : fSt → Option (Int32 × fSt)) =>
  if ¬ (gI st 12 0 12) = 0 then
    (j2 st)
  else
    (fBd (f_X12_isName  st) fun x13 s14 =>
    if ¬ x13 = 0 then
      (j2 s14)
    else
      (fBd (f_X12_wrong  s14) fun _ s15 =>
      j2 s15))

set_option maxHeartbeats 4000000 in
set_option maxRecDepth 100000 in
theorem c_X12_readTold (Δ : fDl) (hN : fNm Δ) (a1 : Int32) (a2 : Int32) (a3 : Int32)  (st : fSt) : fMt eI Δ yX12_readTold cX12_readTold 5 (some .int) 5 [.ref (fad Δ 12 0 0), .int a1, .int a2, .int a3] st (f_X12_readTold a1 a2 a3 st) := by
  unfold f_X12_readTold
  refine r_method (by decide +kernel) (Nat.le_of_ble_eq_true rfl) (fun Γ C => ?_)
  have C : fC Δ Γ cX12_readTold RX12 5 (some .int) 5 := C
  refine r_locs (lc' := [(0, .ref (fad Δ 12 0 0)), (1, .int a1), (2, .int a2), (3, .int a3)]) [0, 1, 2, 3] rfl ?_
  refine r_aload_n (q := 1) (i := 0) (z := 0) C dX12_readTold_0 rfl rfl rfl ?_
  refine g_X12_249 (q := 4) C (nm_12 hN) dX12_readTold_1 rfl ?_
  refine r_join (fun j2 => ∀  (s1 : fSt), fW Δ Γ 5 (fQ eI Δ Γ) 18 [(0, .ref (fad Δ 12 0 0)), (1, .int a1), (2, .int a2), (3, .int a3)] [] s1 (j2 s1)) ?_ (fun j2 hj2 => ?_)
  · intro s1
    refine r_aload_n (q := 19) (i := 0) (z := 0) C dX12_readTold_18 rfl rfl rfl ?_
    refine g_X12_249 (q := 22) C (nm_12 hN) dX12_readTold_19 rfl ?_
    refine r_join (fun j5 => ∀ (x3 : Int32) (s4 : fSt), fW Δ Γ 5 (fQ eI Δ Γ) 36 [(0, .ref (fad Δ 12 0 0))] [.int x3] s4 (j5 x3 s4)) ?_ (fun j5 hj5 => ?_)
    · intro x3 s4
      refine r_istore (q := 38) (i := 4) [(0, .ref (fad Δ 12 0 0))] C dX12_readTold_36 rfl (by decide) rfl (fun x6 => ?_)
      refine r_aload_n (q := 39) (i := 0) (z := 1) C dX12_readTold_38 rfl rfl rfl ?_
      refine g_X12_249 (q := 42) C (nm_12 hN) dX12_readTold_39 rfl ?_
      refine r_join (fun j8 => ∀  (s7 : fSt), fW Δ Γ 5 (fQ eI Δ Γ) 59 [(0, .ref (fad Δ 12 0 0)), (4, .int x6)] [] s7 (j8 s7)) ?_ (fun j8 hj8 => ?_)
      · intro s7
        refine r_aload_n (q := 60) (i := 0) (z := 0) C dX12_readTold_59 rfl rfl rfl ?_
        refine r_iconst (q := 61) (v := 1) C dX12_readTold_60 rfl (by decide) ?_
        refine r_callVV (q := 64) (As := [.int ((1 : Int32))]) wm_X12_282 yvX12_must (c_X12_must Δ hN ((1 : Int32)) s7) ⟨rfl, by decide⟩ C (nm_12 hN) (by decide) rfl (Nat.le_of_ble_eq_true rfl) dX12_readTold_61 rfl (fun _ s9 => ?_)
        refine r_iload (q := 66) (i := 4) (z := 1) C dX12_readTold_64 rfl rfl ?_
        exact r_iret C dX12_readTold_66
      refine r_if_ne (q := 45) (tgt := 59) C dX12_readTold_42 (by decide) rfl ?_ ?_
      · refine r_locs (lc' := [(0, .ref (fad Δ 12 0 0)), (4, .int x6)]) [1, 0] rfl ?_
        exact hj8 s4
      · refine r_iload (q := 47) (i := 4) (z := 0) C dX12_readTold_45 rfl rfl ?_
        refine r_if_ge (q := 50) (tgt := 59) C dX12_readTold_47 (by decide) rfl ?_ ?_
        · refine r_locs (lc' := [(0, .ref (fad Δ 12 0 0)), (4, .int x6)]) [1, 0] rfl ?_
          exact hj8 s4
        · refine r_aload_n (q := 51) (i := 0) (z := 1) C dX12_readTold_50 rfl rfl rfl ?_
          refine r_iconst (q := 52) (v := 3) C dX12_readTold_51 rfl (by decide) ?_
          refine r_aload_n (q := 53) (i := 0) (z := 1) C dX12_readTold_52 rfl rfl rfl ?_
          refine g_X12_139 (q := 56) C (nm_12 hN) dX12_readTold_53 rfl ?_
          refine r_callVV (q := 59) (As := [.int ((3 : Int32)), .int (gI s4 12 0 15)]) wm_X12_255 yvX12_fail (c_X12_fail Δ hN ((3 : Int32)) (gI s4 12 0 15) s4) ⟨rfl, by decide⟩ C (nm_12 hN) (by decide) rfl (Nat.le_of_ble_eq_true rfl) dX12_readTold_56 rfl (fun _ s10 => ?_)
          refine r_locs (lc' := [(0, .ref (fad Δ 12 0 0)), (4, .int x6)]) [1, 0] rfl ?_
          exact hj8 s10
    refine r_if_ne (q := 25) (tgt := 35) C dX12_readTold_22 (by decide) rfl ?_ ?_
    · refine r_iconst (q := 36) (v := 0) C dX12_readTold_35 rfl (by decide) ?_
      refine r_locs (lc' := [(0, .ref (fad Δ 12 0 0))]) [0] rfl ?_
      exact hj5 ((0 : Int32)) s1
    · refine r_aload_n (q := 26) (i := 0) (z := 0) C dX12_readTold_25 rfl rfl rfl ?_
      refine r_iload_n (q := 27) (i := 1) (z := 1) C dX12_readTold_26 rfl rfl rfl ?_
      refine r_iload_n (q := 28) (i := 2) (z := 2) C dX12_readTold_27 rfl rfl rfl ?_
      refine r_iload_n (q := 29) (i := 3) (z := 3) C dX12_readTold_28 rfl rfl rfl ?_
      refine r_callVI (q := 32) (As := [.int a1, .int a2, .int a3]) wm_X12_272 yvX12_named (c_X12_named Δ hN a1 a2 a3 s1) ⟨rfl, by decide⟩ C (nm_12 hN) (by decide) rfl (Nat.le_of_ble_eq_true rfl) dX12_readTold_29 rfl (fun x11 s12 => ?_)
      refine r_goto (q := 36) C dX12_readTold_32 (by decide) ?_
      refine r_locs (lc' := [(0, .ref (fad Δ 12 0 0))]) [0] rfl ?_
      exact hj5 x11 s12
  refine r_if_ne (q := 7) (tgt := 18) C dX12_readTold_4 (by decide) rfl ?_ ?_
  · exact hj2 st
  · refine r_aload_n (q := 8) (i := 0) (z := 0) C dX12_readTold_7 rfl rfl rfl ?_
    refine r_callVI (q := 11) (As := []) wm_X12_276 yvX12_isName (c_X12_isName Δ hN st) ⟨rfl, by decide⟩ C (nm_12 hN) (by decide) rfl (Nat.le_of_ble_eq_true rfl) dX12_readTold_8 rfl (fun x13 s14 => ?_)
    refine r_if_ne (q := 14) (tgt := 18) C dX12_readTold_11 (by decide) rfl ?_ ?_
    · exact hj2 s14
    · refine r_aload_n (q := 15) (i := 0) (z := 0) C dX12_readTold_14 rfl rfl rfl ?_
      refine r_callVV (q := 18) (As := []) wm_X12_262 yvX12_wrong (c_X12_wrong Δ hN s14) ⟨rfl, by decide⟩ C (nm_12 hN) (by decide) rfl (Nat.le_of_ble_eq_true rfl) dX12_readTold_15 rfl (fun _ s15 => ?_)
      exact hj2 s15

noncomputable def f_X12_readRoles_L8 (k6 : Int32 → fSt → Option (Int32 × fSt)) : Nat → Int32 → Int32 → fSt → Option (Int32 × fSt)
  | 0, _, _, _ => none
  | n10 + 1, x7, x8, s9 =>
      if x8 = 0 then
        (k6 x7 s9)
      else
        (if ¬ (gI s9 12 0 12) = 0 then
          (k6 x7 s9)
        else
          (fLt (gI s9 12 0 15) fun (x11 : Int32) =>
          fIx ((1720 : Int32)) 2150 <|
          fBd (f_X12_readTold ((4 : Int32)) ((0 : Int32)) (gA s9 12 0 5 ((1720 : Int32)).toNatClampNeg) s9) fun x12 s13 =>
          fLt x12 fun (x14 : Int32) =>
          fJn (fun (s15 : fSt) =>
            (fJn (fun (x17 : Int32) (s18 : fSt) =>
              (fLt (x7 ||| x17) fun (x20 : Int32) =>
              fBd (f_X12_isName  s18) fun x21 s22 =>
              fJn (fun (x23 : Int32) (s24 : fSt) =>
                (fLt x23 fun (x26 : Int32) =>
                f_X12_readRoles_L8 k6 n10 x20 x26 s24)) fun (j25 : Int32 → fSt → Option (Int32 × fSt)) =>
              fJn (fun (s27 : fSt) =>
                (j25 ((1 : Int32)) s27)) fun (j28 : fSt → Option (Int32 × fSt)) =>
              if ¬ x21 = 0 then
                (j28 s22)
              else
                (fJn (fun (s29 : fSt) =>
                  (j25 ((0 : Int32)) s29)) fun (j30 : fSt → Option (Int32 × fSt)) =>
                if ¬ (gI s22 12 0 14) = ((1 : Int32)) then
                  (j30 s22)
                else
                  (if (gI s22 12 0 18) ≤ ((8 : Int32)) then
                    (j30 s22)
                  else
                    (j28 s22))))) fun (j19 : Int32 → fSt → Option (Int32 × fSt)) =>
            if ¬ (gI s15 12 0 12) = 0 then
              (j19 ((0 : Int32)) s15)
            else
              (j19 (((1 : Int32)) <<< (x14 &&& 31)) s15))) fun (j16 : fSt → Option (Int32 × fSt)) =>
          if ¬ (gI s13 12 0 12) = 0 then
            (j16 s13)
          else
            (if ¬ ((x7 >>> (x14 &&& 31)) &&& ((1 : Int32))) = ((1 : Int32)) then
              (j16 s13)
            else
              (fBd (f_X12_fail ((5 : Int32)) x11 s13) fun _ s31 =>
              j16 s31))))

noncomputable def f_X12_readRoles  (st : fSt) : Option (Int32 × fSt) :=
  fBd (f_X12_next  st) fun _ s1 =>
  fLt ((0 : Int32)) fun (x2 : Int32) =>
  fLt ((1 : Int32)) fun (x3 : Int32) =>
  fJn (fun (x4 : Int32) (s5 : fSt) =>
    (some (x4, s5))) fun (k6 : Int32 → fSt → Option (Int32 × fSt)) =>
  f_X12_readRoles_L8 k6 fF x2 x3 s1

set_option maxHeartbeats 4000000 in
set_option maxRecDepth 100000 in
theorem c_X12_readRoles (Δ : fDl) (hN : fNm Δ)   (st : fSt) : fMt eI Δ yX12_readRoles cX12_readRoles 5 (some .int) 6 [.ref (fad Δ 12 0 0)] st (f_X12_readRoles  st) := by
  unfold f_X12_readRoles
  refine r_method (by decide +kernel) (Nat.le_of_ble_eq_true rfl) (fun Γ C => ?_)
  have C : fC Δ Γ cX12_readRoles RX12 5 (some .int) 6 := C
  refine r_locs (lc' := [(0, .ref (fad Δ 12 0 0))]) [0] rfl ?_
  refine r_aload_n (q := 1) (i := 0) (z := 0) C dX12_readRoles_0 rfl rfl rfl ?_
  refine r_callVV (q := 4) (As := []) wm_X12_259 yvX12_next (c_X12_next Δ hN st) ⟨rfl, by decide⟩ C (nm_12 hN) (by decide) rfl (Nat.le_of_ble_eq_true rfl) dX12_readRoles_1 rfl (fun _ s1 => ?_)
  refine r_iconst (q := 5) (v := 0) C dX12_readRoles_4 rfl (by decide) ?_
  refine r_istore_n (q := 6) (i := 1) [(0, .ref (fad Δ 12 0 0))] C dX12_readRoles_5 rfl rfl (by decide) rfl (fun x2 => ?_)
  refine r_iconst (q := 7) (v := 1) C dX12_readRoles_6 rfl (by decide) ?_
  refine r_istore_n (q := 8) (i := 2) [(1, .int x2), (0, .ref (fad Δ 12 0 0))] C dX12_readRoles_7 rfl rfl (by decide) rfl (fun x3 => ?_)
  refine r_join (fun k6 => ∀ (x4 : Int32) (s5 : fSt), fW Δ Γ 5 (fQ eI Δ Γ) 114 [(1, .int x4)] [] s5 (k6 x4 s5)) ?_ (fun k6 hk6 => ?_)
  · intro x4 s5
    refine r_iload_n (q := 115) (i := 1) (z := 0) C dX12_readRoles_114 rfl rfl rfl ?_
    exact r_iret C dX12_readRoles_115
  refine r_locs (lc' := [(0, .ref (fad Δ 12 0 0)), (1, .int x2), (2, .int x3)]) [2, 1, 0] rfl ?_
  have L8 : ∀ (n10 : Nat) (x7 : Int32) (x8 : Int32) (s9 : fSt), fW Δ Γ 5 (fQ eI Δ Γ) 8 [(0, .ref (fad Δ 12 0 0)), (1, .int x7), (2, .int x8)] [] s9 (f_X12_readRoles_L8 k6 n10 x7 x8 s9) := by
    intro n10
    induction n10 with
    | zero =>
      intro x7 x8 s9
      rw [f_X12_readRoles_L8]
      exact r_none
    | succ n10 ih_n10 =>
      intro x7 x8 s9
      rw [f_X12_readRoles_L8]
      refine r_iload_n (q := 9) (i := 2) (z := 2) C dX12_readRoles_8 rfl rfl rfl ?_
      refine r_if_eq (q := 12) (tgt := 114) C dX12_readRoles_9 (by decide) rfl ?_ ?_
      · refine r_locs (lc' := [(1, .int x7)]) [1] rfl ?_
        exact hk6 x7 s9
      · refine r_aload_n (q := 13) (i := 0) (z := 0) C dX12_readRoles_12 rfl rfl rfl ?_
        refine g_X12_249 (q := 16) C (nm_12 hN) dX12_readRoles_13 rfl ?_
        refine r_if_ne (q := 19) (tgt := 114) C dX12_readRoles_16 (by decide) rfl ?_ ?_
        · refine r_locs (lc' := [(1, .int x7)]) [1] rfl ?_
          exact hk6 x7 s9
        · refine r_aload_n (q := 20) (i := 0) (z := 0) C dX12_readRoles_19 rfl rfl rfl ?_
          refine g_X12_139 (q := 23) C (nm_12 hN) dX12_readRoles_20 rfl ?_
          refine r_istore_n (q := 24) (i := 3) [(0, .ref (fad Δ 12 0 0)), (1, .int x7), (2, .int x8)] C dX12_readRoles_23 rfl rfl (by decide) rfl (fun x11 => ?_)
          refine r_aload_n (q := 25) (i := 0) (z := 1) C dX12_readRoles_24 rfl rfl rfl ?_
          refine r_iconst (q := 26) (v := 4) C dX12_readRoles_25 rfl (by decide) ?_
          refine r_iconst (q := 27) (v := 0) C dX12_readRoles_26 rfl (by decide) ?_
          refine r_aload_n (q := 28) (i := 0) (z := 1) C dX12_readRoles_27 rfl rfl rfl ?_
          refine g_X12_35 (q := 31) C (nm_12 hN) dX12_readRoles_28 rfl ?_
          refine r_sipush (q := 34) (v := 1720) C dX12_readRoles_31 rfl (by decide) ?_
          refine r_ial (q := 35) q_12_5 h_12_5 C (nm_12 hN) dX12_readRoles_34 rfl ?_
          refine r_callVI (q := 38) (As := [.int ((4 : Int32)), .int ((0 : Int32)), .int (gA s9 12 0 5 ((1720 : Int32)).toNatClampNeg)]) wm_X12_286 yvX12_readTold (c_X12_readTold Δ hN ((4 : Int32)) ((0 : Int32)) (gA s9 12 0 5 ((1720 : Int32)).toNatClampNeg) s9) ⟨rfl, by decide⟩ C (nm_12 hN) (by decide) rfl (Nat.le_of_ble_eq_true rfl) dX12_readRoles_35 rfl (fun x12 s13 => ?_)
          refine r_istore (q := 40) (i := 4) [(3, .int x11), (0, .ref (fad Δ 12 0 0)), (1, .int x7), (2, .int x8)] C dX12_readRoles_38 rfl (by decide) rfl (fun x14 => ?_)
          refine r_aload_n (q := 41) (i := 0) (z := 2) C dX12_readRoles_40 rfl rfl rfl ?_
          refine g_X12_249 (q := 44) C (nm_12 hN) dX12_readRoles_41 rfl ?_
          refine r_join (fun j16 => ∀  (s15 : fSt), fW Δ Γ 5 (fQ eI Δ Γ) 63 [(0, .ref (fad Δ 12 0 0)), (1, .int x7), (4, .int x14)] [] s15 (j16 s15)) ?_ (fun j16 hj16 => ?_)
          · intro s15
            refine r_iload_n (q := 64) (i := 1) (z := 1) C dX12_readRoles_63 rfl rfl rfl ?_
            refine r_aload_n (q := 65) (i := 0) (z := 0) C dX12_readRoles_64 rfl rfl rfl ?_
            refine g_X12_249 (q := 68) C (nm_12 hN) dX12_readRoles_65 rfl ?_
            refine r_join (fun j19 => ∀ (x17 : Int32) (s18 : fSt), fW Δ Γ 5 (fQ eI Δ Γ) 79 [(0, .ref (fad Δ 12 0 0))] [.int x17, .int x7] s18 (j19 x17 s18)) ?_ (fun j19 hj19 => ?_)
            · intro x17 s18
              refine r_ior (q := 80) C dX12_readRoles_79 rfl ?_
              refine r_istore_n (q := 81) (i := 1) [(0, .ref (fad Δ 12 0 0))] C dX12_readRoles_80 rfl rfl (by decide) rfl (fun x20 => ?_)
              refine r_aload_n (q := 82) (i := 0) (z := 1) C dX12_readRoles_81 rfl rfl rfl ?_
              refine r_callVI (q := 85) (As := []) wm_X12_276 yvX12_isName (c_X12_isName Δ hN s18) ⟨rfl, by decide⟩ C (nm_12 hN) (by decide) rfl (Nat.le_of_ble_eq_true rfl) dX12_readRoles_82 rfl (fun x21 s22 => ?_)
              refine r_join (fun j25 => ∀ (x23 : Int32) (s24 : fSt), fW Δ Γ 5 (fQ eI Δ Γ) 110 [(0, .ref (fad Δ 12 0 0)), (1, .int x20)] [.int x23] s24 (j25 x23 s24)) ?_ (fun j25 hj25 => ?_)
              · intro x23 s24
                refine r_istore_n (q := 111) (i := 2) [(0, .ref (fad Δ 12 0 0)), (1, .int x20)] C dX12_readRoles_110 rfl rfl (by decide) rfl (fun x26 => ?_)
                refine r_goto (q := 8) C dX12_readRoles_111 (by decide) ?_
                refine r_locs (lc' := [(0, .ref (fad Δ 12 0 0)), (1, .int x20), (2, .int x26)]) [1, 2, 0] rfl ?_
                exact ih_n10 x20 x26 s24
              refine r_join (fun j28 => ∀  (s27 : fSt), fW Δ Γ 5 (fQ eI Δ Γ) 105 [(0, .ref (fad Δ 12 0 0)), (1, .int x20)] [] s27 (j28 s27)) ?_ (fun j28 hj28 => ?_)
              · intro s27
                refine r_iconst (q := 106) (v := 1) C dX12_readRoles_105 rfl (by decide) ?_
                refine r_goto (q := 110) C dX12_readRoles_106 (by decide) ?_
                exact hj25 ((1 : Int32)) s27
              refine r_if_ne (q := 88) (tgt := 105) C dX12_readRoles_85 (by decide) rfl ?_ ?_
              · refine r_locs (lc' := [(0, .ref (fad Δ 12 0 0)), (1, .int x20)]) [1, 0] rfl ?_
                exact hj28 s22
              · refine r_aload_n (q := 89) (i := 0) (z := 1) C dX12_readRoles_88 rfl rfl rfl ?_
                refine g_X12_145 (q := 92) C (nm_12 hN) dX12_readRoles_89 rfl ?_
                refine r_iconst (q := 93) (v := 1) C dX12_readRoles_92 rfl (by decide) ?_
                refine r_join (fun j30 => ∀  (s29 : fSt), fW Δ Γ 5 (fQ eI Δ Γ) 109 [(0, .ref (fad Δ 12 0 0)), (1, .int x20)] [] s29 (j30 s29)) ?_ (fun j30 hj30 => ?_)
                · intro s29
                  refine r_iconst (q := 110) (v := 0) C dX12_readRoles_109 rfl (by decide) ?_
                  exact hj25 ((0 : Int32)) s29
                refine r_icmp_ne (q := 96) (tgt := 109) C dX12_readRoles_93 (by decide) rfl ?_ ?_
                · refine r_locs (lc' := [(0, .ref (fad Δ 12 0 0)), (1, .int x20)]) [1, 0] rfl ?_
                  exact hj30 s22
                · refine r_aload_n (q := 97) (i := 0) (z := 1) C dX12_readRoles_96 rfl rfl rfl ?_
                  refine g_X12_158 (q := 100) C (nm_12 hN) dX12_readRoles_97 rfl ?_
                  refine r_bipush (q := 102) (v := 8) C dX12_readRoles_100 rfl (by decide) ?_
                  refine r_icmp_le (q := 105) (tgt := 109) C dX12_readRoles_102 (by decide) rfl ?_ ?_
                  · refine r_locs (lc' := [(0, .ref (fad Δ 12 0 0)), (1, .int x20)]) [1, 0] rfl ?_
                    exact hj30 s22
                  · refine r_locs (lc' := [(0, .ref (fad Δ 12 0 0)), (1, .int x20)]) [1, 0] rfl ?_
                    exact hj28 s22
            refine r_if_ne (q := 71) (tgt := 78) C dX12_readRoles_68 (by decide) rfl ?_ ?_
            · refine r_iconst (q := 79) (v := 0) C dX12_readRoles_78 rfl (by decide) ?_
              refine r_locs (lc' := [(0, .ref (fad Δ 12 0 0))]) [0] rfl ?_
              exact hj19 ((0 : Int32)) s15
            · refine r_iconst (q := 72) (v := 1) C dX12_readRoles_71 rfl (by decide) ?_
              refine r_iload (q := 74) (i := 4) (z := 2) C dX12_readRoles_72 rfl rfl ?_
              refine r_ishl (q := 75) C dX12_readRoles_74 rfl ?_
              refine r_goto (q := 79) C dX12_readRoles_75 (by decide) ?_
              refine r_locs (lc' := [(0, .ref (fad Δ 12 0 0))]) [0] rfl ?_
              exact hj19 (((1 : Int32)) <<< (x14 &&& 31)) s15
          refine r_if_ne (q := 47) (tgt := 63) C dX12_readRoles_44 (by decide) rfl ?_ ?_
          · refine r_locs (lc' := [(0, .ref (fad Δ 12 0 0)), (1, .int x7), (4, .int x14)]) [2, 3, 0] rfl ?_
            exact hj16 s13
          · refine r_iload_n (q := 48) (i := 1) (z := 3) C dX12_readRoles_47 rfl rfl rfl ?_
            refine r_iload (q := 50) (i := 4) (z := 0) C dX12_readRoles_48 rfl rfl ?_
            refine r_ishr (q := 51) C dX12_readRoles_50 rfl ?_
            refine r_iconst (q := 52) (v := 1) C dX12_readRoles_51 rfl (by decide) ?_
            refine r_iand (q := 53) C dX12_readRoles_52 rfl ?_
            refine r_iconst (q := 54) (v := 1) C dX12_readRoles_53 rfl (by decide) ?_
            refine r_icmp_ne (q := 57) (tgt := 63) C dX12_readRoles_54 (by decide) rfl ?_ ?_
            · refine r_locs (lc' := [(0, .ref (fad Δ 12 0 0)), (1, .int x7), (4, .int x14)]) [2, 3, 0] rfl ?_
              exact hj16 s13
            · refine r_aload_n (q := 58) (i := 0) (z := 2) C dX12_readRoles_57 rfl rfl rfl ?_
              refine r_iconst (q := 59) (v := 5) C dX12_readRoles_58 rfl (by decide) ?_
              refine r_iload_n (q := 60) (i := 3) (z := 1) C dX12_readRoles_59 rfl rfl rfl ?_
              refine r_callVV (q := 63) (As := [.int ((5 : Int32)), .int x11]) wm_X12_255 yvX12_fail (c_X12_fail Δ hN ((5 : Int32)) x11 s13) ⟨rfl, by decide⟩ C (nm_12 hN) (by decide) rfl (Nat.le_of_ble_eq_true rfl) dX12_readRoles_60 rfl (fun _ s31 => ?_)
              refine r_locs (lc' := [(0, .ref (fad Δ 12 0 0)), (1, .int x7), (4, .int x14)]) [2, 3, 0] rfl ?_
              exact hj16 s31
  exact L8 fF x2 x3 s1

noncomputable def f_X12_readActor  (st : fSt) : Option (Unit × fSt) :=
  fIx ((1721 : Int32)) 2150 <|
  fLt (gA st 12 0 5 ((1721 : Int32)).toNatClampNeg) fun (x1 : Int32) =>
  fJn (fun (s2 : fSt) =>
    (if (gI s2 12 0 12) ≤ 0 then
      (fBd (f_X12_readNew ((6 : Int32)) x1 s2) fun _ s4 =>
      fBd (f_X12_isPay  s4) fun x5 s6 =>
      fBd (f_X12_must x5 s6) fun _ s7 =>
      fBd (f_X12_count ((0 : Int32)) ((99 : Int32)) s7) fun x8 s9 =>
      fIx (((1727 : Int32)) + x1) 2150 <|
      fLt (sA s9 12 0 5 (upd (gA s9 12 0 5) (((1727 : Int32)) + x1).toNatClampNeg x8)) fun s10 =>
      fBd (f_X12_isBreath  s10) fun x11 s12 =>
      fBd (f_X12_must x11 s12) fun _ s13 =>
      fBd (f_X12_count ((0 : Int32)) ((999 : Int32)) s13) fun x14 s15 =>
      fIx (((1733 : Int32)) + x1) 2150 <|
      fLt (sA s15 12 0 5 (upd (gA s15 12 0 5) (((1733 : Int32)) + x1).toNatClampNeg x14)) fun s16 =>
      fJn (fun (x17 : Int32) (s18 : fSt) =>
        (fIx (((1739 : Int32)) + x1) 2150 <|
        fLt (sA s18 12 0 5 (upd (gA s18 12 0 5) (((1739 : Int32)) + x1).toNatClampNeg x17)) fun s20 =>
        fJn (fun (s21 : fSt) =>
          (some ((), s21))) fun (j22 : fSt → Option (Unit × fSt)) =>
        if ¬ (gI s20 12 0 12) = 0 then
          (j22 s20)
        else
          (fIx ((1721 : Int32)) 2150 <|
          fIx ((1721 : Int32)) 2150 <|
          fLt (sA s20 12 0 5 (upd (gA s20 12 0 5) ((1721 : Int32)).toNatClampNeg ((gA s20 12 0 5 ((1721 : Int32)).toNatClampNeg) + ((1 : Int32))))) fun s23 =>
          j22 s23))) fun (j19 : Int32 → fSt → Option (Unit × fSt)) =>
      fJn (fun (s24 : fSt) =>
        (j19 ((0 : Int32)) s24)) fun (j25 : fSt → Option (Unit × fSt)) =>
      if ¬ (gI s16 12 0 12) = 0 then
        (j25 s16)
      else
        (fBd (f_X12_isNot  s16) fun x26 s27 =>
        if x26 = 0 then
          (j25 s27)
        else
          (fBd (f_X12_readRoles  s27) fun x28 s29 =>
          j19 x28 s29)))
    else
      (some ((), s2)))) fun (j3 : fSt → Option (Unit × fSt)) =>
  if ¬ x1 = ((6 : Int32)) then
    (j3 st)
  else
    (fBd (f_X12_fail ((6 : Int32)) (gI st 12 0 15) st) fun _ s30 =>
    j3 s30)

set_option maxHeartbeats 4000000 in
set_option maxRecDepth 100000 in
theorem c_X12_readActor (Δ : fDl) (hN : fNm Δ)   (st : fSt) : fMt eV Δ yX12_readActor cX12_readActor 2 none 7 [.ref (fad Δ 12 0 0)] st (f_X12_readActor  st) := by
  unfold f_X12_readActor
  refine r_method (by decide +kernel) (Nat.le_of_ble_eq_true rfl) (fun Γ C => ?_)
  have C : fC Δ Γ cX12_readActor RX12 2 none 7 := C
  refine r_locs (lc' := [(0, .ref (fad Δ 12 0 0))]) [0] rfl ?_
  refine r_aload_n (q := 1) (i := 0) (z := 0) C dX12_readActor_0 rfl rfl rfl ?_
  refine g_X12_35 (q := 4) C (nm_12 hN) dX12_readActor_1 rfl ?_
  refine r_sipush (q := 7) (v := 1721) C dX12_readActor_4 rfl (by decide) ?_
  refine r_ial (q := 8) q_12_5 h_12_5 C (nm_12 hN) dX12_readActor_7 rfl ?_
  refine r_istore_n (q := 9) (i := 1) [(0, .ref (fad Δ 12 0 0))] C dX12_readActor_8 rfl rfl (by decide) rfl (fun x1 => ?_)
  refine r_iload_n (q := 10) (i := 1) (z := 0) C dX12_readActor_9 rfl rfl rfl ?_
  refine r_bipush (q := 12) (v := 6) C dX12_readActor_10 rfl (by decide) ?_
  refine r_join (fun j3 => ∀  (s2 : fSt), fW Δ Γ 2 (fQ eV Δ Γ) 25 [(0, .ref (fad Δ 12 0 0)), (1, .int x1)] [] s2 (j3 s2)) ?_ (fun j3 hj3 => ?_)
  · intro s2
    refine r_aload_n (q := 26) (i := 0) (z := 0) C dX12_readActor_25 rfl rfl rfl ?_
    refine g_X12_249 (q := 29) C (nm_12 hN) dX12_readActor_26 rfl ?_
    refine r_if_le (q := 32) (tgt := 33) C dX12_readActor_29 (by decide) rfl ?_ ?_
    · refine r_aload_n (q := 34) (i := 0) (z := 0) C dX12_readActor_33 rfl rfl rfl ?_
      refine r_bipush (q := 36) (v := 6) C dX12_readActor_34 rfl (by decide) ?_
      refine r_iload_n (q := 37) (i := 1) (z := 1) C dX12_readActor_36 rfl rfl rfl ?_
      refine r_callVV (q := 40) (As := [.int ((6 : Int32)), .int x1]) wm_X12_289 yvX12_readNew (c_X12_readNew Δ hN ((6 : Int32)) x1 s2) ⟨rfl, by decide⟩ C (nm_12 hN) (by decide) rfl (Nat.le_of_ble_eq_true rfl) dX12_readActor_37 rfl (fun _ s4 => ?_)
      refine r_aload_n (q := 41) (i := 0) (z := 0) C dX12_readActor_40 rfl rfl rfl ?_
      refine r_aload_n (q := 42) (i := 0) (z := 0) C dX12_readActor_41 rfl rfl rfl ?_
      refine r_callVI (q := 45) (As := []) wm_X12_185 yvX12_isPay (c_X12_isPay Δ hN s4) ⟨rfl, by decide⟩ C (nm_12 hN) (by decide) rfl (Nat.le_of_ble_eq_true rfl) dX12_readActor_42 rfl (fun x5 s6 => ?_)
      refine r_callVV (q := 48) (As := [.int x5]) wm_X12_282 yvX12_must (c_X12_must Δ hN x5 s6) ⟨rfl, by decide⟩ C (nm_12 hN) (by decide) rfl (Nat.le_of_ble_eq_true rfl) dX12_readActor_45 rfl (fun _ s7 => ?_)
      refine r_aload_n (q := 49) (i := 0) (z := 0) C dX12_readActor_48 rfl rfl rfl ?_
      refine g_X12_35 (q := 52) C (nm_12 hN) dX12_readActor_49 rfl ?_
      refine r_sipush (q := 55) (v := 1727) C dX12_readActor_52 rfl (by decide) ?_
      refine r_iload_n (q := 56) (i := 1) (z := 1) C dX12_readActor_55 rfl rfl rfl ?_
      refine r_iadd (q := 57) C dX12_readActor_56 rfl ?_
      refine r_aload_n (q := 58) (i := 0) (z := 0) C dX12_readActor_57 rfl rfl rfl ?_
      refine r_iconst (q := 59) (v := 0) C dX12_readActor_58 rfl (by decide) ?_
      refine r_bipush (q := 61) (v := 99) C dX12_readActor_59 rfl (by decide) ?_
      refine r_callVI (q := 64) (As := [.int ((0 : Int32)), .int ((99 : Int32))]) wm_X12_292 yvX12_count (c_X12_count Δ hN ((0 : Int32)) ((99 : Int32)) s7) ⟨rfl, by decide⟩ C (nm_12 hN) (by decide) rfl (Nat.le_of_ble_eq_true rfl) dX12_readActor_61 rfl (fun x8 s9 => ?_)
      refine r_ast (q := 65) q_12_5 h_12_5 C (nm_12 hN) dX12_readActor_64 rfl (fun s10 => ?_)
      refine r_aload_n (q := 66) (i := 0) (z := 0) C dX12_readActor_65 rfl rfl rfl ?_
      refine r_aload_n (q := 67) (i := 0) (z := 0) C dX12_readActor_66 rfl rfl rfl ?_
      refine r_callVI (q := 70) (As := []) wm_X12_188 yvX12_isBreath (c_X12_isBreath Δ hN s10) ⟨rfl, by decide⟩ C (nm_12 hN) (by decide) rfl (Nat.le_of_ble_eq_true rfl) dX12_readActor_67 rfl (fun x11 s12 => ?_)
      refine r_callVV (q := 73) (As := [.int x11]) wm_X12_282 yvX12_must (c_X12_must Δ hN x11 s12) ⟨rfl, by decide⟩ C (nm_12 hN) (by decide) rfl (Nat.le_of_ble_eq_true rfl) dX12_readActor_70 rfl (fun _ s13 => ?_)
      refine r_aload_n (q := 74) (i := 0) (z := 0) C dX12_readActor_73 rfl rfl rfl ?_
      refine g_X12_35 (q := 77) C (nm_12 hN) dX12_readActor_74 rfl ?_
      refine r_sipush (q := 80) (v := 1733) C dX12_readActor_77 rfl (by decide) ?_
      refine r_iload_n (q := 81) (i := 1) (z := 1) C dX12_readActor_80 rfl rfl rfl ?_
      refine r_iadd (q := 82) C dX12_readActor_81 rfl ?_
      refine r_aload_n (q := 83) (i := 0) (z := 0) C dX12_readActor_82 rfl rfl rfl ?_
      refine r_iconst (q := 84) (v := 0) C dX12_readActor_83 rfl (by decide) ?_
      refine r_sipush (q := 87) (v := 999) C dX12_readActor_84 rfl (by decide) ?_
      refine r_callVI (q := 90) (As := [.int ((0 : Int32)), .int ((999 : Int32))]) wm_X12_292 yvX12_count (c_X12_count Δ hN ((0 : Int32)) ((999 : Int32)) s13) ⟨rfl, by decide⟩ C (nm_12 hN) (by decide) rfl (Nat.le_of_ble_eq_true rfl) dX12_readActor_87 rfl (fun x14 s15 => ?_)
      refine r_ast (q := 91) q_12_5 h_12_5 C (nm_12 hN) dX12_readActor_90 rfl (fun s16 => ?_)
      refine r_aload_n (q := 92) (i := 0) (z := 0) C dX12_readActor_91 rfl rfl rfl ?_
      refine g_X12_35 (q := 95) C (nm_12 hN) dX12_readActor_92 rfl ?_
      refine r_sipush (q := 98) (v := 1739) C dX12_readActor_95 rfl (by decide) ?_
      refine r_iload_n (q := 99) (i := 1) (z := 1) C dX12_readActor_98 rfl rfl rfl ?_
      refine r_iadd (q := 100) C dX12_readActor_99 rfl ?_
      refine r_aload_n (q := 101) (i := 0) (z := 0) C dX12_readActor_100 rfl rfl rfl ?_
      refine g_X12_249 (q := 104) C (nm_12 hN) dX12_readActor_101 rfl ?_
      refine r_join (fun j19 => ∀ (x17 : Int32) (s18 : fSt), fW Δ Γ 2 (fQ eV Δ Γ) 122 [(0, .ref (fad Δ 12 0 0))] [.int x17, .int (((1739 : Int32)) + x1), .ref (fad Δ 12 0 5)] s18 (j19 x17 s18)) ?_ (fun j19 hj19 => ?_)
      · intro x17 s18
        refine r_ast (q := 123) q_12_5 h_12_5 C (nm_12 hN) dX12_readActor_122 rfl (fun s20 => ?_)
        refine r_aload_n (q := 124) (i := 0) (z := 0) C dX12_readActor_123 rfl rfl rfl ?_
        refine g_X12_249 (q := 127) C (nm_12 hN) dX12_readActor_124 rfl ?_
        refine r_join (fun j22 => ∀  (s21 : fSt), fW Δ Γ 2 (fQ eV Δ Γ) 142 [] [] s21 (j22 s21)) ?_ (fun j22 hj22 => ?_)
        · intro s21
          exact r_vret C dX12_readActor_142
        refine r_if_ne (q := 130) (tgt := 142) C dX12_readActor_127 (by decide) rfl ?_ ?_
        · refine r_locs (lc' := []) [] rfl ?_
          exact hj22 s20
        · refine r_aload_n (q := 131) (i := 0) (z := 0) C dX12_readActor_130 rfl rfl rfl ?_
          refine g_X12_35 (q := 134) C (nm_12 hN) dX12_readActor_131 rfl ?_
          refine r_sipush (q := 137) (v := 1721) C dX12_readActor_134 rfl (by decide) ?_
          refine r_dup2 (q := 138) C dX12_readActor_137 rfl rfl rfl ?_
          refine r_ial (q := 139) q_12_5 h_12_5 C (nm_12 hN) dX12_readActor_138 rfl ?_
          refine r_iconst (q := 140) (v := 1) C dX12_readActor_139 rfl (by decide) ?_
          refine r_iadd (q := 141) C dX12_readActor_140 rfl ?_
          refine r_ast (q := 142) q_12_5 h_12_5 C (nm_12 hN) dX12_readActor_141 rfl (fun s23 => ?_)
          refine r_locs (lc' := []) [] rfl ?_
          exact hj22 s23
      refine r_join (fun j25 => ∀  (s24 : fSt), fW Δ Γ 2 (fQ eV Δ Γ) 121 [(0, .ref (fad Δ 12 0 0))] [.int (((1739 : Int32)) + x1), .ref (fad Δ 12 0 5)] s24 (j25 s24)) ?_ (fun j25 hj25 => ?_)
      · intro s24
        refine r_iconst (q := 122) (v := 0) C dX12_readActor_121 rfl (by decide) ?_
        exact hj19 ((0 : Int32)) s24
      refine r_if_ne (q := 107) (tgt := 121) C dX12_readActor_104 (by decide) rfl ?_ ?_
      · refine r_locs (lc' := [(0, .ref (fad Δ 12 0 0))]) [0] rfl ?_
        exact hj25 s16
      · refine r_aload_n (q := 108) (i := 0) (z := 0) C dX12_readActor_107 rfl rfl rfl ?_
        refine r_callVI (q := 111) (As := []) wm_X12_191 yvX12_isNot (c_X12_isNot Δ hN s16) ⟨rfl, by decide⟩ C (nm_12 hN) (by decide) rfl (Nat.le_of_ble_eq_true rfl) dX12_readActor_108 rfl (fun x26 s27 => ?_)
        refine r_if_eq (q := 114) (tgt := 121) C dX12_readActor_111 (by decide) rfl ?_ ?_
        · refine r_locs (lc' := [(0, .ref (fad Δ 12 0 0))]) [0] rfl ?_
          exact hj25 s27
        · refine r_aload_n (q := 115) (i := 0) (z := 0) C dX12_readActor_114 rfl rfl rfl ?_
          refine r_callVI (q := 118) (As := []) wm_X12_295 yvX12_readRoles (c_X12_readRoles Δ hN s27) ⟨rfl, by decide⟩ C (nm_12 hN) (by decide) rfl (Nat.le_of_ble_eq_true rfl) dX12_readActor_115 rfl (fun x28 s29 => ?_)
          refine r_goto (q := 122) C dX12_readActor_118 (by decide) ?_
          refine r_locs (lc' := [(0, .ref (fad Δ 12 0 0))]) [0] rfl ?_
          exact hj19 x28 s29
    · exact r_vret C dX12_readActor_32
  refine r_icmp_ne (q := 15) (tgt := 25) C dX12_readActor_12 (by decide) rfl ?_ ?_
  · refine r_locs (lc' := [(0, .ref (fad Δ 12 0 0)), (1, .int x1)]) [1, 0] rfl ?_
    exact hj3 st
  · refine r_aload_n (q := 16) (i := 0) (z := 1) C dX12_readActor_15 rfl rfl rfl ?_
    refine r_bipush (q := 18) (v := 6) C dX12_readActor_16 rfl (by decide) ?_
    refine r_aload_n (q := 19) (i := 0) (z := 1) C dX12_readActor_18 rfl rfl rfl ?_
    refine g_X12_139 (q := 22) C (nm_12 hN) dX12_readActor_19 rfl ?_
    refine r_callVV (q := 25) (As := [.int ((6 : Int32)), .int (gI st 12 0 15)]) wm_X12_255 yvX12_fail (c_X12_fail Δ hN ((6 : Int32)) (gI st 12 0 15) st) ⟨rfl, by decide⟩ C (nm_12 hN) (by decide) rfl (Nat.le_of_ble_eq_true rfl) dX12_readActor_22 rfl (fun _ s30 => ?_)
    refine r_locs (lc' := [(0, .ref (fad Δ 12 0 0)), (1, .int x1)]) [1, 0] rfl ?_
    exact hj3 s30

noncomputable def f_X12_readKind  (st : fSt) : Option (Unit × fSt) :=
  fIx ((1723 : Int32)) 2150 <|
  fLt (gA st 12 0 5 ((1723 : Int32)).toNatClampNeg) fun (x1 : Int32) =>
  fJn (fun (s2 : fSt) =>
    (if (gI s2 12 0 12) ≤ 0 then
      (fBd (f_X12_readNew ((24 : Int32)) x1 s2) fun _ s4 =>
      fBd (f_X12_isLots  s4) fun x5 s6 =>
      fBd (f_X12_must x5 s6) fun _ s7 =>
      fBd (f_X12_count ((1 : Int32)) ((30 : Int32)) s7) fun x8 s9 =>
      fIx (((1841 : Int32)) + x1) 2150 <|
      fLt (sA s9 12 0 5 (upd (gA s9 12 0 5) (((1841 : Int32)) + x1).toNatClampNeg x8)) fun s10 =>
      fBd (f_X12_isTears  s10) fun x11 s12 =>
      fBd (f_X12_must x11 s12) fun _ s13 =>
      fBd (f_X12_count ((0 : Int32)) ((16 : Int32)) s13) fun x14 s15 =>
      fLt x14 fun (x16 : Int32) =>
      fBd (f_X12_isLaughs  s15) fun x17 s18 =>
      fBd (f_X12_must x17 s18) fun _ s19 =>
      fBd (f_X12_count ((0 : Int32)) (((16 : Int32)) - x16) s19) fun x20 s21 =>
      fLt x20 fun (x22 : Int32) =>
      fBd (f_X12_isSleeps  s21) fun x23 s24 =>
      fBd (f_X12_must x23 s24) fun _ s25 =>
      fBd (f_X12_count ((0 : Int32)) ((((16 : Int32)) - x16) - x22) s25) fun x26 s27 =>
      fIx (((1853 : Int32)) + x1) 2150 <|
      fLt (sA s27 12 0 5 (upd (gA s27 12 0 5) (((1853 : Int32)) + x1).toNatClampNeg x26)) fun s28 =>
      fIx (((1845 : Int32)) + x1) 2150 <|
      fLt (sA s28 12 0 5 (upd (gA s28 12 0 5) (((1845 : Int32)) + x1).toNatClampNeg x16)) fun s29 =>
      fIx (((1849 : Int32)) + x1) 2150 <|
      fLt (sA s29 12 0 5 (upd (gA s29 12 0 5) (((1849 : Int32)) + x1).toNatClampNeg x22)) fun s30 =>
      fJn (fun (s31 : fSt) =>
        (some ((), s31))) fun (j32 : fSt → Option (Unit × fSt)) =>
      if ¬ (gI s30 12 0 12) = 0 then
        (j32 s30)
      else
        (fIx ((1723 : Int32)) 2150 <|
        fIx ((1723 : Int32)) 2150 <|
        fLt (sA s30 12 0 5 (upd (gA s30 12 0 5) ((1723 : Int32)).toNatClampNeg ((gA s30 12 0 5 ((1723 : Int32)).toNatClampNeg) + ((1 : Int32))))) fun s33 =>
        j32 s33))
    else
      (some ((), s2)))) fun (j3 : fSt → Option (Unit × fSt)) =>
  if ¬ x1 = ((4 : Int32)) then
    (j3 st)
  else
    (fBd (f_X12_fail ((6 : Int32)) (gI st 12 0 15) st) fun _ s34 =>
    j3 s34)

set_option maxHeartbeats 4000000 in
set_option maxRecDepth 100000 in
theorem c_X12_readKind (Δ : fDl) (hN : fNm Δ)   (st : fSt) : fMt eV Δ yX12_readKind cX12_readKind 4 none 6 [.ref (fad Δ 12 0 0)] st (f_X12_readKind  st) := by
  unfold f_X12_readKind
  refine r_method (by decide +kernel) (Nat.le_of_ble_eq_true rfl) (fun Γ C => ?_)
  have C : fC Δ Γ cX12_readKind RX12 4 none 6 := C
  refine r_locs (lc' := [(0, .ref (fad Δ 12 0 0))]) [0] rfl ?_
  refine r_aload_n (q := 1) (i := 0) (z := 0) C dX12_readKind_0 rfl rfl rfl ?_
  refine g_X12_35 (q := 4) C (nm_12 hN) dX12_readKind_1 rfl ?_
  refine r_sipush (q := 7) (v := 1723) C dX12_readKind_4 rfl (by decide) ?_
  refine r_ial (q := 8) q_12_5 h_12_5 C (nm_12 hN) dX12_readKind_7 rfl ?_
  refine r_istore_n (q := 9) (i := 1) [(0, .ref (fad Δ 12 0 0))] C dX12_readKind_8 rfl rfl (by decide) rfl (fun x1 => ?_)
  refine r_iload_n (q := 10) (i := 1) (z := 0) C dX12_readKind_9 rfl rfl rfl ?_
  refine r_iconst (q := 11) (v := 4) C dX12_readKind_10 rfl (by decide) ?_
  refine r_join (fun j3 => ∀  (s2 : fSt), fW Δ Γ 4 (fQ eV Δ Γ) 24 [(0, .ref (fad Δ 12 0 0)), (1, .int x1)] [] s2 (j3 s2)) ?_ (fun j3 hj3 => ?_)
  · intro s2
    refine r_aload_n (q := 25) (i := 0) (z := 0) C dX12_readKind_24 rfl rfl rfl ?_
    refine g_X12_249 (q := 28) C (nm_12 hN) dX12_readKind_25 rfl ?_
    refine r_if_le (q := 31) (tgt := 32) C dX12_readKind_28 (by decide) rfl ?_ ?_
    · refine r_aload_n (q := 33) (i := 0) (z := 0) C dX12_readKind_32 rfl rfl rfl ?_
      refine r_bipush (q := 35) (v := 24) C dX12_readKind_33 rfl (by decide) ?_
      refine r_iload_n (q := 36) (i := 1) (z := 1) C dX12_readKind_35 rfl rfl rfl ?_
      refine r_callVV (q := 39) (As := [.int ((24 : Int32)), .int x1]) wm_X12_289 yvX12_readNew (c_X12_readNew Δ hN ((24 : Int32)) x1 s2) ⟨rfl, by decide⟩ C (nm_12 hN) (by decide) rfl (Nat.le_of_ble_eq_true rfl) dX12_readKind_36 rfl (fun _ s4 => ?_)
      refine r_aload_n (q := 40) (i := 0) (z := 0) C dX12_readKind_39 rfl rfl rfl ?_
      refine r_aload_n (q := 41) (i := 0) (z := 0) C dX12_readKind_40 rfl rfl rfl ?_
      refine r_callVI (q := 44) (As := []) wm_X12_224 yvX12_isLots (c_X12_isLots Δ hN s4) ⟨rfl, by decide⟩ C (nm_12 hN) (by decide) rfl (Nat.le_of_ble_eq_true rfl) dX12_readKind_41 rfl (fun x5 s6 => ?_)
      refine r_callVV (q := 47) (As := [.int x5]) wm_X12_282 yvX12_must (c_X12_must Δ hN x5 s6) ⟨rfl, by decide⟩ C (nm_12 hN) (by decide) rfl (Nat.le_of_ble_eq_true rfl) dX12_readKind_44 rfl (fun _ s7 => ?_)
      refine r_aload_n (q := 48) (i := 0) (z := 0) C dX12_readKind_47 rfl rfl rfl ?_
      refine g_X12_35 (q := 51) C (nm_12 hN) dX12_readKind_48 rfl ?_
      refine r_sipush (q := 54) (v := 1841) C dX12_readKind_51 rfl (by decide) ?_
      refine r_iload_n (q := 55) (i := 1) (z := 1) C dX12_readKind_54 rfl rfl rfl ?_
      refine r_iadd (q := 56) C dX12_readKind_55 rfl ?_
      refine r_aload_n (q := 57) (i := 0) (z := 0) C dX12_readKind_56 rfl rfl rfl ?_
      refine r_iconst (q := 58) (v := 1) C dX12_readKind_57 rfl (by decide) ?_
      refine r_bipush (q := 60) (v := 30) C dX12_readKind_58 rfl (by decide) ?_
      refine r_callVI (q := 63) (As := [.int ((1 : Int32)), .int ((30 : Int32))]) wm_X12_292 yvX12_count (c_X12_count Δ hN ((1 : Int32)) ((30 : Int32)) s7) ⟨rfl, by decide⟩ C (nm_12 hN) (by decide) rfl (Nat.le_of_ble_eq_true rfl) dX12_readKind_60 rfl (fun x8 s9 => ?_)
      refine r_ast (q := 64) q_12_5 h_12_5 C (nm_12 hN) dX12_readKind_63 rfl (fun s10 => ?_)
      refine r_aload_n (q := 65) (i := 0) (z := 0) C dX12_readKind_64 rfl rfl rfl ?_
      refine r_aload_n (q := 66) (i := 0) (z := 0) C dX12_readKind_65 rfl rfl rfl ?_
      refine r_callVI (q := 69) (As := []) wm_X12_227 yvX12_isTears (c_X12_isTears Δ hN s10) ⟨rfl, by decide⟩ C (nm_12 hN) (by decide) rfl (Nat.le_of_ble_eq_true rfl) dX12_readKind_66 rfl (fun x11 s12 => ?_)
      refine r_callVV (q := 72) (As := [.int x11]) wm_X12_282 yvX12_must (c_X12_must Δ hN x11 s12) ⟨rfl, by decide⟩ C (nm_12 hN) (by decide) rfl (Nat.le_of_ble_eq_true rfl) dX12_readKind_69 rfl (fun _ s13 => ?_)
      refine r_aload_n (q := 73) (i := 0) (z := 0) C dX12_readKind_72 rfl rfl rfl ?_
      refine r_iconst (q := 74) (v := 0) C dX12_readKind_73 rfl (by decide) ?_
      refine r_bipush (q := 76) (v := 16) C dX12_readKind_74 rfl (by decide) ?_
      refine r_callVI (q := 79) (As := [.int ((0 : Int32)), .int ((16 : Int32))]) wm_X12_292 yvX12_count (c_X12_count Δ hN ((0 : Int32)) ((16 : Int32)) s13) ⟨rfl, by decide⟩ C (nm_12 hN) (by decide) rfl (Nat.le_of_ble_eq_true rfl) dX12_readKind_76 rfl (fun x14 s15 => ?_)
      refine r_istore_n (q := 80) (i := 2) [(0, .ref (fad Δ 12 0 0)), (1, .int x1)] C dX12_readKind_79 rfl rfl (by decide) rfl (fun x16 => ?_)
      refine r_aload_n (q := 81) (i := 0) (z := 1) C dX12_readKind_80 rfl rfl rfl ?_
      refine r_aload_n (q := 82) (i := 0) (z := 1) C dX12_readKind_81 rfl rfl rfl ?_
      refine r_callVI (q := 85) (As := []) wm_X12_230 yvX12_isLaughs (c_X12_isLaughs Δ hN s15) ⟨rfl, by decide⟩ C (nm_12 hN) (by decide) rfl (Nat.le_of_ble_eq_true rfl) dX12_readKind_82 rfl (fun x17 s18 => ?_)
      refine r_callVV (q := 88) (As := [.int x17]) wm_X12_282 yvX12_must (c_X12_must Δ hN x17 s18) ⟨rfl, by decide⟩ C (nm_12 hN) (by decide) rfl (Nat.le_of_ble_eq_true rfl) dX12_readKind_85 rfl (fun _ s19 => ?_)
      refine r_aload_n (q := 89) (i := 0) (z := 1) C dX12_readKind_88 rfl rfl rfl ?_
      refine r_iconst (q := 90) (v := 0) C dX12_readKind_89 rfl (by decide) ?_
      refine r_bipush (q := 92) (v := 16) C dX12_readKind_90 rfl (by decide) ?_
      refine r_iload_n (q := 93) (i := 2) (z := 0) C dX12_readKind_92 rfl rfl rfl ?_
      refine r_isub (q := 94) C dX12_readKind_93 rfl ?_
      refine r_callVI (q := 97) (As := [.int ((0 : Int32)), .int (((16 : Int32)) - x16)]) wm_X12_292 yvX12_count (c_X12_count Δ hN ((0 : Int32)) (((16 : Int32)) - x16) s19) ⟨rfl, by decide⟩ C (nm_12 hN) (by decide) rfl (Nat.le_of_ble_eq_true rfl) dX12_readKind_94 rfl (fun x20 s21 => ?_)
      refine r_istore_n (q := 98) (i := 3) [(2, .int x16), (0, .ref (fad Δ 12 0 0)), (1, .int x1)] C dX12_readKind_97 rfl rfl (by decide) rfl (fun x22 => ?_)
      refine r_aload_n (q := 99) (i := 0) (z := 2) C dX12_readKind_98 rfl rfl rfl ?_
      refine r_aload_n (q := 100) (i := 0) (z := 2) C dX12_readKind_99 rfl rfl rfl ?_
      refine r_callVI (q := 103) (As := []) wm_X12_233 yvX12_isSleeps (c_X12_isSleeps Δ hN s21) ⟨rfl, by decide⟩ C (nm_12 hN) (by decide) rfl (Nat.le_of_ble_eq_true rfl) dX12_readKind_100 rfl (fun x23 s24 => ?_)
      refine r_callVV (q := 106) (As := [.int x23]) wm_X12_282 yvX12_must (c_X12_must Δ hN x23 s24) ⟨rfl, by decide⟩ C (nm_12 hN) (by decide) rfl (Nat.le_of_ble_eq_true rfl) dX12_readKind_103 rfl (fun _ s25 => ?_)
      refine r_aload_n (q := 107) (i := 0) (z := 2) C dX12_readKind_106 rfl rfl rfl ?_
      refine g_X12_35 (q := 110) C (nm_12 hN) dX12_readKind_107 rfl ?_
      refine r_sipush (q := 113) (v := 1853) C dX12_readKind_110 rfl (by decide) ?_
      refine r_iload_n (q := 114) (i := 1) (z := 3) C dX12_readKind_113 rfl rfl rfl ?_
      refine r_iadd (q := 115) C dX12_readKind_114 rfl ?_
      refine r_aload_n (q := 116) (i := 0) (z := 2) C dX12_readKind_115 rfl rfl rfl ?_
      refine r_iconst (q := 117) (v := 0) C dX12_readKind_116 rfl (by decide) ?_
      refine r_bipush (q := 119) (v := 16) C dX12_readKind_117 rfl (by decide) ?_
      refine r_iload_n (q := 120) (i := 2) (z := 1) C dX12_readKind_119 rfl rfl rfl ?_
      refine r_isub (q := 121) C dX12_readKind_120 rfl ?_
      refine r_iload_n (q := 122) (i := 3) (z := 0) C dX12_readKind_121 rfl rfl rfl ?_
      refine r_isub (q := 123) C dX12_readKind_122 rfl ?_
      refine r_callVI (q := 126) (As := [.int ((0 : Int32)), .int ((((16 : Int32)) - x16) - x22)]) wm_X12_292 yvX12_count (c_X12_count Δ hN ((0 : Int32)) ((((16 : Int32)) - x16) - x22) s25) ⟨rfl, by decide⟩ C (nm_12 hN) (by decide) rfl (Nat.le_of_ble_eq_true rfl) dX12_readKind_123 rfl (fun x26 s27 => ?_)
      refine r_ast (q := 127) q_12_5 h_12_5 C (nm_12 hN) dX12_readKind_126 rfl (fun s28 => ?_)
      refine r_aload_n (q := 128) (i := 0) (z := 2) C dX12_readKind_127 rfl rfl rfl ?_
      refine g_X12_35 (q := 131) C (nm_12 hN) dX12_readKind_128 rfl ?_
      refine r_sipush (q := 134) (v := 1845) C dX12_readKind_131 rfl (by decide) ?_
      refine r_iload_n (q := 135) (i := 1) (z := 3) C dX12_readKind_134 rfl rfl rfl ?_
      refine r_iadd (q := 136) C dX12_readKind_135 rfl ?_
      refine r_iload_n (q := 137) (i := 2) (z := 1) C dX12_readKind_136 rfl rfl rfl ?_
      refine r_ast (q := 138) q_12_5 h_12_5 C (nm_12 hN) dX12_readKind_137 rfl (fun s29 => ?_)
      refine r_aload_n (q := 139) (i := 0) (z := 2) C dX12_readKind_138 rfl rfl rfl ?_
      refine g_X12_35 (q := 142) C (nm_12 hN) dX12_readKind_139 rfl ?_
      refine r_sipush (q := 145) (v := 1849) C dX12_readKind_142 rfl (by decide) ?_
      refine r_iload_n (q := 146) (i := 1) (z := 3) C dX12_readKind_145 rfl rfl rfl ?_
      refine r_iadd (q := 147) C dX12_readKind_146 rfl ?_
      refine r_iload_n (q := 148) (i := 3) (z := 0) C dX12_readKind_147 rfl rfl rfl ?_
      refine r_ast (q := 149) q_12_5 h_12_5 C (nm_12 hN) dX12_readKind_148 rfl (fun s30 => ?_)
      refine r_aload_n (q := 150) (i := 0) (z := 2) C dX12_readKind_149 rfl rfl rfl ?_
      refine g_X12_249 (q := 153) C (nm_12 hN) dX12_readKind_150 rfl ?_
      refine r_join (fun j32 => ∀  (s31 : fSt), fW Δ Γ 4 (fQ eV Δ Γ) 168 [] [] s31 (j32 s31)) ?_ (fun j32 hj32 => ?_)
      · intro s31
        exact r_vret C dX12_readKind_168
      refine r_if_ne (q := 156) (tgt := 168) C dX12_readKind_153 (by decide) rfl ?_ ?_
      · refine r_locs (lc' := []) [] rfl ?_
        exact hj32 s30
      · refine r_aload_n (q := 157) (i := 0) (z := 2) C dX12_readKind_156 rfl rfl rfl ?_
        refine g_X12_35 (q := 160) C (nm_12 hN) dX12_readKind_157 rfl ?_
        refine r_sipush (q := 163) (v := 1723) C dX12_readKind_160 rfl (by decide) ?_
        refine r_dup2 (q := 164) C dX12_readKind_163 rfl rfl rfl ?_
        refine r_ial (q := 165) q_12_5 h_12_5 C (nm_12 hN) dX12_readKind_164 rfl ?_
        refine r_iconst (q := 166) (v := 1) C dX12_readKind_165 rfl (by decide) ?_
        refine r_iadd (q := 167) C dX12_readKind_166 rfl ?_
        refine r_ast (q := 168) q_12_5 h_12_5 C (nm_12 hN) dX12_readKind_167 rfl (fun s33 => ?_)
        refine r_locs (lc' := []) [] rfl ?_
        exact hj32 s33
    · exact r_vret C dX12_readKind_31
  refine r_icmp_ne (q := 14) (tgt := 24) C dX12_readKind_11 (by decide) rfl ?_ ?_
  · refine r_locs (lc' := [(0, .ref (fad Δ 12 0 0)), (1, .int x1)]) [1, 0] rfl ?_
    exact hj3 st
  · refine r_aload_n (q := 15) (i := 0) (z := 1) C dX12_readKind_14 rfl rfl rfl ?_
    refine r_bipush (q := 17) (v := 6) C dX12_readKind_15 rfl (by decide) ?_
    refine r_aload_n (q := 18) (i := 0) (z := 1) C dX12_readKind_17 rfl rfl rfl ?_
    refine g_X12_139 (q := 21) C (nm_12 hN) dX12_readKind_18 rfl ?_
    refine r_callVV (q := 24) (As := [.int ((6 : Int32)), .int (gI st 12 0 15)]) wm_X12_255 yvX12_fail (c_X12_fail Δ hN ((6 : Int32)) (gI st 12 0 15) st) ⟨rfl, by decide⟩ C (nm_12 hN) (by decide) rfl (Nat.le_of_ble_eq_true rfl) dX12_readKind_21 rfl (fun _ s34 => ?_)
    refine r_locs (lc' := [(0, .ref (fad Δ 12 0 0)), (1, .int x1)]) [1, 0] rfl ?_
    exact hj3 s34

noncomputable def f_X12_readScene2  (st : fSt) : Option (Int32 × fSt) :=
  fIx ((2 : Int32)) 2150 <|
  fBd (f_X12_readTold ((0 : Int32)) ((12 : Int32)) (gA st 12 0 5 ((2 : Int32)).toNatClampNeg) st) fun x1 s2 =>
  some (x1, s2)

set_option maxHeartbeats 4000000 in
set_option maxRecDepth 100000 in
theorem c_X12_readScene2 (Δ : fDl) (hN : fNm Δ)   (st : fSt) : fMt eI Δ yX12_readScene2 cX12_readScene2 1 (some .int) 6 [.ref (fad Δ 12 0 0)] st (f_X12_readScene2  st) := by
  unfold f_X12_readScene2
  refine r_method (by decide +kernel) (Nat.le_of_ble_eq_true rfl) (fun Γ C => ?_)
  have C : fC Δ Γ cX12_readScene2 RX12 1 (some .int) 6 := C
  refine r_locs (lc' := [(0, .ref (fad Δ 12 0 0))]) [0] rfl ?_
  refine r_aload_n (q := 1) (i := 0) (z := 0) C dX12_readScene2_0 rfl rfl rfl ?_
  refine r_iconst (q := 2) (v := 0) C dX12_readScene2_1 rfl (by decide) ?_
  refine r_bipush (q := 4) (v := 12) C dX12_readScene2_2 rfl (by decide) ?_
  refine r_aload_n (q := 5) (i := 0) (z := 0) C dX12_readScene2_4 rfl rfl rfl ?_
  refine g_X12_35 (q := 8) C (nm_12 hN) dX12_readScene2_5 rfl ?_
  refine r_iconst (q := 9) (v := 2) C dX12_readScene2_8 rfl (by decide) ?_
  refine r_ial (q := 10) q_12_5 h_12_5 C (nm_12 hN) dX12_readScene2_9 rfl ?_
  refine r_callVI (q := 13) (As := [.int ((0 : Int32)), .int ((12 : Int32)), .int (gA st 12 0 5 ((2 : Int32)).toNatClampNeg)]) wm_X12_286 yvX12_readTold (c_X12_readTold Δ hN ((0 : Int32)) ((12 : Int32)) (gA st 12 0 5 ((2 : Int32)).toNatClampNeg) st) ⟨rfl, by decide⟩ C (nm_12 hN) (by decide) rfl (Nat.le_of_ble_eq_true rfl) dX12_readScene2_10 rfl (fun x1 s2 => ?_)
  exact r_iret C dX12_readScene2_13

noncomputable def f_X12_readRole2  (st : fSt) : Option (Int32 × fSt) :=
  fIx ((0 : Int32)) 2150 <|
  fBd (f_X12_readTold ((0 : Int32)) ((0 : Int32)) (gA st 12 0 5 ((0 : Int32)).toNatClampNeg) st) fun x1 s2 =>
  some (x1, s2)

set_option maxHeartbeats 4000000 in
set_option maxRecDepth 100000 in
theorem c_X12_readRole2 (Δ : fDl) (hN : fNm Δ)   (st : fSt) : fMt eI Δ yX12_readRole2 cX12_readRole2 1 (some .int) 6 [.ref (fad Δ 12 0 0)] st (f_X12_readRole2  st) := by
  unfold f_X12_readRole2
  refine r_method (by decide +kernel) (Nat.le_of_ble_eq_true rfl) (fun Γ C => ?_)
  have C : fC Δ Γ cX12_readRole2 RX12 1 (some .int) 6 := C
  refine r_locs (lc' := [(0, .ref (fad Δ 12 0 0))]) [0] rfl ?_
  refine r_aload_n (q := 1) (i := 0) (z := 0) C dX12_readRole2_0 rfl rfl rfl ?_
  refine r_iconst (q := 2) (v := 0) C dX12_readRole2_1 rfl (by decide) ?_
  refine r_iconst (q := 3) (v := 0) C dX12_readRole2_2 rfl (by decide) ?_
  refine r_aload_n (q := 4) (i := 0) (z := 0) C dX12_readRole2_3 rfl rfl rfl ?_
  refine g_X12_35 (q := 7) C (nm_12 hN) dX12_readRole2_4 rfl ?_
  refine r_iconst (q := 8) (v := 0) C dX12_readRole2_7 rfl (by decide) ?_
  refine r_ial (q := 9) q_12_5 h_12_5 C (nm_12 hN) dX12_readRole2_8 rfl ?_
  refine r_callVI (q := 12) (As := [.int ((0 : Int32)), .int ((0 : Int32)), .int (gA st 12 0 5 ((0 : Int32)).toNatClampNeg)]) wm_X12_286 yvX12_readTold (c_X12_readTold Δ hN ((0 : Int32)) ((0 : Int32)) (gA st 12 0 5 ((0 : Int32)).toNatClampNeg) st) ⟨rfl, by decide⟩ C (nm_12 hN) (by decide) rfl (Nat.le_of_ble_eq_true rfl) dX12_readRole2_9 rfl (fun x1 s2 => ?_)
  exact r_iret C dX12_readRole2_12

noncomputable def f_X12_readTest (a1 : Int32) (st : fSt) : Option (Unit × fSt) :=
  fBd (f_X12_testWord  st) fun x1 s2 =>
  fLt x1 fun (x3 : Int32) =>
  fJn (fun (x4 : Int32) (s5 : fSt) =>
    (fBd (f_X12_must x4 s5) fun _ s7 =>
    fIx (a1 + ((2 : Int32))) 2150 <|
    fLt (sA s7 12 0 5 (upd (gA s7 12 0 5) (a1 + ((2 : Int32))).toNatClampNeg x3)) fun s8 =>
    fJn (fun (s9 : fSt) =>
      (some ((), s9))) fun (j10 : fSt → Option (Unit × fSt)) =>
    if ¬ x3 = 0 then
      (if ¬ x3 = ((1 : Int32)) then
        (if ¬ x3 = ((2 : Int32)) then
          (if ¬ x3 = ((3 : Int32)) then
            (j10 s8)
          else
            (fJn (fun (x11 : Int32) (s12 : fSt) =>
              (fIx (a1 + ((3 : Int32))) 2150 <|
              fLt (sA s12 12 0 5 (upd (gA s12 12 0 5) (a1 + ((3 : Int32))).toNatClampNeg x11)) fun s14 =>
              fBd (f_X12_isSign ((60 : Int32)) s14) fun x15 s16 =>
              fJn (fun (x17 : Int32) (s18 : fSt) =>
                (fBd (f_X12_must x17 s18) fun _ s20 =>
                fBd (f_X12_count ((0 : Int32)) ((99 : Int32)) s20) fun x21 s22 =>
                fIx (a1 + ((4 : Int32))) 2150 <|
                fLt (sA s22 12 0 5 (upd (gA s22 12 0 5) (a1 + ((4 : Int32))).toNatClampNeg x21)) fun s23 =>
                j10 s23)) fun (j19 : Int32 → fSt → Option (Unit × fSt)) =>
              fJn (fun (s24 : fSt) =>
                (j19 ((1 : Int32)) s24)) fun (j25 : fSt → Option (Unit × fSt)) =>
              if ¬ x15 = 0 then
                (j25 s16)
              else
                (fBd (f_X12_isSign ((62 : Int32)) s16) fun x26 s27 =>
                if ¬ x26 = 0 then
                  (j25 s27)
                else
                  (fBd (f_X12_isSign ((61 : Int32)) s27) fun x28 s29 =>
                  if x28 = 0 then
                    (j19 ((0 : Int32)) s29)
                  else
                    (j25 s29))))) fun (j13 : Int32 → fSt → Option (Unit × fSt)) =>
            if ¬ (gI s8 12 0 14) = ((3 : Int32)) then
              (j13 ((0 : Int32)) s8)
            else
              (j13 (gI s8 12 0 17) s8)))
        else
          (fBd (f_X12_count ((0 : Int32)) ((9 : Int32)) s8) fun x30 s31 =>
          fIx (a1 + ((1 : Int32))) 2150 <|
          fLt (sA s31 12 0 5 (upd (gA s31 12 0 5) (a1 + ((1 : Int32))).toNatClampNeg x30)) fun s32 =>
          j10 s32))
      else
        (fBd (f_X12_readRole2  s8) fun x33 s34 =>
        fIx (a1 + ((1 : Int32))) 2150 <|
        fLt (sA s34 12 0 5 (upd (gA s34 12 0 5) (a1 + ((1 : Int32))).toNatClampNeg x33)) fun s35 =>
        j10 s35))
    else
      (fBd (f_X12_readScene2  s8) fun x36 s37 =>
      fIx (a1 + ((1 : Int32))) 2150 <|
      fLt (sA s37 12 0 5 (upd (gA s37 12 0 5) (a1 + ((1 : Int32))).toNatClampNeg x36)) fun s38 =>
      j10 s38))) fun (j6 : Int32 → fSt → Option (Unit × fSt)) =>
  if x3 < 0 then
    (j6 ((0 : Int32)) s2)
  else
    (j6 ((1 : Int32)) s2)

set_option maxHeartbeats 4000000 in
set_option maxRecDepth 100000 in
theorem c_X12_readTest (Δ : fDl) (hN : fNm Δ) (a1 : Int32)  (st : fSt) : fMt eV Δ yX12_readTest cX12_readTest 3 none 7 [.ref (fad Δ 12 0 0), .int a1] st (f_X12_readTest a1 st) := by
  unfold f_X12_readTest
  refine r_method (by decide +kernel) (Nat.le_of_ble_eq_true rfl) (fun Γ C => ?_)
  have C : fC Δ Γ cX12_readTest RX12 3 none 7 := C
  refine r_locs (lc' := [(0, .ref (fad Δ 12 0 0)), (1, .int a1)]) [0, 1] rfl ?_
  refine r_aload_n (q := 1) (i := 0) (z := 0) C dX12_readTest_0 rfl rfl rfl ?_
  refine r_callVI (q := 4) (As := []) wm_X12_240 yvX12_testWord (c_X12_testWord Δ hN st) ⟨rfl, by decide⟩ C (nm_12 hN) (by decide) rfl (Nat.le_of_ble_eq_true rfl) dX12_readTest_1 rfl (fun x1 s2 => ?_)
  refine r_istore_n (q := 5) (i := 2) [(0, .ref (fad Δ 12 0 0)), (1, .int a1)] C dX12_readTest_4 rfl rfl (by decide) rfl (fun x3 => ?_)
  refine r_aload_n (q := 6) (i := 0) (z := 1) C dX12_readTest_5 rfl rfl rfl ?_
  refine r_iload_n (q := 7) (i := 2) (z := 0) C dX12_readTest_6 rfl rfl rfl ?_
  refine r_join (fun j6 => ∀ (x4 : Int32) (s5 : fSt), fW Δ Γ 3 (fQ eV Δ Γ) 15 [(0, .ref (fad Δ 12 0 0)), (1, .int a1), (2, .int x3)] [.int x4, .ref (fad Δ 12 0 0)] s5 (j6 x4 s5)) ?_ (fun j6 hj6 => ?_)
  · intro x4 s5
    refine r_callVV (q := 18) (As := [.int x4]) wm_X12_282 yvX12_must (c_X12_must Δ hN x4 s5) ⟨rfl, by decide⟩ C (nm_12 hN) (by decide) rfl (Nat.le_of_ble_eq_true rfl) dX12_readTest_15 rfl (fun _ s7 => ?_)
    refine r_aload_n (q := 19) (i := 0) (z := 0) C dX12_readTest_18 rfl rfl rfl ?_
    refine g_X12_35 (q := 22) C (nm_12 hN) dX12_readTest_19 rfl ?_
    refine r_iload_n (q := 23) (i := 1) (z := 1) C dX12_readTest_22 rfl rfl rfl ?_
    refine r_iconst (q := 24) (v := 2) C dX12_readTest_23 rfl (by decide) ?_
    refine r_iadd (q := 25) C dX12_readTest_24 rfl ?_
    refine r_iload_n (q := 26) (i := 2) (z := 2) C dX12_readTest_25 rfl rfl rfl ?_
    refine r_ast (q := 27) q_12_5 h_12_5 C (nm_12 hN) dX12_readTest_26 rfl (fun s8 => ?_)
    refine r_iload_n (q := 28) (i := 2) (z := 2) C dX12_readTest_27 rfl rfl rfl ?_
    refine r_join (fun j10 => ∀  (s9 : fSt), fW Δ Γ 3 (fQ eV Δ Γ) 169 [] [] s9 (j10 s9)) ?_ (fun j10 hj10 => ?_)
    · intro s9
      exact r_vret C dX12_readTest_169
    refine r_if_ne (q := 31) (tgt := 46) C dX12_readTest_28 (by decide) rfl ?_ ?_
    · refine r_iload_n (q := 47) (i := 2) (z := 2) C dX12_readTest_46 rfl rfl rfl ?_
      refine r_iconst (q := 48) (v := 1) C dX12_readTest_47 rfl (by decide) ?_
      refine r_icmp_ne (q := 51) (tgt := 66) C dX12_readTest_48 (by decide) rfl ?_ ?_
      · refine r_iload_n (q := 67) (i := 2) (z := 2) C dX12_readTest_66 rfl rfl rfl ?_
        refine r_iconst (q := 68) (v := 2) C dX12_readTest_67 rfl (by decide) ?_
        refine r_icmp_ne (q := 71) (tgt := 89) C dX12_readTest_68 (by decide) rfl ?_ ?_
        · refine r_iload_n (q := 90) (i := 2) (z := 2) C dX12_readTest_89 rfl rfl rfl ?_
          refine r_iconst (q := 91) (v := 3) C dX12_readTest_90 rfl (by decide) ?_
          refine r_icmp_ne (q := 94) (tgt := 169) C dX12_readTest_91 (by decide) rfl ?_ ?_
          · refine r_locs (lc' := []) [] rfl ?_
            exact hj10 s8
          · refine r_aload_n (q := 95) (i := 0) (z := 0) C dX12_readTest_94 rfl rfl rfl ?_
            refine g_X12_35 (q := 98) C (nm_12 hN) dX12_readTest_95 rfl ?_
            refine r_iload_n (q := 99) (i := 1) (z := 1) C dX12_readTest_98 rfl rfl rfl ?_
            refine r_iconst (q := 100) (v := 3) C dX12_readTest_99 rfl (by decide) ?_
            refine r_iadd (q := 101) C dX12_readTest_100 rfl ?_
            refine r_aload_n (q := 102) (i := 0) (z := 0) C dX12_readTest_101 rfl rfl rfl ?_
            refine g_X12_145 (q := 105) C (nm_12 hN) dX12_readTest_102 rfl ?_
            refine r_iconst (q := 106) (v := 3) C dX12_readTest_105 rfl (by decide) ?_
            refine r_join (fun j13 => ∀ (x11 : Int32) (s12 : fSt), fW Δ Γ 3 (fQ eV Δ Γ) 117 [(0, .ref (fad Δ 12 0 0)), (1, .int a1)] [.int x11, .int (a1 + ((3 : Int32))), .ref (fad Δ 12 0 5)] s12 (j13 x11 s12)) ?_ (fun j13 hj13 => ?_)
            · intro x11 s12
              refine r_ast (q := 118) q_12_5 h_12_5 C (nm_12 hN) dX12_readTest_117 rfl (fun s14 => ?_)
              refine r_aload_n (q := 119) (i := 0) (z := 0) C dX12_readTest_118 rfl rfl rfl ?_
              refine r_aload_n (q := 120) (i := 0) (z := 0) C dX12_readTest_119 rfl rfl rfl ?_
              refine r_bipush (q := 122) (v := 60) C dX12_readTest_120 rfl (by decide) ?_
              refine r_callVI (q := 125) (As := [.int ((60 : Int32))]) wm_X12_318 yvX12_isSign (c_X12_isSign Δ hN ((60 : Int32)) s14) ⟨rfl, by decide⟩ C (nm_12 hN) (by decide) rfl (Nat.le_of_ble_eq_true rfl) dX12_readTest_122 rfl (fun x15 s16 => ?_)
              refine r_join (fun j19 => ∀ (x17 : Int32) (s18 : fSt), fW Δ Γ 3 (fQ eV Δ Γ) 151 [(0, .ref (fad Δ 12 0 0)), (1, .int a1)] [.int x17, .ref (fad Δ 12 0 0)] s18 (j19 x17 s18)) ?_ (fun j19 hj19 => ?_)
              · intro x17 s18
                refine r_callVV (q := 154) (As := [.int x17]) wm_X12_282 yvX12_must (c_X12_must Δ hN x17 s18) ⟨rfl, by decide⟩ C (nm_12 hN) (by decide) rfl (Nat.le_of_ble_eq_true rfl) dX12_readTest_151 rfl (fun _ s20 => ?_)
                refine r_aload_n (q := 155) (i := 0) (z := 0) C dX12_readTest_154 rfl rfl rfl ?_
                refine g_X12_35 (q := 158) C (nm_12 hN) dX12_readTest_155 rfl ?_
                refine r_iload_n (q := 159) (i := 1) (z := 1) C dX12_readTest_158 rfl rfl rfl ?_
                refine r_iconst (q := 160) (v := 4) C dX12_readTest_159 rfl (by decide) ?_
                refine r_iadd (q := 161) C dX12_readTest_160 rfl ?_
                refine r_aload_n (q := 162) (i := 0) (z := 0) C dX12_readTest_161 rfl rfl rfl ?_
                refine r_iconst (q := 163) (v := 0) C dX12_readTest_162 rfl (by decide) ?_
                refine r_bipush (q := 165) (v := 99) C dX12_readTest_163 rfl (by decide) ?_
                refine r_callVI (q := 168) (As := [.int ((0 : Int32)), .int ((99 : Int32))]) wm_X12_292 yvX12_count (c_X12_count Δ hN ((0 : Int32)) ((99 : Int32)) s20) ⟨rfl, by decide⟩ C (nm_12 hN) (by decide) rfl (Nat.le_of_ble_eq_true rfl) dX12_readTest_165 rfl (fun x21 s22 => ?_)
                refine r_ast (q := 169) q_12_5 h_12_5 C (nm_12 hN) dX12_readTest_168 rfl (fun s23 => ?_)
                refine r_locs (lc' := []) [] rfl ?_
                exact hj10 s23
              refine r_join (fun j25 => ∀  (s24 : fSt), fW Δ Γ 3 (fQ eV Δ Γ) 146 [(0, .ref (fad Δ 12 0 0)), (1, .int a1)] [.ref (fad Δ 12 0 0)] s24 (j25 s24)) ?_ (fun j25 hj25 => ?_)
              · intro s24
                refine r_iconst (q := 147) (v := 1) C dX12_readTest_146 rfl (by decide) ?_
                refine r_goto (q := 151) C dX12_readTest_147 (by decide) ?_
                exact hj19 ((1 : Int32)) s24
              refine r_if_ne (q := 128) (tgt := 146) C dX12_readTest_125 (by decide) rfl ?_ ?_
              · exact hj25 s16
              · refine r_aload_n (q := 129) (i := 0) (z := 0) C dX12_readTest_128 rfl rfl rfl ?_
                refine r_bipush (q := 131) (v := 62) C dX12_readTest_129 rfl (by decide) ?_
                refine r_callVI (q := 134) (As := [.int ((62 : Int32))]) wm_X12_318 yvX12_isSign (c_X12_isSign Δ hN ((62 : Int32)) s16) ⟨rfl, by decide⟩ C (nm_12 hN) (by decide) rfl (Nat.le_of_ble_eq_true rfl) dX12_readTest_131 rfl (fun x26 s27 => ?_)
                refine r_if_ne (q := 137) (tgt := 146) C dX12_readTest_134 (by decide) rfl ?_ ?_
                · exact hj25 s27
                · refine r_aload_n (q := 138) (i := 0) (z := 0) C dX12_readTest_137 rfl rfl rfl ?_
                  refine r_bipush (q := 140) (v := 61) C dX12_readTest_138 rfl (by decide) ?_
                  refine r_callVI (q := 143) (As := [.int ((61 : Int32))]) wm_X12_318 yvX12_isSign (c_X12_isSign Δ hN ((61 : Int32)) s27) ⟨rfl, by decide⟩ C (nm_12 hN) (by decide) rfl (Nat.le_of_ble_eq_true rfl) dX12_readTest_140 rfl (fun x28 s29 => ?_)
                  refine r_if_eq (q := 146) (tgt := 150) C dX12_readTest_143 (by decide) rfl ?_ ?_
                  · refine r_iconst (q := 151) (v := 0) C dX12_readTest_150 rfl (by decide) ?_
                    exact hj19 ((0 : Int32)) s29
                  · exact hj25 s29
            refine r_icmp_ne (q := 109) (tgt := 116) C dX12_readTest_106 (by decide) rfl ?_ ?_
            · refine r_iconst (q := 117) (v := 0) C dX12_readTest_116 rfl (by decide) ?_
              refine r_locs (lc' := [(0, .ref (fad Δ 12 0 0)), (1, .int a1)]) [0, 1] rfl ?_
              exact hj13 ((0 : Int32)) s8
            · refine r_aload_n (q := 110) (i := 0) (z := 0) C dX12_readTest_109 rfl rfl rfl ?_
              refine g_X12_164 (q := 113) C (nm_12 hN) dX12_readTest_110 rfl ?_
              refine r_goto (q := 117) C dX12_readTest_113 (by decide) ?_
              refine r_locs (lc' := [(0, .ref (fad Δ 12 0 0)), (1, .int a1)]) [0, 1] rfl ?_
              exact hj13 (gI s8 12 0 17) s8
        · refine r_aload_n (q := 72) (i := 0) (z := 0) C dX12_readTest_71 rfl rfl rfl ?_
          refine g_X12_35 (q := 75) C (nm_12 hN) dX12_readTest_72 rfl ?_
          refine r_iload_n (q := 76) (i := 1) (z := 1) C dX12_readTest_75 rfl rfl rfl ?_
          refine r_iconst (q := 77) (v := 1) C dX12_readTest_76 rfl (by decide) ?_
          refine r_iadd (q := 78) C dX12_readTest_77 rfl ?_
          refine r_aload_n (q := 79) (i := 0) (z := 0) C dX12_readTest_78 rfl rfl rfl ?_
          refine r_iconst (q := 80) (v := 0) C dX12_readTest_79 rfl (by decide) ?_
          refine r_bipush (q := 82) (v := 9) C dX12_readTest_80 rfl (by decide) ?_
          refine r_callVI (q := 85) (As := [.int ((0 : Int32)), .int ((9 : Int32))]) wm_X12_292 yvX12_count (c_X12_count Δ hN ((0 : Int32)) ((9 : Int32)) s8) ⟨rfl, by decide⟩ C (nm_12 hN) (by decide) rfl (Nat.le_of_ble_eq_true rfl) dX12_readTest_82 rfl (fun x30 s31 => ?_)
          refine r_ast (q := 86) q_12_5 h_12_5 C (nm_12 hN) dX12_readTest_85 rfl (fun s32 => ?_)
          refine r_goto (q := 169) C dX12_readTest_86 (by decide) ?_
          refine r_locs (lc' := []) [] rfl ?_
          exact hj10 s32
      · refine r_aload_n (q := 52) (i := 0) (z := 0) C dX12_readTest_51 rfl rfl rfl ?_
        refine g_X12_35 (q := 55) C (nm_12 hN) dX12_readTest_52 rfl ?_
        refine r_iload_n (q := 56) (i := 1) (z := 1) C dX12_readTest_55 rfl rfl rfl ?_
        refine r_iconst (q := 57) (v := 1) C dX12_readTest_56 rfl (by decide) ?_
        refine r_iadd (q := 58) C dX12_readTest_57 rfl ?_
        refine r_aload_n (q := 59) (i := 0) (z := 0) C dX12_readTest_58 rfl rfl rfl ?_
        refine r_callVI (q := 62) (As := []) wm_X12_327 yvX12_readRole2 (c_X12_readRole2 Δ hN s8) ⟨rfl, by decide⟩ C (nm_12 hN) (by decide) rfl (Nat.le_of_ble_eq_true rfl) dX12_readTest_59 rfl (fun x33 s34 => ?_)
        refine r_ast (q := 63) q_12_5 h_12_5 C (nm_12 hN) dX12_readTest_62 rfl (fun s35 => ?_)
        refine r_goto (q := 169) C dX12_readTest_63 (by decide) ?_
        refine r_locs (lc' := []) [] rfl ?_
        exact hj10 s35
    · refine r_aload_n (q := 32) (i := 0) (z := 0) C dX12_readTest_31 rfl rfl rfl ?_
      refine g_X12_35 (q := 35) C (nm_12 hN) dX12_readTest_32 rfl ?_
      refine r_iload_n (q := 36) (i := 1) (z := 1) C dX12_readTest_35 rfl rfl rfl ?_
      refine r_iconst (q := 37) (v := 1) C dX12_readTest_36 rfl (by decide) ?_
      refine r_iadd (q := 38) C dX12_readTest_37 rfl ?_
      refine r_aload_n (q := 39) (i := 0) (z := 0) C dX12_readTest_38 rfl rfl rfl ?_
      refine r_callVI (q := 42) (As := []) wm_X12_324 yvX12_readScene2 (c_X12_readScene2 Δ hN s8) ⟨rfl, by decide⟩ C (nm_12 hN) (by decide) rfl (Nat.le_of_ble_eq_true rfl) dX12_readTest_39 rfl (fun x36 s37 => ?_)
      refine r_ast (q := 43) q_12_5 h_12_5 C (nm_12 hN) dX12_readTest_42 rfl (fun s38 => ?_)
      refine r_goto (q := 169) C dX12_readTest_43 (by decide) ?_
      refine r_locs (lc' := []) [] rfl ?_
      exact hj10 s38
  refine r_if_lt (q := 10) (tgt := 14) C dX12_readTest_7 (by decide) rfl ?_ ?_
  · refine r_iconst (q := 15) (v := 0) C dX12_readTest_14 rfl (by decide) ?_
    refine r_locs (lc' := [(0, .ref (fad Δ 12 0 0)), (1, .int a1), (2, .int x3)]) [1, 2, 0] rfl ?_
    exact hj6 ((0 : Int32)) s2
  · refine r_iconst (q := 11) (v := 1) C dX12_readTest_10 rfl (by decide) ?_
    refine r_goto (q := 15) C dX12_readTest_11 (by decide) ?_
    refine r_locs (lc' := [(0, .ref (fad Δ 12 0 0)), (1, .int a1), (2, .int x3)]) [1, 2, 0] rfl ?_
    exact hj6 ((1 : Int32)) s2

noncomputable def f_X12_readRest (a1 : Int32) (st : fSt) : Option (Unit × fSt) :=
  fIx a1 2150 <|
  fLt (gA st 12 0 5 a1.toNatClampNeg) fun (x1 : Int32) =>
  fIx (a1 + ((1 : Int32))) 2150 <|
  fLt (sA st 12 0 5 (upd (gA st 12 0 5) (a1 + ((1 : Int32))).toNatClampNeg ((-1 : Int32)))) fun s2 =>
  fJn (fun (s3 : fSt) =>
    (some ((), s3))) fun (j4 : fSt → Option (Unit × fSt)) =>
  fJn (fun (s5 : fSt) =>
    (fJn (fun (s7 : fSt) =>
      (fBd (f_X12_readScene2  s7) fun x9 s10 =>
      fIx (a1 + ((1 : Int32))) 2150 <|
      fLt (sA s10 12 0 5 (upd (gA s10 12 0 5) (a1 + ((1 : Int32))).toNatClampNeg x9)) fun s11 =>
      j4 s11)) fun (j8 : fSt → Option (Unit × fSt)) =>
    if x1 = ((1 : Int32)) then
      (j8 s5)
    else
      (if ¬ x1 = ((2 : Int32)) then
        (fJn (fun (s12 : fSt) =>
          (fBd (f_X12_readRole2  s12) fun x14 s15 =>
          fIx (a1 + ((1 : Int32))) 2150 <|
          fLt (sA s15 12 0 5 (upd (gA s15 12 0 5) (a1 + ((1 : Int32))).toNatClampNeg x14)) fun s16 =>
          j4 s16)) fun (j13 : fSt → Option (Unit × fSt)) =>
        if x1 = ((3 : Int32)) then
          (j13 s5)
        else
          (if ¬ x1 = ((4 : Int32)) then
            (if ¬ x1 = ((5 : Int32)) then
              (if ¬ x1 = ((6 : Int32)) then
                (j4 s5)
              else
                (fBd (f_X12_count ((1 : Int32)) ((99 : Int32)) s5) fun x17 s18 =>
                fIx (a1 + ((1 : Int32))) 2150 <|
                fLt (sA s18 12 0 5 (upd (gA s18 12 0 5) (a1 + ((1 : Int32))).toNatClampNeg x17)) fun s19 =>
                j4 s19))
            else
              (fBd (f_X12_readTest a1 s5) fun _ s20 =>
              j4 s20))
          else
            (j13 s5)))
      else
        (j8 s5)))) fun (j6 : fSt → Option (Unit × fSt)) =>
  if ¬ x1 = 0 then
    (j6 s2)
  else
    (if ¬ (gI s2 12 0 14) = ((1 : Int32)) then
      (j6 s2)
    else
      (fIx ((3 : Int32)) 2150 <|
      fBd (f_X12_readTold ((0 : Int32)) ((24 : Int32)) (gA s2 12 0 5 ((3 : Int32)).toNatClampNeg) s2) fun x21 s22 =>
      fIx (a1 + ((1 : Int32))) 2150 <|
      fLt (sA s22 12 0 5 (upd (gA s22 12 0 5) (a1 + ((1 : Int32))).toNatClampNeg x21)) fun s23 =>
      j4 s23))

set_option maxHeartbeats 4000000 in
set_option maxRecDepth 100000 in
theorem c_X12_readRest (Δ : fDl) (hN : fNm Δ) (a1 : Int32)  (st : fSt) : fMt eV Δ yX12_readRest cX12_readRest 3 none 8 [.ref (fad Δ 12 0 0), .int a1] st (f_X12_readRest a1 st) := by
  unfold f_X12_readRest
  refine r_method (by decide +kernel) (Nat.le_of_ble_eq_true rfl) (fun Γ C => ?_)
  have C : fC Δ Γ cX12_readRest RX12 3 none 8 := C
  refine r_locs (lc' := [(0, .ref (fad Δ 12 0 0)), (1, .int a1)]) [0, 1] rfl ?_
  refine r_aload_n (q := 1) (i := 0) (z := 0) C dX12_readRest_0 rfl rfl rfl ?_
  refine g_X12_35 (q := 4) C (nm_12 hN) dX12_readRest_1 rfl ?_
  refine r_iload_n (q := 5) (i := 1) (z := 1) C dX12_readRest_4 rfl rfl rfl ?_
  refine r_ial (q := 6) q_12_5 h_12_5 C (nm_12 hN) dX12_readRest_5 rfl ?_
  refine r_istore_n (q := 7) (i := 2) [(0, .ref (fad Δ 12 0 0)), (1, .int a1)] C dX12_readRest_6 rfl rfl (by decide) rfl (fun x1 => ?_)
  refine r_aload_n (q := 8) (i := 0) (z := 1) C dX12_readRest_7 rfl rfl rfl ?_
  refine g_X12_35 (q := 11) C (nm_12 hN) dX12_readRest_8 rfl ?_
  refine r_iload_n (q := 12) (i := 1) (z := 2) C dX12_readRest_11 rfl rfl rfl ?_
  refine r_iconst (q := 13) (v := 1) C dX12_readRest_12 rfl (by decide) ?_
  refine r_iadd (q := 14) C dX12_readRest_13 rfl ?_
  refine r_iconst (q := 15) (v := (-1)) C dX12_readRest_14 rfl (by decide) ?_
  refine r_ast (q := 16) q_12_5 h_12_5 C (nm_12 hN) dX12_readRest_15 rfl (fun s2 => ?_)
  refine r_iload_n (q := 17) (i := 2) (z := 0) C dX12_readRest_16 rfl rfl rfl ?_
  refine r_join (fun j4 => ∀  (s3 : fSt), fW Δ Γ 3 (fQ eV Δ Γ) 136 [] [] s3 (j4 s3)) ?_ (fun j4 hj4 => ?_)
  · intro s3
    exact r_vret C dX12_readRest_136
  refine r_join (fun j6 => ∀  (s5 : fSt), fW Δ Γ 3 (fQ eV Δ Γ) 52 [(0, .ref (fad Δ 12 0 0)), (1, .int a1), (2, .int x1)] [] s5 (j6 s5)) ?_ (fun j6 hj6 => ?_)
  · intro s5
    refine r_iload_n (q := 53) (i := 2) (z := 2) C dX12_readRest_52 rfl rfl rfl ?_
    refine r_iconst (q := 54) (v := 1) C dX12_readRest_53 rfl (by decide) ?_
    refine r_join (fun j8 => ∀  (s7 : fSt), fW Δ Γ 3 (fQ eV Δ Γ) 62 [(0, .ref (fad Δ 12 0 0)), (1, .int a1)] [] s7 (j8 s7)) ?_ (fun j8 hj8 => ?_)
    · intro s7
      refine r_aload_n (q := 63) (i := 0) (z := 0) C dX12_readRest_62 rfl rfl rfl ?_
      refine g_X12_35 (q := 66) C (nm_12 hN) dX12_readRest_63 rfl ?_
      refine r_iload_n (q := 67) (i := 1) (z := 1) C dX12_readRest_66 rfl rfl rfl ?_
      refine r_iconst (q := 68) (v := 1) C dX12_readRest_67 rfl (by decide) ?_
      refine r_iadd (q := 69) C dX12_readRest_68 rfl ?_
      refine r_aload_n (q := 70) (i := 0) (z := 0) C dX12_readRest_69 rfl rfl rfl ?_
      refine r_callVI (q := 73) (As := []) wm_X12_324 yvX12_readScene2 (c_X12_readScene2 Δ hN s7) ⟨rfl, by decide⟩ C (nm_12 hN) (by decide) rfl (Nat.le_of_ble_eq_true rfl) dX12_readRest_70 rfl (fun x9 s10 => ?_)
      refine r_ast (q := 74) q_12_5 h_12_5 C (nm_12 hN) dX12_readRest_73 rfl (fun s11 => ?_)
      refine r_goto (q := 136) C dX12_readRest_74 (by decide) ?_
      refine r_locs (lc' := []) [] rfl ?_
      exact hj4 s11
    refine r_icmp_eq (q := 57) (tgt := 62) C dX12_readRest_54 (by decide) rfl ?_ ?_
    · refine r_locs (lc' := [(0, .ref (fad Δ 12 0 0)), (1, .int a1)]) [0, 1] rfl ?_
      exact hj8 s5
    · refine r_iload_n (q := 58) (i := 2) (z := 2) C dX12_readRest_57 rfl rfl rfl ?_
      refine r_iconst (q := 59) (v := 2) C dX12_readRest_58 rfl (by decide) ?_
      refine r_icmp_ne (q := 62) (tgt := 77) C dX12_readRest_59 (by decide) rfl ?_ ?_
      · refine r_iload_n (q := 78) (i := 2) (z := 2) C dX12_readRest_77 rfl rfl rfl ?_
        refine r_iconst (q := 79) (v := 3) C dX12_readRest_78 rfl (by decide) ?_
        refine r_join (fun j13 => ∀  (s12 : fSt), fW Δ Γ 3 (fQ eV Δ Γ) 87 [(0, .ref (fad Δ 12 0 0)), (1, .int a1)] [] s12 (j13 s12)) ?_ (fun j13 hj13 => ?_)
        · intro s12
          refine r_aload_n (q := 88) (i := 0) (z := 0) C dX12_readRest_87 rfl rfl rfl ?_
          refine g_X12_35 (q := 91) C (nm_12 hN) dX12_readRest_88 rfl ?_
          refine r_iload_n (q := 92) (i := 1) (z := 1) C dX12_readRest_91 rfl rfl rfl ?_
          refine r_iconst (q := 93) (v := 1) C dX12_readRest_92 rfl (by decide) ?_
          refine r_iadd (q := 94) C dX12_readRest_93 rfl ?_
          refine r_aload_n (q := 95) (i := 0) (z := 0) C dX12_readRest_94 rfl rfl rfl ?_
          refine r_callVI (q := 98) (As := []) wm_X12_327 yvX12_readRole2 (c_X12_readRole2 Δ hN s12) ⟨rfl, by decide⟩ C (nm_12 hN) (by decide) rfl (Nat.le_of_ble_eq_true rfl) dX12_readRest_95 rfl (fun x14 s15 => ?_)
          refine r_ast (q := 99) q_12_5 h_12_5 C (nm_12 hN) dX12_readRest_98 rfl (fun s16 => ?_)
          refine r_goto (q := 136) C dX12_readRest_99 (by decide) ?_
          refine r_locs (lc' := []) [] rfl ?_
          exact hj4 s16
        refine r_icmp_eq (q := 82) (tgt := 87) C dX12_readRest_79 (by decide) rfl ?_ ?_
        · refine r_locs (lc' := [(0, .ref (fad Δ 12 0 0)), (1, .int a1)]) [0, 1] rfl ?_
          exact hj13 s5
        · refine r_iload_n (q := 83) (i := 2) (z := 2) C dX12_readRest_82 rfl rfl rfl ?_
          refine r_iconst (q := 84) (v := 4) C dX12_readRest_83 rfl (by decide) ?_
          refine r_icmp_ne (q := 87) (tgt := 102) C dX12_readRest_84 (by decide) rfl ?_ ?_
          · refine r_iload_n (q := 103) (i := 2) (z := 2) C dX12_readRest_102 rfl rfl rfl ?_
            refine r_iconst (q := 104) (v := 5) C dX12_readRest_103 rfl (by decide) ?_
            refine r_icmp_ne (q := 107) (tgt := 115) C dX12_readRest_104 (by decide) rfl ?_ ?_
            · refine r_iload_n (q := 116) (i := 2) (z := 2) C dX12_readRest_115 rfl rfl rfl ?_
              refine r_bipush (q := 118) (v := 6) C dX12_readRest_116 rfl (by decide) ?_
              refine r_icmp_ne (q := 121) (tgt := 136) C dX12_readRest_118 (by decide) rfl ?_ ?_
              · refine r_locs (lc' := []) [] rfl ?_
                exact hj4 s5
              · refine r_aload_n (q := 122) (i := 0) (z := 0) C dX12_readRest_121 rfl rfl rfl ?_
                refine g_X12_35 (q := 125) C (nm_12 hN) dX12_readRest_122 rfl ?_
                refine r_iload_n (q := 126) (i := 1) (z := 1) C dX12_readRest_125 rfl rfl rfl ?_
                refine r_iconst (q := 127) (v := 1) C dX12_readRest_126 rfl (by decide) ?_
                refine r_iadd (q := 128) C dX12_readRest_127 rfl ?_
                refine r_aload_n (q := 129) (i := 0) (z := 0) C dX12_readRest_128 rfl rfl rfl ?_
                refine r_iconst (q := 130) (v := 1) C dX12_readRest_129 rfl (by decide) ?_
                refine r_bipush (q := 132) (v := 99) C dX12_readRest_130 rfl (by decide) ?_
                refine r_callVI (q := 135) (As := [.int ((1 : Int32)), .int ((99 : Int32))]) wm_X12_292 yvX12_count (c_X12_count Δ hN ((1 : Int32)) ((99 : Int32)) s5) ⟨rfl, by decide⟩ C (nm_12 hN) (by decide) rfl (Nat.le_of_ble_eq_true rfl) dX12_readRest_132 rfl (fun x17 s18 => ?_)
                refine r_ast (q := 136) q_12_5 h_12_5 C (nm_12 hN) dX12_readRest_135 rfl (fun s19 => ?_)
                refine r_locs (lc' := []) [] rfl ?_
                exact hj4 s19
            · refine r_aload_n (q := 108) (i := 0) (z := 0) C dX12_readRest_107 rfl rfl rfl ?_
              refine r_iload_n (q := 109) (i := 1) (z := 1) C dX12_readRest_108 rfl rfl rfl ?_
              refine r_callVV (q := 112) (As := [.int a1]) wm_X12_330 yvX12_readTest (c_X12_readTest Δ hN a1 s5) ⟨rfl, by decide⟩ C (nm_12 hN) (by decide) rfl (Nat.le_of_ble_eq_true rfl) dX12_readRest_109 rfl (fun _ s20 => ?_)
              refine r_goto (q := 136) C dX12_readRest_112 (by decide) ?_
              refine r_locs (lc' := []) [] rfl ?_
              exact hj4 s20
          · refine r_locs (lc' := [(0, .ref (fad Δ 12 0 0)), (1, .int a1)]) [0, 1] rfl ?_
            exact hj13 s5
      · refine r_locs (lc' := [(0, .ref (fad Δ 12 0 0)), (1, .int a1)]) [0, 1] rfl ?_
        exact hj8 s5
  refine r_if_ne (q := 20) (tgt := 52) C dX12_readRest_17 (by decide) rfl ?_ ?_
  · refine r_locs (lc' := [(0, .ref (fad Δ 12 0 0)), (1, .int a1), (2, .int x1)]) [1, 2, 0] rfl ?_
    exact hj6 s2
  · refine r_aload_n (q := 21) (i := 0) (z := 1) C dX12_readRest_20 rfl rfl rfl ?_
    refine g_X12_145 (q := 24) C (nm_12 hN) dX12_readRest_21 rfl ?_
    refine r_iconst (q := 25) (v := 1) C dX12_readRest_24 rfl (by decide) ?_
    refine r_icmp_ne (q := 28) (tgt := 52) C dX12_readRest_25 (by decide) rfl ?_ ?_
    · refine r_locs (lc' := [(0, .ref (fad Δ 12 0 0)), (1, .int a1), (2, .int x1)]) [1, 2, 0] rfl ?_
      exact hj6 s2
    · refine r_aload_n (q := 29) (i := 0) (z := 1) C dX12_readRest_28 rfl rfl rfl ?_
      refine g_X12_35 (q := 32) C (nm_12 hN) dX12_readRest_29 rfl ?_
      refine r_iload_n (q := 33) (i := 1) (z := 2) C dX12_readRest_32 rfl rfl rfl ?_
      refine r_iconst (q := 34) (v := 1) C dX12_readRest_33 rfl (by decide) ?_
      refine r_iadd (q := 35) C dX12_readRest_34 rfl ?_
      refine r_aload_n (q := 36) (i := 0) (z := 1) C dX12_readRest_35 rfl rfl rfl ?_
      refine r_iconst (q := 37) (v := 0) C dX12_readRest_36 rfl (by decide) ?_
      refine r_bipush (q := 39) (v := 24) C dX12_readRest_37 rfl (by decide) ?_
      refine r_aload_n (q := 40) (i := 0) (z := 1) C dX12_readRest_39 rfl rfl rfl ?_
      refine g_X12_35 (q := 43) C (nm_12 hN) dX12_readRest_40 rfl ?_
      refine r_iconst (q := 44) (v := 3) C dX12_readRest_43 rfl (by decide) ?_
      refine r_ial (q := 45) q_12_5 h_12_5 C (nm_12 hN) dX12_readRest_44 rfl ?_
      refine r_callVI (q := 48) (As := [.int ((0 : Int32)), .int ((24 : Int32)), .int (gA s2 12 0 5 ((3 : Int32)).toNatClampNeg)]) wm_X12_286 yvX12_readTold (c_X12_readTold Δ hN ((0 : Int32)) ((24 : Int32)) (gA s2 12 0 5 ((3 : Int32)).toNatClampNeg) s2) ⟨rfl, by decide⟩ C (nm_12 hN) (by decide) rfl (Nat.le_of_ble_eq_true rfl) dX12_readRest_45 rfl (fun x21 s22 => ?_)
      refine r_ast (q := 49) q_12_5 h_12_5 C (nm_12 hN) dX12_readRest_48 rfl (fun s23 => ?_)
      refine r_goto (q := 136) C dX12_readRest_49 (by decide) ?_
      refine r_locs (lc' := []) [] rfl ?_
      exact hj4 s23
