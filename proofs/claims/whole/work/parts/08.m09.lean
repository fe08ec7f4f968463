noncomputable def f_X12_steerFrom_L107 (a3 : Int32) (j12 : fSt → Option (Unit × fSt)) : Nat → Int32 → fSt → Option (Unit × fSt)
  | 0, _, _ => none
  | n22 + 1, x20, s21 =>
      if a3 < x20 then
                      (j12 s21)
                    else
                      (fIx x20 12 <|
                      fIx x20 12 <|
                      fLt (sA s21 12 0 17 (upd (gA s21 12 0 17) x20.toNatClampNeg (gA s21 12 0 15 x20.toNatClampNeg))) fun s23 =>
                      fLt (x20 + (1 : Int32)) fun (x24 : Int32) =>
                      f_X12_steerFrom_L107 a3 j12 n22 x24 s23)

noncomputable def f_X12_steerFrom_L21 (rec : Int32 → Int32 → Int32 → Int32 → fSt → Option (Unit × fSt)) (a1 : Int32) (a2 : Int32) (a3 : Int32) (a4 : Int32) : Nat → Int32 → fSt → Option (Unit × fSt)
  | 0, _, _ => none
  | n6 + 1, x4, s5 =>
      if ((4 : Int32)) ≤ x4 then
          (some ((), s5))
        else
          (fIx a3 12 <|
          fLt (sA s5 12 0 15 (upd (gA s5 12 0 15) a3.toNatClampNeg x4)) fun s7 =>
          fBd (f_X12_behind2 a1 x4 a2 s7) fun x8 s9 =>
          fLt x8 fun (x10 : Int32) =>
          fJn (fun (s11 : fSt) =>
            (fLt (x4 + (1 : Int32)) fun (x13 : Int32) =>
            f_X12_steerFrom_L21 rec a1 a2 a3 a4 n6 x13 s11)) fun (j12 : fSt → Option (Unit × fSt)) =>
          if x10 < 0 then
            (fBd (f_X12_ending a1 s9) fun x14 s15 =>
            if ¬ x14 = a4 then
              (j12 s15)
            else
              (fJn (fun (s16 : fSt) =>
                (fLt (sI s16 12 0 47 (a3 + ((1 : Int32)))) fun s18 =>
                fLt ((0 : Int32)) fun (x19 : Int32) =>
                f_X12_steerFrom_L107 a3 j12 fF x19 s18)) fun (j17 : fSt → Option (Unit × fSt)) =>
              if (gI s15 12 0 47) < 0 then
                (j17 s15)
              else
                (if (gI s15 12 0 47) ≤ (a3 + ((1 : Int32))) then
                  (j12 s15)
                else
                  (j17 s15))))
          else
            (fBd (f_X12_kills a1 a2 s9) fun x25 s26 =>
            fBd (rec x10 x25 (a3 + ((1 : Int32))) a4 s26) fun _ s27 =>
            j12 s27))

noncomputable def f_X12_steerFrom_b (rec : Int32 → Int32 → Int32 → Int32 → fSt → Option (Unit × fSt)) (a1 : Int32) (a2 : Int32) (a3 : Int32) (a4 : Int32) (st : fSt) : Option (Unit × fSt) :=
  fJn (fun (s1 : fSt) =>
    (fLt ((0 : Int32)) fun (x3 : Int32) =>
    f_X12_steerFrom_L21 rec a1 a2 a3 a4 fF x3 s1)) fun (j2 : fSt → Option (Unit × fSt)) =>
  if (gI st 12 0 47) < 0 then
    (j2 st)
  else
    (if (a3 + ((1 : Int32))) < (gI st 12 0 47) then
      (j2 st)
    else
      (some ((), st)))

set_option maxHeartbeats 4000000 in
set_option maxRecDepth 100000 in
theorem c_X12_steerFrom_b (Δ : fDl) (hN : fNm Δ) (lv0 : Nat) (hlv : 3 ≤ lv0) (rec : Int32 → Int32 → Int32 → Int32 → fSt → Option (Unit × fSt)) (hrec : ∀ (a1 : Int32) (a2 : Int32) (a3 : Int32) (a4 : Int32) (st : fSt), fMt eV Δ yX12_steerFrom cX12_steerFrom 8 none lv0 [.ref (fad Δ 12 0 0), .int a1, .int a2, .int a3, .int a4] st (rec a1 a2 a3 a4 st)) (a1 : Int32) (a2 : Int32) (a3 : Int32) (a4 : Int32) (st : fSt) : fMt eV Δ yX12_steerFrom cX12_steerFrom 8 none (lv0 + 1) [.ref (fad Δ 12 0 0), .int a1, .int a2, .int a3, .int a4] st (f_X12_steerFrom_b rec a1 a2 a3 a4 st) := by
  unfold f_X12_steerFrom_b
  refine r_method (by decide +kernel) (Nat.le_of_ble_eq_true rfl) (fun Γ C => ?_)
  have C : fC Δ Γ cX12_steerFrom RX12 8 none (lv0 + 1) := C
  refine r_locs (lc' := [(0, .ref (fad Δ 12 0 0)), (1, .int a1), (2, .int a2), (3, .int a3), (4, .int a4)]) [0, 1, 2, 3, 4] rfl ?_
  refine r_aload_n (q := 1) (i := 0) (z := 0) C dX12_steerFrom_0 rfl rfl rfl ?_
  refine g_X12_510 (q := 4) C (nm_12 hN) dX12_steerFrom_1 rfl ?_
  refine r_join (fun j2 => ∀  (s1 : fSt), fW Δ Γ 8 (fQ eV Δ Γ) 18 [(0, .ref (fad Δ 12 0 0)), (1, .int a1), (2, .int a2), (3, .int a3), (4, .int a4)] [] s1 (j2 s1)) ?_ (fun j2 hj2 => ?_)
  · intro s1
    refine r_iconst (q := 19) (v := 0) C dX12_steerFrom_18 rfl (by decide) ?_
    refine r_istore (q := 21) (i := 5) [(0, .ref (fad Δ 12 0 0)), (1, .int a1), (2, .int a2), (3, .int a3), (4, .int a4)] C dX12_steerFrom_19 rfl (by decide) rfl (fun x3 => ?_)
    refine r_locs (lc' := [(0, .ref (fad Δ 12 0 0)), (1, .int a1), (2, .int a2), (3, .int a3), (4, .int a4), (5, .int x3)]) [1, 2, 3, 4, 5, 0] rfl ?_
    have L21 : ∀ (n6 : Nat) (x4 : Int32) (s5 : fSt), fW Δ Γ 8 (fQ eV Δ Γ) 21 [(0, .ref (fad Δ 12 0 0)), (1, .int a1), (2, .int a2), (3, .int a3), (4, .int a4), (5, .int x4)] [] s5 (f_X12_steerFrom_L21 rec a1 a2 a3 a4 n6 x4 s5) := by
      intro n6
      induction n6 with
      | zero =>
        intro x4 s5
        rw [f_X12_steerFrom_L21]
        exact r_none
      | succ n6 ih_n6 =>
        intro x4 s5
        rw [f_X12_steerFrom_L21]
        refine r_iload (q := 23) (i := 5) (z := 5) C dX12_steerFrom_21 rfl rfl ?_
        refine r_iconst (q := 24) (v := 4) C dX12_steerFrom_23 rfl (by decide) ?_
        refine r_icmp_ge (q := 27) (tgt := 139) C dX12_steerFrom_24 (by decide) rfl ?_ ?_
        · exact r_vret C dX12_steerFrom_139
        · refine r_aload_n (q := 28) (i := 0) (z := 0) C dX12_steerFrom_27 rfl rfl rfl ?_
          refine g_X12_66 (q := 31) C (nm_12 hN) dX12_steerFrom_28 rfl ?_
          refine r_iload_n (q := 32) (i := 3) (z := 3) C dX12_steerFrom_31 rfl rfl rfl ?_
          refine r_iload (q := 34) (i := 5) (z := 5) C dX12_steerFrom_32 rfl rfl ?_
          refine r_ast (q := 35) q_12_15 h_12_15 C (nm_12 hN) dX12_steerFrom_34 rfl (fun s7 => ?_)
          refine r_aload_n (q := 36) (i := 0) (z := 0) C dX12_steerFrom_35 rfl rfl rfl ?_
          refine r_iload_n (q := 37) (i := 1) (z := 1) C dX12_steerFrom_36 rfl rfl rfl ?_
          refine r_iload (q := 39) (i := 5) (z := 5) C dX12_steerFrom_37 rfl rfl ?_
          refine r_iload_n (q := 40) (i := 2) (z := 2) C dX12_steerFrom_39 rfl rfl rfl ?_
          refine r_callVI (q := 43) (As := [.int a1, .int x4, .int a2]) wm_X12_412 yvX12_behind2 (c_X12_behind2 Δ hN a1 x4 a2 s7) ⟨rfl, by decide⟩ C (nm_12 hN) (by omega) rfl (Nat.le_of_ble_eq_true rfl) dX12_steerFrom_40 rfl (fun x8 s9 => ?_)
          refine r_istore (q := 45) (i := 6) [(0, .ref (fad Δ 12 0 0)), (1, .int a1), (2, .int a2), (3, .int a3), (4, .int a4), (5, .int x4)] C dX12_steerFrom_43 rfl (by decide) rfl (fun x10 => ?_)
          refine r_iload (q := 47) (i := 6) (z := 0) C dX12_steerFrom_45 rfl rfl ?_
          refine r_join (fun j12 => ∀  (s11 : fSt), fW Δ Γ 8 (fQ eV Δ Γ) 133 [(0, .ref (fad Δ 12 0 0)), (1, .int a1), (2, .int a2), (3, .int a3), (4, .int a4), (5, .int x4)] [] s11 (j12 s11)) ?_ (fun j12 hj12 => ?_)
          · intro s11
            refine r_iinc (q := 136) (z := 5) (d := 1) [(0, .ref (fad Δ 12 0 0)), (1, .int a1), (2, .int a2), (3, .int a3), (4, .int a4)] C dX12_steerFrom_133 rfl rfl (by decide) (by decide) rfl (fun x13 => ?_)
            refine r_goto (q := 21) C dX12_steerFrom_136 (by decide) ?_
            refine r_locs (lc' := [(0, .ref (fad Δ 12 0 0)), (1, .int a1), (2, .int a2), (3, .int a3), (4, .int a4), (5, .int x13)]) [1, 2, 3, 4, 5, 0] rfl ?_
            exact ih_n6 x13 s11
          refine r_if_lt (q := 50) (tgt := 70) C dX12_steerFrom_47 (by decide) rfl ?_ ?_
          · refine r_aload_n (q := 71) (i := 0) (z := 1) C dX12_steerFrom_70 rfl rfl rfl ?_
            refine r_iload_n (q := 72) (i := 1) (z := 2) C dX12_steerFrom_71 rfl rfl rfl ?_
            refine r_callVI (q := 75) (As := [.int a1]) wm_X12_465 yvX12_ending (c_X12_ending Δ hN a1 s9) ⟨rfl, by decide⟩ C (nm_12 hN) (by omega) rfl (Nat.le_of_ble_eq_true rfl) dX12_steerFrom_72 rfl (fun x14 s15 => ?_)
            refine r_iload (q := 77) (i := 4) (z := 5) C dX12_steerFrom_75 rfl rfl ?_
            refine r_icmp_ne (q := 80) (tgt := 133) C dX12_steerFrom_77 (by decide) rfl ?_ ?_
            · refine r_locs (lc' := [(0, .ref (fad Δ 12 0 0)), (1, .int a1), (2, .int a2), (3, .int a3), (4, .int a4), (5, .int x4)]) [1, 2, 3, 4, 5, 6] rfl ?_
              exact hj12 s15
            · refine r_aload_n (q := 81) (i := 0) (z := 1) C dX12_steerFrom_80 rfl rfl rfl ?_
              refine g_X12_510 (q := 84) C (nm_12 hN) dX12_steerFrom_81 rfl ?_
              refine r_join (fun j17 => ∀  (s16 : fSt), fW Δ Γ 8 (fQ eV Δ Γ) 97 [(0, .ref (fad Δ 12 0 0)), (1, .int a1), (2, .int a2), (3, .int a3), (4, .int a4), (5, .int x4)] [] s16 (j17 s16)) ?_ (fun j17 hj17 => ?_)
              · intro s16
                refine r_aload_n (q := 98) (i := 0) (z := 0) C dX12_steerFrom_97 rfl rfl rfl ?_
                refine r_iload_n (q := 99) (i := 3) (z := 3) C dX12_steerFrom_98 rfl rfl rfl ?_
                refine r_iconst (q := 100) (v := 1) C dX12_steerFrom_99 rfl (by decide) ?_
                refine r_iadd (q := 101) C dX12_steerFrom_100 rfl ?_
                refine p_X12_510 (q := 104) C (nm_12 hN) dX12_steerFrom_101 rfl (fun s18 => ?_)
                refine r_iconst (q := 105) (v := 0) C dX12_steerFrom_104 rfl (by decide) ?_
                refine r_istore (q := 107) (i := 7) [(0, .ref (fad Δ 12 0 0)), (1, .int a1), (2, .int a2), (3, .int a3), (4, .int a4), (5, .int x4)] C dX12_steerFrom_105 rfl (by decide) rfl (fun x19 => ?_)
                refine r_locs (lc' := [(0, .ref (fad Δ 12 0 0)), (1, .int a1), (2, .int a2), (3, .int a3), (4, .int a4), (5, .int x4), (7, .int x19)]) [1, 2, 3, 4, 5, 6, 0] rfl ?_
                have L107 : ∀ (n22 : Nat) (x20 : Int32) (s21 : fSt), fW Δ Γ 8 (fQ eV Δ Γ) 107 [(0, .ref (fad Δ 12 0 0)), (1, .int a1), (2, .int a2), (3, .int a3), (4, .int a4), (5, .int x4), (7, .int x20)] [] s21 (f_X12_steerFrom_L107 a3 j12 n22 x20 s21) := by
                  intro n22
                  induction n22 with
                  | zero =>
                    intro x20 s21
                    rw [f_X12_steerFrom_L107]
                    exact r_none
                  | succ n22 ih_n22 =>
                    intro x20 s21
                    rw [f_X12_steerFrom_L107]
                    refine r_iload (q := 109) (i := 7) (z := 6) C dX12_steerFrom_107 rfl rfl ?_
                    refine r_iload_n (q := 110) (i := 3) (z := 3) C dX12_steerFrom_109 rfl rfl rfl ?_
                    refine r_icmp_gt (q := 113) (tgt := 133) C dX12_steerFrom_110 (by decide) rfl ?_ ?_
                    · refine r_locs (lc' := [(0, .ref (fad Δ 12 0 0)), (1, .int a1), (2, .int a2), (3, .int a3), (4, .int a4), (5, .int x4)]) [0, 1, 2, 3, 4, 5] rfl ?_
                      exact hj12 s21
                    · refine r_aload_n (q := 114) (i := 0) (z := 0) C dX12_steerFrom_113 rfl rfl rfl ?_
                      refine g_X12_72 (q := 117) C (nm_12 hN) dX12_steerFrom_114 rfl ?_
                      refine r_iload (q := 119) (i := 7) (z := 6) C dX12_steerFrom_117 rfl rfl ?_
                      refine r_aload_n (q := 120) (i := 0) (z := 0) C dX12_steerFrom_119 rfl rfl rfl ?_
                      refine g_X12_66 (q := 123) C (nm_12 hN) dX12_steerFrom_120 rfl ?_
                      refine r_iload (q := 125) (i := 7) (z := 6) C dX12_steerFrom_123 rfl rfl ?_
                      refine r_ial (q := 126) q_12_15 h_12_15 C (nm_12 hN) dX12_steerFrom_125 rfl ?_
                      refine r_ast (q := 127) q_12_17 h_12_17 C (nm_12 hN) dX12_steerFrom_126 rfl (fun s23 => ?_)
                      refine r_iinc (q := 130) (z := 6) (d := 1) [(0, .ref (fad Δ 12 0 0)), (1, .int a1), (2, .int a2), (3, .int a3), (4, .int a4), (5, .int x4)] C dX12_steerFrom_127 rfl rfl (by decide) (by decide) rfl (fun x24 => ?_)
                      refine r_goto (q := 107) C dX12_steerFrom_130 (by decide) ?_
                      refine r_locs (lc' := [(0, .ref (fad Δ 12 0 0)), (1, .int a1), (2, .int a2), (3, .int a3), (4, .int a4), (5, .int x4), (7, .int x24)]) [1, 2, 3, 4, 5, 6, 0] rfl ?_
                      exact ih_n22 x24 s23
                exact L107 fF x19 s18
              refine r_if_lt (q := 87) (tgt := 97) C dX12_steerFrom_84 (by decide) rfl ?_ ?_
              · refine r_locs (lc' := [(0, .ref (fad Δ 12 0 0)), (1, .int a1), (2, .int a2), (3, .int a3), (4, .int a4), (5, .int x4)]) [1, 2, 3, 4, 5, 6] rfl ?_
                exact hj17 s15
              · refine r_iload_n (q := 88) (i := 3) (z := 4) C dX12_steerFrom_87 rfl rfl rfl ?_
                refine r_iconst (q := 89) (v := 1) C dX12_steerFrom_88 rfl (by decide) ?_
                refine r_iadd (q := 90) C dX12_steerFrom_89 rfl ?_
                refine r_aload_n (q := 91) (i := 0) (z := 1) C dX12_steerFrom_90 rfl rfl rfl ?_
                refine g_X12_510 (q := 94) C (nm_12 hN) dX12_steerFrom_91 rfl ?_
                refine r_icmp_ge (q := 97) (tgt := 133) C dX12_steerFrom_94 (by decide) rfl ?_ ?_
                · refine r_locs (lc' := [(0, .ref (fad Δ 12 0 0)), (1, .int a1), (2, .int a2), (3, .int a3), (4, .int a4), (5, .int x4)]) [1, 2, 3, 4, 5, 6] rfl ?_
                  exact hj12 s15
                · refine r_locs (lc' := [(0, .ref (fad Δ 12 0 0)), (1, .int a1), (2, .int a2), (3, .int a3), (4, .int a4), (5, .int x4)]) [1, 2, 3, 4, 5, 6] rfl ?_
                  exact hj17 s15
          · refine r_aload_n (q := 51) (i := 0) (z := 1) C dX12_steerFrom_50 rfl rfl rfl ?_
            refine r_iload (q := 53) (i := 6) (z := 0) C dX12_steerFrom_51 rfl rfl ?_
            refine r_aload_n (q := 54) (i := 0) (z := 1) C dX12_steerFrom_53 rfl rfl rfl ?_
            refine r_iload_n (q := 55) (i := 1) (z := 2) C dX12_steerFrom_54 rfl rfl rfl ?_
            refine r_iload_n (q := 56) (i := 2) (z := 3) C dX12_steerFrom_55 rfl rfl rfl ?_
            refine r_callVI (q := 59) (As := [.int a1, .int a2]) wm_X12_379 yvX12_kills (c_X12_kills Δ hN a1 a2 s9) ⟨rfl, by decide⟩ C (nm_12 hN) (by omega) rfl (Nat.le_of_ble_eq_true rfl) dX12_steerFrom_56 rfl (fun x25 s26 => ?_)
            refine r_iload_n (q := 60) (i := 3) (z := 4) C dX12_steerFrom_59 rfl rfl rfl ?_
            refine r_iconst (q := 61) (v := 1) C dX12_steerFrom_60 rfl (by decide) ?_
            refine r_iadd (q := 62) C dX12_steerFrom_61 rfl ?_
            refine r_iload (q := 64) (i := 4) (z := 5) C dX12_steerFrom_62 rfl rfl ?_
            refine r_callVV (q := 67) (As := [.int x10, .int x25, .int (a3 + ((1 : Int32))), .int a4]) wm_X12_513 yvX12_steerFrom (hrec x10 x25 (a3 + ((1 : Int32))) a4 s26) ⟨rfl, by decide⟩ C (nm_12 hN) (Nat.le_refl _) rfl (Nat.le_of_ble_eq_true rfl) dX12_steerFrom_64 rfl (fun _ s27 => ?_)
            refine r_goto (q := 133) C dX12_steerFrom_67 (by decide) ?_
            refine r_locs (lc' := [(0, .ref (fad Δ 12 0 0)), (1, .int a1), (2, .int a2), (3, .int a3), (4, .int a4), (5, .int x4)]) [1, 2, 3, 4, 5, 6] rfl ?_
            exact hj12 s27
    exact L21 fF x3 s1
  refine r_if_lt (q := 7) (tgt := 18) C dX12_steerFrom_4 (by decide) rfl ?_ ?_
  · exact hj2 st
  · refine r_iload_n (q := 8) (i := 3) (z := 3) C dX12_steerFrom_7 rfl rfl rfl ?_
    refine r_iconst (q := 9) (v := 1) C dX12_steerFrom_8 rfl (by decide) ?_
    refine r_iadd (q := 10) C dX12_steerFrom_9 rfl ?_
    refine r_aload_n (q := 11) (i := 0) (z := 0) C dX12_steerFrom_10 rfl rfl rfl ?_
    refine g_X12_510 (q := 14) C (nm_12 hN) dX12_steerFrom_11 rfl ?_
    refine r_icmp_lt (q := 17) (tgt := 18) C dX12_steerFrom_14 (by decide) rfl ?_ ?_
    · exact hj2 st
    · exact r_vret C dX12_steerFrom_17

noncomputable def f_X12_steerFrom : Nat → Int32 → Int32 → Int32 → Int32 → fSt → Option (Unit × fSt)
  | 0 => fun _ _ _ _ _ => none
  | n + 1 => f_X12_steerFrom_b (f_X12_steerFrom n)

theorem c_X12_steerFrom (Δ : fDl) (hN : fNm Δ) (n : Nat) (a1 : Int32) (a2 : Int32) (a3 : Int32) (a4 : Int32) (st : fSt) : fMt eV Δ yX12_steerFrom cX12_steerFrom 8 none (3 + 1 * n) [.ref (fad Δ 12 0 0), .int a1, .int a2, .int a3, .int a4] st (f_X12_steerFrom n a1 a2 a3 a4 st) := by
  induction n generalizing a1 a2 a3 a4 st with
  | zero => exact fun _ _ h => by cases h
  | succ n ih => exact c_X12_steerFrom_b Δ hN (3 + 1 * n) (by omega) (f_X12_steerFrom n) (fun a1 a2 a3 a4 st => ih a1 a2 a3 a4 st) a1 a2 a3 a4 st

noncomputable def f_X12_steer_L79  : Nat → Int32 → fSt → Option (Int32 × fSt)
  | 0, _, _ => none
  | n14 + 1, x12, s13 =>
      if (gI s13 12 0 47) ≤ x12 then
              (some (gI s13 12 0 47, s13))
            else
              (fIx x12 12 <|
              fIx x12 12 <|
              fLt (sA s13 12 0 16 (upd (gA s13 12 0 16) x12.toNatClampNeg (gA s13 12 0 17 x12.toNatClampNeg))) fun s15 =>
              fLt (x12 + (1 : Int32)) fun (x16 : Int32) =>
              f_X12_steer_L79 n14 x16 s15)

noncomputable def f_X12_steer (a1 : Int32) (st : fSt) : Option (Int32 × fSt) :=
  fLt (sI st 12 0 1 ((0 : Int32))) fun s1 =>
  fLt (sI s1 12 0 0 ((0 : Int32))) fun s2 =>
  fBd (f_X12_isIn a1.toInt64 ((0 : Int64)) ((9 : Int64)) s2) fun x3 s4 =>
  if ¬ x3 = 0 then
    (fLt (sI s4 12 0 47 ((-1 : Int32))) fun s5 =>
    fBd (f_X12_isDark  s5) fun x6 s7 =>
    fJn (fun (s8 : fSt) =>
      (if 0 ≤ (gI s8 12 0 47) then
        (fLt (sI s8 12 0 46 (gI s8 12 0 47)) fun s10 =>
        fLt ((0 : Int32)) fun (x11 : Int32) =>
        f_X12_steer_L79 fF x11 s10)
      else
        (fBd (f_X12_refuse ((8 : Int32)) s8) fun x17 s18 =>
        some (x17, s18)))) fun (j9 : fSt → Option (Int32 × fSt)) =>
    if ¬ x6 = 0 then
      (j9 s7)
    else
      (fIx ((2 : Int32)) 2150 <|
      fBd (f_X12_steerFrom 14 ((gA s7 12 0 5 ((2 : Int32)).toNatClampNeg) - ((1 : Int32))) ((0 : Int32)) ((0 : Int32)) a1 s7) fun _ s19 =>
      j9 s19))
  else
    (fBd (f_X12_refuse ((5 : Int32)) s4) fun x20 s21 =>
    some (x20, s21))

set_option maxHeartbeats 4000000 in
set_option maxRecDepth 100000 in
theorem c_X12_steer (Δ : fDl) (hN : fNm Δ) (a1 : Int32)  (st : fSt) : fMt eI Δ yX12_steer cX12_steer 3 (some .int) 18 [.ref (fad Δ 12 0 0), .int a1] st (f_X12_steer a1 st) := by
  unfold f_X12_steer
  refine r_method (by decide +kernel) (Nat.le_of_ble_eq_true rfl) (fun Γ C => ?_)
  have C : fC Δ Γ cX12_steer RX12 3 (some .int) 18 := C
  refine r_locs (lc' := [(0, .ref (fad Δ 12 0 0)), (1, .int a1)]) [0, 1] rfl ?_
  refine r_aload_n (q := 1) (i := 0) (z := 0) C dX12_steer_0 rfl rfl rfl ?_
  refine r_iconst (q := 2) (v := 0) C dX12_steer_1 rfl (by decide) ?_
  refine p_X12_90 (q := 5) C (nm_12 hN) dX12_steer_2 rfl (fun s1 => ?_)
  refine r_aload_n (q := 6) (i := 0) (z := 0) C dX12_steer_5 rfl rfl rfl ?_
  refine r_iconst (q := 7) (v := 0) C dX12_steer_6 rfl (by decide) ?_
  refine p_X12_93 (q := 10) C (nm_12 hN) dX12_steer_7 rfl (fun s2 => ?_)
  refine r_iload_n (q := 11) (i := 1) (z := 1) C dX12_steer_10 rfl rfl rfl ?_
  refine r_i2l (q := 12) C dX12_steer_11 rfl ?_
  refine r_lconst (q := 13) (v := 0) C dX12_steer_12 rfl (by decide) ?_
  refine r_ldc2 (q := 16) C dX12_steer_13 rfl wl_X12_498 ?_
  refine r_callSI (q := 19) (As := [.long a1.toInt64, .long ((0 : Int64)), .long ((9 : Int64))]) wm_X12_129 ysX12_isIn (c_X12_isIn Δ hN a1.toInt64 ((0 : Int64)) ((9 : Int64)) s2) C (by decide) rfl (Nat.le_of_ble_eq_true rfl) dX12_steer_16 rfl (fun x3 s4 => ?_)
  refine r_if_ne (q := 22) (tgt := 28) C dX12_steer_19 (by decide) rfl ?_ ?_
  · refine r_aload_n (q := 29) (i := 0) (z := 0) C dX12_steer_28 rfl rfl rfl ?_
    refine r_iconst (q := 30) (v := (-1)) C dX12_steer_29 rfl (by decide) ?_
    refine p_X12_510 (q := 33) C (nm_12 hN) dX12_steer_30 rfl (fun s5 => ?_)
    refine r_aload_n (q := 34) (i := 0) (z := 0) C dX12_steer_33 rfl rfl rfl ?_
    refine r_callVI (q := 37) (As := []) wm_X12_403 yvX12_isDark (c_X12_isDark Δ hN s5) ⟨rfl, by decide⟩ C (nm_12 hN) (by decide) rfl (Nat.le_of_ble_eq_true rfl) dX12_steer_34 rfl (fun x6 s7 => ?_)
    refine r_join (fun j9 => ∀  (s8 : fSt), fW Δ Γ 3 (fQ eI Δ Γ) 55 [(0, .ref (fad Δ 12 0 0))] [] s8 (j9 s8)) ?_ (fun j9 hj9 => ?_)
    · intro s8
      refine r_aload_n (q := 56) (i := 0) (z := 0) C dX12_steer_55 rfl rfl rfl ?_
      refine g_X12_510 (q := 59) C (nm_12 hN) dX12_steer_56 rfl ?_
      refine r_if_ge (q := 62) (tgt := 69) C dX12_steer_59 (by decide) rfl ?_ ?_
      · refine r_aload_n (q := 70) (i := 0) (z := 0) C dX12_steer_69 rfl rfl rfl ?_
        refine r_aload_n (q := 71) (i := 0) (z := 0) C dX12_steer_70 rfl rfl rfl ?_
        refine g_X12_510 (q := 74) C (nm_12 hN) dX12_steer_71 rfl ?_
        refine p_X12_517 (q := 77) C (nm_12 hN) dX12_steer_74 rfl (fun s10 => ?_)
        refine r_iconst (q := 78) (v := 0) C dX12_steer_77 rfl (by decide) ?_
        refine r_istore_n (q := 79) (i := 2) [(0, .ref (fad Δ 12 0 0))] C dX12_steer_78 rfl rfl (by decide) rfl (fun x11 => ?_)
        refine r_locs (lc' := [(0, .ref (fad Δ 12 0 0)), (2, .int x11)]) [1, 0] rfl ?_
        have L79 : ∀ (n14 : Nat) (x12 : Int32) (s13 : fSt), fW Δ Γ 3 (fQ eI Δ Γ) 79 [(0, .ref (fad Δ 12 0 0)), (2, .int x12)] [] s13 (f_X12_steer_L79 n14 x12 s13) := by
          intro n14
          induction n14 with
          | zero =>
            intro x12 s13
            rw [f_X12_steer_L79]
            exact r_none
          | succ n14 ih_n14 =>
            intro x12 s13
            rw [f_X12_steer_L79]
            refine r_iload_n (q := 80) (i := 2) (z := 1) C dX12_steer_79 rfl rfl rfl ?_
            refine r_aload_n (q := 81) (i := 0) (z := 0) C dX12_steer_80 rfl rfl rfl ?_
            refine g_X12_510 (q := 84) C (nm_12 hN) dX12_steer_81 rfl ?_
            refine r_icmp_ge (q := 87) (tgt := 105) C dX12_steer_84 (by decide) rfl ?_ ?_
            · refine r_aload_n (q := 106) (i := 0) (z := 0) C dX12_steer_105 rfl rfl rfl ?_
              refine g_X12_510 (q := 109) C (nm_12 hN) dX12_steer_106 rfl ?_
              exact r_iret C dX12_steer_109
            · refine r_aload_n (q := 88) (i := 0) (z := 0) C dX12_steer_87 rfl rfl rfl ?_
              refine g_X12_69 (q := 91) C (nm_12 hN) dX12_steer_88 rfl ?_
              refine r_iload_n (q := 92) (i := 2) (z := 1) C dX12_steer_91 rfl rfl rfl ?_
              refine r_aload_n (q := 93) (i := 0) (z := 0) C dX12_steer_92 rfl rfl rfl ?_
              refine g_X12_72 (q := 96) C (nm_12 hN) dX12_steer_93 rfl ?_
              refine r_iload_n (q := 97) (i := 2) (z := 1) C dX12_steer_96 rfl rfl rfl ?_
              refine r_ial (q := 98) q_12_17 h_12_17 C (nm_12 hN) dX12_steer_97 rfl ?_
              refine r_ast (q := 99) q_12_16 h_12_16 C (nm_12 hN) dX12_steer_98 rfl (fun s15 => ?_)
              refine r_iinc (q := 102) (z := 1) (d := 1) [(0, .ref (fad Δ 12 0 0))] C dX12_steer_99 rfl rfl (by decide) (by decide) rfl (fun x16 => ?_)
              refine r_goto (q := 79) C dX12_steer_102 (by decide) ?_
              refine r_locs (lc' := [(0, .ref (fad Δ 12 0 0)), (2, .int x16)]) [1, 0] rfl ?_
              exact ih_n14 x16 s15
        exact L79 fF x11 s10
      · refine r_aload_n (q := 63) (i := 0) (z := 0) C dX12_steer_62 rfl rfl rfl ?_
        refine r_bipush (q := 65) (v := 8) C dX12_steer_63 rfl (by decide) ?_
        refine r_callVI (q := 68) (As := [.int ((8 : Int32))]) wm_X12_348 yvX12_refuse (c_X12_refuse Δ hN ((8 : Int32)) s8) ⟨rfl, by decide⟩ C (nm_12 hN) (by decide) rfl (Nat.le_of_ble_eq_true rfl) dX12_steer_65 rfl (fun x17 s18 => ?_)
        exact r_iret C dX12_steer_68
    refine r_if_ne (q := 40) (tgt := 55) C dX12_steer_37 (by decide) rfl ?_ ?_
    · refine r_locs (lc' := [(0, .ref (fad Δ 12 0 0))]) [0] rfl ?_
      exact hj9 s7
    · refine r_aload_n (q := 41) (i := 0) (z := 0) C dX12_steer_40 rfl rfl rfl ?_
      refine r_aload_n (q := 42) (i := 0) (z := 0) C dX12_steer_41 rfl rfl rfl ?_
      refine g_X12_35 (q := 45) C (nm_12 hN) dX12_steer_42 rfl ?_
      refine r_iconst (q := 46) (v := 2) C dX12_steer_45 rfl (by decide) ?_
      refine r_ial (q := 47) q_12_5 h_12_5 C (nm_12 hN) dX12_steer_46 rfl ?_
      refine r_iconst (q := 48) (v := 1) C dX12_steer_47 rfl (by decide) ?_
      refine r_isub (q := 49) C dX12_steer_48 rfl ?_
      refine r_iconst (q := 50) (v := 0) C dX12_steer_49 rfl (by decide) ?_
      refine r_iconst (q := 51) (v := 0) C dX12_steer_50 rfl (by decide) ?_
      refine r_iload_n (q := 52) (i := 1) (z := 1) C dX12_steer_51 rfl rfl rfl ?_
      refine r_callVV (q := 55) (As := [.int ((gA s7 12 0 5 ((2 : Int32)).toNatClampNeg) - ((1 : Int32))), .int ((0 : Int32)), .int ((0 : Int32)), .int a1]) wm_X12_513 yvX12_steerFrom (c_X12_steerFrom Δ hN 14 ((gA s7 12 0 5 ((2 : Int32)).toNatClampNeg) - ((1 : Int32))) ((0 : Int32)) ((0 : Int32)) a1 s7) ⟨rfl, by decide⟩ C (nm_12 hN) (by decide) rfl (Nat.le_of_ble_eq_true rfl) dX12_steer_52 rfl (fun _ s19 => ?_)
      refine r_locs (lc' := [(0, .ref (fad Δ 12 0 0))]) [0] rfl ?_
      exact hj9 s19
  · refine r_aload_n (q := 23) (i := 0) (z := 0) C dX12_steer_22 rfl rfl rfl ?_
    refine r_iconst (q := 24) (v := 5) C dX12_steer_23 rfl (by decide) ?_
    refine r_callVI (q := 27) (As := [.int ((5 : Int32))]) wm_X12_348 yvX12_refuse (c_X12_refuse Δ hN ((5 : Int32)) s4) ⟨rfl, by decide⟩ C (nm_12 hN) (by decide) rfl (Nat.le_of_ble_eq_true rfl) dX12_steer_24 rfl (fun x20 s21 => ?_)
    exact r_iret C dX12_steer_27

noncomputable def f_X12_steerAt (a1 : Int32) (st : fSt) : Option (Int32 × fSt) :=
  fLt (sI st 12 0 1 ((0 : Int32))) fun s1 =>
  fLt (sI s1 12 0 0 ((0 : Int32))) fun s2 =>
  fBd (f_X12_isIn a1.toInt64 ((0 : Int64)) (((gI s2 12 0 46) - ((1 : Int32))).toInt64) s2) fun x3 s4 =>
  fJn (fun (x5 : Int32) (s6 : fSt) =>
    (some (x5, s6))) fun (j7 : Int32 → fSt → Option (Int32 × fSt)) =>
  if x3 = 0 then
    (fBd (f_X12_refuse ((8 : Int32)) s4) fun x8 s9 =>
    j7 x8 s9)
  else
    (fIx a1 12 <|
    j7 (gA s4 12 0 16 a1.toNatClampNeg) s4)

set_option maxHeartbeats 4000000 in
set_option maxRecDepth 100000 in
theorem c_X12_steerAt (Δ : fDl) (hN : fNm Δ) (a1 : Int32)  (st : fSt) : fMt eI Δ yX12_steerAt cX12_steerAt 2 (some .int) 2 [.ref (fad Δ 12 0 0), .int a1] st (f_X12_steerAt a1 st) := by
  unfold f_X12_steerAt
  refine r_method (by decide +kernel) (Nat.le_of_ble_eq_true rfl) (fun Γ C => ?_)
  have C : fC Δ Γ cX12_steerAt RX12 2 (some .int) 2 := C
  refine r_locs (lc' := [(0, .ref (fad Δ 12 0 0)), (1, .int a1)]) [0, 1] rfl ?_
  refine r_aload_n (q := 1) (i := 0) (z := 0) C dX12_steerAt_0 rfl rfl rfl ?_
  refine r_iconst (q := 2) (v := 0) C dX12_steerAt_1 rfl (by decide) ?_
  refine p_X12_90 (q := 5) C (nm_12 hN) dX12_steerAt_2 rfl (fun s1 => ?_)
  refine r_aload_n (q := 6) (i := 0) (z := 0) C dX12_steerAt_5 rfl rfl rfl ?_
  refine r_iconst (q := 7) (v := 0) C dX12_steerAt_6 rfl (by decide) ?_
  refine p_X12_93 (q := 10) C (nm_12 hN) dX12_steerAt_7 rfl (fun s2 => ?_)
  refine r_iload_n (q := 11) (i := 1) (z := 1) C dX12_steerAt_10 rfl rfl rfl ?_
  refine r_i2l (q := 12) C dX12_steerAt_11 rfl ?_
  refine r_lconst (q := 13) (v := 0) C dX12_steerAt_12 rfl (by decide) ?_
  refine r_aload_n (q := 14) (i := 0) (z := 0) C dX12_steerAt_13 rfl rfl rfl ?_
  refine g_X12_517 (q := 17) C (nm_12 hN) dX12_steerAt_14 rfl ?_
  refine r_iconst (q := 18) (v := 1) C dX12_steerAt_17 rfl (by decide) ?_
  refine r_isub (q := 19) C dX12_steerAt_18 rfl ?_
  refine r_i2l (q := 20) C dX12_steerAt_19 rfl ?_
  refine r_callSI (q := 23) (As := [.long a1.toInt64, .long ((0 : Int64)), .long (((gI s2 12 0 46) - ((1 : Int32))).toInt64)]) wm_X12_129 ysX12_isIn (c_X12_isIn Δ hN a1.toInt64 ((0 : Int64)) (((gI s2 12 0 46) - ((1 : Int32))).toInt64) s2) C (by decide) rfl (Nat.le_of_ble_eq_true rfl) dX12_steerAt_20 rfl (fun x3 s4 => ?_)
  refine r_join (fun j7 => ∀ (x5 : Int32) (s6 : fSt), fW Δ Γ 2 (fQ eI Δ Γ) 41 [] [.int x5] s6 (j7 x5 s6)) ?_ (fun j7 hj7 => ?_)
  · intro x5 s6
    exact r_iret C dX12_steerAt_41
  refine r_if_eq (q := 26) (tgt := 35) C dX12_steerAt_23 (by decide) rfl ?_ ?_
  · refine r_aload_n (q := 36) (i := 0) (z := 0) C dX12_steerAt_35 rfl rfl rfl ?_
    refine r_bipush (q := 38) (v := 8) C dX12_steerAt_36 rfl (by decide) ?_
    refine r_callVI (q := 41) (As := [.int ((8 : Int32))]) wm_X12_348 yvX12_refuse (c_X12_refuse Δ hN ((8 : Int32)) s4) ⟨rfl, by decide⟩ C (nm_12 hN) (by decide) rfl (Nat.le_of_ble_eq_true rfl) dX12_steerAt_38 rfl (fun x8 s9 => ?_)
    refine r_locs (lc' := []) [] rfl ?_
    exact hj7 x8 s9
  · refine r_aload_n (q := 27) (i := 0) (z := 0) C dX12_steerAt_26 rfl rfl rfl ?_
    refine g_X12_69 (q := 30) C (nm_12 hN) dX12_steerAt_27 rfl ?_
    refine r_iload_n (q := 31) (i := 1) (z := 1) C dX12_steerAt_30 rfl rfl rfl ?_
    refine r_ial (q := 32) q_12_16 h_12_16 C (nm_12 hN) dX12_steerAt_31 rfl ?_
    refine r_goto (q := 41) C dX12_steerAt_32 (by decide) ?_
    refine r_locs (lc' := []) [] rfl ?_
    exact hj7 (gA s4 12 0 16 a1.toNatClampNeg) s4

noncomputable def f_X12_suspects_L83 (x19 : Int32) (j25 : Int32 → Int32 → fSt → Option (Int32 × fSt)) (x27 : Int32) : Nat → Int32 → Int32 → fSt → Option (Int32 × fSt)
  | 0, _, _, _ => none
  | n32 + 1, x29, x30, s31 =>
      fIx ((2 : Int32)) 2150 <|
                if (gA s31 12 0 5 ((2 : Int32)).toNatClampNeg) ≤ x30 then
                  (j25 x29 x27 s31)
                else
                  (fIx (((137 : Int32)) + (((4 : Int32)) * x19)) 2150 <|
                  fBd (f_X12_has (gA s31 12 0 5 (((137 : Int32)) + (((4 : Int32)) * x19)).toNatClampNeg) x30 s31) fun x33 s34 =>
                  fJn (fun (x35 : Int32) (s36 : fSt) =>
                    (fLt (x30 + (1 : Int32)) fun (x38 : Int32) =>
                    f_X12_suspects_L83 x19 j25 x27 n32 x35 x38 s36)) fun (j37 : Int32 → fSt → Option (Int32 × fSt)) =>
                  if x33 = 0 then
                    (j37 x29 s34)
                  else
                    (fIx (((37 : Int32)) + x30) 2150 <|
                    fLt (x29 &&& (gA s34 12 0 5 (((37 : Int32)) + x30).toNatClampNeg)) fun (x39 : Int32) =>
                    j37 x39 s34))

noncomputable def f_X12_suspects_L44 (a1 : Int32) (k11 : Int32 → Int32 → fSt → Option (Int32 × fSt)) : Nat → Int32 → Int32 → Int32 → fSt → Option (Int32 × fSt)
  | 0, _, _, _, _ => none
  | n21 + 1, x17, x18, x19, s20 =>
      fIx ((6 : Int32)) 2150 <|
        if (gA s20 12 0 5 ((6 : Int32)).toNatClampNeg) ≤ x19 then
          (k11 x17 x18 s20)
        else
          (fIx ((((137 : Int32)) + (((4 : Int32)) * x19)) + ((1 : Int32))) 2150 <|
          fJn (fun (x22 : Int32) (x23 : Int32) (s24 : fSt) =>
            (fLt (x19 + (1 : Int32)) fun (x26 : Int32) =>
            f_X12_suspects_L44 a1 k11 n21 x22 x23 x26 s24)) fun (j25 : Int32 → Int32 → fSt → Option (Int32 × fSt)) =>
          if (gA s20 12 0 5 ((((137 : Int32)) + (((4 : Int32)) * x19)) + ((1 : Int32))).toNatClampNeg) = a1 then
            (fLt ((1 : Int32)) fun (x27 : Int32) =>
            fLt ((0 : Int32)) fun (x28 : Int32) =>
            f_X12_suspects_L83 x19 j25 x27 fF x17 x28 s20)
          else
            (j25 x17 x18 s20))

noncomputable def f_X12_suspects (a1 : Int32) (st : fSt) : Option (Int32 × fSt) :=
  fLt (sI st 12 0 1 ((0 : Int32))) fun s1 =>
  fLt (sI s1 12 0 0 ((0 : Int32))) fun s2 =>
  fBd (f_X12_isIn a1.toInt64 ((0 : Int64)) ((8 : Int64)) s2) fun x3 s4 =>
  if ¬ x3 = 0 then
    (fIx ((0 : Int32)) 2150 <|
    fLt ((((1 : Int32)) <<< ((gA s4 12 0 5 ((0 : Int32)).toNatClampNeg) &&& 31)) - ((1 : Int32))) fun (x5 : Int32) =>
    fLt ((0 : Int32)) fun (x6 : Int32) =>
    fLt ((0 : Int32)) fun (x7 : Int32) =>
    fJn (fun (x8 : Int32) (x9 : Int32) (s10 : fSt) =>
      (fJn (fun (x12 : Int32) (s13 : fSt) =>
        (some (x12, s13))) fun (j14 : Int32 → fSt → Option (Int32 × fSt)) =>
      if x9 = 0 then
        (fBd (f_X12_refuse ((8 : Int32)) s10) fun x15 s16 =>
        j14 x15 s16)
      else
        (j14 x8 s10))) fun (k11 : Int32 → Int32 → fSt → Option (Int32 × fSt)) =>
    f_X12_suspects_L44 a1 k11 fF x5 x6 x7 s4)
  else
    (fBd (f_X12_refuse ((5 : Int32)) s4) fun x40 s41 =>
    some (x40, s41))

set_option maxHeartbeats 4000000 in
set_option maxRecDepth 100000 in
theorem c_X12_suspects (Δ : fDl) (hN : fNm Δ) (a1 : Int32)  (st : fSt) : fMt eI Δ yX12_suspects cX12_suspects 6 (some .int) 2 [.ref (fad Δ 12 0 0), .int a1] st (f_X12_suspects a1 st) := by
  unfold f_X12_suspects
  refine r_method (by decide +kernel) (Nat.le_of_ble_eq_true rfl) (fun Γ C => ?_)
  have C : fC Δ Γ cX12_suspects RX12 6 (some .int) 2 := C
  refine r_locs (lc' := [(0, .ref (fad Δ 12 0 0)), (1, .int a1)]) [0, 1] rfl ?_
  refine r_aload_n (q := 1) (i := 0) (z := 0) C dX12_suspects_0 rfl rfl rfl ?_
  refine r_iconst (q := 2) (v := 0) C dX12_suspects_1 rfl (by decide) ?_
  refine p_X12_90 (q := 5) C (nm_12 hN) dX12_suspects_2 rfl (fun s1 => ?_)
  refine r_aload_n (q := 6) (i := 0) (z := 0) C dX12_suspects_5 rfl rfl rfl ?_
  refine r_iconst (q := 7) (v := 0) C dX12_suspects_6 rfl (by decide) ?_
  refine p_X12_93 (q := 10) C (nm_12 hN) dX12_suspects_7 rfl (fun s2 => ?_)
  refine r_iload_n (q := 11) (i := 1) (z := 1) C dX12_suspects_10 rfl rfl rfl ?_
  refine r_i2l (q := 12) C dX12_suspects_11 rfl ?_
  refine r_lconst (q := 13) (v := 0) C dX12_suspects_12 rfl (by decide) ?_
  refine r_ldc2 (q := 16) C dX12_suspects_13 rfl wl_X12_442 ?_
  refine r_callSI (q := 19) (As := [.long a1.toInt64, .long ((0 : Int64)), .long ((8 : Int64))]) wm_X12_129 ysX12_isIn (c_X12_isIn Δ hN a1.toInt64 ((0 : Int64)) ((8 : Int64)) s2) C (by decide) rfl (Nat.le_of_ble_eq_true rfl) dX12_suspects_16 rfl (fun x3 s4 => ?_)
  refine r_if_ne (q := 22) (tgt := 28) C dX12_suspects_19 (by decide) rfl ?_ ?_
  · refine r_iconst (q := 29) (v := 1) C dX12_suspects_28 rfl (by decide) ?_
    refine r_aload_n (q := 30) (i := 0) (z := 0) C dX12_suspects_29 rfl rfl rfl ?_
    refine g_X12_35 (q := 33) C (nm_12 hN) dX12_suspects_30 rfl ?_
    refine r_iconst (q := 34) (v := 0) C dX12_suspects_33 rfl (by decide) ?_
    refine r_ial (q := 35) q_12_5 h_12_5 C (nm_12 hN) dX12_suspects_34 rfl ?_
    refine r_ishl (q := 36) C dX12_suspects_35 rfl ?_
    refine r_iconst (q := 37) (v := 1) C dX12_suspects_36 rfl (by decide) ?_
    refine r_isub (q := 38) C dX12_suspects_37 rfl ?_
    refine r_istore_n (q := 39) (i := 2) [(0, .ref (fad Δ 12 0 0)), (1, .int a1)] C dX12_suspects_38 rfl rfl (by decide) rfl (fun x5 => ?_)
    refine r_iconst (q := 40) (v := 0) C dX12_suspects_39 rfl (by decide) ?_
    refine r_istore_n (q := 41) (i := 3) [(2, .int x5), (0, .ref (fad Δ 12 0 0)), (1, .int a1)] C dX12_suspects_40 rfl rfl (by decide) rfl (fun x6 => ?_)
    refine r_iconst (q := 42) (v := 0) C dX12_suspects_41 rfl (by decide) ?_
    refine r_istore (q := 44) (i := 4) [(3, .int x6), (2, .int x5), (0, .ref (fad Δ 12 0 0)), (1, .int a1)] C dX12_suspects_42 rfl (by decide) rfl (fun x7 => ?_)
    refine r_join (fun k11 => ∀ (x8 : Int32) (x9 : Int32) (s10 : fSt), fW Δ Γ 6 (fQ eI Δ Γ) 140 [(0, .ref (fad Δ 12 0 0)), (2, .int x8), (3, .int x9)] [] s10 (k11 x8 x9 s10)) ?_ (fun k11 hk11 => ?_)
    · intro x8 x9 s10
      refine r_iload_n (q := 141) (i := 3) (z := 2) C dX12_suspects_140 rfl rfl rfl ?_
      refine r_join (fun j14 => ∀ (x12 : Int32) (s13 : fSt), fW Δ Γ 6 (fQ eI Δ Γ) 154 [] [.int x12] s13 (j14 x12 s13)) ?_ (fun j14 hj14 => ?_)
      · intro x12 s13
        exact r_iret C dX12_suspects_154
      refine r_if_eq (q := 144) (tgt := 148) C dX12_suspects_141 (by decide) rfl ?_ ?_
      · refine r_aload_n (q := 149) (i := 0) (z := 0) C dX12_suspects_148 rfl rfl rfl ?_
        refine r_bipush (q := 151) (v := 8) C dX12_suspects_149 rfl (by decide) ?_
        refine r_callVI (q := 154) (As := [.int ((8 : Int32))]) wm_X12_348 yvX12_refuse (c_X12_refuse Δ hN ((8 : Int32)) s10) ⟨rfl, by decide⟩ C (nm_12 hN) (by decide) rfl (Nat.le_of_ble_eq_true rfl) dX12_suspects_151 rfl (fun x15 s16 => ?_)
        refine r_locs (lc' := []) [] rfl ?_
        exact hj14 x15 s16
      · refine r_iload_n (q := 145) (i := 2) (z := 1) C dX12_suspects_144 rfl rfl rfl ?_
        refine r_goto (q := 154) C dX12_suspects_145 (by decide) ?_
        refine r_locs (lc' := []) [] rfl ?_
        exact hj14 x8 s10
    refine r_locs (lc' := [(0, .ref (fad Δ 12 0 0)), (1, .int a1), (2, .int x5), (3, .int x6), (4, .int x7)]) [3, 4, 2, 1, 0] rfl ?_
    have L44 : ∀ (n21 : Nat) (x17 : Int32) (x18 : Int32) (x19 : Int32) (s20 : fSt), fW Δ Γ 6 (fQ eI Δ Γ) 44 [(0, .ref (fad Δ 12 0 0)), (1, .int a1), (2, .int x17), (3, .int x18), (4, .int x19)] [] s20 (f_X12_suspects_L44 a1 k11 n21 x17 x18 x19 s20) := by
      intro n21
      induction n21 with
      | zero =>
        intro x17 x18 x19 s20
        rw [f_X12_suspects_L44]
        exact r_none
      | succ n21 ih_n21 =>
        intro x17 x18 x19 s20
        rw [f_X12_suspects_L44]
        refine r_iload (q := 46) (i := 4) (z := 4) C dX12_suspects_44 rfl rfl ?_
        refine r_aload_n (q := 47) (i := 0) (z := 0) C dX12_suspects_46 rfl rfl rfl ?_
        refine g_X12_35 (q := 50) C (nm_12 hN) dX12_suspects_47 rfl ?_
        refine r_bipush (q := 52) (v := 6) C dX12_suspects_50 rfl (by decide) ?_
        refine r_ial (q := 53) q_12_5 h_12_5 C (nm_12 hN) dX12_suspects_52 rfl ?_
        refine r_icmp_ge (q := 56) (tgt := 140) C dX12_suspects_53 (by decide) rfl ?_ ?_
        · refine r_locs (lc' := [(0, .ref (fad Δ 12 0 0)), (2, .int x17), (3, .int x18)]) [0, 2, 3] rfl ?_
          exact hk11 x17 x18 s20
        · refine r_aload_n (q := 57) (i := 0) (z := 0) C dX12_suspects_56 rfl rfl rfl ?_
          refine g_X12_35 (q := 60) C (nm_12 hN) dX12_suspects_57 rfl ?_
          refine r_sipush (q := 63) (v := 137) C dX12_suspects_60 rfl (by decide) ?_
          refine r_iconst (q := 64) (v := 4) C dX12_suspects_63 rfl (by decide) ?_
          refine r_iload (q := 66) (i := 4) (z := 4) C dX12_suspects_64 rfl rfl ?_
          refine r_imul (q := 67) C dX12_suspects_66 rfl ?_
          refine r_iadd (q := 68) C dX12_suspects_67 rfl ?_
          refine r_iconst (q := 69) (v := 1) C dX12_suspects_68 rfl (by decide) ?_
          refine r_iadd (q := 70) C dX12_suspects_69 rfl ?_
          refine r_ial (q := 71) q_12_5 h_12_5 C (nm_12 hN) dX12_suspects_70 rfl ?_
          refine r_iload_n (q := 72) (i := 1) (z := 1) C dX12_suspects_71 rfl rfl rfl ?_
          refine r_join (fun j25 => ∀ (x22 : Int32) (x23 : Int32) (s24 : fSt), fW Δ Γ 6 (fQ eI Δ Γ) 134 [(0, .ref (fad Δ 12 0 0)), (1, .int a1), (2, .int x22), (3, .int x23), (4, .int x19)] [] s24 (j25 x22 x23 s24)) ?_ (fun j25 hj25 => ?_)
          · intro x22 x23 s24
            refine r_iinc (q := 137) (z := 4) (d := 1) [(0, .ref (fad Δ 12 0 0)), (1, .int a1), (2, .int x22), (3, .int x23)] C dX12_suspects_134 rfl rfl (by decide) (by decide) rfl (fun x26 => ?_)
            refine r_goto (q := 44) C dX12_suspects_137 (by decide) ?_
            refine r_locs (lc' := [(0, .ref (fad Δ 12 0 0)), (1, .int a1), (2, .int x22), (3, .int x23), (4, .int x26)]) [1, 2, 3, 4, 0] rfl ?_
            exact ih_n21 x22 x23 x26 s24
          refine r_icmp_eq (q := 75) (tgt := 78) C dX12_suspects_72 (by decide) rfl ?_ ?_
          · refine r_iconst (q := 79) (v := 1) C dX12_suspects_78 rfl (by decide) ?_
            refine r_istore_n (q := 80) (i := 3) [(0, .ref (fad Δ 12 0 0)), (1, .int a1), (2, .int x17), (4, .int x19)] C dX12_suspects_79 rfl rfl (by decide) rfl (fun x27 => ?_)
            refine r_iconst (q := 81) (v := 0) C dX12_suspects_80 rfl (by decide) ?_
            refine r_istore (q := 83) (i := 5) [(3, .int x27), (0, .ref (fad Δ 12 0 0)), (1, .int a1), (2, .int x17), (4, .int x19)] C dX12_suspects_81 rfl (by decide) rfl (fun x28 => ?_)
            refine r_locs (lc' := [(0, .ref (fad Δ 12 0 0)), (1, .int a1), (2, .int x17), (3, .int x27), (4, .int x19), (5, .int x28)]) [2, 3, 4, 1, 5, 0] rfl ?_
            have L83 : ∀ (n32 : Nat) (x29 : Int32) (x30 : Int32) (s31 : fSt), fW Δ Γ 6 (fQ eI Δ Γ) 83 [(0, .ref (fad Δ 12 0 0)), (1, .int a1), (2, .int x29), (3, .int x27), (4, .int x19), (5, .int x30)] [] s31 (f_X12_suspects_L83 x19 j25 x27 n32 x29 x30 s31) := by
              intro n32
              induction n32 with
              | zero =>
                intro x29 x30 s31
                rw [f_X12_suspects_L83]
                exact r_none
              | succ n32 ih_n32 =>
                intro x29 x30 s31
                rw [f_X12_suspects_L83]
                refine r_iload (q := 85) (i := 5) (z := 5) C dX12_suspects_83 rfl rfl ?_
                refine r_aload_n (q := 86) (i := 0) (z := 0) C dX12_suspects_85 rfl rfl rfl ?_
                refine g_X12_35 (q := 89) C (nm_12 hN) dX12_suspects_86 rfl ?_
                refine r_iconst (q := 90) (v := 2) C dX12_suspects_89 rfl (by decide) ?_
                refine r_ial (q := 91) q_12_5 h_12_5 C (nm_12 hN) dX12_suspects_90 rfl ?_
                refine r_icmp_ge (q := 94) (tgt := 134) C dX12_suspects_91 (by decide) rfl ?_ ?_
                · refine r_locs (lc' := [(0, .ref (fad Δ 12 0 0)), (1, .int a1), (2, .int x29), (3, .int x27), (4, .int x19)]) [0, 1, 2, 3, 4] rfl ?_
                  exact hj25 x29 x27 s31
                · refine r_aload_n (q := 95) (i := 0) (z := 0) C dX12_suspects_94 rfl rfl rfl ?_
                  refine g_X12_35 (q := 98) C (nm_12 hN) dX12_suspects_95 rfl ?_
                  refine r_sipush (q := 101) (v := 137) C dX12_suspects_98 rfl (by decide) ?_
                  refine r_iconst (q := 102) (v := 4) C dX12_suspects_101 rfl (by decide) ?_
                  refine r_iload (q := 104) (i := 4) (z := 4) C dX12_suspects_102 rfl rfl ?_
                  refine r_imul (q := 105) C dX12_suspects_104 rfl ?_
                  refine r_iadd (q := 106) C dX12_suspects_105 rfl ?_
                  refine r_ial (q := 107) q_12_5 h_12_5 C (nm_12 hN) dX12_suspects_106 rfl ?_
                  refine r_iload (q := 109) (i := 5) (z := 5) C dX12_suspects_107 rfl rfl ?_
                  refine r_callSI (q := 112) (As := [.int (gA s31 12 0 5 (((137 : Int32)) + (((4 : Int32)) * x19)).toNatClampNeg), .int x30]) wm_X12_373 ysX12_has (c_X12_has Δ hN (gA s31 12 0 5 (((137 : Int32)) + (((4 : Int32)) * x19)).toNatClampNeg) x30 s31) C (by decide) rfl (Nat.le_of_ble_eq_true rfl) dX12_suspects_109 rfl (fun x33 s34 => ?_)
                  refine r_join (fun j37 => ∀ (x35 : Int32) (s36 : fSt), fW Δ Γ 6 (fQ eI Δ Γ) 128 [(0, .ref (fad Δ 12 0 0)), (1, .int a1), (2, .int x35), (3, .int x27), (4, .int x19), (5, .int x30)] [] s36 (j37 x35 s36)) ?_ (fun j37 hj37 => ?_)
                  · intro x35 s36
                    refine r_iinc (q := 131) (z := 5) (d := 1) [(0, .ref (fad Δ 12 0 0)), (1, .int a1), (2, .int x35), (3, .int x27), (4, .int x19)] C dX12_suspects_128 rfl rfl (by decide) (by decide) rfl (fun x38 => ?_)
                    refine r_goto (q := 83) C dX12_suspects_131 (by decide) ?_
                    refine r_locs (lc' := [(0, .ref (fad Δ 12 0 0)), (1, .int a1), (2, .int x35), (3, .int x27), (4, .int x19), (5, .int x38)]) [1, 2, 3, 4, 5, 0] rfl ?_
                    exact ih_n32 x35 x38 s36
                  refine r_if_eq (q := 115) (tgt := 128) C dX12_suspects_112 (by decide) rfl ?_ ?_
                  · exact hj37 x29 s34
                  · refine r_iload_n (q := 116) (i := 2) (z := 2) C dX12_suspects_115 rfl rfl rfl ?_
                    refine r_aload_n (q := 117) (i := 0) (z := 0) C dX12_suspects_116 rfl rfl rfl ?_
                    refine g_X12_35 (q := 120) C (nm_12 hN) dX12_suspects_117 rfl ?_
                    refine r_bipush (q := 122) (v := 37) C dX12_suspects_120 rfl (by decide) ?_
                    refine r_iload (q := 124) (i := 5) (z := 5) C dX12_suspects_122 rfl rfl ?_
                    refine r_iadd (q := 125) C dX12_suspects_124 rfl ?_
                    refine r_ial (q := 126) q_12_5 h_12_5 C (nm_12 hN) dX12_suspects_125 rfl ?_
                    refine r_iand (q := 127) C dX12_suspects_126 rfl ?_
                    refine r_istore_n (q := 128) (i := 2) [(0, .ref (fad Δ 12 0 0)), (1, .int a1), (3, .int x27), (4, .int x19), (5, .int x30)] C dX12_suspects_127 rfl rfl (by decide) rfl (fun x39 => ?_)
                    refine r_locs (lc' := [(0, .ref (fad Δ 12 0 0)), (1, .int a1), (2, .int x39), (3, .int x27), (4, .int x19), (5, .int x30)]) [1, 2, 0, 3, 4, 5] rfl ?_
                    exact hj37 x39 s34
            exact L83 fF x17 x28 s20
          · refine r_goto (q := 134) C dX12_suspects_75 (by decide) ?_
            exact hj25 x17 x18 s20
    exact L44 fF x5 x6 x7 s4
  · refine r_aload_n (q := 23) (i := 0) (z := 0) C dX12_suspects_22 rfl rfl rfl ?_
    refine r_iconst (q := 24) (v := 5) C dX12_suspects_23 rfl (by decide) ?_
    refine r_callVI (q := 27) (As := [.int ((5 : Int32))]) wm_X12_348 yvX12_refuse (c_X12_refuse Δ hN ((5 : Int32)) s4) ⟨rfl, by decide⟩ C (nm_12 hN) (by decide) rfl (Nat.le_of_ble_eq_true rfl) dX12_suspects_24 rfl (fun x40 s41 => ?_)
    exact r_iret C dX12_suspects_27

noncomputable def f_X12_top  (st : fSt) : Option (Int64 × fSt) :=
  fLt (sI st 12 0 1 ((0 : Int32))) fun s1 =>
  some (gL s1 12 0 2, s1)

set_option maxHeartbeats 4000000 in
set_option maxRecDepth 100000 in
theorem c_X12_top (Δ : fDl) (hN : fNm Δ)   (st : fSt) : fMt eL Δ yX12_top cX12_top 1 (some .long) 1 [.ref (fad Δ 12 0 0)] st (f_X12_top  st) := by
  unfold f_X12_top
  refine r_method (by decide +kernel) (Nat.le_of_ble_eq_true rfl) (fun Γ C => ?_)
  have C : fC Δ Γ cX12_top RX12 1 (some .long) 1 := C
  refine r_locs (lc' := [(0, .ref (fad Δ 12 0 0))]) [0] rfl ?_
  refine r_aload_n (q := 1) (i := 0) (z := 0) C dX12_top_0 rfl rfl rfl ?_
  refine r_iconst (q := 2) (v := 0) C dX12_top_1 rfl (by decide) ?_
  refine p_X12_90 (q := 5) C (nm_12 hN) dX12_top_2 rfl (fun s1 => ?_)
  refine r_aload_n (q := 6) (i := 0) (z := 0) C dX12_top_5 rfl rfl rfl ?_
  refine g_X12_96 (q := 9) C (nm_12 hN) dX12_top_6 rfl ?_
  exact r_lret C dX12_top_9

noncomputable def f_X12_tray_L74 (a1 : Int32) (a3 : Int32) : Nat → Int32 → fSt → Option (Int32 × fSt)
  | 0, _, _ => none
  | n12 + 1, x10, s11 =>
      if a3 ≤ x10 then
                    (some ((1 : Int32), s11))
                  else
                    (fIx ((((60 : Int32)) * a1) + x10) 240 <|
                    fLt (sB s11 12 0 3 (vp_updL (gB s11 12 0 3) ((((60 : Int32)) * a1) + x10).toNatClampNeg ((0 : Int64)))) fun s13 =>
                    fLt (x10 + (1 : Int32)) fun (x14 : Int32) =>
                    f_X12_tray_L74 a1 a3 n12 x14 s13)

noncomputable def f_X12_tray (a1 : Int32) (a2 : Int32) (a3 : Int32) (st : fSt) : Option (Int32 × fSt) :=
  fLt (sI st 12 0 1 ((0 : Int32))) fun s1 =>
  fLt (sI s1 12 0 0 ((0 : Int32))) fun s2 =>
  fJn (fun (s3 : fSt) =>
    (fBd (f_X12_no ((1 : Int32)) s3) fun x5 s6 =>
    fBo x5 (some (x5, s6)))) fun (j4 : fSt → Option (Int32 × fSt)) =>
  if a1 < 0 then
    (j4 s2)
  else
    (if ((4 : Int32)) ≤ a1 then
      (j4 s2)
    else
      (if a2 < 0 then
        (j4 s2)
      else
        (if a2 ≤ ((3 : Int32)) then
          (if a3 ≤ ((60 : Int32)) then
            (if 0 ≤ a3 then
              (fIx a1 4 <|
              fLt (sA s2 12 0 1 (upd (gA s2 12 0 1) a1.toNatClampNeg a2)) fun s7 =>
              fIx a1 4 <|
              fLt (sA s7 12 0 2 (upd (gA s7 12 0 2) a1.toNatClampNeg a3)) fun s8 =>
              fLt ((0 : Int32)) fun (x9 : Int32) =>
              f_X12_tray_L74 a1 a3 fF x9 s8)
            else
              (fBd (f_X12_no ((6 : Int32)) s2) fun x15 s16 =>
              fBo x15 (some (x15, s16))))
          else
            (fBd (f_X12_no ((5 : Int32)) s2) fun x17 s18 =>
            fBo x17 (some (x17, s18))))
        else
          (j4 s2))))

set_option maxHeartbeats 4000000 in
set_option maxRecDepth 100000 in
theorem c_X12_tray (Δ : fDl) (hN : fNm Δ) (a1 : Int32) (a2 : Int32) (a3 : Int32)  (st : fSt) : fMt eI Δ yX12_tray cX12_tray 5 (some .boolean) 2 [.ref (fad Δ 12 0 0), .int a1, .int a2, .int a3] st (f_X12_tray a1 a2 a3 st) := by
  unfold f_X12_tray
  refine r_method (by decide +kernel) (Nat.le_of_ble_eq_true rfl) (fun Γ C => ?_)
  have C : fC Δ Γ cX12_tray RX12 5 (some .boolean) 2 := C
  refine r_locs (lc' := [(0, .ref (fad Δ 12 0 0)), (1, .int a1), (2, .int a2), (3, .int a3)]) [0, 1, 2, 3] rfl ?_
  refine r_aload_n (q := 1) (i := 0) (z := 0) C dX12_tray_0 rfl rfl rfl ?_
  refine r_iconst (q := 2) (v := 0) C dX12_tray_1 rfl (by decide) ?_
  refine p_X12_90 (q := 5) C (nm_12 hN) dX12_tray_2 rfl (fun s1 => ?_)
  refine r_aload_n (q := 6) (i := 0) (z := 0) C dX12_tray_5 rfl rfl rfl ?_
  refine r_iconst (q := 7) (v := 0) C dX12_tray_6 rfl (by decide) ?_
  refine p_X12_93 (q := 10) C (nm_12 hN) dX12_tray_7 rfl (fun s2 => ?_)
  refine r_iload_n (q := 11) (i := 1) (z := 1) C dX12_tray_10 rfl rfl rfl ?_
  refine r_join (fun j4 => ∀  (s3 : fSt), fW Δ Γ 5 (fQ eI Δ Γ) 28 [(0, .ref (fad Δ 12 0 0))] [] s3 (j4 s3)) ?_ (fun j4 hj4 => ?_)
  · intro s3
    refine r_aload_n (q := 29) (i := 0) (z := 0) C dX12_tray_28 rfl rfl rfl ?_
    refine r_iconst (q := 30) (v := 1) C dX12_tray_29 rfl (by decide) ?_
    refine r_callVI (q := 33) (As := [.int ((1 : Int32))]) wm_X12_109 yvX12_no (c_X12_no Δ hN ((1 : Int32)) s3) ⟨rfl, by decide⟩ C (nm_12 hN) (by decide) rfl (Nat.le_of_ble_eq_true rfl) dX12_tray_30 rfl (fun x5 s6 => ?_)
    exact r_zret C dX12_tray_33
  refine r_if_lt (q := 14) (tgt := 28) C dX12_tray_11 (by decide) rfl ?_ ?_
  · refine r_locs (lc' := [(0, .ref (fad Δ 12 0 0))]) [0] rfl ?_
    exact hj4 s2
  · refine r_iload_n (q := 15) (i := 1) (z := 1) C dX12_tray_14 rfl rfl rfl ?_
    refine r_iconst (q := 16) (v := 4) C dX12_tray_15 rfl (by decide) ?_
    refine r_icmp_ge (q := 19) (tgt := 28) C dX12_tray_16 (by decide) rfl ?_ ?_
    · refine r_locs (lc' := [(0, .ref (fad Δ 12 0 0))]) [0] rfl ?_
      exact hj4 s2
    · refine r_iload_n (q := 20) (i := 2) (z := 2) C dX12_tray_19 rfl rfl rfl ?_
      refine r_if_lt (q := 23) (tgt := 28) C dX12_tray_20 (by decide) rfl ?_ ?_
      · refine r_locs (lc' := [(0, .ref (fad Δ 12 0 0))]) [0] rfl ?_
        exact hj4 s2
      · refine r_iload_n (q := 24) (i := 2) (z := 2) C dX12_tray_23 rfl rfl rfl ?_
        refine r_iconst (q := 25) (v := 3) C dX12_tray_24 rfl (by decide) ?_
        refine r_icmp_le (q := 28) (tgt := 34) C dX12_tray_25 (by decide) rfl ?_ ?_
        · refine r_iload_n (q := 35) (i := 3) (z := 3) C dX12_tray_34 rfl rfl rfl ?_
          refine r_bipush (q := 37) (v := 60) C dX12_tray_35 rfl (by decide) ?_
          refine r_icmp_le (q := 40) (tgt := 46) C dX12_tray_37 (by decide) rfl ?_ ?_
          · refine r_iload_n (q := 47) (i := 3) (z := 3) C dX12_tray_46 rfl rfl rfl ?_
            refine r_if_ge (q := 50) (tgt := 57) C dX12_tray_47 (by decide) rfl ?_ ?_
            · refine r_aload_n (q := 58) (i := 0) (z := 0) C dX12_tray_57 rfl rfl rfl ?_
              refine g_X12_13 (q := 61) C (nm_12 hN) dX12_tray_58 rfl ?_
              refine r_iload_n (q := 62) (i := 1) (z := 1) C dX12_tray_61 rfl rfl rfl ?_
              refine r_iload_n (q := 63) (i := 2) (z := 2) C dX12_tray_62 rfl rfl rfl ?_
              refine r_ast (q := 64) q_12_1 h_12_1 C (nm_12 hN) dX12_tray_63 rfl (fun s7 => ?_)
              refine r_aload_n (q := 65) (i := 0) (z := 0) C dX12_tray_64 rfl rfl rfl ?_
              refine g_X12_17 (q := 68) C (nm_12 hN) dX12_tray_65 rfl ?_
              refine r_iload_n (q := 69) (i := 1) (z := 1) C dX12_tray_68 rfl rfl rfl ?_
              refine r_iload_n (q := 70) (i := 3) (z := 3) C dX12_tray_69 rfl rfl rfl ?_
              refine r_ast (q := 71) q_12_2 h_12_2 C (nm_12 hN) dX12_tray_70 rfl (fun s8 => ?_)
              refine r_iconst (q := 72) (v := 0) C dX12_tray_71 rfl (by decide) ?_
              refine r_istore (q := 74) (i := 4) [(0, .ref (fad Δ 12 0 0)), (1, .int a1), (2, .int a2), (3, .int a3)] C dX12_tray_72 rfl (by decide) rfl (fun x9 => ?_)
              refine r_locs (lc' := [(0, .ref (fad Δ 12 0 0)), (1, .int a1), (3, .int a3), (4, .int x9)]) [1, 2, 4, 0] rfl ?_
              have L74 : ∀ (n12 : Nat) (x10 : Int32) (s11 : fSt), fW Δ Γ 5 (fQ eI Δ Γ) 74 [(0, .ref (fad Δ 12 0 0)), (1, .int a1), (3, .int a3), (4, .int x10)] [] s11 (f_X12_tray_L74 a1 a3 n12 x10 s11) := by
                intro n12
                induction n12 with
                | zero =>
                  intro x10 s11
                  rw [f_X12_tray_L74]
                  exact r_none
                | succ n12 ih_n12 =>
                  intro x10 s11
                  rw [f_X12_tray_L74]
                  refine r_iload (q := 76) (i := 4) (z := 3) C dX12_tray_74 rfl rfl ?_
                  refine r_iload_n (q := 77) (i := 3) (z := 2) C dX12_tray_76 rfl rfl rfl ?_
                  refine r_icmp_ge (q := 80) (tgt := 99) C dX12_tray_77 (by decide) rfl ?_ ?_
                  · refine r_iconst (q := 100) (v := 1) C dX12_tray_99 rfl (by decide) ?_
                    exact r_zret0 (Or.inr rfl) C dX12_tray_100
                  · refine r_aload_n (q := 81) (i := 0) (z := 0) C dX12_tray_80 rfl rfl rfl ?_
                    refine g_X12_20 (q := 84) C (nm_12 hN) dX12_tray_81 rfl ?_
                    refine r_bipush (q := 86) (v := 60) C dX12_tray_84 rfl (by decide) ?_
                    refine r_iload_n (q := 87) (i := 1) (z := 1) C dX12_tray_86 rfl rfl rfl ?_
                    refine r_imul (q := 88) C dX12_tray_87 rfl ?_
                    refine r_iload (q := 90) (i := 4) (z := 3) C dX12_tray_88 rfl rfl ?_
                    refine r_iadd (q := 91) C dX12_tray_90 rfl ?_
                    refine r_lconst (q := 92) (v := 0) C dX12_tray_91 rfl (by decide) ?_
                    refine r_lst (q := 93) q_12_3 h_12_3 C (nm_12 hN) dX12_tray_92 rfl (fun s13 => ?_)
                    refine r_iinc (q := 96) (z := 3) (d := 1) [(0, .ref (fad Δ 12 0 0)), (1, .int a1), (3, .int a3)] C dX12_tray_93 rfl rfl (by decide) (by decide) rfl (fun x14 => ?_)
                    refine r_goto (q := 74) C dX12_tray_96 (by decide) ?_
                    refine r_locs (lc' := [(0, .ref (fad Δ 12 0 0)), (1, .int a1), (3, .int a3), (4, .int x14)]) [1, 2, 3, 0] rfl ?_
                    exact ih_n12 x14 s13
              exact L74 fF x9 s8
            · refine r_aload_n (q := 51) (i := 0) (z := 0) C dX12_tray_50 rfl rfl rfl ?_
              refine r_bipush (q := 53) (v := 6) C dX12_tray_51 rfl (by decide) ?_
              refine r_callVI (q := 56) (As := [.int ((6 : Int32))]) wm_X12_109 yvX12_no (c_X12_no Δ hN ((6 : Int32)) s2) ⟨rfl, by decide⟩ C (nm_12 hN) (by decide) rfl (Nat.le_of_ble_eq_true rfl) dX12_tray_53 rfl (fun x15 s16 => ?_)
              exact r_zret C dX12_tray_56
          · refine r_aload_n (q := 41) (i := 0) (z := 0) C dX12_tray_40 rfl rfl rfl ?_
            refine r_iconst (q := 42) (v := 5) C dX12_tray_41 rfl (by decide) ?_
            refine r_callVI (q := 45) (As := [.int ((5 : Int32))]) wm_X12_109 yvX12_no (c_X12_no Δ hN ((5 : Int32)) s2) ⟨rfl, by decide⟩ C (nm_12 hN) (by decide) rfl (Nat.le_of_ble_eq_true rfl) dX12_tray_42 rfl (fun x17 s18 => ?_)
            exact r_zret C dX12_tray_45
        · refine r_locs (lc' := [(0, .ref (fad Δ 12 0 0))]) [0] rfl ?_
          exact hj4 s2

noncomputable def f_X12_unseen_L23  : Nat → Int32 → Int32 → fSt → Option (Int32 × fSt)
  | 0, _, _, _ => none
  | n8 + 1, x5, x6, s7 =>
      fIx ((6 : Int32)) 2150 <|
      if (gA s7 12 0 5 ((6 : Int32)).toNatClampNeg) ≤ x6 then
        (some (x5, s7))
      else
        (fIx (((137 : Int32)) + (((4 : Int32)) * x6)) 2150 <|
        fLt (x5 &&& ((gA s7 12 0 5 (((137 : Int32)) + (((4 : Int32)) * x6)).toNatClampNeg) ^^^ ((-1 : Int32)))) fun (x9 : Int32) =>
        fLt (x6 + (1 : Int32)) fun (x10 : Int32) =>
        f_X12_unseen_L23 n8 x9 x10 s7)

noncomputable def f_X12_unseen  (st : fSt) : Option (Int32 × fSt) :=
  fLt (sI st 12 0 1 ((0 : Int32))) fun s1 =>
  fLt (sI s1 12 0 0 ((0 : Int32))) fun s2 =>
  fIx ((2 : Int32)) 2150 <|
  fLt ((((1 : Int32)) <<< ((gA s2 12 0 5 ((2 : Int32)).toNatClampNeg) &&& 31)) - ((1 : Int32))) fun (x3 : Int32) =>
  fLt ((0 : Int32)) fun (x4 : Int32) =>
  f_X12_unseen_L23 fF x3 x4 s2

set_option maxHeartbeats 4000000 in
set_option maxRecDepth 100000 in
theorem c_X12_unseen (Δ : fDl) (hN : fNm Δ)   (st : fSt) : fMt eI Δ yX12_unseen cX12_unseen 3 (some .int) 1 [.ref (fad Δ 12 0 0)] st (f_X12_unseen  st) := by
  unfold f_X12_unseen
  refine r_method (by decide +kernel) (Nat.le_of_ble_eq_true rfl) (fun Γ C => ?_)
  have C : fC Δ Γ cX12_unseen RX12 3 (some .int) 1 := C
  refine r_locs (lc' := [(0, .ref (fad Δ 12 0 0))]) [0] rfl ?_
  refine r_aload_n (q := 1) (i := 0) (z := 0) C dX12_unseen_0 rfl rfl rfl ?_
  refine r_iconst (q := 2) (v := 0) C dX12_unseen_1 rfl (by decide) ?_
  refine p_X12_90 (q := 5) C (nm_12 hN) dX12_unseen_2 rfl (fun s1 => ?_)
  refine r_aload_n (q := 6) (i := 0) (z := 0) C dX12_unseen_5 rfl rfl rfl ?_
  refine r_iconst (q := 7) (v := 0) C dX12_unseen_6 rfl (by decide) ?_
  refine p_X12_93 (q := 10) C (nm_12 hN) dX12_unseen_7 rfl (fun s2 => ?_)
  refine r_iconst (q := 11) (v := 1) C dX12_unseen_10 rfl (by decide) ?_
  refine r_aload_n (q := 12) (i := 0) (z := 0) C dX12_unseen_11 rfl rfl rfl ?_
  refine g_X12_35 (q := 15) C (nm_12 hN) dX12_unseen_12 rfl ?_
  refine r_iconst (q := 16) (v := 2) C dX12_unseen_15 rfl (by decide) ?_
  refine r_ial (q := 17) q_12_5 h_12_5 C (nm_12 hN) dX12_unseen_16 rfl ?_
  refine r_ishl (q := 18) C dX12_unseen_17 rfl ?_
  refine r_iconst (q := 19) (v := 1) C dX12_unseen_18 rfl (by decide) ?_
  refine r_isub (q := 20) C dX12_unseen_19 rfl ?_
  refine r_istore_n (q := 21) (i := 1) [(0, .ref (fad Δ 12 0 0))] C dX12_unseen_20 rfl rfl (by decide) rfl (fun x3 => ?_)
  refine r_iconst (q := 22) (v := 0) C dX12_unseen_21 rfl (by decide) ?_
  refine r_istore_n (q := 23) (i := 2) [(1, .int x3), (0, .ref (fad Δ 12 0 0))] C dX12_unseen_22 rfl rfl (by decide) rfl (fun x4 => ?_)
  refine r_locs (lc' := [(0, .ref (fad Δ 12 0 0)), (1, .int x3), (2, .int x4)]) [2, 1, 0] rfl ?_
  have L23 : ∀ (n8 : Nat) (x5 : Int32) (x6 : Int32) (s7 : fSt), fW Δ Γ 3 (fQ eI Δ Γ) 23 [(0, .ref (fad Δ 12 0 0)), (1, .int x5), (2, .int x6)] [] s7 (f_X12_unseen_L23 n8 x5 x6 s7) := by
    intro n8
    induction n8 with
    | zero =>
      intro x5 x6 s7
      rw [f_X12_unseen_L23]
      exact r_none
    | succ n8 ih_n8 =>
      intro x5 x6 s7
      rw [f_X12_unseen_L23]
      refine r_iload_n (q := 24) (i := 2) (z := 2) C dX12_unseen_23 rfl rfl rfl ?_
      refine r_aload_n (q := 25) (i := 0) (z := 0) C dX12_unseen_24 rfl rfl rfl ?_
      refine g_X12_35 (q := 28) C (nm_12 hN) dX12_unseen_25 rfl ?_
      refine r_bipush (q := 30) (v := 6) C dX12_unseen_28 rfl (by decide) ?_
      refine r_ial (q := 31) q_12_5 h_12_5 C (nm_12 hN) dX12_unseen_30 rfl ?_
      refine r_icmp_ge (q := 34) (tgt := 57) C dX12_unseen_31 (by decide) rfl ?_ ?_
      · refine r_iload_n (q := 58) (i := 1) (z := 1) C dX12_unseen_57 rfl rfl rfl ?_
        exact r_iret C dX12_unseen_58
      · refine r_iload_n (q := 35) (i := 1) (z := 1) C dX12_unseen_34 rfl rfl rfl ?_
        refine r_aload_n (q := 36) (i := 0) (z := 0) C dX12_unseen_35 rfl rfl rfl ?_
        refine g_X12_35 (q := 39) C (nm_12 hN) dX12_unseen_36 rfl ?_
        refine r_sipush (q := 42) (v := 137) C dX12_unseen_39 rfl (by decide) ?_
        refine r_iconst (q := 43) (v := 4) C dX12_unseen_42 rfl (by decide) ?_
        refine r_iload_n (q := 44) (i := 2) (z := 2) C dX12_unseen_43 rfl rfl rfl ?_
        refine r_imul (q := 45) C dX12_unseen_44 rfl ?_
        refine r_iadd (q := 46) C dX12_unseen_45 rfl ?_
        refine r_ial (q := 47) q_12_5 h_12_5 C (nm_12 hN) dX12_unseen_46 rfl ?_
        refine r_iconst (q := 48) (v := (-1)) C dX12_unseen_47 rfl (by decide) ?_
        refine r_ixor (q := 49) C dX12_unseen_48 rfl ?_
        refine r_iand (q := 50) C dX12_unseen_49 rfl ?_
        refine r_istore_n (q := 51) (i := 1) [(0, .ref (fad Δ 12 0 0)), (2, .int x6)] C dX12_unseen_50 rfl rfl (by decide) rfl (fun x9 => ?_)
        refine r_iinc (q := 54) (z := 2) (d := 1) [(1, .int x9), (0, .ref (fad Δ 12 0 0))] C dX12_unseen_51 rfl rfl (by decide) (by decide) rfl (fun x10 => ?_)
        refine r_goto (q := 23) C dX12_unseen_54 (by decide) ?_
        refine r_locs (lc' := [(0, .ref (fad Δ 12 0 0)), (1, .int x9), (2, .int x10)]) [2, 1, 0] rfl ?_
        exact ih_n8 x9 x10 s7
  exact L23 fF x3 x4 s2

noncomputable def f_X12_ways  (st : fSt) : Option (Int32 × fSt) :=
  fLt (sI st 12 0 1 ((0 : Int32))) fun s1 =>
  fLt (sI s1 12 0 0 ((0 : Int32))) fun s2 =>
  fBd (f_X12_isDark  s2) fun x3 s4 =>
  if x3 = 0 then
    (fBd (f_X12_goAll ((-1 : Int32)) s4) fun _ s5 =>
    some (gI s5 12 0 34, s5))
  else
    (fBd (f_X12_refuse ((9 : Int32)) s4) fun x6 s7 =>
    some (x6, s7))

set_option maxHeartbeats 4000000 in
set_option maxRecDepth 100000 in
theorem c_X12_ways (Δ : fDl) (hN : fNm Δ)   (st : fSt) : fMt eI Δ yX12_ways cX12_ways 1 (some .int) 19 [.ref (fad Δ 12 0 0)] st (f_X12_ways  st) := by
  unfold f_X12_ways
  refine r_method (by decide +kernel) (Nat.le_of_ble_eq_true rfl) (fun Γ C => ?_)
  have C : fC Δ Γ cX12_ways RX12 1 (some .int) 19 := C
  refine r_locs (lc' := [(0, .ref (fad Δ 12 0 0))]) [0] rfl ?_
  refine r_aload_n (q := 1) (i := 0) (z := 0) C dX12_ways_0 rfl rfl rfl ?_
  refine r_iconst (q := 2) (v := 0) C dX12_ways_1 rfl (by decide) ?_
  refine p_X12_90 (q := 5) C (nm_12 hN) dX12_ways_2 rfl (fun s1 => ?_)
  refine r_aload_n (q := 6) (i := 0) (z := 0) C dX12_ways_5 rfl rfl rfl ?_
  refine r_iconst (q := 7) (v := 0) C dX12_ways_6 rfl (by decide) ?_
  refine p_X12_93 (q := 10) C (nm_12 hN) dX12_ways_7 rfl (fun s2 => ?_)
  refine r_aload_n (q := 11) (i := 0) (z := 0) C dX12_ways_10 rfl rfl rfl ?_
  refine r_callVI (q := 14) (As := []) wm_X12_403 yvX12_isDark (c_X12_isDark Δ hN s2) ⟨rfl, by decide⟩ C (nm_12 hN) (by decide) rfl (Nat.le_of_ble_eq_true rfl) dX12_ways_11 rfl (fun x3 s4 => ?_)
  refine r_if_eq (q := 17) (tgt := 24) C dX12_ways_14 (by decide) rfl ?_ ?_
  · refine r_aload_n (q := 25) (i := 0) (z := 0) C dX12_ways_24 rfl rfl rfl ?_
    refine r_iconst (q := 26) (v := (-1)) C dX12_ways_25 rfl (by decide) ?_
    refine r_callVV (q := 29) (As := [.int ((-1 : Int32))]) wm_X12_492 yvX12_goAll (c_X12_goAll Δ hN ((-1 : Int32)) s4) ⟨rfl, by decide⟩ C (nm_12 hN) (by decide) rfl (Nat.le_of_ble_eq_true rfl) dX12_ways_26 rfl (fun _ s5 => ?_)
    refine r_aload_n (q := 30) (i := 0) (z := 0) C dX12_ways_29 rfl rfl rfl ?_
    refine g_X12_447 (q := 33) C (nm_12 hN) dX12_ways_30 rfl ?_
    exact r_iret C dX12_ways_33
  · refine r_aload_n (q := 18) (i := 0) (z := 0) C dX12_ways_17 rfl rfl rfl ?_
    refine r_bipush (q := 20) (v := 9) C dX12_ways_18 rfl (by decide) ?_
    refine r_callVI (q := 23) (As := [.int ((9 : Int32))]) wm_X12_348 yvX12_refuse (c_X12_refuse Δ hN ((9 : Int32)) s4) ⟨rfl, by decide⟩ C (nm_12 hN) (by decide) rfl (Nat.le_of_ble_eq_true rfl) dX12_ways_20 rfl (fun x6 s7 => ?_)
    exact r_iret C dX12_ways_23

noncomputable def f_X12_week_L82  : Nat → Int32 → fSt → Option (Int32 × fSt)
  | 0, _, _ => none
  | n15 + 1, x13, s14 =>
      if (((7 : Int32)) * (gI s14 12 0 24)) ≤ x13 then
              (some (gI s14 12 0 24, s14))
            else
              (fIx (((1939 : Int32)) + x13) 2150 <|
              fIx (((219 : Int32)) + x13) 2150 <|
              fLt (sA s14 12 0 5 (upd (gA s14 12 0 5) (((219 : Int32)) + x13).toNatClampNeg (gA s14 12 0 5 (((1939 : Int32)) + x13).toNatClampNeg))) fun s16 =>
              fLt (x13 + (1 : Int32)) fun (x17 : Int32) =>
              f_X12_week_L82 n15 x17 s16)

noncomputable def f_X12_week_L28 (k7 : fSt → Option (Int32 × fSt)) : Nat → fSt → Option (Int32 × fSt)
  | 0, _ => none
  | n19 + 1, s18 =>
      if ¬ (gI s18 12 0 12) = 0 then
          (k7 s18)
        else
          (if (gI s18 12 0 14) = 0 then
            (k7 s18)
          else
            (fBd (f_X12_readStep 6 ((0 : Int32)) s18) fun _ s20 =>
            f_X12_week_L28 k7 n19 s20))

noncomputable def f_X12_week (a1 : Int32) (st : fSt) : Option (Int32 × fSt) :=
  fLt (sI st 12 0 1 ((0 : Int32))) fun s1 =>
  fLt (sI s1 12 0 0 ((0 : Int32))) fun s2 =>
  fBd (f_X12_opens a1 ((300 : Int32)) s2) fun x3 s4 =>
  if ¬ x3 = 0 then
    (fLt (sI s4 12 0 24 ((0 : Int32))) fun s5 =>
    fJn (fun (s6 : fSt) =>
      (fBd (f_X12_isWell  s6) fun x8 s9 =>
      if ¬ x8 = 0 then
        (fIx ((217 : Int32)) 2150 <|
        fLt (sA s9 12 0 5 (upd (gA s9 12 0 5) ((217 : Int32)).toNatClampNeg ((1 : Int32)))) fun s10 =>
        fIx ((218 : Int32)) 2150 <|
        fLt (sA s10 12 0 5 (upd (gA s10 12 0 5) ((218 : Int32)).toNatClampNeg (gI s10 12 0 24))) fun s11 =>
        fLt ((0 : Int32)) fun (x12 : Int32) =>
        f_X12_week_L82 fF x12 s11)
      else
        (some ((-1 : Int32), s9)))) fun (k7 : fSt → Option (Int32 × fSt)) =>
    f_X12_week_L28 k7 fF s5)
  else
    (some ((-1 : Int32), s4))

set_option maxHeartbeats 4000000 in
set_option maxRecDepth 100000 in
theorem c_X12_week (Δ : fDl) (hN : fNm Δ) (a1 : Int32)  (st : fSt) : fMt eI Δ yX12_week cX12_week 3 (some .int) 15 [.ref (fad Δ 12 0 0), .int a1] st (f_X12_week a1 st) := by
  unfold f_X12_week
  refine r_method (by decide +kernel) (Nat.le_of_ble_eq_true rfl) (fun Γ C => ?_)
  have C : fC Δ Γ cX12_week RX12 3 (some .int) 15 := C
  refine r_locs (lc' := [(0, .ref (fad Δ 12 0 0)), (1, .int a1)]) [0, 1] rfl ?_
  refine r_aload_n (q := 1) (i := 0) (z := 0) C dX12_week_0 rfl rfl rfl ?_
  refine r_iconst (q := 2) (v := 0) C dX12_week_1 rfl (by decide) ?_
  refine p_X12_90 (q := 5) C (nm_12 hN) dX12_week_2 rfl (fun s1 => ?_)
  refine r_aload_n (q := 6) (i := 0) (z := 0) C dX12_week_5 rfl rfl rfl ?_
  refine r_iconst (q := 7) (v := 0) C dX12_week_6 rfl (by decide) ?_
  refine p_X12_93 (q := 10) C (nm_12 hN) dX12_week_7 rfl (fun s2 => ?_)
  refine r_aload_n (q := 11) (i := 0) (z := 0) C dX12_week_10 rfl rfl rfl ?_
  refine r_iload_n (q := 12) (i := 1) (z := 1) C dX12_week_11 rfl rfl rfl ?_
  refine r_sipush (q := 15) (v := 300) C dX12_week_12 rfl (by decide) ?_
  refine r_callVI (q := 18) (As := [.int a1, .int ((300 : Int32))]) wm_X12_302 yvX12_opens (c_X12_opens Δ hN a1 ((300 : Int32)) s2) ⟨rfl, by decide⟩ C (nm_12 hN) (by decide) rfl (Nat.le_of_ble_eq_true rfl) dX12_week_15 rfl (fun x3 s4 => ?_)
  refine r_if_ne (q := 21) (tgt := 23) C dX12_week_18 (by decide) rfl ?_ ?_
  · refine r_aload_n (q := 24) (i := 0) (z := 0) C dX12_week_23 rfl rfl rfl ?_
    refine r_iconst (q := 25) (v := 0) C dX12_week_24 rfl (by decide) ?_
    refine p_X12_333 (q := 28) C (nm_12 hN) dX12_week_25 rfl (fun s5 => ?_)
    refine r_join (fun k7 => ∀  (s6 : fSt), fW Δ Γ 3 (fQ eI Δ Γ) 50 [(0, .ref (fad Δ 12 0 0))] [] s6 (k7 s6)) ?_ (fun k7 hk7 => ?_)
    · intro s6
      refine r_aload_n (q := 51) (i := 0) (z := 0) C dX12_week_50 rfl rfl rfl ?_
      refine r_callVI (q := 54) (As := []) wm_X12_321 yvX12_isWell (c_X12_isWell Δ hN s6) ⟨rfl, by decide⟩ C (nm_12 hN) (by decide) rfl (Nat.le_of_ble_eq_true rfl) dX12_week_51 rfl (fun x8 s9 => ?_)
      refine r_if_ne (q := 57) (tgt := 59) C dX12_week_54 (by decide) rfl ?_ ?_
      · refine r_aload_n (q := 60) (i := 0) (z := 0) C dX12_week_59 rfl rfl rfl ?_
        refine g_X12_35 (q := 63) C (nm_12 hN) dX12_week_60 rfl ?_
        refine r_sipush (q := 66) (v := 217) C dX12_week_63 rfl (by decide) ?_
        refine r_iconst (q := 67) (v := 1) C dX12_week_66 rfl (by decide) ?_
        refine r_ast (q := 68) q_12_5 h_12_5 C (nm_12 hN) dX12_week_67 rfl (fun s10 => ?_)
        refine r_aload_n (q := 69) (i := 0) (z := 0) C dX12_week_68 rfl rfl rfl ?_
        refine g_X12_35 (q := 72) C (nm_12 hN) dX12_week_69 rfl ?_
        refine r_sipush (q := 75) (v := 218) C dX12_week_72 rfl (by decide) ?_
        refine r_aload_n (q := 76) (i := 0) (z := 0) C dX12_week_75 rfl rfl rfl ?_
        refine g_X12_333 (q := 79) C (nm_12 hN) dX12_week_76 rfl ?_
        refine r_ast (q := 80) q_12_5 h_12_5 C (nm_12 hN) dX12_week_79 rfl (fun s11 => ?_)
        refine r_iconst (q := 81) (v := 0) C dX12_week_80 rfl (by decide) ?_
        refine r_istore_n (q := 82) (i := 2) [(0, .ref (fad Δ 12 0 0))] C dX12_week_81 rfl rfl (by decide) rfl (fun x12 => ?_)
        refine r_locs (lc' := [(0, .ref (fad Δ 12 0 0)), (2, .int x12)]) [1, 0] rfl ?_
        have L82 : ∀ (n15 : Nat) (x13 : Int32) (s14 : fSt), fW Δ Γ 3 (fQ eI Δ Γ) 82 [(0, .ref (fad Δ 12 0 0)), (2, .int x13)] [] s14 (f_X12_week_L82 n15 x13 s14) := by
          intro n15
          induction n15 with
          | zero =>
            intro x13 s14
            rw [f_X12_week_L82]
            exact r_none
          | succ n15 ih_n15 =>
            intro x13 s14
            rw [f_X12_week_L82]
            refine r_iload_n (q := 83) (i := 2) (z := 1) C dX12_week_82 rfl rfl rfl ?_
            refine r_bipush (q := 85) (v := 7) C dX12_week_83 rfl (by decide) ?_
            refine r_aload_n (q := 86) (i := 0) (z := 0) C dX12_week_85 rfl rfl rfl ?_
            refine g_X12_333 (q := 89) C (nm_12 hN) dX12_week_86 rfl ?_
            refine r_imul (q := 90) C dX12_week_89 rfl ?_
            refine r_icmp_ge (q := 93) (tgt := 119) C dX12_week_90 (by decide) rfl ?_ ?_
            · refine r_aload_n (q := 120) (i := 0) (z := 0) C dX12_week_119 rfl rfl rfl ?_
              refine g_X12_333 (q := 123) C (nm_12 hN) dX12_week_120 rfl ?_
              exact r_iret C dX12_week_123
            · refine r_aload_n (q := 94) (i := 0) (z := 0) C dX12_week_93 rfl rfl rfl ?_
              refine g_X12_35 (q := 97) C (nm_12 hN) dX12_week_94 rfl ?_
              refine r_sipush (q := 100) (v := 219) C dX12_week_97 rfl (by decide) ?_
              refine r_iload_n (q := 101) (i := 2) (z := 1) C dX12_week_100 rfl rfl rfl ?_
              refine r_iadd (q := 102) C dX12_week_101 rfl ?_
              refine r_aload_n (q := 103) (i := 0) (z := 0) C dX12_week_102 rfl rfl rfl ?_
              refine g_X12_35 (q := 106) C (nm_12 hN) dX12_week_103 rfl ?_
              refine r_sipush (q := 109) (v := 1939) C dX12_week_106 rfl (by decide) ?_
              refine r_iload_n (q := 110) (i := 2) (z := 1) C dX12_week_109 rfl rfl rfl ?_
              refine r_iadd (q := 111) C dX12_week_110 rfl ?_
              refine r_ial (q := 112) q_12_5 h_12_5 C (nm_12 hN) dX12_week_111 rfl ?_
              refine r_ast (q := 113) q_12_5 h_12_5 C (nm_12 hN) dX12_week_112 rfl (fun s16 => ?_)
              refine r_iinc (q := 116) (z := 1) (d := 1) [(0, .ref (fad Δ 12 0 0))] C dX12_week_113 rfl rfl (by decide) (by decide) rfl (fun x17 => ?_)
              refine r_goto (q := 82) C dX12_week_116 (by decide) ?_
              refine r_locs (lc' := [(0, .ref (fad Δ 12 0 0)), (2, .int x17)]) [1, 0] rfl ?_
              exact ih_n15 x17 s16
        exact L82 fF x12 s11
      · refine r_iconst (q := 58) (v := (-1)) C dX12_week_57 rfl (by decide) ?_
        exact r_iret C dX12_week_58
    refine r_locs (lc' := [(0, .ref (fad Δ 12 0 0))]) [0] rfl ?_
    have L28 : ∀ (n19 : Nat)  (s18 : fSt), fW Δ Γ 3 (fQ eI Δ Γ) 28 [(0, .ref (fad Δ 12 0 0))] [] s18 (f_X12_week_L28 k7 n19 s18) := by
      intro n19
      induction n19 with
      | zero =>
        intro s18
        rw [f_X12_week_L28]
        exact r_none
      | succ n19 ih_n19 =>
        intro s18
        rw [f_X12_week_L28]
        refine r_aload_n (q := 29) (i := 0) (z := 0) C dX12_week_28 rfl rfl rfl ?_
        refine g_X12_249 (q := 32) C (nm_12 hN) dX12_week_29 rfl ?_
        refine r_if_ne (q := 35) (tgt := 50) C dX12_week_32 (by decide) rfl ?_ ?_
        · exact hk7 s18
        · refine r_aload_n (q := 36) (i := 0) (z := 0) C dX12_week_35 rfl rfl rfl ?_
          refine g_X12_145 (q := 39) C (nm_12 hN) dX12_week_36 rfl ?_
          refine r_if_eq (q := 42) (tgt := 50) C dX12_week_39 (by decide) rfl ?_ ?_
          · exact hk7 s18
          · refine r_aload_n (q := 43) (i := 0) (z := 0) C dX12_week_42 rfl rfl rfl ?_
            refine r_iconst (q := 44) (v := 0) C dX12_week_43 rfl (by decide) ?_
            refine r_callVV (q := 47) (As := [.int ((0 : Int32))]) wm_X12_339 yvX12_readStep (c_X12_readStep Δ hN 6 ((0 : Int32)) s18) ⟨rfl, by decide⟩ C (nm_12 hN) (by decide) rfl (Nat.le_of_ble_eq_true rfl) dX12_week_44 rfl (fun _ s20 => ?_)
            refine r_goto (q := 28) C dX12_week_47 (by decide) ?_
            exact ih_n19 s20
    exact L28 fF s5
  · refine r_iconst (q := 22) (v := (-1)) C dX12_week_21 rfl (by decide) ?_
    exact r_iret C dX12_week_22

noncomputable def f_X12_who (a1 : Int32) (a2 : Int32) (st : fSt) : Option (Int32 × fSt) :=
  fLt (sI st 12 0 1 ((0 : Int32))) fun s1 =>
  fLt (sI s1 12 0 0 ((0 : Int32))) fun s2 =>
  fBd (f_X12_isKindAt a1 s2) fun x3 s4 =>
  if ¬ x3 = 0 then
    (fBd (f_X12_isIn a2.toInt64 ((0 : Int64)) ((9 : Int64)) s4) fun x5 s6 =>
    if ¬ x5 = 0 then
      (fBd (f_X12_sums ((-1 : Int32)) s6) fun _ s7 =>
      fIx a2 10 <|
      fLt (gB s7 12 0 12 a2.toNatClampNeg) fun (x8 : Int64) =>
      if ¬ (lg_cmp x8 ((0 : Int64))) = 0 then
        (fBd (f_X12_sums a1 s7) fun _ s9 =>
        fIx (((121 : Int32)) + a1) 2150 <|
        fIx a2 10 <|
        fBd (f_X12_fraction (((gA s9 12 0 5 (((121 : Int32)) + a1).toNatClampNeg).toInt64) * (gB s9 12 0 12 a2.toNatClampNeg)) x8 s9) fun x10 s11 =>
        fBo x10 (some (x10, s11)))
      else
        (fBd (f_X12_no ((8 : Int32)) s7) fun x12 s13 =>
        fBo x12 (some (x12, s13))))
    else
      (fBd (f_X12_no ((5 : Int32)) s6) fun x14 s15 =>
      fBo x14 (some (x14, s15))))
  else
    (fBd (f_X12_no ((2 : Int32)) s4) fun x16 s17 =>
    fBo x16 (some (x16, s17)))

set_option maxHeartbeats 4000000 in
set_option maxRecDepth 100000 in
theorem c_X12_who (Δ : fDl) (hN : fNm Δ) (a1 : Int32) (a2 : Int32)  (st : fSt) : fMt eI Δ yX12_who cX12_who 5 (some .boolean) 20 [.ref (fad Δ 12 0 0), .int a1, .int a2] st (f_X12_who a1 a2 st) := by
  unfold f_X12_who
  refine r_method (by decide +kernel) (Nat.le_of_ble_eq_true rfl) (fun Γ C => ?_)
  have C : fC Δ Γ cX12_who RX12 5 (some .boolean) 20 := C
  refine r_locs (lc' := [(0, .ref (fad Δ 12 0 0)), (1, .int a1), (2, .int a2)]) [0, 1, 2] rfl ?_
  refine r_aload_n (q := 1) (i := 0) (z := 0) C dX12_who_0 rfl rfl rfl ?_
  refine r_iconst (q := 2) (v := 0) C dX12_who_1 rfl (by decide) ?_
  refine p_X12_90 (q := 5) C (nm_12 hN) dX12_who_2 rfl (fun s1 => ?_)
  refine r_aload_n (q := 6) (i := 0) (z := 0) C dX12_who_5 rfl rfl rfl ?_
  refine r_iconst (q := 7) (v := 0) C dX12_who_6 rfl (by decide) ?_
  refine p_X12_93 (q := 10) C (nm_12 hN) dX12_who_7 rfl (fun s2 => ?_)
  refine r_aload_n (q := 11) (i := 0) (z := 0) C dX12_who_10 rfl rfl rfl ?_
  refine r_iload_n (q := 12) (i := 1) (z := 1) C dX12_who_11 rfl rfl rfl ?_
  refine r_callVI (q := 15) (As := [.int a1]) wm_X12_360 yvX12_isKindAt (c_X12_isKindAt Δ hN a1 s2) ⟨rfl, by decide⟩ C (nm_12 hN) (by decide) rfl (Nat.le_of_ble_eq_true rfl) dX12_who_12 rfl (fun x3 s4 => ?_)
  refine r_if_ne (q := 18) (tgt := 24) C dX12_who_15 (by decide) rfl ?_ ?_
  · refine r_iload_n (q := 25) (i := 2) (z := 2) C dX12_who_24 rfl rfl rfl ?_
    refine r_i2l (q := 26) C dX12_who_25 rfl ?_
    refine r_lconst (q := 27) (v := 0) C dX12_who_26 rfl (by decide) ?_
    refine r_ldc2 (q := 30) C dX12_who_27 rfl wl_X12_498 ?_
    refine r_callSI (q := 33) (As := [.long a2.toInt64, .long ((0 : Int64)), .long ((9 : Int64))]) wm_X12_129 ysX12_isIn (c_X12_isIn Δ hN a2.toInt64 ((0 : Int64)) ((9 : Int64)) s4) C (by decide) rfl (Nat.le_of_ble_eq_true rfl) dX12_who_30 rfl (fun x5 s6 => ?_)
    refine r_if_ne (q := 36) (tgt := 42) C dX12_who_33 (by decide) rfl ?_ ?_
    · refine r_aload_n (q := 43) (i := 0) (z := 0) C dX12_who_42 rfl rfl rfl ?_
      refine r_iconst (q := 44) (v := (-1)) C dX12_who_43 rfl (by decide) ?_
      refine r_callVV (q := 47) (As := [.int ((-1 : Int32))]) wm_X12_503 yvX12_sums (c_X12_sums Δ hN ((-1 : Int32)) s6) ⟨rfl, by decide⟩ C (nm_12 hN) (by decide) rfl (Nat.le_of_ble_eq_true rfl) dX12_who_44 rfl (fun _ s7 => ?_)
      refine r_aload_n (q := 48) (i := 0) (z := 0) C dX12_who_47 rfl rfl rfl ?_
      refine g_X12_57 (q := 51) C (nm_12 hN) dX12_who_48 rfl ?_
      refine r_iload_n (q := 52) (i := 2) (z := 2) C dX12_who_51 rfl rfl rfl ?_
      refine r_lal (q := 53) q_12_12 h_12_12 C (nm_12 hN) dX12_who_52 rfl ?_
      refine r_lstore_n (q := 54) (i := 3) [(0, .ref (fad Δ 12 0 0)), (1, .int a1), (2, .int a2)] C dX12_who_53 rfl rfl (by decide) rfl (fun x8 => ?_)
      refine r_lload_n (q := 55) (i := 3) (z := 0) C dX12_who_54 rfl rfl rfl ?_
      refine r_lconst (q := 56) (v := 0) C dX12_who_55 rfl (by decide) ?_
      refine r_lcmp (q := 57) C dX12_who_56 rfl ?_
      refine r_if_ne (q := 60) (tgt := 67) C dX12_who_57 (by decide) rfl ?_ ?_
      · refine r_aload_n (q := 68) (i := 0) (z := 1) C dX12_who_67 rfl rfl rfl ?_
        refine r_iload_n (q := 69) (i := 1) (z := 2) C dX12_who_68 rfl rfl rfl ?_
        refine r_callVV (q := 72) (As := [.int a1]) wm_X12_503 yvX12_sums (c_X12_sums Δ hN a1 s7) ⟨rfl, by decide⟩ C (nm_12 hN) (by decide) rfl (Nat.le_of_ble_eq_true rfl) dX12_who_69 rfl (fun _ s9 => ?_)
        refine r_aload_n (q := 73) (i := 0) (z := 1) C dX12_who_72 rfl rfl rfl ?_
        refine r_aload_n (q := 74) (i := 0) (z := 1) C dX12_who_73 rfl rfl rfl ?_
        refine g_X12_35 (q := 77) C (nm_12 hN) dX12_who_74 rfl ?_
        refine r_bipush (q := 79) (v := 121) C dX12_who_77 rfl (by decide) ?_
        refine r_iload_n (q := 80) (i := 1) (z := 2) C dX12_who_79 rfl rfl rfl ?_
        refine r_iadd (q := 81) C dX12_who_80 rfl ?_
        refine r_ial (q := 82) q_12_5 h_12_5 C (nm_12 hN) dX12_who_81 rfl ?_
        refine r_i2l (q := 83) C dX12_who_82 rfl ?_
        refine r_aload_n (q := 84) (i := 0) (z := 1) C dX12_who_83 rfl rfl rfl ?_
        refine g_X12_57 (q := 87) C (nm_12 hN) dX12_who_84 rfl ?_
        refine r_iload_n (q := 88) (i := 2) (z := 3) C dX12_who_87 rfl rfl rfl ?_
        refine r_lal (q := 89) q_12_12 h_12_12 C (nm_12 hN) dX12_who_88 rfl ?_
        refine r_lmul (q := 90) C dX12_who_89 rfl ?_
        refine r_lload_n (q := 91) (i := 3) (z := 0) C dX12_who_90 rfl rfl rfl ?_
        refine r_callVI (q := 94) (As := [.long (((gA s9 12 0 5 (((121 : Int32)) + a1).toNatClampNeg).toInt64) * (gB s9 12 0 12 a2.toNatClampNeg)), .long x8]) wm_X12_506 yvX12_fraction (c_X12_fraction Δ hN (((gA s9 12 0 5 (((121 : Int32)) + a1).toNatClampNeg).toInt64) * (gB s9 12 0 12 a2.toNatClampNeg)) x8 s9) ⟨rfl, by decide⟩ C (nm_12 hN) (by decide) rfl (Nat.le_of_ble_eq_true rfl) dX12_who_91 rfl (fun x10 s11 => ?_)
        exact r_zret C dX12_who_94
      · refine r_aload_n (q := 61) (i := 0) (z := 1) C dX12_who_60 rfl rfl rfl ?_
        refine r_bipush (q := 63) (v := 8) C dX12_who_61 rfl (by decide) ?_
        refine r_callVI (q := 66) (As := [.int ((8 : Int32))]) wm_X12_109 yvX12_no (c_X12_no Δ hN ((8 : Int32)) s7) ⟨rfl, by decide⟩ C (nm_12 hN) (by decide) rfl (Nat.le_of_ble_eq_true rfl) dX12_who_63 rfl (fun x12 s13 => ?_)
        exact r_zret C dX12_who_66
    · refine r_aload_n (q := 37) (i := 0) (z := 0) C dX12_who_36 rfl rfl rfl ?_
      refine r_iconst (q := 38) (v := 5) C dX12_who_37 rfl (by decide) ?_
      refine r_callVI (q := 41) (As := [.int ((5 : Int32))]) wm_X12_109 yvX12_no (c_X12_no Δ hN ((5 : Int32)) s6) ⟨rfl, by decide⟩ C (nm_12 hN) (by decide) rfl (Nat.le_of_ble_eq_true rfl) dX12_who_38 rfl (fun x14 s15 => ?_)
      exact r_zret C dX12_who_41
  · refine r_aload_n (q := 19) (i := 0) (z := 0) C dX12_who_18 rfl rfl rfl ?_
    refine r_iconst (q := 20) (v := 2) C dX12_who_19 rfl (by decide) ?_
    refine r_callVI (q := 23) (As := [.int ((2 : Int32))]) wm_X12_109 yvX12_no (c_X12_no Δ hN ((2 : Int32)) s4) ⟨rfl, by decide⟩ C (nm_12 hN) (by decide) rfl (Nat.le_of_ble_eq_true rfl) dX12_who_20 rfl (fun x16 s17 => ?_)
    exact r_zret C dX12_who_23

noncomputable def f_X12_write (a1 : Int32) (a2 : Int32) (a3 : Int64) (st : fSt) : Option (Int32 × fSt) :=
  fLt (sI st 12 0 1 ((0 : Int32))) fun s1 =>
  fBd (f_X12_placed a1 a2 s1) fun x2 s3 =>
  fLt (sI s3 12 0 0 x2) fun s4 =>
  if (gI s4 12 0 0) ≤ 0 then
    (fIx a1 4 <|
    fBd (f_X12_cut (gA s4 12 0 1 a1.toNatClampNeg) a3 s4) fun x5 s6 =>
    fIx ((((60 : Int32)) * a1) + a2) 240 <|
    fLt (sB s6 12 0 3 (vp_updL (gB s6 12 0 3) ((((60 : Int32)) * a1) + a2).toNatClampNeg x5)) fun s7 =>
    some ((1 : Int32), s7))
  else
    (some ((0 : Int32), s4))

set_option maxHeartbeats 4000000 in
set_option maxRecDepth 100000 in
theorem c_X12_write (Δ : fDl) (hN : fNm Δ) (a1 : Int32) (a2 : Int32) (a3 : Int64)  (st : fSt) : fMt eI Δ yX12_write cX12_write 5 (some .boolean) 3 [.ref (fad Δ 12 0 0), .int a1, .int a2, .long a3] st (f_X12_write a1 a2 a3 st) := by
  unfold f_X12_write
  refine r_method (by decide +kernel) (Nat.le_of_ble_eq_true rfl) (fun Γ C => ?_)
  have C : fC Δ Γ cX12_write RX12 5 (some .boolean) 3 := C
  refine r_locs (lc' := [(0, .ref (fad Δ 12 0 0)), (1, .int a1), (2, .int a2), (3, .long a3)]) [0, 1, 2, 3] rfl ?_
  refine r_aload_n (q := 1) (i := 0) (z := 0) C dX12_write_0 rfl rfl rfl ?_
  refine r_iconst (q := 2) (v := 0) C dX12_write_1 rfl (by decide) ?_
  refine p_X12_90 (q := 5) C (nm_12 hN) dX12_write_2 rfl (fun s1 => ?_)
  refine r_aload_n (q := 6) (i := 0) (z := 0) C dX12_write_5 rfl rfl rfl ?_
  refine r_aload_n (q := 7) (i := 0) (z := 0) C dX12_write_6 rfl rfl rfl ?_
  refine r_iload_n (q := 8) (i := 1) (z := 1) C dX12_write_7 rfl rfl rfl ?_
  refine r_iload_n (q := 9) (i := 2) (z := 2) C dX12_write_8 rfl rfl rfl ?_
  refine r_callVI (q := 12) (As := [.int a1, .int a2]) wm_X12_117 yvX12_placed (c_X12_placed Δ hN a1 a2 s1) ⟨rfl, by decide⟩ C (nm_12 hN) (by decide) rfl (Nat.le_of_ble_eq_true rfl) dX12_write_9 rfl (fun x2 s3 => ?_)
  refine p_X12_93 (q := 15) C (nm_12 hN) dX12_write_12 rfl (fun s4 => ?_)
  refine r_aload_n (q := 16) (i := 0) (z := 0) C dX12_write_15 rfl rfl rfl ?_
  refine g_X12_93 (q := 19) C (nm_12 hN) dX12_write_16 rfl ?_
  refine r_if_le (q := 22) (tgt := 24) C dX12_write_19 (by decide) rfl ?_ ?_
  · refine r_aload_n (q := 25) (i := 0) (z := 0) C dX12_write_24 rfl rfl rfl ?_
    refine g_X12_20 (q := 28) C (nm_12 hN) dX12_write_25 rfl ?_
    refine r_bipush (q := 30) (v := 60) C dX12_write_28 rfl (by decide) ?_
    refine r_iload_n (q := 31) (i := 1) (z := 1) C dX12_write_30 rfl rfl rfl ?_
    refine r_imul (q := 32) C dX12_write_31 rfl ?_
    refine r_iload_n (q := 33) (i := 2) (z := 2) C dX12_write_32 rfl rfl rfl ?_
    refine r_iadd (q := 34) C dX12_write_33 rfl ?_
    refine r_aload_n (q := 35) (i := 0) (z := 0) C dX12_write_34 rfl rfl rfl ?_
    refine g_X12_13 (q := 38) C (nm_12 hN) dX12_write_35 rfl ?_
    refine r_iload_n (q := 39) (i := 1) (z := 1) C dX12_write_38 rfl rfl rfl ?_
    refine r_ial (q := 40) q_12_1 h_12_1 C (nm_12 hN) dX12_write_39 rfl ?_
    refine r_lload_n (q := 41) (i := 3) (z := 3) C dX12_write_40 rfl rfl rfl ?_
    refine r_callSL (q := 44) (As := [.int (gA s4 12 0 1 a1.toNatClampNeg), .long a3]) wm_X12_121 ysX12_cut (c_X12_cut Δ hN (gA s4 12 0 1 a1.toNatClampNeg) a3 s4) C (by decide) rfl (Nat.le_of_ble_eq_true rfl) dX12_write_41 rfl (fun x5 s6 => ?_)
    refine r_lst (q := 45) q_12_3 h_12_3 C (nm_12 hN) dX12_write_44 rfl (fun s7 => ?_)
    refine r_iconst (q := 46) (v := 1) C dX12_write_45 rfl (by decide) ?_
    exact r_zret0 (Or.inr rfl) C dX12_write_46
  · refine r_iconst (q := 23) (v := 0) C dX12_write_22 rfl (by decide) ?_
    exact r_zret0 (Or.inl rfl) C dX12_write_23
