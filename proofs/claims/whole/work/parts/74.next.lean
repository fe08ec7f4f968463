/-! layer 2: advance and next -/
theorem x_sortOf {st : fSt} {v : Nat} (hv : v < 2 ^ 40) (hW : ∀ k, k < 32 → gB st 5 0 2 k = fWd k) : ∃ so, so ≤ 32 ∧ f_X5_sortOfWord (lN v) st = some (nI so, st) ∧ (so < 32 → v = cdW so) ∧ (so = 32 → ∀ k, k < 32 → ¬ v = cdW k) := by
  have key : ∀ r k F, k + r = 32 → r < F → (∀ j, j < k → ¬ v = cdW j) → ∃ so, so ≤ 32 ∧ f_X5_sortOfWord_L2 (lN v) F (nI k) st = some (nI so, st) ∧ (so < 32 → v = cdW so) ∧ (so = 32 → ∀ k, k < 32 → ¬ v = cdW k) := by
    intro r
    induction r with
    | zero =>
      intro k F hk hF hj
      obtain ⟨F, rfl⟩ : ∃ j, F = j + 1 := ⟨F - 1, by omega⟩
      have hk32 : k = 32 := by omega
      subst hk32
      refine ⟨32, Nat.le_refl _, ?_, fun h => absurd h (by omega), fun _ => hj⟩
      rw [f_X5_sortOfWord_L2]
      simp (disch := omega) only [↓fLt_e, fBd_s, ↓fJn_s, fNn_s, fNu_0, fNu_s, fBo_0, fBo_1, fBo_b, i_lit, i_neg1, nI_add, pk_mul, nI_clamp, i_le, i_lt, i_eq, fIx_n, nI_mI, mI_nI, mI_lt, nI_lt_m, mI_le, nI_le_m, xI_0, xI_s, bI_0, bI_1, bI_t, bI_f, n_31, j_bit, j_one, i_and, i_or, Nat.not_lt_zero, Nat.succ_ne_zero, Nat.add_one_ne_zero, Nat.add_one_sub_one, Nat.zero_le, Nat.or_zero, Nat.zero_or, Bool.not_true, Bool.not_false, Bool.true_and, Bool.false_and, Bool.and_true, Bool.and_false, ↓reduceIte, if_true, if_false, not_true_eq_false, not_false_eq_true, true_and, and_true, false_and, and_false, and_self, true_or, or_true, false_or, or_false, Nat.reduceEqDiff, Nat.reduceLT, Nat.reduceLeDiff, Nat.reduceAdd, Nat.reduceMul, Nat.reduceSub, Nat.add_zero, Nat.zero_add, Nat.mul_zero, Nat.zero_mul, ne_eq, Bool.not_eq_true, Bool.not_eq_false, reduceCtorEq, decide_true, decide_false, decide_eq_true_eq, decide_eq_false_iff_not, Bool.false_eq_true, if_pos, if_neg]
    | succ r ih =>
      intro k F hk hF hj
      obtain ⟨F, rfl⟩ : ∃ j, F = j + 1 := ⟨F - 1, by omega⟩
      have hc := cdW_lt k (by omega)
      have hW1 : gB st 5 0 2 k = lN (cdW k) := by rw [hW k (by omega), fw_tab k (by omega)]
      have hcmp : (lg_cmp (lN (cdW k)) (lN v) = 0) = (cdW k = v) := by rw [lg_eq, l_eq _ _ (by omega) (by omega)]
      by_cases h : v = cdW k
      · refine ⟨k, by omega, ?_, fun _ => h, fun h2 => by omega⟩
        have hcmp' : lg_cmp (lN (cdW k)) (lN v) = 0 := by rw [hcmp]; exact h.symm
        rw [f_X5_sortOfWord_L2]
        simp (disch := omega) only [↓fLt_e, fBd_s, ↓fJn_s, fNn_s, fNu_0, fNu_s, fBo_0, fBo_1, fBo_b, i_lit, i_neg1, nI_add, pk_mul, nI_clamp, i_le, i_lt, i_eq, fIx_n, nI_mI, mI_nI, mI_lt, nI_lt_m, mI_le, nI_le_m, xI_0, xI_s, bI_0, bI_1, bI_t, bI_f, n_31, j_bit, j_one, i_and, i_or, Nat.not_lt_zero, Nat.succ_ne_zero, Nat.add_one_ne_zero, Nat.add_one_sub_one, Nat.zero_le, Nat.or_zero, Nat.zero_or, Bool.not_true, Bool.not_false, Bool.true_and, Bool.false_and, Bool.and_true, Bool.and_false, ↓reduceIte, if_true, if_false, not_true_eq_false, not_false_eq_true, true_and, and_true, false_and, and_false, and_self, true_or, or_true, false_or, or_false, Nat.reduceEqDiff, Nat.reduceLT, Nat.reduceLeDiff, Nat.reduceAdd, Nat.reduceMul, Nat.reduceSub, Nat.add_zero, Nat.zero_add, Nat.mul_zero, Nat.zero_mul, ne_eq, Bool.not_eq_true, Bool.not_eq_false, reduceCtorEq, decide_true, decide_false, decide_eq_true_eq, decide_eq_false_iff_not, Bool.false_eq_true, if_pos, if_neg, hW1]
        rw [if_neg (show ¬ ¬ lg_cmp (lN (cdW k)) (lN v) = nI 0 from fun hh => hh hcmp')]
      · obtain ⟨so, g1, g2, g3, g4⟩ := ih (k + 1) F (by omega) (by omega) (fun j hj2 => by
          by_cases hjk : j = k
          · subst hjk; exact h
          · exact hj j (by omega))
        refine ⟨so, g1, ?_, g3, g4⟩
        have hcmp' : ¬ lg_cmp (lN (cdW k)) (lN v) = 0 := by rw [hcmp]; exact fun hh => h hh.symm
        rw [← g2, f_X5_sortOfWord_L2]
        simp (disch := omega) only [↓fLt_e, fBd_s, ↓fJn_s, fNn_s, fNu_0, fNu_s, fBo_0, fBo_1, fBo_b, i_lit, i_neg1, nI_add, pk_mul, nI_clamp, i_le, i_lt, i_eq, fIx_n, nI_mI, mI_nI, mI_lt, nI_lt_m, mI_le, nI_le_m, xI_0, xI_s, bI_0, bI_1, bI_t, bI_f, n_31, j_bit, j_one, i_and, i_or, Nat.not_lt_zero, Nat.succ_ne_zero, Nat.add_one_ne_zero, Nat.add_one_sub_one, Nat.zero_le, Nat.or_zero, Nat.zero_or, Bool.not_true, Bool.not_false, Bool.true_and, Bool.false_and, Bool.and_true, Bool.and_false, ↓reduceIte, if_true, if_false, not_true_eq_false, not_false_eq_true, true_and, and_true, false_and, and_false, and_self, true_or, or_true, false_or, or_false, Nat.reduceEqDiff, Nat.reduceLT, Nat.reduceLeDiff, Nat.reduceAdd, Nat.reduceMul, Nat.reduceSub, Nat.add_zero, Nat.zero_add, Nat.mul_zero, Nat.zero_mul, ne_eq, Bool.not_eq_true, Bool.not_eq_false, reduceCtorEq, decide_true, decide_false, decide_eq_true_eq, decide_eq_false_iff_not, Bool.false_eq_true, if_pos, if_neg, hW1]
        rw [if_pos (show ¬ lg_cmp (lN (cdW k)) (lN v) = nI 0 from hcmp')]
  exact key 32 0 fF (by omega) (fF_lt (by omega)) (fun j hj => absurd hj (Nat.not_lt_zero j))
noncomputable def advK : fSt → Option (Unit × fSt) := (fun (s1 : fSt) =>
    (fLt (sI s1 5 0 4 (gI s1 5 0 5)) fun s3 =>
    if (gI s3 5 0 4) < (gI s3 5 0 3) then
      (fIx (gI s3 5 0 4) 900 <|
      fLt (gA s3 5 0 1 (gI s3 5 0 4).toNatClampNeg) fun (x4 : Int32) =>
      fBd (f_X5_isLetter x4 s3) fun x5 s6 =>
      fJn (fun (s7 : fSt) =>
        (some ((), s7))) fun (j8 : fSt → Option (Unit × fSt)) =>
      if x5 = 0 then
        (fBd (f_X5_isDigit x4 s6) fun x9 s10 =>
        if x9 = 0 then
          (fJn (fun (x11 : Int32) (s12 : fSt) =>
            (fLt (sI s12 5 0 6 x11) fun s14 =>
            fLt (sI s14 5 0 5 ((gI s14 5 0 4) + ((1 : Int32)))) fun s15 =>
            j8 s15)) fun (j13 : Int32 → fSt → Option (Unit × fSt)) =>
          fJn (fun (s16 : fSt) =>
            (j13 x4 s16)) fun (j17 : fSt → Option (Unit × fSt)) =>
          if x4 = ((59 : Int32)) then
            (j17 s10)
          else
            (if x4 = ((60 : Int32)) then
              (j17 s10)
            else
              (if x4 = ((62 : Int32)) then
                (j17 s10)
              else
                (if ¬ x4 = ((61 : Int32)) then
                  (j13 ((36 : Int32)) s10)
                else
                  (j17 s10)))))
        else
          (fBd (f_X5_scanNumber  s10) fun _ s18 =>
          j8 s18))
      else
        (fBd (f_X5_scanWord  s6) fun _ s19 =>
        j8 s19))
    else
      (fLt (sI s3 5 0 6 ((35 : Int32))) fun s20 =>
      some ((), s20))))
theorem adv_eq (st : fSt) : f_X5_advance st = f_X5_advance_L0 advK fF st := rfl
noncomputable def nextK : fSt → Option (Unit × fSt) := (fun (s2 : fSt) =>
    (fLt (sI s2 12 0 16 (gI s2 12 0 15)) fun s4 =>
    if (gI s4 12 0 15) < (gI s4 12 0 9) then
      (fBd (f_X12_look2 (gI s4 12 0 15) s4) fun x5 s6 =>
      fLt x5 fun (x7 : Int32) =>
      fBd (f_X12_isLetter x7 s6) fun x8 s9 =>
      fJn (fun (s10 : fSt) =>
        (some ((), s10))) fun (j11 : fSt → Option (Unit × fSt)) =>
      if x8 = 0 then
        (fBd (f_X12_isDigit x7 s9) fun x12 s13 =>
        if x12 = 0 then
          (fLt (sI s13 12 0 16 ((gI s13 12 0 15) + ((1 : Int32)))) fun s14 =>
          fLt (sI s14 12 0 17 x7) fun s15 =>
          fBd (f_X12_isSignByte x7 s15) fun x16 s17 =>
          fJn (fun (x18 : Int32) (s19 : fSt) =>
            (fLt (sI s19 12 0 14 x18) fun s21 =>
            j11 s21)) fun (j20 : Int32 → fSt → Option (Unit × fSt)) =>
          if x16 = 0 then
            (j20 ((4 : Int32)) s17)
          else
            (j20 ((3 : Int32)) s17))
        else
          (fLt (sI s13 12 0 17 ((0 : Int32))) fun s22 =>
          fJn (fun (s23 : fSt) =>
            (fJn (fun (x25 : Int32) (s26 : fSt) =>
              (fLt (sI s26 12 0 14 x25) fun s28 =>
              j11 s28)) fun (j27 : Int32 → fSt → Option (Unit × fSt)) =>
            if ((gI s23 12 0 16) - (gI s23 12 0 15)) ≤ ((4 : Int32)) then
              (j27 ((2 : Int32)) s23)
            else
              (j27 ((4 : Int32)) s23))) fun (k24 : fSt → Option (Unit × fSt)) =>
          f_X12_next_L210 k24 fF s22))
      else
        (fLt (sI s9 12 0 14 ((1 : Int32))) fun s41 =>
        fLt (sL s41 12 0 19 ((0 : Int64))) fun s42 =>
        fJn (fun (s43 : fSt) =>
          (fLt (sI s43 12 0 18 ((gI s43 12 0 16) - (gI s43 12 0 15))) fun s45 =>
          j11 s45)) fun (k44 : fSt → Option (Unit × fSt)) =>
        f_X12_next_L109 k44 fF s42))
    else
      (fLt (sI s4 12 0 14 ((0 : Int32))) fun s59 =>
      some ((), s59))))
theorem next_eq (st : fSt) : f_X12_next st = f_X12_next_L8 nextK fF (sI st 12 0 15 (gI st 12 0 16)) := rfl
section
variable {sc sm : fSt} {n : Nat} {c : Nat → Nat}
theorem adv (T : tpe sc sm n c) {A B : Nat → Int32} {nm wd : Int64} {p : Nat} (hp : p ≤ n) (ha : A 5 = nI p) (hb : B 16 = nI p) : ∃ A' nm' B' wd' a' p' so, f_X5_advance (xT sc A nm) = some ((), xT sc A' nm') ∧ f_X12_next (yT sm B wd) = some ((), yT sm B' wd') ∧ (p ≤ a' ∧ a' ≤ p' ∧ p' ≤ n) ∧ (A' 4 = nI a' ∧ A' 5 = nI p') ∧ (B' 15 = nI a' ∧ B' 16 = nI p') ∧ tok A' nm' B' wd' so ∧ (¬ so = 35 → a' < p') := by
  have T0 := T
  obtain ⟨t1, t2, t3, t4, t5⟩ := T0
  -- what the first token is
  have hgo : ∀ a A B, p ≤ a → a ≤ n → A 5 = nI a → B 15 = nI a → ∃ A' nm' B' wd' p' so, advK (xT sc A nm) = some ((), xT sc A' nm') ∧ nextK (yT sm B wd) = some ((), yT sm B' wd') ∧ (a ≤ p' ∧ p' ≤ n) ∧ (A' 4 = nI a ∧ A' 5 = nI p') ∧ (B' 15 = nI a ∧ B' 16 = nI p') ∧ tok A' nm' B' wd' so ∧ (¬ so = 35 → a < p') := by
    intro a A B hpa han ha hb
    have sxx : ∀ A nm k u, (4 ≤ k ∧ k < 9) → sI (xT sc A nm) 5 0 k u = xT sc (upd A k u) nm := fun A nm k u h => xT_sI _ _ _ h u
    have syy : ∀ B wd k u, (14 ≤ k ∧ k < 19) → sI (yT sm B wd) 12 0 k u = yT sm (upd B k u) wd := fun B wd k u h => yT_sI _ _ _ h u
    have gxx : ∀ A nm k, (4 ≤ k ∧ k < 9) → gI (xT sc A nm) 5 0 k = A k := fun A nm k h => xT_I _ _ _ h
    have gyy : ∀ B wd k, (14 ≤ k ∧ k < 19) → gI (yT sm B wd) 12 0 k = B k := fun B wd k h => yT_I _ _ _ h
    have gx3 : ∀ A nm, gI (xT sc A nm) 5 0 3 = nI n := fun A nm => by rw [xT_o _ _ _ (by omega)]; exact t2
    have gy9 : ∀ B wd, gI (yT sm B wd) 12 0 9 = nI n := fun B wd => by rw [yT_o _ _ _ (by omega)]; exact t3
    by_cases hend : a < n
    · obtain ⟨c1, c2, c3⟩ := t5 a hend
      have hlk := fun B wd => m_look (B := B) (wd := wd) T (p := a) (by omega)
      simp only [if_neg (show ¬ n ≤ a by omega)] at hlk
      have hxl := fun st => x_isLet c2 c1 st
      have hml := fun st => m_isLet c1 st
      have hxd := fun st => x_isDig c2 c1 st
      have hmd := fun st => m_isDig c1 st
      have hAa : upd A 4 (nI a) 5 = nI a := by rw [upd_at, if_neg (by omega)]; exact ha
      have hBa : upd B 16 (nI a) 15 = nI a := by rw [upd_at, if_neg (by omega)]; exact hb
      by_cases hlet : 97 ≤ c a ∧ c a ≤ 122
      · -- a word
        rw [decide_eq_true hlet] at hxl hml
        obtain ⟨p', v', wd', q1, q2, q3, q4, q5, q6, q7⟩ := w_loop T a nm (n - a) a 0 (upd A 4 (nI a)) (upd (upd B 16 (nI a)) 14 (nI 1)) (lN 0) fF fF (by omega) (Nat.le_refl _) (Nat.lt_of_le_of_lt (show n - a ≤ 900 by omega) (fF_lt (by omega))) (Nat.lt_of_le_of_lt (show n - a ≤ 900 by omega) (fF_lt (by omega))) (by rw [upd_at, if_pos rfl]) hAa (by rw [upd_at, if_neg (by omega)]; exact hBa) (by rw [upd_at, if_neg (by omega), upd_at, if_pos rfl]) (Nat.pow_pos (by omega)) (by rw [if_pos (by omega)])
        have hq5 := q5 hend hlet
        have hpa' : nI p' - nI a = nI (p' - a) := nI_sub (by omega)
        have hW : ∀ A nm k, k < 32 → gB (xT sc A nm) 5 0 2 k = fWd k := fun A nm k hk => t4 k hk
        have hlast : ∃ so, so ≤ 33 ∧ (8 < p' - a → so = 33) ∧ (p' - a ≤ 8 → so ≤ 32 ∧ (so < 32 → v' = cdW so) ∧ (so = 32 → ∀ k, k < 32 → ¬ v' = cdW k)) ∧ f_X5_scanWord (xT sc (upd A 4 (nI a)) nm) = some ((), xT sc (upd (upd (upd A 4 (nI a)) 5 (nI p')) 6 (nI so)) (lN v')) := by
          by_cases h8 : p' - a ≤ 8
          · obtain ⟨so, s1, s2, s3, s4⟩ := x_sortOf (st := xT sc (upd (upd A 4 (nI a)) 5 (nI p')) (lN v')) q3 (hW _ _)
            refine ⟨so, by omega, fun h => by omega, fun _ => ⟨s1, s3, s4⟩, ?_⟩
            unfold f_X5_scanWord
            simp only [↓fLt_e, ↓fJn_s, l_lit]
            rw [q6]
            simp (disch := omega) only [↓fLt_e, fBd_s, ↓fJn_s, fNn_s, fNu_0, fNu_s, fBo_0, fBo_1, fBo_b, i_lit, i_neg1, nI_add, pk_mul, nI_clamp, i_le, i_lt, i_eq, fIx_n, nI_mI, mI_nI, mI_lt, nI_lt_m, mI_le, nI_le_m, xI_0, xI_s, bI_0, bI_1, bI_t, bI_f, n_31, j_bit, j_one, i_and, i_or, Nat.not_lt_zero, Nat.succ_ne_zero, Nat.add_one_ne_zero, Nat.add_one_sub_one, Nat.zero_le, Nat.or_zero, Nat.zero_or, Bool.not_true, Bool.not_false, Bool.true_and, Bool.false_and, Bool.and_true, Bool.and_false, ↓reduceIte, if_true, if_false, not_true_eq_false, not_false_eq_true, true_and, and_true, false_and, and_false, and_self, true_or, or_true, false_or, or_false, Nat.reduceEqDiff, Nat.reduceLT, Nat.reduceLeDiff, Nat.reduceAdd, Nat.reduceMul, Nat.reduceSub, Nat.add_zero, Nat.zero_add, Nat.mul_zero, Nat.zero_mul, ne_eq, Bool.not_eq_true, Bool.not_eq_false, reduceCtorEq, decide_true, decide_false, decide_eq_true_eq, decide_eq_false_iff_not, Bool.false_eq_true, if_pos, if_neg, xT_sL, gxx, sxx, upd_at, hpa', h8, s2]
          · refine ⟨33, by omega, fun _ => rfl, fun h => absurd h h8, ?_⟩
            unfold f_X5_scanWord
            simp only [↓fLt_e, ↓fJn_s, l_lit]
            rw [q6]
            simp (disch := omega) only [↓fLt_e, fBd_s, ↓fJn_s, fNn_s, fNu_0, fNu_s, fBo_0, fBo_1, fBo_b, i_lit, i_neg1, nI_add, pk_mul, nI_clamp, i_le, i_lt, i_eq, fIx_n, nI_mI, mI_nI, mI_lt, nI_lt_m, mI_le, nI_le_m, xI_0, xI_s, bI_0, bI_1, bI_t, bI_f, n_31, j_bit, j_one, i_and, i_or, Nat.not_lt_zero, Nat.succ_ne_zero, Nat.add_one_ne_zero, Nat.add_one_sub_one, Nat.zero_le, Nat.or_zero, Nat.zero_or, Bool.not_true, Bool.not_false, Bool.true_and, Bool.false_and, Bool.and_true, Bool.and_false, ↓reduceIte, if_true, if_false, not_true_eq_false, not_false_eq_true, true_and, and_true, false_and, and_false, and_self, true_or, or_true, false_or, or_false, Nat.reduceEqDiff, Nat.reduceLT, Nat.reduceLeDiff, Nat.reduceAdd, Nat.reduceMul, Nat.reduceSub, Nat.add_zero, Nat.zero_add, Nat.mul_zero, Nat.zero_mul, ne_eq, Bool.not_eq_true, Bool.not_eq_false, reduceCtorEq, decide_true, decide_false, decide_eq_true_eq, decide_eq_false_iff_not, Bool.false_eq_true, if_pos, if_neg, xT_sL, gxx, sxx, upd_at, hpa', h8]
        obtain ⟨so, s1, s2, s3, s4⟩ := hlast
        refine ⟨upd (upd (upd A 4 (nI a)) 5 (nI p')) 6 (nI so), lN v', upd (upd (upd (upd B 16 (nI a)) 14 (nI 1)) 16 (nI p')) 18 (nI (p' - a)), wd', p', so, ?_, ?_, ⟨by omega, q2⟩, ⟨rfl, rfl⟩, ⟨?_, rfl⟩, ?_, fun _ => hq5⟩
        · unfold advK
          simp (disch := omega) only [↓fLt_e, fBd_s, ↓fJn_s, fNn_s, fNu_0, fNu_s, fBo_0, fBo_1, fBo_b, i_lit, i_neg1, nI_add, pk_mul, nI_clamp, i_le, i_lt, i_eq, fIx_n, nI_mI, mI_nI, mI_lt, nI_lt_m, mI_le, nI_le_m, xI_0, xI_s, bI_0, bI_1, bI_t, bI_f, n_31, j_bit, j_one, i_and, i_or, Nat.not_lt_zero, Nat.succ_ne_zero, Nat.add_one_ne_zero, Nat.add_one_sub_one, Nat.zero_le, Nat.or_zero, Nat.zero_or, Bool.not_true, Bool.not_false, Bool.true_and, Bool.false_and, Bool.and_true, Bool.and_false, ↓reduceIte, if_true, if_false, not_true_eq_false, not_false_eq_true, true_and, and_true, false_and, and_false, and_self, true_or, or_true, false_or, or_false, Nat.reduceEqDiff, Nat.reduceLT, Nat.reduceLeDiff, Nat.reduceAdd, Nat.reduceMul, Nat.reduceSub, Nat.add_zero, Nat.zero_add, Nat.mul_zero, Nat.zero_mul, ne_eq, Bool.not_eq_true, Bool.not_eq_false, reduceCtorEq, decide_true, decide_false, decide_eq_true_eq, decide_eq_false_iff_not, Bool.false_eq_true, if_pos, if_neg, gxx, sxx, gx3, xT_A, upd_at, ha, hend, hxl, s4]
        · unfold nextK
          simp (disch := omega) only [↓fLt_e, fBd_s, ↓fJn_s, fNn_s, fNu_0, fNu_s, fBo_0, fBo_1, fBo_b, i_lit, i_neg1, nI_add, pk_mul, nI_clamp, i_le, i_lt, i_eq, fIx_n, nI_mI, mI_nI, mI_lt, nI_lt_m, mI_le, nI_le_m, xI_0, xI_s, bI_0, bI_1, bI_t, bI_f, n_31, j_bit, j_one, i_and, i_or, Nat.not_lt_zero, Nat.succ_ne_zero, Nat.add_one_ne_zero, Nat.add_one_sub_one, Nat.zero_le, Nat.or_zero, Nat.zero_or, Bool.not_true, Bool.not_false, Bool.true_and, Bool.false_and, Bool.and_true, Bool.and_false, ↓reduceIte, if_true, if_false, not_true_eq_false, not_false_eq_true, true_and, and_true, false_and, and_false, and_self, true_or, or_true, false_or, or_false, Nat.reduceEqDiff, Nat.reduceLT, Nat.reduceLeDiff, Nat.reduceAdd, Nat.reduceMul, Nat.reduceSub, Nat.add_zero, Nat.zero_add, Nat.mul_zero, Nat.zero_mul, ne_eq, Bool.not_eq_true, Bool.not_eq_false, reduceCtorEq, decide_true, decide_false, decide_eq_true_eq, decide_eq_false_iff_not, Bool.false_eq_true, if_pos, if_neg, gyy, syy, gy9, upd_at, hb, hend, hlk, hml, yT_sL, l_lit]
          rw [q7]
          simp (disch := omega) only [↓fLt_e, fBd_s, ↓fJn_s, fNn_s, fNu_0, fNu_s, fBo_0, fBo_1, fBo_b, i_lit, i_neg1, nI_add, pk_mul, nI_clamp, i_le, i_lt, i_eq, fIx_n, nI_mI, mI_nI, mI_lt, nI_lt_m, mI_le, nI_le_m, xI_0, xI_s, bI_0, bI_1, bI_t, bI_f, n_31, j_bit, j_one, i_and, i_or, Nat.not_lt_zero, Nat.succ_ne_zero, Nat.add_one_ne_zero, Nat.add_one_sub_one, Nat.zero_le, Nat.or_zero, Nat.zero_or, Bool.not_true, Bool.not_false, Bool.true_and, Bool.false_and, Bool.and_true, Bool.and_false, ↓reduceIte, if_true, if_false, not_true_eq_false, not_false_eq_true, true_and, and_true, false_and, and_false, and_self, true_or, or_true, false_or, or_false, Nat.reduceEqDiff, Nat.reduceLT, Nat.reduceLeDiff, Nat.reduceAdd, Nat.reduceMul, Nat.reduceSub, Nat.add_zero, Nat.zero_add, Nat.mul_zero, Nat.zero_mul, ne_eq, Bool.not_eq_true, Bool.not_eq_false, reduceCtorEq, decide_true, decide_false, decide_eq_true_eq, decide_eq_false_iff_not, Bool.false_eq_true, if_pos, if_neg, gyy, syy, upd_at, hb, hpa']
        · show upd (upd (upd (upd B 16 (nI a)) 14 (nI 1)) 16 (nI p')) 18 (nI (p' - a)) 15 = nI a
          rw [upd_at, if_neg (by omega), upd_at, if_neg (by omega), upd_at, if_neg (by omega), upd_at, if_neg (by omega)]
          exact hb
        · by_cases h8 : p' - a ≤ 8
          · obtain ⟨s5, s6, s7⟩ := s3 h8
            rw [if_pos h8] at q4
            exact Or.inr (Or.inr (Or.inr (Or.inr (Or.inr ⟨s5, rfl, rfl, ⟨p' - a, h8, rfl⟩, v', q3, rfl, q4, s6, s7⟩))))
          · have h33 := s2 (by omega)
            rw [if_neg h8] at q4
            subst h33
            exact Or.inr (Or.inr (Or.inr (Or.inr (Or.inl ⟨rfl, rfl, rfl, ⟨p' - a, by omega, by omega, rfl⟩, q4⟩))))
      · rw [decide_eq_false hlet] at hxl hml
        by_cases hdig : 48 ≤ c a ∧ c a ≤ 57
        · rw [decide_eq_true hdig] at hxd hmd
          obtain ⟨p', v', q1, q2, q3, q5, q6, q7⟩ := n_loop T a nm wd (n - a) a 0 (upd A 4 (nI a)) (upd (upd B 16 (nI a)) 17 (nI 0)) fF fF (by omega) (Nat.le_refl _) (Nat.lt_of_le_of_lt (show n - a ≤ 900 by omega) (fF_lt (by omega))) (Nat.lt_of_le_of_lt (show n - a ≤ 900 by omega) (fF_lt (by omega))) (by rw [upd_at, if_pos rfl]) hAa (by rw [upd_at, if_neg (by omega)]; exact hBa) (by rw [upd_at, if_neg (by omega), upd_at, if_pos rfl]) (by rw [upd_at, if_pos rfl]) (Nat.pow_pos (by omega))
          have hq5 := q5 hend hdig
          have hpa' : nI p' - nI a = nI (p' - a) := nI_sub (by omega)
          refine ⟨upd (upd (upd (upd A 4 (nI a)) 5 (nI p')) 8 (nI v')) 6 (nI (if p' - a ≤ 4 then 34 else 36)), nm, upd (upd (upd (upd (upd B 16 (nI a)) 17 (nI 0)) 17 (nI v')) 16 (nI p')) 14 (nI (if p' - a ≤ 4 then 2 else 4)), wd, p', if p' - a ≤ 4 then 34 else 36, ?_, ?_, ⟨by omega, q2⟩, ⟨rfl, rfl⟩, ⟨?_, rfl⟩, ?_, fun _ => hq5⟩
          · have hsn : f_X5_scanNumber (xT sc (upd A 4 (nI a)) nm) = some ((), xT sc (upd (upd (upd (upd A 4 (nI a)) 5 (nI p')) 8 (nI v')) 6 (nI (if p' - a ≤ 4 then 34 else 36))) nm) := by
              unfold f_X5_scanNumber
              simp only [↓fLt_e, ↓fJn_s, i_lit]
              rw [q6]
              by_cases h4 : p' - a ≤ 4
              · simp (disch := omega) only [↓fLt_e, fBd_s, ↓fJn_s, fNn_s, fNu_0, fNu_s, fBo_0, fBo_1, fBo_b, i_lit, i_neg1, nI_add, pk_mul, nI_clamp, i_le, i_lt, i_eq, fIx_n, nI_mI, mI_nI, mI_lt, nI_lt_m, mI_le, nI_le_m, xI_0, xI_s, bI_0, bI_1, bI_t, bI_f, n_31, j_bit, j_one, i_and, i_or, Nat.not_lt_zero, Nat.succ_ne_zero, Nat.add_one_ne_zero, Nat.add_one_sub_one, Nat.zero_le, Nat.or_zero, Nat.zero_or, Bool.not_true, Bool.not_false, Bool.true_and, Bool.false_and, Bool.and_true, Bool.and_false, ↓reduceIte, if_true, if_false, not_true_eq_false, not_false_eq_true, true_and, and_true, false_and, and_false, and_self, true_or, or_true, false_or, or_false, Nat.reduceEqDiff, Nat.reduceLT, Nat.reduceLeDiff, Nat.reduceAdd, Nat.reduceMul, Nat.reduceSub, Nat.add_zero, Nat.zero_add, Nat.mul_zero, Nat.zero_mul, ne_eq, Bool.not_eq_true, Bool.not_eq_false, reduceCtorEq, decide_true, decide_false, decide_eq_true_eq, decide_eq_false_iff_not, Bool.false_eq_true, if_pos, if_neg, gxx, sxx, upd_at, hpa', h4]
              · simp (disch := omega) only [↓fLt_e, fBd_s, ↓fJn_s, fNn_s, fNu_0, fNu_s, fBo_0, fBo_1, fBo_b, i_lit, i_neg1, nI_add, pk_mul, nI_clamp, i_le, i_lt, i_eq, fIx_n, nI_mI, mI_nI, mI_lt, nI_lt_m, mI_le, nI_le_m, xI_0, xI_s, bI_0, bI_1, bI_t, bI_f, n_31, j_bit, j_one, i_and, i_or, Nat.not_lt_zero, Nat.succ_ne_zero, Nat.add_one_ne_zero, Nat.add_one_sub_one, Nat.zero_le, Nat.or_zero, Nat.zero_or, Bool.not_true, Bool.not_false, Bool.true_and, Bool.false_and, Bool.and_true, Bool.and_false, ↓reduceIte, if_true, if_false, not_true_eq_false, not_false_eq_true, true_and, and_true, false_and, and_false, and_self, true_or, or_true, false_or, or_false, Nat.reduceEqDiff, Nat.reduceLT, Nat.reduceLeDiff, Nat.reduceAdd, Nat.reduceMul, Nat.reduceSub, Nat.add_zero, Nat.zero_add, Nat.mul_zero, Nat.zero_mul, ne_eq, Bool.not_eq_true, Bool.not_eq_false, reduceCtorEq, decide_true, decide_false, decide_eq_true_eq, decide_eq_false_iff_not, Bool.false_eq_true, if_pos, if_neg, gxx, sxx, upd_at, hpa', h4]
            unfold advK
            simp (disch := omega) only [↓fLt_e, fBd_s, ↓fJn_s, fNn_s, fNu_0, fNu_s, fBo_0, fBo_1, fBo_b, i_lit, i_neg1, nI_add, pk_mul, nI_clamp, i_le, i_lt, i_eq, fIx_n, nI_mI, mI_nI, mI_lt, nI_lt_m, mI_le, nI_le_m, xI_0, xI_s, bI_0, bI_1, bI_t, bI_f, n_31, j_bit, j_one, i_and, i_or, Nat.not_lt_zero, Nat.succ_ne_zero, Nat.add_one_ne_zero, Nat.add_one_sub_one, Nat.zero_le, Nat.or_zero, Nat.zero_or, Bool.not_true, Bool.not_false, Bool.true_and, Bool.false_and, Bool.and_true, Bool.and_false, ↓reduceIte, if_true, if_false, not_true_eq_false, not_false_eq_true, true_and, and_true, false_and, and_false, and_self, true_or, or_true, false_or, or_false, Nat.reduceEqDiff, Nat.reduceLT, Nat.reduceLeDiff, Nat.reduceAdd, Nat.reduceMul, Nat.reduceSub, Nat.add_zero, Nat.zero_add, Nat.mul_zero, Nat.zero_mul, ne_eq, Bool.not_eq_true, Bool.not_eq_false, reduceCtorEq, decide_true, decide_false, decide_eq_true_eq, decide_eq_false_iff_not, Bool.false_eq_true, if_pos, if_neg, gxx, sxx, gx3, xT_A, upd_at, ha, hend, hxl, hxd, hsn]
          · unfold nextK
            simp (disch := omega) only [↓fLt_e, fBd_s, ↓fJn_s, fNn_s, fNu_0, fNu_s, fBo_0, fBo_1, fBo_b, i_lit, i_neg1, nI_add, pk_mul, nI_clamp, i_le, i_lt, i_eq, fIx_n, nI_mI, mI_nI, mI_lt, nI_lt_m, mI_le, nI_le_m, xI_0, xI_s, bI_0, bI_1, bI_t, bI_f, n_31, j_bit, j_one, i_and, i_or, Nat.not_lt_zero, Nat.succ_ne_zero, Nat.add_one_ne_zero, Nat.add_one_sub_one, Nat.zero_le, Nat.or_zero, Nat.zero_or, Bool.not_true, Bool.not_false, Bool.true_and, Bool.false_and, Bool.and_true, Bool.and_false, ↓reduceIte, if_true, if_false, not_true_eq_false, not_false_eq_true, true_and, and_true, false_and, and_false, and_self, true_or, or_true, false_or, or_false, Nat.reduceEqDiff, Nat.reduceLT, Nat.reduceLeDiff, Nat.reduceAdd, Nat.reduceMul, Nat.reduceSub, Nat.add_zero, Nat.zero_add, Nat.mul_zero, Nat.zero_mul, ne_eq, Bool.not_eq_true, Bool.not_eq_false, reduceCtorEq, decide_true, decide_false, decide_eq_true_eq, decide_eq_false_iff_not, Bool.false_eq_true, if_pos, if_neg, gyy, syy, gy9, upd_at, hb, hend, hlk, hml, hmd]
            rw [q7]
            by_cases h4 : p' - a ≤ 4
            · simp (disch := omega) only [↓fLt_e, fBd_s, ↓fJn_s, fNn_s, fNu_0, fNu_s, fBo_0, fBo_1, fBo_b, i_lit, i_neg1, nI_add, pk_mul, nI_clamp, i_le, i_lt, i_eq, fIx_n, nI_mI, mI_nI, mI_lt, nI_lt_m, mI_le, nI_le_m, xI_0, xI_s, bI_0, bI_1, bI_t, bI_f, n_31, j_bit, j_one, i_and, i_or, Nat.not_lt_zero, Nat.succ_ne_zero, Nat.add_one_ne_zero, Nat.add_one_sub_one, Nat.zero_le, Nat.or_zero, Nat.zero_or, Bool.not_true, Bool.not_false, Bool.true_and, Bool.false_and, Bool.and_true, Bool.and_false, ↓reduceIte, if_true, if_false, not_true_eq_false, not_false_eq_true, true_and, and_true, false_and, and_false, and_self, true_or, or_true, false_or, or_false, Nat.reduceEqDiff, Nat.reduceLT, Nat.reduceLeDiff, Nat.reduceAdd, Nat.reduceMul, Nat.reduceSub, Nat.add_zero, Nat.zero_add, Nat.mul_zero, Nat.zero_mul, ne_eq, Bool.not_eq_true, Bool.not_eq_false, reduceCtorEq, decide_true, decide_false, decide_eq_true_eq, decide_eq_false_iff_not, Bool.false_eq_true, if_pos, if_neg, gyy, syy, upd_at, hb, hpa', h4]
            · simp (disch := omega) only [↓fLt_e, fBd_s, ↓fJn_s, fNn_s, fNu_0, fNu_s, fBo_0, fBo_1, fBo_b, i_lit, i_neg1, nI_add, pk_mul, nI_clamp, i_le, i_lt, i_eq, fIx_n, nI_mI, mI_nI, mI_lt, nI_lt_m, mI_le, nI_le_m, xI_0, xI_s, bI_0, bI_1, bI_t, bI_f, n_31, j_bit, j_one, i_and, i_or, Nat.not_lt_zero, Nat.succ_ne_zero, Nat.add_one_ne_zero, Nat.add_one_sub_one, Nat.zero_le, Nat.or_zero, Nat.zero_or, Bool.not_true, Bool.not_false, Bool.true_and, Bool.false_and, Bool.and_true, Bool.and_false, ↓reduceIte, if_true, if_false, not_true_eq_false, not_false_eq_true, true_and, and_true, false_and, and_false, and_self, true_or, or_true, false_or, or_false, Nat.reduceEqDiff, Nat.reduceLT, Nat.reduceLeDiff, Nat.reduceAdd, Nat.reduceMul, Nat.reduceSub, Nat.add_zero, Nat.zero_add, Nat.mul_zero, Nat.zero_mul, ne_eq, Bool.not_eq_true, Bool.not_eq_false, reduceCtorEq, decide_true, decide_false, decide_eq_true_eq, decide_eq_false_iff_not, Bool.false_eq_true, if_pos, if_neg, gyy, syy, upd_at, hb, hpa', h4]
          · show upd (upd (upd (upd (upd B 16 (nI a)) 17 (nI 0)) 17 (nI v')) 16 (nI p')) 14 _ 15 = nI a
            rw [upd_at, if_neg (by omega), upd_at, if_neg (by omega), upd_at, if_neg (by omega), upd_at, if_neg (by omega), upd_at, if_neg (by omega)]
            exact hb
          · by_cases h4 : p' - a ≤ 4
            · simp only [if_pos h4]
              exact Or.inr (Or.inr (Or.inl ⟨rfl, rfl, rfl, v', q3, rfl, rfl⟩))
            · simp only [if_neg h4]
              exact Or.inr (Or.inl ⟨rfl, rfl, rfl⟩)
        · rw [decide_eq_false hdig] at hxd hmd
          have q59 := bty_eq c2 (show 59 < 128 by omega)
          have q60 := bty_eq c2 (show 60 < 128 by omega)
          have q61 := bty_eq c2 (show 61 < 128 by omega)
          have q62 := bty_eq c2 (show 62 < 128 by omega)
          by_cases hsg : 59 ≤ c a ∧ c a ≤ 62
          · have hcc : gA sc 5 0 1 a = nI (c a) := by
              rcases c2 with ⟨-, h⟩ | ⟨h, -⟩
              · exact h
              · omega
            refine ⟨upd (upd (upd A 4 (nI a)) 6 (nI (c a))) 5 (nI (a + 1)), nm, upd (upd (upd (upd B 16 (nI a)) 16 (nI (a + 1))) 17 (nI (c a))) 14 (nI 3), wd, a + 1, c a, ?_, ?_, ⟨by omega, by omega⟩, ⟨rfl, rfl⟩, ⟨?_, rfl⟩, Or.inr (Or.inr (Or.inr (Or.inl ⟨hsg, rfl, rfl, rfl⟩))), fun _ => by omega⟩
            · unfold advK
              rcases (show c a = 59 ∨ c a = 60 ∨ c a = 61 ∨ c a = 62 by omega) with h | h | h | h <;> rw [h] at hcc <;> rw [hcc] at hxl hxd <;> simp (disch := omega) only [↓fLt_e, fBd_s, ↓fJn_s, fNn_s, fNu_0, fNu_s, fBo_0, fBo_1, fBo_b, i_lit, i_neg1, nI_add, pk_mul, nI_clamp, i_le, i_lt, i_eq, fIx_n, nI_mI, mI_nI, mI_lt, nI_lt_m, mI_le, nI_le_m, xI_0, xI_s, bI_0, bI_1, bI_t, bI_f, n_31, j_bit, j_one, i_and, i_or, Nat.not_lt_zero, Nat.succ_ne_zero, Nat.add_one_ne_zero, Nat.add_one_sub_one, Nat.zero_le, Nat.or_zero, Nat.zero_or, Bool.not_true, Bool.not_false, Bool.true_and, Bool.false_and, Bool.and_true, Bool.and_false, ↓reduceIte, if_true, if_false, not_true_eq_false, not_false_eq_true, true_and, and_true, false_and, and_false, and_self, true_or, or_true, false_or, or_false, Nat.reduceEqDiff, Nat.reduceLT, Nat.reduceLeDiff, Nat.reduceAdd, Nat.reduceMul, Nat.reduceSub, Nat.add_zero, Nat.zero_add, Nat.mul_zero, Nat.zero_mul, ne_eq, Bool.not_eq_true, Bool.not_eq_false, reduceCtorEq, decide_true, decide_false, decide_eq_true_eq, decide_eq_false_iff_not, Bool.false_eq_true, if_pos, if_neg, gxx, sxx, gx3, xT_A, upd_at, ha, hend, hxl, hxd, hcc, h]
            · unfold nextK f_X12_isSignByte
              rcases (show c a = 59 ∨ c a = 60 ∨ c a = 61 ∨ c a = 62 by omega) with h | h | h | h <;> rw [h] at hml hmd hlk <;> simp (disch := omega) only [↓fLt_e, fBd_s, ↓fJn_s, fNn_s, fNu_0, fNu_s, fBo_0, fBo_1, fBo_b, i_lit, i_neg1, nI_add, pk_mul, nI_clamp, i_le, i_lt, i_eq, fIx_n, nI_mI, mI_nI, mI_lt, nI_lt_m, mI_le, nI_le_m, xI_0, xI_s, bI_0, bI_1, bI_t, bI_f, n_31, j_bit, j_one, i_and, i_or, Nat.not_lt_zero, Nat.succ_ne_zero, Nat.add_one_ne_zero, Nat.add_one_sub_one, Nat.zero_le, Nat.or_zero, Nat.zero_or, Bool.not_true, Bool.not_false, Bool.true_and, Bool.false_and, Bool.and_true, Bool.and_false, ↓reduceIte, if_true, if_false, not_true_eq_false, not_false_eq_true, true_and, and_true, false_and, and_false, and_self, true_or, or_true, false_or, or_false, Nat.reduceEqDiff, Nat.reduceLT, Nat.reduceLeDiff, Nat.reduceAdd, Nat.reduceMul, Nat.reduceSub, Nat.add_zero, Nat.zero_add, Nat.mul_zero, Nat.zero_mul, ne_eq, Bool.not_eq_true, Bool.not_eq_false, reduceCtorEq, decide_true, decide_false, decide_eq_true_eq, decide_eq_false_iff_not, Bool.false_eq_true, if_pos, if_neg, gyy, syy, gy9, upd_at, hb, hend, hlk, hml, hmd, h]
            · show upd (upd (upd (upd B 16 (nI a)) 16 (nI (a + 1))) 17 (nI (c a))) 14 (nI 3) 15 = nI a
              rw [upd_at, if_neg (by omega), upd_at, if_neg (by omega), upd_at, if_neg (by omega), upd_at, if_neg (by omega)]
              exact hb
          · have n59 : ¬ c a = 59 := by omega
            have n60 : ¬ c a = 60 := by omega
            have n61 : ¬ c a = 61 := by omega
            have n62 : ¬ c a = 62 := by omega
            refine ⟨upd (upd (upd A 4 (nI a)) 6 (nI 36)) 5 (nI (a + 1)), nm, upd (upd (upd (upd B 16 (nI a)) 16 (nI (a + 1))) 17 (nI (c a))) 14 (nI 4), wd, a + 1, 36, ?_, ?_, ⟨by omega, by omega⟩, ⟨rfl, rfl⟩, ⟨?_, rfl⟩, Or.inr (Or.inl ⟨rfl, rfl, rfl⟩), fun _ => by omega⟩
            · unfold advK
              simp (disch := omega) only [↓fLt_e, fBd_s, ↓fJn_s, fNn_s, fNu_0, fNu_s, fBo_0, fBo_1, fBo_b, i_lit, i_neg1, nI_add, pk_mul, nI_clamp, i_le, i_lt, i_eq, fIx_n, nI_mI, mI_nI, mI_lt, nI_lt_m, mI_le, nI_le_m, xI_0, xI_s, bI_0, bI_1, bI_t, bI_f, n_31, j_bit, j_one, i_and, i_or, Nat.not_lt_zero, Nat.succ_ne_zero, Nat.add_one_ne_zero, Nat.add_one_sub_one, Nat.zero_le, Nat.or_zero, Nat.zero_or, Bool.not_true, Bool.not_false, Bool.true_and, Bool.false_and, Bool.and_true, Bool.and_false, ↓reduceIte, if_true, if_false, not_true_eq_false, not_false_eq_true, true_and, and_true, false_and, and_false, and_self, true_or, or_true, false_or, or_false, Nat.reduceEqDiff, Nat.reduceLT, Nat.reduceLeDiff, Nat.reduceAdd, Nat.reduceMul, Nat.reduceSub, Nat.add_zero, Nat.zero_add, Nat.mul_zero, Nat.zero_mul, ne_eq, Bool.not_eq_true, Bool.not_eq_false, reduceCtorEq, decide_true, decide_false, decide_eq_true_eq, decide_eq_false_iff_not, Bool.false_eq_true, if_pos, if_neg, gxx, sxx, gx3, xT_A, upd_at, ha, hend, hxl, hxd, q59, q60, q61, q62, n59, n60, n61, n62]
            · unfold nextK f_X12_isSignByte
              simp (disch := omega) only [↓fLt_e, fBd_s, ↓fJn_s, fNn_s, fNu_0, fNu_s, fBo_0, fBo_1, fBo_b, i_lit, i_neg1, nI_add, pk_mul, nI_clamp, i_le, i_lt, i_eq, fIx_n, nI_mI, mI_nI, mI_lt, nI_lt_m, mI_le, nI_le_m, xI_0, xI_s, bI_0, bI_1, bI_t, bI_f, n_31, j_bit, j_one, i_and, i_or, Nat.not_lt_zero, Nat.succ_ne_zero, Nat.add_one_ne_zero, Nat.add_one_sub_one, Nat.zero_le, Nat.or_zero, Nat.zero_or, Bool.not_true, Bool.not_false, Bool.true_and, Bool.false_and, Bool.and_true, Bool.and_false, ↓reduceIte, if_true, if_false, not_true_eq_false, not_false_eq_true, true_and, and_true, false_and, and_false, and_self, true_or, or_true, false_or, or_false, Nat.reduceEqDiff, Nat.reduceLT, Nat.reduceLeDiff, Nat.reduceAdd, Nat.reduceMul, Nat.reduceSub, Nat.add_zero, Nat.zero_add, Nat.mul_zero, Nat.zero_mul, ne_eq, Bool.not_eq_true, Bool.not_eq_false, reduceCtorEq, decide_true, decide_false, decide_eq_true_eq, decide_eq_false_iff_not, Bool.false_eq_true, if_pos, if_neg, gyy, syy, gy9, upd_at, hb, hend, hlk, hml, hmd, n59, n60, n61, n62]
            · show upd (upd (upd (upd B 16 (nI a)) 16 (nI (a + 1))) 17 (nI (c a))) 14 (nI 4) 15 = nI a
              rw [upd_at, if_neg (by omega), upd_at, if_neg (by omega), upd_at, if_neg (by omega), upd_at, if_neg (by omega)]
              exact hb
    · have han' : a = n := by omega
      refine ⟨upd (upd A 4 (nI a)) 6 (nI 35), nm, upd (upd B 16 (nI a)) 14 (nI 0), wd, a, 35, ?_, ?_, ⟨Nat.le_refl _, han⟩, ⟨?_, ?_⟩, ⟨?_, ?_⟩, Or.inl ⟨rfl, rfl, rfl⟩, fun h => absurd rfl h⟩
      · unfold advK
        simp (disch := omega) only [↓fLt_e, fBd_s, ↓fJn_s, fNn_s, fNu_0, fNu_s, fBo_0, fBo_1, fBo_b, i_lit, i_neg1, nI_add, pk_mul, nI_clamp, i_le, i_lt, i_eq, fIx_n, nI_mI, mI_nI, mI_lt, nI_lt_m, mI_le, nI_le_m, xI_0, xI_s, bI_0, bI_1, bI_t, bI_f, n_31, j_bit, j_one, i_and, i_or, Nat.not_lt_zero, Nat.succ_ne_zero, Nat.add_one_ne_zero, Nat.add_one_sub_one, Nat.zero_le, Nat.or_zero, Nat.zero_or, Bool.not_true, Bool.not_false, Bool.true_and, Bool.false_and, Bool.and_true, Bool.and_false, ↓reduceIte, if_true, if_false, not_true_eq_false, not_false_eq_true, true_and, and_true, false_and, and_false, and_self, true_or, or_true, false_or, or_false, Nat.reduceEqDiff, Nat.reduceLT, Nat.reduceLeDiff, Nat.reduceAdd, Nat.reduceMul, Nat.reduceSub, Nat.add_zero, Nat.zero_add, Nat.mul_zero, Nat.zero_mul, ne_eq, Bool.not_eq_true, Bool.not_eq_false, reduceCtorEq, decide_true, decide_false, decide_eq_true_eq, decide_eq_false_iff_not, Bool.false_eq_true, if_pos, if_neg, gxx, sxx, gx3, upd_at, ha, hend]
      · unfold nextK
        simp (disch := omega) only [↓fLt_e, fBd_s, ↓fJn_s, fNn_s, fNu_0, fNu_s, fBo_0, fBo_1, fBo_b, i_lit, i_neg1, nI_add, pk_mul, nI_clamp, i_le, i_lt, i_eq, fIx_n, nI_mI, mI_nI, mI_lt, nI_lt_m, mI_le, nI_le_m, xI_0, xI_s, bI_0, bI_1, bI_t, bI_f, n_31, j_bit, j_one, i_and, i_or, Nat.not_lt_zero, Nat.succ_ne_zero, Nat.add_one_ne_zero, Nat.add_one_sub_one, Nat.zero_le, Nat.or_zero, Nat.zero_or, Bool.not_true, Bool.not_false, Bool.true_and, Bool.false_and, Bool.and_true, Bool.and_false, ↓reduceIte, if_true, if_false, not_true_eq_false, not_false_eq_true, true_and, and_true, false_and, and_false, and_self, true_or, or_true, false_or, or_false, Nat.reduceEqDiff, Nat.reduceLT, Nat.reduceLeDiff, Nat.reduceAdd, Nat.reduceMul, Nat.reduceSub, Nat.add_zero, Nat.zero_add, Nat.mul_zero, Nat.zero_mul, ne_eq, Bool.not_eq_true, Bool.not_eq_false, reduceCtorEq, decide_true, decide_false, decide_eq_true_eq, decide_eq_false_iff_not, Bool.false_eq_true, if_pos, if_neg, gyy, syy, gy9, upd_at, hb, hend]
      · rfl
      · rw [upd_at, if_neg (by omega), upd_at, if_neg (by omega)]; exact ha
      · rw [upd_at, if_neg (by omega), upd_at, if_neg (by omega)]; exact hb
      · rfl
  obtain ⟨p1, g1, g2, g3, g4⟩ := sp_loop T nm wd (n - p) p A (upd B 15 (nI p)) fF fF (by omega) (Nat.lt_of_le_of_lt (show n - p ≤ 900 by omega) (fF_lt (by omega))) (Nat.lt_of_le_of_lt (show n - p ≤ 900 by omega) (fF_lt (by omega))) ha (by rw [upd_at, if_pos rfl])
  have hsy : sI (yT sm B wd) 12 0 15 (gI (yT sm B wd) 12 0 16) = yT sm (upd B 15 (nI p)) wd := by
    rw [yT_I _ _ _ (by omega), hb, yT_sI _ _ _ (by omega)]
  rw [upd_up] at g4
  obtain ⟨A', nm', B', wd', p', so, h1, h2, h3, h4, h5, h6, h7⟩ := hgo p1 (upd A 5 (nI p1)) (upd B 15 (nI p1)) g1 g2 (by rw [upd_at, if_pos rfl]) (by rw [upd_at, if_pos rfl])
  refine ⟨A', nm', B', wd', p1, p', so, ?_, ?_, ⟨g1, h3.1, h3.2⟩, h4, h5, h6, h7⟩
  · rw [adv_eq, g3, h1]
  · rw [next_eq, hsy, g4, h2]
end
