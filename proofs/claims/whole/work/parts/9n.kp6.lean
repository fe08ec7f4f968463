/-! frames of the functions, 6 -/
theorem kp_X12_isDigit  (a0 : Int32) (st : fSt) {s0 : fSt}  (h : kF (fun c => c ≠ 12) s0 st) : kpO (fun c => c ≠ 12) s0 (f_X12_isDigit a0 st) := by
  unfold f_X12_isDigit
  repeat' first
      | assumption
      | (refine kp_some ?_)
      | exact kp_none
      | (with_reducible refine kp_ite ?_ ?_)
      | (with_reducible refine kp_ix ?_)
      | (with_reducible refine kp_nz ?_)
      | (with_reducible refine kp_bo ?_)
      | (with_reducible refine kp_cp ?_)
      | (with_reducible refine kp_nn (fun _ => ?_))
      | (with_reducible refine kp_nu ?_ (fun _ => ?_))
      | (with_reducible refine kp_bd ?_ (fun _ _ _ => ?_))
      | (with_reducible refine kp_lts ?_ (fun _ _ => ?_))
      | (with_reducible refine kp_ltv (fun _ => ?_))
      | (with_reducible refine kp_j0 (fun _ _ => ?_) (fun _ _ => ?_))
      | (with_reducible refine kp_j1 (fun _ _ _ => ?_) (fun _ _ => ?_))
      | (with_reducible refine kp_j2 (fun _ _ _ _ => ?_) (fun _ _ => ?_))
      | (with_reducible refine kF_I (by first | assumption | decide) ?_)
      | (with_reducible refine kF_L (by first | assumption | decide) ?_)
      | (with_reducible refine kF_A (by first | assumption | decide) ?_)
      | (with_reducible refine kF_B (by first | assumption | decide) ?_)
      | (with_reducible refine kF_P (by first | assumption | decide) ?_)
      | (show ¬ _; decide)
      | decide
      | solve_by_elim (maxDepth := 4)

theorem kp_X12_isSignByte  (a1 : Int32) (st : fSt) {s0 : fSt}  (h : kF (fun c => c ≠ 12) s0 st) : kpO (fun c => c ≠ 12) s0 (f_X12_isSignByte a1 st) := by
  unfold f_X12_isSignByte
  repeat' first
      | assumption
      | (refine kp_some ?_)
      | exact kp_none
      | (with_reducible refine kp_ite ?_ ?_)
      | (with_reducible refine kp_ix ?_)
      | (with_reducible refine kp_nz ?_)
      | (with_reducible refine kp_bo ?_)
      | (with_reducible refine kp_cp ?_)
      | (with_reducible refine kp_nn (fun _ => ?_))
      | (with_reducible refine kp_nu ?_ (fun _ => ?_))
      | (with_reducible refine kp_bd ?_ (fun _ _ _ => ?_))
      | (with_reducible refine kp_lts ?_ (fun _ _ => ?_))
      | (with_reducible refine kp_ltv (fun _ => ?_))
      | (with_reducible refine kp_j0 (fun _ _ => ?_) (fun _ _ => ?_))
      | (with_reducible refine kp_j1 (fun _ _ _ => ?_) (fun _ _ => ?_))
      | (with_reducible refine kp_j2 (fun _ _ _ _ => ?_) (fun _ _ => ?_))
      | (with_reducible refine kF_I (by first | assumption | decide) ?_)
      | (with_reducible refine kF_L (by first | assumption | decide) ?_)
      | (with_reducible refine kF_A (by first | assumption | decide) ?_)
      | (with_reducible refine kF_B (by first | assumption | decide) ?_)
      | (with_reducible refine kF_P (by first | assumption | decide) ?_)
      | (show ¬ _; decide)
      | decide
      | solve_by_elim (maxDepth := 4)

theorem kp_X12_next_L210  (k24 : fSt → Option (Unit × fSt)) {s0 : fSt} (hk24 : ∀ (s : fSt), kF (fun c => c ≠ 12) s0 s → kpO (fun c => c ≠ 12) s0 (k24 s)) : ∀ (n : Nat)  (s : fSt), kF (fun c => c ≠ 12) s0 s → kpO (fun c => c ≠ 12) s0 (f_X12_next_L210 k24 n  s) := by
  intro n
  induction n with
  | zero => intro  s _; unfold f_X12_next_L210; exact kp_none
  | succ n ih =>
    intro  s h
    unfold f_X12_next_L210
    repeat' first
        | assumption
        | (refine kp_some ?_)
        | exact kp_none
        | (with_reducible refine kp_ite ?_ ?_)
        | (with_reducible refine kp_ix ?_)
        | (with_reducible refine kp_nz ?_)
        | (with_reducible refine kp_bo ?_)
        | (with_reducible refine kp_cp ?_)
        | (with_reducible refine kp_nn (fun _ => ?_))
        | (with_reducible refine kp_nu ?_ (fun _ => ?_))
        | (with_reducible refine kp_bd ?_ (fun _ _ _ => ?_))
        | (with_reducible refine kp_lts ?_ (fun _ _ => ?_))
        | (with_reducible refine kp_ltv (fun _ => ?_))
        | (with_reducible refine kp_j0 (fun _ _ => ?_) (fun _ _ => ?_))
        | (with_reducible refine kp_j1 (fun _ _ _ => ?_) (fun _ _ => ?_))
        | (with_reducible refine kp_j2 (fun _ _ _ _ => ?_) (fun _ _ => ?_))
        | (with_reducible refine kF_I (by first | assumption | decide) ?_)
        | (with_reducible refine kF_L (by first | assumption | decide) ?_)
        | (with_reducible refine kF_A (by first | assumption | decide) ?_)
        | (with_reducible refine kF_B (by first | assumption | decide) ?_)
        | (with_reducible refine kF_P (by first | assumption | decide) ?_)
        | (with_reducible apply kp_X12_look2)
        | (with_reducible apply kp_X12_isDigit)
        | (show ¬ _; decide)
        | decide
        | (apply ih; assumption)
        | solve_by_elim (maxDepth := 4)

theorem kp_X12_next_L109  (k44 : fSt → Option (Unit × fSt)) {s0 : fSt} (hk44 : ∀ (s : fSt), kF (fun c => c ≠ 12) s0 s → kpO (fun c => c ≠ 12) s0 (k44 s)) : ∀ (n : Nat)  (s : fSt), kF (fun c => c ≠ 12) s0 s → kpO (fun c => c ≠ 12) s0 (f_X12_next_L109 k44 n  s) := by
  intro n
  induction n with
  | zero => intro  s _; unfold f_X12_next_L109; exact kp_none
  | succ n ih =>
    intro  s h
    unfold f_X12_next_L109
    repeat' first
        | assumption
        | (refine kp_some ?_)
        | exact kp_none
        | (with_reducible refine kp_ite ?_ ?_)
        | (with_reducible refine kp_ix ?_)
        | (with_reducible refine kp_nz ?_)
        | (with_reducible refine kp_bo ?_)
        | (with_reducible refine kp_cp ?_)
        | (with_reducible refine kp_nn (fun _ => ?_))
        | (with_reducible refine kp_nu ?_ (fun _ => ?_))
        | (with_reducible refine kp_bd ?_ (fun _ _ _ => ?_))
        | (with_reducible refine kp_lts ?_ (fun _ _ => ?_))
        | (with_reducible refine kp_ltv (fun _ => ?_))
        | (with_reducible refine kp_j0 (fun _ _ => ?_) (fun _ _ => ?_))
        | (with_reducible refine kp_j1 (fun _ _ _ => ?_) (fun _ _ => ?_))
        | (with_reducible refine kp_j2 (fun _ _ _ _ => ?_) (fun _ _ => ?_))
        | (with_reducible refine kF_I (by first | assumption | decide) ?_)
        | (with_reducible refine kF_L (by first | assumption | decide) ?_)
        | (with_reducible refine kF_A (by first | assumption | decide) ?_)
        | (with_reducible refine kF_B (by first | assumption | decide) ?_)
        | (with_reducible refine kF_P (by first | assumption | decide) ?_)
        | (with_reducible apply kp_X12_look2)
        | (with_reducible apply kp_X12_isLetter)
        | (show ¬ _; decide)
        | decide
        | (apply ih; assumption)
        | solve_by_elim (maxDepth := 4)

theorem kp_X12_next_L8  (k3 : fSt → Option (Unit × fSt)) {s0 : fSt} (hk3 : ∀ (s : fSt), kF (fun c => c ≠ 12) s0 s → kpO (fun c => c ≠ 12) s0 (k3 s)) : ∀ (n : Nat)  (s : fSt), kF (fun c => c ≠ 12) s0 s → kpO (fun c => c ≠ 12) s0 (f_X12_next_L8 k3 n  s) := by
  intro n
  induction n with
  | zero => intro  s _; unfold f_X12_next_L8; exact kp_none
  | succ n ih =>
    intro  s h
    unfold f_X12_next_L8
    repeat' first
        | assumption
        | (refine kp_some ?_)
        | exact kp_none
        | (with_reducible refine kp_ite ?_ ?_)
        | (with_reducible refine kp_ix ?_)
        | (with_reducible refine kp_nz ?_)
        | (with_reducible refine kp_bo ?_)
        | (with_reducible refine kp_cp ?_)
        | (with_reducible refine kp_nn (fun _ => ?_))
        | (with_reducible refine kp_nu ?_ (fun _ => ?_))
        | (with_reducible refine kp_bd ?_ (fun _ _ _ => ?_))
        | (with_reducible refine kp_lts ?_ (fun _ _ => ?_))
        | (with_reducible refine kp_ltv (fun _ => ?_))
        | (with_reducible refine kp_j0 (fun _ _ => ?_) (fun _ _ => ?_))
        | (with_reducible refine kp_j1 (fun _ _ _ => ?_) (fun _ _ => ?_))
        | (with_reducible refine kp_j2 (fun _ _ _ _ => ?_) (fun _ _ => ?_))
        | (with_reducible refine kF_I (by first | assumption | decide) ?_)
        | (with_reducible refine kF_L (by first | assumption | decide) ?_)
        | (with_reducible refine kF_A (by first | assumption | decide) ?_)
        | (with_reducible refine kF_B (by first | assumption | decide) ?_)
        | (with_reducible refine kF_P (by first | assumption | decide) ?_)
        | (with_reducible apply kp_X12_look2)
        | (show ¬ _; decide)
        | decide
        | (apply ih; assumption)
        | solve_by_elim (maxDepth := 4)

theorem kp_X12_next  (st : fSt) {s0 : fSt}  (h : kF (fun c => c ≠ 12) s0 st) : kpO (fun c => c ≠ 12) s0 (f_X12_next st) := by
  unfold f_X12_next
  repeat' first
      | assumption
      | (refine kp_some ?_)
      | exact kp_none
      | (with_reducible refine kp_ite ?_ ?_)
      | (with_reducible refine kp_ix ?_)
      | (with_reducible refine kp_nz ?_)
      | (with_reducible refine kp_bo ?_)
      | (with_reducible refine kp_cp ?_)
      | (with_reducible refine kp_nn (fun _ => ?_))
      | (with_reducible refine kp_nu ?_ (fun _ => ?_))
      | (with_reducible refine kp_bd ?_ (fun _ _ _ => ?_))
      | (with_reducible refine kp_lts ?_ (fun _ _ => ?_))
      | (with_reducible refine kp_ltv (fun _ => ?_))
      | (with_reducible refine kp_j0 (fun _ _ => ?_) (fun _ _ => ?_))
      | (with_reducible refine kp_j1 (fun _ _ _ => ?_) (fun _ _ => ?_))
      | (with_reducible refine kp_j2 (fun _ _ _ _ => ?_) (fun _ _ => ?_))
      | (with_reducible refine kF_I (by first | assumption | decide) ?_)
      | (with_reducible refine kF_L (by first | assumption | decide) ?_)
      | (with_reducible refine kF_A (by first | assumption | decide) ?_)
      | (with_reducible refine kF_B (by first | assumption | decide) ?_)
      | (with_reducible refine kF_P (by first | assumption | decide) ?_)
      | (with_reducible apply kp_X12_look2)
      | (with_reducible apply kp_X12_isLetter)
      | (with_reducible apply kp_X12_isDigit)
      | (with_reducible apply kp_X12_isSignByte)
      | (with_reducible apply kp_X12_next_L210)
      | (with_reducible apply kp_X12_next_L109)
      | (with_reducible apply kp_X12_next_L8)
      | (show ¬ _; decide)
      | decide
      | solve_by_elim (maxDepth := 4)

theorem kp_X12_count  (a1 : Int32) (a2 : Int32) (st : fSt) {s0 : fSt}  (h : kF (fun c => c ≠ 12) s0 st) : kpO (fun c => c ≠ 12) s0 (f_X12_count a1 a2 st) := by
  unfold f_X12_count
  repeat' first
      | assumption
      | (refine kp_some ?_)
      | exact kp_none
      | (with_reducible refine kp_ite ?_ ?_)
      | (with_reducible refine kp_ix ?_)
      | (with_reducible refine kp_nz ?_)
      | (with_reducible refine kp_bo ?_)
      | (with_reducible refine kp_cp ?_)
      | (with_reducible refine kp_nn (fun _ => ?_))
      | (with_reducible refine kp_nu ?_ (fun _ => ?_))
      | (with_reducible refine kp_bd ?_ (fun _ _ _ => ?_))
      | (with_reducible refine kp_lts ?_ (fun _ _ => ?_))
      | (with_reducible refine kp_ltv (fun _ => ?_))
      | (with_reducible refine kp_j0 (fun _ _ => ?_) (fun _ _ => ?_))
      | (with_reducible refine kp_j1 (fun _ _ _ => ?_) (fun _ _ => ?_))
      | (with_reducible refine kp_j2 (fun _ _ _ _ => ?_) (fun _ _ => ?_))
      | (with_reducible refine kF_I (by first | assumption | decide) ?_)
      | (with_reducible refine kF_L (by first | assumption | decide) ?_)
      | (with_reducible refine kF_A (by first | assumption | decide) ?_)
      | (with_reducible refine kF_B (by first | assumption | decide) ?_)
      | (with_reducible refine kF_P (by first | assumption | decide) ?_)
      | (with_reducible apply kp_X12_next)
      | (with_reducible apply kp_X12_isIn)
      | (with_reducible apply kp_X12_fail)
      | (with_reducible apply kp_X12_wrong)
      | (show ¬ _; decide)
      | decide
      | solve_by_elim (maxDepth := 4)

theorem kp_X12_cut  (a0 : Int32) (a1 : Int64) (st : fSt) {s0 : fSt}  (h : kF (fun c => c ≠ 12) s0 st) : kpO (fun c => c ≠ 12) s0 (f_X12_cut a0 a1 st) := by
  unfold f_X12_cut
  repeat' first
      | assumption
      | (refine kp_some ?_)
      | exact kp_none
      | (with_reducible refine kp_ite ?_ ?_)
      | (with_reducible refine kp_ix ?_)
      | (with_reducible refine kp_nz ?_)
      | (with_reducible refine kp_bo ?_)
      | (with_reducible refine kp_cp ?_)
      | (with_reducible refine kp_nn (fun _ => ?_))
      | (with_reducible refine kp_nu ?_ (fun _ => ?_))
      | (with_reducible refine kp_bd ?_ (fun _ _ _ => ?_))
      | (with_reducible refine kp_lts ?_ (fun _ _ => ?_))
      | (with_reducible refine kp_ltv (fun _ => ?_))
      | (with_reducible refine kp_j0 (fun _ _ => ?_) (fun _ _ => ?_))
      | (with_reducible refine kp_j1 (fun _ _ _ => ?_) (fun _ _ => ?_))
      | (with_reducible refine kp_j2 (fun _ _ _ _ => ?_) (fun _ _ => ?_))
      | (with_reducible refine kF_I (by first | assumption | decide) ?_)
      | (with_reducible refine kF_L (by first | assumption | decide) ?_)
      | (with_reducible refine kF_A (by first | assumption | decide) ?_)
      | (with_reducible refine kF_B (by first | assumption | decide) ?_)
      | (with_reducible refine kF_P (by first | assumption | decide) ?_)
      | (show ¬ _; decide)
      | decide
      | solve_by_elim (maxDepth := 4)

theorem kp_X12_sums_L138  (x22 : Int32) (k28 : fSt → Option (Unit × fSt)) {s0 : fSt} (hk28 : ∀ (s : fSt), kF (fun c => c ≠ 12) s0 s → kpO (fun c => c ≠ 12) s0 (k28 s)) : ∀ (n : Nat) (z0 : Int32) (s : fSt), kF (fun c => c ≠ 12) s0 s → kpO (fun c => c ≠ 12) s0 (f_X12_sums_L138 x22 k28 n z0 s) := by
  intro n
  induction n with
  | zero => intro z0 s _; unfold f_X12_sums_L138; exact kp_none
  | succ n ih =>
    intro z0 s h
    unfold f_X12_sums_L138
    repeat' first
        | assumption
        | (refine kp_some ?_)
        | exact kp_none
        | (with_reducible refine kp_ite ?_ ?_)
        | (with_reducible refine kp_ix ?_)
        | (with_reducible refine kp_nz ?_)
        | (with_reducible refine kp_bo ?_)
        | (with_reducible refine kp_cp ?_)
        | (with_reducible refine kp_nn (fun _ => ?_))
        | (with_reducible refine kp_nu ?_ (fun _ => ?_))
        | (with_reducible refine kp_bd ?_ (fun _ _ _ => ?_))
        | (with_reducible refine kp_lts ?_ (fun _ _ => ?_))
        | (with_reducible refine kp_ltv (fun _ => ?_))
        | (with_reducible refine kp_j0 (fun _ _ => ?_) (fun _ _ => ?_))
        | (with_reducible refine kp_j1 (fun _ _ _ => ?_) (fun _ _ => ?_))
        | (with_reducible refine kp_j2 (fun _ _ _ _ => ?_) (fun _ _ => ?_))
        | (with_reducible refine kF_I (by first | assumption | decide) ?_)
        | (with_reducible refine kF_L (by first | assumption | decide) ?_)
        | (with_reducible refine kF_A (by first | assumption | decide) ?_)
        | (with_reducible refine kF_B (by first | assumption | decide) ?_)
        | (with_reducible refine kF_P (by first | assumption | decide) ?_)
        | (show ¬ _; decide)
        | decide
        | (apply ih; assumption)
        | solve_by_elim (maxDepth := 4)

theorem kp_X12_sums_L102  (x22 : Int32) (k25 : fSt → Option (Unit × fSt)) {s0 : fSt} (hk25 : ∀ (s : fSt), kF (fun c => c ≠ 12) s0 s → kpO (fun c => c ≠ 12) s0 (k25 s)) : ∀ (n : Nat) (z0 : Int32) (s : fSt), kF (fun c => c ≠ 12) s0 s → kpO (fun c => c ≠ 12) s0 (f_X12_sums_L102 x22 k25 n z0 s) := by
  intro n
  induction n with
  | zero => intro z0 s _; unfold f_X12_sums_L102; exact kp_none
  | succ n ih =>
    intro z0 s h
    unfold f_X12_sums_L102
    repeat' first
        | assumption
        | (refine kp_some ?_)
        | exact kp_none
        | (with_reducible refine kp_ite ?_ ?_)
        | (with_reducible refine kp_ix ?_)
        | (with_reducible refine kp_nz ?_)
        | (with_reducible refine kp_bo ?_)
        | (with_reducible refine kp_cp ?_)
        | (with_reducible refine kp_nn (fun _ => ?_))
        | (with_reducible refine kp_nu ?_ (fun _ => ?_))
        | (with_reducible refine kp_bd ?_ (fun _ _ _ => ?_))
        | (with_reducible refine kp_lts ?_ (fun _ _ => ?_))
        | (with_reducible refine kp_ltv (fun _ => ?_))
        | (with_reducible refine kp_j0 (fun _ _ => ?_) (fun _ _ => ?_))
        | (with_reducible refine kp_j1 (fun _ _ _ => ?_) (fun _ _ => ?_))
        | (with_reducible refine kp_j2 (fun _ _ _ _ => ?_) (fun _ _ => ?_))
        | (with_reducible refine kF_I (by first | assumption | decide) ?_)
        | (with_reducible refine kF_L (by first | assumption | decide) ?_)
        | (with_reducible refine kF_A (by first | assumption | decide) ?_)
        | (with_reducible refine kF_B (by first | assumption | decide) ?_)
        | (with_reducible refine kF_P (by first | assumption | decide) ?_)
        | (show ¬ _; decide)
        | decide
        | (apply ih; assumption)
        | solve_by_elim (maxDepth := 4)

theorem kp_X12_sums_L54  (a1 : Int32) {s0 : fSt}  : ∀ (n : Nat) (z0 : Int32) (s : fSt), kF (fun c => c ≠ 12) s0 s → kpO (fun c => c ≠ 12) s0 (f_X12_sums_L54 a1 n z0 s) := by
  intro n
  induction n with
  | zero => intro z0 s _; unfold f_X12_sums_L54; exact kp_none
  | succ n ih =>
    intro z0 s h
    unfold f_X12_sums_L54
    repeat' first
        | assumption
        | (refine kp_some ?_)
        | exact kp_none
        | (with_reducible refine kp_ite ?_ ?_)
        | (with_reducible refine kp_ix ?_)
        | (with_reducible refine kp_nz ?_)
        | (with_reducible refine kp_bo ?_)
        | (with_reducible refine kp_cp ?_)
        | (with_reducible refine kp_nn (fun _ => ?_))
        | (with_reducible refine kp_nu ?_ (fun _ => ?_))
        | (with_reducible refine kp_bd ?_ (fun _ _ _ => ?_))
        | (with_reducible refine kp_lts ?_ (fun _ _ => ?_))
        | (with_reducible refine kp_ltv (fun _ => ?_))
        | (with_reducible refine kp_j0 (fun _ _ => ?_) (fun _ _ => ?_))
        | (with_reducible refine kp_j1 (fun _ _ _ => ?_) (fun _ _ => ?_))
        | (with_reducible refine kp_j2 (fun _ _ _ _ => ?_) (fun _ _ => ?_))
        | (with_reducible refine kF_I (by first | assumption | decide) ?_)
        | (with_reducible refine kF_L (by first | assumption | decide) ?_)
        | (with_reducible refine kF_A (by first | assumption | decide) ?_)
        | (with_reducible refine kF_B (by first | assumption | decide) ?_)
        | (with_reducible refine kF_P (by first | assumption | decide) ?_)
        | (with_reducible apply kp_X12_goAll)
        | (with_reducible apply kp_X12_sums_L138)
        | (with_reducible apply kp_X12_sums_L102)
        | (show ¬ _; decide)
        | decide
        | (apply ih; assumption)
        | solve_by_elim (maxDepth := 4)

theorem kp_X12_sums_L23  (k6 : fSt → Option (Unit × fSt)) {s0 : fSt} (hk6 : ∀ (s : fSt), kF (fun c => c ≠ 12) s0 s → kpO (fun c => c ≠ 12) s0 (k6 s)) : ∀ (n : Nat) (z0 : Int32) (s : fSt), kF (fun c => c ≠ 12) s0 s → kpO (fun c => c ≠ 12) s0 (f_X12_sums_L23 k6 n z0 s) := by
  intro n
  induction n with
  | zero => intro z0 s _; unfold f_X12_sums_L23; exact kp_none
  | succ n ih =>
    intro z0 s h
    unfold f_X12_sums_L23
    repeat' first
        | assumption
        | (refine kp_some ?_)
        | exact kp_none
        | (with_reducible refine kp_ite ?_ ?_)
        | (with_reducible refine kp_ix ?_)
        | (with_reducible refine kp_nz ?_)
        | (with_reducible refine kp_bo ?_)
        | (with_reducible refine kp_cp ?_)
        | (with_reducible refine kp_nn (fun _ => ?_))
        | (with_reducible refine kp_nu ?_ (fun _ => ?_))
        | (with_reducible refine kp_bd ?_ (fun _ _ _ => ?_))
        | (with_reducible refine kp_lts ?_ (fun _ _ => ?_))
        | (with_reducible refine kp_ltv (fun _ => ?_))
        | (with_reducible refine kp_j0 (fun _ _ => ?_) (fun _ _ => ?_))
        | (with_reducible refine kp_j1 (fun _ _ _ => ?_) (fun _ _ => ?_))
        | (with_reducible refine kp_j2 (fun _ _ _ _ => ?_) (fun _ _ => ?_))
        | (with_reducible refine kF_I (by first | assumption | decide) ?_)
        | (with_reducible refine kF_L (by first | assumption | decide) ?_)
        | (with_reducible refine kF_A (by first | assumption | decide) ?_)
        | (with_reducible refine kF_B (by first | assumption | decide) ?_)
        | (with_reducible refine kF_P (by first | assumption | decide) ?_)
        | (show ¬ _; decide)
        | decide
        | (apply ih; assumption)
        | solve_by_elim (maxDepth := 4)

theorem kp_X12_sums_L2  (k3 : fSt → Option (Unit × fSt)) {s0 : fSt} (hk3 : ∀ (s : fSt), kF (fun c => c ≠ 12) s0 s → kpO (fun c => c ≠ 12) s0 (k3 s)) : ∀ (n : Nat) (z0 : Int32) (s : fSt), kF (fun c => c ≠ 12) s0 s → kpO (fun c => c ≠ 12) s0 (f_X12_sums_L2 k3 n z0 s) := by
  intro n
  induction n with
  | zero => intro z0 s _; unfold f_X12_sums_L2; exact kp_none
  | succ n ih =>
    intro z0 s h
    unfold f_X12_sums_L2
    repeat' first
        | assumption
        | (refine kp_some ?_)
        | exact kp_none
        | (with_reducible refine kp_ite ?_ ?_)
        | (with_reducible refine kp_ix ?_)
        | (with_reducible refine kp_nz ?_)
        | (with_reducible refine kp_bo ?_)
        | (with_reducible refine kp_cp ?_)
        | (with_reducible refine kp_nn (fun _ => ?_))
        | (with_reducible refine kp_nu ?_ (fun _ => ?_))
        | (with_reducible refine kp_bd ?_ (fun _ _ _ => ?_))
        | (with_reducible refine kp_lts ?_ (fun _ _ => ?_))
        | (with_reducible refine kp_ltv (fun _ => ?_))
        | (with_reducible refine kp_j0 (fun _ _ => ?_) (fun _ _ => ?_))
        | (with_reducible refine kp_j1 (fun _ _ _ => ?_) (fun _ _ => ?_))
        | (with_reducible refine kp_j2 (fun _ _ _ _ => ?_) (fun _ _ => ?_))
        | (with_reducible refine kF_I (by first | assumption | decide) ?_)
        | (with_reducible refine kF_L (by first | assumption | decide) ?_)
        | (with_reducible refine kF_A (by first | assumption | decide) ?_)
        | (with_reducible refine kF_B (by first | assumption | decide) ?_)
        | (with_reducible refine kF_P (by first | assumption | decide) ?_)
        | (show ¬ _; decide)
        | decide
        | (apply ih; assumption)
        | solve_by_elim (maxDepth := 4)

theorem kp_X12_sums  (a1 : Int32) (st : fSt) {s0 : fSt}  (h : kF (fun c => c ≠ 12) s0 st) : kpO (fun c => c ≠ 12) s0 (f_X12_sums a1 st) := by
  unfold f_X12_sums
  repeat' first
      | assumption
      | (refine kp_some ?_)
      | exact kp_none
      | (with_reducible refine kp_ite ?_ ?_)
      | (with_reducible refine kp_ix ?_)
      | (with_reducible refine kp_nz ?_)
      | (with_reducible refine kp_bo ?_)
      | (with_reducible refine kp_cp ?_)
      | (with_reducible refine kp_nn (fun _ => ?_))
      | (with_reducible refine kp_nu ?_ (fun _ => ?_))
      | (with_reducible refine kp_bd ?_ (fun _ _ _ => ?_))
      | (with_reducible refine kp_lts ?_ (fun _ _ => ?_))
      | (with_reducible refine kp_ltv (fun _ => ?_))
      | (with_reducible refine kp_j0 (fun _ _ => ?_) (fun _ _ => ?_))
      | (with_reducible refine kp_j1 (fun _ _ _ => ?_) (fun _ _ => ?_))
      | (with_reducible refine kp_j2 (fun _ _ _ _ => ?_) (fun _ _ => ?_))
      | (with_reducible refine kF_I (by first | assumption | decide) ?_)
      | (with_reducible refine kF_L (by first | assumption | decide) ?_)
      | (with_reducible refine kF_A (by first | assumption | decide) ?_)
      | (with_reducible refine kF_B (by first | assumption | decide) ?_)
      | (with_reducible refine kF_P (by first | assumption | decide) ?_)
      | (with_reducible apply kp_X12_sums_L54)
      | (with_reducible apply kp_X12_sums_L23)
      | (with_reducible apply kp_X12_sums_L2)
      | (show ¬ _; decide)
      | decide
      | solve_by_elim (maxDepth := 4)

theorem kp_X12_fraction  (a1 : Int64) (a3 : Int64) (st : fSt) {s0 : fSt}  (h : kF (fun c => c ≠ 12) s0 st) : kpO (fun c => c ≠ 12) s0 (f_X12_fraction a1 a3 st) := by
  unfold f_X12_fraction
  repeat' first
      | assumption
      | (refine kp_some ?_)
      | exact kp_none
      | (with_reducible refine kp_ite ?_ ?_)
      | (with_reducible refine kp_ix ?_)
      | (with_reducible refine kp_nz ?_)
      | (with_reducible refine kp_bo ?_)
      | (with_reducible refine kp_cp ?_)
      | (with_reducible refine kp_nn (fun _ => ?_))
      | (with_reducible refine kp_nu ?_ (fun _ => ?_))
      | (with_reducible refine kp_bd ?_ (fun _ _ _ => ?_))
      | (with_reducible refine kp_lts ?_ (fun _ _ => ?_))
      | (with_reducible refine kp_ltv (fun _ => ?_))
      | (with_reducible refine kp_j0 (fun _ _ => ?_) (fun _ _ => ?_))
      | (with_reducible refine kp_j1 (fun _ _ _ => ?_) (fun _ _ => ?_))
      | (with_reducible refine kp_j2 (fun _ _ _ _ => ?_) (fun _ _ => ?_))
      | (with_reducible refine kF_I (by first | assumption | decide) ?_)
      | (with_reducible refine kF_L (by first | assumption | decide) ?_)
      | (with_reducible refine kF_A (by first | assumption | decide) ?_)
      | (with_reducible refine kF_B (by first | assumption | decide) ?_)
      | (with_reducible refine kF_P (by first | assumption | decide) ?_)
      | (with_reducible apply kp_X12_common)
      | (show ¬ _; decide)
      | decide
      | solve_by_elim (maxDepth := 4)

theorem kp_X12_death_L55  (a1 : Int32) (x6 : Int64) (k14 : Int32 → Int64 → fSt → Option (Int32 × fSt)) {s0 : fSt} (hk14 : ∀ (z0 : Int32) (z1 : Int64) (s : fSt), kF (fun c => c ≠ 12) s0 s → kpO (fun c => c ≠ 12) s0 (k14 z0 z1 s)) : ∀ (n : Nat) (z0 : Int32) (z1 : Int64) (z2 : Int32) (s : fSt), kF (fun c => c ≠ 12) s0 s → kpO (fun c => c ≠ 12) s0 (f_X12_death_L55 a1 x6 k14 n z0 z1 z2 s) := by
  intro n
  induction n with
  | zero => intro z0 z1 z2 s _; unfold f_X12_death_L55; exact kp_none
  | succ n ih =>
    intro z0 z1 z2 s h
    unfold f_X12_death_L55
    repeat' first
        | assumption
        | (refine kp_some ?_)
        | exact kp_none
        | (with_reducible refine kp_ite ?_ ?_)
        | (with_reducible refine kp_ix ?_)
        | (with_reducible refine kp_nz ?_)
        | (with_reducible refine kp_bo ?_)
        | (with_reducible refine kp_cp ?_)
        | (with_reducible refine kp_nn (fun _ => ?_))
        | (with_reducible refine kp_nu ?_ (fun _ => ?_))
        | (with_reducible refine kp_bd ?_ (fun _ _ _ => ?_))
        | (with_reducible refine kp_lts ?_ (fun _ _ => ?_))
        | (with_reducible refine kp_ltv (fun _ => ?_))
        | (with_reducible refine kp_j0 (fun _ _ => ?_) (fun _ _ => ?_))
        | (with_reducible refine kp_j1 (fun _ _ _ => ?_) (fun _ _ => ?_))
        | (with_reducible refine kp_j2 (fun _ _ _ _ => ?_) (fun _ _ => ?_))
        | (with_reducible refine kF_I (by first | assumption | decide) ?_)
        | (with_reducible refine kF_L (by first | assumption | decide) ?_)
        | (with_reducible refine kF_A (by first | assumption | decide) ?_)
        | (with_reducible refine kF_B (by first | assumption | decide) ?_)
        | (with_reducible refine kF_P (by first | assumption | decide) ?_)
        | (with_reducible apply kp_X12_has)
        | (with_reducible apply kp_X12_sums)
        | (show ¬ _; decide)
        | decide
        | (apply ih; assumption)
        | solve_by_elim (maxDepth := 4)

theorem kp_X12_death  (a1 : Int32) (st : fSt) {s0 : fSt}  (h : kF (fun c => c ≠ 12) s0 st) : kpO (fun c => c ≠ 12) s0 (f_X12_death a1 st) := by
  unfold f_X12_death
  repeat' first
      | assumption
      | (refine kp_some ?_)
      | exact kp_none
      | (with_reducible refine kp_ite ?_ ?_)
      | (with_reducible refine kp_ix ?_)
      | (with_reducible refine kp_nz ?_)
      | (with_reducible refine kp_bo ?_)
      | (with_reducible refine kp_cp ?_)
      | (with_reducible refine kp_nn (fun _ => ?_))
      | (with_reducible refine kp_nu ?_ (fun _ => ?_))
      | (with_reducible refine kp_bd ?_ (fun _ _ _ => ?_))
      | (with_reducible refine kp_lts ?_ (fun _ _ => ?_))
      | (with_reducible refine kp_ltv (fun _ => ?_))
      | (with_reducible refine kp_j0 (fun _ _ => ?_) (fun _ _ => ?_))
      | (with_reducible refine kp_j1 (fun _ _ _ => ?_) (fun _ _ => ?_))
      | (with_reducible refine kp_j2 (fun _ _ _ _ => ?_) (fun _ _ => ?_))
      | (with_reducible refine kF_I (by first | assumption | decide) ?_)
      | (with_reducible refine kF_L (by first | assumption | decide) ?_)
      | (with_reducible refine kF_A (by first | assumption | decide) ?_)
      | (with_reducible refine kF_B (by first | assumption | decide) ?_)
      | (with_reducible refine kF_P (by first | assumption | decide) ?_)
      | (with_reducible apply kp_X12_isIn)
      | (with_reducible apply kp_X12_sums)
      | (with_reducible apply kp_X12_fraction)
      | (with_reducible apply kp_X12_refuse)
      | (with_reducible apply kp_X12_death_L55)
      | (show ¬ _; decide)
      | decide
      | solve_by_elim (maxDepth := 4)

theorem kp_X12_draw  (a1 : Int32) (st : fSt) {s0 : fSt}  (h : kF (fun c => c ≠ 12) s0 st) : kpO (fun c => c ≠ 12) s0 (f_X12_draw a1 st) := by
  unfold f_X12_draw
  repeat' first
      | assumption
      | (refine kp_some ?_)
      | exact kp_none
      | (with_reducible refine kp_ite ?_ ?_)
      | (with_reducible refine kp_ix ?_)
      | (with_reducible refine kp_nz ?_)
      | (with_reducible refine kp_bo ?_)
      | (with_reducible refine kp_cp ?_)
      | (with_reducible refine kp_nn (fun _ => ?_))
      | (with_reducible refine kp_nu ?_ (fun _ => ?_))
      | (with_reducible refine kp_bd ?_ (fun _ _ _ => ?_))
      | (with_reducible refine kp_lts ?_ (fun _ _ => ?_))
      | (with_reducible refine kp_ltv (fun _ => ?_))
      | (with_reducible refine kp_j0 (fun _ _ => ?_) (fun _ _ => ?_))
      | (with_reducible refine kp_j1 (fun _ _ _ => ?_) (fun _ _ => ?_))
      | (with_reducible refine kp_j2 (fun _ _ _ _ => ?_) (fun _ _ => ?_))
      | (with_reducible refine kF_I (by first | assumption | decide) ?_)
      | (with_reducible refine kF_L (by first | assumption | decide) ?_)
      | (with_reducible refine kF_A (by first | assumption | decide) ?_)
      | (with_reducible refine kF_B (by first | assumption | decide) ?_)
      | (with_reducible refine kF_P (by first | assumption | decide) ?_)
      | (show ¬ _; decide)
      | decide
      | solve_by_elim (maxDepth := 4)

theorem kp_X12_drawnKind_L11   {s0 : fSt}  : ∀ (n : Nat) (z0 : Int32) (z1 : Int32) (s : fSt), kF (fun c => c ≠ 12) s0 s → kpO (fun c => c ≠ 12) s0 (f_X12_drawnKind_L11  n z0 z1 s) := by
  intro n
  induction n with
  | zero => intro z0 z1 s _; unfold f_X12_drawnKind_L11; exact kp_none
  | succ n ih =>
    intro z0 z1 s h
    unfold f_X12_drawnKind_L11
    repeat' first
        | assumption
        | (refine kp_some ?_)
        | exact kp_none
        | (with_reducible refine kp_ite ?_ ?_)
        | (with_reducible refine kp_ix ?_)
        | (with_reducible refine kp_nz ?_)
        | (with_reducible refine kp_bo ?_)
        | (with_reducible refine kp_cp ?_)
        | (with_reducible refine kp_nn (fun _ => ?_))
        | (with_reducible refine kp_nu ?_ (fun _ => ?_))
        | (with_reducible refine kp_bd ?_ (fun _ _ _ => ?_))
        | (with_reducible refine kp_lts ?_ (fun _ _ => ?_))
        | (with_reducible refine kp_ltv (fun _ => ?_))
        | (with_reducible refine kp_j0 (fun _ _ => ?_) (fun _ _ => ?_))
        | (with_reducible refine kp_j1 (fun _ _ _ => ?_) (fun _ _ => ?_))
        | (with_reducible refine kp_j2 (fun _ _ _ _ => ?_) (fun _ _ => ?_))
        | (with_reducible refine kF_I (by first | assumption | decide) ?_)
        | (with_reducible refine kF_L (by first | assumption | decide) ?_)
        | (with_reducible refine kF_A (by first | assumption | decide) ?_)
        | (with_reducible refine kF_B (by first | assumption | decide) ?_)
        | (with_reducible refine kF_P (by first | assumption | decide) ?_)
        | (show ¬ _; decide)
        | decide
        | (apply ih; assumption)
        | solve_by_elim (maxDepth := 4)

theorem kp_X12_drawnKind  (st : fSt) {s0 : fSt}  (h : kF (fun c => c ≠ 12) s0 st) : kpO (fun c => c ≠ 12) s0 (f_X12_drawnKind st) := by
  unfold f_X12_drawnKind
  repeat' first
      | assumption
      | (refine kp_some ?_)
      | exact kp_none
      | (with_reducible refine kp_ite ?_ ?_)
      | (with_reducible refine kp_ix ?_)
      | (with_reducible refine kp_nz ?_)
      | (with_reducible refine kp_bo ?_)
      | (with_reducible refine kp_cp ?_)
      | (with_reducible refine kp_nn (fun _ => ?_))
      | (with_reducible refine kp_nu ?_ (fun _ => ?_))
      | (with_reducible refine kp_bd ?_ (fun _ _ _ => ?_))
      | (with_reducible refine kp_lts ?_ (fun _ _ => ?_))
      | (with_reducible refine kp_ltv (fun _ => ?_))
      | (with_reducible refine kp_j0 (fun _ _ => ?_) (fun _ _ => ?_))
      | (with_reducible refine kp_j1 (fun _ _ _ => ?_) (fun _ _ => ?_))
      | (with_reducible refine kp_j2 (fun _ _ _ _ => ?_) (fun _ _ => ?_))
      | (with_reducible refine kF_I (by first | assumption | decide) ?_)
      | (with_reducible refine kF_L (by first | assumption | decide) ?_)
      | (with_reducible refine kF_A (by first | assumption | decide) ?_)
      | (with_reducible refine kF_B (by first | assumption | decide) ?_)
      | (with_reducible refine kF_P (by first | assumption | decide) ?_)
      | (with_reducible apply kp_X12_allLots)
      | (with_reducible apply kp_X12_draw)
      | (with_reducible apply kp_X12_drawnKind_L11)
      | (show ¬ _; decide)
      | decide
      | solve_by_elim (maxDepth := 4)

theorem kp_X12_raises  (st : fSt) {s0 : fSt}  (h : kF (fun c => c ≠ 12) s0 st) : kpO (fun c => c ≠ 12) s0 (f_X12_raises st) := by
  unfold f_X12_raises
  repeat' first
      | assumption
      | (refine kp_some ?_)
      | exact kp_none
      | (with_reducible refine kp_ite ?_ ?_)
      | (with_reducible refine kp_ix ?_)
      | (with_reducible refine kp_nz ?_)
      | (with_reducible refine kp_bo ?_)
      | (with_reducible refine kp_cp ?_)
      | (with_reducible refine kp_nn (fun _ => ?_))
      | (with_reducible refine kp_nu ?_ (fun _ => ?_))
      | (with_reducible refine kp_bd ?_ (fun _ _ _ => ?_))
      | (with_reducible refine kp_lts ?_ (fun _ _ => ?_))
      | (with_reducible refine kp_ltv (fun _ => ?_))
      | (with_reducible refine kp_j0 (fun _ _ => ?_) (fun _ _ => ?_))
      | (with_reducible refine kp_j1 (fun _ _ _ => ?_) (fun _ _ => ?_))
      | (with_reducible refine kp_j2 (fun _ _ _ _ => ?_) (fun _ _ => ?_))
      | (with_reducible refine kF_I (by first | assumption | decide) ?_)
      | (with_reducible refine kF_L (by first | assumption | decide) ?_)
      | (with_reducible refine kF_A (by first | assumption | decide) ?_)
      | (with_reducible refine kF_B (by first | assumption | decide) ?_)
      | (with_reducible refine kF_P (by first | assumption | decide) ?_)
      | (show ¬ _; decide)
      | decide
      | solve_by_elim (maxDepth := 4)

theorem kp_X12_sees  (a1 : Int32) (st : fSt) {s0 : fSt}  (h : kF (fun c => c ≠ 12) s0 st) : kpO (fun c => c ≠ 12) s0 (f_X12_sees a1 st) := by
  unfold f_X12_sees
  repeat' first
      | assumption
      | (refine kp_some ?_)
      | exact kp_none
      | (with_reducible refine kp_ite ?_ ?_)
      | (with_reducible refine kp_ix ?_)
      | (with_reducible refine kp_nz ?_)
      | (with_reducible refine kp_bo ?_)
      | (with_reducible refine kp_cp ?_)
      | (with_reducible refine kp_nn (fun _ => ?_))
      | (with_reducible refine kp_nu ?_ (fun _ => ?_))
      | (with_reducible refine kp_bd ?_ (fun _ _ _ => ?_))
      | (with_reducible refine kp_lts ?_ (fun _ _ => ?_))
      | (with_reducible refine kp_ltv (fun _ => ?_))
      | (with_reducible refine kp_j0 (fun _ _ => ?_) (fun _ _ => ?_))
      | (with_reducible refine kp_j1 (fun _ _ _ => ?_) (fun _ _ => ?_))
      | (with_reducible refine kp_j2 (fun _ _ _ _ => ?_) (fun _ _ => ?_))
      | (with_reducible refine kF_I (by first | assumption | decide) ?_)
      | (with_reducible refine kF_L (by first | assumption | decide) ?_)
      | (with_reducible refine kF_A (by first | assumption | decide) ?_)
      | (with_reducible refine kF_B (by first | assumption | decide) ?_)
      | (with_reducible refine kF_P (by first | assumption | decide) ?_)
      | (with_reducible apply kp_X12_breathsOf)
      | (show ¬ _; decide)
      | decide
      | solve_by_elim (maxDepth := 4)

theorem kp_X12_drawnAct  (a1 : Int32) (st : fSt) {s0 : fSt}  (h : kF (fun c => c ≠ 12) s0 st) : kpO (fun c => c ≠ 12) s0 (f_X12_drawnAct a1 st) := by
  unfold f_X12_drawnAct
  repeat' first
      | assumption
      | (refine kp_some ?_)
      | exact kp_none
      | (with_reducible refine kp_ite ?_ ?_)
      | (with_reducible refine kp_ix ?_)
      | (with_reducible refine kp_nz ?_)
      | (with_reducible refine kp_bo ?_)
      | (with_reducible refine kp_cp ?_)
      | (with_reducible refine kp_nn (fun _ => ?_))
      | (with_reducible refine kp_nu ?_ (fun _ => ?_))
      | (with_reducible refine kp_bd ?_ (fun _ _ _ => ?_))
      | (with_reducible refine kp_lts ?_ (fun _ _ => ?_))
      | (with_reducible refine kp_ltv (fun _ => ?_))
      | (with_reducible refine kp_j0 (fun _ _ => ?_) (fun _ _ => ?_))
      | (with_reducible refine kp_j1 (fun _ _ _ => ?_) (fun _ _ => ?_))
      | (with_reducible refine kp_j2 (fun _ _ _ _ => ?_) (fun _ _ => ?_))
      | (with_reducible refine kF_I (by first | assumption | decide) ?_)
      | (with_reducible refine kF_L (by first | assumption | decide) ?_)
      | (with_reducible refine kF_A (by first | assumption | decide) ?_)
      | (with_reducible refine kF_B (by first | assumption | decide) ?_)
      | (with_reducible refine kF_P (by first | assumption | decide) ?_)
      | (with_reducible apply kp_X12_draw)
      | (show ¬ _; decide)
      | decide
      | solve_by_elim (maxDepth := 4)

theorem kp_X12_playFor_L15  (a1 : Int32) {s0 : fSt}  : ∀ (n : Nat) (z0 : Int32) (z1 : Int32) (s : fSt), kF (fun c => c ≠ 12) s0 s → kpO (fun c => c ≠ 12) s0 (f_X12_playFor_L15 a1 n z0 z1 s) := by
  intro n
  induction n with
  | zero => intro z0 z1 s _; unfold f_X12_playFor_L15; exact kp_none
  | succ n ih =>
    intro z0 z1 s h
    unfold f_X12_playFor_L15
    repeat' first
        | assumption
        | (refine kp_some ?_)
        | exact kp_none
        | (with_reducible refine kp_ite ?_ ?_)
        | (with_reducible refine kp_ix ?_)
        | (with_reducible refine kp_nz ?_)
        | (with_reducible refine kp_bo ?_)
        | (with_reducible refine kp_cp ?_)
        | (with_reducible refine kp_nn (fun _ => ?_))
        | (with_reducible refine kp_nu ?_ (fun _ => ?_))
        | (with_reducible refine kp_bd ?_ (fun _ _ _ => ?_))
        | (with_reducible refine kp_lts ?_ (fun _ _ => ?_))
        | (with_reducible refine kp_ltv (fun _ => ?_))
        | (with_reducible refine kp_j0 (fun _ _ => ?_) (fun _ _ => ?_))
        | (with_reducible refine kp_j1 (fun _ _ _ => ?_) (fun _ _ => ?_))
        | (with_reducible refine kp_j2 (fun _ _ _ _ => ?_) (fun _ _ => ?_))
        | (with_reducible refine kF_I (by first | assumption | decide) ?_)
        | (with_reducible refine kF_L (by first | assumption | decide) ?_)
        | (with_reducible refine kF_A (by first | assumption | decide) ?_)
        | (with_reducible refine kF_B (by first | assumption | decide) ?_)
        | (with_reducible refine kF_P (by first | assumption | decide) ?_)
        | (with_reducible apply kp_X12_books)
        | (with_reducible apply kp_X12_sees)
        | (with_reducible apply kp_X12_drawnAct)
        | (with_reducible apply kp_X12_behind2)
        | (with_reducible apply kp_X12_kills)
        | (show ¬ _; decide)
        | decide
        | (apply ih; assumption)
        | solve_by_elim (maxDepth := 4)

theorem kp_X12_playFor  (a1 : Int32) (st : fSt) {s0 : fSt}  (h : kF (fun c => c ≠ 12) s0 st) : kpO (fun c => c ≠ 12) s0 (f_X12_playFor a1 st) := by
  unfold f_X12_playFor
  repeat' first
      | assumption
      | (refine kp_some ?_)
      | exact kp_none
      | (with_reducible refine kp_ite ?_ ?_)
      | (with_reducible refine kp_ix ?_)
      | (with_reducible refine kp_nz ?_)
      | (with_reducible refine kp_bo ?_)
      | (with_reducible refine kp_cp ?_)
      | (with_reducible refine kp_nn (fun _ => ?_))
      | (with_reducible refine kp_nu ?_ (fun _ => ?_))
      | (with_reducible refine kp_bd ?_ (fun _ _ _ => ?_))
      | (with_reducible refine kp_lts ?_ (fun _ _ => ?_))
      | (with_reducible refine kp_ltv (fun _ => ?_))
      | (with_reducible refine kp_j0 (fun _ _ => ?_) (fun _ _ => ?_))
      | (with_reducible refine kp_j1 (fun _ _ _ => ?_) (fun _ _ => ?_))
      | (with_reducible refine kp_j2 (fun _ _ _ _ => ?_) (fun _ _ => ?_))
      | (with_reducible refine kF_I (by first | assumption | decide) ?_)
      | (with_reducible refine kF_L (by first | assumption | decide) ?_)
      | (with_reducible refine kF_A (by first | assumption | decide) ?_)
      | (with_reducible refine kF_B (by first | assumption | decide) ?_)
      | (with_reducible refine kF_P (by first | assumption | decide) ?_)
      | (with_reducible apply kp_X12_raises)
      | (with_reducible apply kp_X12_playFor_L15)
      | (show ¬ _; decide)
      | decide
      | solve_by_elim (maxDepth := 4)

theorem kp_X12_plays2  (a1 : Int32) (st : fSt) {s0 : fSt}  (h : kF (fun c => c ≠ 12) s0 st) : kpO (fun c => c ≠ 12) s0 (f_X12_plays2 a1 st) := by
  unfold f_X12_plays2
  repeat' first
      | assumption
      | (refine kp_some ?_)
      | exact kp_none
      | (with_reducible refine kp_ite ?_ ?_)
      | (with_reducible refine kp_ix ?_)
      | (with_reducible refine kp_nz ?_)
      | (with_reducible refine kp_bo ?_)
      | (with_reducible refine kp_cp ?_)
      | (with_reducible refine kp_nn (fun _ => ?_))
      | (with_reducible refine kp_nu ?_ (fun _ => ?_))
      | (with_reducible refine kp_bd ?_ (fun _ _ _ => ?_))
      | (with_reducible refine kp_lts ?_ (fun _ _ => ?_))
      | (with_reducible refine kp_ltv (fun _ => ?_))
      | (with_reducible refine kp_j0 (fun _ _ => ?_) (fun _ _ => ?_))
      | (with_reducible refine kp_j1 (fun _ _ _ => ?_) (fun _ _ => ?_))
      | (with_reducible refine kp_j2 (fun _ _ _ _ => ?_) (fun _ _ => ?_))
      | (with_reducible refine kF_I (by first | assumption | decide) ?_)
      | (with_reducible refine kF_L (by first | assumption | decide) ?_)
      | (with_reducible refine kF_A (by first | assumption | decide) ?_)
      | (with_reducible refine kF_B (by first | assumption | decide) ?_)
      | (with_reducible refine kF_P (by first | assumption | decide) ?_)
      | (with_reducible apply kp_X12_isDark)
      | (with_reducible apply kp_X12_playFor)
      | (with_reducible apply kp_X12_drawnKind)
      | (show ¬ _; decide)
      | decide
      | solve_by_elim (maxDepth := 4)

theorem kp_X12_isSo  (a1 : Int32) (st : fSt) {s0 : fSt}  (h : kF (fun c => c ≠ 12) s0 st) : kpO (fun c => c ≠ 12) s0 (f_X12_isSo a1 st) := by
  unfold f_X12_isSo
  repeat' first
      | assumption
      | (refine kp_some ?_)
      | exact kp_none
      | (with_reducible refine kp_ite ?_ ?_)
      | (with_reducible refine kp_ix ?_)
      | (with_reducible refine kp_nz ?_)
      | (with_reducible refine kp_bo ?_)
      | (with_reducible refine kp_cp ?_)
      | (with_reducible refine kp_nn (fun _ => ?_))
      | (with_reducible refine kp_nu ?_ (fun _ => ?_))
      | (with_reducible refine kp_bd ?_ (fun _ _ _ => ?_))
      | (with_reducible refine kp_lts ?_ (fun _ _ => ?_))
      | (with_reducible refine kp_ltv (fun _ => ?_))
      | (with_reducible refine kp_j0 (fun _ _ => ?_) (fun _ _ => ?_))
      | (with_reducible refine kp_j1 (fun _ _ _ => ?_) (fun _ _ => ?_))
      | (with_reducible refine kp_j2 (fun _ _ _ _ => ?_) (fun _ _ => ?_))
      | (with_reducible refine kF_I (by first | assumption | decide) ?_)
      | (with_reducible refine kF_L (by first | assumption | decide) ?_)
      | (with_reducible refine kF_A (by first | assumption | decide) ?_)
      | (with_reducible refine kF_B (by first | assumption | decide) ?_)
      | (with_reducible refine kF_P (by first | assumption | decide) ?_)
      | (with_reducible apply kp_X12_has)
      | (show ¬ _; decide)
      | decide
      | solve_by_elim (maxDepth := 4)

theorem kp_X12_doOne_L194  (rec : Int32 → Int32 → fSt → Option (Unit × fSt)) (a1 : Int32) (x2 : Int32) (k27 : fSt → Option (Unit × fSt)) {s0 : fSt} (hrec : ∀ (z0 : Int32) (z1 : Int32) (s : fSt), kF (fun c => c ≠ 12) s0 s → kpO (fun c => c ≠ 12) s0 (rec z0 z1 s)) (hk27 : ∀ (s : fSt), kF (fun c => c ≠ 12) s0 s → kpO (fun c => c ≠ 12) s0 (k27 s)) : ∀ (n : Nat) (z0 : Int32) (s : fSt), kF (fun c => c ≠ 12) s0 s → kpO (fun c => c ≠ 12) s0 (f_X12_doOne_L194 rec a1 x2 k27 n z0 s) := by
  intro n
  induction n with
  | zero => intro z0 s _; unfold f_X12_doOne_L194; exact kp_none
  | succ n ih =>
    intro z0 s h
    unfold f_X12_doOne_L194
    repeat' first
        | assumption
        | (refine kp_some ?_)
        | exact kp_none
        | (with_reducible refine kp_ite ?_ ?_)
        | (with_reducible refine kp_ix ?_)
        | (with_reducible refine kp_nz ?_)
        | (with_reducible refine kp_bo ?_)
        | (with_reducible refine kp_cp ?_)
        | (with_reducible refine kp_nn (fun _ => ?_))
        | (with_reducible refine kp_nu ?_ (fun _ => ?_))
        | (with_reducible refine kp_bd ?_ (fun _ _ _ => ?_))
        | (with_reducible refine kp_lts ?_ (fun _ _ => ?_))
        | (with_reducible refine kp_ltv (fun _ => ?_))
        | (with_reducible refine kp_j0 (fun _ _ => ?_) (fun _ _ => ?_))
        | (with_reducible refine kp_j1 (fun _ _ _ => ?_) (fun _ _ => ?_))
        | (with_reducible refine kp_j2 (fun _ _ _ _ => ?_) (fun _ _ => ?_))
        | (with_reducible refine kF_I (by first | assumption | decide) ?_)
        | (with_reducible refine kF_L (by first | assumption | decide) ?_)
        | (with_reducible refine kF_A (by first | assumption | decide) ?_)
        | (with_reducible refine kF_B (by first | assumption | decide) ?_)
        | (with_reducible refine kF_P (by first | assumption | decide) ?_)
        | (show ¬ _; decide)
        | decide
        | (apply ih; assumption)
        | solve_by_elim (maxDepth := 4)

theorem kp_X12_doOne  (rec : Int32 → Int32 → fSt → Option (Unit × fSt)) (a1 : Int32) (st : fSt) {s0 : fSt} (hrec : ∀ (z0 : Int32) (z1 : Int32) (s : fSt), kF (fun c => c ≠ 12) s0 s → kpO (fun c => c ≠ 12) s0 (rec z0 z1 s)) (h : kF (fun c => c ≠ 12) s0 st) : kpO (fun c => c ≠ 12) s0 (f_X12_doOne rec a1 st) := by
  unfold f_X12_doOne
  repeat' first
      | assumption
      | (refine kp_some ?_)
      | exact kp_none
      | (with_reducible refine kp_ite ?_ ?_)
      | (with_reducible refine kp_ix ?_)
      | (with_reducible refine kp_nz ?_)
      | (with_reducible refine kp_bo ?_)
      | (with_reducible refine kp_cp ?_)
      | (with_reducible refine kp_nn (fun _ => ?_))
      | (with_reducible refine kp_nu ?_ (fun _ => ?_))
      | (with_reducible refine kp_bd ?_ (fun _ _ _ => ?_))
      | (with_reducible refine kp_lts ?_ (fun _ _ => ?_))
      | (with_reducible refine kp_ltv (fun _ => ?_))
      | (with_reducible refine kp_j0 (fun _ _ => ?_) (fun _ _ => ?_))
      | (with_reducible refine kp_j1 (fun _ _ _ => ?_) (fun _ _ => ?_))
      | (with_reducible refine kp_j2 (fun _ _ _ _ => ?_) (fun _ _ => ?_))
      | (with_reducible refine kF_I (by first | assumption | decide) ?_)
      | (with_reducible refine kF_L (by first | assumption | decide) ?_)
      | (with_reducible refine kF_A (by first | assumption | decide) ?_)
      | (with_reducible refine kF_B (by first | assumption | decide) ?_)
      | (with_reducible refine kF_P (by first | assumption | decide) ?_)
      | (with_reducible apply kp_X12_with)
      | (with_reducible apply kp_X12_doOne_L194)
      | (with_reducible apply kp_X12_isSo)
      | (with_reducible apply kp_X12_plays2)
      | (show ¬ _; decide)
      | decide
      | solve_by_elim (maxDepth := 4)

theorem kp_X12_doAll_L2  (rec : Int32 → Int32 → fSt → Option (Unit × fSt)) (a2 : Int32) (k3 : fSt → Option (Unit × fSt)) {s0 : fSt} (hrec : ∀ (z0 : Int32) (z1 : Int32) (s : fSt), kF (fun c => c ≠ 12) s0 s → kpO (fun c => c ≠ 12) s0 (rec z0 z1 s)) (hk3 : ∀ (s : fSt), kF (fun c => c ≠ 12) s0 s → kpO (fun c => c ≠ 12) s0 (k3 s)) : ∀ (n : Nat) (z0 : Int32) (s : fSt), kF (fun c => c ≠ 12) s0 s → kpO (fun c => c ≠ 12) s0 (f_X12_doAll_L2 rec a2 k3 n z0 s) := by
  intro n
  induction n with
  | zero => intro z0 s _; unfold f_X12_doAll_L2; exact kp_none
  | succ n ih =>
    intro z0 s h
    unfold f_X12_doAll_L2
    repeat' first
        | assumption
        | (refine kp_some ?_)
        | exact kp_none
        | (with_reducible refine kp_ite ?_ ?_)
        | (with_reducible refine kp_ix ?_)
        | (with_reducible refine kp_nz ?_)
        | (with_reducible refine kp_bo ?_)
        | (with_reducible refine kp_cp ?_)
        | (with_reducible refine kp_nn (fun _ => ?_))
        | (with_reducible refine kp_nu ?_ (fun _ => ?_))
        | (with_reducible refine kp_bd ?_ (fun _ _ _ => ?_))
        | (with_reducible refine kp_lts ?_ (fun _ _ => ?_))
        | (with_reducible refine kp_ltv (fun _ => ?_))
        | (with_reducible refine kp_j0 (fun _ _ => ?_) (fun _ _ => ?_))
        | (with_reducible refine kp_j1 (fun _ _ _ => ?_) (fun _ _ => ?_))
        | (with_reducible refine kp_j2 (fun _ _ _ _ => ?_) (fun _ _ => ?_))
        | (with_reducible refine kF_I (by first | assumption | decide) ?_)
        | (with_reducible refine kF_L (by first | assumption | decide) ?_)
        | (with_reducible refine kF_A (by first | assumption | decide) ?_)
        | (with_reducible refine kF_B (by first | assumption | decide) ?_)
        | (with_reducible refine kF_P (by first | assumption | decide) ?_)
        | (with_reducible apply kp_X12_doOne)
        | (show ¬ _; decide)
        | decide
        | (apply ih; assumption)
        | solve_by_elim (maxDepth := 4)

theorem kp_X12_doAll_b  (rec : Int32 → Int32 → fSt → Option (Unit × fSt)) (a1 : Int32) (a2 : Int32) (st : fSt) {s0 : fSt} (hrec : ∀ (z0 : Int32) (z1 : Int32) (s : fSt), kF (fun c => c ≠ 12) s0 s → kpO (fun c => c ≠ 12) s0 (rec z0 z1 s)) (h : kF (fun c => c ≠ 12) s0 st) : kpO (fun c => c ≠ 12) s0 (f_X12_doAll_b rec a1 a2 st) := by
  unfold f_X12_doAll_b
  repeat' first
      | assumption
      | (refine kp_some ?_)
      | exact kp_none
      | (with_reducible refine kp_ite ?_ ?_)
      | (with_reducible refine kp_ix ?_)
      | (with_reducible refine kp_nz ?_)
      | (with_reducible refine kp_bo ?_)
      | (with_reducible refine kp_cp ?_)
      | (with_reducible refine kp_nn (fun _ => ?_))
      | (with_reducible refine kp_nu ?_ (fun _ => ?_))
      | (with_reducible refine kp_bd ?_ (fun _ _ _ => ?_))
      | (with_reducible refine kp_lts ?_ (fun _ _ => ?_))
      | (with_reducible refine kp_ltv (fun _ => ?_))
      | (with_reducible refine kp_j0 (fun _ _ => ?_) (fun _ _ => ?_))
      | (with_reducible refine kp_j1 (fun _ _ _ => ?_) (fun _ _ => ?_))
      | (with_reducible refine kp_j2 (fun _ _ _ _ => ?_) (fun _ _ => ?_))
      | (with_reducible refine kF_I (by first | assumption | decide) ?_)
      | (with_reducible refine kF_L (by first | assumption | decide) ?_)
      | (with_reducible refine kF_A (by first | assumption | decide) ?_)
      | (with_reducible refine kF_B (by first | assumption | decide) ?_)
      | (with_reducible refine kF_P (by first | assumption | decide) ?_)
      | (with_reducible apply kp_X12_doAll_L2)
      | (show ¬ _; decide)
      | decide
      | solve_by_elim (maxDepth := 4)

theorem kp_X12_doAll {s0 : fSt} : ∀ (n : Nat) (z0 : Int32) (z1 : Int32) (s : fSt), kF (fun c => c ≠ 12) s0 s → kpO (fun c => c ≠ 12) s0 (f_X12_doAll n z0 z1 s) := by
  intro n
  induction n with
  | zero => intro z0 z1 s _; exact kp_none
  | succ n ih =>
    intro z0 z1 s h
    exact kp_X12_doAll_b (f_X12_doAll n) z0 z1 s ih h
theorem kp_X12_fault  (a1 : Int32) (st : fSt) {s0 : fSt}  (h : kF (fun c => c ≠ 12) s0 st) : kpO (fun c => c ≠ 12) s0 (f_X12_fault a1 st) := by
  unfold f_X12_fault
  repeat' first
      | assumption
      | (refine kp_some ?_)
      | exact kp_none
      | (with_reducible refine kp_ite ?_ ?_)
      | (with_reducible refine kp_ix ?_)
      | (with_reducible refine kp_nz ?_)
      | (with_reducible refine kp_bo ?_)
      | (with_reducible refine kp_cp ?_)
      | (with_reducible refine kp_nn (fun _ => ?_))
      | (with_reducible refine kp_nu ?_ (fun _ => ?_))
      | (with_reducible refine kp_bd ?_ (fun _ _ _ => ?_))
      | (with_reducible refine kp_lts ?_ (fun _ _ => ?_))
      | (with_reducible refine kp_ltv (fun _ => ?_))
      | (with_reducible refine kp_j0 (fun _ _ => ?_) (fun _ _ => ?_))
      | (with_reducible refine kp_j1 (fun _ _ _ => ?_) (fun _ _ => ?_))
      | (with_reducible refine kp_j2 (fun _ _ _ _ => ?_) (fun _ _ => ?_))
      | (with_reducible refine kF_I (by first | assumption | decide) ?_)
      | (with_reducible refine kF_L (by first | assumption | decide) ?_)
      | (with_reducible refine kF_A (by first | assumption | decide) ?_)
      | (with_reducible refine kF_B (by first | assumption | decide) ?_)
      | (with_reducible refine kF_P (by first | assumption | decide) ?_)
      | (show ¬ _; decide)
      | decide
      | solve_by_elim (maxDepth := 4)

theorem kp_X12_lay_L2  (a1 : Int32) {s0 : fSt}  : ∀ (n : Nat) (z0 : Int32) (s : fSt), kF (fun c => c ≠ 12) s0 s → kpO (fun c => c ≠ 12) s0 (f_X12_lay_L2 a1 n z0 s) := by
  intro n
  induction n with
  | zero => intro z0 s _; unfold f_X12_lay_L2; exact kp_none
  | succ n ih =>
    intro z0 s h
    unfold f_X12_lay_L2
    repeat' first
        | assumption
        | (refine kp_some ?_)
        | exact kp_none
        | (with_reducible refine kp_ite ?_ ?_)
        | (with_reducible refine kp_ix ?_)
        | (with_reducible refine kp_nz ?_)
        | (with_reducible refine kp_bo ?_)
        | (with_reducible refine kp_cp ?_)
        | (with_reducible refine kp_nn (fun _ => ?_))
        | (with_reducible refine kp_nu ?_ (fun _ => ?_))
        | (with_reducible refine kp_bd ?_ (fun _ _ _ => ?_))
        | (with_reducible refine kp_lts ?_ (fun _ _ => ?_))
        | (with_reducible refine kp_ltv (fun _ => ?_))
        | (with_reducible refine kp_j0 (fun _ _ => ?_) (fun _ _ => ?_))
        | (with_reducible refine kp_j1 (fun _ _ _ => ?_) (fun _ _ => ?_))
        | (with_reducible refine kp_j2 (fun _ _ _ _ => ?_) (fun _ _ => ?_))
        | (with_reducible refine kF_I (by first | assumption | decide) ?_)
        | (with_reducible refine kF_L (by first | assumption | decide) ?_)
        | (with_reducible refine kF_A (by first | assumption | decide) ?_)
        | (with_reducible refine kF_B (by first | assumption | decide) ?_)
        | (with_reducible refine kF_P (by first | assumption | decide) ?_)
        | (show ¬ _; decide)
        | decide
        | (apply ih; assumption)
        | solve_by_elim (maxDepth := 4)

theorem kp_X12_lay  (a1 : Int32) (st : fSt) {s0 : fSt}  (h : kF (fun c => c ≠ 12) s0 st) : kpO (fun c => c ≠ 12) s0 (f_X12_lay a1 st) := by
  unfold f_X12_lay
  repeat' first
      | assumption
      | (refine kp_some ?_)
      | exact kp_none
      | (with_reducible refine kp_ite ?_ ?_)
      | (with_reducible refine kp_ix ?_)
      | (with_reducible refine kp_nz ?_)
      | (with_reducible refine kp_bo ?_)
      | (with_reducible refine kp_cp ?_)
      | (with_reducible refine kp_nn (fun _ => ?_))
      | (with_reducible refine kp_nu ?_ (fun _ => ?_))
      | (with_reducible refine kp_bd ?_ (fun _ _ _ => ?_))
      | (with_reducible refine kp_lts ?_ (fun _ _ => ?_))
      | (with_reducible refine kp_ltv (fun _ => ?_))
      | (with_reducible refine kp_j0 (fun _ _ => ?_) (fun _ _ => ?_))
      | (with_reducible refine kp_j1 (fun _ _ _ => ?_) (fun _ _ => ?_))
      | (with_reducible refine kp_j2 (fun _ _ _ _ => ?_) (fun _ _ => ?_))
      | (with_reducible refine kF_I (by first | assumption | decide) ?_)
      | (with_reducible refine kF_L (by first | assumption | decide) ?_)
      | (with_reducible refine kF_A (by first | assumption | decide) ?_)
      | (with_reducible refine kF_B (by first | assumption | decide) ?_)
      | (with_reducible refine kF_P (by first | assumption | decide) ?_)
      | (with_reducible apply kp_X12_lay_L2)
      | (show ¬ _; decide)
      | decide
      | solve_by_elim (maxDepth := 4)

theorem kp_X12_feed  (a1 : Int32) (a2 : Int32) (a3 : Int32) (a4 : Int32) (a5 : Int32) (st : fSt) {s0 : fSt}  (h : kF (fun c => c ≠ 12) s0 st) : kpO (fun c => c ≠ 12) s0 (f_X12_feed a1 a2 a3 a4 a5 st) := by
  unfold f_X12_feed
  repeat' first
      | assumption
      | (refine kp_some ?_)
      | exact kp_none
      | (with_reducible refine kp_ite ?_ ?_)
      | (with_reducible refine kp_ix ?_)
      | (with_reducible refine kp_nz ?_)
      | (with_reducible refine kp_bo ?_)
      | (with_reducible refine kp_cp ?_)
      | (with_reducible refine kp_nn (fun _ => ?_))
      | (with_reducible refine kp_nu ?_ (fun _ => ?_))
      | (with_reducible refine kp_bd ?_ (fun _ _ _ => ?_))
      | (with_reducible refine kp_lts ?_ (fun _ _ => ?_))
      | (with_reducible refine kp_ltv (fun _ => ?_))
      | (with_reducible refine kp_j0 (fun _ _ => ?_) (fun _ _ => ?_))
      | (with_reducible refine kp_j1 (fun _ _ _ => ?_) (fun _ _ => ?_))
      | (with_reducible refine kp_j2 (fun _ _ _ _ => ?_) (fun _ _ => ?_))
      | (with_reducible refine kF_I (by first | assumption | decide) ?_)
      | (with_reducible refine kF_L (by first | assumption | decide) ?_)
      | (with_reducible refine kF_A (by first | assumption | decide) ?_)
      | (with_reducible refine kF_B (by first | assumption | decide) ?_)
      | (with_reducible refine kF_P (by first | assumption | decide) ?_)
      | (with_reducible apply kp_X12_lay)
      | (show ¬ _; decide)
      | decide
      | solve_by_elim (maxDepth := 4)

theorem kp_X12_fewest_L100  (x10 : Int32) (x17 : Int32) (j21 : fSt → Option (Int32 × fSt)) {s0 : fSt} (hj21 : ∀ (s : fSt), kF (fun c => c ≠ 12) s0 s → kpO (fun c => c ≠ 12) s0 (j21 s)) : ∀ (n : Nat) (z0 : Int32) (s : fSt), kF (fun c => c ≠ 12) s0 s → kpO (fun c => c ≠ 12) s0 (f_X12_fewest_L100 x10 x17 j21 n z0 s) := by
  intro n
  induction n with
  | zero => intro z0 s _; unfold f_X12_fewest_L100; exact kp_none
  | succ n ih =>
    intro z0 s h
    unfold f_X12_fewest_L100
    repeat' first
        | assumption
        | (refine kp_some ?_)
        | exact kp_none
        | (with_reducible refine kp_ite ?_ ?_)
        | (with_reducible refine kp_ix ?_)
        | (with_reducible refine kp_nz ?_)
        | (with_reducible refine kp_bo ?_)
        | (with_reducible refine kp_cp ?_)
        | (with_reducible refine kp_nn (fun _ => ?_))
        | (with_reducible refine kp_nu ?_ (fun _ => ?_))
        | (with_reducible refine kp_bd ?_ (fun _ _ _ => ?_))
        | (with_reducible refine kp_lts ?_ (fun _ _ => ?_))
        | (with_reducible refine kp_ltv (fun _ => ?_))
        | (with_reducible refine kp_j0 (fun _ _ => ?_) (fun _ _ => ?_))
        | (with_reducible refine kp_j1 (fun _ _ _ => ?_) (fun _ _ => ?_))
        | (with_reducible refine kp_j2 (fun _ _ _ _ => ?_) (fun _ _ => ?_))
        | (with_reducible refine kF_I (by first | assumption | decide) ?_)
        | (with_reducible refine kF_L (by first | assumption | decide) ?_)
        | (with_reducible refine kF_A (by first | assumption | decide) ?_)
        | (with_reducible refine kF_B (by first | assumption | decide) ?_)
        | (with_reducible refine kF_P (by first | assumption | decide) ?_)
        | (show ¬ _; decide)
        | decide
        | (apply ih; assumption)
        | solve_by_elim (maxDepth := 4)

theorem kp_X12_fewest_L78  (x10 : Int32) (k15 : fSt → Option (Int32 × fSt)) {s0 : fSt} (hk15 : ∀ (s : fSt), kF (fun c => c ≠ 12) s0 s → kpO (fun c => c ≠ 12) s0 (k15 s)) : ∀ (n : Nat) (z0 : Int32) (s : fSt), kF (fun c => c ≠ 12) s0 s → kpO (fun c => c ≠ 12) s0 (f_X12_fewest_L78 x10 k15 n z0 s) := by
  intro n
  induction n with
  | zero => intro z0 s _; unfold f_X12_fewest_L78; exact kp_none
  | succ n ih =>
    intro z0 s h
    unfold f_X12_fewest_L78
    repeat' first
        | assumption
        | (refine kp_some ?_)
        | exact kp_none
        | (with_reducible refine kp_ite ?_ ?_)
        | (with_reducible refine kp_ix ?_)
        | (with_reducible refine kp_nz ?_)
        | (with_reducible refine kp_bo ?_)
        | (with_reducible refine kp_cp ?_)
        | (with_reducible refine kp_nn (fun _ => ?_))
        | (with_reducible refine kp_nu ?_ (fun _ => ?_))
        | (with_reducible refine kp_bd ?_ (fun _ _ _ => ?_))
        | (with_reducible refine kp_lts ?_ (fun _ _ => ?_))
        | (with_reducible refine kp_ltv (fun _ => ?_))
        | (with_reducible refine kp_j0 (fun _ _ => ?_) (fun _ _ => ?_))
        | (with_reducible refine kp_j1 (fun _ _ _ => ?_) (fun _ _ => ?_))
        | (with_reducible refine kp_j2 (fun _ _ _ _ => ?_) (fun _ _ => ?_))
        | (with_reducible refine kF_I (by first | assumption | decide) ?_)
        | (with_reducible refine kF_L (by first | assumption | decide) ?_)
        | (with_reducible refine kF_A (by first | assumption | decide) ?_)
        | (with_reducible refine kF_B (by first | assumption | decide) ?_)
        | (with_reducible refine kF_P (by first | assumption | decide) ?_)
        | (with_reducible apply kp_X12_fewest_L100)
        | (show ¬ _; decide)
        | decide
        | (apply ih; assumption)
        | solve_by_elim (maxDepth := 4)

theorem kp_X12_fewest_L62   {s0 : fSt}  : ∀ (n : Nat) (z0 : Int32) (s : fSt), kF (fun c => c ≠ 12) s0 s → kpO (fun c => c ≠ 12) s0 (f_X12_fewest_L62  n z0 s) := by
  intro n
  induction n with
  | zero => intro z0 s _; unfold f_X12_fewest_L62; exact kp_none
  | succ n ih =>
    intro z0 s h
    unfold f_X12_fewest_L62
    repeat' first
        | assumption
        | (refine kp_some ?_)
        | exact kp_none
        | (with_reducible refine kp_ite ?_ ?_)
        | (with_reducible refine kp_ix ?_)
        | (with_reducible refine kp_nz ?_)
        | (with_reducible refine kp_bo ?_)
        | (with_reducible refine kp_cp ?_)
        | (with_reducible refine kp_nn (fun _ => ?_))
        | (with_reducible refine kp_nu ?_ (fun _ => ?_))
        | (with_reducible refine kp_bd ?_ (fun _ _ _ => ?_))
        | (with_reducible refine kp_lts ?_ (fun _ _ => ?_))
        | (with_reducible refine kp_ltv (fun _ => ?_))
        | (with_reducible refine kp_j0 (fun _ _ => ?_) (fun _ _ => ?_))
        | (with_reducible refine kp_j1 (fun _ _ _ => ?_) (fun _ _ => ?_))
        | (with_reducible refine kp_j2 (fun _ _ _ _ => ?_) (fun _ _ => ?_))
        | (with_reducible refine kF_I (by first | assumption | decide) ?_)
        | (with_reducible refine kF_L (by first | assumption | decide) ?_)
        | (with_reducible refine kF_A (by first | assumption | decide) ?_)
        | (with_reducible refine kF_B (by first | assumption | decide) ?_)
        | (with_reducible refine kF_P (by first | assumption | decide) ?_)
        | (with_reducible apply kp_X12_fewest_L78)
        | (show ¬ _; decide)
        | decide
        | (apply ih; assumption)
        | solve_by_elim (maxDepth := 4)

theorem kp_X12_fewest_L31  (k8 : fSt → Option (Int32 × fSt)) {s0 : fSt} (hk8 : ∀ (s : fSt), kF (fun c => c ≠ 12) s0 s → kpO (fun c => c ≠ 12) s0 (k8 s)) : ∀ (n : Nat) (z0 : Int32) (s : fSt), kF (fun c => c ≠ 12) s0 s → kpO (fun c => c ≠ 12) s0 (f_X12_fewest_L31 k8 n z0 s) := by
  intro n
  induction n with
  | zero => intro z0 s _; unfold f_X12_fewest_L31; exact kp_none
  | succ n ih =>
    intro z0 s h
    unfold f_X12_fewest_L31
    repeat' first
        | assumption
        | (refine kp_some ?_)
        | exact kp_none
        | (with_reducible refine kp_ite ?_ ?_)
        | (with_reducible refine kp_ix ?_)
        | (with_reducible refine kp_nz ?_)
        | (with_reducible refine kp_bo ?_)
        | (with_reducible refine kp_cp ?_)
        | (with_reducible refine kp_nn (fun _ => ?_))
        | (with_reducible refine kp_nu ?_ (fun _ => ?_))
        | (with_reducible refine kp_bd ?_ (fun _ _ _ => ?_))
        | (with_reducible refine kp_lts ?_ (fun _ _ => ?_))
        | (with_reducible refine kp_ltv (fun _ => ?_))
        | (with_reducible refine kp_j0 (fun _ _ => ?_) (fun _ _ => ?_))
        | (with_reducible refine kp_j1 (fun _ _ _ => ?_) (fun _ _ => ?_))
        | (with_reducible refine kp_j2 (fun _ _ _ _ => ?_) (fun _ _ => ?_))
        | (with_reducible refine kF_I (by first | assumption | decide) ?_)
        | (with_reducible refine kF_L (by first | assumption | decide) ?_)
        | (with_reducible refine kF_A (by first | assumption | decide) ?_)
        | (with_reducible refine kF_B (by first | assumption | decide) ?_)
        | (with_reducible refine kF_P (by first | assumption | decide) ?_)
        | (show ¬ _; decide)
        | decide
        | (apply ih; assumption)
        | solve_by_elim (maxDepth := 4)

theorem kp_X12_fewest  (st : fSt) {s0 : fSt}  (h : kF (fun c => c ≠ 12) s0 st) : kpO (fun c => c ≠ 12) s0 (f_X12_fewest st) := by
  unfold f_X12_fewest
  repeat' first
      | assumption
      | (refine kp_some ?_)
      | exact kp_none
      | (with_reducible refine kp_ite ?_ ?_)
      | (with_reducible refine kp_ix ?_)
      | (with_reducible refine kp_nz ?_)
      | (with_reducible refine kp_bo ?_)
      | (with_reducible refine kp_cp ?_)
      | (with_reducible refine kp_nn (fun _ => ?_))
      | (with_reducible refine kp_nu ?_ (fun _ => ?_))
      | (with_reducible refine kp_bd ?_ (fun _ _ _ => ?_))
      | (with_reducible refine kp_lts ?_ (fun _ _ => ?_))
      | (with_reducible refine kp_ltv (fun _ => ?_))
      | (with_reducible refine kp_j0 (fun _ _ => ?_) (fun _ _ => ?_))
      | (with_reducible refine kp_j1 (fun _ _ _ => ?_) (fun _ _ => ?_))
      | (with_reducible refine kp_j2 (fun _ _ _ _ => ?_) (fun _ _ => ?_))
      | (with_reducible refine kF_I (by first | assumption | decide) ?_)
      | (with_reducible refine kF_L (by first | assumption | decide) ?_)
      | (with_reducible refine kF_A (by first | assumption | decide) ?_)
      | (with_reducible refine kF_B (by first | assumption | decide) ?_)
      | (with_reducible refine kF_P (by first | assumption | decide) ?_)
      | (with_reducible apply kp_X12_isDark)
      | (with_reducible apply kp_X12_goAll)
      | (with_reducible apply kp_X12_fewest_L62)
      | (with_reducible apply kp_X12_fewest_L31)
      | (with_reducible apply kp_X12_refuse)
      | (show ¬ _; decide)
      | decide
      | solve_by_elim (maxDepth := 4)

theorem kp_X12_sceneOf_L4   {s0 : fSt}  : ∀ (n : Nat) (z0 : Int32) (z1 : Int32) (s : fSt), kF (fun c => c ≠ 12) s0 s → kpO (fun c => c ≠ 12) s0 (f_X12_sceneOf_L4  n z0 z1 s) := by
  intro n
  induction n with
  | zero => intro z0 z1 s _; unfold f_X12_sceneOf_L4; exact kp_none
  | succ n ih =>
    intro z0 z1 s h
    unfold f_X12_sceneOf_L4
    repeat' first
        | assumption
        | (refine kp_some ?_)
        | exact kp_none
        | (with_reducible refine kp_ite ?_ ?_)
        | (with_reducible refine kp_ix ?_)
        | (with_reducible refine kp_nz ?_)
        | (with_reducible refine kp_bo ?_)
        | (with_reducible refine kp_cp ?_)
        | (with_reducible refine kp_nn (fun _ => ?_))
        | (with_reducible refine kp_nu ?_ (fun _ => ?_))
        | (with_reducible refine kp_bd ?_ (fun _ _ _ => ?_))
        | (with_reducible refine kp_lts ?_ (fun _ _ => ?_))
        | (with_reducible refine kp_ltv (fun _ => ?_))
        | (with_reducible refine kp_j0 (fun _ _ => ?_) (fun _ _ => ?_))
        | (with_reducible refine kp_j1 (fun _ _ _ => ?_) (fun _ _ => ?_))
        | (with_reducible refine kp_j2 (fun _ _ _ _ => ?_) (fun _ _ => ?_))
        | (with_reducible refine kF_I (by first | assumption | decide) ?_)
        | (with_reducible refine kF_L (by first | assumption | decide) ?_)
        | (with_reducible refine kF_A (by first | assumption | decide) ?_)
        | (with_reducible refine kF_B (by first | assumption | decide) ?_)
        | (with_reducible refine kF_P (by first | assumption | decide) ?_)
        | (show ¬ _; decide)
        | decide
        | (apply ih; assumption)
        | solve_by_elim (maxDepth := 4)

theorem kp_X12_sceneOf  (a1 : Int32) (st : fSt) {s0 : fSt}  (h : kF (fun c => c ≠ 12) s0 st) : kpO (fun c => c ≠ 12) s0 (f_X12_sceneOf a1 st) := by
  unfold f_X12_sceneOf
  repeat' first
      | assumption
      | (refine kp_some ?_)
      | exact kp_none
      | (with_reducible refine kp_ite ?_ ?_)
      | (with_reducible refine kp_ix ?_)
      | (with_reducible refine kp_nz ?_)
      | (with_reducible refine kp_bo ?_)
      | (with_reducible refine kp_cp ?_)
      | (with_reducible refine kp_nn (fun _ => ?_))
      | (with_reducible refine kp_nu ?_ (fun _ => ?_))
      | (with_reducible refine kp_bd ?_ (fun _ _ _ => ?_))
      | (with_reducible refine kp_lts ?_ (fun _ _ => ?_))
      | (with_reducible refine kp_ltv (fun _ => ?_))
      | (with_reducible refine kp_j0 (fun _ _ => ?_) (fun _ _ => ?_))
      | (with_reducible refine kp_j1 (fun _ _ _ => ?_) (fun _ _ => ?_))
      | (with_reducible refine kp_j2 (fun _ _ _ _ => ?_) (fun _ _ => ?_))
      | (with_reducible refine kF_I (by first | assumption | decide) ?_)
      | (with_reducible refine kF_L (by first | assumption | decide) ?_)
      | (with_reducible refine kF_A (by first | assumption | decide) ?_)
      | (with_reducible refine kF_B (by first | assumption | decide) ?_)
      | (with_reducible refine kF_P (by first | assumption | decide) ?_)
      | (with_reducible apply kp_X12_sceneOf_L4)
      | (show ¬ _; decide)
      | decide
      | solve_by_elim (maxDepth := 4)

theorem kp_X12_heard_L43  (x9 : Int32) {s0 : fSt}  : ∀ (n : Nat) (z0 : Int32) (z1 : Int32) (s : fSt), kF (fun c => c ≠ 12) s0 s → kpO (fun c => c ≠ 12) s0 (f_X12_heard_L43 x9 n z0 z1 s) := by
  intro n
  induction n with
  | zero => intro z0 z1 s _; unfold f_X12_heard_L43; exact kp_none
  | succ n ih =>
    intro z0 z1 s h
    unfold f_X12_heard_L43
    repeat' first
        | assumption
        | (refine kp_some ?_)
        | exact kp_none
        | (with_reducible refine kp_ite ?_ ?_)
        | (with_reducible refine kp_ix ?_)
        | (with_reducible refine kp_nz ?_)
        | (with_reducible refine kp_bo ?_)
        | (with_reducible refine kp_cp ?_)
        | (with_reducible refine kp_nn (fun _ => ?_))
        | (with_reducible refine kp_nu ?_ (fun _ => ?_))
        | (with_reducible refine kp_bd ?_ (fun _ _ _ => ?_))
        | (with_reducible refine kp_lts ?_ (fun _ _ => ?_))
        | (with_reducible refine kp_ltv (fun _ => ?_))
        | (with_reducible refine kp_j0 (fun _ _ => ?_) (fun _ _ => ?_))
        | (with_reducible refine kp_j1 (fun _ _ _ => ?_) (fun _ _ => ?_))
        | (with_reducible refine kp_j2 (fun _ _ _ _ => ?_) (fun _ _ => ?_))
        | (with_reducible refine kF_I (by first | assumption | decide) ?_)
        | (with_reducible refine kF_L (by first | assumption | decide) ?_)
        | (with_reducible refine kF_A (by first | assumption | decide) ?_)
        | (with_reducible refine kF_B (by first | assumption | decide) ?_)
        | (with_reducible refine kF_P (by first | assumption | decide) ?_)
        | (with_reducible apply kp_X12_has)
        | (show ¬ _; decide)
        | decide
        | (apply ih; assumption)
        | solve_by_elim (maxDepth := 4)

theorem kp_X12_heard  (a1 : Int32) (st : fSt) {s0 : fSt}  (h : kF (fun c => c ≠ 12) s0 st) : kpO (fun c => c ≠ 12) s0 (f_X12_heard a1 st) := by
  unfold f_X12_heard
  repeat' first
      | assumption
      | (refine kp_some ?_)
      | exact kp_none
      | (with_reducible refine kp_ite ?_ ?_)
      | (with_reducible refine kp_ix ?_)
      | (with_reducible refine kp_nz ?_)
      | (with_reducible refine kp_bo ?_)
      | (with_reducible refine kp_cp ?_)
      | (with_reducible refine kp_nn (fun _ => ?_))
      | (with_reducible refine kp_nu ?_ (fun _ => ?_))
      | (with_reducible refine kp_bd ?_ (fun _ _ _ => ?_))
      | (with_reducible refine kp_lts ?_ (fun _ _ => ?_))
      | (with_reducible refine kp_ltv (fun _ => ?_))
      | (with_reducible refine kp_j0 (fun _ _ => ?_) (fun _ _ => ?_))
      | (with_reducible refine kp_j1 (fun _ _ _ => ?_) (fun _ _ => ?_))
      | (with_reducible refine kp_j2 (fun _ _ _ _ => ?_) (fun _ _ => ?_))
      | (with_reducible refine kF_I (by first | assumption | decide) ?_)
      | (with_reducible refine kF_L (by first | assumption | decide) ?_)
      | (with_reducible refine kF_A (by first | assumption | decide) ?_)
      | (with_reducible refine kF_B (by first | assumption | decide) ?_)
      | (with_reducible refine kF_P (by first | assumption | decide) ?_)
      | (with_reducible apply kp_X12_allLines)
      | (with_reducible apply kp_X12_isIn)
      | (with_reducible apply kp_X12_sceneOf)
      | (with_reducible apply kp_X12_heard_L43)
      | (with_reducible apply kp_X12_refuse)
      | (show ¬ _; decide)
      | decide
      | solve_by_elim (maxDepth := 4)

theorem kp_X12_spelled  (a0 : Int32) (a1 : Int32) (a2 : Int32) (a3 : Int32) (a4 : Int32) (a5 : Int32) (st : fSt) {s0 : fSt}  (h : kF (fun c => c ≠ 12) s0 st) : kpO (fun c => c ≠ 12) s0 (f_X12_spelled a0 a1 a2 a3 a4 a5 st) := by
  unfold f_X12_spelled
  repeat' first
      | assumption
      | (refine kp_some ?_)
      | exact kp_none
      | (with_reducible refine kp_ite ?_ ?_)
      | (with_reducible refine kp_ix ?_)
      | (with_reducible refine kp_nz ?_)
      | (with_reducible refine kp_bo ?_)
      | (with_reducible refine kp_cp ?_)
      | (with_reducible refine kp_nn (fun _ => ?_))
      | (with_reducible refine kp_nu ?_ (fun _ => ?_))
      | (with_reducible refine kp_bd ?_ (fun _ _ _ => ?_))
      | (with_reducible refine kp_lts ?_ (fun _ _ => ?_))
      | (with_reducible refine kp_ltv (fun _ => ?_))
      | (with_reducible refine kp_j0 (fun _ _ => ?_) (fun _ _ => ?_))
      | (with_reducible refine kp_j1 (fun _ _ _ => ?_) (fun _ _ => ?_))
      | (with_reducible refine kp_j2 (fun _ _ _ _ => ?_) (fun _ _ => ?_))
      | (with_reducible refine kF_I (by first | assumption | decide) ?_)
      | (with_reducible refine kF_L (by first | assumption | decide) ?_)
      | (with_reducible refine kF_A (by first | assumption | decide) ?_)
      | (with_reducible refine kF_B (by first | assumption | decide) ?_)
      | (with_reducible refine kF_P (by first | assumption | decide) ?_)
      | (show ¬ _; decide)
      | decide
      | solve_by_elim (maxDepth := 4)

theorem kp_X12_isWord  (a1 : Int64) (st : fSt) {s0 : fSt}  (h : kF (fun c => c ≠ 12) s0 st) : kpO (fun c => c ≠ 12) s0 (f_X12_isWord a1 st) := by
  unfold f_X12_isWord
  repeat' first
      | assumption
      | (refine kp_some ?_)
      | exact kp_none
      | (with_reducible refine kp_ite ?_ ?_)
      | (with_reducible refine kp_ix ?_)
      | (with_reducible refine kp_nz ?_)
      | (with_reducible refine kp_bo ?_)
      | (with_reducible refine kp_cp ?_)
      | (with_reducible refine kp_nn (fun _ => ?_))
      | (with_reducible refine kp_nu ?_ (fun _ => ?_))
      | (with_reducible refine kp_bd ?_ (fun _ _ _ => ?_))
      | (with_reducible refine kp_lts ?_ (fun _ _ => ?_))
      | (with_reducible refine kp_ltv (fun _ => ?_))
      | (with_reducible refine kp_j0 (fun _ _ => ?_) (fun _ _ => ?_))
      | (with_reducible refine kp_j1 (fun _ _ _ => ?_) (fun _ _ => ?_))
      | (with_reducible refine kp_j2 (fun _ _ _ _ => ?_) (fun _ _ => ?_))
      | (with_reducible refine kF_I (by first | assumption | decide) ?_)
      | (with_reducible refine kF_L (by first | assumption | decide) ?_)
      | (with_reducible refine kF_A (by first | assumption | decide) ?_)
      | (with_reducible refine kF_B (by first | assumption | decide) ?_)
      | (with_reducible refine kF_P (by first | assumption | decide) ?_)
      | (show ¬ _; decide)
      | decide
      | solve_by_elim (maxDepth := 4)

theorem kp_X12_isActor  (st : fSt) {s0 : fSt}  (h : kF (fun c => c ≠ 12) s0 st) : kpO (fun c => c ≠ 12) s0 (f_X12_isActor st) := by
  unfold f_X12_isActor
  repeat' first
      | assumption
      | (refine kp_some ?_)
      | exact kp_none
      | (with_reducible refine kp_ite ?_ ?_)
      | (with_reducible refine kp_ix ?_)
      | (with_reducible refine kp_nz ?_)
      | (with_reducible refine kp_bo ?_)
      | (with_reducible refine kp_cp ?_)
      | (with_reducible refine kp_nn (fun _ => ?_))
      | (with_reducible refine kp_nu ?_ (fun _ => ?_))
      | (with_reducible refine kp_bd ?_ (fun _ _ _ => ?_))
      | (with_reducible refine kp_lts ?_ (fun _ _ => ?_))
      | (with_reducible refine kp_ltv (fun _ => ?_))
      | (with_reducible refine kp_j0 (fun _ _ => ?_) (fun _ _ => ?_))
      | (with_reducible refine kp_j1 (fun _ _ _ => ?_) (fun _ _ => ?_))
      | (with_reducible refine kp_j2 (fun _ _ _ _ => ?_) (fun _ _ => ?_))
      | (with_reducible refine kF_I (by first | assumption | decide) ?_)
      | (with_reducible refine kF_L (by first | assumption | decide) ?_)
      | (with_reducible refine kF_A (by first | assumption | decide) ?_)
      | (with_reducible refine kF_B (by first | assumption | decide) ?_)
      | (with_reducible refine kF_P (by first | assumption | decide) ?_)
      | (with_reducible apply kp_X12_spelled)
      | (with_reducible apply kp_X12_isWord)
      | (show ¬ _; decide)
      | decide
      | solve_by_elim (maxDepth := 4)

theorem kp_X12_isBreath  (st : fSt) {s0 : fSt}  (h : kF (fun c => c ≠ 12) s0 st) : kpO (fun c => c ≠ 12) s0 (f_X12_isBreath st) := by
  unfold f_X12_isBreath
  repeat' first
      | assumption
      | (refine kp_some ?_)
      | exact kp_none
      | (with_reducible refine kp_ite ?_ ?_)
      | (with_reducible refine kp_ix ?_)
      | (with_reducible refine kp_nz ?_)
      | (with_reducible refine kp_bo ?_)
      | (with_reducible refine kp_cp ?_)
      | (with_reducible refine kp_nn (fun _ => ?_))
      | (with_reducible refine kp_nu ?_ (fun _ => ?_))
      | (with_reducible refine kp_bd ?_ (fun _ _ _ => ?_))
      | (with_reducible refine kp_lts ?_ (fun _ _ => ?_))
      | (with_reducible refine kp_ltv (fun _ => ?_))
      | (with_reducible refine kp_j0 (fun _ _ => ?_) (fun _ _ => ?_))
      | (with_reducible refine kp_j1 (fun _ _ _ => ?_) (fun _ _ => ?_))
      | (with_reducible refine kp_j2 (fun _ _ _ _ => ?_) (fun _ _ => ?_))
      | (with_reducible refine kF_I (by first | assumption | decide) ?_)
      | (with_reducible refine kF_L (by first | assumption | decide) ?_)
      | (with_reducible refine kF_A (by first | assumption | decide) ?_)
      | (with_reducible refine kF_B (by first | assumption | decide) ?_)
      | (with_reducible refine kF_P (by first | assumption | decide) ?_)
      | (with_reducible apply kp_X12_spelled)
      | (with_reducible apply kp_X12_isWord)
      | (show ¬ _; decide)
      | decide
      | solve_by_elim (maxDepth := 4)

theorem kp_X12_isEnd  (st : fSt) {s0 : fSt}  (h : kF (fun c => c ≠ 12) s0 st) : kpO (fun c => c ≠ 12) s0 (f_X12_isEnd st) := by
  unfold f_X12_isEnd
  repeat' first
      | assumption
      | (refine kp_some ?_)
      | exact kp_none
      | (with_reducible refine kp_ite ?_ ?_)
      | (with_reducible refine kp_ix ?_)
      | (with_reducible refine kp_nz ?_)
      | (with_reducible refine kp_bo ?_)
      | (with_reducible refine kp_cp ?_)
      | (with_reducible refine kp_nn (fun _ => ?_))
      | (with_reducible refine kp_nu ?_ (fun _ => ?_))
      | (with_reducible refine kp_bd ?_ (fun _ _ _ => ?_))
      | (with_reducible refine kp_lts ?_ (fun _ _ => ?_))
      | (with_reducible refine kp_ltv (fun _ => ?_))
      | (with_reducible refine kp_j0 (fun _ _ => ?_) (fun _ _ => ?_))
      | (with_reducible refine kp_j1 (fun _ _ _ => ?_) (fun _ _ => ?_))
      | (with_reducible refine kp_j2 (fun _ _ _ _ => ?_) (fun _ _ => ?_))
      | (with_reducible refine kF_I (by first | assumption | decide) ?_)
      | (with_reducible refine kF_L (by first | assumption | decide) ?_)
      | (with_reducible refine kF_A (by first | assumption | decide) ?_)
      | (with_reducible refine kF_B (by first | assumption | decide) ?_)
      | (with_reducible refine kF_P (by first | assumption | decide) ?_)
      | (with_reducible apply kp_X12_spelled)
      | (with_reducible apply kp_X12_isWord)
      | (show ¬ _; decide)
      | decide
      | solve_by_elim (maxDepth := 4)

theorem kp_X12_isEnds  (st : fSt) {s0 : fSt}  (h : kF (fun c => c ≠ 12) s0 st) : kpO (fun c => c ≠ 12) s0 (f_X12_isEnds st) := by
  unfold f_X12_isEnds
  repeat' first
      | assumption
      | (refine kp_some ?_)
      | exact kp_none
      | (with_reducible refine kp_ite ?_ ?_)
      | (with_reducible refine kp_ix ?_)
      | (with_reducible refine kp_nz ?_)
      | (with_reducible refine kp_bo ?_)
      | (with_reducible refine kp_cp ?_)
      | (with_reducible refine kp_nn (fun _ => ?_))
      | (with_reducible refine kp_nu ?_ (fun _ => ?_))
      | (with_reducible refine kp_bd ?_ (fun _ _ _ => ?_))
      | (with_reducible refine kp_lts ?_ (fun _ _ => ?_))
      | (with_reducible refine kp_ltv (fun _ => ?_))
      | (with_reducible refine kp_j0 (fun _ _ => ?_) (fun _ _ => ?_))
      | (with_reducible refine kp_j1 (fun _ _ _ => ?_) (fun _ _ => ?_))
      | (with_reducible refine kp_j2 (fun _ _ _ _ => ?_) (fun _ _ => ?_))
      | (with_reducible refine kF_I (by first | assumption | decide) ?_)
      | (with_reducible refine kF_L (by first | assumption | decide) ?_)
      | (with_reducible refine kF_A (by first | assumption | decide) ?_)
      | (with_reducible refine kF_B (by first | assumption | decide) ?_)
      | (with_reducible refine kF_P (by first | assumption | decide) ?_)
      | (with_reducible apply kp_X12_spelled)
      | (with_reducible apply kp_X12_isWord)
      | (show ¬ _; decide)
      | decide
      | solve_by_elim (maxDepth := 4)

theorem kp_X12_isRole  (st : fSt) {s0 : fSt}  (h : kF (fun c => c ≠ 12) s0 st) : kpO (fun c => c ≠ 12) s0 (f_X12_isRole st) := by
  unfold f_X12_isRole
  repeat' first
      | assumption
      | (refine kp_some ?_)
      | exact kp_none
      | (with_reducible refine kp_ite ?_ ?_)
      | (with_reducible refine kp_ix ?_)
      | (with_reducible refine kp_nz ?_)
      | (with_reducible refine kp_bo ?_)
      | (with_reducible refine kp_cp ?_)
      | (with_reducible refine kp_nn (fun _ => ?_))
      | (with_reducible refine kp_nu ?_ (fun _ => ?_))
      | (with_reducible refine kp_bd ?_ (fun _ _ _ => ?_))
      | (with_reducible refine kp_lts ?_ (fun _ _ => ?_))
      | (with_reducible refine kp_ltv (fun _ => ?_))
      | (with_reducible refine kp_j0 (fun _ _ => ?_) (fun _ _ => ?_))
      | (with_reducible refine kp_j1 (fun _ _ _ => ?_) (fun _ _ => ?_))
      | (with_reducible refine kp_j2 (fun _ _ _ _ => ?_) (fun _ _ => ?_))
      | (with_reducible refine kF_I (by first | assumption | decide) ?_)
      | (with_reducible refine kF_L (by first | assumption | decide) ?_)
      | (with_reducible refine kF_A (by first | assumption | decide) ?_)
      | (with_reducible refine kF_B (by first | assumption | decide) ?_)
      | (with_reducible refine kF_P (by first | assumption | decide) ?_)
      | (with_reducible apply kp_X12_spelled)
      | (with_reducible apply kp_X12_isWord)
      | (show ¬ _; decide)
      | decide
      | solve_by_elim (maxDepth := 4)

theorem kp_X12_isPay  (st : fSt) {s0 : fSt}  (h : kF (fun c => c ≠ 12) s0 st) : kpO (fun c => c ≠ 12) s0 (f_X12_isPay st) := by
  unfold f_X12_isPay
  repeat' first
      | assumption
      | (refine kp_some ?_)
      | exact kp_none
      | (with_reducible refine kp_ite ?_ ?_)
      | (with_reducible refine kp_ix ?_)
      | (with_reducible refine kp_nz ?_)
      | (with_reducible refine kp_bo ?_)
      | (with_reducible refine kp_cp ?_)
      | (with_reducible refine kp_nn (fun _ => ?_))
      | (with_reducible refine kp_nu ?_ (fun _ => ?_))
      | (with_reducible refine kp_bd ?_ (fun _ _ _ => ?_))
      | (with_reducible refine kp_lts ?_ (fun _ _ => ?_))
      | (with_reducible refine kp_ltv (fun _ => ?_))
      | (with_reducible refine kp_j0 (fun _ _ => ?_) (fun _ _ => ?_))
      | (with_reducible refine kp_j1 (fun _ _ _ => ?_) (fun _ _ => ?_))
      | (with_reducible refine kp_j2 (fun _ _ _ _ => ?_) (fun _ _ => ?_))
      | (with_reducible refine kF_I (by first | assumption | decide) ?_)
      | (with_reducible refine kF_L (by first | assumption | decide) ?_)
      | (with_reducible refine kF_A (by first | assumption | decide) ?_)
      | (with_reducible refine kF_B (by first | assumption | decide) ?_)
      | (with_reducible refine kF_P (by first | assumption | decide) ?_)
      | (with_reducible apply kp_X12_spelled)
      | (with_reducible apply kp_X12_isWord)
      | (show ¬ _; decide)
      | decide
      | solve_by_elim (maxDepth := 4)

theorem kp_X12_isNot  (st : fSt) {s0 : fSt}  (h : kF (fun c => c ≠ 12) s0 st) : kpO (fun c => c ≠ 12) s0 (f_X12_isNot st) := by
  unfold f_X12_isNot
  repeat' first
      | assumption
      | (refine kp_some ?_)
      | exact kp_none
      | (with_reducible refine kp_ite ?_ ?_)
      | (with_reducible refine kp_ix ?_)
      | (with_reducible refine kp_nz ?_)
      | (with_reducible refine kp_bo ?_)
      | (with_reducible refine kp_cp ?_)
      | (with_reducible refine kp_nn (fun _ => ?_))
      | (with_reducible refine kp_nu ?_ (fun _ => ?_))
      | (with_reducible refine kp_bd ?_ (fun _ _ _ => ?_))
      | (with_reducible refine kp_lts ?_ (fun _ _ => ?_))
      | (with_reducible refine kp_ltv (fun _ => ?_))
      | (with_reducible refine kp_j0 (fun _ _ => ?_) (fun _ _ => ?_))
      | (with_reducible refine kp_j1 (fun _ _ _ => ?_) (fun _ _ => ?_))
      | (with_reducible refine kp_j2 (fun _ _ _ _ => ?_) (fun _ _ => ?_))
      | (with_reducible refine kF_I (by first | assumption | decide) ?_)
      | (with_reducible refine kF_L (by first | assumption | decide) ?_)
      | (with_reducible refine kF_A (by first | assumption | decide) ?_)
      | (with_reducible refine kF_B (by first | assumption | decide) ?_)
      | (with_reducible refine kF_P (by first | assumption | decide) ?_)
      | (with_reducible apply kp_X12_spelled)
      | (with_reducible apply kp_X12_isWord)
      | (show ¬ _; decide)
      | decide
      | solve_by_elim (maxDepth := 4)

theorem kp_X12_isScene  (st : fSt) {s0 : fSt}  (h : kF (fun c => c ≠ 12) s0 st) : kpO (fun c => c ≠ 12) s0 (f_X12_isScene st) := by
  unfold f_X12_isScene
  repeat' first
      | assumption
      | (refine kp_some ?_)
      | exact kp_none
      | (with_reducible refine kp_ite ?_ ?_)
      | (with_reducible refine kp_ix ?_)
      | (with_reducible refine kp_nz ?_)
      | (with_reducible refine kp_bo ?_)
      | (with_reducible refine kp_cp ?_)
      | (with_reducible refine kp_nn (fun _ => ?_))
      | (with_reducible refine kp_nu ?_ (fun _ => ?_))
      | (with_reducible refine kp_bd ?_ (fun _ _ _ => ?_))
      | (with_reducible refine kp_lts ?_ (fun _ _ => ?_))
      | (with_reducible refine kp_ltv (fun _ => ?_))
      | (with_reducible refine kp_j0 (fun _ _ => ?_) (fun _ _ => ?_))
      | (with_reducible refine kp_j1 (fun _ _ _ => ?_) (fun _ _ => ?_))
      | (with_reducible refine kp_j2 (fun _ _ _ _ => ?_) (fun _ _ => ?_))
      | (with_reducible refine kF_I (by first | assumption | decide) ?_)
      | (with_reducible refine kF_L (by first | assumption | decide) ?_)
      | (with_reducible refine kF_A (by first | assumption | decide) ?_)
      | (with_reducible refine kF_B (by first | assumption | decide) ?_)
      | (with_reducible refine kF_P (by first | assumption | decide) ?_)
      | (with_reducible apply kp_X12_spelled)
      | (with_reducible apply kp_X12_isWord)
      | (show ¬ _; decide)
      | decide
      | solve_by_elim (maxDepth := 4)

theorem kp_X12_isLines  (st : fSt) {s0 : fSt}  (h : kF (fun c => c ≠ 12) s0 st) : kpO (fun c => c ≠ 12) s0 (f_X12_isLines st) := by
  unfold f_X12_isLines
  repeat' first
      | assumption
      | (refine kp_some ?_)
      | exact kp_none
      | (with_reducible refine kp_ite ?_ ?_)
      | (with_reducible refine kp_ix ?_)
      | (with_reducible refine kp_nz ?_)
      | (with_reducible refine kp_bo ?_)
      | (with_reducible refine kp_cp ?_)
      | (with_reducible refine kp_nn (fun _ => ?_))
      | (with_reducible refine kp_nu ?_ (fun _ => ?_))
      | (with_reducible refine kp_bd ?_ (fun _ _ _ => ?_))
      | (with_reducible refine kp_lts ?_ (fun _ _ => ?_))
      | (with_reducible refine kp_ltv (fun _ => ?_))
      | (with_reducible refine kp_j0 (fun _ _ => ?_) (fun _ _ => ?_))
      | (with_reducible refine kp_j1 (fun _ _ _ => ?_) (fun _ _ => ?_))
      | (with_reducible refine kp_j2 (fun _ _ _ _ => ?_) (fun _ _ => ?_))
      | (with_reducible refine kF_I (by first | assumption | decide) ?_)
      | (with_reducible refine kF_L (by first | assumption | decide) ?_)
      | (with_reducible refine kF_A (by first | assumption | decide) ?_)
      | (with_reducible refine kF_B (by first | assumption | decide) ?_)
      | (with_reducible refine kF_P (by first | assumption | decide) ?_)
      | (with_reducible apply kp_X12_spelled)
      | (with_reducible apply kp_X12_isWord)
      | (show ¬ _; decide)
      | decide
      | solve_by_elim (maxDepth := 4)

theorem kp_X12_isWith  (st : fSt) {s0 : fSt}  (h : kF (fun c => c ≠ 12) s0 st) : kpO (fun c => c ≠ 12) s0 (f_X12_isWith st) := by
  unfold f_X12_isWith
  repeat' first
      | assumption
      | (refine kp_some ?_)
      | exact kp_none
      | (with_reducible refine kp_ite ?_ ?_)
      | (with_reducible refine kp_ix ?_)
      | (with_reducible refine kp_nz ?_)
      | (with_reducible refine kp_bo ?_)
      | (with_reducible refine kp_cp ?_)
      | (with_reducible refine kp_nn (fun _ => ?_))
      | (with_reducible refine kp_nu ?_ (fun _ => ?_))
      | (with_reducible refine kp_bd ?_ (fun _ _ _ => ?_))
      | (with_reducible refine kp_lts ?_ (fun _ _ => ?_))
      | (with_reducible refine kp_ltv (fun _ => ?_))
      | (with_reducible refine kp_j0 (fun _ _ => ?_) (fun _ _ => ?_))
      | (with_reducible refine kp_j1 (fun _ _ _ => ?_) (fun _ _ => ?_))
      | (with_reducible refine kp_j2 (fun _ _ _ _ => ?_) (fun _ _ => ?_))
      | (with_reducible refine kF_I (by first | assumption | decide) ?_)
      | (with_reducible refine kF_L (by first | assumption | decide) ?_)
      | (with_reducible refine kF_A (by first | assumption | decide) ?_)
      | (with_reducible refine kF_B (by first | assumption | decide) ?_)
      | (with_reducible refine kF_P (by first | assumption | decide) ?_)
      | (with_reducible apply kp_X12_spelled)
      | (with_reducible apply kp_X12_isWord)
      | (show ¬ _; decide)
      | decide
      | solve_by_elim (maxDepth := 4)

theorem kp_X12_isThen  (st : fSt) {s0 : fSt}  (h : kF (fun c => c ≠ 12) s0 st) : kpO (fun c => c ≠ 12) s0 (f_X12_isThen st) := by
  unfold f_X12_isThen
  repeat' first
      | assumption
      | (refine kp_some ?_)
      | exact kp_none
      | (with_reducible refine kp_ite ?_ ?_)
      | (with_reducible refine kp_ix ?_)
      | (with_reducible refine kp_nz ?_)
      | (with_reducible refine kp_bo ?_)
      | (with_reducible refine kp_cp ?_)
      | (with_reducible refine kp_nn (fun _ => ?_))
      | (with_reducible refine kp_nu ?_ (fun _ => ?_))
      | (with_reducible refine kp_bd ?_ (fun _ _ _ => ?_))
      | (with_reducible refine kp_lts ?_ (fun _ _ => ?_))
      | (with_reducible refine kp_ltv (fun _ => ?_))
      | (with_reducible refine kp_j0 (fun _ _ => ?_) (fun _ _ => ?_))
      | (with_reducible refine kp_j1 (fun _ _ _ => ?_) (fun _ _ => ?_))
      | (with_reducible refine kp_j2 (fun _ _ _ _ => ?_) (fun _ _ => ?_))
      | (with_reducible refine kF_I (by first | assumption | decide) ?_)
      | (with_reducible refine kF_L (by first | assumption | decide) ?_)
      | (with_reducible refine kF_A (by first | assumption | decide) ?_)
      | (with_reducible refine kF_B (by first | assumption | decide) ?_)
      | (with_reducible refine kF_P (by first | assumption | decide) ?_)
      | (with_reducible apply kp_X12_spelled)
      | (with_reducible apply kp_X12_isWord)
      | (show ¬ _; decide)
      | decide
      | solve_by_elim (maxDepth := 4)

