/-! frames of the functions, 2 -/
theorem kp_X4_gather_L24  (i1 : Nat) (a2 : Int32) (a3 : Int32) {s0 : fSt}  : ∀ (n : Nat) (z0 : Int32) (s : fSt), kF (fun c => c = 12) s0 s → kpO (fun c => c = 12) s0 (f_X4_gather_L24 i1 a2 a3 n z0 s) := by
  intro n
  induction n with
  | zero => intro z0 s _; unfold f_X4_gather_L24; exact kp_none
  | succ n ih =>
    intro z0 s h
    unfold f_X4_gather_L24
    repeat' first
        | assumption
        | (refine kp_some ?_)
        | exact kp_none
        | (with_reducible refine kp_ite ?_ ?_)
        | (with_reducible refine kp_ix ?_)
        | (with_reducible refine kp_nz ?_)
        | (with_reducible refine kp_bo ?_)
        | (with_reducible refine kp_cp ?_)
        | (with_reducible refine kp_nn (fun _ => ?_))
        | (with_reducible refine kp_nu ?_ (fun _ => ?_))
        | (with_reducible refine kp_bd ?_ (fun _ _ _ => ?_))
        | (with_reducible refine kp_lts ?_ (fun _ _ => ?_))
        | (with_reducible refine kp_ltv (fun _ => ?_))
        | (with_reducible refine kp_j0 (fun _ _ => ?_) (fun _ _ => ?_))
        | (with_reducible refine kp_j1 (fun _ _ _ => ?_) (fun _ _ => ?_))
        | (with_reducible refine kp_j2 (fun _ _ _ _ => ?_) (fun _ _ => ?_))
        | (with_reducible refine kF_I (by first | assumption | decide) ?_)
        | (with_reducible refine kF_L (by first | assumption | decide) ?_)
        | (with_reducible refine kF_A (by first | assumption | decide) ?_)
        | (with_reducible refine kF_B (by first | assumption | decide) ?_)
        | (with_reducible refine kF_P (by first | assumption | decide) ?_)
        | (with_reducible apply kp_X4_spread)
        | (show ¬ _; decide)
        | decide
        | (apply ih; assumption)
        | solve_by_elim (maxDepth := 4)

theorem kp_X4_gather  (i1 : Nat) (a2 : Int32) (a3 : Int32) (st : fSt) {s0 : fSt}  (h : kF (fun c => c = 12) s0 st) : kpO (fun c => c = 12) s0 (f_X4_gather i1 a2 a3 st) := by
  unfold f_X4_gather
  repeat' first
      | assumption
      | (refine kp_some ?_)
      | exact kp_none
      | (with_reducible refine kp_ite ?_ ?_)
      | (with_reducible refine kp_ix ?_)
      | (with_reducible refine kp_nz ?_)
      | (with_reducible refine kp_bo ?_)
      | (with_reducible refine kp_cp ?_)
      | (with_reducible refine kp_nn (fun _ => ?_))
      | (with_reducible refine kp_nu ?_ (fun _ => ?_))
      | (with_reducible refine kp_bd ?_ (fun _ _ _ => ?_))
      | (with_reducible refine kp_lts ?_ (fun _ _ => ?_))
      | (with_reducible refine kp_ltv (fun _ => ?_))
      | (with_reducible refine kp_j0 (fun _ _ => ?_) (fun _ _ => ?_))
      | (with_reducible refine kp_j1 (fun _ _ _ => ?_) (fun _ _ => ?_))
      | (with_reducible refine kp_j2 (fun _ _ _ _ => ?_) (fun _ _ => ?_))
      | (with_reducible refine kF_I (by first | assumption | decide) ?_)
      | (with_reducible refine kF_L (by first | assumption | decide) ?_)
      | (with_reducible refine kF_A (by first | assumption | decide) ?_)
      | (with_reducible refine kF_B (by first | assumption | decide) ?_)
      | (with_reducible refine kF_P (by first | assumption | decide) ?_)
      | (with_reducible apply kp_J7_fill_d0a16)
      | (with_reducible apply kp_X4_gather_L24)
      | (show ¬ _; decide)
      | decide
      | solve_by_elim (maxDepth := 4)

theorem kp_X4_breathsInAll_L5  (i1 : Nat) {s0 : fSt}  : ∀ (n : Nat) (z0 : Int64) (z1 : Int32) (s : fSt), kF (fun c => c = 12) s0 s → kpO (fun c => c = 12) s0 (f_X4_breathsInAll_L5 i1 n z0 z1 s) := by
  intro n
  induction n with
  | zero => intro z0 z1 s _; unfold f_X4_breathsInAll_L5; exact kp_none
  | succ n ih =>
    intro z0 z1 s h
    unfold f_X4_breathsInAll_L5
    repeat' first
        | assumption
        | (refine kp_some ?_)
        | exact kp_none
        | (with_reducible refine kp_ite ?_ ?_)
        | (with_reducible refine kp_ix ?_)
        | (with_reducible refine kp_nz ?_)
        | (with_reducible refine kp_bo ?_)
        | (with_reducible refine kp_cp ?_)
        | (with_reducible refine kp_nn (fun _ => ?_))
        | (with_reducible refine kp_nu ?_ (fun _ => ?_))
        | (with_reducible refine kp_bd ?_ (fun _ _ _ => ?_))
        | (with_reducible refine kp_lts ?_ (fun _ _ => ?_))
        | (with_reducible refine kp_ltv (fun _ => ?_))
        | (with_reducible refine kp_j0 (fun _ _ => ?_) (fun _ _ => ?_))
        | (with_reducible refine kp_j1 (fun _ _ _ => ?_) (fun _ _ => ?_))
        | (with_reducible refine kp_j2 (fun _ _ _ _ => ?_) (fun _ _ => ?_))
        | (with_reducible refine kF_I (by first | assumption | decide) ?_)
        | (with_reducible refine kF_L (by first | assumption | decide) ?_)
        | (with_reducible refine kF_A (by first | assumption | decide) ?_)
        | (with_reducible refine kF_B (by first | assumption | decide) ?_)
        | (with_reducible refine kF_P (by first | assumption | decide) ?_)
        | (with_reducible apply kp_X7_breathsOfScene)
        | (show ¬ _; decide)
        | decide
        | (apply ih; assumption)
        | solve_by_elim (maxDepth := 4)

theorem kp_X4_breathsInAll  (i1 : Nat) (st : fSt) {s0 : fSt}  (h : kF (fun c => c = 12) s0 st) : kpO (fun c => c = 12) s0 (f_X4_breathsInAll i1 st) := by
  unfold f_X4_breathsInAll
  repeat' first
      | assumption
      | (refine kp_some ?_)
      | exact kp_none
      | (with_reducible refine kp_ite ?_ ?_)
      | (with_reducible refine kp_ix ?_)
      | (with_reducible refine kp_nz ?_)
      | (with_reducible refine kp_bo ?_)
      | (with_reducible refine kp_cp ?_)
      | (with_reducible refine kp_nn (fun _ => ?_))
      | (with_reducible refine kp_nu ?_ (fun _ => ?_))
      | (with_reducible refine kp_bd ?_ (fun _ _ _ => ?_))
      | (with_reducible refine kp_lts ?_ (fun _ _ => ?_))
      | (with_reducible refine kp_ltv (fun _ => ?_))
      | (with_reducible refine kp_j0 (fun _ _ => ?_) (fun _ _ => ?_))
      | (with_reducible refine kp_j1 (fun _ _ _ => ?_) (fun _ _ => ?_))
      | (with_reducible refine kp_j2 (fun _ _ _ _ => ?_) (fun _ _ => ?_))
      | (with_reducible refine kF_I (by first | assumption | decide) ?_)
      | (with_reducible refine kF_L (by first | assumption | decide) ?_)
      | (with_reducible refine kF_A (by first | assumption | decide) ?_)
      | (with_reducible refine kF_B (by first | assumption | decide) ?_)
      | (with_reducible refine kF_P (by first | assumption | decide) ?_)
      | (with_reducible apply kp_X4_breathsInAll_L5)
      | (show ¬ _; decide)
      | decide
      | solve_by_elim (maxDepth := 4)

theorem kp_X5_withLetter  (a0 : Int64) (a2 : Int32) (st : fSt) {s0 : fSt}  (h : kF (fun c => c = 12) s0 st) : kpO (fun c => c = 12) s0 (f_X5_withLetter a0 a2 st) := by
  unfold f_X5_withLetter
  repeat' first
      | assumption
      | (refine kp_some ?_)
      | exact kp_none
      | (with_reducible refine kp_ite ?_ ?_)
      | (with_reducible refine kp_ix ?_)
      | (with_reducible refine kp_nz ?_)
      | (with_reducible refine kp_bo ?_)
      | (with_reducible refine kp_cp ?_)
      | (with_reducible refine kp_nn (fun _ => ?_))
      | (with_reducible refine kp_nu ?_ (fun _ => ?_))
      | (with_reducible refine kp_bd ?_ (fun _ _ _ => ?_))
      | (with_reducible refine kp_lts ?_ (fun _ _ => ?_))
      | (with_reducible refine kp_ltv (fun _ => ?_))
      | (with_reducible refine kp_j0 (fun _ _ => ?_) (fun _ _ => ?_))
      | (with_reducible refine kp_j1 (fun _ _ _ => ?_) (fun _ _ => ?_))
      | (with_reducible refine kp_j2 (fun _ _ _ _ => ?_) (fun _ _ => ?_))
      | (with_reducible refine kF_I (by first | assumption | decide) ?_)
      | (with_reducible refine kF_L (by first | assumption | decide) ?_)
      | (with_reducible refine kF_A (by first | assumption | decide) ?_)
      | (with_reducible refine kF_B (by first | assumption | decide) ?_)
      | (with_reducible refine kF_P (by first | assumption | decide) ?_)
      | (show ¬ _; decide)
      | decide
      | solve_by_elim (maxDepth := 4)

theorem kp_X5_putFour_L3  (a1 : Int32) (k3 : fSt → Option (Unit × fSt)) {s0 : fSt} (hk3 : ∀ (s : fSt), kF (fun c => c = 12) s0 s → kpO (fun c => c = 12) s0 (k3 s)) : ∀ (n : Nat) (z0 : Int32) (s : fSt), kF (fun c => c = 12) s0 s → kpO (fun c => c = 12) s0 (f_X5_putFour_L3 a1 k3 n z0 s) := by
  intro n
  induction n with
  | zero => intro z0 s _; unfold f_X5_putFour_L3; exact kp_none
  | succ n ih =>
    intro z0 s h
    unfold f_X5_putFour_L3
    repeat' first
        | assumption
        | (refine kp_some ?_)
        | exact kp_none
        | (with_reducible refine kp_ite ?_ ?_)
        | (with_reducible refine kp_ix ?_)
        | (with_reducible refine kp_nz ?_)
        | (with_reducible refine kp_bo ?_)
        | (with_reducible refine kp_cp ?_)
        | (with_reducible refine kp_nn (fun _ => ?_))
        | (with_reducible refine kp_nu ?_ (fun _ => ?_))
        | (with_reducible refine kp_bd ?_ (fun _ _ _ => ?_))
        | (with_reducible refine kp_lts ?_ (fun _ _ => ?_))
        | (with_reducible refine kp_ltv (fun _ => ?_))
        | (with_reducible refine kp_j0 (fun _ _ => ?_) (fun _ _ => ?_))
        | (with_reducible refine kp_j1 (fun _ _ _ => ?_) (fun _ _ => ?_))
        | (with_reducible refine kp_j2 (fun _ _ _ _ => ?_) (fun _ _ => ?_))
        | (with_reducible refine kF_I (by first | assumption | decide) ?_)
        | (with_reducible refine kF_L (by first | assumption | decide) ?_)
        | (with_reducible refine kF_A (by first | assumption | decide) ?_)
        | (with_reducible refine kF_B (by first | assumption | decide) ?_)
        | (with_reducible refine kF_P (by first | assumption | decide) ?_)
        | (show ¬ _; decide)
        | decide
        | (apply ih; assumption)
        | solve_by_elim (maxDepth := 4)

theorem kp_X5_putFour  (a1 : Int32) (st : fSt) {s0 : fSt}  (h : kF (fun c => c = 12) s0 st) : kpO (fun c => c = 12) s0 (f_X5_putFour a1 st) := by
  unfold f_X5_putFour
  repeat' first
      | assumption
      | (refine kp_some ?_)
      | exact kp_none
      | (with_reducible refine kp_ite ?_ ?_)
      | (with_reducible refine kp_ix ?_)
      | (with_reducible refine kp_nz ?_)
      | (with_reducible refine kp_bo ?_)
      | (with_reducible refine kp_cp ?_)
      | (with_reducible refine kp_nn (fun _ => ?_))
      | (with_reducible refine kp_nu ?_ (fun _ => ?_))
      | (with_reducible refine kp_bd ?_ (fun _ _ _ => ?_))
      | (with_reducible refine kp_lts ?_ (fun _ _ => ?_))
      | (with_reducible refine kp_ltv (fun _ => ?_))
      | (with_reducible refine kp_j0 (fun _ _ => ?_) (fun _ _ => ?_))
      | (with_reducible refine kp_j1 (fun _ _ _ => ?_) (fun _ _ => ?_))
      | (with_reducible refine kp_j2 (fun _ _ _ _ => ?_) (fun _ _ => ?_))
      | (with_reducible refine kF_I (by first | assumption | decide) ?_)
      | (with_reducible refine kF_L (by first | assumption | decide) ?_)
      | (with_reducible refine kF_A (by first | assumption | decide) ?_)
      | (with_reducible refine kF_B (by first | assumption | decide) ?_)
      | (with_reducible refine kF_P (by first | assumption | decide) ?_)
      | (with_reducible apply kp_X5_putFour_L3)
      | (show ¬ _; decide)
      | decide
      | solve_by_elim (maxDepth := 4)

theorem kp_X5_isLetter  (a0 : Int32) (st : fSt) {s0 : fSt}  (h : kF (fun c => c = 12) s0 st) : kpO (fun c => c = 12) s0 (f_X5_isLetter a0 st) := by
  unfold f_X5_isLetter
  repeat' first
      | assumption
      | (refine kp_some ?_)
      | exact kp_none
      | (with_reducible refine kp_ite ?_ ?_)
      | (with_reducible refine kp_ix ?_)
      | (with_reducible refine kp_nz ?_)
      | (with_reducible refine kp_bo ?_)
      | (with_reducible refine kp_cp ?_)
      | (with_reducible refine kp_nn (fun _ => ?_))
      | (with_reducible refine kp_nu ?_ (fun _ => ?_))
      | (with_reducible refine kp_bd ?_ (fun _ _ _ => ?_))
      | (with_reducible refine kp_lts ?_ (fun _ _ => ?_))
      | (with_reducible refine kp_ltv (fun _ => ?_))
      | (with_reducible refine kp_j0 (fun _ _ => ?_) (fun _ _ => ?_))
      | (with_reducible refine kp_j1 (fun _ _ _ => ?_) (fun _ _ => ?_))
      | (with_reducible refine kp_j2 (fun _ _ _ _ => ?_) (fun _ _ => ?_))
      | (with_reducible refine kF_I (by first | assumption | decide) ?_)
      | (with_reducible refine kF_L (by first | assumption | decide) ?_)
      | (with_reducible refine kF_A (by first | assumption | decide) ?_)
      | (with_reducible refine kF_B (by first | assumption | decide) ?_)
      | (with_reducible refine kF_P (by first | assumption | decide) ?_)
      | (show ¬ _; decide)
      | decide
      | solve_by_elim (maxDepth := 4)

theorem kp_X5_sortOfWord_L2  (a1 : Int64) {s0 : fSt}  : ∀ (n : Nat) (z0 : Int32) (s : fSt), kF (fun c => c = 12) s0 s → kpO (fun c => c = 12) s0 (f_X5_sortOfWord_L2 a1 n z0 s) := by
  intro n
  induction n with
  | zero => intro z0 s _; unfold f_X5_sortOfWord_L2; exact kp_none
  | succ n ih =>
    intro z0 s h
    unfold f_X5_sortOfWord_L2
    repeat' first
        | assumption
        | (refine kp_some ?_)
        | exact kp_none
        | (with_reducible refine kp_ite ?_ ?_)
        | (with_reducible refine kp_ix ?_)
        | (with_reducible refine kp_nz ?_)
        | (with_reducible refine kp_bo ?_)
        | (with_reducible refine kp_cp ?_)
        | (with_reducible refine kp_nn (fun _ => ?_))
        | (with_reducible refine kp_nu ?_ (fun _ => ?_))
        | (with_reducible refine kp_bd ?_ (fun _ _ _ => ?_))
        | (with_reducible refine kp_lts ?_ (fun _ _ => ?_))
        | (with_reducible refine kp_ltv (fun _ => ?_))
        | (with_reducible refine kp_j0 (fun _ _ => ?_) (fun _ _ => ?_))
        | (with_reducible refine kp_j1 (fun _ _ _ => ?_) (fun _ _ => ?_))
        | (with_reducible refine kp_j2 (fun _ _ _ _ => ?_) (fun _ _ => ?_))
        | (with_reducible refine kF_I (by first | assumption | decide) ?_)
        | (with_reducible refine kF_L (by first | assumption | decide) ?_)
        | (with_reducible refine kF_A (by first | assumption | decide) ?_)
        | (with_reducible refine kF_B (by first | assumption | decide) ?_)
        | (with_reducible refine kF_P (by first | assumption | decide) ?_)
        | (show ¬ _; decide)
        | decide
        | (apply ih; assumption)
        | solve_by_elim (maxDepth := 4)

theorem kp_X5_sortOfWord  (a1 : Int64) (st : fSt) {s0 : fSt}  (h : kF (fun c => c = 12) s0 st) : kpO (fun c => c = 12) s0 (f_X5_sortOfWord a1 st) := by
  unfold f_X5_sortOfWord
  repeat' first
      | assumption
      | (refine kp_some ?_)
      | exact kp_none
      | (with_reducible refine kp_ite ?_ ?_)
      | (with_reducible refine kp_ix ?_)
      | (with_reducible refine kp_nz ?_)
      | (with_reducible refine kp_bo ?_)
      | (with_reducible refine kp_cp ?_)
      | (with_reducible refine kp_nn (fun _ => ?_))
      | (with_reducible refine kp_nu ?_ (fun _ => ?_))
      | (with_reducible refine kp_bd ?_ (fun _ _ _ => ?_))
      | (with_reducible refine kp_lts ?_ (fun _ _ => ?_))
      | (with_reducible refine kp_ltv (fun _ => ?_))
      | (with_reducible refine kp_j0 (fun _ _ => ?_) (fun _ _ => ?_))
      | (with_reducible refine kp_j1 (fun _ _ _ => ?_) (fun _ _ => ?_))
      | (with_reducible refine kp_j2 (fun _ _ _ _ => ?_) (fun _ _ => ?_))
      | (with_reducible refine kF_I (by first | assumption | decide) ?_)
      | (with_reducible refine kF_L (by first | assumption | decide) ?_)
      | (with_reducible refine kF_A (by first | assumption | decide) ?_)
      | (with_reducible refine kF_B (by first | assumption | decide) ?_)
      | (with_reducible refine kF_P (by first | assumption | decide) ?_)
      | (with_reducible apply kp_X5_sortOfWord_L2)
      | (show ¬ _; decide)
      | decide
      | solve_by_elim (maxDepth := 4)

theorem kp_X5_scanWord_L2  (k4 : Int64 → fSt → Option (Unit × fSt)) {s0 : fSt} (hk4 : ∀ (z0 : Int64) (s : fSt), kF (fun c => c = 12) s0 s → kpO (fun c => c = 12) s0 (k4 z0 s)) : ∀ (n : Nat) (z0 : Int64) (s : fSt), kF (fun c => c = 12) s0 s → kpO (fun c => c = 12) s0 (f_X5_scanWord_L2 k4 n z0 s) := by
  intro n
  induction n with
  | zero => intro z0 s _; unfold f_X5_scanWord_L2; exact kp_none
  | succ n ih =>
    intro z0 s h
    unfold f_X5_scanWord_L2
    repeat' first
        | assumption
        | (refine kp_some ?_)
        | exact kp_none
        | (with_reducible refine kp_ite ?_ ?_)
        | (with_reducible refine kp_ix ?_)
        | (with_reducible refine kp_nz ?_)
        | (with_reducible refine kp_bo ?_)
        | (with_reducible refine kp_cp ?_)
        | (with_reducible refine kp_nn (fun _ => ?_))
        | (with_reducible refine kp_nu ?_ (fun _ => ?_))
        | (with_reducible refine kp_bd ?_ (fun _ _ _ => ?_))
        | (with_reducible refine kp_lts ?_ (fun _ _ => ?_))
        | (with_reducible refine kp_ltv (fun _ => ?_))
        | (with_reducible refine kp_j0 (fun _ _ => ?_) (fun _ _ => ?_))
        | (with_reducible refine kp_j1 (fun _ _ _ => ?_) (fun _ _ => ?_))
        | (with_reducible refine kp_j2 (fun _ _ _ _ => ?_) (fun _ _ => ?_))
        | (with_reducible refine kF_I (by first | assumption | decide) ?_)
        | (with_reducible refine kF_L (by first | assumption | decide) ?_)
        | (with_reducible refine kF_A (by first | assumption | decide) ?_)
        | (with_reducible refine kF_B (by first | assumption | decide) ?_)
        | (with_reducible refine kF_P (by first | assumption | decide) ?_)
        | (with_reducible apply kp_X5_isLetter)
        | (with_reducible apply kp_X5_withLetter)
        | (show ¬ _; decide)
        | decide
        | (apply ih; assumption)
        | solve_by_elim (maxDepth := 4)

theorem kp_X5_scanWord  (st : fSt) {s0 : fSt}  (h : kF (fun c => c = 12) s0 st) : kpO (fun c => c = 12) s0 (f_X5_scanWord st) := by
  unfold f_X5_scanWord
  repeat' first
      | assumption
      | (refine kp_some ?_)
      | exact kp_none
      | (with_reducible refine kp_ite ?_ ?_)
      | (with_reducible refine kp_ix ?_)
      | (with_reducible refine kp_nz ?_)
      | (with_reducible refine kp_bo ?_)
      | (with_reducible refine kp_cp ?_)
      | (with_reducible refine kp_nn (fun _ => ?_))
      | (with_reducible refine kp_nu ?_ (fun _ => ?_))
      | (with_reducible refine kp_bd ?_ (fun _ _ _ => ?_))
      | (with_reducible refine kp_lts ?_ (fun _ _ => ?_))
      | (with_reducible refine kp_ltv (fun _ => ?_))
      | (with_reducible refine kp_j0 (fun _ _ => ?_) (fun _ _ => ?_))
      | (with_reducible refine kp_j1 (fun _ _ _ => ?_) (fun _ _ => ?_))
      | (with_reducible refine kp_j2 (fun _ _ _ _ => ?_) (fun _ _ => ?_))
      | (with_reducible refine kF_I (by first | assumption | decide) ?_)
      | (with_reducible refine kF_L (by first | assumption | decide) ?_)
      | (with_reducible refine kF_A (by first | assumption | decide) ?_)
      | (with_reducible refine kF_B (by first | assumption | decide) ?_)
      | (with_reducible refine kF_P (by first | assumption | decide) ?_)
      | (with_reducible apply kp_X5_sortOfWord)
      | (with_reducible apply kp_X5_scanWord_L2)
      | (show ¬ _; decide)
      | decide
      | solve_by_elim (maxDepth := 4)

theorem kp_X5_isDigit  (a0 : Int32) (st : fSt) {s0 : fSt}  (h : kF (fun c => c = 12) s0 st) : kpO (fun c => c = 12) s0 (f_X5_isDigit a0 st) := by
  unfold f_X5_isDigit
  repeat' first
      | assumption
      | (refine kp_some ?_)
      | exact kp_none
      | (with_reducible refine kp_ite ?_ ?_)
      | (with_reducible refine kp_ix ?_)
      | (with_reducible refine kp_nz ?_)
      | (with_reducible refine kp_bo ?_)
      | (with_reducible refine kp_cp ?_)
      | (with_reducible refine kp_nn (fun _ => ?_))
      | (with_reducible refine kp_nu ?_ (fun _ => ?_))
      | (with_reducible refine kp_bd ?_ (fun _ _ _ => ?_))
      | (with_reducible refine kp_lts ?_ (fun _ _ => ?_))
      | (with_reducible refine kp_ltv (fun _ => ?_))
      | (with_reducible refine kp_j0 (fun _ _ => ?_) (fun _ _ => ?_))
      | (with_reducible refine kp_j1 (fun _ _ _ => ?_) (fun _ _ => ?_))
      | (with_reducible refine kp_j2 (fun _ _ _ _ => ?_) (fun _ _ => ?_))
      | (with_reducible refine kF_I (by first | assumption | decide) ?_)
      | (with_reducible refine kF_L (by first | assumption | decide) ?_)
      | (with_reducible refine kF_A (by first | assumption | decide) ?_)
      | (with_reducible refine kF_B (by first | assumption | decide) ?_)
      | (with_reducible refine kF_P (by first | assumption | decide) ?_)
      | (show ¬ _; decide)
      | decide
      | solve_by_elim (maxDepth := 4)

theorem kp_X5_scanNumber_L2  (k4 : Int32 → fSt → Option (Unit × fSt)) {s0 : fSt} (hk4 : ∀ (z0 : Int32) (s : fSt), kF (fun c => c = 12) s0 s → kpO (fun c => c = 12) s0 (k4 z0 s)) : ∀ (n : Nat) (z0 : Int32) (s : fSt), kF (fun c => c = 12) s0 s → kpO (fun c => c = 12) s0 (f_X5_scanNumber_L2 k4 n z0 s) := by
  intro n
  induction n with
  | zero => intro z0 s _; unfold f_X5_scanNumber_L2; exact kp_none
  | succ n ih =>
    intro z0 s h
    unfold f_X5_scanNumber_L2
    repeat' first
        | assumption
        | (refine kp_some ?_)
        | exact kp_none
        | (with_reducible refine kp_ite ?_ ?_)
        | (with_reducible refine kp_ix ?_)
        | (with_reducible refine kp_nz ?_)
        | (with_reducible refine kp_bo ?_)
        | (with_reducible refine kp_cp ?_)
        | (with_reducible refine kp_nn (fun _ => ?_))
        | (with_reducible refine kp_nu ?_ (fun _ => ?_))
        | (with_reducible refine kp_bd ?_ (fun _ _ _ => ?_))
        | (with_reducible refine kp_lts ?_ (fun _ _ => ?_))
        | (with_reducible refine kp_ltv (fun _ => ?_))
        | (with_reducible refine kp_j0 (fun _ _ => ?_) (fun _ _ => ?_))
        | (with_reducible refine kp_j1 (fun _ _ _ => ?_) (fun _ _ => ?_))
        | (with_reducible refine kp_j2 (fun _ _ _ _ => ?_) (fun _ _ => ?_))
        | (with_reducible refine kF_I (by first | assumption | decide) ?_)
        | (with_reducible refine kF_L (by first | assumption | decide) ?_)
        | (with_reducible refine kF_A (by first | assumption | decide) ?_)
        | (with_reducible refine kF_B (by first | assumption | decide) ?_)
        | (with_reducible refine kF_P (by first | assumption | decide) ?_)
        | (with_reducible apply kp_X5_isDigit)
        | (show ¬ _; decide)
        | decide
        | (apply ih; assumption)
        | solve_by_elim (maxDepth := 4)

theorem kp_X5_scanNumber  (st : fSt) {s0 : fSt}  (h : kF (fun c => c = 12) s0 st) : kpO (fun c => c = 12) s0 (f_X5_scanNumber st) := by
  unfold f_X5_scanNumber
  repeat' first
      | assumption
      | (refine kp_some ?_)
      | exact kp_none
      | (with_reducible refine kp_ite ?_ ?_)
      | (with_reducible refine kp_ix ?_)
      | (with_reducible refine kp_nz ?_)
      | (with_reducible refine kp_bo ?_)
      | (with_reducible refine kp_cp ?_)
      | (with_reducible refine kp_nn (fun _ => ?_))
      | (with_reducible refine kp_nu ?_ (fun _ => ?_))
      | (with_reducible refine kp_bd ?_ (fun _ _ _ => ?_))
      | (with_reducible refine kp_lts ?_ (fun _ _ => ?_))
      | (with_reducible refine kp_ltv (fun _ => ?_))
      | (with_reducible refine kp_j0 (fun _ _ => ?_) (fun _ _ => ?_))
      | (with_reducible refine kp_j1 (fun _ _ _ => ?_) (fun _ _ => ?_))
      | (with_reducible refine kp_j2 (fun _ _ _ _ => ?_) (fun _ _ => ?_))
      | (with_reducible refine kF_I (by first | assumption | decide) ?_)
      | (with_reducible refine kF_L (by first | assumption | decide) ?_)
      | (with_reducible refine kF_A (by first | assumption | decide) ?_)
      | (with_reducible refine kF_B (by first | assumption | decide) ?_)
      | (with_reducible refine kF_P (by first | assumption | decide) ?_)
      | (with_reducible apply kp_X5_scanNumber_L2)
      | (show ¬ _; decide)
      | decide
      | solve_by_elim (maxDepth := 4)

theorem kp_X5_advance_L0  (k2 : fSt → Option (Unit × fSt)) {s0 : fSt} (hk2 : ∀ (s : fSt), kF (fun c => c = 12) s0 s → kpO (fun c => c = 12) s0 (k2 s)) : ∀ (n : Nat)  (s : fSt), kF (fun c => c = 12) s0 s → kpO (fun c => c = 12) s0 (f_X5_advance_L0 k2 n  s) := by
  intro n
  induction n with
  | zero => intro  s _; unfold f_X5_advance_L0; exact kp_none
  | succ n ih =>
    intro  s h
    unfold f_X5_advance_L0
    repeat' first
        | assumption
        | (refine kp_some ?_)
        | exact kp_none
        | (with_reducible refine kp_ite ?_ ?_)
        | (with_reducible refine kp_ix ?_)
        | (with_reducible refine kp_nz ?_)
        | (with_reducible refine kp_bo ?_)
        | (with_reducible refine kp_cp ?_)
        | (with_reducible refine kp_nn (fun _ => ?_))
        | (with_reducible refine kp_nu ?_ (fun _ => ?_))
        | (with_reducible refine kp_bd ?_ (fun _ _ _ => ?_))
        | (with_reducible refine kp_lts ?_ (fun _ _ => ?_))
        | (with_reducible refine kp_ltv (fun _ => ?_))
        | (with_reducible refine kp_j0 (fun _ _ => ?_) (fun _ _ => ?_))
        | (with_reducible refine kp_j1 (fun _ _ _ => ?_) (fun _ _ => ?_))
        | (with_reducible refine kp_j2 (fun _ _ _ _ => ?_) (fun _ _ => ?_))
        | (with_reducible refine kF_I (by first | assumption | decide) ?_)
        | (with_reducible refine kF_L (by first | assumption | decide) ?_)
        | (with_reducible refine kF_A (by first | assumption | decide) ?_)
        | (with_reducible refine kF_B (by first | assumption | decide) ?_)
        | (with_reducible refine kF_P (by first | assumption | decide) ?_)
        | (show ¬ _; decide)
        | decide
        | (apply ih; assumption)
        | solve_by_elim (maxDepth := 4)

theorem kp_X5_advance  (st : fSt) {s0 : fSt}  (h : kF (fun c => c = 12) s0 st) : kpO (fun c => c = 12) s0 (f_X5_advance st) := by
  unfold f_X5_advance
  repeat' first
      | assumption
      | (refine kp_some ?_)
      | exact kp_none
      | (with_reducible refine kp_ite ?_ ?_)
      | (with_reducible refine kp_ix ?_)
      | (with_reducible refine kp_nz ?_)
      | (with_reducible refine kp_bo ?_)
      | (with_reducible refine kp_cp ?_)
      | (with_reducible refine kp_nn (fun _ => ?_))
      | (with_reducible refine kp_nu ?_ (fun _ => ?_))
      | (with_reducible refine kp_bd ?_ (fun _ _ _ => ?_))
      | (with_reducible refine kp_lts ?_ (fun _ _ => ?_))
      | (with_reducible refine kp_ltv (fun _ => ?_))
      | (with_reducible refine kp_j0 (fun _ _ => ?_) (fun _ _ => ?_))
      | (with_reducible refine kp_j1 (fun _ _ _ => ?_) (fun _ _ => ?_))
      | (with_reducible refine kp_j2 (fun _ _ _ _ => ?_) (fun _ _ => ?_))
      | (with_reducible refine kF_I (by first | assumption | decide) ?_)
      | (with_reducible refine kF_L (by first | assumption | decide) ?_)
      | (with_reducible refine kF_A (by first | assumption | decide) ?_)
      | (with_reducible refine kF_B (by first | assumption | decide) ?_)
      | (with_reducible refine kF_P (by first | assumption | decide) ?_)
      | (with_reducible apply kp_X5_isLetter)
      | (with_reducible apply kp_X5_isDigit)
      | (with_reducible apply kp_X5_scanNumber)
      | (with_reducible apply kp_X5_scanWord)
      | (with_reducible apply kp_X5_advance_L0)
      | (show ¬ _; decide)
      | decide
      | solve_by_elim (maxDepth := 4)

theorem kp_X5_start  (a1 : Int32) (st : fSt) {s0 : fSt}  (h : kF (fun c => c = 12) s0 st) : kpO (fun c => c = 12) s0 (f_X5_start a1 st) := by
  unfold f_X5_start
  repeat' first
      | assumption
      | (refine kp_some ?_)
      | exact kp_none
      | (with_reducible refine kp_ite ?_ ?_)
      | (with_reducible refine kp_ix ?_)
      | (with_reducible refine kp_nz ?_)
      | (with_reducible refine kp_bo ?_)
      | (with_reducible refine kp_cp ?_)
      | (with_reducible refine kp_nn (fun _ => ?_))
      | (with_reducible refine kp_nu ?_ (fun _ => ?_))
      | (with_reducible refine kp_bd ?_ (fun _ _ _ => ?_))
      | (with_reducible refine kp_lts ?_ (fun _ _ => ?_))
      | (with_reducible refine kp_ltv (fun _ => ?_))
      | (with_reducible refine kp_j0 (fun _ _ => ?_) (fun _ _ => ?_))
      | (with_reducible refine kp_j1 (fun _ _ _ => ?_) (fun _ _ => ?_))
      | (with_reducible refine kp_j2 (fun _ _ _ _ => ?_) (fun _ _ => ?_))
      | (with_reducible refine kF_I (by first | assumption | decide) ?_)
      | (with_reducible refine kF_L (by first | assumption | decide) ?_)
      | (with_reducible refine kF_A (by first | assumption | decide) ?_)
      | (with_reducible refine kF_B (by first | assumption | decide) ?_)
      | (with_reducible refine kF_P (by first | assumption | decide) ?_)
      | (with_reducible apply kp_X5_advance)
      | (show ¬ _; decide)
      | decide
      | solve_by_elim (maxDepth := 4)

theorem kp_X5_fail  (a1 : Int32) (st : fSt) {s0 : fSt}  (h : kF (fun c => c = 12) s0 st) : kpO (fun c => c = 12) s0 (f_X5_fail a1 st) := by
  unfold f_X5_fail
  repeat' first
      | assumption
      | (refine kp_some ?_)
      | exact kp_none
      | (with_reducible refine kp_ite ?_ ?_)
      | (with_reducible refine kp_ix ?_)
      | (with_reducible refine kp_nz ?_)
      | (with_reducible refine kp_bo ?_)
      | (with_reducible refine kp_cp ?_)
      | (with_reducible refine kp_nn (fun _ => ?_))
      | (with_reducible refine kp_nu ?_ (fun _ => ?_))
      | (with_reducible refine kp_bd ?_ (fun _ _ _ => ?_))
      | (with_reducible refine kp_lts ?_ (fun _ _ => ?_))
      | (with_reducible refine kp_ltv (fun _ => ?_))
      | (with_reducible refine kp_j0 (fun _ _ => ?_) (fun _ _ => ?_))
      | (with_reducible refine kp_j1 (fun _ _ _ => ?_) (fun _ _ => ?_))
      | (with_reducible refine kp_j2 (fun _ _ _ _ => ?_) (fun _ _ => ?_))
      | (with_reducible refine kF_I (by first | assumption | decide) ?_)
      | (with_reducible refine kF_L (by first | assumption | decide) ?_)
      | (with_reducible refine kF_A (by first | assumption | decide) ?_)
      | (with_reducible refine kF_B (by first | assumption | decide) ?_)
      | (with_reducible refine kF_P (by first | assumption | decide) ?_)
      | (show ¬ _; decide)
      | decide
      | solve_by_elim (maxDepth := 4)

theorem kp_X5_failHere  (st : fSt) {s0 : fSt}  (h : kF (fun c => c = 12) s0 st) : kpO (fun c => c = 12) s0 (f_X5_failHere st) := by
  unfold f_X5_failHere
  repeat' first
      | assumption
      | (refine kp_some ?_)
      | exact kp_none
      | (with_reducible refine kp_ite ?_ ?_)
      | (with_reducible refine kp_ix ?_)
      | (with_reducible refine kp_nz ?_)
      | (with_reducible refine kp_bo ?_)
      | (with_reducible refine kp_cp ?_)
      | (with_reducible refine kp_nn (fun _ => ?_))
      | (with_reducible refine kp_nu ?_ (fun _ => ?_))
      | (with_reducible refine kp_bd ?_ (fun _ _ _ => ?_))
      | (with_reducible refine kp_lts ?_ (fun _ _ => ?_))
      | (with_reducible refine kp_ltv (fun _ => ?_))
      | (with_reducible refine kp_j0 (fun _ _ => ?_) (fun _ _ => ?_))
      | (with_reducible refine kp_j1 (fun _ _ _ => ?_) (fun _ _ => ?_))
      | (with_reducible refine kp_j2 (fun _ _ _ _ => ?_) (fun _ _ => ?_))
      | (with_reducible refine kF_I (by first | assumption | decide) ?_)
      | (with_reducible refine kF_L (by first | assumption | decide) ?_)
      | (with_reducible refine kF_A (by first | assumption | decide) ?_)
      | (with_reducible refine kF_B (by first | assumption | decide) ?_)
      | (with_reducible refine kF_P (by first | assumption | decide) ?_)
      | (with_reducible apply kp_X5_fail)
      | (show ¬ _; decide)
      | decide
      | solve_by_elim (maxDepth := 4)

theorem kp_X5_take  (a1 : Int32) (st : fSt) {s0 : fSt}  (h : kF (fun c => c = 12) s0 st) : kpO (fun c => c = 12) s0 (f_X5_take a1 st) := by
  unfold f_X5_take
  repeat' first
      | assumption
      | (refine kp_some ?_)
      | exact kp_none
      | (with_reducible refine kp_ite ?_ ?_)
      | (with_reducible refine kp_ix ?_)
      | (with_reducible refine kp_nz ?_)
      | (with_reducible refine kp_bo ?_)
      | (with_reducible refine kp_cp ?_)
      | (with_reducible refine kp_nn (fun _ => ?_))
      | (with_reducible refine kp_nu ?_ (fun _ => ?_))
      | (with_reducible refine kp_bd ?_ (fun _ _ _ => ?_))
      | (with_reducible refine kp_lts ?_ (fun _ _ => ?_))
      | (with_reducible refine kp_ltv (fun _ => ?_))
      | (with_reducible refine kp_j0 (fun _ _ => ?_) (fun _ _ => ?_))
      | (with_reducible refine kp_j1 (fun _ _ _ => ?_) (fun _ _ => ?_))
      | (with_reducible refine kp_j2 (fun _ _ _ _ => ?_) (fun _ _ => ?_))
      | (with_reducible refine kF_I (by first | assumption | decide) ?_)
      | (with_reducible refine kF_L (by first | assumption | decide) ?_)
      | (with_reducible refine kF_A (by first | assumption | decide) ?_)
      | (with_reducible refine kF_B (by first | assumption | decide) ?_)
      | (with_reducible refine kF_P (by first | assumption | decide) ?_)
      | (with_reducible apply kp_X5_advance)
      | (with_reducible apply kp_X5_failHere)
      | (show ¬ _; decide)
      | decide
      | solve_by_elim (maxDepth := 4)

theorem kp_X11_isIn  (a0 : Int32) (a1 : Int32) (a2 : Int32) (st : fSt) {s0 : fSt}  (h : kF (fun c => c = 12) s0 st) : kpO (fun c => c = 12) s0 (f_X11_isIn a0 a1 a2 st) := by
  unfold f_X11_isIn
  repeat' first
      | assumption
      | (refine kp_some ?_)
      | exact kp_none
      | (with_reducible refine kp_ite ?_ ?_)
      | (with_reducible refine kp_ix ?_)
      | (with_reducible refine kp_nz ?_)
      | (with_reducible refine kp_bo ?_)
      | (with_reducible refine kp_cp ?_)
      | (with_reducible refine kp_nn (fun _ => ?_))
      | (with_reducible refine kp_nu ?_ (fun _ => ?_))
      | (with_reducible refine kp_bd ?_ (fun _ _ _ => ?_))
      | (with_reducible refine kp_lts ?_ (fun _ _ => ?_))
      | (with_reducible refine kp_ltv (fun _ => ?_))
      | (with_reducible refine kp_j0 (fun _ _ => ?_) (fun _ _ => ?_))
      | (with_reducible refine kp_j1 (fun _ _ _ => ?_) (fun _ _ => ?_))
      | (with_reducible refine kp_j2 (fun _ _ _ _ => ?_) (fun _ _ => ?_))
      | (with_reducible refine kF_I (by first | assumption | decide) ?_)
      | (with_reducible refine kF_L (by first | assumption | decide) ?_)
      | (with_reducible refine kF_A (by first | assumption | decide) ?_)
      | (with_reducible refine kF_B (by first | assumption | decide) ?_)
      | (with_reducible refine kF_P (by first | assumption | decide) ?_)
      | (show ¬ _; decide)
      | decide
      | solve_by_elim (maxDepth := 4)

theorem kp_X5_takeNumber  (a1 : Int32) (a2 : Int32) (st : fSt) {s0 : fSt}  (h : kF (fun c => c = 12) s0 st) : kpO (fun c => c = 12) s0 (f_X5_takeNumber a1 a2 st) := by
  unfold f_X5_takeNumber
  repeat' first
      | assumption
      | (refine kp_some ?_)
      | exact kp_none
      | (with_reducible refine kp_ite ?_ ?_)
      | (with_reducible refine kp_ix ?_)
      | (with_reducible refine kp_nz ?_)
      | (with_reducible refine kp_bo ?_)
      | (with_reducible refine kp_cp ?_)
      | (with_reducible refine kp_nn (fun _ => ?_))
      | (with_reducible refine kp_nu ?_ (fun _ => ?_))
      | (with_reducible refine kp_bd ?_ (fun _ _ _ => ?_))
      | (with_reducible refine kp_lts ?_ (fun _ _ => ?_))
      | (with_reducible refine kp_ltv (fun _ => ?_))
      | (with_reducible refine kp_j0 (fun _ _ => ?_) (fun _ _ => ?_))
      | (with_reducible refine kp_j1 (fun _ _ _ => ?_) (fun _ _ => ?_))
      | (with_reducible refine kp_j2 (fun _ _ _ _ => ?_) (fun _ _ => ?_))
      | (with_reducible refine kF_I (by first | assumption | decide) ?_)
      | (with_reducible refine kF_L (by first | assumption | decide) ?_)
      | (with_reducible refine kF_A (by first | assumption | decide) ?_)
      | (with_reducible refine kF_B (by first | assumption | decide) ?_)
      | (with_reducible refine kF_P (by first | assumption | decide) ?_)
      | (with_reducible apply kp_X11_isIn)
      | (with_reducible apply kp_X5_advance)
      | (with_reducible apply kp_X5_fail)
      | (with_reducible apply kp_X5_failHere)
      | (show ¬ _; decide)
      | decide
      | solve_by_elim (maxDepth := 4)

theorem kp_X5_find_L3  (c0 : Nat) (i0 : Nat) (j0 : Nat) (n0 : Nat) (a1 : Int32) (a2 : Int64) (k3 : fSt → Option (Int32 × fSt)) {s0 : fSt} (hk3 : ∀ (s : fSt), kF (fun c => c = 12) s0 s → kpO (fun c => c = 12) s0 (k3 s)) : ∀ (n : Nat) (z0 : Int32) (s : fSt), kF (fun c => c = 12) s0 s → kpO (fun c => c = 12) s0 (f_X5_find_L3 c0 i0 j0 n0 a1 a2 k3 n z0 s) := by
  intro n
  induction n with
  | zero => intro z0 s _; unfold f_X5_find_L3; exact kp_none
  | succ n ih =>
    intro z0 s h
    unfold f_X5_find_L3
    repeat' first
        | assumption
        | (refine kp_some ?_)
        | exact kp_none
        | (with_reducible refine kp_ite ?_ ?_)
        | (with_reducible refine kp_ix ?_)
        | (with_reducible refine kp_nz ?_)
        | (with_reducible refine kp_bo ?_)
        | (with_reducible refine kp_cp ?_)
        | (with_reducible refine kp_nn (fun _ => ?_))
        | (with_reducible refine kp_nu ?_ (fun _ => ?_))
        | (with_reducible refine kp_bd ?_ (fun _ _ _ => ?_))
        | (with_reducible refine kp_lts ?_ (fun _ _ => ?_))
        | (with_reducible refine kp_ltv (fun _ => ?_))
        | (with_reducible refine kp_j0 (fun _ _ => ?_) (fun _ _ => ?_))
        | (with_reducible refine kp_j1 (fun _ _ _ => ?_) (fun _ _ => ?_))
        | (with_reducible refine kp_j2 (fun _ _ _ _ => ?_) (fun _ _ => ?_))
        | (with_reducible refine kF_I (by first | assumption | decide) ?_)
        | (with_reducible refine kF_L (by first | assumption | decide) ?_)
        | (with_reducible refine kF_A (by first | assumption | decide) ?_)
        | (with_reducible refine kF_B (by first | assumption | decide) ?_)
        | (with_reducible refine kF_P (by first | assumption | decide) ?_)
        | (show ¬ _; decide)
        | decide
        | (apply ih; assumption)
        | solve_by_elim (maxDepth := 4)

theorem kp_X5_find  (c0 : Nat) (i0 : Nat) (j0 : Nat) (n0 : Nat) (a1 : Int32) (a2 : Int64) (st : fSt) {s0 : fSt}  (h : kF (fun c => c = 12) s0 st) : kpO (fun c => c = 12) s0 (f_X5_find c0 i0 j0 n0 a1 a2 st) := by
  unfold f_X5_find
  repeat' first
      | assumption
      | (refine kp_some ?_)
      | exact kp_none
      | (with_reducible refine kp_ite ?_ ?_)
      | (with_reducible refine kp_ix ?_)
      | (with_reducible refine kp_nz ?_)
      | (with_reducible refine kp_bo ?_)
      | (with_reducible refine kp_cp ?_)
      | (with_reducible refine kp_nn (fun _ => ?_))
      | (with_reducible refine kp_nu ?_ (fun _ => ?_))
      | (with_reducible refine kp_bd ?_ (fun _ _ _ => ?_))
      | (with_reducible refine kp_lts ?_ (fun _ _ => ?_))
      | (with_reducible refine kp_ltv (fun _ => ?_))
      | (with_reducible refine kp_j0 (fun _ _ => ?_) (fun _ _ => ?_))
      | (with_reducible refine kp_j1 (fun _ _ _ => ?_) (fun _ _ => ?_))
      | (with_reducible refine kp_j2 (fun _ _ _ _ => ?_) (fun _ _ => ?_))
      | (with_reducible refine kF_I (by first | assumption | decide) ?_)
      | (with_reducible refine kF_L (by first | assumption | decide) ?_)
      | (with_reducible refine kF_A (by first | assumption | decide) ?_)
      | (with_reducible refine kF_B (by first | assumption | decide) ?_)
      | (with_reducible refine kF_P (by first | assumption | decide) ?_)
      | (with_reducible apply kp_X5_find_L3)
      | (show ¬ _; decide)
      | decide
      | solve_by_elim (maxDepth := 4)

theorem kp_X5_takeName  (c1 : Nat) (i1 : Nat) (j1 : Nat) (n1 : Nat) (a2 : Int32) (st : fSt) {s0 : fSt}  (h : kF (fun c => c = 12) s0 st) : kpO (fun c => c = 12) s0 (f_X5_takeName c1 i1 j1 n1 a2 st) := by
  unfold f_X5_takeName
  repeat' first
      | assumption
      | (refine kp_some ?_)
      | exact kp_none
      | (with_reducible refine kp_ite ?_ ?_)
      | (with_reducible refine kp_ix ?_)
      | (with_reducible refine kp_nz ?_)
      | (with_reducible refine kp_bo ?_)
      | (with_reducible refine kp_cp ?_)
      | (with_reducible refine kp_nn (fun _ => ?_))
      | (with_reducible refine kp_nu ?_ (fun _ => ?_))
      | (with_reducible refine kp_bd ?_ (fun _ _ _ => ?_))
      | (with_reducible refine kp_lts ?_ (fun _ _ => ?_))
      | (with_reducible refine kp_ltv (fun _ => ?_))
      | (with_reducible refine kp_j0 (fun _ _ => ?_) (fun _ _ => ?_))
      | (with_reducible refine kp_j1 (fun _ _ _ => ?_) (fun _ _ => ?_))
      | (with_reducible refine kp_j2 (fun _ _ _ _ => ?_) (fun _ _ => ?_))
      | (with_reducible refine kF_I (by first | assumption | decide) ?_)
      | (with_reducible refine kF_L (by first | assumption | decide) ?_)
      | (with_reducible refine kF_A (by first | assumption | decide) ?_)
      | (with_reducible refine kF_B (by first | assumption | decide) ?_)
      | (with_reducible refine kF_P (by first | assumption | decide) ?_)
      | (with_reducible apply kp_X5_find)
      | (with_reducible apply kp_X5_advance)
      | (with_reducible apply kp_X5_fail)
      | (with_reducible apply kp_X5_failHere)
      | (show ¬ _; decide)
      | decide
      | solve_by_elim (maxDepth := 4)

theorem kp_X6_add  (i1 : Nat) (a2 : Int32) (a3 : Int32) (a4 : Int32) (st : fSt) {s0 : fSt}  (h : kF (fun c => c = 12) s0 st) : kpO (fun c => c = 12) s0 (f_X6_add i1 a2 a3 a4 st) := by
  unfold f_X6_add
  repeat' first
      | assumption
      | (refine kp_some ?_)
      | exact kp_none
      | (with_reducible refine kp_ite ?_ ?_)
      | (with_reducible refine kp_ix ?_)
      | (with_reducible refine kp_nz ?_)
      | (with_reducible refine kp_bo ?_)
      | (with_reducible refine kp_cp ?_)
      | (with_reducible refine kp_nn (fun _ => ?_))
      | (with_reducible refine kp_nu ?_ (fun _ => ?_))
      | (with_reducible refine kp_bd ?_ (fun _ _ _ => ?_))
      | (with_reducible refine kp_lts ?_ (fun _ _ => ?_))
      | (with_reducible refine kp_ltv (fun _ => ?_))
      | (with_reducible refine kp_j0 (fun _ _ => ?_) (fun _ _ => ?_))
      | (with_reducible refine kp_j1 (fun _ _ _ => ?_) (fun _ _ => ?_))
      | (with_reducible refine kp_j2 (fun _ _ _ _ => ?_) (fun _ _ => ?_))
      | (with_reducible refine kF_I (by first | assumption | decide) ?_)
      | (with_reducible refine kF_L (by first | assumption | decide) ?_)
      | (with_reducible refine kF_A (by first | assumption | decide) ?_)
      | (with_reducible refine kF_B (by first | assumption | decide) ?_)
      | (with_reducible refine kF_P (by first | assumption | decide) ?_)
      | (with_reducible apply kp_X7_killedIn)
      | (show ¬ _; decide)
      | decide
      | solve_by_elim (maxDepth := 4)

theorem kp_X6_lastOf  (a0 : Int32) (st : fSt) {s0 : fSt}  (h : kF (fun c => c = 12) s0 st) : kpO (fun c => c = 12) s0 (f_X6_lastOf a0 st) := by
  unfold f_X6_lastOf
  repeat' first
      | assumption
      | (refine kp_some ?_)
      | exact kp_none
      | (with_reducible refine kp_ite ?_ ?_)
      | (with_reducible refine kp_ix ?_)
      | (with_reducible refine kp_nz ?_)
      | (with_reducible refine kp_bo ?_)
      | (with_reducible refine kp_cp ?_)
      | (with_reducible refine kp_nn (fun _ => ?_))
      | (with_reducible refine kp_nu ?_ (fun _ => ?_))
      | (with_reducible refine kp_bd ?_ (fun _ _ _ => ?_))
      | (with_reducible refine kp_lts ?_ (fun _ _ => ?_))
      | (with_reducible refine kp_ltv (fun _ => ?_))
      | (with_reducible refine kp_j0 (fun _ _ => ?_) (fun _ _ => ?_))
      | (with_reducible refine kp_j1 (fun _ _ _ => ?_) (fun _ _ => ?_))
      | (with_reducible refine kp_j2 (fun _ _ _ _ => ?_) (fun _ _ => ?_))
      | (with_reducible refine kF_I (by first | assumption | decide) ?_)
      | (with_reducible refine kF_L (by first | assumption | decide) ?_)
      | (with_reducible refine kF_A (by first | assumption | decide) ?_)
      | (with_reducible refine kF_B (by first | assumption | decide) ?_)
      | (with_reducible refine kF_P (by first | assumption | decide) ?_)
      | (with_reducible apply kp_J6_numberOfTrailingZeros_0f7a4)
      | (show ¬ _; decide)
      | decide
      | solve_by_elim (maxDepth := 4)

theorem kp_X6_goOn_L41  (i1 : Nat) (a2 : Int32) (x1 : Int32) (x2 : Int32) (x5 : Int32) {s0 : fSt}  : ∀ (n : Nat) (z0 : Int32) (z1 : Int32) (s : fSt), kF (fun c => c = 12) s0 s → kpO (fun c => c = 12) s0 (f_X6_goOn_L41 i1 a2 x1 x2 x5 n z0 z1 s) := by
  intro n
  induction n with
  | zero => intro z0 z1 s _; unfold f_X6_goOn_L41; exact kp_none
  | succ n ih =>
    intro z0 z1 s h
    unfold f_X6_goOn_L41
    repeat' first
        | assumption
        | (refine kp_some ?_)
        | exact kp_none
        | (with_reducible refine kp_ite ?_ ?_)
        | (with_reducible refine kp_ix ?_)
        | (with_reducible refine kp_nz ?_)
        | (with_reducible refine kp_bo ?_)
        | (with_reducible refine kp_cp ?_)
        | (with_reducible refine kp_nn (fun _ => ?_))
        | (with_reducible refine kp_nu ?_ (fun _ => ?_))
        | (with_reducible refine kp_bd ?_ (fun _ _ _ => ?_))
        | (with_reducible refine kp_lts ?_ (fun _ _ => ?_))
        | (with_reducible refine kp_ltv (fun _ => ?_))
        | (with_reducible refine kp_j0 (fun _ _ => ?_) (fun _ _ => ?_))
        | (with_reducible refine kp_j1 (fun _ _ _ => ?_) (fun _ _ => ?_))
        | (with_reducible refine kp_j2 (fun _ _ _ _ => ?_) (fun _ _ => ?_))
        | (with_reducible refine kF_I (by first | assumption | decide) ?_)
        | (with_reducible refine kF_L (by first | assumption | decide) ?_)
        | (with_reducible refine kF_A (by first | assumption | decide) ?_)
        | (with_reducible refine kF_B (by first | assumption | decide) ?_)
        | (with_reducible refine kF_P (by first | assumption | decide) ?_)
        | (with_reducible apply kp_X2_onward)
        | (with_reducible apply kp_X6_add)
        | (show ¬ _; decide)
        | decide
        | (apply ih; assumption)
        | solve_by_elim (maxDepth := 4)

theorem kp_X6_goOn  (i1 : Nat) (a2 : Int32) (st : fSt) {s0 : fSt}  (h : kF (fun c => c = 12) s0 st) : kpO (fun c => c = 12) s0 (f_X6_goOn i1 a2 st) := by
  unfold f_X6_goOn
  repeat' first
      | assumption
      | (refine kp_some ?_)
      | exact kp_none
      | (with_reducible refine kp_ite ?_ ?_)
      | (with_reducible refine kp_ix ?_)
      | (with_reducible refine kp_nz ?_)
      | (with_reducible refine kp_bo ?_)
      | (with_reducible refine kp_cp ?_)
      | (with_reducible refine kp_nn (fun _ => ?_))
      | (with_reducible refine kp_nu ?_ (fun _ => ?_))
      | (with_reducible refine kp_bd ?_ (fun _ _ _ => ?_))
      | (with_reducible refine kp_lts ?_ (fun _ _ => ?_))
      | (with_reducible refine kp_ltv (fun _ => ?_))
      | (with_reducible refine kp_j0 (fun _ _ => ?_) (fun _ _ => ?_))
      | (with_reducible refine kp_j1 (fun _ _ _ => ?_) (fun _ _ => ?_))
      | (with_reducible refine kp_j2 (fun _ _ _ _ => ?_) (fun _ _ => ?_))
      | (with_reducible refine kF_I (by first | assumption | decide) ?_)
      | (with_reducible refine kF_L (by first | assumption | decide) ?_)
      | (with_reducible refine kF_A (by first | assumption | decide) ?_)
      | (with_reducible refine kF_B (by first | assumption | decide) ?_)
      | (with_reducible refine kF_P (by first | assumption | decide) ?_)
      | (with_reducible apply kp_X6_lastOf)
      | (with_reducible apply kp_X6_goOn_L41)
      | (show ¬ _; decide)
      | decide
      | solve_by_elim (maxDepth := 4)

theorem kp_X6_findAll_L48  (i1 : Nat) (k13 : fSt → Option (Unit × fSt)) {s0 : fSt} (hk13 : ∀ (s : fSt), kF (fun c => c = 12) s0 s → kpO (fun c => c = 12) s0 (k13 s)) : ∀ (n : Nat) (z0 : Int32) (s : fSt), kF (fun c => c = 12) s0 s → kpO (fun c => c = 12) s0 (f_X6_findAll_L48 i1 k13 n z0 s) := by
  intro n
  induction n with
  | zero => intro z0 s _; unfold f_X6_findAll_L48; exact kp_none
  | succ n ih =>
    intro z0 s h
    unfold f_X6_findAll_L48
    repeat' first
        | assumption
        | (refine kp_some ?_)
        | exact kp_none
        | (with_reducible refine kp_ite ?_ ?_)
        | (with_reducible refine kp_ix ?_)
        | (with_reducible refine kp_nz ?_)
        | (with_reducible refine kp_bo ?_)
        | (with_reducible refine kp_cp ?_)
        | (with_reducible refine kp_nn (fun _ => ?_))
        | (with_reducible refine kp_nu ?_ (fun _ => ?_))
        | (with_reducible refine kp_bd ?_ (fun _ _ _ => ?_))
        | (with_reducible refine kp_lts ?_ (fun _ _ => ?_))
        | (with_reducible refine kp_ltv (fun _ => ?_))
        | (with_reducible refine kp_j0 (fun _ _ => ?_) (fun _ _ => ?_))
        | (with_reducible refine kp_j1 (fun _ _ _ => ?_) (fun _ _ => ?_))
        | (with_reducible refine kp_j2 (fun _ _ _ _ => ?_) (fun _ _ => ?_))
        | (with_reducible refine kF_I (by first | assumption | decide) ?_)
        | (with_reducible refine kF_L (by first | assumption | decide) ?_)
        | (with_reducible refine kF_A (by first | assumption | decide) ?_)
        | (with_reducible refine kF_B (by first | assumption | decide) ?_)
        | (with_reducible refine kF_P (by first | assumption | decide) ?_)
        | (with_reducible apply kp_X6_goOn)
        | (show ¬ _; decide)
        | decide
        | (apply ih; assumption)
        | solve_by_elim (maxDepth := 4)

theorem kp_X6_findAll  (i1 : Nat) (st : fSt) {s0 : fSt}  (h : kF (fun c => c = 12) s0 st) : kpO (fun c => c = 12) s0 (f_X6_findAll i1 st) := by
  unfold f_X6_findAll
  repeat' first
      | assumption
      | (refine kp_some ?_)
      | exact kp_none
      | (with_reducible refine kp_ite ?_ ?_)
      | (with_reducible refine kp_ix ?_)
      | (with_reducible refine kp_nz ?_)
      | (with_reducible refine kp_bo ?_)
      | (with_reducible refine kp_cp ?_)
      | (with_reducible refine kp_nn (fun _ => ?_))
      | (with_reducible refine kp_nu ?_ (fun _ => ?_))
      | (with_reducible refine kp_bd ?_ (fun _ _ _ => ?_))
      | (with_reducible refine kp_lts ?_ (fun _ _ => ?_))
      | (with_reducible refine kp_ltv (fun _ => ?_))
      | (with_reducible refine kp_j0 (fun _ _ => ?_) (fun _ _ => ?_))
      | (with_reducible refine kp_j1 (fun _ _ _ => ?_) (fun _ _ => ?_))
      | (with_reducible refine kp_j2 (fun _ _ _ _ => ?_) (fun _ _ => ?_))
      | (with_reducible refine kF_I (by first | assumption | decide) ?_)
      | (with_reducible refine kF_L (by first | assumption | decide) ?_)
      | (with_reducible refine kF_A (by first | assumption | decide) ?_)
      | (with_reducible refine kF_B (by first | assumption | decide) ?_)
      | (with_reducible refine kF_P (by first | assumption | decide) ?_)
      | (with_reducible apply kp_X2_opening)
      | (with_reducible apply kp_X6_findAll_L48)
      | (with_reducible apply kp_X6_add)
      | (show ¬ _; decide)
      | decide
      | solve_by_elim (maxDepth := 4)

theorem kp_X6_isOver  (a1 : Int32) (st : fSt) {s0 : fSt}  (h : kF (fun c => c = 12) s0 st) : kpO (fun c => c = 12) s0 (f_X6_isOver a1 st) := by
  unfold f_X6_isOver
  repeat' first
      | assumption
      | (refine kp_some ?_)
      | exact kp_none
      | (with_reducible refine kp_ite ?_ ?_)
      | (with_reducible refine kp_ix ?_)
      | (with_reducible refine kp_nz ?_)
      | (with_reducible refine kp_bo ?_)
      | (with_reducible refine kp_cp ?_)
      | (with_reducible refine kp_nn (fun _ => ?_))
      | (with_reducible refine kp_nu ?_ (fun _ => ?_))
      | (with_reducible refine kp_bd ?_ (fun _ _ _ => ?_))
      | (with_reducible refine kp_lts ?_ (fun _ _ => ?_))
      | (with_reducible refine kp_ltv (fun _ => ?_))
      | (with_reducible refine kp_j0 (fun _ _ => ?_) (fun _ _ => ?_))
      | (with_reducible refine kp_j1 (fun _ _ _ => ?_) (fun _ _ => ?_))
      | (with_reducible refine kp_j2 (fun _ _ _ _ => ?_) (fun _ _ => ?_))
      | (with_reducible refine kF_I (by first | assumption | decide) ?_)
      | (with_reducible refine kF_L (by first | assumption | decide) ?_)
      | (with_reducible refine kF_A (by first | assumption | decide) ?_)
      | (with_reducible refine kF_B (by first | assumption | decide) ?_)
      | (with_reducible refine kF_P (by first | assumption | decide) ?_)
      | (show ¬ _; decide)
      | decide
      | solve_by_elim (maxDepth := 4)

theorem kp_X6_lengthOf  (a1 : Int32) (st : fSt) {s0 : fSt}  (h : kF (fun c => c = 12) s0 st) : kpO (fun c => c = 12) s0 (f_X6_lengthOf a1 st) := by
  unfold f_X6_lengthOf
  repeat' first
      | assumption
      | (refine kp_some ?_)
      | exact kp_none
      | (with_reducible refine kp_ite ?_ ?_)
      | (with_reducible refine kp_ix ?_)
      | (with_reducible refine kp_nz ?_)
      | (with_reducible refine kp_bo ?_)
      | (with_reducible refine kp_cp ?_)
      | (with_reducible refine kp_nn (fun _ => ?_))
      | (with_reducible refine kp_nu ?_ (fun _ => ?_))
      | (with_reducible refine kp_bd ?_ (fun _ _ _ => ?_))
      | (with_reducible refine kp_lts ?_ (fun _ _ => ?_))
      | (with_reducible refine kp_ltv (fun _ => ?_))
      | (with_reducible refine kp_j0 (fun _ _ => ?_) (fun _ _ => ?_))
      | (with_reducible refine kp_j1 (fun _ _ _ => ?_) (fun _ _ => ?_))
      | (with_reducible refine kp_j2 (fun _ _ _ _ => ?_) (fun _ _ => ?_))
      | (with_reducible refine kF_I (by first | assumption | decide) ?_)
      | (with_reducible refine kF_L (by first | assumption | decide) ?_)
      | (with_reducible refine kF_A (by first | assumption | decide) ?_)
      | (with_reducible refine kF_B (by first | assumption | decide) ?_)
      | (with_reducible refine kF_P (by first | assumption | decide) ?_)
      | (with_reducible apply kp_J6_bitCount_0f7a4)
      | (show ¬ _; decide)
      | decide
      | solve_by_elim (maxDepth := 4)

theorem kp_X6_countOver_L4   {s0 : fSt}  : ∀ (n : Nat) (z0 : Int32) (z1 : Int32) (s : fSt), kF (fun c => c = 12) s0 s → kpO (fun c => c = 12) s0 (f_X6_countOver_L4  n z0 z1 s) := by
  intro n
  induction n with
  | zero => intro z0 z1 s _; unfold f_X6_countOver_L4; exact kp_none
  | succ n ih =>
    intro z0 z1 s h
    unfold f_X6_countOver_L4
    repeat' first
        | assumption
        | (refine kp_some ?_)
        | exact kp_none
        | (with_reducible refine kp_ite ?_ ?_)
        | (with_reducible refine kp_ix ?_)
        | (with_reducible refine kp_nz ?_)
        | (with_reducible refine kp_bo ?_)
        | (with_reducible refine kp_cp ?_)
        | (with_reducible refine kp_nn (fun _ => ?_))
        | (with_reducible refine kp_nu ?_ (fun _ => ?_))
        | (with_reducible refine kp_bd ?_ (fun _ _ _ => ?_))
        | (with_reducible refine kp_lts ?_ (fun _ _ => ?_))
        | (with_reducible refine kp_ltv (fun _ => ?_))
        | (with_reducible refine kp_j0 (fun _ _ => ?_) (fun _ _ => ?_))
        | (with_reducible refine kp_j1 (fun _ _ _ => ?_) (fun _ _ => ?_))
        | (with_reducible refine kp_j2 (fun _ _ _ _ => ?_) (fun _ _ => ?_))
        | (with_reducible refine kF_I (by first | assumption | decide) ?_)
        | (with_reducible refine kF_L (by first | assumption | decide) ?_)
        | (with_reducible refine kF_A (by first | assumption | decide) ?_)
        | (with_reducible refine kF_B (by first | assumption | decide) ?_)
        | (with_reducible refine kF_P (by first | assumption | decide) ?_)
        | (with_reducible apply kp_X6_isOver)
        | (show ¬ _; decide)
        | decide
        | (apply ih; assumption)
        | solve_by_elim (maxDepth := 4)

theorem kp_X6_countOver  (st : fSt) {s0 : fSt}  (h : kF (fun c => c = 12) s0 st) : kpO (fun c => c = 12) s0 (f_X6_countOver st) := by
  unfold f_X6_countOver
  repeat' first
      | assumption
      | (refine kp_some ?_)
      | exact kp_none
      | (with_reducible refine kp_ite ?_ ?_)
      | (with_reducible refine kp_ix ?_)
      | (with_reducible refine kp_nz ?_)
      | (with_reducible refine kp_bo ?_)
      | (with_reducible refine kp_cp ?_)
      | (with_reducible refine kp_nn (fun _ => ?_))
      | (with_reducible refine kp_nu ?_ (fun _ => ?_))
      | (with_reducible refine kp_bd ?_ (fun _ _ _ => ?_))
      | (with_reducible refine kp_lts ?_ (fun _ _ => ?_))
      | (with_reducible refine kp_ltv (fun _ => ?_))
      | (with_reducible refine kp_j0 (fun _ _ => ?_) (fun _ _ => ?_))
      | (with_reducible refine kp_j1 (fun _ _ _ => ?_) (fun _ _ => ?_))
      | (with_reducible refine kp_j2 (fun _ _ _ _ => ?_) (fun _ _ => ?_))
      | (with_reducible refine kF_I (by first | assumption | decide) ?_)
      | (with_reducible refine kF_L (by first | assumption | decide) ?_)
      | (with_reducible refine kF_A (by first | assumption | decide) ?_)
      | (with_reducible refine kF_B (by first | assumption | decide) ?_)
      | (with_reducible refine kF_P (by first | assumption | decide) ?_)
      | (with_reducible apply kp_X6_countOver_L4)
      | (show ¬ _; decide)
      | decide
      | solve_by_elim (maxDepth := 4)

theorem kp_X6_longest_L4   {s0 : fSt}  : ∀ (n : Nat) (z0 : Int32) (z1 : Int32) (s : fSt), kF (fun c => c = 12) s0 s → kpO (fun c => c = 12) s0 (f_X6_longest_L4  n z0 z1 s) := by
  intro n
  induction n with
  | zero => intro z0 z1 s _; unfold f_X6_longest_L4; exact kp_none
  | succ n ih =>
    intro z0 z1 s h
    unfold f_X6_longest_L4
    repeat' first
        | assumption
        | (refine kp_some ?_)
        | exact kp_none
        | (with_reducible refine kp_ite ?_ ?_)
        | (with_reducible refine kp_ix ?_)
        | (with_reducible refine kp_nz ?_)
        | (with_reducible refine kp_bo ?_)
        | (with_reducible refine kp_cp ?_)
        | (with_reducible refine kp_nn (fun _ => ?_))
        | (with_reducible refine kp_nu ?_ (fun _ => ?_))
        | (with_reducible refine kp_bd ?_ (fun _ _ _ => ?_))
        | (with_reducible refine kp_lts ?_ (fun _ _ => ?_))
        | (with_reducible refine kp_ltv (fun _ => ?_))
        | (with_reducible refine kp_j0 (fun _ _ => ?_) (fun _ _ => ?_))
        | (with_reducible refine kp_j1 (fun _ _ _ => ?_) (fun _ _ => ?_))
        | (with_reducible refine kp_j2 (fun _ _ _ _ => ?_) (fun _ _ => ?_))
        | (with_reducible refine kF_I (by first | assumption | decide) ?_)
        | (with_reducible refine kF_L (by first | assumption | decide) ?_)
        | (with_reducible refine kF_A (by first | assumption | decide) ?_)
        | (with_reducible refine kF_B (by first | assumption | decide) ?_)
        | (with_reducible refine kF_P (by first | assumption | decide) ?_)
        | (with_reducible apply kp_X6_isOver)
        | (with_reducible apply kp_X6_lengthOf)
        | (show ¬ _; decide)
        | decide
        | (apply ih; assumption)
        | solve_by_elim (maxDepth := 4)

theorem kp_X6_longest  (st : fSt) {s0 : fSt}  (h : kF (fun c => c = 12) s0 st) : kpO (fun c => c = 12) s0 (f_X6_longest st) := by
  unfold f_X6_longest
  repeat' first
      | assumption
      | (refine kp_some ?_)
      | exact kp_none
      | (with_reducible refine kp_ite ?_ ?_)
      | (with_reducible refine kp_ix ?_)
      | (with_reducible refine kp_nz ?_)
      | (with_reducible refine kp_bo ?_)
      | (with_reducible refine kp_cp ?_)
      | (with_reducible refine kp_nn (fun _ => ?_))
      | (with_reducible refine kp_nu ?_ (fun _ => ?_))
      | (with_reducible refine kp_bd ?_ (fun _ _ _ => ?_))
      | (with_reducible refine kp_lts ?_ (fun _ _ => ?_))
      | (with_reducible refine kp_ltv (fun _ => ?_))
      | (with_reducible refine kp_j0 (fun _ _ => ?_) (fun _ _ => ?_))
      | (with_reducible refine kp_j1 (fun _ _ _ => ?_) (fun _ _ => ?_))
      | (with_reducible refine kp_j2 (fun _ _ _ _ => ?_) (fun _ _ => ?_))
      | (with_reducible refine kF_I (by first | assumption | decide) ?_)
      | (with_reducible refine kF_L (by first | assumption | decide) ?_)
      | (with_reducible refine kF_A (by first | assumption | decide) ?_)
      | (with_reducible refine kF_B (by first | assumption | decide) ?_)
      | (with_reducible refine kF_P (by first | assumption | decide) ?_)
      | (with_reducible apply kp_X6_longest_L4)
      | (show ¬ _; decide)
      | decide
      | solve_by_elim (maxDepth := 4)

theorem kp_X6_shortest_L5   {s0 : fSt}  : ∀ (n : Nat) (z0 : Int32) (z1 : Int32) (s : fSt), kF (fun c => c = 12) s0 s → kpO (fun c => c = 12) s0 (f_X6_shortest_L5  n z0 z1 s) := by
  intro n
  induction n with
  | zero => intro z0 z1 s _; unfold f_X6_shortest_L5; exact kp_none
  | succ n ih =>
    intro z0 z1 s h
    unfold f_X6_shortest_L5
    repeat' first
        | assumption
        | (refine kp_some ?_)
        | exact kp_none
        | (with_reducible refine kp_ite ?_ ?_)
        | (with_reducible refine kp_ix ?_)
        | (with_reducible refine kp_nz ?_)
        | (with_reducible refine kp_bo ?_)
        | (with_reducible refine kp_cp ?_)
        | (with_reducible refine kp_nn (fun _ => ?_))
        | (with_reducible refine kp_nu ?_ (fun _ => ?_))
        | (with_reducible refine kp_bd ?_ (fun _ _ _ => ?_))
        | (with_reducible refine kp_lts ?_ (fun _ _ => ?_))
        | (with_reducible refine kp_ltv (fun _ => ?_))
        | (with_reducible refine kp_j0 (fun _ _ => ?_) (fun _ _ => ?_))
        | (with_reducible refine kp_j1 (fun _ _ _ => ?_) (fun _ _ => ?_))
        | (with_reducible refine kp_j2 (fun _ _ _ _ => ?_) (fun _ _ => ?_))
        | (with_reducible refine kF_I (by first | assumption | decide) ?_)
        | (with_reducible refine kF_L (by first | assumption | decide) ?_)
        | (with_reducible refine kF_A (by first | assumption | decide) ?_)
        | (with_reducible refine kF_B (by first | assumption | decide) ?_)
        | (with_reducible refine kF_P (by first | assumption | decide) ?_)
        | (with_reducible apply kp_X6_isOver)
        | (with_reducible apply kp_X6_lengthOf)
        | (show ¬ _; decide)
        | decide
        | (apply ih; assumption)
        | solve_by_elim (maxDepth := 4)

theorem kp_X6_shortest  (st : fSt) {s0 : fSt}  (h : kF (fun c => c = 12) s0 st) : kpO (fun c => c = 12) s0 (f_X6_shortest st) := by
  unfold f_X6_shortest
  repeat' first
      | assumption
      | (refine kp_some ?_)
      | exact kp_none
      | (with_reducible refine kp_ite ?_ ?_)
      | (with_reducible refine kp_ix ?_)
      | (with_reducible refine kp_nz ?_)
      | (with_reducible refine kp_bo ?_)
      | (with_reducible refine kp_cp ?_)
      | (with_reducible refine kp_nn (fun _ => ?_))
      | (with_reducible refine kp_nu ?_ (fun _ => ?_))
      | (with_reducible refine kp_bd ?_ (fun _ _ _ => ?_))
      | (with_reducible refine kp_lts ?_ (fun _ _ => ?_))
      | (with_reducible refine kp_ltv (fun _ => ?_))
      | (with_reducible refine kp_j0 (fun _ _ => ?_) (fun _ _ => ?_))
      | (with_reducible refine kp_j1 (fun _ _ _ => ?_) (fun _ _ => ?_))
      | (with_reducible refine kp_j2 (fun _ _ _ _ => ?_) (fun _ _ => ?_))
      | (with_reducible refine kF_I (by first | assumption | decide) ?_)
      | (with_reducible refine kF_L (by first | assumption | decide) ?_)
      | (with_reducible refine kF_A (by first | assumption | decide) ?_)
      | (with_reducible refine kF_B (by first | assumption | decide) ?_)
      | (with_reducible refine kF_P (by first | assumption | decide) ?_)
      | (with_reducible apply kp_X6_shortest_L5)
      | (show ¬ _; decide)
      | decide
      | solve_by_elim (maxDepth := 4)

theorem kp_X6_canSee_L4   {s0 : fSt}  : ∀ (n : Nat) (z0 : Int32) (z1 : Int32) (s : fSt), kF (fun c => c = 12) s0 s → kpO (fun c => c = 12) s0 (f_X6_canSee_L4  n z0 z1 s) := by
  intro n
  induction n with
  | zero => intro z0 z1 s _; unfold f_X6_canSee_L4; exact kp_none
  | succ n ih =>
    intro z0 z1 s h
    unfold f_X6_canSee_L4
    repeat' first
        | assumption
        | (refine kp_some ?_)
        | exact kp_none
        | (with_reducible refine kp_ite ?_ ?_)
        | (with_reducible refine kp_ix ?_)
        | (with_reducible refine kp_nz ?_)
        | (with_reducible refine kp_bo ?_)
        | (with_reducible refine kp_cp ?_)
        | (with_reducible refine kp_nn (fun _ => ?_))
        | (with_reducible refine kp_nu ?_ (fun _ => ?_))
        | (with_reducible refine kp_bd ?_ (fun _ _ _ => ?_))
        | (with_reducible refine kp_lts ?_ (fun _ _ => ?_))
        | (with_reducible refine kp_ltv (fun _ => ?_))
        | (with_reducible refine kp_j0 (fun _ _ => ?_) (fun _ _ => ?_))
        | (with_reducible refine kp_j1 (fun _ _ _ => ?_) (fun _ _ => ?_))
        | (with_reducible refine kp_j2 (fun _ _ _ _ => ?_) (fun _ _ => ?_))
        | (with_reducible refine kF_I (by first | assumption | decide) ?_)
        | (with_reducible refine kF_L (by first | assumption | decide) ?_)
        | (with_reducible refine kF_A (by first | assumption | decide) ?_)
        | (with_reducible refine kF_B (by first | assumption | decide) ?_)
        | (with_reducible refine kF_P (by first | assumption | decide) ?_)
        | (show ¬ _; decide)
        | decide
        | (apply ih; assumption)
        | solve_by_elim (maxDepth := 4)

theorem kp_X6_canSee  (st : fSt) {s0 : fSt}  (h : kF (fun c => c = 12) s0 st) : kpO (fun c => c = 12) s0 (f_X6_canSee st) := by
  unfold f_X6_canSee
  repeat' first
      | assumption
      | (refine kp_some ?_)
      | exact kp_none
      | (with_reducible refine kp_ite ?_ ?_)
      | (with_reducible refine kp_ix ?_)
      | (with_reducible refine kp_nz ?_)
      | (with_reducible refine kp_bo ?_)
      | (with_reducible refine kp_cp ?_)
      | (with_reducible refine kp_nn (fun _ => ?_))
      | (with_reducible refine kp_nu ?_ (fun _ => ?_))
      | (with_reducible refine kp_bd ?_ (fun _ _ _ => ?_))
      | (with_reducible refine kp_lts ?_ (fun _ _ => ?_))
      | (with_reducible refine kp_ltv (fun _ => ?_))
      | (with_reducible refine kp_j0 (fun _ _ => ?_) (fun _ _ => ?_))
      | (with_reducible refine kp_j1 (fun _ _ _ => ?_) (fun _ _ => ?_))
      | (with_reducible refine kp_j2 (fun _ _ _ _ => ?_) (fun _ _ => ?_))
      | (with_reducible refine kF_I (by first | assumption | decide) ?_)
      | (with_reducible refine kF_L (by first | assumption | decide) ?_)
      | (with_reducible refine kF_A (by first | assumption | decide) ?_)
      | (with_reducible refine kF_B (by first | assumption | decide) ?_)
      | (with_reducible refine kF_P (by first | assumption | decide) ?_)
      | (with_reducible apply kp_X6_canSee_L4)
      | (show ¬ _; decide)
      | decide
      | solve_by_elim (maxDepth := 4)

theorem kp_X6_endingsBy_L5  (i1 : Nat) (a2 : Int32) {s0 : fSt}  : ∀ (n : Nat) (z0 : Int32) (z1 : Int32) (s : fSt), kF (fun c => c = 12) s0 s → kpO (fun c => c = 12) s0 (f_X6_endingsBy_L5 i1 a2 n z0 z1 s) := by
  intro n
  induction n with
  | zero => intro z0 z1 s _; unfold f_X6_endingsBy_L5; exact kp_none
  | succ n ih =>
    intro z0 z1 s h
    unfold f_X6_endingsBy_L5
    repeat' first
        | assumption
        | (refine kp_some ?_)
        | exact kp_none
        | (with_reducible refine kp_ite ?_ ?_)
        | (with_reducible refine kp_ix ?_)
        | (with_reducible refine kp_nz ?_)
        | (with_reducible refine kp_bo ?_)
        | (with_reducible refine kp_cp ?_)
        | (with_reducible refine kp_nn (fun _ => ?_))
        | (with_reducible refine kp_nu ?_ (fun _ => ?_))
        | (with_reducible refine kp_bd ?_ (fun _ _ _ => ?_))
        | (with_reducible refine kp_lts ?_ (fun _ _ => ?_))
        | (with_reducible refine kp_ltv (fun _ => ?_))
        | (with_reducible refine kp_j0 (fun _ _ => ?_) (fun _ _ => ?_))
        | (with_reducible refine kp_j1 (fun _ _ _ => ?_) (fun _ _ => ?_))
        | (with_reducible refine kp_j2 (fun _ _ _ _ => ?_) (fun _ _ => ?_))
        | (with_reducible refine kF_I (by first | assumption | decide) ?_)
        | (with_reducible refine kF_L (by first | assumption | decide) ?_)
        | (with_reducible refine kF_A (by first | assumption | decide) ?_)
        | (with_reducible refine kF_B (by first | assumption | decide) ?_)
        | (with_reducible refine kF_P (by first | assumption | decide) ?_)
        | (with_reducible apply kp_X6_isOver)
        | (with_reducible apply kp_X6_lastOf)
        | (with_reducible apply kp_X7_endSlot)
        | (show ¬ _; decide)
        | decide
        | (apply ih; assumption)
        | solve_by_elim (maxDepth := 4)

theorem kp_X6_endingsBy  (i1 : Nat) (a2 : Int32) (st : fSt) {s0 : fSt}  (h : kF (fun c => c = 12) s0 st) : kpO (fun c => c = 12) s0 (f_X6_endingsBy i1 a2 st) := by
  unfold f_X6_endingsBy
  repeat' first
      | assumption
      | (refine kp_some ?_)
      | exact kp_none
      | (with_reducible refine kp_ite ?_ ?_)
      | (with_reducible refine kp_ix ?_)
      | (with_reducible refine kp_nz ?_)
      | (with_reducible refine kp_bo ?_)
      | (with_reducible refine kp_cp ?_)
      | (with_reducible refine kp_nn (fun _ => ?_))
      | (with_reducible refine kp_nu ?_ (fun _ => ?_))
      | (with_reducible refine kp_bd ?_ (fun _ _ _ => ?_))
      | (with_reducible refine kp_lts ?_ (fun _ _ => ?_))
      | (with_reducible refine kp_ltv (fun _ => ?_))
      | (with_reducible refine kp_j0 (fun _ _ => ?_) (fun _ _ => ?_))
      | (with_reducible refine kp_j1 (fun _ _ _ => ?_) (fun _ _ => ?_))
      | (with_reducible refine kp_j2 (fun _ _ _ _ => ?_) (fun _ _ => ?_))
      | (with_reducible refine kF_I (by first | assumption | decide) ?_)
      | (with_reducible refine kF_L (by first | assumption | decide) ?_)
      | (with_reducible refine kF_A (by first | assumption | decide) ?_)
      | (with_reducible refine kF_B (by first | assumption | decide) ?_)
      | (with_reducible refine kF_P (by first | assumption | decide) ?_)
      | (with_reducible apply kp_X6_endingsBy_L5)
      | (show ¬ _; decide)
      | decide
      | solve_by_elim (maxDepth := 4)

theorem kp_X6_endsAt  (i1 : Nat) (a2 : Int32) (a3 : Int32) (st : fSt) {s0 : fSt}  (h : kF (fun c => c = 12) s0 st) : kpO (fun c => c = 12) s0 (f_X6_endsAt i1 a2 a3 st) := by
  unfold f_X6_endsAt
  repeat' first
      | assumption
      | (refine kp_some ?_)
      | exact kp_none
      | (with_reducible refine kp_ite ?_ ?_)
      | (with_reducible refine kp_ix ?_)
      | (with_reducible refine kp_nz ?_)
      | (with_reducible refine kp_bo ?_)
      | (with_reducible refine kp_cp ?_)
      | (with_reducible refine kp_nn (fun _ => ?_))
      | (with_reducible refine kp_nu ?_ (fun _ => ?_))
      | (with_reducible refine kp_bd ?_ (fun _ _ _ => ?_))
      | (with_reducible refine kp_lts ?_ (fun _ _ => ?_))
      | (with_reducible refine kp_ltv (fun _ => ?_))
      | (with_reducible refine kp_j0 (fun _ _ => ?_) (fun _ _ => ?_))
      | (with_reducible refine kp_j1 (fun _ _ _ => ?_) (fun _ _ => ?_))
      | (with_reducible refine kp_j2 (fun _ _ _ _ => ?_) (fun _ _ => ?_))
      | (with_reducible refine kF_I (by first | assumption | decide) ?_)
      | (with_reducible refine kF_L (by first | assumption | decide) ?_)
      | (with_reducible refine kF_A (by first | assumption | decide) ?_)
      | (with_reducible refine kF_B (by first | assumption | decide) ?_)
      | (with_reducible refine kF_P (by first | assumption | decide) ?_)
      | (with_reducible apply kp_X6_isOver)
      | (with_reducible apply kp_X6_lastOf)
      | (with_reducible apply kp_X7_endSlot)
      | (show ¬ _; decide)
      | decide
      | solve_by_elim (maxDepth := 4)

theorem kp_X6_shortestTo_L5  (i1 : Nat) (a2 : Int32) {s0 : fSt}  : ∀ (n : Nat) (z0 : Int32) (z1 : Int32) (s : fSt), kF (fun c => c = 12) s0 s → kpO (fun c => c = 12) s0 (f_X6_shortestTo_L5 i1 a2 n z0 z1 s) := by
  intro n
  induction n with
  | zero => intro z0 z1 s _; unfold f_X6_shortestTo_L5; exact kp_none
  | succ n ih =>
    intro z0 z1 s h
    unfold f_X6_shortestTo_L5
    repeat' first
        | assumption
        | (refine kp_some ?_)
        | exact kp_none
        | (with_reducible refine kp_ite ?_ ?_)
        | (with_reducible refine kp_ix ?_)
        | (with_reducible refine kp_nz ?_)
        | (with_reducible refine kp_bo ?_)
        | (with_reducible refine kp_cp ?_)
        | (with_reducible refine kp_nn (fun _ => ?_))
        | (with_reducible refine kp_nu ?_ (fun _ => ?_))
        | (with_reducible refine kp_bd ?_ (fun _ _ _ => ?_))
        | (with_reducible refine kp_lts ?_ (fun _ _ => ?_))
        | (with_reducible refine kp_ltv (fun _ => ?_))
        | (with_reducible refine kp_j0 (fun _ _ => ?_) (fun _ _ => ?_))
        | (with_reducible refine kp_j1 (fun _ _ _ => ?_) (fun _ _ => ?_))
        | (with_reducible refine kp_j2 (fun _ _ _ _ => ?_) (fun _ _ => ?_))
        | (with_reducible refine kF_I (by first | assumption | decide) ?_)
        | (with_reducible refine kF_L (by first | assumption | decide) ?_)
        | (with_reducible refine kF_A (by first | assumption | decide) ?_)
        | (with_reducible refine kF_B (by first | assumption | decide) ?_)
        | (with_reducible refine kF_P (by first | assumption | decide) ?_)
        | (with_reducible apply kp_X6_endsAt)
        | (with_reducible apply kp_X6_lengthOf)
        | (show ¬ _; decide)
        | decide
        | (apply ih; assumption)
        | solve_by_elim (maxDepth := 4)

theorem kp_X6_shortestTo  (i1 : Nat) (a2 : Int32) (st : fSt) {s0 : fSt}  (h : kF (fun c => c = 12) s0 st) : kpO (fun c => c = 12) s0 (f_X6_shortestTo i1 a2 st) := by
  unfold f_X6_shortestTo
  repeat' first
      | assumption
      | (refine kp_some ?_)
      | exact kp_none
      | (with_reducible refine kp_ite ?_ ?_)
      | (with_reducible refine kp_ix ?_)
      | (with_reducible refine kp_nz ?_)
      | (with_reducible refine kp_bo ?_)
      | (with_reducible refine kp_cp ?_)
      | (with_reducible refine kp_nn (fun _ => ?_))
      | (with_reducible refine kp_nu ?_ (fun _ => ?_))
      | (with_reducible refine kp_bd ?_ (fun _ _ _ => ?_))
      | (with_reducible refine kp_lts ?_ (fun _ _ => ?_))
      | (with_reducible refine kp_ltv (fun _ => ?_))
      | (with_reducible refine kp_j0 (fun _ _ => ?_) (fun _ _ => ?_))
      | (with_reducible refine kp_j1 (fun _ _ _ => ?_) (fun _ _ => ?_))
      | (with_reducible refine kp_j2 (fun _ _ _ _ => ?_) (fun _ _ => ?_))
      | (with_reducible refine kF_I (by first | assumption | decide) ?_)
      | (with_reducible refine kF_L (by first | assumption | decide) ?_)
      | (with_reducible refine kF_A (by first | assumption | decide) ?_)
      | (with_reducible refine kF_B (by first | assumption | decide) ?_)
      | (with_reducible refine kF_P (by first | assumption | decide) ?_)
      | (with_reducible apply kp_X6_shortestTo_L5)
      | (show ¬ _; decide)
      | decide
      | solve_by_elim (maxDepth := 4)

theorem kp_X6_someGoesBy_L9  (i1 : Nat) (a2 : Int32) (a3 : Int32) (a4 : Int32) (x3 : Int32) {s0 : fSt}  : ∀ (n : Nat) (z0 : Int32) (s : fSt), kF (fun c => c = 12) s0 s → kpO (fun c => c = 12) s0 (f_X6_someGoesBy_L9 i1 a2 a3 a4 x3 n z0 s) := by
  intro n
  induction n with
  | zero => intro z0 s _; unfold f_X6_someGoesBy_L9; exact kp_none
  | succ n ih =>
    intro z0 s h
    unfold f_X6_someGoesBy_L9
    repeat' first
        | assumption
        | (refine kp_some ?_)
        | exact kp_none
        | (with_reducible refine kp_ite ?_ ?_)
        | (with_reducible refine kp_ix ?_)
        | (with_reducible refine kp_nz ?_)
        | (with_reducible refine kp_bo ?_)
        | (with_reducible refine kp_cp ?_)
        | (with_reducible refine kp_nn (fun _ => ?_))
        | (with_reducible refine kp_nu ?_ (fun _ => ?_))
        | (with_reducible refine kp_bd ?_ (fun _ _ _ => ?_))
        | (with_reducible refine kp_lts ?_ (fun _ _ => ?_))
        | (with_reducible refine kp_ltv (fun _ => ?_))
        | (with_reducible refine kp_j0 (fun _ _ => ?_) (fun _ _ => ?_))
        | (with_reducible refine kp_j1 (fun _ _ _ => ?_) (fun _ _ => ?_))
        | (with_reducible refine kp_j2 (fun _ _ _ _ => ?_) (fun _ _ => ?_))
        | (with_reducible refine kF_I (by first | assumption | decide) ?_)
        | (with_reducible refine kF_L (by first | assumption | decide) ?_)
        | (with_reducible refine kF_A (by first | assumption | decide) ?_)
        | (with_reducible refine kF_B (by first | assumption | decide) ?_)
        | (with_reducible refine kF_P (by first | assumption | decide) ?_)
        | (with_reducible apply kp_X6_endsAt)
        | (with_reducible apply kp_X6_lengthOf)
        | (show ¬ _; decide)
        | decide
        | (apply ih; assumption)
        | solve_by_elim (maxDepth := 4)

theorem kp_X6_someGoesBy  (i1 : Nat) (a2 : Int32) (a3 : Int32) (a4 : Int32) (st : fSt) {s0 : fSt}  (h : kF (fun c => c = 12) s0 st) : kpO (fun c => c = 12) s0 (f_X6_someGoesBy i1 a2 a3 a4 st) := by
  unfold f_X6_someGoesBy
  repeat' first
      | assumption
      | (refine kp_some ?_)
      | exact kp_none
      | (with_reducible refine kp_ite ?_ ?_)
      | (with_reducible refine kp_ix ?_)
      | (with_reducible refine kp_nz ?_)
      | (with_reducible refine kp_bo ?_)
      | (with_reducible refine kp_cp ?_)
      | (with_reducible refine kp_nn (fun _ => ?_))
      | (with_reducible refine kp_nu ?_ (fun _ => ?_))
      | (with_reducible refine kp_bd ?_ (fun _ _ _ => ?_))
      | (with_reducible refine kp_lts ?_ (fun _ _ => ?_))
      | (with_reducible refine kp_ltv (fun _ => ?_))
      | (with_reducible refine kp_j0 (fun _ _ => ?_) (fun _ _ => ?_))
      | (with_reducible refine kp_j1 (fun _ _ _ => ?_) (fun _ _ => ?_))
      | (with_reducible refine kp_j2 (fun _ _ _ _ => ?_) (fun _ _ => ?_))
      | (with_reducible refine kF_I (by first | assumption | decide) ?_)
      | (with_reducible refine kF_L (by first | assumption | decide) ?_)
      | (with_reducible refine kF_A (by first | assumption | decide) ?_)
      | (with_reducible refine kF_B (by first | assumption | decide) ?_)
      | (with_reducible refine kF_P (by first | assumption | decide) ?_)
      | (with_reducible apply kp_X6_lastOf)
      | (with_reducible apply kp_X6_someGoesBy_L9)
      | (show ¬ _; decide)
      | decide
      | solve_by_elim (maxDepth := 4)

theorem kp_X6_steerTo_L53  (i1 : Nat) (a2 : Int32) (a3 : Int32) (x6 : Int32) (x8 : Int32) (x13 : Int32) (x17 : Int32) (k21 : Int32 → fSt → Option (Unit × fSt)) (k26 : Int32 → Int32 → fSt → Option (Unit × fSt)) {s0 : fSt} (hk21 : ∀ (z0 : Int32) (s : fSt), kF (fun c => c = 12) s0 s → kpO (fun c => c = 12) s0 (k21 z0 s)) (hk26 : ∀ (z0 : Int32) (z1 : Int32) (s : fSt), kF (fun c => c = 12) s0 s → kpO (fun c => c = 12) s0 (k26 z0 z1 s)) : ∀ (n : Nat) (z0 : Int32) (s : fSt), kF (fun c => c = 12) s0 s → kpO (fun c => c = 12) s0 (f_X6_steerTo_L53 i1 a2 a3 x6 x8 x13 x17 k21 k26 n z0 s) := by
  intro n
  induction n with
  | zero => intro z0 s _; unfold f_X6_steerTo_L53; exact kp_none
  | succ n ih =>
    intro z0 s h
    unfold f_X6_steerTo_L53
    repeat' first
        | assumption
        | (refine kp_some ?_)
        | exact kp_none
        | (with_reducible refine kp_ite ?_ ?_)
        | (with_reducible refine kp_ix ?_)
        | (with_reducible refine kp_nz ?_)
        | (with_reducible refine kp_bo ?_)
        | (with_reducible refine kp_cp ?_)
        | (with_reducible refine kp_nn (fun _ => ?_))
        | (with_reducible refine kp_nu ?_ (fun _ => ?_))
        | (with_reducible refine kp_bd ?_ (fun _ _ _ => ?_))
        | (with_reducible refine kp_lts ?_ (fun _ _ => ?_))
        | (with_reducible refine kp_ltv (fun _ => ?_))
        | (with_reducible refine kp_j0 (fun _ _ => ?_) (fun _ _ => ?_))
        | (with_reducible refine kp_j1 (fun _ _ _ => ?_) (fun _ _ => ?_))
        | (with_reducible refine kp_j2 (fun _ _ _ _ => ?_) (fun _ _ => ?_))
        | (with_reducible refine kF_I (by first | assumption | decide) ?_)
        | (with_reducible refine kF_L (by first | assumption | decide) ?_)
        | (with_reducible refine kF_A (by first | assumption | decide) ?_)
        | (with_reducible refine kF_B (by first | assumption | decide) ?_)
        | (with_reducible refine kF_P (by first | assumption | decide) ?_)
        | (with_reducible apply kp_X2_onward)
        | (with_reducible apply kp_X6_someGoesBy)
        | (show ¬ _; decide)
        | decide
        | (apply ih; assumption)
        | solve_by_elim (maxDepth := 4)

theorem kp_X6_steerTo_L15  (i1 : Nat) (a2 : Int32) (a3 : Int32) (k5 : fSt → Option (Unit × fSt)) {s0 : fSt} (hk5 : ∀ (s : fSt), kF (fun c => c = 12) s0 s → kpO (fun c => c = 12) s0 (k5 s)) : ∀ (n : Nat) (z0 : Int32) (z1 : Int32) (z2 : Int32) (s : fSt), kF (fun c => c = 12) s0 s → kpO (fun c => c = 12) s0 (f_X6_steerTo_L15 i1 a2 a3 k5 n z0 z1 z2 s) := by
  intro n
  induction n with
  | zero => intro z0 z1 z2 s _; unfold f_X6_steerTo_L15; exact kp_none
  | succ n ih =>
    intro z0 z1 z2 s h
    unfold f_X6_steerTo_L15
    repeat' first
        | assumption
        | (refine kp_some ?_)
        | exact kp_none
        | (with_reducible refine kp_ite ?_ ?_)
        | (with_reducible refine kp_ix ?_)
        | (with_reducible refine kp_nz ?_)
        | (with_reducible refine kp_bo ?_)
        | (with_reducible refine kp_cp ?_)
        | (with_reducible refine kp_nn (fun _ => ?_))
        | (with_reducible refine kp_nu ?_ (fun _ => ?_))
        | (with_reducible refine kp_bd ?_ (fun _ _ _ => ?_))
        | (with_reducible refine kp_lts ?_ (fun _ _ => ?_))
        | (with_reducible refine kp_ltv (fun _ => ?_))
        | (with_reducible refine kp_j0 (fun _ _ => ?_) (fun _ _ => ?_))
        | (with_reducible refine kp_j1 (fun _ _ _ => ?_) (fun _ _ => ?_))
        | (with_reducible refine kp_j2 (fun _ _ _ _ => ?_) (fun _ _ => ?_))
        | (with_reducible refine kF_I (by first | assumption | decide) ?_)
        | (with_reducible refine kF_L (by first | assumption | decide) ?_)
        | (with_reducible refine kF_A (by first | assumption | decide) ?_)
        | (with_reducible refine kF_B (by first | assumption | decide) ?_)
        | (with_reducible refine kF_P (by first | assumption | decide) ?_)
        | (with_reducible apply kp_X6_lastOf)
        | (with_reducible apply kp_X7_killedIn)
        | (with_reducible apply kp_X6_steerTo_L53)
        | (show ¬ _; decide)
        | decide
        | (apply ih; assumption)
        | solve_by_elim (maxDepth := 4)

theorem kp_X6_steerTo  (i1 : Nat) (a2 : Int32) (a3 : Int32) (st : fSt) {s0 : fSt}  (h : kF (fun c => c = 12) s0 st) : kpO (fun c => c = 12) s0 (f_X6_steerTo i1 a2 a3 st) := by
  unfold f_X6_steerTo
  repeat' first
      | assumption
      | (refine kp_some ?_)
      | exact kp_none
      | (with_reducible refine kp_ite ?_ ?_)
      | (with_reducible refine kp_ix ?_)
      | (with_reducible refine kp_nz ?_)
      | (with_reducible refine kp_bo ?_)
      | (with_reducible refine kp_cp ?_)
      | (with_reducible refine kp_nn (fun _ => ?_))
      | (with_reducible refine kp_nu ?_ (fun _ => ?_))
      | (with_reducible refine kp_bd ?_ (fun _ _ _ => ?_))
      | (with_reducible refine kp_lts ?_ (fun _ _ => ?_))
      | (with_reducible refine kp_ltv (fun _ => ?_))
      | (with_reducible refine kp_j0 (fun _ _ => ?_) (fun _ _ => ?_))
      | (with_reducible refine kp_j1 (fun _ _ _ => ?_) (fun _ _ => ?_))
      | (with_reducible refine kp_j2 (fun _ _ _ _ => ?_) (fun _ _ => ?_))
      | (with_reducible refine kF_I (by first | assumption | decide) ?_)
      | (with_reducible refine kF_L (by first | assumption | decide) ?_)
      | (with_reducible refine kF_A (by first | assumption | decide) ?_)
      | (with_reducible refine kF_B (by first | assumption | decide) ?_)
      | (with_reducible refine kF_P (by first | assumption | decide) ?_)
      | (with_reducible apply kp_X6_steerTo_L15)
      | (show ¬ _; decide)
      | decide
      | solve_by_elim (maxDepth := 4)

theorem kp_X6_showMore_L19  (a1 : Int32) (x3 : Int32) (x4 : Int32) {s0 : fSt}  : ∀ (n : Nat) (z0 : Int32) (s : fSt), kF (fun c => c = 12) s0 s → kpO (fun c => c = 12) s0 (f_X6_showMore_L19 a1 x3 x4 n z0 s) := by
  intro n
  induction n with
  | zero => intro z0 s _; unfold f_X6_showMore_L19; exact kp_none
  | succ n ih =>
    intro z0 s h
    unfold f_X6_showMore_L19
    repeat' first
        | assumption
        | (refine kp_some ?_)
        | exact kp_none
        | (with_reducible refine kp_ite ?_ ?_)
        | (with_reducible refine kp_ix ?_)
        | (with_reducible refine kp_nz ?_)
        | (with_reducible refine kp_bo ?_)
        | (with_reducible refine kp_cp ?_)
        | (with_reducible refine kp_nn (fun _ => ?_))
        | (with_reducible refine kp_nu ?_ (fun _ => ?_))
        | (with_reducible refine kp_bd ?_ (fun _ _ _ => ?_))
        | (with_reducible refine kp_lts ?_ (fun _ _ => ?_))
        | (with_reducible refine kp_ltv (fun _ => ?_))
        | (with_reducible refine kp_j0 (fun _ _ => ?_) (fun _ _ => ?_))
        | (with_reducible refine kp_j1 (fun _ _ _ => ?_) (fun _ _ => ?_))
        | (with_reducible refine kp_j2 (fun _ _ _ _ => ?_) (fun _ _ => ?_))
        | (with_reducible refine kF_I (by first | assumption | decide) ?_)
        | (with_reducible refine kF_L (by first | assumption | decide) ?_)
        | (with_reducible refine kF_A (by first | assumption | decide) ?_)
        | (with_reducible refine kF_B (by first | assumption | decide) ?_)
        | (with_reducible refine kF_P (by first | assumption | decide) ?_)
        | (with_reducible apply kp_X6_isOver)
        | (show ¬ _; decide)
        | decide
        | (apply ih; assumption)
        | solve_by_elim (maxDepth := 4)

theorem kp_X6_showMore  (a1 : Int32) (st : fSt) {s0 : fSt}  (h : kF (fun c => c = 12) s0 st) : kpO (fun c => c = 12) s0 (f_X6_showMore a1 st) := by
  unfold f_X6_showMore
  repeat' first
      | assumption
      | (refine kp_some ?_)
      | exact kp_none
      | (with_reducible refine kp_ite ?_ ?_)
      | (with_reducible refine kp_ix ?_)
      | (with_reducible refine kp_nz ?_)
      | (with_reducible refine kp_bo ?_)
      | (with_reducible refine kp_cp ?_)
      | (with_reducible refine kp_nn (fun _ => ?_))
      | (with_reducible refine kp_nu ?_ (fun _ => ?_))
      | (with_reducible refine kp_bd ?_ (fun _ _ _ => ?_))
      | (with_reducible refine kp_lts ?_ (fun _ _ => ?_))
      | (with_reducible refine kp_ltv (fun _ => ?_))
      | (with_reducible refine kp_j0 (fun _ _ => ?_) (fun _ _ => ?_))
      | (with_reducible refine kp_j1 (fun _ _ _ => ?_) (fun _ _ => ?_))
      | (with_reducible refine kp_j2 (fun _ _ _ _ => ?_) (fun _ _ => ?_))
      | (with_reducible refine kF_I (by first | assumption | decide) ?_)
      | (with_reducible refine kF_L (by first | assumption | decide) ?_)
      | (with_reducible refine kF_A (by first | assumption | decide) ?_)
      | (with_reducible refine kF_B (by first | assumption | decide) ?_)
      | (with_reducible refine kF_P (by first | assumption | decide) ?_)
      | (with_reducible apply kp_X6_lastOf)
      | (with_reducible apply kp_X6_showMore_L19)
      | (show ¬ _; decide)
      | decide
      | solve_by_elim (maxDepth := 4)

theorem kp_X6_fewestForAll_L36   {s0 : fSt}  : ∀ (n : Nat) (z0 : Int32) (s : fSt), kF (fun c => c = 12) s0 s → kpO (fun c => c = 12) s0 (f_X6_fewestForAll_L36  n z0 s) := by
  intro n
  induction n with
  | zero => intro z0 s _; unfold f_X6_fewestForAll_L36; exact kp_none
  | succ n ih =>
    intro z0 s h
    unfold f_X6_fewestForAll_L36
    repeat' first
        | assumption
        | (refine kp_some ?_)
        | exact kp_none
        | (with_reducible refine kp_ite ?_ ?_)
        | (with_reducible refine kp_ix ?_)
        | (with_reducible refine kp_nz ?_)
        | (with_reducible refine kp_bo ?_)
        | (with_reducible refine kp_cp ?_)
        | (with_reducible refine kp_nn (fun _ => ?_))
        | (with_reducible refine kp_nu ?_ (fun _ => ?_))
        | (with_reducible refine kp_bd ?_ (fun _ _ _ => ?_))
        | (with_reducible refine kp_lts ?_ (fun _ _ => ?_))
        | (with_reducible refine kp_ltv (fun _ => ?_))
        | (with_reducible refine kp_j0 (fun _ _ => ?_) (fun _ _ => ?_))
        | (with_reducible refine kp_j1 (fun _ _ _ => ?_) (fun _ _ => ?_))
        | (with_reducible refine kp_j2 (fun _ _ _ _ => ?_) (fun _ _ => ?_))
        | (with_reducible refine kF_I (by first | assumption | decide) ?_)
        | (with_reducible refine kF_L (by first | assumption | decide) ?_)
        | (with_reducible refine kF_A (by first | assumption | decide) ?_)
        | (with_reducible refine kF_B (by first | assumption | decide) ?_)
        | (with_reducible refine kF_P (by first | assumption | decide) ?_)
        | (with_reducible apply kp_X6_showMore)
        | (show ¬ _; decide)
        | decide
        | (apply ih; assumption)
        | solve_by_elim (maxDepth := 4)

theorem kp_X6_fewestForAll  (st : fSt) {s0 : fSt}  (h : kF (fun c => c = 12) s0 st) : kpO (fun c => c = 12) s0 (f_X6_fewestForAll st) := by
  unfold f_X6_fewestForAll
  repeat' first
      | assumption
      | (refine kp_some ?_)
      | exact kp_none
      | (with_reducible refine kp_ite ?_ ?_)
      | (with_reducible refine kp_ix ?_)
      | (with_reducible refine kp_nz ?_)
      | (with_reducible refine kp_bo ?_)
      | (with_reducible refine kp_cp ?_)
      | (with_reducible refine kp_nn (fun _ => ?_))
      | (with_reducible refine kp_nu ?_ (fun _ => ?_))
      | (with_reducible refine kp_bd ?_ (fun _ _ _ => ?_))
      | (with_reducible refine kp_lts ?_ (fun _ _ => ?_))
      | (with_reducible refine kp_ltv (fun _ => ?_))
      | (with_reducible refine kp_j0 (fun _ _ => ?_) (fun _ _ => ?_))
      | (with_reducible refine kp_j1 (fun _ _ _ => ?_) (fun _ _ => ?_))
      | (with_reducible refine kp_j2 (fun _ _ _ _ => ?_) (fun _ _ => ?_))
      | (with_reducible refine kF_I (by first | assumption | decide) ?_)
      | (with_reducible refine kF_L (by first | assumption | decide) ?_)
      | (with_reducible refine kF_A (by first | assumption | decide) ?_)
      | (with_reducible refine kF_B (by first | assumption | decide) ?_)
      | (with_reducible refine kF_P (by first | assumption | decide) ?_)
      | (with_reducible apply kp_X6_canSee)
      | (with_reducible apply kp_J7_fill_53178)
      | (with_reducible apply kp_X6_fewestForAll_L36)
      | (show ¬ _; decide)
      | decide
      | solve_by_elim (maxDepth := 4)

theorem kp_X7_isTaken  (i0 : Nat) (a1 : Int64) (st : fSt) {s0 : fSt}  (h : kF (fun c => c = 12) s0 st) : kpO (fun c => c = 12) s0 (f_X7_isTaken i0 a1 st) := by
  unfold f_X7_isTaken
  repeat' first
      | assumption
      | (refine kp_some ?_)
      | exact kp_none
      | (with_reducible refine kp_ite ?_ ?_)
      | (with_reducible refine kp_ix ?_)
      | (with_reducible refine kp_nz ?_)
      | (with_reducible refine kp_bo ?_)
      | (with_reducible refine kp_cp ?_)
      | (with_reducible refine kp_nn (fun _ => ?_))
      | (with_reducible refine kp_nu ?_ (fun _ => ?_))
      | (with_reducible refine kp_bd ?_ (fun _ _ _ => ?_))
      | (with_reducible refine kp_lts ?_ (fun _ _ => ?_))
      | (with_reducible refine kp_ltv (fun _ => ?_))
      | (with_reducible refine kp_j0 (fun _ _ => ?_) (fun _ _ => ?_))
      | (with_reducible refine kp_j1 (fun _ _ _ => ?_) (fun _ _ => ?_))
      | (with_reducible refine kp_j2 (fun _ _ _ _ => ?_) (fun _ _ => ?_))
      | (with_reducible refine kF_I (by first | assumption | decide) ?_)
      | (with_reducible refine kF_L (by first | assumption | decide) ?_)
      | (with_reducible refine kF_A (by first | assumption | decide) ?_)
      | (with_reducible refine kF_B (by first | assumption | decide) ?_)
      | (with_reducible refine kF_P (by first | assumption | decide) ?_)
      | (with_reducible apply kp_X5_find)
      | (show ¬ _; decide)
      | decide
      | solve_by_elim (maxDepth := 4)

