/-! frames of the functions, 5 -/
theorem kp_X12_copy_L41  (a1 : Int32) (a2 : Int32) {s0 : fSt}  : ∀ (n : Nat) (z0 : Int32) (s : fSt), kF (fun c => c ≠ 12) s0 s → kpO (fun c => c ≠ 12) s0 (f_X12_copy_L41 a1 a2 n z0 s) := by
  intro n
  induction n with
  | zero => intro z0 s _; unfold f_X12_copy_L41; exact kp_none
  | succ n ih =>
    intro z0 s h
    unfold f_X12_copy_L41
    repeat' first
        | assumption
        | (refine kp_some ?_)
        | exact kp_none
        | (with_reducible refine kp_ite ?_ ?_)
        | (with_reducible refine kp_ix ?_)
        | (with_reducible refine kp_nz ?_)
        | (with_reducible refine kp_bo ?_)
        | (with_reducible refine kp_cp ?_)
        | (with_reducible refine kp_nn (fun _ => ?_))
        | (with_reducible refine kp_nu ?_ (fun _ => ?_))
        | (with_reducible refine kp_bd ?_ (fun _ _ _ => ?_))
        | (with_reducible refine kp_lts ?_ (fun _ _ => ?_))
        | (with_reducible refine kp_ltv (fun _ => ?_))
        | (with_reducible refine kp_j0 (fun _ _ => ?_) (fun _ _ => ?_))
        | (with_reducible refine kp_j1 (fun _ _ _ => ?_) (fun _ _ => ?_))
        | (with_reducible refine kp_j2 (fun _ _ _ _ => ?_) (fun _ _ => ?_))
        | (with_reducible refine kF_I (by first | assumption | decide) ?_)
        | (with_reducible refine kF_L (by first | assumption | decide) ?_)
        | (with_reducible refine kF_A (by first | assumption | decide) ?_)
        | (with_reducible refine kF_B (by first | assumption | decide) ?_)
        | (with_reducible refine kF_P (by first | assumption | decide) ?_)
        | (show ¬ _; decide)
        | decide
        | (apply ih; assumption)
        | solve_by_elim (maxDepth := 4)

theorem kp_X12_copy_L2  (a1 : Int32) (a2 : Int32) (k3 : fSt → Option (Unit × fSt)) {s0 : fSt} (hk3 : ∀ (s : fSt), kF (fun c => c ≠ 12) s0 s → kpO (fun c => c ≠ 12) s0 (k3 s)) : ∀ (n : Nat) (z0 : Int32) (s : fSt), kF (fun c => c ≠ 12) s0 s → kpO (fun c => c ≠ 12) s0 (f_X12_copy_L2 a1 a2 k3 n z0 s) := by
  intro n
  induction n with
  | zero => intro z0 s _; unfold f_X12_copy_L2; exact kp_none
  | succ n ih =>
    intro z0 s h
    unfold f_X12_copy_L2
    repeat' first
        | assumption
        | (refine kp_some ?_)
        | exact kp_none
        | (with_reducible refine kp_ite ?_ ?_)
        | (with_reducible refine kp_ix ?_)
        | (with_reducible refine kp_nz ?_)
        | (with_reducible refine kp_bo ?_)
        | (with_reducible refine kp_cp ?_)
        | (with_reducible refine kp_nn (fun _ => ?_))
        | (with_reducible refine kp_nu ?_ (fun _ => ?_))
        | (with_reducible refine kp_bd ?_ (fun _ _ _ => ?_))
        | (with_reducible refine kp_lts ?_ (fun _ _ => ?_))
        | (with_reducible refine kp_ltv (fun _ => ?_))
        | (with_reducible refine kp_j0 (fun _ _ => ?_) (fun _ _ => ?_))
        | (with_reducible refine kp_j1 (fun _ _ _ => ?_) (fun _ _ => ?_))
        | (with_reducible refine kp_j2 (fun _ _ _ _ => ?_) (fun _ _ => ?_))
        | (with_reducible refine kF_I (by first | assumption | decide) ?_)
        | (with_reducible refine kF_L (by first | assumption | decide) ?_)
        | (with_reducible refine kF_A (by first | assumption | decide) ?_)
        | (with_reducible refine kF_B (by first | assumption | decide) ?_)
        | (with_reducible refine kF_P (by first | assumption | decide) ?_)
        | (show ¬ _; decide)
        | decide
        | (apply ih; assumption)
        | solve_by_elim (maxDepth := 4)

theorem kp_X12_copy  (a1 : Int32) (a2 : Int32) (st : fSt) {s0 : fSt}  (h : kF (fun c => c ≠ 12) s0 st) : kpO (fun c => c ≠ 12) s0 (f_X12_copy a1 a2 st) := by
  unfold f_X12_copy
  repeat' first
      | assumption
      | (refine kp_some ?_)
      | exact kp_none
      | (with_reducible refine kp_ite ?_ ?_)
      | (with_reducible refine kp_ix ?_)
      | (with_reducible refine kp_nz ?_)
      | (with_reducible refine kp_bo ?_)
      | (with_reducible refine kp_cp ?_)
      | (with_reducible refine kp_nn (fun _ => ?_))
      | (with_reducible refine kp_nu ?_ (fun _ => ?_))
      | (with_reducible refine kp_bd ?_ (fun _ _ _ => ?_))
      | (with_reducible refine kp_lts ?_ (fun _ _ => ?_))
      | (with_reducible refine kp_ltv (fun _ => ?_))
      | (with_reducible refine kp_j0 (fun _ _ => ?_) (fun _ _ => ?_))
      | (with_reducible refine kp_j1 (fun _ _ _ => ?_) (fun _ _ => ?_))
      | (with_reducible refine kp_j2 (fun _ _ _ _ => ?_) (fun _ _ => ?_))
      | (with_reducible refine kF_I (by first | assumption | decide) ?_)
      | (with_reducible refine kF_L (by first | assumption | decide) ?_)
      | (with_reducible refine kF_A (by first | assumption | decide) ?_)
      | (with_reducible refine kF_B (by first | assumption | decide) ?_)
      | (with_reducible refine kF_P (by first | assumption | decide) ?_)
      | (with_reducible apply kp_X12_copy_L41)
      | (with_reducible apply kp_X12_copy_L2)
      | (show ¬ _; decide)
      | decide
      | solve_by_elim (maxDepth := 4)

theorem kp_X12_back  (st : fSt) {s0 : fSt}  (h : kF (fun c => c ≠ 12) s0 st) : kpO (fun c => c ≠ 12) s0 (f_X12_back st) := by
  unfold f_X12_back
  repeat' first
      | assumption
      | (refine kp_some ?_)
      | exact kp_none
      | (with_reducible refine kp_ite ?_ ?_)
      | (with_reducible refine kp_ix ?_)
      | (with_reducible refine kp_nz ?_)
      | (with_reducible refine kp_bo ?_)
      | (with_reducible refine kp_cp ?_)
      | (with_reducible refine kp_nn (fun _ => ?_))
      | (with_reducible refine kp_nu ?_ (fun _ => ?_))
      | (with_reducible refine kp_bd ?_ (fun _ _ _ => ?_))
      | (with_reducible refine kp_lts ?_ (fun _ _ => ?_))
      | (with_reducible refine kp_ltv (fun _ => ?_))
      | (with_reducible refine kp_j0 (fun _ _ => ?_) (fun _ _ => ?_))
      | (with_reducible refine kp_j1 (fun _ _ _ => ?_) (fun _ _ => ?_))
      | (with_reducible refine kp_j2 (fun _ _ _ _ => ?_) (fun _ _ => ?_))
      | (with_reducible refine kF_I (by first | assumption | decide) ?_)
      | (with_reducible refine kF_L (by first | assumption | decide) ?_)
      | (with_reducible refine kF_A (by first | assumption | decide) ?_)
      | (with_reducible refine kF_B (by first | assumption | decide) ?_)
      | (with_reducible refine kF_P (by first | assumption | decide) ?_)
      | (with_reducible apply kp_X12_copy)
      | (with_reducible apply kp_X12_refuse)
      | (show ¬ _; decide)
      | decide
      | solve_by_elim (maxDepth := 4)

theorem kp_X12_isSceneAt  (a1 : Int32) (st : fSt) {s0 : fSt}  (h : kF (fun c => c ≠ 12) s0 st) : kpO (fun c => c ≠ 12) s0 (f_X12_isSceneAt a1 st) := by
  unfold f_X12_isSceneAt
  repeat' first
      | assumption
      | (refine kp_some ?_)
      | exact kp_none
      | (with_reducible refine kp_ite ?_ ?_)
      | (with_reducible refine kp_ix ?_)
      | (with_reducible refine kp_nz ?_)
      | (with_reducible refine kp_bo ?_)
      | (with_reducible refine kp_cp ?_)
      | (with_reducible refine kp_nn (fun _ => ?_))
      | (with_reducible refine kp_nu ?_ (fun _ => ?_))
      | (with_reducible refine kp_bd ?_ (fun _ _ _ => ?_))
      | (with_reducible refine kp_lts ?_ (fun _ _ => ?_))
      | (with_reducible refine kp_ltv (fun _ => ?_))
      | (with_reducible refine kp_j0 (fun _ _ => ?_) (fun _ _ => ?_))
      | (with_reducible refine kp_j1 (fun _ _ _ => ?_) (fun _ _ => ?_))
      | (with_reducible refine kp_j2 (fun _ _ _ _ => ?_) (fun _ _ => ?_))
      | (with_reducible refine kF_I (by first | assumption | decide) ?_)
      | (with_reducible refine kF_L (by first | assumption | decide) ?_)
      | (with_reducible refine kF_A (by first | assumption | decide) ?_)
      | (with_reducible refine kF_B (by first | assumption | decide) ?_)
      | (with_reducible refine kF_P (by first | assumption | decide) ?_)
      | (with_reducible apply kp_X12_isIn)
      | (show ¬ _; decide)
      | decide
      | solve_by_elim (maxDepth := 4)

theorem kp_X12_no  (a1 : Int32) (st : fSt) {s0 : fSt}  (h : kF (fun c => c ≠ 12) s0 st) : kpO (fun c => c ≠ 12) s0 (f_X12_no a1 st) := by
  unfold f_X12_no
  repeat' first
      | assumption
      | (refine kp_some ?_)
      | exact kp_none
      | (with_reducible refine kp_ite ?_ ?_)
      | (with_reducible refine kp_ix ?_)
      | (with_reducible refine kp_nz ?_)
      | (with_reducible refine kp_bo ?_)
      | (with_reducible refine kp_cp ?_)
      | (with_reducible refine kp_nn (fun _ => ?_))
      | (with_reducible refine kp_nu ?_ (fun _ => ?_))
      | (with_reducible refine kp_bd ?_ (fun _ _ _ => ?_))
      | (with_reducible refine kp_lts ?_ (fun _ _ => ?_))
      | (with_reducible refine kp_ltv (fun _ => ?_))
      | (with_reducible refine kp_j0 (fun _ _ => ?_) (fun _ _ => ?_))
      | (with_reducible refine kp_j1 (fun _ _ _ => ?_) (fun _ _ => ?_))
      | (with_reducible refine kp_j2 (fun _ _ _ _ => ?_) (fun _ _ => ?_))
      | (with_reducible refine kF_I (by first | assumption | decide) ?_)
      | (with_reducible refine kF_L (by first | assumption | decide) ?_)
      | (with_reducible refine kF_A (by first | assumption | decide) ?_)
      | (with_reducible refine kF_B (by first | assumption | decide) ?_)
      | (with_reducible refine kF_P (by first | assumption | decide) ?_)
      | (show ¬ _; decide)
      | decide
      | solve_by_elim (maxDepth := 4)

theorem kp_X12_with  (a0 : Int32) (a1 : Int32) (a2 : Int32) (st : fSt) {s0 : fSt}  (h : kF (fun c => c ≠ 12) s0 st) : kpO (fun c => c ≠ 12) s0 (f_X12_with a0 a1 a2 st) := by
  unfold f_X12_with
  repeat' first
      | assumption
      | (refine kp_some ?_)
      | exact kp_none
      | (with_reducible refine kp_ite ?_ ?_)
      | (with_reducible refine kp_ix ?_)
      | (with_reducible refine kp_nz ?_)
      | (with_reducible refine kp_bo ?_)
      | (with_reducible refine kp_cp ?_)
      | (with_reducible refine kp_nn (fun _ => ?_))
      | (with_reducible refine kp_nu ?_ (fun _ => ?_))
      | (with_reducible refine kp_bd ?_ (fun _ _ _ => ?_))
      | (with_reducible refine kp_lts ?_ (fun _ _ => ?_))
      | (with_reducible refine kp_ltv (fun _ => ?_))
      | (with_reducible refine kp_j0 (fun _ _ => ?_) (fun _ _ => ?_))
      | (with_reducible refine kp_j1 (fun _ _ _ => ?_) (fun _ _ => ?_))
      | (with_reducible refine kp_j2 (fun _ _ _ _ => ?_) (fun _ _ => ?_))
      | (with_reducible refine kF_I (by first | assumption | decide) ?_)
      | (with_reducible refine kF_L (by first | assumption | decide) ?_)
      | (with_reducible refine kF_A (by first | assumption | decide) ?_)
      | (with_reducible refine kF_B (by first | assumption | decide) ?_)
      | (with_reducible refine kF_P (by first | assumption | decide) ?_)
      | (show ¬ _; decide)
      | decide
      | solve_by_elim (maxDepth := 4)

theorem kp_X12_bar  (a1 : Int32) (a2 : Int32) (st : fSt) {s0 : fSt}  (h : kF (fun c => c ≠ 12) s0 st) : kpO (fun c => c ≠ 12) s0 (f_X12_bar a1 a2 st) := by
  unfold f_X12_bar
  repeat' first
      | assumption
      | (refine kp_some ?_)
      | exact kp_none
      | (with_reducible refine kp_ite ?_ ?_)
      | (with_reducible refine kp_ix ?_)
      | (with_reducible refine kp_nz ?_)
      | (with_reducible refine kp_bo ?_)
      | (with_reducible refine kp_cp ?_)
      | (with_reducible refine kp_nn (fun _ => ?_))
      | (with_reducible refine kp_nu ?_ (fun _ => ?_))
      | (with_reducible refine kp_bd ?_ (fun _ _ _ => ?_))
      | (with_reducible refine kp_lts ?_ (fun _ _ => ?_))
      | (with_reducible refine kp_ltv (fun _ => ?_))
      | (with_reducible refine kp_j0 (fun _ _ => ?_) (fun _ _ => ?_))
      | (with_reducible refine kp_j1 (fun _ _ _ => ?_) (fun _ _ => ?_))
      | (with_reducible refine kp_j2 (fun _ _ _ _ => ?_) (fun _ _ => ?_))
      | (with_reducible refine kF_I (by first | assumption | decide) ?_)
      | (with_reducible refine kF_L (by first | assumption | decide) ?_)
      | (with_reducible refine kF_A (by first | assumption | decide) ?_)
      | (with_reducible refine kF_B (by first | assumption | decide) ?_)
      | (with_reducible refine kF_P (by first | assumption | decide) ?_)
      | (with_reducible apply kp_X12_isSceneAt)
      | (with_reducible apply kp_X12_with)
      | (with_reducible apply kp_X12_no)
      | (show ¬ _; decide)
      | decide
      | solve_by_elim (maxDepth := 4)

theorem kp_X12_kills  (a1 : Int32) (a2 : Int32) (st : fSt) {s0 : fSt}  (h : kF (fun c => c ≠ 12) s0 st) : kpO (fun c => c ≠ 12) s0 (f_X12_kills a1 a2 st) := by
  unfold f_X12_kills
  repeat' first
      | assumption
      | (refine kp_some ?_)
      | exact kp_none
      | (with_reducible refine kp_ite ?_ ?_)
      | (with_reducible refine kp_ix ?_)
      | (with_reducible refine kp_nz ?_)
      | (with_reducible refine kp_bo ?_)
      | (with_reducible refine kp_cp ?_)
      | (with_reducible refine kp_nn (fun _ => ?_))
      | (with_reducible refine kp_nu ?_ (fun _ => ?_))
      | (with_reducible refine kp_bd ?_ (fun _ _ _ => ?_))
      | (with_reducible refine kp_lts ?_ (fun _ _ => ?_))
      | (with_reducible refine kp_ltv (fun _ => ?_))
      | (with_reducible refine kp_j0 (fun _ _ => ?_) (fun _ _ => ?_))
      | (with_reducible refine kp_j1 (fun _ _ _ => ?_) (fun _ _ => ?_))
      | (with_reducible refine kp_j2 (fun _ _ _ _ => ?_) (fun _ _ => ?_))
      | (with_reducible refine kF_I (by first | assumption | decide) ?_)
      | (with_reducible refine kF_L (by first | assumption | decide) ?_)
      | (with_reducible refine kF_A (by first | assumption | decide) ?_)
      | (with_reducible refine kF_B (by first | assumption | decide) ?_)
      | (with_reducible refine kF_P (by first | assumption | decide) ?_)
      | (show ¬ _; decide)
      | decide
      | solve_by_elim (maxDepth := 4)

theorem kp_X12_canPlay  (a1 : Int32) (a2 : Int32) (st : fSt) {s0 : fSt}  (h : kF (fun c => c ≠ 12) s0 st) : kpO (fun c => c ≠ 12) s0 (f_X12_canPlay a1 a2 st) := by
  unfold f_X12_canPlay
  repeat' first
      | assumption
      | (refine kp_some ?_)
      | exact kp_none
      | (with_reducible refine kp_ite ?_ ?_)
      | (with_reducible refine kp_ix ?_)
      | (with_reducible refine kp_nz ?_)
      | (with_reducible refine kp_bo ?_)
      | (with_reducible refine kp_cp ?_)
      | (with_reducible refine kp_nn (fun _ => ?_))
      | (with_reducible refine kp_nu ?_ (fun _ => ?_))
      | (with_reducible refine kp_bd ?_ (fun _ _ _ => ?_))
      | (with_reducible refine kp_lts ?_ (fun _ _ => ?_))
      | (with_reducible refine kp_ltv (fun _ => ?_))
      | (with_reducible refine kp_j0 (fun _ _ => ?_) (fun _ _ => ?_))
      | (with_reducible refine kp_j1 (fun _ _ _ => ?_) (fun _ _ => ?_))
      | (with_reducible refine kp_j2 (fun _ _ _ _ => ?_) (fun _ _ => ?_))
      | (with_reducible refine kF_I (by first | assumption | decide) ?_)
      | (with_reducible refine kF_L (by first | assumption | decide) ?_)
      | (with_reducible refine kF_A (by first | assumption | decide) ?_)
      | (with_reducible refine kF_B (by first | assumption | decide) ?_)
      | (with_reducible refine kF_P (by first | assumption | decide) ?_)
      | (with_reducible apply kp_X12_has)
      | (show ¬ _; decide)
      | decide
      | solve_by_elim (maxDepth := 4)

theorem kp_X12_behind2  (a1 : Int32) (a2 : Int32) (a3 : Int32) (st : fSt) {s0 : fSt}  (h : kF (fun c => c ≠ 12) s0 st) : kpO (fun c => c ≠ 12) s0 (f_X12_behind2 a1 a2 a3 st) := by
  unfold f_X12_behind2
  repeat' first
      | assumption
      | (refine kp_some ?_)
      | exact kp_none
      | (with_reducible refine kp_ite ?_ ?_)
      | (with_reducible refine kp_ix ?_)
      | (with_reducible refine kp_nz ?_)
      | (with_reducible refine kp_bo ?_)
      | (with_reducible refine kp_cp ?_)
      | (with_reducible refine kp_nn (fun _ => ?_))
      | (with_reducible refine kp_nu ?_ (fun _ => ?_))
      | (with_reducible refine kp_bd ?_ (fun _ _ _ => ?_))
      | (with_reducible refine kp_lts ?_ (fun _ _ => ?_))
      | (with_reducible refine kp_ltv (fun _ => ?_))
      | (with_reducible refine kp_j0 (fun _ _ => ?_) (fun _ _ => ?_))
      | (with_reducible refine kp_j1 (fun _ _ _ => ?_) (fun _ _ => ?_))
      | (with_reducible refine kp_j2 (fun _ _ _ _ => ?_) (fun _ _ => ?_))
      | (with_reducible refine kF_I (by first | assumption | decide) ?_)
      | (with_reducible refine kF_L (by first | assumption | decide) ?_)
      | (with_reducible refine kF_A (by first | assumption | decide) ?_)
      | (with_reducible refine kF_B (by first | assumption | decide) ?_)
      | (with_reducible refine kF_P (by first | assumption | decide) ?_)
      | (with_reducible apply kp_X12_kills)
      | (with_reducible apply kp_X12_canPlay)
      | (show ¬ _; decide)
      | decide
      | solve_by_elim (maxDepth := 4)

theorem kp_X12_bits_L4  (a0 : Int32) {s0 : fSt}  : ∀ (n : Nat) (z0 : Int32) (z1 : Int32) (s : fSt), kF (fun c => c ≠ 12) s0 s → kpO (fun c => c ≠ 12) s0 (f_X12_bits_L4 a0 n z0 z1 s) := by
  intro n
  induction n with
  | zero => intro z0 z1 s _; unfold f_X12_bits_L4; exact kp_none
  | succ n ih =>
    intro z0 z1 s h
    unfold f_X12_bits_L4
    repeat' first
        | assumption
        | (refine kp_some ?_)
        | exact kp_none
        | (with_reducible refine kp_ite ?_ ?_)
        | (with_reducible refine kp_ix ?_)
        | (with_reducible refine kp_nz ?_)
        | (with_reducible refine kp_bo ?_)
        | (with_reducible refine kp_cp ?_)
        | (with_reducible refine kp_nn (fun _ => ?_))
        | (with_reducible refine kp_nu ?_ (fun _ => ?_))
        | (with_reducible refine kp_bd ?_ (fun _ _ _ => ?_))
        | (with_reducible refine kp_lts ?_ (fun _ _ => ?_))
        | (with_reducible refine kp_ltv (fun _ => ?_))
        | (with_reducible refine kp_j0 (fun _ _ => ?_) (fun _ _ => ?_))
        | (with_reducible refine kp_j1 (fun _ _ _ => ?_) (fun _ _ => ?_))
        | (with_reducible refine kp_j2 (fun _ _ _ _ => ?_) (fun _ _ => ?_))
        | (with_reducible refine kF_I (by first | assumption | decide) ?_)
        | (with_reducible refine kF_L (by first | assumption | decide) ?_)
        | (with_reducible refine kF_A (by first | assumption | decide) ?_)
        | (with_reducible refine kF_B (by first | assumption | decide) ?_)
        | (with_reducible refine kF_P (by first | assumption | decide) ?_)
        | (show ¬ _; decide)
        | decide
        | (apply ih; assumption)
        | solve_by_elim (maxDepth := 4)

theorem kp_X12_bits  (a0 : Int32) (st : fSt) {s0 : fSt}  (h : kF (fun c => c ≠ 12) s0 st) : kpO (fun c => c ≠ 12) s0 (f_X12_bits a0 st) := by
  unfold f_X12_bits
  repeat' first
      | assumption
      | (refine kp_some ?_)
      | exact kp_none
      | (with_reducible refine kp_ite ?_ ?_)
      | (with_reducible refine kp_ix ?_)
      | (with_reducible refine kp_nz ?_)
      | (with_reducible refine kp_bo ?_)
      | (with_reducible refine kp_cp ?_)
      | (with_reducible refine kp_nn (fun _ => ?_))
      | (with_reducible refine kp_nu ?_ (fun _ => ?_))
      | (with_reducible refine kp_bd ?_ (fun _ _ _ => ?_))
      | (with_reducible refine kp_lts ?_ (fun _ _ => ?_))
      | (with_reducible refine kp_ltv (fun _ => ?_))
      | (with_reducible refine kp_j0 (fun _ _ => ?_) (fun _ _ => ?_))
      | (with_reducible refine kp_j1 (fun _ _ _ => ?_) (fun _ _ => ?_))
      | (with_reducible refine kp_j2 (fun _ _ _ _ => ?_) (fun _ _ => ?_))
      | (with_reducible refine kF_I (by first | assumption | decide) ?_)
      | (with_reducible refine kF_L (by first | assumption | decide) ?_)
      | (with_reducible refine kF_A (by first | assumption | decide) ?_)
      | (with_reducible refine kF_B (by first | assumption | decide) ?_)
      | (with_reducible refine kF_P (by first | assumption | decide) ?_)
      | (with_reducible apply kp_X12_bits_L4)
      | (show ¬ _; decide)
      | decide
      | solve_by_elim (maxDepth := 4)

theorem kp_X12_book  (a1 : Int32) (a2 : Int32) (st : fSt) {s0 : fSt}  (h : kF (fun c => c ≠ 12) s0 st) : kpO (fun c => c ≠ 12) s0 (f_X12_book a1 a2 st) := by
  unfold f_X12_book
  repeat' first
      | assumption
      | (refine kp_some ?_)
      | exact kp_none
      | (with_reducible refine kp_ite ?_ ?_)
      | (with_reducible refine kp_ix ?_)
      | (with_reducible refine kp_nz ?_)
      | (with_reducible refine kp_bo ?_)
      | (with_reducible refine kp_cp ?_)
      | (with_reducible refine kp_nn (fun _ => ?_))
      | (with_reducible refine kp_nu ?_ (fun _ => ?_))
      | (with_reducible refine kp_bd ?_ (fun _ _ _ => ?_))
      | (with_reducible refine kp_lts ?_ (fun _ _ => ?_))
      | (with_reducible refine kp_ltv (fun _ => ?_))
      | (with_reducible refine kp_j0 (fun _ _ => ?_) (fun _ _ => ?_))
      | (with_reducible refine kp_j1 (fun _ _ _ => ?_) (fun _ _ => ?_))
      | (with_reducible refine kp_j2 (fun _ _ _ _ => ?_) (fun _ _ => ?_))
      | (with_reducible refine kF_I (by first | assumption | decide) ?_)
      | (with_reducible refine kF_L (by first | assumption | decide) ?_)
      | (with_reducible refine kF_A (by first | assumption | decide) ?_)
      | (with_reducible refine kF_B (by first | assumption | decide) ?_)
      | (with_reducible refine kF_P (by first | assumption | decide) ?_)
      | (with_reducible apply kp_X12_isIn)
      | (with_reducible apply kp_X12_refuse)
      | (show ¬ _; decide)
      | decide
      | solve_by_elim (maxDepth := 4)

theorem kp_X12_books_L9  (x9 : Int32) (k14 : fSt → Option (Unit × fSt)) {s0 : fSt} (hk14 : ∀ (s : fSt), kF (fun c => c ≠ 12) s0 s → kpO (fun c => c ≠ 12) s0 (k14 s)) : ∀ (n : Nat) (z0 : Int32) (s : fSt), kF (fun c => c ≠ 12) s0 s → kpO (fun c => c ≠ 12) s0 (f_X12_books_L9 x9 k14 n z0 s) := by
  intro n
  induction n with
  | zero => intro z0 s _; unfold f_X12_books_L9; exact kp_none
  | succ n ih =>
    intro z0 s h
    unfold f_X12_books_L9
    repeat' first
        | assumption
        | (refine kp_some ?_)
        | exact kp_none
        | (with_reducible refine kp_ite ?_ ?_)
        | (with_reducible refine kp_ix ?_)
        | (with_reducible refine kp_nz ?_)
        | (with_reducible refine kp_bo ?_)
        | (with_reducible refine kp_cp ?_)
        | (with_reducible refine kp_nn (fun _ => ?_))
        | (with_reducible refine kp_nu ?_ (fun _ => ?_))
        | (with_reducible refine kp_bd ?_ (fun _ _ _ => ?_))
        | (with_reducible refine kp_lts ?_ (fun _ _ => ?_))
        | (with_reducible refine kp_ltv (fun _ => ?_))
        | (with_reducible refine kp_j0 (fun _ _ => ?_) (fun _ _ => ?_))
        | (with_reducible refine kp_j1 (fun _ _ _ => ?_) (fun _ _ => ?_))
        | (with_reducible refine kp_j2 (fun _ _ _ _ => ?_) (fun _ _ => ?_))
        | (with_reducible refine kF_I (by first | assumption | decide) ?_)
        | (with_reducible refine kF_L (by first | assumption | decide) ?_)
        | (with_reducible refine kF_A (by first | assumption | decide) ?_)
        | (with_reducible refine kF_B (by first | assumption | decide) ?_)
        | (with_reducible refine kF_P (by first | assumption | decide) ?_)
        | (show ¬ _; decide)
        | decide
        | (apply ih; assumption)
        | solve_by_elim (maxDepth := 4)

theorem kp_X12_books_L3  (k3 : fSt → Option (Unit × fSt)) {s0 : fSt} (hk3 : ∀ (s : fSt), kF (fun c => c ≠ 12) s0 s → kpO (fun c => c ≠ 12) s0 (k3 s)) : ∀ (n : Nat) (z0 : Int32) (s : fSt), kF (fun c => c ≠ 12) s0 s → kpO (fun c => c ≠ 12) s0 (f_X12_books_L3 k3 n z0 s) := by
  intro n
  induction n with
  | zero => intro z0 s _; unfold f_X12_books_L3; exact kp_none
  | succ n ih =>
    intro z0 s h
    unfold f_X12_books_L3
    repeat' first
        | assumption
        | (refine kp_some ?_)
        | exact kp_none
        | (with_reducible refine kp_ite ?_ ?_)
        | (with_reducible refine kp_ix ?_)
        | (with_reducible refine kp_nz ?_)
        | (with_reducible refine kp_bo ?_)
        | (with_reducible refine kp_cp ?_)
        | (with_reducible refine kp_nn (fun _ => ?_))
        | (with_reducible refine kp_nu ?_ (fun _ => ?_))
        | (with_reducible refine kp_bd ?_ (fun _ _ _ => ?_))
        | (with_reducible refine kp_lts ?_ (fun _ _ => ?_))
        | (with_reducible refine kp_ltv (fun _ => ?_))
        | (with_reducible refine kp_j0 (fun _ _ => ?_) (fun _ _ => ?_))
        | (with_reducible refine kp_j1 (fun _ _ _ => ?_) (fun _ _ => ?_))
        | (with_reducible refine kp_j2 (fun _ _ _ _ => ?_) (fun _ _ => ?_))
        | (with_reducible refine kF_I (by first | assumption | decide) ?_)
        | (with_reducible refine kF_L (by first | assumption | decide) ?_)
        | (with_reducible refine kF_A (by first | assumption | decide) ?_)
        | (with_reducible refine kF_B (by first | assumption | decide) ?_)
        | (with_reducible refine kF_P (by first | assumption | decide) ?_)
        | (with_reducible apply kp_X12_books_L9)
        | (show ¬ _; decide)
        | decide
        | (apply ih; assumption)
        | solve_by_elim (maxDepth := 4)

theorem kp_X12_books  (a1 : Int32) (st : fSt) {s0 : fSt}  (h : kF (fun c => c ≠ 12) s0 st) : kpO (fun c => c ≠ 12) s0 (f_X12_books a1 st) := by
  unfold f_X12_books
  repeat' first
      | assumption
      | (refine kp_some ?_)
      | exact kp_none
      | (with_reducible refine kp_ite ?_ ?_)
      | (with_reducible refine kp_ix ?_)
      | (with_reducible refine kp_nz ?_)
      | (with_reducible refine kp_bo ?_)
      | (with_reducible refine kp_cp ?_)
      | (with_reducible refine kp_nn (fun _ => ?_))
      | (with_reducible refine kp_nu ?_ (fun _ => ?_))
      | (with_reducible refine kp_bd ?_ (fun _ _ _ => ?_))
      | (with_reducible refine kp_lts ?_ (fun _ _ => ?_))
      | (with_reducible refine kp_ltv (fun _ => ?_))
      | (with_reducible refine kp_j0 (fun _ _ => ?_) (fun _ _ => ?_))
      | (with_reducible refine kp_j1 (fun _ _ _ => ?_) (fun _ _ => ?_))
      | (with_reducible refine kp_j2 (fun _ _ _ _ => ?_) (fun _ _ => ?_))
      | (with_reducible refine kF_I (by first | assumption | decide) ?_)
      | (with_reducible refine kF_L (by first | assumption | decide) ?_)
      | (with_reducible refine kF_A (by first | assumption | decide) ?_)
      | (with_reducible refine kF_B (by first | assumption | decide) ?_)
      | (with_reducible refine kF_P (by first | assumption | decide) ?_)
      | (with_reducible apply kp_X12_books_L3)
      | (show ¬ _; decide)
      | decide
      | solve_by_elim (maxDepth := 4)

theorem kp_X12_bottom  (st : fSt) {s0 : fSt}  (h : kF (fun c => c ≠ 12) s0 st) : kpO (fun c => c ≠ 12) s0 (f_X12_bottom st) := by
  unfold f_X12_bottom
  repeat' first
      | assumption
      | (refine kp_some ?_)
      | exact kp_none
      | (with_reducible refine kp_ite ?_ ?_)
      | (with_reducible refine kp_ix ?_)
      | (with_reducible refine kp_nz ?_)
      | (with_reducible refine kp_bo ?_)
      | (with_reducible refine kp_cp ?_)
      | (with_reducible refine kp_nn (fun _ => ?_))
      | (with_reducible refine kp_nu ?_ (fun _ => ?_))
      | (with_reducible refine kp_bd ?_ (fun _ _ _ => ?_))
      | (with_reducible refine kp_lts ?_ (fun _ _ => ?_))
      | (with_reducible refine kp_ltv (fun _ => ?_))
      | (with_reducible refine kp_j0 (fun _ _ => ?_) (fun _ _ => ?_))
      | (with_reducible refine kp_j1 (fun _ _ _ => ?_) (fun _ _ => ?_))
      | (with_reducible refine kp_j2 (fun _ _ _ _ => ?_) (fun _ _ => ?_))
      | (with_reducible refine kF_I (by first | assumption | decide) ?_)
      | (with_reducible refine kF_L (by first | assumption | decide) ?_)
      | (with_reducible refine kF_A (by first | assumption | decide) ?_)
      | (with_reducible refine kF_B (by first | assumption | decide) ?_)
      | (with_reducible refine kF_P (by first | assumption | decide) ?_)
      | (show ¬ _; decide)
      | decide
      | solve_by_elim (maxDepth := 4)

theorem kp_X12_isRoleAt  (a1 : Int32) (st : fSt) {s0 : fSt}  (h : kF (fun c => c ≠ 12) s0 st) : kpO (fun c => c ≠ 12) s0 (f_X12_isRoleAt a1 st) := by
  unfold f_X12_isRoleAt
  repeat' first
      | assumption
      | (refine kp_some ?_)
      | exact kp_none
      | (with_reducible refine kp_ite ?_ ?_)
      | (with_reducible refine kp_ix ?_)
      | (with_reducible refine kp_nz ?_)
      | (with_reducible refine kp_bo ?_)
      | (with_reducible refine kp_cp ?_)
      | (with_reducible refine kp_nn (fun _ => ?_))
      | (with_reducible refine kp_nu ?_ (fun _ => ?_))
      | (with_reducible refine kp_bd ?_ (fun _ _ _ => ?_))
      | (with_reducible refine kp_lts ?_ (fun _ _ => ?_))
      | (with_reducible refine kp_ltv (fun _ => ?_))
      | (with_reducible refine kp_j0 (fun _ _ => ?_) (fun _ _ => ?_))
      | (with_reducible refine kp_j1 (fun _ _ _ => ?_) (fun _ _ => ?_))
      | (with_reducible refine kp_j2 (fun _ _ _ _ => ?_) (fun _ _ => ?_))
      | (with_reducible refine kF_I (by first | assumption | decide) ?_)
      | (with_reducible refine kF_L (by first | assumption | decide) ?_)
      | (with_reducible refine kF_A (by first | assumption | decide) ?_)
      | (with_reducible refine kF_B (by first | assumption | decide) ?_)
      | (with_reducible refine kF_P (by first | assumption | decide) ?_)
      | (with_reducible apply kp_X12_isIn)
      | (show ¬ _; decide)
      | decide
      | solve_by_elim (maxDepth := 4)

theorem kp_X12_breathsFor_L5  (a1 : Int32) (a2 : Int32) {s0 : fSt}  : ∀ (n : Nat) (z0 : Int32) (z1 : Int32) (s : fSt), kF (fun c => c ≠ 12) s0 s → kpO (fun c => c ≠ 12) s0 (f_X12_breathsFor_L5 a1 a2 n z0 z1 s) := by
  intro n
  induction n with
  | zero => intro z0 z1 s _; unfold f_X12_breathsFor_L5; exact kp_none
  | succ n ih =>
    intro z0 z1 s h
    unfold f_X12_breathsFor_L5
    repeat' first
        | assumption
        | (refine kp_some ?_)
        | exact kp_none
        | (with_reducible refine kp_ite ?_ ?_)
        | (with_reducible refine kp_ix ?_)
        | (with_reducible refine kp_nz ?_)
        | (with_reducible refine kp_bo ?_)
        | (with_reducible refine kp_cp ?_)
        | (with_reducible refine kp_nn (fun _ => ?_))
        | (with_reducible refine kp_nu ?_ (fun _ => ?_))
        | (with_reducible refine kp_bd ?_ (fun _ _ _ => ?_))
        | (with_reducible refine kp_lts ?_ (fun _ _ => ?_))
        | (with_reducible refine kp_ltv (fun _ => ?_))
        | (with_reducible refine kp_j0 (fun _ _ => ?_) (fun _ _ => ?_))
        | (with_reducible refine kp_j1 (fun _ _ _ => ?_) (fun _ _ => ?_))
        | (with_reducible refine kp_j2 (fun _ _ _ _ => ?_) (fun _ _ => ?_))
        | (with_reducible refine kF_I (by first | assumption | decide) ?_)
        | (with_reducible refine kF_L (by first | assumption | decide) ?_)
        | (with_reducible refine kF_A (by first | assumption | decide) ?_)
        | (with_reducible refine kF_B (by first | assumption | decide) ?_)
        | (with_reducible refine kF_P (by first | assumption | decide) ?_)
        | (with_reducible apply kp_X12_has)
        | (show ¬ _; decide)
        | decide
        | (apply ih; assumption)
        | solve_by_elim (maxDepth := 4)

theorem kp_X12_breathsFor  (a1 : Int32) (a2 : Int32) (st : fSt) {s0 : fSt}  (h : kF (fun c => c ≠ 12) s0 st) : kpO (fun c => c ≠ 12) s0 (f_X12_breathsFor a1 a2 st) := by
  unfold f_X12_breathsFor
  repeat' first
      | assumption
      | (refine kp_some ?_)
      | exact kp_none
      | (with_reducible refine kp_ite ?_ ?_)
      | (with_reducible refine kp_ix ?_)
      | (with_reducible refine kp_nz ?_)
      | (with_reducible refine kp_bo ?_)
      | (with_reducible refine kp_cp ?_)
      | (with_reducible refine kp_nn (fun _ => ?_))
      | (with_reducible refine kp_nu ?_ (fun _ => ?_))
      | (with_reducible refine kp_bd ?_ (fun _ _ _ => ?_))
      | (with_reducible refine kp_lts ?_ (fun _ _ => ?_))
      | (with_reducible refine kp_ltv (fun _ => ?_))
      | (with_reducible refine kp_j0 (fun _ _ => ?_) (fun _ _ => ?_))
      | (with_reducible refine kp_j1 (fun _ _ _ => ?_) (fun _ _ => ?_))
      | (with_reducible refine kp_j2 (fun _ _ _ _ => ?_) (fun _ _ => ?_))
      | (with_reducible refine kF_I (by first | assumption | decide) ?_)
      | (with_reducible refine kF_L (by first | assumption | decide) ?_)
      | (with_reducible refine kF_A (by first | assumption | decide) ?_)
      | (with_reducible refine kF_B (by first | assumption | decide) ?_)
      | (with_reducible refine kF_P (by first | assumption | decide) ?_)
      | (with_reducible apply kp_X12_breathsFor_L5)
      | (show ¬ _; decide)
      | decide
      | solve_by_elim (maxDepth := 4)

theorem kp_X12_breaths  (a1 : Int32) (a2 : Int32) (st : fSt) {s0 : fSt}  (h : kF (fun c => c ≠ 12) s0 st) : kpO (fun c => c ≠ 12) s0 (f_X12_breaths a1 a2 st) := by
  unfold f_X12_breaths
  repeat' first
      | assumption
      | (refine kp_some ?_)
      | exact kp_none
      | (with_reducible refine kp_ite ?_ ?_)
      | (with_reducible refine kp_ix ?_)
      | (with_reducible refine kp_nz ?_)
      | (with_reducible refine kp_bo ?_)
      | (with_reducible refine kp_cp ?_)
      | (with_reducible refine kp_nn (fun _ => ?_))
      | (with_reducible refine kp_nu ?_ (fun _ => ?_))
      | (with_reducible refine kp_bd ?_ (fun _ _ _ => ?_))
      | (with_reducible refine kp_lts ?_ (fun _ _ => ?_))
      | (with_reducible refine kp_ltv (fun _ => ?_))
      | (with_reducible refine kp_j0 (fun _ _ => ?_) (fun _ _ => ?_))
      | (with_reducible refine kp_j1 (fun _ _ _ => ?_) (fun _ _ => ?_))
      | (with_reducible refine kp_j2 (fun _ _ _ _ => ?_) (fun _ _ => ?_))
      | (with_reducible refine kF_I (by first | assumption | decide) ?_)
      | (with_reducible refine kF_L (by first | assumption | decide) ?_)
      | (with_reducible refine kF_A (by first | assumption | decide) ?_)
      | (with_reducible refine kF_B (by first | assumption | decide) ?_)
      | (with_reducible refine kF_P (by first | assumption | decide) ?_)
      | (with_reducible apply kp_X12_isRoleAt)
      | (with_reducible apply kp_X12_isIn)
      | (with_reducible apply kp_X12_refuse)
      | (with_reducible apply kp_X12_breathsFor)
      | (show ¬ _; decide)
      | decide
      | solve_by_elim (maxDepth := 4)

theorem kp_X12_breathsOf  (a1 : Int32) (st : fSt) {s0 : fSt}  (h : kF (fun c => c ≠ 12) s0 st) : kpO (fun c => c ≠ 12) s0 (f_X12_breathsOf a1 st) := by
  unfold f_X12_breathsOf
  repeat' first
      | assumption
      | (refine kp_some ?_)
      | exact kp_none
      | (with_reducible refine kp_ite ?_ ?_)
      | (with_reducible refine kp_ix ?_)
      | (with_reducible refine kp_nz ?_)
      | (with_reducible refine kp_bo ?_)
      | (with_reducible refine kp_cp ?_)
      | (with_reducible refine kp_nn (fun _ => ?_))
      | (with_reducible refine kp_nu ?_ (fun _ => ?_))
      | (with_reducible refine kp_bd ?_ (fun _ _ _ => ?_))
      | (with_reducible refine kp_lts ?_ (fun _ _ => ?_))
      | (with_reducible refine kp_ltv (fun _ => ?_))
      | (with_reducible refine kp_j0 (fun _ _ => ?_) (fun _ _ => ?_))
      | (with_reducible refine kp_j1 (fun _ _ _ => ?_) (fun _ _ => ?_))
      | (with_reducible refine kp_j2 (fun _ _ _ _ => ?_) (fun _ _ => ?_))
      | (with_reducible refine kF_I (by first | assumption | decide) ?_)
      | (with_reducible refine kF_L (by first | assumption | decide) ?_)
      | (with_reducible refine kF_A (by first | assumption | decide) ?_)
      | (with_reducible refine kF_B (by first | assumption | decide) ?_)
      | (with_reducible refine kF_P (by first | assumption | decide) ?_)
      | (with_reducible apply kp_X12_bits)
      | (show ¬ _; decide)
      | decide
      | solve_by_elim (maxDepth := 4)

theorem kp_X12_noRows_L51  (k9 : fSt → Option (Unit × fSt)) {s0 : fSt} (hk9 : ∀ (s : fSt), kF (fun c => c ≠ 12) s0 s → kpO (fun c => c ≠ 12) s0 (k9 s)) : ∀ (n : Nat) (z0 : Int32) (s : fSt), kF (fun c => c ≠ 12) s0 s → kpO (fun c => c ≠ 12) s0 (f_X12_noRows_L51 k9 n z0 s) := by
  intro n
  induction n with
  | zero => intro z0 s _; unfold f_X12_noRows_L51; exact kp_none
  | succ n ih =>
    intro z0 s h
    unfold f_X12_noRows_L51
    repeat' first
        | assumption
        | (refine kp_some ?_)
        | exact kp_none
        | (with_reducible refine kp_ite ?_ ?_)
        | (with_reducible refine kp_ix ?_)
        | (with_reducible refine kp_nz ?_)
        | (with_reducible refine kp_bo ?_)
        | (with_reducible refine kp_cp ?_)
        | (with_reducible refine kp_nn (fun _ => ?_))
        | (with_reducible refine kp_nu ?_ (fun _ => ?_))
        | (with_reducible refine kp_bd ?_ (fun _ _ _ => ?_))
        | (with_reducible refine kp_lts ?_ (fun _ _ => ?_))
        | (with_reducible refine kp_ltv (fun _ => ?_))
        | (with_reducible refine kp_j0 (fun _ _ => ?_) (fun _ _ => ?_))
        | (with_reducible refine kp_j1 (fun _ _ _ => ?_) (fun _ _ => ?_))
        | (with_reducible refine kp_j2 (fun _ _ _ _ => ?_) (fun _ _ => ?_))
        | (with_reducible refine kF_I (by first | assumption | decide) ?_)
        | (with_reducible refine kF_L (by first | assumption | decide) ?_)
        | (with_reducible refine kF_A (by first | assumption | decide) ?_)
        | (with_reducible refine kF_B (by first | assumption | decide) ?_)
        | (with_reducible refine kF_P (by first | assumption | decide) ?_)
        | (show ¬ _; decide)
        | decide
        | (apply ih; assumption)
        | solve_by_elim (maxDepth := 4)

theorem kp_X12_noRows_L23  (k6 : fSt → Option (Unit × fSt)) {s0 : fSt} (hk6 : ∀ (s : fSt), kF (fun c => c ≠ 12) s0 s → kpO (fun c => c ≠ 12) s0 (k6 s)) : ∀ (n : Nat) (z0 : Int32) (s : fSt), kF (fun c => c ≠ 12) s0 s → kpO (fun c => c ≠ 12) s0 (f_X12_noRows_L23 k6 n z0 s) := by
  intro n
  induction n with
  | zero => intro z0 s _; unfold f_X12_noRows_L23; exact kp_none
  | succ n ih =>
    intro z0 s h
    unfold f_X12_noRows_L23
    repeat' first
        | assumption
        | (refine kp_some ?_)
        | exact kp_none
        | (with_reducible refine kp_ite ?_ ?_)
        | (with_reducible refine kp_ix ?_)
        | (with_reducible refine kp_nz ?_)
        | (with_reducible refine kp_bo ?_)
        | (with_reducible refine kp_cp ?_)
        | (with_reducible refine kp_nn (fun _ => ?_))
        | (with_reducible refine kp_nu ?_ (fun _ => ?_))
        | (with_reducible refine kp_bd ?_ (fun _ _ _ => ?_))
        | (with_reducible refine kp_lts ?_ (fun _ _ => ?_))
        | (with_reducible refine kp_ltv (fun _ => ?_))
        | (with_reducible refine kp_j0 (fun _ _ => ?_) (fun _ _ => ?_))
        | (with_reducible refine kp_j1 (fun _ _ _ => ?_) (fun _ _ => ?_))
        | (with_reducible refine kp_j2 (fun _ _ _ _ => ?_) (fun _ _ => ?_))
        | (with_reducible refine kF_I (by first | assumption | decide) ?_)
        | (with_reducible refine kF_L (by first | assumption | decide) ?_)
        | (with_reducible refine kF_A (by first | assumption | decide) ?_)
        | (with_reducible refine kF_B (by first | assumption | decide) ?_)
        | (with_reducible refine kF_P (by first | assumption | decide) ?_)
        | (show ¬ _; decide)
        | decide
        | (apply ih; assumption)
        | solve_by_elim (maxDepth := 4)

theorem kp_X12_noRows_L2  (k3 : fSt → Option (Unit × fSt)) {s0 : fSt} (hk3 : ∀ (s : fSt), kF (fun c => c ≠ 12) s0 s → kpO (fun c => c ≠ 12) s0 (k3 s)) : ∀ (n : Nat) (z0 : Int32) (s : fSt), kF (fun c => c ≠ 12) s0 s → kpO (fun c => c ≠ 12) s0 (f_X12_noRows_L2 k3 n z0 s) := by
  intro n
  induction n with
  | zero => intro z0 s _; unfold f_X12_noRows_L2; exact kp_none
  | succ n ih =>
    intro z0 s h
    unfold f_X12_noRows_L2
    repeat' first
        | assumption
        | (refine kp_some ?_)
        | exact kp_none
        | (with_reducible refine kp_ite ?_ ?_)
        | (with_reducible refine kp_ix ?_)
        | (with_reducible refine kp_nz ?_)
        | (with_reducible refine kp_bo ?_)
        | (with_reducible refine kp_cp ?_)
        | (with_reducible refine kp_nn (fun _ => ?_))
        | (with_reducible refine kp_nu ?_ (fun _ => ?_))
        | (with_reducible refine kp_bd ?_ (fun _ _ _ => ?_))
        | (with_reducible refine kp_lts ?_ (fun _ _ => ?_))
        | (with_reducible refine kp_ltv (fun _ => ?_))
        | (with_reducible refine kp_j0 (fun _ _ => ?_) (fun _ _ => ?_))
        | (with_reducible refine kp_j1 (fun _ _ _ => ?_) (fun _ _ => ?_))
        | (with_reducible refine kp_j2 (fun _ _ _ _ => ?_) (fun _ _ => ?_))
        | (with_reducible refine kF_I (by first | assumption | decide) ?_)
        | (with_reducible refine kF_L (by first | assumption | decide) ?_)
        | (with_reducible refine kF_A (by first | assumption | decide) ?_)
        | (with_reducible refine kF_B (by first | assumption | decide) ?_)
        | (with_reducible refine kF_P (by first | assumption | decide) ?_)
        | (show ¬ _; decide)
        | decide
        | (apply ih; assumption)
        | solve_by_elim (maxDepth := 4)

theorem kp_X12_noRows  (st : fSt) {s0 : fSt}  (h : kF (fun c => c ≠ 12) s0 st) : kpO (fun c => c ≠ 12) s0 (f_X12_noRows st) := by
  unfold f_X12_noRows
  repeat' first
      | assumption
      | (refine kp_some ?_)
      | exact kp_none
      | (with_reducible refine kp_ite ?_ ?_)
      | (with_reducible refine kp_ix ?_)
      | (with_reducible refine kp_nz ?_)
      | (with_reducible refine kp_bo ?_)
      | (with_reducible refine kp_cp ?_)
      | (with_reducible refine kp_nn (fun _ => ?_))
      | (with_reducible refine kp_nu ?_ (fun _ => ?_))
      | (with_reducible refine kp_bd ?_ (fun _ _ _ => ?_))
      | (with_reducible refine kp_lts ?_ (fun _ _ => ?_))
      | (with_reducible refine kp_ltv (fun _ => ?_))
      | (with_reducible refine kp_j0 (fun _ _ => ?_) (fun _ _ => ?_))
      | (with_reducible refine kp_j1 (fun _ _ _ => ?_) (fun _ _ => ?_))
      | (with_reducible refine kp_j2 (fun _ _ _ _ => ?_) (fun _ _ => ?_))
      | (with_reducible refine kF_I (by first | assumption | decide) ?_)
      | (with_reducible refine kF_L (by first | assumption | decide) ?_)
      | (with_reducible refine kF_A (by first | assumption | decide) ?_)
      | (with_reducible refine kF_B (by first | assumption | decide) ?_)
      | (with_reducible refine kF_P (by first | assumption | decide) ?_)
      | (with_reducible apply kp_X12_noRows_L51)
      | (with_reducible apply kp_X12_noRows_L23)
      | (with_reducible apply kp_X12_noRows_L2)
      | (show ¬ _; decide)
      | decide
      | solve_by_elim (maxDepth := 4)

theorem kp_X12_isDark  (st : fSt) {s0 : fSt}  (h : kF (fun c => c ≠ 12) s0 st) : kpO (fun c => c ≠ 12) s0 (f_X12_isDark st) := by
  unfold f_X12_isDark
  repeat' first
      | assumption
      | (refine kp_some ?_)
      | exact kp_none
      | (with_reducible refine kp_ite ?_ ?_)
      | (with_reducible refine kp_ix ?_)
      | (with_reducible refine kp_nz ?_)
      | (with_reducible refine kp_bo ?_)
      | (with_reducible refine kp_cp ?_)
      | (with_reducible refine kp_nn (fun _ => ?_))
      | (with_reducible refine kp_nu ?_ (fun _ => ?_))
      | (with_reducible refine kp_bd ?_ (fun _ _ _ => ?_))
      | (with_reducible refine kp_lts ?_ (fun _ _ => ?_))
      | (with_reducible refine kp_ltv (fun _ => ?_))
      | (with_reducible refine kp_j0 (fun _ _ => ?_) (fun _ _ => ?_))
      | (with_reducible refine kp_j1 (fun _ _ _ => ?_) (fun _ _ => ?_))
      | (with_reducible refine kp_j2 (fun _ _ _ _ => ?_) (fun _ _ => ?_))
      | (with_reducible refine kF_I (by first | assumption | decide) ?_)
      | (with_reducible refine kF_L (by first | assumption | decide) ?_)
      | (with_reducible refine kF_A (by first | assumption | decide) ?_)
      | (with_reducible refine kF_B (by first | assumption | decide) ?_)
      | (with_reducible refine kF_P (by first | assumption | decide) ?_)
      | (with_reducible apply kp_X12_canPlay)
      | (show ¬ _; decide)
      | decide
      | solve_by_elim (maxDepth := 4)

theorem kp_X12_ending  (a1 : Int32) (st : fSt) {s0 : fSt}  (h : kF (fun c => c ≠ 12) s0 st) : kpO (fun c => c ≠ 12) s0 (f_X12_ending a1 st) := by
  unfold f_X12_ending
  repeat' first
      | assumption
      | (refine kp_some ?_)
      | exact kp_none
      | (with_reducible refine kp_ite ?_ ?_)
      | (with_reducible refine kp_ix ?_)
      | (with_reducible refine kp_nz ?_)
      | (with_reducible refine kp_bo ?_)
      | (with_reducible refine kp_cp ?_)
      | (with_reducible refine kp_nn (fun _ => ?_))
      | (with_reducible refine kp_nu ?_ (fun _ => ?_))
      | (with_reducible refine kp_bd ?_ (fun _ _ _ => ?_))
      | (with_reducible refine kp_lts ?_ (fun _ _ => ?_))
      | (with_reducible refine kp_ltv (fun _ => ?_))
      | (with_reducible refine kp_j0 (fun _ _ => ?_) (fun _ _ => ?_))
      | (with_reducible refine kp_j1 (fun _ _ _ => ?_) (fun _ _ => ?_))
      | (with_reducible refine kp_j2 (fun _ _ _ _ => ?_) (fun _ _ => ?_))
      | (with_reducible refine kF_I (by first | assumption | decide) ?_)
      | (with_reducible refine kF_L (by first | assumption | decide) ?_)
      | (with_reducible refine kF_A (by first | assumption | decide) ?_)
      | (with_reducible refine kF_B (by first | assumption | decide) ?_)
      | (with_reducible refine kF_P (by first | assumption | decide) ?_)
      | (show ¬ _; decide)
      | decide
      | solve_by_elim (maxDepth := 4)

theorem kp_X12_curtain_L90  (a1 : Int32) (a2 : Int32) (a3 : Int64) {s0 : fSt}  : ∀ (n : Nat) (z0 : Int32) (s : fSt), kF (fun c => c ≠ 12) s0 s → kpO (fun c => c ≠ 12) s0 (f_X12_curtain_L90 a1 a2 a3 n z0 s) := by
  intro n
  induction n with
  | zero => intro z0 s _; unfold f_X12_curtain_L90; exact kp_none
  | succ n ih =>
    intro z0 s h
    unfold f_X12_curtain_L90
    repeat' first
        | assumption
        | (refine kp_some ?_)
        | exact kp_none
        | (with_reducible refine kp_ite ?_ ?_)
        | (with_reducible refine kp_ix ?_)
        | (with_reducible refine kp_nz ?_)
        | (with_reducible refine kp_bo ?_)
        | (with_reducible refine kp_cp ?_)
        | (with_reducible refine kp_nn (fun _ => ?_))
        | (with_reducible refine kp_nu ?_ (fun _ => ?_))
        | (with_reducible refine kp_bd ?_ (fun _ _ _ => ?_))
        | (with_reducible refine kp_lts ?_ (fun _ _ => ?_))
        | (with_reducible refine kp_ltv (fun _ => ?_))
        | (with_reducible refine kp_j0 (fun _ _ => ?_) (fun _ _ => ?_))
        | (with_reducible refine kp_j1 (fun _ _ _ => ?_) (fun _ _ => ?_))
        | (with_reducible refine kp_j2 (fun _ _ _ _ => ?_) (fun _ _ => ?_))
        | (with_reducible refine kF_I (by first | assumption | decide) ?_)
        | (with_reducible refine kF_L (by first | assumption | decide) ?_)
        | (with_reducible refine kF_A (by first | assumption | decide) ?_)
        | (with_reducible refine kF_B (by first | assumption | decide) ?_)
        | (with_reducible refine kF_P (by first | assumption | decide) ?_)
        | (with_reducible apply kp_X12_has)
        | (with_reducible apply kp_X12_ending)
        | (with_reducible apply kp_X12_breathsOf)
        | (show ¬ _; decide)
        | decide
        | (apply ih; assumption)
        | solve_by_elim (maxDepth := 4)

theorem kp_X12_curtain  (a1 : Int32) (a2 : Int32) (a3 : Int64) (st : fSt) {s0 : fSt}  (h : kF (fun c => c ≠ 12) s0 st) : kpO (fun c => c ≠ 12) s0 (f_X12_curtain a1 a2 a3 st) := by
  unfold f_X12_curtain
  repeat' first
      | assumption
      | (refine kp_some ?_)
      | exact kp_none
      | (with_reducible refine kp_ite ?_ ?_)
      | (with_reducible refine kp_ix ?_)
      | (with_reducible refine kp_nz ?_)
      | (with_reducible refine kp_bo ?_)
      | (with_reducible refine kp_cp ?_)
      | (with_reducible refine kp_nn (fun _ => ?_))
      | (with_reducible refine kp_nu ?_ (fun _ => ?_))
      | (with_reducible refine kp_bd ?_ (fun _ _ _ => ?_))
      | (with_reducible refine kp_lts ?_ (fun _ _ => ?_))
      | (with_reducible refine kp_ltv (fun _ => ?_))
      | (with_reducible refine kp_j0 (fun _ _ => ?_) (fun _ _ => ?_))
      | (with_reducible refine kp_j1 (fun _ _ _ => ?_) (fun _ _ => ?_))
      | (with_reducible refine kp_j2 (fun _ _ _ _ => ?_) (fun _ _ => ?_))
      | (with_reducible refine kF_I (by first | assumption | decide) ?_)
      | (with_reducible refine kF_L (by first | assumption | decide) ?_)
      | (with_reducible refine kF_A (by first | assumption | decide) ?_)
      | (with_reducible refine kF_B (by first | assumption | decide) ?_)
      | (with_reducible refine kF_P (by first | assumption | decide) ?_)
      | (with_reducible apply kp_X12_bits)
      | (with_reducible apply kp_X12_ending)
      | (with_reducible apply kp_X12_curtain_L90)
      | (show ¬ _; decide)
      | decide
      | solve_by_elim (maxDepth := 4)

theorem kp_X12_sixteenths  (a1 : Int32) (a2 : Int32) (st : fSt) {s0 : fSt}  (h : kF (fun c => c ≠ 12) s0 st) : kpO (fun c => c ≠ 12) s0 (f_X12_sixteenths a1 a2 st) := by
  unfold f_X12_sixteenths
  repeat' first
      | assumption
      | (refine kp_some ?_)
      | exact kp_none
      | (with_reducible refine kp_ite ?_ ?_)
      | (with_reducible refine kp_ix ?_)
      | (with_reducible refine kp_nz ?_)
      | (with_reducible refine kp_bo ?_)
      | (with_reducible refine kp_cp ?_)
      | (with_reducible refine kp_nn (fun _ => ?_))
      | (with_reducible refine kp_nu ?_ (fun _ => ?_))
      | (with_reducible refine kp_bd ?_ (fun _ _ _ => ?_))
      | (with_reducible refine kp_lts ?_ (fun _ _ => ?_))
      | (with_reducible refine kp_ltv (fun _ => ?_))
      | (with_reducible refine kp_j0 (fun _ _ => ?_) (fun _ _ => ?_))
      | (with_reducible refine kp_j1 (fun _ _ _ => ?_) (fun _ _ => ?_))
      | (with_reducible refine kp_j2 (fun _ _ _ _ => ?_) (fun _ _ => ?_))
      | (with_reducible refine kF_I (by first | assumption | decide) ?_)
      | (with_reducible refine kF_L (by first | assumption | decide) ?_)
      | (with_reducible refine kF_A (by first | assumption | decide) ?_)
      | (with_reducible refine kF_B (by first | assumption | decide) ?_)
      | (with_reducible refine kF_P (by first | assumption | decide) ?_)
      | (show ¬ _; decide)
      | decide
      | solve_by_elim (maxDepth := 4)

theorem kp_X12_goThrough_L90  (a1 : Int32) (a2 : Int32) (a6 : Int32) (x8 : Int32) (x13 : Int32) (k20 : Int32 → Int32 → fSt → Option (Unit × fSt)) {s0 : fSt} (hk20 : ∀ (z0 : Int32) (z1 : Int32) (s : fSt), kF (fun c => c ≠ 12) s0 s → kpO (fun c => c ≠ 12) s0 (k20 z0 z1 s)) : ∀ (n : Nat) (z0 : Int32) (z1 : Int32) (z2 : Int32) (s : fSt), kF (fun c => c ≠ 12) s0 s → kpO (fun c => c ≠ 12) s0 (f_X12_goThrough_L90 a1 a2 a6 x8 x13 k20 n z0 z1 z2 s) := by
  intro n
  induction n with
  | zero => intro z0 z1 z2 s _; unfold f_X12_goThrough_L90; exact kp_none
  | succ n ih =>
    intro z0 z1 z2 s h
    unfold f_X12_goThrough_L90
    repeat' first
        | assumption
        | (refine kp_some ?_)
        | exact kp_none
        | (with_reducible refine kp_ite ?_ ?_)
        | (with_reducible refine kp_ix ?_)
        | (with_reducible refine kp_nz ?_)
        | (with_reducible refine kp_bo ?_)
        | (with_reducible refine kp_cp ?_)
        | (with_reducible refine kp_nn (fun _ => ?_))
        | (with_reducible refine kp_nu ?_ (fun _ => ?_))
        | (with_reducible refine kp_bd ?_ (fun _ _ _ => ?_))
        | (with_reducible refine kp_lts ?_ (fun _ _ => ?_))
        | (with_reducible refine kp_ltv (fun _ => ?_))
        | (with_reducible refine kp_j0 (fun _ _ => ?_) (fun _ _ => ?_))
        | (with_reducible refine kp_j1 (fun _ _ _ => ?_) (fun _ _ => ?_))
        | (with_reducible refine kp_j2 (fun _ _ _ _ => ?_) (fun _ _ => ?_))
        | (with_reducible refine kF_I (by first | assumption | decide) ?_)
        | (with_reducible refine kF_L (by first | assumption | decide) ?_)
        | (with_reducible refine kF_A (by first | assumption | decide) ?_)
        | (with_reducible refine kF_B (by first | assumption | decide) ?_)
        | (with_reducible refine kF_P (by first | assumption | decide) ?_)
        | (with_reducible apply kp_X12_behind2)
        | (with_reducible apply kp_X12_sixteenths)
        | (show ¬ _; decide)
        | decide
        | (apply ih; assumption)
        | solve_by_elim (maxDepth := 4)

theorem kp_X12_goThrough_L65  (rec : Int32 → Int32 → Int32 → Int64 → Int32 → fSt → Option (Unit × fSt)) (a1 : Int32) (a2 : Int32) (a4 : Int64) (a6 : Int32) (x1 : Int32) {s0 : fSt} (hrec : ∀ (z0 : Int32) (z1 : Int32) (z2 : Int32) (z3 : Int64) (z4 : Int32) (s : fSt), kF (fun c => c ≠ 12) s0 s → kpO (fun c => c ≠ 12) s0 (rec z0 z1 z2 z3 z4 s)) : ∀ (n : Nat) (z0 : Int32) (s : fSt), kF (fun c => c ≠ 12) s0 s → kpO (fun c => c ≠ 12) s0 (f_X12_goThrough_L65 rec a1 a2 a4 a6 x1 n z0 s) := by
  intro n
  induction n with
  | zero => intro z0 s _; unfold f_X12_goThrough_L65; exact kp_none
  | succ n ih =>
    intro z0 s h
    unfold f_X12_goThrough_L65
    repeat' first
        | assumption
        | (refine kp_some ?_)
        | exact kp_none
        | (with_reducible refine kp_ite ?_ ?_)
        | (with_reducible refine kp_ix ?_)
        | (with_reducible refine kp_nz ?_)
        | (with_reducible refine kp_bo ?_)
        | (with_reducible refine kp_cp ?_)
        | (with_reducible refine kp_nn (fun _ => ?_))
        | (with_reducible refine kp_nu ?_ (fun _ => ?_))
        | (with_reducible refine kp_bd ?_ (fun _ _ _ => ?_))
        | (with_reducible refine kp_lts ?_ (fun _ _ => ?_))
        | (with_reducible refine kp_ltv (fun _ => ?_))
        | (with_reducible refine kp_j0 (fun _ _ => ?_) (fun _ _ => ?_))
        | (with_reducible refine kp_j1 (fun _ _ _ => ?_) (fun _ _ => ?_))
        | (with_reducible refine kp_j2 (fun _ _ _ _ => ?_) (fun _ _ => ?_))
        | (with_reducible refine kF_I (by first | assumption | decide) ?_)
        | (with_reducible refine kF_L (by first | assumption | decide) ?_)
        | (with_reducible refine kF_A (by first | assumption | decide) ?_)
        | (with_reducible refine kF_B (by first | assumption | decide) ?_)
        | (with_reducible refine kF_P (by first | assumption | decide) ?_)
        | (with_reducible apply kp_X12_behind2)
        | (with_reducible apply kp_X12_kills)
        | (with_reducible apply kp_X12_curtain)
        | (with_reducible apply kp_X12_goThrough_L90)
        | (show ¬ _; decide)
        | decide
        | (apply ih; assumption)
        | solve_by_elim (maxDepth := 4)

theorem kp_X12_goThrough_L13  (a1 : Int32) (a2 : Int32) (k6 : Int32 → fSt → Option (Unit × fSt)) {s0 : fSt} (hk6 : ∀ (z0 : Int32) (s : fSt), kF (fun c => c ≠ 12) s0 s → kpO (fun c => c ≠ 12) s0 (k6 z0 s)) : ∀ (n : Nat) (z0 : Int32) (z1 : Int32) (s : fSt), kF (fun c => c ≠ 12) s0 s → kpO (fun c => c ≠ 12) s0 (f_X12_goThrough_L13 a1 a2 k6 n z0 z1 s) := by
  intro n
  induction n with
  | zero => intro z0 z1 s _; unfold f_X12_goThrough_L13; exact kp_none
  | succ n ih =>
    intro z0 z1 s h
    unfold f_X12_goThrough_L13
    repeat' first
        | assumption
        | (refine kp_some ?_)
        | exact kp_none
        | (with_reducible refine kp_ite ?_ ?_)
        | (with_reducible refine kp_ix ?_)
        | (with_reducible refine kp_nz ?_)
        | (with_reducible refine kp_bo ?_)
        | (with_reducible refine kp_cp ?_)
        | (with_reducible refine kp_nn (fun _ => ?_))
        | (with_reducible refine kp_nu ?_ (fun _ => ?_))
        | (with_reducible refine kp_bd ?_ (fun _ _ _ => ?_))
        | (with_reducible refine kp_lts ?_ (fun _ _ => ?_))
        | (with_reducible refine kp_ltv (fun _ => ?_))
        | (with_reducible refine kp_j0 (fun _ _ => ?_) (fun _ _ => ?_))
        | (with_reducible refine kp_j1 (fun _ _ _ => ?_) (fun _ _ => ?_))
        | (with_reducible refine kp_j2 (fun _ _ _ _ => ?_) (fun _ _ => ?_))
        | (with_reducible refine kF_I (by first | assumption | decide) ?_)
        | (with_reducible refine kF_L (by first | assumption | decide) ?_)
        | (with_reducible refine kF_A (by first | assumption | decide) ?_)
        | (with_reducible refine kF_B (by first | assumption | decide) ?_)
        | (with_reducible refine kF_P (by first | assumption | decide) ?_)
        | (with_reducible apply kp_X12_behind2)
        | (show ¬ _; decide)
        | decide
        | (apply ih; assumption)
        | solve_by_elim (maxDepth := 4)

theorem kp_X12_goThrough_b  (rec : Int32 → Int32 → Int32 → Int64 → Int32 → fSt → Option (Unit × fSt)) (a1 : Int32) (a2 : Int32) (a3 : Int32) (a4 : Int64) (a6 : Int32) (st : fSt) {s0 : fSt} (hrec : ∀ (z0 : Int32) (z1 : Int32) (z2 : Int32) (z3 : Int64) (z4 : Int32) (s : fSt), kF (fun c => c ≠ 12) s0 s → kpO (fun c => c ≠ 12) s0 (rec z0 z1 z2 z3 z4 s)) (h : kF (fun c => c ≠ 12) s0 st) : kpO (fun c => c ≠ 12) s0 (f_X12_goThrough_b rec a1 a2 a3 a4 a6 st) := by
  unfold f_X12_goThrough_b
  repeat' first
      | assumption
      | (refine kp_some ?_)
      | exact kp_none
      | (with_reducible refine kp_ite ?_ ?_)
      | (with_reducible refine kp_ix ?_)
      | (with_reducible refine kp_nz ?_)
      | (with_reducible refine kp_bo ?_)
      | (with_reducible refine kp_cp ?_)
      | (with_reducible refine kp_nn (fun _ => ?_))
      | (with_reducible refine kp_nu ?_ (fun _ => ?_))
      | (with_reducible refine kp_bd ?_ (fun _ _ _ => ?_))
      | (with_reducible refine kp_lts ?_ (fun _ _ => ?_))
      | (with_reducible refine kp_ltv (fun _ => ?_))
      | (with_reducible refine kp_j0 (fun _ _ => ?_) (fun _ _ => ?_))
      | (with_reducible refine kp_j1 (fun _ _ _ => ?_) (fun _ _ => ?_))
      | (with_reducible refine kp_j2 (fun _ _ _ _ => ?_) (fun _ _ => ?_))
      | (with_reducible refine kF_I (by first | assumption | decide) ?_)
      | (with_reducible refine kF_L (by first | assumption | decide) ?_)
      | (with_reducible refine kF_A (by first | assumption | decide) ?_)
      | (with_reducible refine kF_B (by first | assumption | decide) ?_)
      | (with_reducible refine kF_P (by first | assumption | decide) ?_)
      | (with_reducible apply kp_X12_goThrough_L65)
      | (with_reducible apply kp_X12_curtain)
      | (with_reducible apply kp_X12_goThrough_L13)
      | (show ¬ _; decide)
      | decide
      | solve_by_elim (maxDepth := 4)

theorem kp_X12_goThrough {s0 : fSt} : ∀ (n : Nat) (z0 : Int32) (z1 : Int32) (z2 : Int32) (z3 : Int64) (z4 : Int32) (s : fSt), kF (fun c => c ≠ 12) s0 s → kpO (fun c => c ≠ 12) s0 (f_X12_goThrough n z0 z1 z2 z3 z4 s) := by
  intro n
  induction n with
  | zero => intro z0 z1 z2 z3 z4 s _; exact kp_none
  | succ n ih =>
    intro z0 z1 z2 z3 z4 s h
    exact kp_X12_goThrough_b (f_X12_goThrough n) z0 z1 z2 z3 z4 s ih h
theorem kp_X12_goAll  (a1 : Int32) (st : fSt) {s0 : fSt}  (h : kF (fun c => c ≠ 12) s0 st) : kpO (fun c => c ≠ 12) s0 (f_X12_goAll a1 st) := by
  unfold f_X12_goAll
  repeat' first
      | assumption
      | (refine kp_some ?_)
      | exact kp_none
      | (with_reducible refine kp_ite ?_ ?_)
      | (with_reducible refine kp_ix ?_)
      | (with_reducible refine kp_nz ?_)
      | (with_reducible refine kp_bo ?_)
      | (with_reducible refine kp_cp ?_)
      | (with_reducible refine kp_nn (fun _ => ?_))
      | (with_reducible refine kp_nu ?_ (fun _ => ?_))
      | (with_reducible refine kp_bd ?_ (fun _ _ _ => ?_))
      | (with_reducible refine kp_lts ?_ (fun _ _ => ?_))
      | (with_reducible refine kp_ltv (fun _ => ?_))
      | (with_reducible refine kp_j0 (fun _ _ => ?_) (fun _ _ => ?_))
      | (with_reducible refine kp_j1 (fun _ _ _ => ?_) (fun _ _ => ?_))
      | (with_reducible refine kp_j2 (fun _ _ _ _ => ?_) (fun _ _ => ?_))
      | (with_reducible refine kF_I (by first | assumption | decide) ?_)
      | (with_reducible refine kF_L (by first | assumption | decide) ?_)
      | (with_reducible refine kF_A (by first | assumption | decide) ?_)
      | (with_reducible refine kF_B (by first | assumption | decide) ?_)
      | (with_reducible refine kF_P (by first | assumption | decide) ?_)
      | (with_reducible apply kp_X12_noRows)
      | (with_reducible apply kp_X12_isDark)
      | (with_reducible apply kp_X12_goThrough)
      | (show ¬ _; decide)
      | decide
      | solve_by_elim (maxDepth := 4)

theorem kp_X12_by  (a1 : Int32) (st : fSt) {s0 : fSt}  (h : kF (fun c => c ≠ 12) s0 st) : kpO (fun c => c ≠ 12) s0 (f_X12_by a1 st) := by
  unfold f_X12_by
  repeat' first
      | assumption
      | (refine kp_some ?_)
      | exact kp_none
      | (with_reducible refine kp_ite ?_ ?_)
      | (with_reducible refine kp_ix ?_)
      | (with_reducible refine kp_nz ?_)
      | (with_reducible refine kp_bo ?_)
      | (with_reducible refine kp_cp ?_)
      | (with_reducible refine kp_nn (fun _ => ?_))
      | (with_reducible refine kp_nu ?_ (fun _ => ?_))
      | (with_reducible refine kp_bd ?_ (fun _ _ _ => ?_))
      | (with_reducible refine kp_lts ?_ (fun _ _ => ?_))
      | (with_reducible refine kp_ltv (fun _ => ?_))
      | (with_reducible refine kp_j0 (fun _ _ => ?_) (fun _ _ => ?_))
      | (with_reducible refine kp_j1 (fun _ _ _ => ?_) (fun _ _ => ?_))
      | (with_reducible refine kp_j2 (fun _ _ _ _ => ?_) (fun _ _ => ?_))
      | (with_reducible refine kF_I (by first | assumption | decide) ?_)
      | (with_reducible refine kF_L (by first | assumption | decide) ?_)
      | (with_reducible refine kF_A (by first | assumption | decide) ?_)
      | (with_reducible refine kF_B (by first | assumption | decide) ?_)
      | (with_reducible refine kF_P (by first | assumption | decide) ?_)
      | (with_reducible apply kp_X12_isSceneAt)
      | (with_reducible apply kp_X12_goAll)
      | (with_reducible apply kp_X12_refuse)
      | (show ¬ _; decide)
      | decide
      | solve_by_elim (maxDepth := 4)

theorem kp_X12_can  (a1 : Int32) (st : fSt) {s0 : fSt}  (h : kF (fun c => c ≠ 12) s0 st) : kpO (fun c => c ≠ 12) s0 (f_X12_can a1 st) := by
  unfold f_X12_can
  repeat' first
      | assumption
      | (refine kp_some ?_)
      | exact kp_none
      | (with_reducible refine kp_ite ?_ ?_)
      | (with_reducible refine kp_ix ?_)
      | (with_reducible refine kp_nz ?_)
      | (with_reducible refine kp_bo ?_)
      | (with_reducible refine kp_cp ?_)
      | (with_reducible refine kp_nn (fun _ => ?_))
      | (with_reducible refine kp_nu ?_ (fun _ => ?_))
      | (with_reducible refine kp_bd ?_ (fun _ _ _ => ?_))
      | (with_reducible refine kp_lts ?_ (fun _ _ => ?_))
      | (with_reducible refine kp_ltv (fun _ => ?_))
      | (with_reducible refine kp_j0 (fun _ _ => ?_) (fun _ _ => ?_))
      | (with_reducible refine kp_j1 (fun _ _ _ => ?_) (fun _ _ => ?_))
      | (with_reducible refine kp_j2 (fun _ _ _ _ => ?_) (fun _ _ => ?_))
      | (with_reducible refine kF_I (by first | assumption | decide) ?_)
      | (with_reducible refine kF_L (by first | assumption | decide) ?_)
      | (with_reducible refine kF_A (by first | assumption | decide) ?_)
      | (with_reducible refine kF_B (by first | assumption | decide) ?_)
      | (with_reducible refine kF_P (by first | assumption | decide) ?_)
      | (with_reducible apply kp_X12_isIn)
      | (with_reducible apply kp_X12_goAll)
      | (with_reducible apply kp_X12_refuse)
      | (show ¬ _; decide)
      | decide
      | solve_by_elim (maxDepth := 4)

theorem kp_X12_canTake_L28  (a1 : Int32) (a2 : Int32) (k7 : Int32 → fSt → Option (Int32 × fSt)) {s0 : fSt} (hk7 : ∀ (z0 : Int32) (s : fSt), kF (fun c => c ≠ 12) s0 s → kpO (fun c => c ≠ 12) s0 (k7 z0 s)) : ∀ (n : Nat) (z0 : Int32) (z1 : Int32) (s : fSt), kF (fun c => c ≠ 12) s0 s → kpO (fun c => c ≠ 12) s0 (f_X12_canTake_L28 a1 a2 k7 n z0 z1 s) := by
  intro n
  induction n with
  | zero => intro z0 z1 s _; unfold f_X12_canTake_L28; exact kp_none
  | succ n ih =>
    intro z0 z1 s h
    unfold f_X12_canTake_L28
    repeat' first
        | assumption
        | (refine kp_some ?_)
        | exact kp_none
        | (with_reducible refine kp_ite ?_ ?_)
        | (with_reducible refine kp_ix ?_)
        | (with_reducible refine kp_nz ?_)
        | (with_reducible refine kp_bo ?_)
        | (with_reducible refine kp_cp ?_)
        | (with_reducible refine kp_nn (fun _ => ?_))
        | (with_reducible refine kp_nu ?_ (fun _ => ?_))
        | (with_reducible refine kp_bd ?_ (fun _ _ _ => ?_))
        | (with_reducible refine kp_lts ?_ (fun _ _ => ?_))
        | (with_reducible refine kp_ltv (fun _ => ?_))
        | (with_reducible refine kp_j0 (fun _ _ => ?_) (fun _ _ => ?_))
        | (with_reducible refine kp_j1 (fun _ _ _ => ?_) (fun _ _ => ?_))
        | (with_reducible refine kp_j2 (fun _ _ _ _ => ?_) (fun _ _ => ?_))
        | (with_reducible refine kF_I (by first | assumption | decide) ?_)
        | (with_reducible refine kF_L (by first | assumption | decide) ?_)
        | (with_reducible refine kF_A (by first | assumption | decide) ?_)
        | (with_reducible refine kF_B (by first | assumption | decide) ?_)
        | (with_reducible refine kF_P (by first | assumption | decide) ?_)
        | (with_reducible apply kp_X12_areTogether)
        | (show ¬ _; decide)
        | decide
        | (apply ih; assumption)
        | solve_by_elim (maxDepth := 4)

theorem kp_X12_canTake  (a1 : Int32) (a2 : Int32) (st : fSt) {s0 : fSt}  (h : kF (fun c => c ≠ 12) s0 st) : kpO (fun c => c ≠ 12) s0 (f_X12_canTake a1 a2 st) := by
  unfold f_X12_canTake
  repeat' first
      | assumption
      | (refine kp_some ?_)
      | exact kp_none
      | (with_reducible refine kp_ite ?_ ?_)
      | (with_reducible refine kp_ix ?_)
      | (with_reducible refine kp_nz ?_)
      | (with_reducible refine kp_bo ?_)
      | (with_reducible refine kp_cp ?_)
      | (with_reducible refine kp_nn (fun _ => ?_))
      | (with_reducible refine kp_nu ?_ (fun _ => ?_))
      | (with_reducible refine kp_bd ?_ (fun _ _ _ => ?_))
      | (with_reducible refine kp_lts ?_ (fun _ _ => ?_))
      | (with_reducible refine kp_ltv (fun _ => ?_))
      | (with_reducible refine kp_j0 (fun _ _ => ?_) (fun _ _ => ?_))
      | (with_reducible refine kp_j1 (fun _ _ _ => ?_) (fun _ _ => ?_))
      | (with_reducible refine kp_j2 (fun _ _ _ _ => ?_) (fun _ _ => ?_))
      | (with_reducible refine kF_I (by first | assumption | decide) ?_)
      | (with_reducible refine kF_L (by first | assumption | decide) ?_)
      | (with_reducible refine kF_A (by first | assumption | decide) ?_)
      | (with_reducible refine kF_B (by first | assumption | decide) ?_)
      | (with_reducible refine kF_P (by first | assumption | decide) ?_)
      | (with_reducible apply kp_X12_has)
      | (with_reducible apply kp_X12_canTake_L28)
      | (show ¬ _; decide)
      | decide
      | solve_by_elim (maxDepth := 4)

theorem kp_X12_isInScene_L2  (a1 : Int32) {s0 : fSt}  : ∀ (n : Nat) (z0 : Int32) (s : fSt), kF (fun c => c ≠ 12) s0 s → kpO (fun c => c ≠ 12) s0 (f_X12_isInScene_L2 a1 n z0 s) := by
  intro n
  induction n with
  | zero => intro z0 s _; unfold f_X12_isInScene_L2; exact kp_none
  | succ n ih =>
    intro z0 s h
    unfold f_X12_isInScene_L2
    repeat' first
        | assumption
        | (refine kp_some ?_)
        | exact kp_none
        | (with_reducible refine kp_ite ?_ ?_)
        | (with_reducible refine kp_ix ?_)
        | (with_reducible refine kp_nz ?_)
        | (with_reducible refine kp_bo ?_)
        | (with_reducible refine kp_cp ?_)
        | (with_reducible refine kp_nn (fun _ => ?_))
        | (with_reducible refine kp_nu ?_ (fun _ => ?_))
        | (with_reducible refine kp_bd ?_ (fun _ _ _ => ?_))
        | (with_reducible refine kp_lts ?_ (fun _ _ => ?_))
        | (with_reducible refine kp_ltv (fun _ => ?_))
        | (with_reducible refine kp_j0 (fun _ _ => ?_) (fun _ _ => ?_))
        | (with_reducible refine kp_j1 (fun _ _ _ => ?_) (fun _ _ => ?_))
        | (with_reducible refine kp_j2 (fun _ _ _ _ => ?_) (fun _ _ => ?_))
        | (with_reducible refine kF_I (by first | assumption | decide) ?_)
        | (with_reducible refine kF_L (by first | assumption | decide) ?_)
        | (with_reducible refine kF_A (by first | assumption | decide) ?_)
        | (with_reducible refine kF_B (by first | assumption | decide) ?_)
        | (with_reducible refine kF_P (by first | assumption | decide) ?_)
        | (with_reducible apply kp_X12_has)
        | (show ¬ _; decide)
        | decide
        | (apply ih; assumption)
        | solve_by_elim (maxDepth := 4)

theorem kp_X12_isInScene  (a1 : Int32) (st : fSt) {s0 : fSt}  (h : kF (fun c => c ≠ 12) s0 st) : kpO (fun c => c ≠ 12) s0 (f_X12_isInScene a1 st) := by
  unfold f_X12_isInScene
  repeat' first
      | assumption
      | (refine kp_some ?_)
      | exact kp_none
      | (with_reducible refine kp_ite ?_ ?_)
      | (with_reducible refine kp_ix ?_)
      | (with_reducible refine kp_nz ?_)
      | (with_reducible refine kp_bo ?_)
      | (with_reducible refine kp_cp ?_)
      | (with_reducible refine kp_nn (fun _ => ?_))
      | (with_reducible refine kp_nu ?_ (fun _ => ?_))
      | (with_reducible refine kp_bd ?_ (fun _ _ _ => ?_))
      | (with_reducible refine kp_lts ?_ (fun _ _ => ?_))
      | (with_reducible refine kp_ltv (fun _ => ?_))
      | (with_reducible refine kp_j0 (fun _ _ => ?_) (fun _ _ => ?_))
      | (with_reducible refine kp_j1 (fun _ _ _ => ?_) (fun _ _ => ?_))
      | (with_reducible refine kp_j2 (fun _ _ _ _ => ?_) (fun _ _ => ?_))
      | (with_reducible refine kF_I (by first | assumption | decide) ?_)
      | (with_reducible refine kF_L (by first | assumption | decide) ?_)
      | (with_reducible refine kF_A (by first | assumption | decide) ?_)
      | (with_reducible refine kF_B (by first | assumption | decide) ?_)
      | (with_reducible refine kF_P (by first | assumption | decide) ?_)
      | (with_reducible apply kp_X12_isInScene_L2)
      | (show ¬ _; decide)
      | decide
      | solve_by_elim (maxDepth := 4)

theorem kp_X12_casts_L93  (rec : Int32 → Int32 → fSt → Option (Unit × fSt)) (a1 : Int32) (a2 : Int32) {s0 : fSt} (hrec : ∀ (z0 : Int32) (z1 : Int32) (s : fSt), kF (fun c => c ≠ 12) s0 s → kpO (fun c => c ≠ 12) s0 (rec z0 z1 s)) : ∀ (n : Nat) (z0 : Int32) (s : fSt), kF (fun c => c ≠ 12) s0 s → kpO (fun c => c ≠ 12) s0 (f_X12_casts_L93 rec a1 a2 n z0 s) := by
  intro n
  induction n with
  | zero => intro z0 s _; unfold f_X12_casts_L93; exact kp_none
  | succ n ih =>
    intro z0 s h
    unfold f_X12_casts_L93
    repeat' first
        | assumption
        | (refine kp_some ?_)
        | exact kp_none
        | (with_reducible refine kp_ite ?_ ?_)
        | (with_reducible refine kp_ix ?_)
        | (with_reducible refine kp_nz ?_)
        | (with_reducible refine kp_bo ?_)
        | (with_reducible refine kp_cp ?_)
        | (with_reducible refine kp_nn (fun _ => ?_))
        | (with_reducible refine kp_nu ?_ (fun _ => ?_))
        | (with_reducible refine kp_bd ?_ (fun _ _ _ => ?_))
        | (with_reducible refine kp_lts ?_ (fun _ _ => ?_))
        | (with_reducible refine kp_ltv (fun _ => ?_))
        | (with_reducible refine kp_j0 (fun _ _ => ?_) (fun _ _ => ?_))
        | (with_reducible refine kp_j1 (fun _ _ _ => ?_) (fun _ _ => ?_))
        | (with_reducible refine kp_j2 (fun _ _ _ _ => ?_) (fun _ _ => ?_))
        | (with_reducible refine kF_I (by first | assumption | decide) ?_)
        | (with_reducible refine kF_L (by first | assumption | decide) ?_)
        | (with_reducible refine kF_A (by first | assumption | decide) ?_)
        | (with_reducible refine kF_B (by first | assumption | decide) ?_)
        | (with_reducible refine kF_P (by first | assumption | decide) ?_)
        | (with_reducible apply kp_X12_canTake)
        | (show ¬ _; decide)
        | decide
        | (apply ih; assumption)
        | solve_by_elim (maxDepth := 4)

theorem kp_X12_casts_L33  (a1 : Int32) {s0 : fSt}  : ∀ (n : Nat) (z0 : Int32) (s : fSt), kF (fun c => c ≠ 12) s0 s → kpO (fun c => c ≠ 12) s0 (f_X12_casts_L33 a1 n z0 s) := by
  intro n
  induction n with
  | zero => intro z0 s _; unfold f_X12_casts_L33; exact kp_none
  | succ n ih =>
    intro z0 s h
    unfold f_X12_casts_L33
    repeat' first
        | assumption
        | (refine kp_some ?_)
        | exact kp_none
        | (with_reducible refine kp_ite ?_ ?_)
        | (with_reducible refine kp_ix ?_)
        | (with_reducible refine kp_nz ?_)
        | (with_reducible refine kp_bo ?_)
        | (with_reducible refine kp_cp ?_)
        | (with_reducible refine kp_nn (fun _ => ?_))
        | (with_reducible refine kp_nu ?_ (fun _ => ?_))
        | (with_reducible refine kp_bd ?_ (fun _ _ _ => ?_))
        | (with_reducible refine kp_lts ?_ (fun _ _ => ?_))
        | (with_reducible refine kp_ltv (fun _ => ?_))
        | (with_reducible refine kp_j0 (fun _ _ => ?_) (fun _ _ => ?_))
        | (with_reducible refine kp_j1 (fun _ _ _ => ?_) (fun _ _ => ?_))
        | (with_reducible refine kp_j2 (fun _ _ _ _ => ?_) (fun _ _ => ?_))
        | (with_reducible refine kF_I (by first | assumption | decide) ?_)
        | (with_reducible refine kF_L (by first | assumption | decide) ?_)
        | (with_reducible refine kF_A (by first | assumption | decide) ?_)
        | (with_reducible refine kF_B (by first | assumption | decide) ?_)
        | (with_reducible refine kF_P (by first | assumption | decide) ?_)
        | (show ¬ _; decide)
        | decide
        | (apply ih; assumption)
        | solve_by_elim (maxDepth := 4)

theorem kp_X12_casts_b  (rec : Int32 → Int32 → fSt → Option (Unit × fSt)) (a1 : Int32) (a2 : Int32) (st : fSt) {s0 : fSt} (hrec : ∀ (z0 : Int32) (z1 : Int32) (s : fSt), kF (fun c => c ≠ 12) s0 s → kpO (fun c => c ≠ 12) s0 (rec z0 z1 s)) (h : kF (fun c => c ≠ 12) s0 st) : kpO (fun c => c ≠ 12) s0 (f_X12_casts_b rec a1 a2 st) := by
  unfold f_X12_casts_b
  repeat' first
      | assumption
      | (refine kp_some ?_)
      | exact kp_none
      | (with_reducible refine kp_ite ?_ ?_)
      | (with_reducible refine kp_ix ?_)
      | (with_reducible refine kp_nz ?_)
      | (with_reducible refine kp_bo ?_)
      | (with_reducible refine kp_cp ?_)
      | (with_reducible refine kp_nn (fun _ => ?_))
      | (with_reducible refine kp_nu ?_ (fun _ => ?_))
      | (with_reducible refine kp_bd ?_ (fun _ _ _ => ?_))
      | (with_reducible refine kp_lts ?_ (fun _ _ => ?_))
      | (with_reducible refine kp_ltv (fun _ => ?_))
      | (with_reducible refine kp_j0 (fun _ _ => ?_) (fun _ _ => ?_))
      | (with_reducible refine kp_j1 (fun _ _ _ => ?_) (fun _ _ => ?_))
      | (with_reducible refine kp_j2 (fun _ _ _ _ => ?_) (fun _ _ => ?_))
      | (with_reducible refine kF_I (by first | assumption | decide) ?_)
      | (with_reducible refine kF_L (by first | assumption | decide) ?_)
      | (with_reducible refine kF_A (by first | assumption | decide) ?_)
      | (with_reducible refine kF_B (by first | assumption | decide) ?_)
      | (with_reducible refine kF_P (by first | assumption | decide) ?_)
      | (with_reducible apply kp_X12_isInScene)
      | (with_reducible apply kp_X12_casts_L93)
      | (with_reducible apply kp_X12_casts_L33)
      | (show ¬ _; decide)
      | decide
      | solve_by_elim (maxDepth := 4)

theorem kp_X12_casts {s0 : fSt} : ∀ (n : Nat) (z0 : Int32) (z1 : Int32) (s : fSt), kF (fun c => c ≠ 12) s0 s → kpO (fun c => c ≠ 12) s0 (f_X12_casts n z0 z1 s) := by
  intro n
  induction n with
  | zero => intro z0 z1 s _; exact kp_none
  | succ n ih =>
    intro z0 z1 s h
    exact kp_X12_casts_b (f_X12_casts n) z0 z1 s ih h
theorem kp_X12_cast_L121   {s0 : fSt}  : ∀ (n : Nat) (z0 : Int32) (s : fSt), kF (fun c => c ≠ 12) s0 s → kpO (fun c => c ≠ 12) s0 (f_X12_cast_L121  n z0 s) := by
  intro n
  induction n with
  | zero => intro z0 s _; unfold f_X12_cast_L121; exact kp_none
  | succ n ih =>
    intro z0 s h
    unfold f_X12_cast_L121
    repeat' first
        | assumption
        | (refine kp_some ?_)
        | exact kp_none
        | (with_reducible refine kp_ite ?_ ?_)
        | (with_reducible refine kp_ix ?_)
        | (with_reducible refine kp_nz ?_)
        | (with_reducible refine kp_bo ?_)
        | (with_reducible refine kp_cp ?_)
        | (with_reducible refine kp_nn (fun _ => ?_))
        | (with_reducible refine kp_nu ?_ (fun _ => ?_))
        | (with_reducible refine kp_bd ?_ (fun _ _ _ => ?_))
        | (with_reducible refine kp_lts ?_ (fun _ _ => ?_))
        | (with_reducible refine kp_ltv (fun _ => ?_))
        | (with_reducible refine kp_j0 (fun _ _ => ?_) (fun _ _ => ?_))
        | (with_reducible refine kp_j1 (fun _ _ _ => ?_) (fun _ _ => ?_))
        | (with_reducible refine kp_j2 (fun _ _ _ _ => ?_) (fun _ _ => ?_))
        | (with_reducible refine kF_I (by first | assumption | decide) ?_)
        | (with_reducible refine kF_L (by first | assumption | decide) ?_)
        | (with_reducible refine kF_A (by first | assumption | decide) ?_)
        | (with_reducible refine kF_B (by first | assumption | decide) ?_)
        | (with_reducible refine kF_P (by first | assumption | decide) ?_)
        | (show ¬ _; decide)
        | decide
        | (apply ih; assumption)
        | solve_by_elim (maxDepth := 4)

theorem kp_X12_cast_L32  (a1 : Int32) (k9 : Int32 → fSt → Option (Int32 × fSt)) {s0 : fSt} (hk9 : ∀ (z0 : Int32) (s : fSt), kF (fun c => c ≠ 12) s0 s → kpO (fun c => c ≠ 12) s0 (k9 z0 s)) : ∀ (n : Nat) (z0 : Int32) (z1 : Int32) (s : fSt), kF (fun c => c ≠ 12) s0 s → kpO (fun c => c ≠ 12) s0 (f_X12_cast_L32 a1 k9 n z0 z1 s) := by
  intro n
  induction n with
  | zero => intro z0 z1 s _; unfold f_X12_cast_L32; exact kp_none
  | succ n ih =>
    intro z0 z1 s h
    unfold f_X12_cast_L32
    repeat' first
        | assumption
        | (refine kp_some ?_)
        | exact kp_none
        | (with_reducible refine kp_ite ?_ ?_)
        | (with_reducible refine kp_ix ?_)
        | (with_reducible refine kp_nz ?_)
        | (with_reducible refine kp_bo ?_)
        | (with_reducible refine kp_cp ?_)
        | (with_reducible refine kp_nn (fun _ => ?_))
        | (with_reducible refine kp_nu ?_ (fun _ => ?_))
        | (with_reducible refine kp_bd ?_ (fun _ _ _ => ?_))
        | (with_reducible refine kp_lts ?_ (fun _ _ => ?_))
        | (with_reducible refine kp_ltv (fun _ => ?_))
        | (with_reducible refine kp_j0 (fun _ _ => ?_) (fun _ _ => ?_))
        | (with_reducible refine kp_j1 (fun _ _ _ => ?_) (fun _ _ => ?_))
        | (with_reducible refine kp_j2 (fun _ _ _ _ => ?_) (fun _ _ => ?_))
        | (with_reducible refine kF_I (by first | assumption | decide) ?_)
        | (with_reducible refine kF_L (by first | assumption | decide) ?_)
        | (with_reducible refine kF_A (by first | assumption | decide) ?_)
        | (with_reducible refine kF_B (by first | assumption | decide) ?_)
        | (with_reducible refine kF_P (by first | assumption | decide) ?_)
        | (with_reducible apply kp_X12_breathsFor)
        | (with_reducible apply kp_X12_isInScene)
        | (show ¬ _; decide)
        | decide
        | (apply ih; assumption)
        | solve_by_elim (maxDepth := 4)

theorem kp_X12_cast  (a1 : Int32) (st : fSt) {s0 : fSt}  (h : kF (fun c => c ≠ 12) s0 st) : kpO (fun c => c ≠ 12) s0 (f_X12_cast a1 st) := by
  unfold f_X12_cast
  repeat' first
      | assumption
      | (refine kp_some ?_)
      | exact kp_none
      | (with_reducible refine kp_ite ?_ ?_)
      | (with_reducible refine kp_ix ?_)
      | (with_reducible refine kp_nz ?_)
      | (with_reducible refine kp_bo ?_)
      | (with_reducible refine kp_cp ?_)
      | (with_reducible refine kp_nn (fun _ => ?_))
      | (with_reducible refine kp_nu ?_ (fun _ => ?_))
      | (with_reducible refine kp_bd ?_ (fun _ _ _ => ?_))
      | (with_reducible refine kp_lts ?_ (fun _ _ => ?_))
      | (with_reducible refine kp_ltv (fun _ => ?_))
      | (with_reducible refine kp_j0 (fun _ _ => ?_) (fun _ _ => ?_))
      | (with_reducible refine kp_j1 (fun _ _ _ => ?_) (fun _ _ => ?_))
      | (with_reducible refine kp_j2 (fun _ _ _ _ => ?_) (fun _ _ => ?_))
      | (with_reducible refine kF_I (by first | assumption | decide) ?_)
      | (with_reducible refine kF_L (by first | assumption | decide) ?_)
      | (with_reducible refine kF_A (by first | assumption | decide) ?_)
      | (with_reducible refine kF_B (by first | assumption | decide) ?_)
      | (with_reducible refine kF_P (by first | assumption | decide) ?_)
      | (with_reducible apply kp_X12_isIn)
      | (with_reducible apply kp_X12_casts)
      | (with_reducible apply kp_X12_cast_L121)
      | (with_reducible apply kp_X12_refuse)
      | (with_reducible apply kp_X12_cast_L32)
      | (show ¬ _; decide)
      | decide
      | solve_by_elim (maxDepth := 4)

theorem kp_X12_castAt  (a1 : Int32) (st : fSt) {s0 : fSt}  (h : kF (fun c => c ≠ 12) s0 st) : kpO (fun c => c ≠ 12) s0 (f_X12_castAt a1 st) := by
  unfold f_X12_castAt
  repeat' first
      | assumption
      | (refine kp_some ?_)
      | exact kp_none
      | (with_reducible refine kp_ite ?_ ?_)
      | (with_reducible refine kp_ix ?_)
      | (with_reducible refine kp_nz ?_)
      | (with_reducible refine kp_bo ?_)
      | (with_reducible refine kp_cp ?_)
      | (with_reducible refine kp_nn (fun _ => ?_))
      | (with_reducible refine kp_nu ?_ (fun _ => ?_))
      | (with_reducible refine kp_bd ?_ (fun _ _ _ => ?_))
      | (with_reducible refine kp_lts ?_ (fun _ _ => ?_))
      | (with_reducible refine kp_ltv (fun _ => ?_))
      | (with_reducible refine kp_j0 (fun _ _ => ?_) (fun _ _ => ?_))
      | (with_reducible refine kp_j1 (fun _ _ _ => ?_) (fun _ _ => ?_))
      | (with_reducible refine kp_j2 (fun _ _ _ _ => ?_) (fun _ _ => ?_))
      | (with_reducible refine kF_I (by first | assumption | decide) ?_)
      | (with_reducible refine kF_L (by first | assumption | decide) ?_)
      | (with_reducible refine kF_A (by first | assumption | decide) ?_)
      | (with_reducible refine kF_B (by first | assumption | decide) ?_)
      | (with_reducible refine kF_P (by first | assumption | decide) ?_)
      | (with_reducible apply kp_X12_isIn)
      | (with_reducible apply kp_X12_refuse)
      | (show ¬ _; decide)
      | decide
      | solve_by_elim (maxDepth := 4)

theorem kp_X12_common_L12   {s0 : fSt}  : ∀ (n : Nat) (z0 : Int64) (z1 : Int64) (s : fSt), kF (fun c => c ≠ 12) s0 s → kpO (fun c => c ≠ 12) s0 (f_X12_common_L12  n z0 z1 s) := by
  intro n
  induction n with
  | zero => intro z0 z1 s _; unfold f_X12_common_L12; exact kp_none
  | succ n ih =>
    intro z0 z1 s h
    unfold f_X12_common_L12
    repeat' first
        | assumption
        | (refine kp_some ?_)
        | exact kp_none
        | (with_reducible refine kp_ite ?_ ?_)
        | (with_reducible refine kp_ix ?_)
        | (with_reducible refine kp_nz ?_)
        | (with_reducible refine kp_bo ?_)
        | (with_reducible refine kp_cp ?_)
        | (with_reducible refine kp_nn (fun _ => ?_))
        | (with_reducible refine kp_nu ?_ (fun _ => ?_))
        | (with_reducible refine kp_bd ?_ (fun _ _ _ => ?_))
        | (with_reducible refine kp_lts ?_ (fun _ _ => ?_))
        | (with_reducible refine kp_ltv (fun _ => ?_))
        | (with_reducible refine kp_j0 (fun _ _ => ?_) (fun _ _ => ?_))
        | (with_reducible refine kp_j1 (fun _ _ _ => ?_) (fun _ _ => ?_))
        | (with_reducible refine kp_j2 (fun _ _ _ _ => ?_) (fun _ _ => ?_))
        | (with_reducible refine kF_I (by first | assumption | decide) ?_)
        | (with_reducible refine kF_L (by first | assumption | decide) ?_)
        | (with_reducible refine kF_A (by first | assumption | decide) ?_)
        | (with_reducible refine kF_B (by first | assumption | decide) ?_)
        | (with_reducible refine kF_P (by first | assumption | decide) ?_)
        | (show ¬ _; decide)
        | decide
        | (apply ih; assumption)
        | solve_by_elim (maxDepth := 4)

theorem kp_X12_common  (a0 : Int64) (a2 : Int64) (st : fSt) {s0 : fSt}  (h : kF (fun c => c ≠ 12) s0 st) : kpO (fun c => c ≠ 12) s0 (f_X12_common a0 a2 st) := by
  unfold f_X12_common
  repeat' first
      | assumption
      | (refine kp_some ?_)
      | exact kp_none
      | (with_reducible refine kp_ite ?_ ?_)
      | (with_reducible refine kp_ix ?_)
      | (with_reducible refine kp_nz ?_)
      | (with_reducible refine kp_bo ?_)
      | (with_reducible refine kp_cp ?_)
      | (with_reducible refine kp_nn (fun _ => ?_))
      | (with_reducible refine kp_nu ?_ (fun _ => ?_))
      | (with_reducible refine kp_bd ?_ (fun _ _ _ => ?_))
      | (with_reducible refine kp_lts ?_ (fun _ _ => ?_))
      | (with_reducible refine kp_ltv (fun _ => ?_))
      | (with_reducible refine kp_j0 (fun _ _ => ?_) (fun _ _ => ?_))
      | (with_reducible refine kp_j1 (fun _ _ _ => ?_) (fun _ _ => ?_))
      | (with_reducible refine kp_j2 (fun _ _ _ _ => ?_) (fun _ _ => ?_))
      | (with_reducible refine kF_I (by first | assumption | decide) ?_)
      | (with_reducible refine kF_L (by first | assumption | decide) ?_)
      | (with_reducible refine kF_A (by first | assumption | decide) ?_)
      | (with_reducible refine kF_B (by first | assumption | decide) ?_)
      | (with_reducible refine kF_P (by first | assumption | decide) ?_)
      | (with_reducible apply kp_X12_common_L12)
      | (show ¬ _; decide)
      | decide
      | solve_by_elim (maxDepth := 4)

theorem kp_X12_fail  (a1 : Int32) (a2 : Int32) (st : fSt) {s0 : fSt}  (h : kF (fun c => c ≠ 12) s0 st) : kpO (fun c => c ≠ 12) s0 (f_X12_fail a1 a2 st) := by
  unfold f_X12_fail
  repeat' first
      | assumption
      | (refine kp_some ?_)
      | exact kp_none
      | (with_reducible refine kp_ite ?_ ?_)
      | (with_reducible refine kp_ix ?_)
      | (with_reducible refine kp_nz ?_)
      | (with_reducible refine kp_bo ?_)
      | (with_reducible refine kp_cp ?_)
      | (with_reducible refine kp_nn (fun _ => ?_))
      | (with_reducible refine kp_nu ?_ (fun _ => ?_))
      | (with_reducible refine kp_bd ?_ (fun _ _ _ => ?_))
      | (with_reducible refine kp_lts ?_ (fun _ _ => ?_))
      | (with_reducible refine kp_ltv (fun _ => ?_))
      | (with_reducible refine kp_j0 (fun _ _ => ?_) (fun _ _ => ?_))
      | (with_reducible refine kp_j1 (fun _ _ _ => ?_) (fun _ _ => ?_))
      | (with_reducible refine kp_j2 (fun _ _ _ _ => ?_) (fun _ _ => ?_))
      | (with_reducible refine kF_I (by first | assumption | decide) ?_)
      | (with_reducible refine kF_L (by first | assumption | decide) ?_)
      | (with_reducible refine kF_A (by first | assumption | decide) ?_)
      | (with_reducible refine kF_B (by first | assumption | decide) ?_)
      | (with_reducible refine kF_P (by first | assumption | decide) ?_)
      | (show ¬ _; decide)
      | decide
      | solve_by_elim (maxDepth := 4)

theorem kp_X12_wrong  (st : fSt) {s0 : fSt}  (h : kF (fun c => c ≠ 12) s0 st) : kpO (fun c => c ≠ 12) s0 (f_X12_wrong st) := by
  unfold f_X12_wrong
  repeat' first
      | assumption
      | (refine kp_some ?_)
      | exact kp_none
      | (with_reducible refine kp_ite ?_ ?_)
      | (with_reducible refine kp_ix ?_)
      | (with_reducible refine kp_nz ?_)
      | (with_reducible refine kp_bo ?_)
      | (with_reducible refine kp_cp ?_)
      | (with_reducible refine kp_nn (fun _ => ?_))
      | (with_reducible refine kp_nu ?_ (fun _ => ?_))
      | (with_reducible refine kp_bd ?_ (fun _ _ _ => ?_))
      | (with_reducible refine kp_lts ?_ (fun _ _ => ?_))
      | (with_reducible refine kp_ltv (fun _ => ?_))
      | (with_reducible refine kp_j0 (fun _ _ => ?_) (fun _ _ => ?_))
      | (with_reducible refine kp_j1 (fun _ _ _ => ?_) (fun _ _ => ?_))
      | (with_reducible refine kp_j2 (fun _ _ _ _ => ?_) (fun _ _ => ?_))
      | (with_reducible refine kF_I (by first | assumption | decide) ?_)
      | (with_reducible refine kF_L (by first | assumption | decide) ?_)
      | (with_reducible refine kF_A (by first | assumption | decide) ?_)
      | (with_reducible refine kF_B (by first | assumption | decide) ?_)
      | (with_reducible refine kF_P (by first | assumption | decide) ?_)
      | (with_reducible apply kp_X12_fail)
      | (show ¬ _; decide)
      | decide
      | solve_by_elim (maxDepth := 4)

theorem kp_X12_look2  (a1 : Int32) (st : fSt) {s0 : fSt}  (h : kF (fun c => c ≠ 12) s0 st) : kpO (fun c => c ≠ 12) s0 (f_X12_look2 a1 st) := by
  unfold f_X12_look2
  repeat' first
      | assumption
      | (refine kp_some ?_)
      | exact kp_none
      | (with_reducible refine kp_ite ?_ ?_)
      | (with_reducible refine kp_ix ?_)
      | (with_reducible refine kp_nz ?_)
      | (with_reducible refine kp_bo ?_)
      | (with_reducible refine kp_cp ?_)
      | (with_reducible refine kp_nn (fun _ => ?_))
      | (with_reducible refine kp_nu ?_ (fun _ => ?_))
      | (with_reducible refine kp_bd ?_ (fun _ _ _ => ?_))
      | (with_reducible refine kp_lts ?_ (fun _ _ => ?_))
      | (with_reducible refine kp_ltv (fun _ => ?_))
      | (with_reducible refine kp_j0 (fun _ _ => ?_) (fun _ _ => ?_))
      | (with_reducible refine kp_j1 (fun _ _ _ => ?_) (fun _ _ => ?_))
      | (with_reducible refine kp_j2 (fun _ _ _ _ => ?_) (fun _ _ => ?_))
      | (with_reducible refine kF_I (by first | assumption | decide) ?_)
      | (with_reducible refine kF_L (by first | assumption | decide) ?_)
      | (with_reducible refine kF_A (by first | assumption | decide) ?_)
      | (with_reducible refine kF_B (by first | assumption | decide) ?_)
      | (with_reducible refine kF_P (by first | assumption | decide) ?_)
      | (show ¬ _; decide)
      | decide
      | solve_by_elim (maxDepth := 4)

theorem kp_X12_isLetter  (a0 : Int32) (st : fSt) {s0 : fSt}  (h : kF (fun c => c ≠ 12) s0 st) : kpO (fun c => c ≠ 12) s0 (f_X12_isLetter a0 st) := by
  unfold f_X12_isLetter
  repeat' first
      | assumption
      | (refine kp_some ?_)
      | exact kp_none
      | (with_reducible refine kp_ite ?_ ?_)
      | (with_reducible refine kp_ix ?_)
      | (with_reducible refine kp_nz ?_)
      | (with_reducible refine kp_bo ?_)
      | (with_reducible refine kp_cp ?_)
      | (with_reducible refine kp_nn (fun _ => ?_))
      | (with_reducible refine kp_nu ?_ (fun _ => ?_))
      | (with_reducible refine kp_bd ?_ (fun _ _ _ => ?_))
      | (with_reducible refine kp_lts ?_ (fun _ _ => ?_))
      | (with_reducible refine kp_ltv (fun _ => ?_))
      | (with_reducible refine kp_j0 (fun _ _ => ?_) (fun _ _ => ?_))
      | (with_reducible refine kp_j1 (fun _ _ _ => ?_) (fun _ _ => ?_))
      | (with_reducible refine kp_j2 (fun _ _ _ _ => ?_) (fun _ _ => ?_))
      | (with_reducible refine kF_I (by first | assumption | decide) ?_)
      | (with_reducible refine kF_L (by first | assumption | decide) ?_)
      | (with_reducible refine kF_A (by first | assumption | decide) ?_)
      | (with_reducible refine kF_B (by first | assumption | decide) ?_)
      | (with_reducible refine kF_P (by first | assumption | decide) ?_)
      | (show ¬ _; decide)
      | decide
      | solve_by_elim (maxDepth := 4)

