/-! frames of the functions, 1 -/
theorem kp_J6_numberOfTrailingZeros_0f7a4 {P : Nat → Prop} (a0 : Int32) (st : fSt) {s0 : fSt}  (h : kF P s0 st) : kpO P s0 (f_J6_numberOfTrailingZeros_0f7a4 a0 st) := by
  unfold f_J6_numberOfTrailingZeros_0f7a4
  repeat' first
      | assumption
      | (refine kp_some ?_)
      | exact kp_none
      | (with_reducible refine kp_ite ?_ ?_)
      | (with_reducible refine kp_ix ?_)
      | (with_reducible refine kp_nz ?_)
      | (with_reducible refine kp_bo ?_)
      | (with_reducible refine kp_cp ?_)
      | (with_reducible refine kp_nn (fun _ => ?_))
      | (with_reducible refine kp_nu ?_ (fun _ => ?_))
      | (with_reducible refine kp_bd ?_ (fun _ _ _ => ?_))
      | (with_reducible refine kp_lts ?_ (fun _ _ => ?_))
      | (with_reducible refine kp_ltv (fun _ => ?_))
      | (with_reducible refine kp_j0 (fun _ _ => ?_) (fun _ _ => ?_))
      | (with_reducible refine kp_j1 (fun _ _ _ => ?_) (fun _ _ => ?_))
      | (with_reducible refine kp_j2 (fun _ _ _ _ => ?_) (fun _ _ => ?_))
      | (with_reducible refine kF_I (by first | assumption | decide) ?_)
      | (with_reducible refine kF_L (by first | assumption | decide) ?_)
      | (with_reducible refine kF_A (by first | assumption | decide) ?_)
      | (with_reducible refine kF_B (by first | assumption | decide) ?_)
      | (with_reducible refine kF_P (by first | assumption | decide) ?_)
      | (show ¬ _; decide)
      | decide
      | solve_by_elim (maxDepth := 4)

theorem kp_J6_bitCount_0f7a4 {P : Nat → Prop} (a0 : Int32) (st : fSt) {s0 : fSt}  (h : kF P s0 st) : kpO P s0 (f_J6_bitCount_0f7a4 a0 st) := by
  unfold f_J6_bitCount_0f7a4
  repeat' first
      | assumption
      | (refine kp_some ?_)
      | exact kp_none
      | (with_reducible refine kp_ite ?_ ?_)
      | (with_reducible refine kp_ix ?_)
      | (with_reducible refine kp_nz ?_)
      | (with_reducible refine kp_bo ?_)
      | (with_reducible refine kp_cp ?_)
      | (with_reducible refine kp_nn (fun _ => ?_))
      | (with_reducible refine kp_nu ?_ (fun _ => ?_))
      | (with_reducible refine kp_bd ?_ (fun _ _ _ => ?_))
      | (with_reducible refine kp_lts ?_ (fun _ _ => ?_))
      | (with_reducible refine kp_ltv (fun _ => ?_))
      | (with_reducible refine kp_j0 (fun _ _ => ?_) (fun _ _ => ?_))
      | (with_reducible refine kp_j1 (fun _ _ _ => ?_) (fun _ _ => ?_))
      | (with_reducible refine kp_j2 (fun _ _ _ _ => ?_) (fun _ _ => ?_))
      | (with_reducible refine kF_I (by first | assumption | decide) ?_)
      | (with_reducible refine kF_L (by first | assumption | decide) ?_)
      | (with_reducible refine kF_A (by first | assumption | decide) ?_)
      | (with_reducible refine kF_B (by first | assumption | decide) ?_)
      | (with_reducible refine kF_P (by first | assumption | decide) ?_)
      | (show ¬ _; decide)
      | decide
      | solve_by_elim (maxDepth := 4)

theorem kp_J7_fill_d0a16_L6 {P : Nat → Prop} (c0 : Nat) (i0 : Nat) (j0 : Nat) (n0 : Nat) (a1 : Int64) (x2 : Int32) {s0 : fSt} (hc : ¬ P c0) : ∀ (n : Nat) (z0 : Int32) (s : fSt), kF P s0 s → kpO P s0 (f_J7_fill_d0a16_L6 c0 i0 j0 n0 a1 x2 n z0 s) := by
  intro n
  induction n with
  | zero => intro z0 s _; unfold f_J7_fill_d0a16_L6; exact kp_none
  | succ n ih =>
    intro z0 s h
    unfold f_J7_fill_d0a16_L6
    repeat' first
        | assumption
        | (refine kp_some ?_)
        | exact kp_none
        | (with_reducible refine kp_ite ?_ ?_)
        | (with_reducible refine kp_ix ?_)
        | (with_reducible refine kp_nz ?_)
        | (with_reducible refine kp_bo ?_)
        | (with_reducible refine kp_cp ?_)
        | (with_reducible refine kp_nn (fun _ => ?_))
        | (with_reducible refine kp_nu ?_ (fun _ => ?_))
        | (with_reducible refine kp_bd ?_ (fun _ _ _ => ?_))
        | (with_reducible refine kp_lts ?_ (fun _ _ => ?_))
        | (with_reducible refine kp_ltv (fun _ => ?_))
        | (with_reducible refine kp_j0 (fun _ _ => ?_) (fun _ _ => ?_))
        | (with_reducible refine kp_j1 (fun _ _ _ => ?_) (fun _ _ => ?_))
        | (with_reducible refine kp_j2 (fun _ _ _ _ => ?_) (fun _ _ => ?_))
        | (with_reducible refine kF_I (by first | assumption | decide) ?_)
        | (with_reducible refine kF_L (by first | assumption | decide) ?_)
        | (with_reducible refine kF_A (by first | assumption | decide) ?_)
        | (with_reducible refine kF_B (by first | assumption | decide) ?_)
        | (with_reducible refine kF_P (by first | assumption | decide) ?_)
        | (show ¬ _; decide)
        | decide
        | (apply ih; assumption)
        | solve_by_elim (maxDepth := 4)

theorem kp_J7_fill_d0a16 {P : Nat → Prop} (c0 : Nat) (i0 : Nat) (j0 : Nat) (n0 : Nat) (a1 : Int64) (st : fSt) {s0 : fSt} (hc : ¬ P c0) (h : kF P s0 st) : kpO P s0 (f_J7_fill_d0a16 c0 i0 j0 n0 a1 st) := by
  unfold f_J7_fill_d0a16
  repeat' first
      | assumption
      | (refine kp_some ?_)
      | exact kp_none
      | (with_reducible refine kp_ite ?_ ?_)
      | (with_reducible refine kp_ix ?_)
      | (with_reducible refine kp_nz ?_)
      | (with_reducible refine kp_bo ?_)
      | (with_reducible refine kp_cp ?_)
      | (with_reducible refine kp_nn (fun _ => ?_))
      | (with_reducible refine kp_nu ?_ (fun _ => ?_))
      | (with_reducible refine kp_bd ?_ (fun _ _ _ => ?_))
      | (with_reducible refine kp_lts ?_ (fun _ _ => ?_))
      | (with_reducible refine kp_ltv (fun _ => ?_))
      | (with_reducible refine kp_j0 (fun _ _ => ?_) (fun _ _ => ?_))
      | (with_reducible refine kp_j1 (fun _ _ _ => ?_) (fun _ _ => ?_))
      | (with_reducible refine kp_j2 (fun _ _ _ _ => ?_) (fun _ _ => ?_))
      | (with_reducible refine kF_I (by first | assumption | decide) ?_)
      | (with_reducible refine kF_L (by first | assumption | decide) ?_)
      | (with_reducible refine kF_A (by first | assumption | decide) ?_)
      | (with_reducible refine kF_B (by first | assumption | decide) ?_)
      | (with_reducible refine kF_P (by first | assumption | decide) ?_)
      | (with_reducible apply kp_J7_fill_d0a16_L6)
      | (show ¬ _; decide)
      | decide
      | solve_by_elim (maxDepth := 4)

theorem kp_J7_fill_53178_L5 {P : Nat → Prop} (c0 : Nat) (i0 : Nat) (j0 : Nat) (n0 : Nat) (a1 : Int32) (x2 : Int32) {s0 : fSt} (hc : ¬ P c0) : ∀ (n : Nat) (z0 : Int32) (s : fSt), kF P s0 s → kpO P s0 (f_J7_fill_53178_L5 c0 i0 j0 n0 a1 x2 n z0 s) := by
  intro n
  induction n with
  | zero => intro z0 s _; unfold f_J7_fill_53178_L5; exact kp_none
  | succ n ih =>
    intro z0 s h
    unfold f_J7_fill_53178_L5
    repeat' first
        | assumption
        | (refine kp_some ?_)
        | exact kp_none
        | (with_reducible refine kp_ite ?_ ?_)
        | (with_reducible refine kp_ix ?_)
        | (with_reducible refine kp_nz ?_)
        | (with_reducible refine kp_bo ?_)
        | (with_reducible refine kp_cp ?_)
        | (with_reducible refine kp_nn (fun _ => ?_))
        | (with_reducible refine kp_nu ?_ (fun _ => ?_))
        | (with_reducible refine kp_bd ?_ (fun _ _ _ => ?_))
        | (with_reducible refine kp_lts ?_ (fun _ _ => ?_))
        | (with_reducible refine kp_ltv (fun _ => ?_))
        | (with_reducible refine kp_j0 (fun _ _ => ?_) (fun _ _ => ?_))
        | (with_reducible refine kp_j1 (fun _ _ _ => ?_) (fun _ _ => ?_))
        | (with_reducible refine kp_j2 (fun _ _ _ _ => ?_) (fun _ _ => ?_))
        | (with_reducible refine kF_I (by first | assumption | decide) ?_)
        | (with_reducible refine kF_L (by first | assumption | decide) ?_)
        | (with_reducible refine kF_A (by first | assumption | decide) ?_)
        | (with_reducible refine kF_B (by first | assumption | decide) ?_)
        | (with_reducible refine kF_P (by first | assumption | decide) ?_)
        | (show ¬ _; decide)
        | decide
        | (apply ih; assumption)
        | solve_by_elim (maxDepth := 4)

theorem kp_J7_fill_53178 {P : Nat → Prop} (c0 : Nat) (i0 : Nat) (j0 : Nat) (n0 : Nat) (a1 : Int32) (st : fSt) {s0 : fSt} (hc : ¬ P c0) (h : kF P s0 st) : kpO P s0 (f_J7_fill_53178 c0 i0 j0 n0 a1 st) := by
  unfold f_J7_fill_53178
  repeat' first
      | assumption
      | (refine kp_some ?_)
      | exact kp_none
      | (with_reducible refine kp_ite ?_ ?_)
      | (with_reducible refine kp_ix ?_)
      | (with_reducible refine kp_nz ?_)
      | (with_reducible refine kp_bo ?_)
      | (with_reducible refine kp_cp ?_)
      | (with_reducible refine kp_nn (fun _ => ?_))
      | (with_reducible refine kp_nu ?_ (fun _ => ?_))
      | (with_reducible refine kp_bd ?_ (fun _ _ _ => ?_))
      | (with_reducible refine kp_lts ?_ (fun _ _ => ?_))
      | (with_reducible refine kp_ltv (fun _ => ?_))
      | (with_reducible refine kp_j0 (fun _ _ => ?_) (fun _ _ => ?_))
      | (with_reducible refine kp_j1 (fun _ _ _ => ?_) (fun _ _ => ?_))
      | (with_reducible refine kp_j2 (fun _ _ _ _ => ?_) (fun _ _ => ?_))
      | (with_reducible refine kF_I (by first | assumption | decide) ?_)
      | (with_reducible refine kF_L (by first | assumption | decide) ?_)
      | (with_reducible refine kF_A (by first | assumption | decide) ?_)
      | (with_reducible refine kF_B (by first | assumption | decide) ?_)
      | (with_reducible refine kF_P (by first | assumption | decide) ?_)
      | (with_reducible apply kp_J7_fill_53178_L5)
      | (show ¬ _; decide)
      | decide
      | solve_by_elim (maxDepth := 4)

theorem kp_X0_clear  (i0 : Nat) (st : fSt) {s0 : fSt}  (h : kF (fun c => c = 12) s0 st) : kpO (fun c => c = 12) s0 (f_X0_clear i0 st) := by
  unfold f_X0_clear
  repeat' first
      | assumption
      | (refine kp_some ?_)
      | exact kp_none
      | (with_reducible refine kp_ite ?_ ?_)
      | (with_reducible refine kp_ix ?_)
      | (with_reducible refine kp_nz ?_)
      | (with_reducible refine kp_bo ?_)
      | (with_reducible refine kp_cp ?_)
      | (with_reducible refine kp_nn (fun _ => ?_))
      | (with_reducible refine kp_nu ?_ (fun _ => ?_))
      | (with_reducible refine kp_bd ?_ (fun _ _ _ => ?_))
      | (with_reducible refine kp_lts ?_ (fun _ _ => ?_))
      | (with_reducible refine kp_ltv (fun _ => ?_))
      | (with_reducible refine kp_j0 (fun _ _ => ?_) (fun _ _ => ?_))
      | (with_reducible refine kp_j1 (fun _ _ _ => ?_) (fun _ _ => ?_))
      | (with_reducible refine kp_j2 (fun _ _ _ _ => ?_) (fun _ _ => ?_))
      | (with_reducible refine kF_I (by first | assumption | decide) ?_)
      | (with_reducible refine kF_L (by first | assumption | decide) ?_)
      | (with_reducible refine kF_A (by first | assumption | decide) ?_)
      | (with_reducible refine kF_B (by first | assumption | decide) ?_)
      | (with_reducible refine kF_P (by first | assumption | decide) ?_)
      | (show ¬ _; decide)
      | decide
      | solve_by_elim (maxDepth := 4)

theorem kp_X0_takeFrom  (i0 : Nat) (i1 : Nat) (st : fSt) {s0 : fSt}  (h : kF (fun c => c = 12) s0 st) : kpO (fun c => c = 12) s0 (f_X0_takeFrom i0 i1 st) := by
  unfold f_X0_takeFrom
  repeat' first
      | assumption
      | (refine kp_some ?_)
      | exact kp_none
      | (with_reducible refine kp_ite ?_ ?_)
      | (with_reducible refine kp_ix ?_)
      | (with_reducible refine kp_nz ?_)
      | (with_reducible refine kp_bo ?_)
      | (with_reducible refine kp_cp ?_)
      | (with_reducible refine kp_nn (fun _ => ?_))
      | (with_reducible refine kp_nu ?_ (fun _ => ?_))
      | (with_reducible refine kp_bd ?_ (fun _ _ _ => ?_))
      | (with_reducible refine kp_lts ?_ (fun _ _ => ?_))
      | (with_reducible refine kp_ltv (fun _ => ?_))
      | (with_reducible refine kp_j0 (fun _ _ => ?_) (fun _ _ => ?_))
      | (with_reducible refine kp_j1 (fun _ _ _ => ?_) (fun _ _ => ?_))
      | (with_reducible refine kp_j2 (fun _ _ _ _ => ?_) (fun _ _ => ?_))
      | (with_reducible refine kF_I (by first | assumption | decide) ?_)
      | (with_reducible refine kF_L (by first | assumption | decide) ?_)
      | (with_reducible refine kF_A (by first | assumption | decide) ?_)
      | (with_reducible refine kF_B (by first | assumption | decide) ?_)
      | (with_reducible refine kF_P (by first | assumption | decide) ?_)
      | (show ¬ _; decide)
      | decide
      | solve_by_elim (maxDepth := 4)

theorem kp_X0_note  (i0 : Nat) (i1 : Nat) (st : fSt) {s0 : fSt}  (h : kF (fun c => c = 12) s0 st) : kpO (fun c => c = 12) s0 (f_X0_note i0 i1 st) := by
  unfold f_X0_note
  repeat' first
      | assumption
      | (refine kp_some ?_)
      | exact kp_none
      | (with_reducible refine kp_ite ?_ ?_)
      | (with_reducible refine kp_ix ?_)
      | (with_reducible refine kp_nz ?_)
      | (with_reducible refine kp_bo ?_)
      | (with_reducible refine kp_cp ?_)
      | (with_reducible refine kp_nn (fun _ => ?_))
      | (with_reducible refine kp_nu ?_ (fun _ => ?_))
      | (with_reducible refine kp_bd ?_ (fun _ _ _ => ?_))
      | (with_reducible refine kp_lts ?_ (fun _ _ => ?_))
      | (with_reducible refine kp_ltv (fun _ => ?_))
      | (with_reducible refine kp_j0 (fun _ _ => ?_) (fun _ _ => ?_))
      | (with_reducible refine kp_j1 (fun _ _ _ => ?_) (fun _ _ => ?_))
      | (with_reducible refine kp_j2 (fun _ _ _ _ => ?_) (fun _ _ => ?_))
      | (with_reducible refine kF_I (by first | assumption | decide) ?_)
      | (with_reducible refine kF_L (by first | assumption | decide) ?_)
      | (with_reducible refine kF_A (by first | assumption | decide) ?_)
      | (with_reducible refine kF_B (by first | assumption | decide) ?_)
      | (with_reducible refine kF_P (by first | assumption | decide) ?_)
      | (show ¬ _; decide)
      | decide
      | solve_by_elim (maxDepth := 4)

theorem kp_X0_entry  (i0 : Nat) (a1 : Int32) (a2 : Int32) (st : fSt) {s0 : fSt}  (h : kF (fun c => c = 12) s0 st) : kpO (fun c => c = 12) s0 (f_X0_entry i0 a1 a2 st) := by
  unfold f_X0_entry
  repeat' first
      | assumption
      | (refine kp_some ?_)
      | exact kp_none
      | (with_reducible refine kp_ite ?_ ?_)
      | (with_reducible refine kp_ix ?_)
      | (with_reducible refine kp_nz ?_)
      | (with_reducible refine kp_bo ?_)
      | (with_reducible refine kp_cp ?_)
      | (with_reducible refine kp_nn (fun _ => ?_))
      | (with_reducible refine kp_nu ?_ (fun _ => ?_))
      | (with_reducible refine kp_bd ?_ (fun _ _ _ => ?_))
      | (with_reducible refine kp_lts ?_ (fun _ _ => ?_))
      | (with_reducible refine kp_ltv (fun _ => ?_))
      | (with_reducible refine kp_j0 (fun _ _ => ?_) (fun _ _ => ?_))
      | (with_reducible refine kp_j1 (fun _ _ _ => ?_) (fun _ _ => ?_))
      | (with_reducible refine kp_j2 (fun _ _ _ _ => ?_) (fun _ _ => ?_))
      | (with_reducible refine kF_I (by first | assumption | decide) ?_)
      | (with_reducible refine kF_L (by first | assumption | decide) ?_)
      | (with_reducible refine kF_A (by first | assumption | decide) ?_)
      | (with_reducible refine kF_B (by first | assumption | decide) ?_)
      | (with_reducible refine kF_P (by first | assumption | decide) ?_)
      | (show ¬ _; decide)
      | decide
      | solve_by_elim (maxDepth := 4)

theorem kp_X0_seenInAll_L4  (i0 : Nat) {s0 : fSt}  : ∀ (n : Nat) (z0 : Int32) (z1 : Int32) (s : fSt), kF (fun c => c = 12) s0 s → kpO (fun c => c = 12) s0 (f_X0_seenInAll_L4 i0 n z0 z1 s) := by
  intro n
  induction n with
  | zero => intro z0 z1 s _; unfold f_X0_seenInAll_L4; exact kp_none
  | succ n ih =>
    intro z0 z1 s h
    unfold f_X0_seenInAll_L4
    repeat' first
        | assumption
        | (refine kp_some ?_)
        | exact kp_none
        | (with_reducible refine kp_ite ?_ ?_)
        | (with_reducible refine kp_ix ?_)
        | (with_reducible refine kp_nz ?_)
        | (with_reducible refine kp_bo ?_)
        | (with_reducible refine kp_cp ?_)
        | (with_reducible refine kp_nn (fun _ => ?_))
        | (with_reducible refine kp_nu ?_ (fun _ => ?_))
        | (with_reducible refine kp_bd ?_ (fun _ _ _ => ?_))
        | (with_reducible refine kp_lts ?_ (fun _ _ => ?_))
        | (with_reducible refine kp_ltv (fun _ => ?_))
        | (with_reducible refine kp_j0 (fun _ _ => ?_) (fun _ _ => ?_))
        | (with_reducible refine kp_j1 (fun _ _ _ => ?_) (fun _ _ => ?_))
        | (with_reducible refine kp_j2 (fun _ _ _ _ => ?_) (fun _ _ => ?_))
        | (with_reducible refine kF_I (by first | assumption | decide) ?_)
        | (with_reducible refine kF_L (by first | assumption | decide) ?_)
        | (with_reducible refine kF_A (by first | assumption | decide) ?_)
        | (with_reducible refine kF_B (by first | assumption | decide) ?_)
        | (with_reducible refine kF_P (by first | assumption | decide) ?_)
        | (with_reducible apply kp_X0_entry)
        | (show ¬ _; decide)
        | decide
        | (apply ih; assumption)
        | solve_by_elim (maxDepth := 4)

theorem kp_X0_seenInAll  (i0 : Nat) (st : fSt) {s0 : fSt}  (h : kF (fun c => c = 12) s0 st) : kpO (fun c => c = 12) s0 (f_X0_seenInAll i0 st) := by
  unfold f_X0_seenInAll
  repeat' first
      | assumption
      | (refine kp_some ?_)
      | exact kp_none
      | (with_reducible refine kp_ite ?_ ?_)
      | (with_reducible refine kp_ix ?_)
      | (with_reducible refine kp_nz ?_)
      | (with_reducible refine kp_bo ?_)
      | (with_reducible refine kp_cp ?_)
      | (with_reducible refine kp_nn (fun _ => ?_))
      | (with_reducible refine kp_nu ?_ (fun _ => ?_))
      | (with_reducible refine kp_bd ?_ (fun _ _ _ => ?_))
      | (with_reducible refine kp_lts ?_ (fun _ _ => ?_))
      | (with_reducible refine kp_ltv (fun _ => ?_))
      | (with_reducible refine kp_j0 (fun _ _ => ?_) (fun _ _ => ?_))
      | (with_reducible refine kp_j1 (fun _ _ _ => ?_) (fun _ _ => ?_))
      | (with_reducible refine kp_j2 (fun _ _ _ _ => ?_) (fun _ _ => ?_))
      | (with_reducible refine kF_I (by first | assumption | decide) ?_)
      | (with_reducible refine kF_L (by first | assumption | decide) ?_)
      | (with_reducible refine kF_A (by first | assumption | decide) ?_)
      | (with_reducible refine kF_B (by first | assumption | decide) ?_)
      | (with_reducible refine kF_P (by first | assumption | decide) ?_)
      | (with_reducible apply kp_X0_seenInAll_L4)
      | (show ¬ _; decide)
      | decide
      | solve_by_elim (maxDepth := 4)

theorem kp_X0_timesSeen_L4  (i0 : Nat) (a1 : Int32) {s0 : fSt}  : ∀ (n : Nat) (z0 : Int32) (z1 : Int32) (s : fSt), kF (fun c => c = 12) s0 s → kpO (fun c => c = 12) s0 (f_X0_timesSeen_L4 i0 a1 n z0 z1 s) := by
  intro n
  induction n with
  | zero => intro z0 z1 s _; unfold f_X0_timesSeen_L4; exact kp_none
  | succ n ih =>
    intro z0 z1 s h
    unfold f_X0_timesSeen_L4
    repeat' first
        | assumption
        | (refine kp_some ?_)
        | exact kp_none
        | (with_reducible refine kp_ite ?_ ?_)
        | (with_reducible refine kp_ix ?_)
        | (with_reducible refine kp_nz ?_)
        | (with_reducible refine kp_bo ?_)
        | (with_reducible refine kp_cp ?_)
        | (with_reducible refine kp_nn (fun _ => ?_))
        | (with_reducible refine kp_nu ?_ (fun _ => ?_))
        | (with_reducible refine kp_bd ?_ (fun _ _ _ => ?_))
        | (with_reducible refine kp_lts ?_ (fun _ _ => ?_))
        | (with_reducible refine kp_ltv (fun _ => ?_))
        | (with_reducible refine kp_j0 (fun _ _ => ?_) (fun _ _ => ?_))
        | (with_reducible refine kp_j1 (fun _ _ _ => ?_) (fun _ _ => ?_))
        | (with_reducible refine kp_j2 (fun _ _ _ _ => ?_) (fun _ _ => ?_))
        | (with_reducible refine kF_I (by first | assumption | decide) ?_)
        | (with_reducible refine kF_L (by first | assumption | decide) ?_)
        | (with_reducible refine kF_A (by first | assumption | decide) ?_)
        | (with_reducible refine kF_B (by first | assumption | decide) ?_)
        | (with_reducible refine kF_P (by first | assumption | decide) ?_)
        | (with_reducible apply kp_X0_entry)
        | (show ¬ _; decide)
        | decide
        | (apply ih; assumption)
        | solve_by_elim (maxDepth := 4)

theorem kp_X0_timesSeen  (i0 : Nat) (a1 : Int32) (st : fSt) {s0 : fSt}  (h : kF (fun c => c = 12) s0 st) : kpO (fun c => c = 12) s0 (f_X0_timesSeen i0 a1 st) := by
  unfold f_X0_timesSeen
  repeat' first
      | assumption
      | (refine kp_some ?_)
      | exact kp_none
      | (with_reducible refine kp_ite ?_ ?_)
      | (with_reducible refine kp_ix ?_)
      | (with_reducible refine kp_nz ?_)
      | (with_reducible refine kp_bo ?_)
      | (with_reducible refine kp_cp ?_)
      | (with_reducible refine kp_nn (fun _ => ?_))
      | (with_reducible refine kp_nu ?_ (fun _ => ?_))
      | (with_reducible refine kp_bd ?_ (fun _ _ _ => ?_))
      | (with_reducible refine kp_lts ?_ (fun _ _ => ?_))
      | (with_reducible refine kp_ltv (fun _ => ?_))
      | (with_reducible refine kp_j0 (fun _ _ => ?_) (fun _ _ => ?_))
      | (with_reducible refine kp_j1 (fun _ _ _ => ?_) (fun _ _ => ?_))
      | (with_reducible refine kp_j2 (fun _ _ _ _ => ?_) (fun _ _ => ?_))
      | (with_reducible refine kF_I (by first | assumption | decide) ?_)
      | (with_reducible refine kF_L (by first | assumption | decide) ?_)
      | (with_reducible refine kF_A (by first | assumption | decide) ?_)
      | (with_reducible refine kF_B (by first | assumption | decide) ?_)
      | (with_reducible refine kF_P (by first | assumption | decide) ?_)
      | (with_reducible apply kp_X0_timesSeen_L4)
      | (show ¬ _; decide)
      | decide
      | solve_by_elim (maxDepth := 4)

theorem kp_X0_seenWith_L4  (i0 : Nat) (a1 : Int32) {s0 : fSt}  : ∀ (n : Nat) (z0 : Int32) (z1 : Int32) (s : fSt), kF (fun c => c = 12) s0 s → kpO (fun c => c = 12) s0 (f_X0_seenWith_L4 i0 a1 n z0 z1 s) := by
  intro n
  induction n with
  | zero => intro z0 z1 s _; unfold f_X0_seenWith_L4; exact kp_none
  | succ n ih =>
    intro z0 z1 s h
    unfold f_X0_seenWith_L4
    repeat' first
        | assumption
        | (refine kp_some ?_)
        | exact kp_none
        | (with_reducible refine kp_ite ?_ ?_)
        | (with_reducible refine kp_ix ?_)
        | (with_reducible refine kp_nz ?_)
        | (with_reducible refine kp_bo ?_)
        | (with_reducible refine kp_cp ?_)
        | (with_reducible refine kp_nn (fun _ => ?_))
        | (with_reducible refine kp_nu ?_ (fun _ => ?_))
        | (with_reducible refine kp_bd ?_ (fun _ _ _ => ?_))
        | (with_reducible refine kp_lts ?_ (fun _ _ => ?_))
        | (with_reducible refine kp_ltv (fun _ => ?_))
        | (with_reducible refine kp_j0 (fun _ _ => ?_) (fun _ _ => ?_))
        | (with_reducible refine kp_j1 (fun _ _ _ => ?_) (fun _ _ => ?_))
        | (with_reducible refine kp_j2 (fun _ _ _ _ => ?_) (fun _ _ => ?_))
        | (with_reducible refine kF_I (by first | assumption | decide) ?_)
        | (with_reducible refine kF_L (by first | assumption | decide) ?_)
        | (with_reducible refine kF_A (by first | assumption | decide) ?_)
        | (with_reducible refine kF_B (by first | assumption | decide) ?_)
        | (with_reducible refine kF_P (by first | assumption | decide) ?_)
        | (with_reducible apply kp_X0_entry)
        | (show ¬ _; decide)
        | decide
        | (apply ih; assumption)
        | solve_by_elim (maxDepth := 4)

theorem kp_X0_seenWith  (i0 : Nat) (a1 : Int32) (st : fSt) {s0 : fSt}  (h : kF (fun c => c = 12) s0 st) : kpO (fun c => c = 12) s0 (f_X0_seenWith i0 a1 st) := by
  unfold f_X0_seenWith
  repeat' first
      | assumption
      | (refine kp_some ?_)
      | exact kp_none
      | (with_reducible refine kp_ite ?_ ?_)
      | (with_reducible refine kp_ix ?_)
      | (with_reducible refine kp_nz ?_)
      | (with_reducible refine kp_bo ?_)
      | (with_reducible refine kp_cp ?_)
      | (with_reducible refine kp_nn (fun _ => ?_))
      | (with_reducible refine kp_nu ?_ (fun _ => ?_))
      | (with_reducible refine kp_bd ?_ (fun _ _ _ => ?_))
      | (with_reducible refine kp_lts ?_ (fun _ _ => ?_))
      | (with_reducible refine kp_ltv (fun _ => ?_))
      | (with_reducible refine kp_j0 (fun _ _ => ?_) (fun _ _ => ?_))
      | (with_reducible refine kp_j1 (fun _ _ _ => ?_) (fun _ _ => ?_))
      | (with_reducible refine kp_j2 (fun _ _ _ _ => ?_) (fun _ _ => ?_))
      | (with_reducible refine kF_I (by first | assumption | decide) ?_)
      | (with_reducible refine kF_L (by first | assumption | decide) ?_)
      | (with_reducible refine kF_A (by first | assumption | decide) ?_)
      | (with_reducible refine kF_B (by first | assumption | decide) ?_)
      | (with_reducible refine kF_P (by first | assumption | decide) ?_)
      | (with_reducible apply kp_X0_seenWith_L4)
      | (show ¬ _; decide)
      | decide
      | solve_by_elim (maxDepth := 4)

theorem kp_X7_linesOfRole_L4  (i0 : Nat) (a1 : Int32) {s0 : fSt}  : ∀ (n : Nat) (z0 : Int32) (z1 : Int32) (s : fSt), kF (fun c => c = 12) s0 s → kpO (fun c => c = 12) s0 (f_X7_linesOfRole_L4 i0 a1 n z0 z1 s) := by
  intro n
  induction n with
  | zero => intro z0 z1 s _; unfold f_X7_linesOfRole_L4; exact kp_none
  | succ n ih =>
    intro z0 z1 s h
    unfold f_X7_linesOfRole_L4
    repeat' first
        | assumption
        | (refine kp_some ?_)
        | exact kp_none
        | (with_reducible refine kp_ite ?_ ?_)
        | (with_reducible refine kp_ix ?_)
        | (with_reducible refine kp_nz ?_)
        | (with_reducible refine kp_bo ?_)
        | (with_reducible refine kp_cp ?_)
        | (with_reducible refine kp_nn (fun _ => ?_))
        | (with_reducible refine kp_nu ?_ (fun _ => ?_))
        | (with_reducible refine kp_bd ?_ (fun _ _ _ => ?_))
        | (with_reducible refine kp_lts ?_ (fun _ _ => ?_))
        | (with_reducible refine kp_ltv (fun _ => ?_))
        | (with_reducible refine kp_j0 (fun _ _ => ?_) (fun _ _ => ?_))
        | (with_reducible refine kp_j1 (fun _ _ _ => ?_) (fun _ _ => ?_))
        | (with_reducible refine kp_j2 (fun _ _ _ _ => ?_) (fun _ _ => ?_))
        | (with_reducible refine kF_I (by first | assumption | decide) ?_)
        | (with_reducible refine kF_L (by first | assumption | decide) ?_)
        | (with_reducible refine kF_A (by first | assumption | decide) ?_)
        | (with_reducible refine kF_B (by first | assumption | decide) ?_)
        | (with_reducible refine kF_P (by first | assumption | decide) ?_)
        | (show ¬ _; decide)
        | decide
        | (apply ih; assumption)
        | solve_by_elim (maxDepth := 4)

theorem kp_X7_linesOfRole  (i0 : Nat) (a1 : Int32) (st : fSt) {s0 : fSt}  (h : kF (fun c => c = 12) s0 st) : kpO (fun c => c = 12) s0 (f_X7_linesOfRole i0 a1 st) := by
  unfold f_X7_linesOfRole
  repeat' first
      | assumption
      | (refine kp_some ?_)
      | exact kp_none
      | (with_reducible refine kp_ite ?_ ?_)
      | (with_reducible refine kp_ix ?_)
      | (with_reducible refine kp_nz ?_)
      | (with_reducible refine kp_bo ?_)
      | (with_reducible refine kp_cp ?_)
      | (with_reducible refine kp_nn (fun _ => ?_))
      | (with_reducible refine kp_nu ?_ (fun _ => ?_))
      | (with_reducible refine kp_bd ?_ (fun _ _ _ => ?_))
      | (with_reducible refine kp_lts ?_ (fun _ _ => ?_))
      | (with_reducible refine kp_ltv (fun _ => ?_))
      | (with_reducible refine kp_j0 (fun _ _ => ?_) (fun _ _ => ?_))
      | (with_reducible refine kp_j1 (fun _ _ _ => ?_) (fun _ _ => ?_))
      | (with_reducible refine kp_j2 (fun _ _ _ _ => ?_) (fun _ _ => ?_))
      | (with_reducible refine kF_I (by first | assumption | decide) ?_)
      | (with_reducible refine kF_L (by first | assumption | decide) ?_)
      | (with_reducible refine kF_A (by first | assumption | decide) ?_)
      | (with_reducible refine kF_B (by first | assumption | decide) ?_)
      | (with_reducible refine kF_P (by first | assumption | decide) ?_)
      | (with_reducible apply kp_X7_linesOfRole_L4)
      | (show ¬ _; decide)
      | decide
      | solve_by_elim (maxDepth := 4)

theorem kp_X7_rolesBeside_L4  (i0 : Nat) (a1 : Int32) {s0 : fSt}  : ∀ (n : Nat) (z0 : Int32) (z1 : Int32) (s : fSt), kF (fun c => c = 12) s0 s → kpO (fun c => c = 12) s0 (f_X7_rolesBeside_L4 i0 a1 n z0 z1 s) := by
  intro n
  induction n with
  | zero => intro z0 z1 s _; unfold f_X7_rolesBeside_L4; exact kp_none
  | succ n ih =>
    intro z0 z1 s h
    unfold f_X7_rolesBeside_L4
    repeat' first
        | assumption
        | (refine kp_some ?_)
        | exact kp_none
        | (with_reducible refine kp_ite ?_ ?_)
        | (with_reducible refine kp_ix ?_)
        | (with_reducible refine kp_nz ?_)
        | (with_reducible refine kp_bo ?_)
        | (with_reducible refine kp_cp ?_)
        | (with_reducible refine kp_nn (fun _ => ?_))
        | (with_reducible refine kp_nu ?_ (fun _ => ?_))
        | (with_reducible refine kp_bd ?_ (fun _ _ _ => ?_))
        | (with_reducible refine kp_lts ?_ (fun _ _ => ?_))
        | (with_reducible refine kp_ltv (fun _ => ?_))
        | (with_reducible refine kp_j0 (fun _ _ => ?_) (fun _ _ => ?_))
        | (with_reducible refine kp_j1 (fun _ _ _ => ?_) (fun _ _ => ?_))
        | (with_reducible refine kp_j2 (fun _ _ _ _ => ?_) (fun _ _ => ?_))
        | (with_reducible refine kF_I (by first | assumption | decide) ?_)
        | (with_reducible refine kF_L (by first | assumption | decide) ?_)
        | (with_reducible refine kF_A (by first | assumption | decide) ?_)
        | (with_reducible refine kF_B (by first | assumption | decide) ?_)
        | (with_reducible refine kF_P (by first | assumption | decide) ?_)
        | (show ¬ _; decide)
        | decide
        | (apply ih; assumption)
        | solve_by_elim (maxDepth := 4)

theorem kp_X7_rolesBeside  (i0 : Nat) (a1 : Int32) (st : fSt) {s0 : fSt}  (h : kF (fun c => c = 12) s0 st) : kpO (fun c => c = 12) s0 (f_X7_rolesBeside i0 a1 st) := by
  unfold f_X7_rolesBeside
  repeat' first
      | assumption
      | (refine kp_some ?_)
      | exact kp_none
      | (with_reducible refine kp_ite ?_ ?_)
      | (with_reducible refine kp_ix ?_)
      | (with_reducible refine kp_nz ?_)
      | (with_reducible refine kp_bo ?_)
      | (with_reducible refine kp_cp ?_)
      | (with_reducible refine kp_nn (fun _ => ?_))
      | (with_reducible refine kp_nu ?_ (fun _ => ?_))
      | (with_reducible refine kp_bd ?_ (fun _ _ _ => ?_))
      | (with_reducible refine kp_lts ?_ (fun _ _ => ?_))
      | (with_reducible refine kp_ltv (fun _ => ?_))
      | (with_reducible refine kp_j0 (fun _ _ => ?_) (fun _ _ => ?_))
      | (with_reducible refine kp_j1 (fun _ _ _ => ?_) (fun _ _ => ?_))
      | (with_reducible refine kp_j2 (fun _ _ _ _ => ?_) (fun _ _ => ?_))
      | (with_reducible refine kF_I (by first | assumption | decide) ?_)
      | (with_reducible refine kF_L (by first | assumption | decide) ?_)
      | (with_reducible refine kF_A (by first | assumption | decide) ?_)
      | (with_reducible refine kF_B (by first | assumption | decide) ?_)
      | (with_reducible refine kF_P (by first | assumption | decide) ?_)
      | (with_reducible apply kp_X7_rolesBeside_L4)
      | (show ¬ _; decide)
      | decide
      | solve_by_elim (maxDepth := 4)

theorem kp_X1_mayPlay  (i1 : Nat) (a2 : Int32) (a3 : Int32) (st : fSt) {s0 : fSt}  (h : kF (fun c => c = 12) s0 st) : kpO (fun c => c = 12) s0 (f_X1_mayPlay i1 a2 a3 st) := by
  unfold f_X1_mayPlay
  repeat' first
      | assumption
      | (refine kp_some ?_)
      | exact kp_none
      | (with_reducible refine kp_ite ?_ ?_)
      | (with_reducible refine kp_ix ?_)
      | (with_reducible refine kp_nz ?_)
      | (with_reducible refine kp_bo ?_)
      | (with_reducible refine kp_cp ?_)
      | (with_reducible refine kp_nn (fun _ => ?_))
      | (with_reducible refine kp_nu ?_ (fun _ => ?_))
      | (with_reducible refine kp_bd ?_ (fun _ _ _ => ?_))
      | (with_reducible refine kp_lts ?_ (fun _ _ => ?_))
      | (with_reducible refine kp_ltv (fun _ => ?_))
      | (with_reducible refine kp_j0 (fun _ _ => ?_) (fun _ _ => ?_))
      | (with_reducible refine kp_j1 (fun _ _ _ => ?_) (fun _ _ => ?_))
      | (with_reducible refine kp_j2 (fun _ _ _ _ => ?_) (fun _ _ => ?_))
      | (with_reducible refine kF_I (by first | assumption | decide) ?_)
      | (with_reducible refine kF_L (by first | assumption | decide) ?_)
      | (with_reducible refine kF_A (by first | assumption | decide) ?_)
      | (with_reducible refine kF_B (by first | assumption | decide) ?_)
      | (with_reducible refine kF_P (by first | assumption | decide) ?_)
      | (show ¬ _; decide)
      | decide
      | solve_by_elim (maxDepth := 4)

theorem kp_X1_tryActors_L3  (rec : Nat → Int32 → Int32 → fSt → Option (Unit × fSt)) (i1 : Nat) (a2 : Int32) (a3 : Int32) {s0 : fSt} (hrec : ∀ (z0 : Nat) (z1 : Int32) (z2 : Int32) (s : fSt), kF (fun c => c = 12) s0 s → kpO (fun c => c = 12) s0 (rec z0 z1 z2 s)) : ∀ (n : Nat) (z0 : Int32) (s : fSt), kF (fun c => c = 12) s0 s → kpO (fun c => c = 12) s0 (f_X1_tryActors_L3 rec i1 a2 a3 n z0 s) := by
  intro n
  induction n with
  | zero => intro z0 s _; unfold f_X1_tryActors_L3; exact kp_none
  | succ n ih =>
    intro z0 s h
    unfold f_X1_tryActors_L3
    repeat' first
        | assumption
        | (refine kp_some ?_)
        | exact kp_none
        | (with_reducible refine kp_ite ?_ ?_)
        | (with_reducible refine kp_ix ?_)
        | (with_reducible refine kp_nz ?_)
        | (with_reducible refine kp_bo ?_)
        | (with_reducible refine kp_cp ?_)
        | (with_reducible refine kp_nn (fun _ => ?_))
        | (with_reducible refine kp_nu ?_ (fun _ => ?_))
        | (with_reducible refine kp_bd ?_ (fun _ _ _ => ?_))
        | (with_reducible refine kp_lts ?_ (fun _ _ => ?_))
        | (with_reducible refine kp_ltv (fun _ => ?_))
        | (with_reducible refine kp_j0 (fun _ _ => ?_) (fun _ _ => ?_))
        | (with_reducible refine kp_j1 (fun _ _ _ => ?_) (fun _ _ => ?_))
        | (with_reducible refine kp_j2 (fun _ _ _ _ => ?_) (fun _ _ => ?_))
        | (with_reducible refine kF_I (by first | assumption | decide) ?_)
        | (with_reducible refine kF_L (by first | assumption | decide) ?_)
        | (with_reducible refine kF_A (by first | assumption | decide) ?_)
        | (with_reducible refine kF_B (by first | assumption | decide) ?_)
        | (with_reducible refine kF_P (by first | assumption | decide) ?_)
        | (with_reducible apply kp_X1_mayPlay)
        | (show ¬ _; decide)
        | decide
        | (apply ih; assumption)
        | solve_by_elim (maxDepth := 4)

theorem kp_X1_tryActors  (rec : Nat → Int32 → Int32 → fSt → Option (Unit × fSt)) (i1 : Nat) (a2 : Int32) (a3 : Int32) (st : fSt) {s0 : fSt} (hrec : ∀ (z0 : Nat) (z1 : Int32) (z2 : Int32) (s : fSt), kF (fun c => c = 12) s0 s → kpO (fun c => c = 12) s0 (rec z0 z1 z2 s)) (h : kF (fun c => c = 12) s0 st) : kpO (fun c => c = 12) s0 (f_X1_tryActors rec i1 a2 a3 st) := by
  unfold f_X1_tryActors
  repeat' first
      | assumption
      | (refine kp_some ?_)
      | exact kp_none
      | (with_reducible refine kp_ite ?_ ?_)
      | (with_reducible refine kp_ix ?_)
      | (with_reducible refine kp_nz ?_)
      | (with_reducible refine kp_bo ?_)
      | (with_reducible refine kp_cp ?_)
      | (with_reducible refine kp_nn (fun _ => ?_))
      | (with_reducible refine kp_nu ?_ (fun _ => ?_))
      | (with_reducible refine kp_bd ?_ (fun _ _ _ => ?_))
      | (with_reducible refine kp_lts ?_ (fun _ _ => ?_))
      | (with_reducible refine kp_ltv (fun _ => ?_))
      | (with_reducible refine kp_j0 (fun _ _ => ?_) (fun _ _ => ?_))
      | (with_reducible refine kp_j1 (fun _ _ _ => ?_) (fun _ _ => ?_))
      | (with_reducible refine kp_j2 (fun _ _ _ _ => ?_) (fun _ _ => ?_))
      | (with_reducible refine kF_I (by first | assumption | decide) ?_)
      | (with_reducible refine kF_L (by first | assumption | decide) ?_)
      | (with_reducible refine kF_A (by first | assumption | decide) ?_)
      | (with_reducible refine kF_B (by first | assumption | decide) ?_)
      | (with_reducible refine kF_P (by first | assumption | decide) ?_)
      | (with_reducible apply kp_X1_tryActors_L3)
      | (show ¬ _; decide)
      | decide
      | solve_by_elim (maxDepth := 4)

theorem kp_X1_choose_L20  (i1 : Nat) (k6 : Int32 → fSt → Option (Unit × fSt)) {s0 : fSt} (hk6 : ∀ (z0 : Int32) (s : fSt), kF (fun c => c = 12) s0 s → kpO (fun c => c = 12) s0 (k6 z0 s)) : ∀ (n : Nat) (z0 : Int32) (s : fSt), kF (fun c => c = 12) s0 s → kpO (fun c => c = 12) s0 (f_X1_choose_L20 i1 k6 n z0 s) := by
  intro n
  induction n with
  | zero => intro z0 s _; unfold f_X1_choose_L20; exact kp_none
  | succ n ih =>
    intro z0 s h
    unfold f_X1_choose_L20
    repeat' first
        | assumption
        | (refine kp_some ?_)
        | exact kp_none
        | (with_reducible refine kp_ite ?_ ?_)
        | (with_reducible refine kp_ix ?_)
        | (with_reducible refine kp_nz ?_)
        | (with_reducible refine kp_bo ?_)
        | (with_reducible refine kp_cp ?_)
        | (with_reducible refine kp_nn (fun _ => ?_))
        | (with_reducible refine kp_nu ?_ (fun _ => ?_))
        | (with_reducible refine kp_bd ?_ (fun _ _ _ => ?_))
        | (with_reducible refine kp_lts ?_ (fun _ _ => ?_))
        | (with_reducible refine kp_ltv (fun _ => ?_))
        | (with_reducible refine kp_j0 (fun _ _ => ?_) (fun _ _ => ?_))
        | (with_reducible refine kp_j1 (fun _ _ _ => ?_) (fun _ _ => ?_))
        | (with_reducible refine kp_j2 (fun _ _ _ _ => ?_) (fun _ _ => ?_))
        | (with_reducible refine kF_I (by first | assumption | decide) ?_)
        | (with_reducible refine kF_L (by first | assumption | decide) ?_)
        | (with_reducible refine kF_A (by first | assumption | decide) ?_)
        | (with_reducible refine kF_B (by first | assumption | decide) ?_)
        | (with_reducible refine kF_P (by first | assumption | decide) ?_)
        | (show ¬ _; decide)
        | decide
        | (apply ih; assumption)
        | solve_by_elim (maxDepth := 4)

theorem kp_X1_choose_b  (rec : Nat → Int32 → Int32 → fSt → Option (Unit × fSt)) (i1 : Nat) (a2 : Int32) (a3 : Int32) (st : fSt) {s0 : fSt} (hrec : ∀ (z0 : Nat) (z1 : Int32) (z2 : Int32) (s : fSt), kF (fun c => c = 12) s0 s → kpO (fun c => c = 12) s0 (rec z0 z1 z2 s)) (h : kF (fun c => c = 12) s0 st) : kpO (fun c => c = 12) s0 (f_X1_choose_b rec i1 a2 a3 st) := by
  unfold f_X1_choose_b
  repeat' first
      | assumption
      | (refine kp_some ?_)
      | exact kp_none
      | (with_reducible refine kp_ite ?_ ?_)
      | (with_reducible refine kp_ix ?_)
      | (with_reducible refine kp_nz ?_)
      | (with_reducible refine kp_bo ?_)
      | (with_reducible refine kp_cp ?_)
      | (with_reducible refine kp_nn (fun _ => ?_))
      | (with_reducible refine kp_nu ?_ (fun _ => ?_))
      | (with_reducible refine kp_bd ?_ (fun _ _ _ => ?_))
      | (with_reducible refine kp_lts ?_ (fun _ _ => ?_))
      | (with_reducible refine kp_ltv (fun _ => ?_))
      | (with_reducible refine kp_j0 (fun _ _ => ?_) (fun _ _ => ?_))
      | (with_reducible refine kp_j1 (fun _ _ _ => ?_) (fun _ _ => ?_))
      | (with_reducible refine kp_j2 (fun _ _ _ _ => ?_) (fun _ _ => ?_))
      | (with_reducible refine kF_I (by first | assumption | decide) ?_)
      | (with_reducible refine kF_L (by first | assumption | decide) ?_)
      | (with_reducible refine kF_A (by first | assumption | decide) ?_)
      | (with_reducible refine kF_B (by first | assumption | decide) ?_)
      | (with_reducible refine kF_P (by first | assumption | decide) ?_)
      | (with_reducible apply kp_X1_tryActors)
      | (with_reducible apply kp_X1_choose_L20)
      | (show ¬ _; decide)
      | decide
      | solve_by_elim (maxDepth := 4)

theorem kp_X1_choose {s0 : fSt} : ∀ (n : Nat) (z0 : Nat) (z1 : Int32) (z2 : Int32) (s : fSt), kF (fun c => c = 12) s0 s → kpO (fun c => c = 12) s0 (f_X1_choose n z0 z1 z2 s) := by
  intro n
  induction n with
  | zero => intro z0 z1 z2 s _; exact kp_none
  | succ n ih =>
    intro z0 z1 z2 s h
    exact kp_X1_choose_b (f_X1_choose n) z0 z1 z2 s ih h
theorem kp_X1_findBest_L2  (i1 : Nat) (a2 : Int32) (k3 : fSt → Option (Int32 × fSt)) {s0 : fSt} (hk3 : ∀ (s : fSt), kF (fun c => c = 12) s0 s → kpO (fun c => c = 12) s0 (k3 s)) : ∀ (n : Nat) (z0 : Int32) (s : fSt), kF (fun c => c = 12) s0 s → kpO (fun c => c = 12) s0 (f_X1_findBest_L2 i1 a2 k3 n z0 s) := by
  intro n
  induction n with
  | zero => intro z0 s _; unfold f_X1_findBest_L2; exact kp_none
  | succ n ih =>
    intro z0 s h
    unfold f_X1_findBest_L2
    repeat' first
        | assumption
        | (refine kp_some ?_)
        | exact kp_none
        | (with_reducible refine kp_ite ?_ ?_)
        | (with_reducible refine kp_ix ?_)
        | (with_reducible refine kp_nz ?_)
        | (with_reducible refine kp_bo ?_)
        | (with_reducible refine kp_cp ?_)
        | (with_reducible refine kp_nn (fun _ => ?_))
        | (with_reducible refine kp_nu ?_ (fun _ => ?_))
        | (with_reducible refine kp_bd ?_ (fun _ _ _ => ?_))
        | (with_reducible refine kp_lts ?_ (fun _ _ => ?_))
        | (with_reducible refine kp_ltv (fun _ => ?_))
        | (with_reducible refine kp_j0 (fun _ _ => ?_) (fun _ _ => ?_))
        | (with_reducible refine kp_j1 (fun _ _ _ => ?_) (fun _ _ => ?_))
        | (with_reducible refine kp_j2 (fun _ _ _ _ => ?_) (fun _ _ => ?_))
        | (with_reducible refine kF_I (by first | assumption | decide) ?_)
        | (with_reducible refine kF_L (by first | assumption | decide) ?_)
        | (with_reducible refine kF_A (by first | assumption | decide) ?_)
        | (with_reducible refine kF_B (by first | assumption | decide) ?_)
        | (with_reducible refine kF_P (by first | assumption | decide) ?_)
        | (with_reducible apply kp_X7_linesOfRole)
        | (with_reducible apply kp_X7_rolesBeside)
        | (show ¬ _; decide)
        | decide
        | (apply ih; assumption)
        | solve_by_elim (maxDepth := 4)

theorem kp_X1_findBest  (i1 : Nat) (a2 : Int32) (st : fSt) {s0 : fSt}  (h : kF (fun c => c = 12) s0 st) : kpO (fun c => c = 12) s0 (f_X1_findBest i1 a2 st) := by
  unfold f_X1_findBest
  repeat' first
      | assumption
      | (refine kp_some ?_)
      | exact kp_none
      | (with_reducible refine kp_ite ?_ ?_)
      | (with_reducible refine kp_ix ?_)
      | (with_reducible refine kp_nz ?_)
      | (with_reducible refine kp_bo ?_)
      | (with_reducible refine kp_cp ?_)
      | (with_reducible refine kp_nn (fun _ => ?_))
      | (with_reducible refine kp_nu ?_ (fun _ => ?_))
      | (with_reducible refine kp_bd ?_ (fun _ _ _ => ?_))
      | (with_reducible refine kp_lts ?_ (fun _ _ => ?_))
      | (with_reducible refine kp_ltv (fun _ => ?_))
      | (with_reducible refine kp_j0 (fun _ _ => ?_) (fun _ _ => ?_))
      | (with_reducible refine kp_j1 (fun _ _ _ => ?_) (fun _ _ => ?_))
      | (with_reducible refine kp_j2 (fun _ _ _ _ => ?_) (fun _ _ => ?_))
      | (with_reducible refine kF_I (by first | assumption | decide) ?_)
      | (with_reducible refine kF_L (by first | assumption | decide) ?_)
      | (with_reducible refine kF_A (by first | assumption | decide) ?_)
      | (with_reducible refine kF_B (by first | assumption | decide) ?_)
      | (with_reducible refine kF_P (by first | assumption | decide) ?_)
      | (with_reducible apply kp_J7_fill_53178)
      | (with_reducible apply kp_X1_choose)
      | (with_reducible apply kp_X1_findBest_L2)
      | (show ¬ _; decide)
      | decide
      | solve_by_elim (maxDepth := 4)

theorem kp_X2_takeFrom  (i0 : Nat) (i1 : Nat) (st : fSt) {s0 : fSt}  (h : kF (fun c => c = 12) s0 st) : kpO (fun c => c = 12) s0 (f_X2_takeFrom i0 i1 st) := by
  unfold f_X2_takeFrom
  repeat' first
      | assumption
      | (refine kp_some ?_)
      | exact kp_none
      | (with_reducible refine kp_ite ?_ ?_)
      | (with_reducible refine kp_ix ?_)
      | (with_reducible refine kp_nz ?_)
      | (with_reducible refine kp_bo ?_)
      | (with_reducible refine kp_cp ?_)
      | (with_reducible refine kp_nn (fun _ => ?_))
      | (with_reducible refine kp_nu ?_ (fun _ => ?_))
      | (with_reducible refine kp_bd ?_ (fun _ _ _ => ?_))
      | (with_reducible refine kp_lts ?_ (fun _ _ => ?_))
      | (with_reducible refine kp_ltv (fun _ => ?_))
      | (with_reducible refine kp_j0 (fun _ _ => ?_) (fun _ _ => ?_))
      | (with_reducible refine kp_j1 (fun _ _ _ => ?_) (fun _ _ => ?_))
      | (with_reducible refine kp_j2 (fun _ _ _ _ => ?_) (fun _ _ => ?_))
      | (with_reducible refine kF_I (by first | assumption | decide) ?_)
      | (with_reducible refine kF_L (by first | assumption | decide) ?_)
      | (with_reducible refine kF_A (by first | assumption | decide) ?_)
      | (with_reducible refine kF_B (by first | assumption | decide) ?_)
      | (with_reducible refine kF_P (by first | assumption | decide) ?_)
      | (with_reducible apply kp_X0_takeFrom)
      | (show ¬ _; decide)
      | decide
      | solve_by_elim (maxDepth := 4)

theorem kp_X2_raise  (i0 : Nat) (i1 : Nat) (st : fSt) {s0 : fSt}  (h : kF (fun c => c = 12) s0 st) : kpO (fun c => c = 12) s0 (f_X2_raise i0 i1 st) := by
  unfold f_X2_raise
  repeat' first
      | assumption
      | (refine kp_some ?_)
      | exact kp_none
      | (with_reducible refine kp_ite ?_ ?_)
      | (with_reducible refine kp_ix ?_)
      | (with_reducible refine kp_nz ?_)
      | (with_reducible refine kp_bo ?_)
      | (with_reducible refine kp_cp ?_)
      | (with_reducible refine kp_nn (fun _ => ?_))
      | (with_reducible refine kp_nu ?_ (fun _ => ?_))
      | (with_reducible refine kp_bd ?_ (fun _ _ _ => ?_))
      | (with_reducible refine kp_lts ?_ (fun _ _ => ?_))
      | (with_reducible refine kp_ltv (fun _ => ?_))
      | (with_reducible refine kp_j0 (fun _ _ => ?_) (fun _ _ => ?_))
      | (with_reducible refine kp_j1 (fun _ _ _ => ?_) (fun _ _ => ?_))
      | (with_reducible refine kp_j2 (fun _ _ _ _ => ?_) (fun _ _ => ?_))
      | (with_reducible refine kF_I (by first | assumption | decide) ?_)
      | (with_reducible refine kF_L (by first | assumption | decide) ?_)
      | (with_reducible refine kF_A (by first | assumption | decide) ?_)
      | (with_reducible refine kF_B (by first | assumption | decide) ?_)
      | (with_reducible refine kF_P (by first | assumption | decide) ?_)
      | (with_reducible apply kp_X0_clear)
      | (show ¬ _; decide)
      | decide
      | solve_by_elim (maxDepth := 4)

theorem kp_X2_setBarred  (i0 : Nat) (a1 : Int32) (a2 : Int32) (st : fSt) {s0 : fSt}  (h : kF (fun c => c = 12) s0 st) : kpO (fun c => c = 12) s0 (f_X2_setBarred i0 a1 a2 st) := by
  unfold f_X2_setBarred
  repeat' first
      | assumption
      | (refine kp_some ?_)
      | exact kp_none
      | (with_reducible refine kp_ite ?_ ?_)
      | (with_reducible refine kp_ix ?_)
      | (with_reducible refine kp_nz ?_)
      | (with_reducible refine kp_bo ?_)
      | (with_reducible refine kp_cp ?_)
      | (with_reducible refine kp_nn (fun _ => ?_))
      | (with_reducible refine kp_nu ?_ (fun _ => ?_))
      | (with_reducible refine kp_bd ?_ (fun _ _ _ => ?_))
      | (with_reducible refine kp_lts ?_ (fun _ _ => ?_))
      | (with_reducible refine kp_ltv (fun _ => ?_))
      | (with_reducible refine kp_j0 (fun _ _ => ?_) (fun _ _ => ?_))
      | (with_reducible refine kp_j1 (fun _ _ _ => ?_) (fun _ _ => ?_))
      | (with_reducible refine kp_j2 (fun _ _ _ _ => ?_) (fun _ _ => ?_))
      | (with_reducible refine kF_I (by first | assumption | decide) ?_)
      | (with_reducible refine kF_L (by first | assumption | decide) ?_)
      | (with_reducible refine kF_A (by first | assumption | decide) ?_)
      | (with_reducible refine kF_B (by first | assumption | decide) ?_)
      | (with_reducible refine kF_P (by first | assumption | decide) ?_)
      | (show ¬ _; decide)
      | decide
      | solve_by_elim (maxDepth := 4)

theorem kp_X2_setDead  (i0 : Nat) (a1 : Int32) (a2 : Int32) (st : fSt) {s0 : fSt}  (h : kF (fun c => c = 12) s0 st) : kpO (fun c => c = 12) s0 (f_X2_setDead i0 a1 a2 st) := by
  unfold f_X2_setDead
  repeat' first
      | assumption
      | (refine kp_some ?_)
      | exact kp_none
      | (with_reducible refine kp_ite ?_ ?_)
      | (with_reducible refine kp_ix ?_)
      | (with_reducible refine kp_nz ?_)
      | (with_reducible refine kp_bo ?_)
      | (with_reducible refine kp_cp ?_)
      | (with_reducible refine kp_nn (fun _ => ?_))
      | (with_reducible refine kp_nu ?_ (fun _ => ?_))
      | (with_reducible refine kp_bd ?_ (fun _ _ _ => ?_))
      | (with_reducible refine kp_lts ?_ (fun _ _ => ?_))
      | (with_reducible refine kp_ltv (fun _ => ?_))
      | (with_reducible refine kp_j0 (fun _ _ => ?_) (fun _ _ => ?_))
      | (with_reducible refine kp_j1 (fun _ _ _ => ?_) (fun _ _ => ?_))
      | (with_reducible refine kp_j2 (fun _ _ _ _ => ?_) (fun _ _ => ?_))
      | (with_reducible refine kF_I (by first | assumption | decide) ?_)
      | (with_reducible refine kF_L (by first | assumption | decide) ?_)
      | (with_reducible refine kF_A (by first | assumption | decide) ?_)
      | (with_reducible refine kF_B (by first | assumption | decide) ?_)
      | (with_reducible refine kF_P (by first | assumption | decide) ?_)
      | (show ¬ _; decide)
      | decide
      | solve_by_elim (maxDepth := 4)

theorem kp_X2_playable  (i0 : Nat) (a1 : Int32) (a2 : Int32) (st : fSt) {s0 : fSt}  (h : kF (fun c => c = 12) s0 st) : kpO (fun c => c = 12) s0 (f_X2_playable i0 a1 a2 st) := by
  unfold f_X2_playable
  repeat' first
      | assumption
      | (refine kp_some ?_)
      | exact kp_none
      | (with_reducible refine kp_ite ?_ ?_)
      | (with_reducible refine kp_ix ?_)
      | (with_reducible refine kp_nz ?_)
      | (with_reducible refine kp_bo ?_)
      | (with_reducible refine kp_cp ?_)
      | (with_reducible refine kp_nn (fun _ => ?_))
      | (with_reducible refine kp_nu ?_ (fun _ => ?_))
      | (with_reducible refine kp_bd ?_ (fun _ _ _ => ?_))
      | (with_reducible refine kp_lts ?_ (fun _ _ => ?_))
      | (with_reducible refine kp_ltv (fun _ => ?_))
      | (with_reducible refine kp_j0 (fun _ _ => ?_) (fun _ _ => ?_))
      | (with_reducible refine kp_j1 (fun _ _ _ => ?_) (fun _ _ => ?_))
      | (with_reducible refine kp_j2 (fun _ _ _ _ => ?_) (fun _ _ => ?_))
      | (with_reducible refine kF_I (by first | assumption | decide) ?_)
      | (with_reducible refine kF_L (by first | assumption | decide) ?_)
      | (with_reducible refine kF_A (by first | assumption | decide) ?_)
      | (with_reducible refine kF_B (by first | assumption | decide) ?_)
      | (with_reducible refine kF_P (by first | assumption | decide) ?_)
      | (show ¬ _; decide)
      | decide
      | solve_by_elim (maxDepth := 4)

theorem kp_X2_opening  (i0 : Nat) (a1 : Int32) (st : fSt) {s0 : fSt}  (h : kF (fun c => c = 12) s0 st) : kpO (fun c => c = 12) s0 (f_X2_opening i0 a1 st) := by
  unfold f_X2_opening
  repeat' first
      | assumption
      | (refine kp_some ?_)
      | exact kp_none
      | (with_reducible refine kp_ite ?_ ?_)
      | (with_reducible refine kp_ix ?_)
      | (with_reducible refine kp_nz ?_)
      | (with_reducible refine kp_bo ?_)
      | (with_reducible refine kp_cp ?_)
      | (with_reducible refine kp_nn (fun _ => ?_))
      | (with_reducible refine kp_nu ?_ (fun _ => ?_))
      | (with_reducible refine kp_bd ?_ (fun _ _ _ => ?_))
      | (with_reducible refine kp_lts ?_ (fun _ _ => ?_))
      | (with_reducible refine kp_ltv (fun _ => ?_))
      | (with_reducible refine kp_j0 (fun _ _ => ?_) (fun _ _ => ?_))
      | (with_reducible refine kp_j1 (fun _ _ _ => ?_) (fun _ _ => ?_))
      | (with_reducible refine kp_j2 (fun _ _ _ _ => ?_) (fun _ _ => ?_))
      | (with_reducible refine kF_I (by first | assumption | decide) ?_)
      | (with_reducible refine kF_L (by first | assumption | decide) ?_)
      | (with_reducible refine kF_A (by first | assumption | decide) ?_)
      | (with_reducible refine kF_B (by first | assumption | decide) ?_)
      | (with_reducible refine kF_P (by first | assumption | decide) ?_)
      | (with_reducible apply kp_X2_playable)
      | (show ¬ _; decide)
      | decide
      | solve_by_elim (maxDepth := 4)

theorem kp_X2_canOpen  (i0 : Nat) (st : fSt) {s0 : fSt}  (h : kF (fun c => c = 12) s0 st) : kpO (fun c => c = 12) s0 (f_X2_canOpen i0 st) := by
  unfold f_X2_canOpen
  repeat' first
      | assumption
      | (refine kp_some ?_)
      | exact kp_none
      | (with_reducible refine kp_ite ?_ ?_)
      | (with_reducible refine kp_ix ?_)
      | (with_reducible refine kp_nz ?_)
      | (with_reducible refine kp_bo ?_)
      | (with_reducible refine kp_cp ?_)
      | (with_reducible refine kp_nn (fun _ => ?_))
      | (with_reducible refine kp_nu ?_ (fun _ => ?_))
      | (with_reducible refine kp_bd ?_ (fun _ _ _ => ?_))
      | (with_reducible refine kp_lts ?_ (fun _ _ => ?_))
      | (with_reducible refine kp_ltv (fun _ => ?_))
      | (with_reducible refine kp_j0 (fun _ _ => ?_) (fun _ _ => ?_))
      | (with_reducible refine kp_j1 (fun _ _ _ => ?_) (fun _ _ => ?_))
      | (with_reducible refine kp_j2 (fun _ _ _ _ => ?_) (fun _ _ => ?_))
      | (with_reducible refine kF_I (by first | assumption | decide) ?_)
      | (with_reducible refine kF_L (by first | assumption | decide) ?_)
      | (with_reducible refine kF_A (by first | assumption | decide) ?_)
      | (with_reducible refine kF_B (by first | assumption | decide) ?_)
      | (with_reducible refine kF_P (by first | assumption | decide) ?_)
      | (with_reducible apply kp_X2_opening)
      | (show ¬ _; decide)
      | decide
      | solve_by_elim (maxDepth := 4)

theorem kp_X2_onward  (i0 : Nat) (a1 : Int32) (a2 : Int32) (a3 : Int32) (st : fSt) {s0 : fSt}  (h : kF (fun c => c = 12) s0 st) : kpO (fun c => c = 12) s0 (f_X2_onward i0 a1 a2 a3 st) := by
  unfold f_X2_onward
  repeat' first
      | assumption
      | (refine kp_some ?_)
      | exact kp_none
      | (with_reducible refine kp_ite ?_ ?_)
      | (with_reducible refine kp_ix ?_)
      | (with_reducible refine kp_nz ?_)
      | (with_reducible refine kp_bo ?_)
      | (with_reducible refine kp_cp ?_)
      | (with_reducible refine kp_nn (fun _ => ?_))
      | (with_reducible refine kp_nu ?_ (fun _ => ?_))
      | (with_reducible refine kp_bd ?_ (fun _ _ _ => ?_))
      | (with_reducible refine kp_lts ?_ (fun _ _ => ?_))
      | (with_reducible refine kp_ltv (fun _ => ?_))
      | (with_reducible refine kp_j0 (fun _ _ => ?_) (fun _ _ => ?_))
      | (with_reducible refine kp_j1 (fun _ _ _ => ?_) (fun _ _ => ?_))
      | (with_reducible refine kp_j2 (fun _ _ _ _ => ?_) (fun _ _ => ?_))
      | (with_reducible refine kF_I (by first | assumption | decide) ?_)
      | (with_reducible refine kF_L (by first | assumption | decide) ?_)
      | (with_reducible refine kF_A (by first | assumption | decide) ?_)
      | (with_reducible refine kF_B (by first | assumption | decide) ?_)
      | (with_reducible refine kF_P (by first | assumption | decide) ?_)
      | (with_reducible apply kp_X2_playable)
      | (show ¬ _; decide)
      | decide
      | solve_by_elim (maxDepth := 4)

theorem kp_X3_sow  (i0 : Nat) (a1 : Int32) (st : fSt) {s0 : fSt}  (h : kF (fun c => c = 12) s0 st) : kpO (fun c => c = 12) s0 (f_X3_sow i0 a1 st) := by
  unfold f_X3_sow
  repeat' first
      | assumption
      | (refine kp_some ?_)
      | exact kp_none
      | (with_reducible refine kp_ite ?_ ?_)
      | (with_reducible refine kp_ix ?_)
      | (with_reducible refine kp_nz ?_)
      | (with_reducible refine kp_bo ?_)
      | (with_reducible refine kp_cp ?_)
      | (with_reducible refine kp_nn (fun _ => ?_))
      | (with_reducible refine kp_nu ?_ (fun _ => ?_))
      | (with_reducible refine kp_bd ?_ (fun _ _ _ => ?_))
      | (with_reducible refine kp_lts ?_ (fun _ _ => ?_))
      | (with_reducible refine kp_ltv (fun _ => ?_))
      | (with_reducible refine kp_j0 (fun _ _ => ?_) (fun _ _ => ?_))
      | (with_reducible refine kp_j1 (fun _ _ _ => ?_) (fun _ _ => ?_))
      | (with_reducible refine kp_j2 (fun _ _ _ _ => ?_) (fun _ _ => ?_))
      | (with_reducible refine kF_I (by first | assumption | decide) ?_)
      | (with_reducible refine kF_L (by first | assumption | decide) ?_)
      | (with_reducible refine kF_A (by first | assumption | decide) ?_)
      | (with_reducible refine kF_B (by first | assumption | decide) ?_)
      | (with_reducible refine kF_P (by first | assumption | decide) ?_)
      | (show ¬ _; decide)
      | decide
      | solve_by_elim (maxDepth := 4)

theorem kp_X3_draw  (i0 : Nat) (a1 : Int32) (st : fSt) {s0 : fSt}  (h : kF (fun c => c = 12) s0 st) : kpO (fun c => c = 12) s0 (f_X3_draw i0 a1 st) := by
  unfold f_X3_draw
  repeat' first
      | assumption
      | (refine kp_some ?_)
      | exact kp_none
      | (with_reducible refine kp_ite ?_ ?_)
      | (with_reducible refine kp_ix ?_)
      | (with_reducible refine kp_nz ?_)
      | (with_reducible refine kp_bo ?_)
      | (with_reducible refine kp_cp ?_)
      | (with_reducible refine kp_nn (fun _ => ?_))
      | (with_reducible refine kp_nu ?_ (fun _ => ?_))
      | (with_reducible refine kp_bd ?_ (fun _ _ _ => ?_))
      | (with_reducible refine kp_lts ?_ (fun _ _ => ?_))
      | (with_reducible refine kp_ltv (fun _ => ?_))
      | (with_reducible refine kp_j0 (fun _ _ => ?_) (fun _ _ => ?_))
      | (with_reducible refine kp_j1 (fun _ _ _ => ?_) (fun _ _ => ?_))
      | (with_reducible refine kp_j2 (fun _ _ _ _ => ?_) (fun _ _ => ?_))
      | (with_reducible refine kF_I (by first | assumption | decide) ?_)
      | (with_reducible refine kF_L (by first | assumption | decide) ?_)
      | (with_reducible refine kF_A (by first | assumption | decide) ?_)
      | (with_reducible refine kF_B (by first | assumption | decide) ?_)
      | (with_reducible refine kF_P (by first | assumption | decide) ?_)
      | (show ¬ _; decide)
      | decide
      | solve_by_elim (maxDepth := 4)

theorem kp_X7_lotsInAll_L4  (i0 : Nat) {s0 : fSt}  : ∀ (n : Nat) (z0 : Int32) (z1 : Int32) (s : fSt), kF (fun c => c = 12) s0 s → kpO (fun c => c = 12) s0 (f_X7_lotsInAll_L4 i0 n z0 z1 s) := by
  intro n
  induction n with
  | zero => intro z0 z1 s _; unfold f_X7_lotsInAll_L4; exact kp_none
  | succ n ih =>
    intro z0 z1 s h
    unfold f_X7_lotsInAll_L4
    repeat' first
        | assumption
        | (refine kp_some ?_)
        | exact kp_none
        | (with_reducible refine kp_ite ?_ ?_)
        | (with_reducible refine kp_ix ?_)
        | (with_reducible refine kp_nz ?_)
        | (with_reducible refine kp_bo ?_)
        | (with_reducible refine kp_cp ?_)
        | (with_reducible refine kp_nn (fun _ => ?_))
        | (with_reducible refine kp_nu ?_ (fun _ => ?_))
        | (with_reducible refine kp_bd ?_ (fun _ _ _ => ?_))
        | (with_reducible refine kp_lts ?_ (fun _ _ => ?_))
        | (with_reducible refine kp_ltv (fun _ => ?_))
        | (with_reducible refine kp_j0 (fun _ _ => ?_) (fun _ _ => ?_))
        | (with_reducible refine kp_j1 (fun _ _ _ => ?_) (fun _ _ => ?_))
        | (with_reducible refine kp_j2 (fun _ _ _ _ => ?_) (fun _ _ => ?_))
        | (with_reducible refine kF_I (by first | assumption | decide) ?_)
        | (with_reducible refine kF_L (by first | assumption | decide) ?_)
        | (with_reducible refine kF_A (by first | assumption | decide) ?_)
        | (with_reducible refine kF_B (by first | assumption | decide) ?_)
        | (with_reducible refine kF_P (by first | assumption | decide) ?_)
        | (show ¬ _; decide)
        | decide
        | (apply ih; assumption)
        | solve_by_elim (maxDepth := 4)

theorem kp_X7_lotsInAll  (i0 : Nat) (st : fSt) {s0 : fSt}  (h : kF (fun c => c = 12) s0 st) : kpO (fun c => c = 12) s0 (f_X7_lotsInAll i0 st) := by
  unfold f_X7_lotsInAll
  repeat' first
      | assumption
      | (refine kp_some ?_)
      | exact kp_none
      | (with_reducible refine kp_ite ?_ ?_)
      | (with_reducible refine kp_ix ?_)
      | (with_reducible refine kp_nz ?_)
      | (with_reducible refine kp_bo ?_)
      | (with_reducible refine kp_cp ?_)
      | (with_reducible refine kp_nn (fun _ => ?_))
      | (with_reducible refine kp_nu ?_ (fun _ => ?_))
      | (with_reducible refine kp_bd ?_ (fun _ _ _ => ?_))
      | (with_reducible refine kp_lts ?_ (fun _ _ => ?_))
      | (with_reducible refine kp_ltv (fun _ => ?_))
      | (with_reducible refine kp_j0 (fun _ _ => ?_) (fun _ _ => ?_))
      | (with_reducible refine kp_j1 (fun _ _ _ => ?_) (fun _ _ => ?_))
      | (with_reducible refine kp_j2 (fun _ _ _ _ => ?_) (fun _ _ => ?_))
      | (with_reducible refine kF_I (by first | assumption | decide) ?_)
      | (with_reducible refine kF_L (by first | assumption | decide) ?_)
      | (with_reducible refine kF_A (by first | assumption | decide) ?_)
      | (with_reducible refine kF_B (by first | assumption | decide) ?_)
      | (with_reducible refine kF_P (by first | assumption | decide) ?_)
      | (with_reducible apply kp_X7_lotsInAll_L4)
      | (show ¬ _; decide)
      | decide
      | solve_by_elim (maxDepth := 4)

theorem kp_X3_drawKind_L11  (i1 : Nat) (k9 : Int32 → fSt → Option (Int32 × fSt)) {s0 : fSt} (hk9 : ∀ (z0 : Int32) (s : fSt), kF (fun c => c = 12) s0 s → kpO (fun c => c = 12) s0 (k9 z0 s)) : ∀ (n : Nat) (z0 : Int32) (z1 : Int32) (s : fSt), kF (fun c => c = 12) s0 s → kpO (fun c => c = 12) s0 (f_X3_drawKind_L11 i1 k9 n z0 z1 s) := by
  intro n
  induction n with
  | zero => intro z0 z1 s _; unfold f_X3_drawKind_L11; exact kp_none
  | succ n ih =>
    intro z0 z1 s h
    unfold f_X3_drawKind_L11
    repeat' first
        | assumption
        | (refine kp_some ?_)
        | exact kp_none
        | (with_reducible refine kp_ite ?_ ?_)
        | (with_reducible refine kp_ix ?_)
        | (with_reducible refine kp_nz ?_)
        | (with_reducible refine kp_bo ?_)
        | (with_reducible refine kp_cp ?_)
        | (with_reducible refine kp_nn (fun _ => ?_))
        | (with_reducible refine kp_nu ?_ (fun _ => ?_))
        | (with_reducible refine kp_bd ?_ (fun _ _ _ => ?_))
        | (with_reducible refine kp_lts ?_ (fun _ _ => ?_))
        | (with_reducible refine kp_ltv (fun _ => ?_))
        | (with_reducible refine kp_j0 (fun _ _ => ?_) (fun _ _ => ?_))
        | (with_reducible refine kp_j1 (fun _ _ _ => ?_) (fun _ _ => ?_))
        | (with_reducible refine kp_j2 (fun _ _ _ _ => ?_) (fun _ _ => ?_))
        | (with_reducible refine kF_I (by first | assumption | decide) ?_)
        | (with_reducible refine kF_L (by first | assumption | decide) ?_)
        | (with_reducible refine kF_A (by first | assumption | decide) ?_)
        | (with_reducible refine kF_B (by first | assumption | decide) ?_)
        | (with_reducible refine kF_P (by first | assumption | decide) ?_)
        | (show ¬ _; decide)
        | decide
        | (apply ih; assumption)
        | solve_by_elim (maxDepth := 4)

theorem kp_X3_drawKind  (i0 : Nat) (i1 : Nat) (st : fSt) {s0 : fSt}  (h : kF (fun c => c = 12) s0 st) : kpO (fun c => c = 12) s0 (f_X3_drawKind i0 i1 st) := by
  unfold f_X3_drawKind
  repeat' first
      | assumption
      | (refine kp_some ?_)
      | exact kp_none
      | (with_reducible refine kp_ite ?_ ?_)
      | (with_reducible refine kp_ix ?_)
      | (with_reducible refine kp_nz ?_)
      | (with_reducible refine kp_bo ?_)
      | (with_reducible refine kp_cp ?_)
      | (with_reducible refine kp_nn (fun _ => ?_))
      | (with_reducible refine kp_nu ?_ (fun _ => ?_))
      | (with_reducible refine kp_bd ?_ (fun _ _ _ => ?_))
      | (with_reducible refine kp_lts ?_ (fun _ _ => ?_))
      | (with_reducible refine kp_ltv (fun _ => ?_))
      | (with_reducible refine kp_j0 (fun _ _ => ?_) (fun _ _ => ?_))
      | (with_reducible refine kp_j1 (fun _ _ _ => ?_) (fun _ _ => ?_))
      | (with_reducible refine kp_j2 (fun _ _ _ _ => ?_) (fun _ _ => ?_))
      | (with_reducible refine kF_I (by first | assumption | decide) ?_)
      | (with_reducible refine kF_L (by first | assumption | decide) ?_)
      | (with_reducible refine kF_A (by first | assumption | decide) ?_)
      | (with_reducible refine kF_B (by first | assumption | decide) ?_)
      | (with_reducible refine kF_P (by first | assumption | decide) ?_)
      | (with_reducible apply kp_X7_lotsInAll)
      | (with_reducible apply kp_X3_draw)
      | (with_reducible apply kp_X3_drawKind_L11)
      | (show ¬ _; decide)
      | decide
      | solve_by_elim (maxDepth := 4)

theorem kp_X3_drawDeed_L10  (i1 : Nat) (a2 : Int32) {s0 : fSt}  : ∀ (n : Nat) (z0 : Int32) (z1 : Int32) (s : fSt), kF (fun c => c = 12) s0 s → kpO (fun c => c = 12) s0 (f_X3_drawDeed_L10 i1 a2 n z0 z1 s) := by
  intro n
  induction n with
  | zero => intro z0 z1 s _; unfold f_X3_drawDeed_L10; exact kp_none
  | succ n ih =>
    intro z0 z1 s h
    unfold f_X3_drawDeed_L10
    repeat' first
        | assumption
        | (refine kp_some ?_)
        | exact kp_none
        | (with_reducible refine kp_ite ?_ ?_)
        | (with_reducible refine kp_ix ?_)
        | (with_reducible refine kp_nz ?_)
        | (with_reducible refine kp_bo ?_)
        | (with_reducible refine kp_cp ?_)
        | (with_reducible refine kp_nn (fun _ => ?_))
        | (with_reducible refine kp_nu ?_ (fun _ => ?_))
        | (with_reducible refine kp_bd ?_ (fun _ _ _ => ?_))
        | (with_reducible refine kp_lts ?_ (fun _ _ => ?_))
        | (with_reducible refine kp_ltv (fun _ => ?_))
        | (with_reducible refine kp_j0 (fun _ _ => ?_) (fun _ _ => ?_))
        | (with_reducible refine kp_j1 (fun _ _ _ => ?_) (fun _ _ => ?_))
        | (with_reducible refine kp_j2 (fun _ _ _ _ => ?_) (fun _ _ => ?_))
        | (with_reducible refine kF_I (by first | assumption | decide) ?_)
        | (with_reducible refine kF_L (by first | assumption | decide) ?_)
        | (with_reducible refine kF_A (by first | assumption | decide) ?_)
        | (with_reducible refine kF_B (by first | assumption | decide) ?_)
        | (with_reducible refine kF_P (by first | assumption | decide) ?_)
        | (show ¬ _; decide)
        | decide
        | (apply ih; assumption)
        | solve_by_elim (maxDepth := 4)

theorem kp_X3_drawDeed  (i0 : Nat) (i1 : Nat) (a2 : Int32) (st : fSt) {s0 : fSt}  (h : kF (fun c => c = 12) s0 st) : kpO (fun c => c = 12) s0 (f_X3_drawDeed i0 i1 a2 st) := by
  unfold f_X3_drawDeed
  repeat' first
      | assumption
      | (refine kp_some ?_)
      | exact kp_none
      | (with_reducible refine kp_ite ?_ ?_)
      | (with_reducible refine kp_ix ?_)
      | (with_reducible refine kp_nz ?_)
      | (with_reducible refine kp_bo ?_)
      | (with_reducible refine kp_cp ?_)
      | (with_reducible refine kp_nn (fun _ => ?_))
      | (with_reducible refine kp_nu ?_ (fun _ => ?_))
      | (with_reducible refine kp_bd ?_ (fun _ _ _ => ?_))
      | (with_reducible refine kp_lts ?_ (fun _ _ => ?_))
      | (with_reducible refine kp_ltv (fun _ => ?_))
      | (with_reducible refine kp_j0 (fun _ _ => ?_) (fun _ _ => ?_))
      | (with_reducible refine kp_j1 (fun _ _ _ => ?_) (fun _ _ => ?_))
      | (with_reducible refine kp_j2 (fun _ _ _ _ => ?_) (fun _ _ => ?_))
      | (with_reducible refine kF_I (by first | assumption | decide) ?_)
      | (with_reducible refine kF_L (by first | assumption | decide) ?_)
      | (with_reducible refine kF_A (by first | assumption | decide) ?_)
      | (with_reducible refine kF_B (by first | assumption | decide) ?_)
      | (with_reducible refine kF_P (by first | assumption | decide) ?_)
      | (with_reducible apply kp_X3_draw)
      | (with_reducible apply kp_X3_drawDeed_L10)
      | (show ¬ _; decide)
      | decide
      | solve_by_elim (maxDepth := 4)

theorem kp_X3_open  (i0 : Nat) (i1 : Nat) (a2 : Int32) (st : fSt) {s0 : fSt}  (h : kF (fun c => c = 12) s0 st) : kpO (fun c => c = 12) s0 (f_X3_open i0 i1 a2 st) := by
  unfold f_X3_open
  repeat' first
      | assumption
      | (refine kp_some ?_)
      | exact kp_none
      | (with_reducible refine kp_ite ?_ ?_)
      | (with_reducible refine kp_ix ?_)
      | (with_reducible refine kp_nz ?_)
      | (with_reducible refine kp_bo ?_)
      | (with_reducible refine kp_cp ?_)
      | (with_reducible refine kp_nn (fun _ => ?_))
      | (with_reducible refine kp_nu ?_ (fun _ => ?_))
      | (with_reducible refine kp_bd ?_ (fun _ _ _ => ?_))
      | (with_reducible refine kp_lts ?_ (fun _ _ => ?_))
      | (with_reducible refine kp_ltv (fun _ => ?_))
      | (with_reducible refine kp_j0 (fun _ _ => ?_) (fun _ _ => ?_))
      | (with_reducible refine kp_j1 (fun _ _ _ => ?_) (fun _ _ => ?_))
      | (with_reducible refine kp_j2 (fun _ _ _ _ => ?_) (fun _ _ => ?_))
      | (with_reducible refine kF_I (by first | assumption | decide) ?_)
      | (with_reducible refine kF_L (by first | assumption | decide) ?_)
      | (with_reducible refine kF_A (by first | assumption | decide) ?_)
      | (with_reducible refine kF_B (by first | assumption | decide) ?_)
      | (with_reducible refine kF_P (by first | assumption | decide) ?_)
      | (with_reducible apply kp_X2_opening)
      | (show ¬ _; decide)
      | decide
      | solve_by_elim (maxDepth := 4)

theorem kp_X7_breathsOfScene  (i0 : Nat) (a1 : Int32) (st : fSt) {s0 : fSt}  (h : kF (fun c => c = 12) s0 st) : kpO (fun c => c = 12) s0 (f_X7_breathsOfScene i0 a1 st) := by
  unfold f_X7_breathsOfScene
  repeat' first
      | assumption
      | (refine kp_some ?_)
      | exact kp_none
      | (with_reducible refine kp_ite ?_ ?_)
      | (with_reducible refine kp_ix ?_)
      | (with_reducible refine kp_nz ?_)
      | (with_reducible refine kp_bo ?_)
      | (with_reducible refine kp_cp ?_)
      | (with_reducible refine kp_nn (fun _ => ?_))
      | (with_reducible refine kp_nu ?_ (fun _ => ?_))
      | (with_reducible refine kp_bd ?_ (fun _ _ _ => ?_))
      | (with_reducible refine kp_lts ?_ (fun _ _ => ?_))
      | (with_reducible refine kp_ltv (fun _ => ?_))
      | (with_reducible refine kp_j0 (fun _ _ => ?_) (fun _ _ => ?_))
      | (with_reducible refine kp_j1 (fun _ _ _ => ?_) (fun _ _ => ?_))
      | (with_reducible refine kp_j2 (fun _ _ _ _ => ?_) (fun _ _ => ?_))
      | (with_reducible refine kF_I (by first | assumption | decide) ?_)
      | (with_reducible refine kF_L (by first | assumption | decide) ?_)
      | (with_reducible refine kF_A (by first | assumption | decide) ?_)
      | (with_reducible refine kF_B (by first | assumption | decide) ?_)
      | (with_reducible refine kF_P (by first | assumption | decide) ?_)
      | (with_reducible apply kp_J6_bitCount_0f7a4)
      | (show ¬ _; decide)
      | decide
      | solve_by_elim (maxDepth := 4)

theorem kp_X7_killedIn  (i0 : Nat) (a1 : Int32) (st : fSt) {s0 : fSt}  (h : kF (fun c => c = 12) s0 st) : kpO (fun c => c = 12) s0 (f_X7_killedIn i0 a1 st) := by
  unfold f_X7_killedIn
  repeat' first
      | assumption
      | (refine kp_some ?_)
      | exact kp_none
      | (with_reducible refine kp_ite ?_ ?_)
      | (with_reducible refine kp_ix ?_)
      | (with_reducible refine kp_nz ?_)
      | (with_reducible refine kp_bo ?_)
      | (with_reducible refine kp_cp ?_)
      | (with_reducible refine kp_nn (fun _ => ?_))
      | (with_reducible refine kp_nu ?_ (fun _ => ?_))
      | (with_reducible refine kp_bd ?_ (fun _ _ _ => ?_))
      | (with_reducible refine kp_lts ?_ (fun _ _ => ?_))
      | (with_reducible refine kp_ltv (fun _ => ?_))
      | (with_reducible refine kp_j0 (fun _ _ => ?_) (fun _ _ => ?_))
      | (with_reducible refine kp_j1 (fun _ _ _ => ?_) (fun _ _ => ?_))
      | (with_reducible refine kp_j2 (fun _ _ _ _ => ?_) (fun _ _ => ?_))
      | (with_reducible refine kF_I (by first | assumption | decide) ?_)
      | (with_reducible refine kF_L (by first | assumption | decide) ?_)
      | (with_reducible refine kF_A (by first | assumption | decide) ?_)
      | (with_reducible refine kF_B (by first | assumption | decide) ?_)
      | (with_reducible refine kF_P (by first | assumption | decide) ?_)
      | (show ¬ _; decide)
      | decide
      | solve_by_elim (maxDepth := 4)

theorem kp_X3_playScene  (i0 : Nat) (i1 : Nat) (a2 : Int32) (st : fSt) {s0 : fSt}  (h : kF (fun c => c = 12) s0 st) : kpO (fun c => c = 12) s0 (f_X3_playScene i0 i1 a2 st) := by
  unfold f_X3_playScene
  repeat' first
      | assumption
      | (refine kp_some ?_)
      | exact kp_none
      | (with_reducible refine kp_ite ?_ ?_)
      | (with_reducible refine kp_ix ?_)
      | (with_reducible refine kp_nz ?_)
      | (with_reducible refine kp_bo ?_)
      | (with_reducible refine kp_cp ?_)
      | (with_reducible refine kp_nn (fun _ => ?_))
      | (with_reducible refine kp_nu ?_ (fun _ => ?_))
      | (with_reducible refine kp_bd ?_ (fun _ _ _ => ?_))
      | (with_reducible refine kp_lts ?_ (fun _ _ => ?_))
      | (with_reducible refine kp_ltv (fun _ => ?_))
      | (with_reducible refine kp_j0 (fun _ _ => ?_) (fun _ _ => ?_))
      | (with_reducible refine kp_j1 (fun _ _ _ => ?_) (fun _ _ => ?_))
      | (with_reducible refine kp_j2 (fun _ _ _ _ => ?_) (fun _ _ => ?_))
      | (with_reducible refine kF_I (by first | assumption | decide) ?_)
      | (with_reducible refine kF_L (by first | assumption | decide) ?_)
      | (with_reducible refine kF_A (by first | assumption | decide) ?_)
      | (with_reducible refine kF_B (by first | assumption | decide) ?_)
      | (with_reducible refine kF_P (by first | assumption | decide) ?_)
      | (with_reducible apply kp_X7_breathsOfScene)
      | (with_reducible apply kp_X7_killedIn)
      | (with_reducible apply kp_X2_onward)
      | (show ¬ _; decide)
      | decide
      | solve_by_elim (maxDepth := 4)

theorem kp_X3_playByHand_L9  (i0 : Nat) (i1 : Nat) (i2 : Nat) (a3 : Int32) (k4 : fSt → Option (Unit × fSt)) {s0 : fSt} (hk4 : ∀ (s : fSt), kF (fun c => c = 12) s0 s → kpO (fun c => c = 12) s0 (k4 s)) : ∀ (n : Nat) (z0 : Int32) (s : fSt), kF (fun c => c = 12) s0 s → kpO (fun c => c = 12) s0 (f_X3_playByHand_L9 i0 i1 i2 a3 k4 n z0 s) := by
  intro n
  induction n with
  | zero => intro z0 s _; unfold f_X3_playByHand_L9; exact kp_none
  | succ n ih =>
    intro z0 s h
    unfold f_X3_playByHand_L9
    repeat' first
        | assumption
        | (refine kp_some ?_)
        | exact kp_none
        | (with_reducible refine kp_ite ?_ ?_)
        | (with_reducible refine kp_ix ?_)
        | (with_reducible refine kp_nz ?_)
        | (with_reducible refine kp_bo ?_)
        | (with_reducible refine kp_cp ?_)
        | (with_reducible refine kp_nn (fun _ => ?_))
        | (with_reducible refine kp_nu ?_ (fun _ => ?_))
        | (with_reducible refine kp_bd ?_ (fun _ _ _ => ?_))
        | (with_reducible refine kp_lts ?_ (fun _ _ => ?_))
        | (with_reducible refine kp_ltv (fun _ => ?_))
        | (with_reducible refine kp_j0 (fun _ _ => ?_) (fun _ _ => ?_))
        | (with_reducible refine kp_j1 (fun _ _ _ => ?_) (fun _ _ => ?_))
        | (with_reducible refine kp_j2 (fun _ _ _ _ => ?_) (fun _ _ => ?_))
        | (with_reducible refine kF_I (by first | assumption | decide) ?_)
        | (with_reducible refine kF_L (by first | assumption | decide) ?_)
        | (with_reducible refine kF_A (by first | assumption | decide) ?_)
        | (with_reducible refine kF_B (by first | assumption | decide) ?_)
        | (with_reducible refine kF_P (by first | assumption | decide) ?_)
        | (with_reducible apply kp_X3_playScene)
        | (show ¬ _; decide)
        | decide
        | (apply ih; assumption)
        | solve_by_elim (maxDepth := 4)

theorem kp_X3_playByHand  (i0 : Nat) (i1 : Nat) (i2 : Nat) (a3 : Int32) (st : fSt) {s0 : fSt}  (h : kF (fun c => c = 12) s0 st) : kpO (fun c => c = 12) s0 (f_X3_playByHand i0 i1 i2 a3 st) := by
  unfold f_X3_playByHand
  repeat' first
      | assumption
      | (refine kp_some ?_)
      | exact kp_none
      | (with_reducible refine kp_ite ?_ ?_)
      | (with_reducible refine kp_ix ?_)
      | (with_reducible refine kp_nz ?_)
      | (with_reducible refine kp_bo ?_)
      | (with_reducible refine kp_cp ?_)
      | (with_reducible refine kp_nn (fun _ => ?_))
      | (with_reducible refine kp_nu ?_ (fun _ => ?_))
      | (with_reducible refine kp_bd ?_ (fun _ _ _ => ?_))
      | (with_reducible refine kp_lts ?_ (fun _ _ => ?_))
      | (with_reducible refine kp_ltv (fun _ => ?_))
      | (with_reducible refine kp_j0 (fun _ _ => ?_) (fun _ _ => ?_))
      | (with_reducible refine kp_j1 (fun _ _ _ => ?_) (fun _ _ => ?_))
      | (with_reducible refine kp_j2 (fun _ _ _ _ => ?_) (fun _ _ => ?_))
      | (with_reducible refine kF_I (by first | assumption | decide) ?_)
      | (with_reducible refine kF_L (by first | assumption | decide) ?_)
      | (with_reducible refine kF_A (by first | assumption | decide) ?_)
      | (with_reducible refine kF_B (by first | assumption | decide) ?_)
      | (with_reducible refine kF_P (by first | assumption | decide) ?_)
      | (with_reducible apply kp_X3_open)
      | (with_reducible apply kp_X3_playByHand_L9)
      | (show ¬ _; decide)
      | decide
      | solve_by_elim (maxDepth := 4)

theorem kp_X3_playFor_L8  (i0 : Nat) (i1 : Nat) (a2 : Int32) (k4 : fSt → Option (Unit × fSt)) {s0 : fSt} (hk4 : ∀ (s : fSt), kF (fun c => c = 12) s0 s → kpO (fun c => c = 12) s0 (k4 s)) : ∀ (n : Nat) (z0 : Int32) (s : fSt), kF (fun c => c = 12) s0 s → kpO (fun c => c = 12) s0 (f_X3_playFor_L8 i0 i1 a2 k4 n z0 s) := by
  intro n
  induction n with
  | zero => intro z0 s _; unfold f_X3_playFor_L8; exact kp_none
  | succ n ih =>
    intro z0 s h
    unfold f_X3_playFor_L8
    repeat' first
        | assumption
        | (refine kp_some ?_)
        | exact kp_none
        | (with_reducible refine kp_ite ?_ ?_)
        | (with_reducible refine kp_ix ?_)
        | (with_reducible refine kp_nz ?_)
        | (with_reducible refine kp_bo ?_)
        | (with_reducible refine kp_cp ?_)
        | (with_reducible refine kp_nn (fun _ => ?_))
        | (with_reducible refine kp_nu ?_ (fun _ => ?_))
        | (with_reducible refine kp_bd ?_ (fun _ _ _ => ?_))
        | (with_reducible refine kp_lts ?_ (fun _ _ => ?_))
        | (with_reducible refine kp_ltv (fun _ => ?_))
        | (with_reducible refine kp_j0 (fun _ _ => ?_) (fun _ _ => ?_))
        | (with_reducible refine kp_j1 (fun _ _ _ => ?_) (fun _ _ => ?_))
        | (with_reducible refine kp_j2 (fun _ _ _ _ => ?_) (fun _ _ => ?_))
        | (with_reducible refine kF_I (by first | assumption | decide) ?_)
        | (with_reducible refine kF_L (by first | assumption | decide) ?_)
        | (with_reducible refine kF_A (by first | assumption | decide) ?_)
        | (with_reducible refine kF_B (by first | assumption | decide) ?_)
        | (with_reducible refine kF_P (by first | assumption | decide) ?_)
        | (with_reducible apply kp_X3_drawDeed)
        | (with_reducible apply kp_X3_playScene)
        | (show ¬ _; decide)
        | decide
        | (apply ih; assumption)
        | solve_by_elim (maxDepth := 4)

theorem kp_X3_playFor  (i0 : Nat) (i1 : Nat) (a2 : Int32) (st : fSt) {s0 : fSt}  (h : kF (fun c => c = 12) s0 st) : kpO (fun c => c = 12) s0 (f_X3_playFor i0 i1 a2 st) := by
  unfold f_X3_playFor
  repeat' first
      | assumption
      | (refine kp_some ?_)
      | exact kp_none
      | (with_reducible refine kp_ite ?_ ?_)
      | (with_reducible refine kp_ix ?_)
      | (with_reducible refine kp_nz ?_)
      | (with_reducible refine kp_bo ?_)
      | (with_reducible refine kp_cp ?_)
      | (with_reducible refine kp_nn (fun _ => ?_))
      | (with_reducible refine kp_nu ?_ (fun _ => ?_))
      | (with_reducible refine kp_bd ?_ (fun _ _ _ => ?_))
      | (with_reducible refine kp_lts ?_ (fun _ _ => ?_))
      | (with_reducible refine kp_ltv (fun _ => ?_))
      | (with_reducible refine kp_j0 (fun _ _ => ?_) (fun _ _ => ?_))
      | (with_reducible refine kp_j1 (fun _ _ _ => ?_) (fun _ _ => ?_))
      | (with_reducible refine kp_j2 (fun _ _ _ _ => ?_) (fun _ _ => ?_))
      | (with_reducible refine kF_I (by first | assumption | decide) ?_)
      | (with_reducible refine kF_L (by first | assumption | decide) ?_)
      | (with_reducible refine kF_A (by first | assumption | decide) ?_)
      | (with_reducible refine kF_B (by first | assumption | decide) ?_)
      | (with_reducible refine kF_P (by first | assumption | decide) ?_)
      | (with_reducible apply kp_X3_open)
      | (with_reducible apply kp_X3_playFor_L8)
      | (show ¬ _; decide)
      | decide
      | solve_by_elim (maxDepth := 4)

theorem kp_X7_endSlot  (i0 : Nat) (a1 : Int32) (st : fSt) {s0 : fSt}  (h : kF (fun c => c = 12) s0 st) : kpO (fun c => c = 12) s0 (f_X7_endSlot i0 a1 st) := by
  unfold f_X7_endSlot
  repeat' first
      | assumption
      | (refine kp_some ?_)
      | exact kp_none
      | (with_reducible refine kp_ite ?_ ?_)
      | (with_reducible refine kp_ix ?_)
      | (with_reducible refine kp_nz ?_)
      | (with_reducible refine kp_bo ?_)
      | (with_reducible refine kp_cp ?_)
      | (with_reducible refine kp_nn (fun _ => ?_))
      | (with_reducible refine kp_nu ?_ (fun _ => ?_))
      | (with_reducible refine kp_bd ?_ (fun _ _ _ => ?_))
      | (with_reducible refine kp_lts ?_ (fun _ _ => ?_))
      | (with_reducible refine kp_ltv (fun _ => ?_))
      | (with_reducible refine kp_j0 (fun _ _ => ?_) (fun _ _ => ?_))
      | (with_reducible refine kp_j1 (fun _ _ _ => ?_) (fun _ _ => ?_))
      | (with_reducible refine kp_j2 (fun _ _ _ _ => ?_) (fun _ _ => ?_))
      | (with_reducible refine kF_I (by first | assumption | decide) ?_)
      | (with_reducible refine kF_L (by first | assumption | decide) ?_)
      | (with_reducible refine kF_A (by first | assumption | decide) ?_)
      | (with_reducible refine kF_B (by first | assumption | decide) ?_)
      | (with_reducible refine kF_P (by first | assumption | decide) ?_)
      | (show ¬ _; decide)
      | decide
      | solve_by_elim (maxDepth := 4)

theorem kp_X4_passOn_L57  (i1 : Nat) (a2 : Int32) (a3 : Int32) (x1 : Int64) (x7 : Int32) (k12 : Int32 → fSt → Option (Unit × fSt)) {s0 : fSt} (hk12 : ∀ (z0 : Int32) (s : fSt), kF (fun c => c = 12) s0 s → kpO (fun c => c = 12) s0 (k12 z0 s)) : ∀ (n : Nat) (z0 : Int32) (z1 : Int32) (s : fSt), kF (fun c => c = 12) s0 s → kpO (fun c => c = 12) s0 (f_X4_passOn_L57 i1 a2 a3 x1 x7 k12 n z0 z1 s) := by
  intro n
  induction n with
  | zero => intro z0 z1 s _; unfold f_X4_passOn_L57; exact kp_none
  | succ n ih =>
    intro z0 z1 s h
    unfold f_X4_passOn_L57
    repeat' first
        | assumption
        | (refine kp_some ?_)
        | exact kp_none
        | (with_reducible refine kp_ite ?_ ?_)
        | (with_reducible refine kp_ix ?_)
        | (with_reducible refine kp_nz ?_)
        | (with_reducible refine kp_bo ?_)
        | (with_reducible refine kp_cp ?_)
        | (with_reducible refine kp_nn (fun _ => ?_))
        | (with_reducible refine kp_nu ?_ (fun _ => ?_))
        | (with_reducible refine kp_bd ?_ (fun _ _ _ => ?_))
        | (with_reducible refine kp_lts ?_ (fun _ _ => ?_))
        | (with_reducible refine kp_ltv (fun _ => ?_))
        | (with_reducible refine kp_j0 (fun _ _ => ?_) (fun _ _ => ?_))
        | (with_reducible refine kp_j1 (fun _ _ _ => ?_) (fun _ _ => ?_))
        | (with_reducible refine kp_j2 (fun _ _ _ _ => ?_) (fun _ _ => ?_))
        | (with_reducible refine kF_I (by first | assumption | decide) ?_)
        | (with_reducible refine kF_L (by first | assumption | decide) ?_)
        | (with_reducible refine kF_A (by first | assumption | decide) ?_)
        | (with_reducible refine kF_B (by first | assumption | decide) ?_)
        | (with_reducible refine kF_P (by first | assumption | decide) ?_)
        | (with_reducible apply kp_X2_onward)
        | (show ¬ _; decide)
        | decide
        | (apply ih; assumption)
        | solve_by_elim (maxDepth := 4)

theorem kp_X4_passOn  (i1 : Nat) (a2 : Int32) (a3 : Int32) (a4 : Int32) (st : fSt) {s0 : fSt}  (h : kF (fun c => c = 12) s0 st) : kpO (fun c => c = 12) s0 (f_X4_passOn i1 a2 a3 a4 st) := by
  unfold f_X4_passOn
  repeat' first
      | assumption
      | (refine kp_some ?_)
      | exact kp_none
      | (with_reducible refine kp_ite ?_ ?_)
      | (with_reducible refine kp_ix ?_)
      | (with_reducible refine kp_nz ?_)
      | (with_reducible refine kp_bo ?_)
      | (with_reducible refine kp_cp ?_)
      | (with_reducible refine kp_nn (fun _ => ?_))
      | (with_reducible refine kp_nu ?_ (fun _ => ?_))
      | (with_reducible refine kp_bd ?_ (fun _ _ _ => ?_))
      | (with_reducible refine kp_lts ?_ (fun _ _ => ?_))
      | (with_reducible refine kp_ltv (fun _ => ?_))
      | (with_reducible refine kp_j0 (fun _ _ => ?_) (fun _ _ => ?_))
      | (with_reducible refine kp_j1 (fun _ _ _ => ?_) (fun _ _ => ?_))
      | (with_reducible refine kp_j2 (fun _ _ _ _ => ?_) (fun _ _ => ?_))
      | (with_reducible refine kF_I (by first | assumption | decide) ?_)
      | (with_reducible refine kF_L (by first | assumption | decide) ?_)
      | (with_reducible refine kF_A (by first | assumption | decide) ?_)
      | (with_reducible refine kF_B (by first | assumption | decide) ?_)
      | (with_reducible refine kF_P (by first | assumption | decide) ?_)
      | (with_reducible apply kp_X7_killedIn)
      | (with_reducible apply kp_X7_endSlot)
      | (with_reducible apply kp_X4_passOn_L57)
      | (show ¬ _; decide)
      | decide
      | solve_by_elim (maxDepth := 4)

theorem kp_X4_spread_L51  (i1 : Nat) (a2 : Int32) (x7 : Int32) (k12 : fSt → Option (Unit × fSt)) {s0 : fSt} (hk12 : ∀ (s : fSt), kF (fun c => c = 12) s0 s → kpO (fun c => c = 12) s0 (k12 s)) : ∀ (n : Nat) (z0 : Int32) (s : fSt), kF (fun c => c = 12) s0 s → kpO (fun c => c = 12) s0 (f_X4_spread_L51 i1 a2 x7 k12 n z0 s) := by
  intro n
  induction n with
  | zero => intro z0 s _; unfold f_X4_spread_L51; exact kp_none
  | succ n ih =>
    intro z0 s h
    unfold f_X4_spread_L51
    repeat' first
        | assumption
        | (refine kp_some ?_)
        | exact kp_none
        | (with_reducible refine kp_ite ?_ ?_)
        | (with_reducible refine kp_ix ?_)
        | (with_reducible refine kp_nz ?_)
        | (with_reducible refine kp_bo ?_)
        | (with_reducible refine kp_cp ?_)
        | (with_reducible refine kp_nn (fun _ => ?_))
        | (with_reducible refine kp_nu ?_ (fun _ => ?_))
        | (with_reducible refine kp_bd ?_ (fun _ _ _ => ?_))
        | (with_reducible refine kp_lts ?_ (fun _ _ => ?_))
        | (with_reducible refine kp_ltv (fun _ => ?_))
        | (with_reducible refine kp_j0 (fun _ _ => ?_) (fun _ _ => ?_))
        | (with_reducible refine kp_j1 (fun _ _ _ => ?_) (fun _ _ => ?_))
        | (with_reducible refine kp_j2 (fun _ _ _ _ => ?_) (fun _ _ => ?_))
        | (with_reducible refine kF_I (by first | assumption | decide) ?_)
        | (with_reducible refine kF_L (by first | assumption | decide) ?_)
        | (with_reducible refine kF_A (by first | assumption | decide) ?_)
        | (with_reducible refine kF_B (by first | assumption | decide) ?_)
        | (with_reducible refine kF_P (by first | assumption | decide) ?_)
        | (with_reducible apply kp_X4_passOn)
        | (show ¬ _; decide)
        | decide
        | (apply ih; assumption)
        | solve_by_elim (maxDepth := 4)

theorem kp_X4_spread_L43  (i1 : Nat) (a2 : Int32) {s0 : fSt}  : ∀ (n : Nat) (z0 : Int32) (s : fSt), kF (fun c => c = 12) s0 s → kpO (fun c => c = 12) s0 (f_X4_spread_L43 i1 a2 n z0 s) := by
  intro n
  induction n with
  | zero => intro z0 s _; unfold f_X4_spread_L43; exact kp_none
  | succ n ih =>
    intro z0 s h
    unfold f_X4_spread_L43
    repeat' first
        | assumption
        | (refine kp_some ?_)
        | exact kp_none
        | (with_reducible refine kp_ite ?_ ?_)
        | (with_reducible refine kp_ix ?_)
        | (with_reducible refine kp_nz ?_)
        | (with_reducible refine kp_bo ?_)
        | (with_reducible refine kp_cp ?_)
        | (with_reducible refine kp_nn (fun _ => ?_))
        | (with_reducible refine kp_nu ?_ (fun _ => ?_))
        | (with_reducible refine kp_bd ?_ (fun _ _ _ => ?_))
        | (with_reducible refine kp_lts ?_ (fun _ _ => ?_))
        | (with_reducible refine kp_ltv (fun _ => ?_))
        | (with_reducible refine kp_j0 (fun _ _ => ?_) (fun _ _ => ?_))
        | (with_reducible refine kp_j1 (fun _ _ _ => ?_) (fun _ _ => ?_))
        | (with_reducible refine kp_j2 (fun _ _ _ _ => ?_) (fun _ _ => ?_))
        | (with_reducible refine kF_I (by first | assumption | decide) ?_)
        | (with_reducible refine kF_L (by first | assumption | decide) ?_)
        | (with_reducible refine kF_A (by first | assumption | decide) ?_)
        | (with_reducible refine kF_B (by first | assumption | decide) ?_)
        | (with_reducible refine kF_P (by first | assumption | decide) ?_)
        | (with_reducible apply kp_X4_spread_L51)
        | (show ¬ _; decide)
        | decide
        | (apply ih; assumption)
        | solve_by_elim (maxDepth := 4)

theorem kp_X4_spread  (i1 : Nat) (a2 : Int32) (a3 : Int64) (a5 : Int32) (st : fSt) {s0 : fSt}  (h : kF (fun c => c = 12) s0 st) : kpO (fun c => c = 12) s0 (f_X4_spread i1 a2 a3 a5 st) := by
  unfold f_X4_spread
  repeat' first
      | assumption
      | (refine kp_some ?_)
      | exact kp_none
      | (with_reducible refine kp_ite ?_ ?_)
      | (with_reducible refine kp_ix ?_)
      | (with_reducible refine kp_nz ?_)
      | (with_reducible refine kp_bo ?_)
      | (with_reducible refine kp_cp ?_)
      | (with_reducible refine kp_nn (fun _ => ?_))
      | (with_reducible refine kp_nu ?_ (fun _ => ?_))
      | (with_reducible refine kp_bd ?_ (fun _ _ _ => ?_))
      | (with_reducible refine kp_lts ?_ (fun _ _ => ?_))
      | (with_reducible refine kp_ltv (fun _ => ?_))
      | (with_reducible refine kp_j0 (fun _ _ => ?_) (fun _ _ => ?_))
      | (with_reducible refine kp_j1 (fun _ _ _ => ?_) (fun _ _ => ?_))
      | (with_reducible refine kp_j2 (fun _ _ _ _ => ?_) (fun _ _ => ?_))
      | (with_reducible refine kF_I (by first | assumption | decide) ?_)
      | (with_reducible refine kF_L (by first | assumption | decide) ?_)
      | (with_reducible refine kF_A (by first | assumption | decide) ?_)
      | (with_reducible refine kF_B (by first | assumption | decide) ?_)
      | (with_reducible refine kF_P (by first | assumption | decide) ?_)
      | (with_reducible apply kp_X2_opening)
      | (with_reducible apply kp_X4_spread_L43)
      | (show ¬ _; decide)
      | decide
      | solve_by_elim (maxDepth := 4)

