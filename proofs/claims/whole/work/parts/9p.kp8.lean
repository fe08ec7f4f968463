/-! frames of the functions, 8 -/
theorem kp_X12_readRole  (st : fSt) {s0 : fSt}  (h : kF (fun c => c ≠ 12) s0 st) : kpO (fun c => c ≠ 12) s0 (f_X12_readRole st) := by
  unfold f_X12_readRole
  repeat' first
      | assumption
      | (refine kp_some ?_)
      | exact kp_none
      | (with_reducible refine kp_ite ?_ ?_)
      | (with_reducible refine kp_ix ?_)
      | (with_reducible refine kp_nz ?_)
      | (with_reducible refine kp_bo ?_)
      | (with_reducible refine kp_cp ?_)
      | (with_reducible refine kp_nn (fun _ => ?_))
      | (with_reducible refine kp_nu ?_ (fun _ => ?_))
      | (with_reducible refine kp_bd ?_ (fun _ _ _ => ?_))
      | (with_reducible refine kp_lts ?_ (fun _ _ => ?_))
      | (with_reducible refine kp_ltv (fun _ => ?_))
      | (with_reducible refine kp_j0 (fun _ _ => ?_) (fun _ _ => ?_))
      | (with_reducible refine kp_j1 (fun _ _ _ => ?_) (fun _ _ => ?_))
      | (with_reducible refine kp_j2 (fun _ _ _ _ => ?_) (fun _ _ => ?_))
      | (with_reducible refine kF_I (by first | assumption | decide) ?_)
      | (with_reducible refine kF_L (by first | assumption | decide) ?_)
      | (with_reducible refine kF_A (by first | assumption | decide) ?_)
      | (with_reducible refine kF_B (by first | assumption | decide) ?_)
      | (with_reducible refine kF_P (by first | assumption | decide) ?_)
      | (with_reducible apply kp_X12_readNew)
      | (with_reducible apply kp_X12_fail)
      | (show ¬ _; decide)
      | decide
      | solve_by_elim (maxDepth := 4)

theorem kp_X12_readWay  (a1 : Int32) (st : fSt) {s0 : fSt}  (h : kF (fun c => c ≠ 12) s0 st) : kpO (fun c => c ≠ 12) s0 (f_X12_readWay a1 st) := by
  unfold f_X12_readWay
  repeat' first
      | assumption
      | (refine kp_some ?_)
      | exact kp_none
      | (with_reducible refine kp_ite ?_ ?_)
      | (with_reducible refine kp_ix ?_)
      | (with_reducible refine kp_nz ?_)
      | (with_reducible refine kp_bo ?_)
      | (with_reducible refine kp_cp ?_)
      | (with_reducible refine kp_nn (fun _ => ?_))
      | (with_reducible refine kp_nu ?_ (fun _ => ?_))
      | (with_reducible refine kp_bd ?_ (fun _ _ _ => ?_))
      | (with_reducible refine kp_lts ?_ (fun _ _ => ?_))
      | (with_reducible refine kp_ltv (fun _ => ?_))
      | (with_reducible refine kp_j0 (fun _ _ => ?_) (fun _ _ => ?_))
      | (with_reducible refine kp_j1 (fun _ _ _ => ?_) (fun _ _ => ?_))
      | (with_reducible refine kp_j2 (fun _ _ _ _ => ?_) (fun _ _ => ?_))
      | (with_reducible refine kF_I (by first | assumption | decide) ?_)
      | (with_reducible refine kF_L (by first | assumption | decide) ?_)
      | (with_reducible refine kF_A (by first | assumption | decide) ?_)
      | (with_reducible refine kF_B (by first | assumption | decide) ?_)
      | (with_reducible refine kF_P (by first | assumption | decide) ?_)
      | (with_reducible apply kp_X12_next)
      | (with_reducible apply kp_X12_readTold)
      | (show ¬ _; decide)
      | decide
      | solve_by_elim (maxDepth := 4)

theorem kp_X12_readScene  (st : fSt) {s0 : fSt}  (h : kF (fun c => c ≠ 12) s0 st) : kpO (fun c => c ≠ 12) s0 (f_X12_readScene st) := by
  unfold f_X12_readScene
  repeat' first
      | assumption
      | (refine kp_some ?_)
      | exact kp_none
      | (with_reducible refine kp_ite ?_ ?_)
      | (with_reducible refine kp_ix ?_)
      | (with_reducible refine kp_nz ?_)
      | (with_reducible refine kp_bo ?_)
      | (with_reducible refine kp_cp ?_)
      | (with_reducible refine kp_nn (fun _ => ?_))
      | (with_reducible refine kp_nu ?_ (fun _ => ?_))
      | (with_reducible refine kp_bd ?_ (fun _ _ _ => ?_))
      | (with_reducible refine kp_lts ?_ (fun _ _ => ?_))
      | (with_reducible refine kp_ltv (fun _ => ?_))
      | (with_reducible refine kp_j0 (fun _ _ => ?_) (fun _ _ => ?_))
      | (with_reducible refine kp_j1 (fun _ _ _ => ?_) (fun _ _ => ?_))
      | (with_reducible refine kp_j2 (fun _ _ _ _ => ?_) (fun _ _ => ?_))
      | (with_reducible refine kF_I (by first | assumption | decide) ?_)
      | (with_reducible refine kF_L (by first | assumption | decide) ?_)
      | (with_reducible refine kF_A (by first | assumption | decide) ?_)
      | (with_reducible refine kF_B (by first | assumption | decide) ?_)
      | (with_reducible refine kF_P (by first | assumption | decide) ?_)
      | (with_reducible apply kp_X12_readNew)
      | (with_reducible apply kp_X12_isLines)
      | (with_reducible apply kp_X12_must)
      | (with_reducible apply kp_X12_count)
      | (with_reducible apply kp_X12_isThen)
      | (with_reducible apply kp_X12_readWay)
      | (with_reducible apply kp_X12_isTear)
      | (with_reducible apply kp_X12_isLaugh)
      | (with_reducible apply kp_X12_isSleep)
      | (with_reducible apply kp_X12_isKills)
      | (with_reducible apply kp_X12_next)
      | (with_reducible apply kp_X12_readTold)
      | (with_reducible apply kp_X12_isEnds)
      | (with_reducible apply kp_X12_isWith)
      | (with_reducible apply kp_X12_readRoles)
      | (with_reducible apply kp_X12_fail)
      | (show ¬ _; decide)
      | decide
      | solve_by_elim (maxDepth := 4)

theorem kp_X12_readStep_L141  (rec : Int32 → fSt → Option (Unit × fSt)) (a1 : Int32) (x7 : Int32) (k23 : fSt → Option (Unit × fSt)) {s0 : fSt} (hrec : ∀ (z0 : Int32) (s : fSt), kF (fun c => c ≠ 12) s0 s → kpO (fun c => c ≠ 12) s0 (rec z0 s)) (hk23 : ∀ (s : fSt), kF (fun c => c ≠ 12) s0 s → kpO (fun c => c ≠ 12) s0 (k23 s)) : ∀ (n : Nat)  (s : fSt), kF (fun c => c ≠ 12) s0 s → kpO (fun c => c ≠ 12) s0 (f_X12_readStep_L141 rec a1 x7 k23 n  s) := by
  intro n
  induction n with
  | zero => intro  s _; unfold f_X12_readStep_L141; exact kp_none
  | succ n ih =>
    intro  s h
    unfold f_X12_readStep_L141
    repeat' first
        | assumption
        | (refine kp_some ?_)
        | exact kp_none
        | (with_reducible refine kp_ite ?_ ?_)
        | (with_reducible refine kp_ix ?_)
        | (with_reducible refine kp_nz ?_)
        | (with_reducible refine kp_bo ?_)
        | (with_reducible refine kp_cp ?_)
        | (with_reducible refine kp_nn (fun _ => ?_))
        | (with_reducible refine kp_nu ?_ (fun _ => ?_))
        | (with_reducible refine kp_bd ?_ (fun _ _ _ => ?_))
        | (with_reducible refine kp_lts ?_ (fun _ _ => ?_))
        | (with_reducible refine kp_ltv (fun _ => ?_))
        | (with_reducible refine kp_j0 (fun _ _ => ?_) (fun _ _ => ?_))
        | (with_reducible refine kp_j1 (fun _ _ _ => ?_) (fun _ _ => ?_))
        | (with_reducible refine kp_j2 (fun _ _ _ _ => ?_) (fun _ _ => ?_))
        | (with_reducible refine kF_I (by first | assumption | decide) ?_)
        | (with_reducible refine kF_L (by first | assumption | decide) ?_)
        | (with_reducible refine kF_A (by first | assumption | decide) ?_)
        | (with_reducible refine kF_B (by first | assumption | decide) ?_)
        | (with_reducible refine kF_P (by first | assumption | decide) ?_)
        | (with_reducible apply kp_X12_isEnd)
        | (show ¬ _; decide)
        | decide
        | (apply ih; assumption)
        | solve_by_elim (maxDepth := 4)

theorem kp_X12_readStep_b  (rec : Int32 → fSt → Option (Unit × fSt)) (a1 : Int32) (st : fSt) {s0 : fSt} (hrec : ∀ (z0 : Int32) (s : fSt), kF (fun c => c ≠ 12) s0 s → kpO (fun c => c ≠ 12) s0 (rec z0 s)) (h : kF (fun c => c ≠ 12) s0 st) : kpO (fun c => c ≠ 12) s0 (f_X12_readStep_b rec a1 st) := by
  unfold f_X12_readStep_b
  repeat' first
      | assumption
      | (refine kp_some ?_)
      | exact kp_none
      | (with_reducible refine kp_ite ?_ ?_)
      | (with_reducible refine kp_ix ?_)
      | (with_reducible refine kp_nz ?_)
      | (with_reducible refine kp_bo ?_)
      | (with_reducible refine kp_cp ?_)
      | (with_reducible refine kp_nn (fun _ => ?_))
      | (with_reducible refine kp_nu ?_ (fun _ => ?_))
      | (with_reducible refine kp_bd ?_ (fun _ _ _ => ?_))
      | (with_reducible refine kp_lts ?_ (fun _ _ => ?_))
      | (with_reducible refine kp_ltv (fun _ => ?_))
      | (with_reducible refine kp_j0 (fun _ _ => ?_) (fun _ _ => ?_))
      | (with_reducible refine kp_j1 (fun _ _ _ => ?_) (fun _ _ => ?_))
      | (with_reducible refine kp_j2 (fun _ _ _ _ => ?_) (fun _ _ => ?_))
      | (with_reducible refine kF_I (by first | assumption | decide) ?_)
      | (with_reducible refine kF_L (by first | assumption | decide) ?_)
      | (with_reducible refine kF_A (by first | assumption | decide) ?_)
      | (with_reducible refine kF_B (by first | assumption | decide) ?_)
      | (with_reducible refine kF_P (by first | assumption | decide) ?_)
      | (with_reducible apply kp_X12_stepWord)
      | (with_reducible apply kp_X12_next)
      | (with_reducible apply kp_X12_readRest)
      | (with_reducible apply kp_X12_isSign)
      | (with_reducible apply kp_X12_must)
      | (with_reducible apply kp_X12_isEnd)
      | (with_reducible apply kp_X12_readStep_L141)
      | (with_reducible apply kp_X12_fail)
      | (with_reducible apply kp_X12_wrong)
      | (show ¬ _; decide)
      | decide
      | solve_by_elim (maxDepth := 4)

theorem kp_X12_readStep {s0 : fSt} : ∀ (n : Nat) (z0 : Int32) (s : fSt), kF (fun c => c ≠ 12) s0 s → kpO (fun c => c ≠ 12) s0 (f_X12_readStep n z0 s) := by
  intro n
  induction n with
  | zero => intro z0 s _; exact kp_none
  | succ n ih =>
    intro z0 s h
    exact kp_X12_readStep_b (f_X12_readStep n) z0 s ih h
theorem kp_X12_run  (a1 : Int32) (st : fSt) {s0 : fSt}  (h : kF (fun c => c ≠ 12) s0 st) : kpO (fun c => c ≠ 12) s0 (f_X12_run a1 st) := by
  unfold f_X12_run
  repeat' first
      | assumption
      | (refine kp_some ?_)
      | exact kp_none
      | (with_reducible refine kp_ite ?_ ?_)
      | (with_reducible refine kp_ix ?_)
      | (with_reducible refine kp_nz ?_)
      | (with_reducible refine kp_bo ?_)
      | (with_reducible refine kp_cp ?_)
      | (with_reducible refine kp_nn (fun _ => ?_))
      | (with_reducible refine kp_nu ?_ (fun _ => ?_))
      | (with_reducible refine kp_bd ?_ (fun _ _ _ => ?_))
      | (with_reducible refine kp_lts ?_ (fun _ _ => ?_))
      | (with_reducible refine kp_ltv (fun _ => ?_))
      | (with_reducible refine kp_j0 (fun _ _ => ?_) (fun _ _ => ?_))
      | (with_reducible refine kp_j1 (fun _ _ _ => ?_) (fun _ _ => ?_))
      | (with_reducible refine kp_j2 (fun _ _ _ _ => ?_) (fun _ _ => ?_))
      | (with_reducible refine kF_I (by first | assumption | decide) ?_)
      | (with_reducible refine kF_L (by first | assumption | decide) ?_)
      | (with_reducible refine kF_A (by first | assumption | decide) ?_)
      | (with_reducible refine kF_B (by first | assumption | decide) ?_)
      | (with_reducible refine kF_P (by first | assumption | decide) ?_)
      | (with_reducible apply kp_X12_isIn)
      | (with_reducible apply kp_X12_weeks)
      | (with_reducible apply kp_X12_refuse)
      | (show ¬ _; decide)
      | decide
      | solve_by_elim (maxDepth := 4)

theorem kp_X12_told  (a1 : Int32) (st : fSt) {s0 : fSt}  (h : kF (fun c => c ≠ 12) s0 st) : kpO (fun c => c ≠ 12) s0 (f_X12_told a1 st) := by
  unfold f_X12_told
  repeat' first
      | assumption
      | (refine kp_some ?_)
      | exact kp_none
      | (with_reducible refine kp_ite ?_ ?_)
      | (with_reducible refine kp_ix ?_)
      | (with_reducible refine kp_nz ?_)
      | (with_reducible refine kp_bo ?_)
      | (with_reducible refine kp_cp ?_)
      | (with_reducible refine kp_nn (fun _ => ?_))
      | (with_reducible refine kp_nu ?_ (fun _ => ?_))
      | (with_reducible refine kp_bd ?_ (fun _ _ _ => ?_))
      | (with_reducible refine kp_lts ?_ (fun _ _ => ?_))
      | (with_reducible refine kp_ltv (fun _ => ?_))
      | (with_reducible refine kp_j0 (fun _ _ => ?_) (fun _ _ => ?_))
      | (with_reducible refine kp_j1 (fun _ _ _ => ?_) (fun _ _ => ?_))
      | (with_reducible refine kp_j2 (fun _ _ _ _ => ?_) (fun _ _ => ?_))
      | (with_reducible refine kF_I (by first | assumption | decide) ?_)
      | (with_reducible refine kF_L (by first | assumption | decide) ?_)
      | (with_reducible refine kF_A (by first | assumption | decide) ?_)
      | (with_reducible refine kF_B (by first | assumption | decide) ?_)
      | (with_reducible refine kF_P (by first | assumption | decide) ?_)
      | (with_reducible apply kp_X12_refuse)
      | (show ¬ _; decide)
      | decide
      | solve_by_elim (maxDepth := 4)

theorem kp_X12_scene  (a1 : Int32) (a2 : Int32) (st : fSt) {s0 : fSt}  (h : kF (fun c => c ≠ 12) s0 st) : kpO (fun c => c ≠ 12) s0 (f_X12_scene a1 a2 st) := by
  unfold f_X12_scene
  repeat' first
      | assumption
      | (refine kp_some ?_)
      | exact kp_none
      | (with_reducible refine kp_ite ?_ ?_)
      | (with_reducible refine kp_ix ?_)
      | (with_reducible refine kp_nz ?_)
      | (with_reducible refine kp_bo ?_)
      | (with_reducible refine kp_cp ?_)
      | (with_reducible refine kp_nn (fun _ => ?_))
      | (with_reducible refine kp_nu ?_ (fun _ => ?_))
      | (with_reducible refine kp_bd ?_ (fun _ _ _ => ?_))
      | (with_reducible refine kp_lts ?_ (fun _ _ => ?_))
      | (with_reducible refine kp_ltv (fun _ => ?_))
      | (with_reducible refine kp_j0 (fun _ _ => ?_) (fun _ _ => ?_))
      | (with_reducible refine kp_j1 (fun _ _ _ => ?_) (fun _ _ => ?_))
      | (with_reducible refine kp_j2 (fun _ _ _ _ => ?_) (fun _ _ => ?_))
      | (with_reducible refine kF_I (by first | assumption | decide) ?_)
      | (with_reducible refine kF_L (by first | assumption | decide) ?_)
      | (with_reducible refine kF_A (by first | assumption | decide) ?_)
      | (with_reducible refine kF_B (by first | assumption | decide) ?_)
      | (with_reducible refine kF_P (by first | assumption | decide) ?_)
      | (with_reducible apply kp_X12_isSceneAt)
      | (with_reducible apply kp_X12_told)
      | (with_reducible apply kp_X12_breathsOf)
      | (with_reducible apply kp_X12_refuse)
      | (show ¬ _; decide)
      | decide
      | solve_by_elim (maxDepth := 4)

theorem kp_X12_seen  (a1 : Int32) (a2 : Int32) (st : fSt) {s0 : fSt}  (h : kF (fun c => c ≠ 12) s0 st) : kpO (fun c => c ≠ 12) s0 (f_X12_seen a1 a2 st) := by
  unfold f_X12_seen
  repeat' first
      | assumption
      | (refine kp_some ?_)
      | exact kp_none
      | (with_reducible refine kp_ite ?_ ?_)
      | (with_reducible refine kp_ix ?_)
      | (with_reducible refine kp_nz ?_)
      | (with_reducible refine kp_bo ?_)
      | (with_reducible refine kp_cp ?_)
      | (with_reducible refine kp_nn (fun _ => ?_))
      | (with_reducible refine kp_nu ?_ (fun _ => ?_))
      | (with_reducible refine kp_bd ?_ (fun _ _ _ => ?_))
      | (with_reducible refine kp_lts ?_ (fun _ _ => ?_))
      | (with_reducible refine kp_ltv (fun _ => ?_))
      | (with_reducible refine kp_j0 (fun _ _ => ?_) (fun _ _ => ?_))
      | (with_reducible refine kp_j1 (fun _ _ _ => ?_) (fun _ _ => ?_))
      | (with_reducible refine kp_j2 (fun _ _ _ _ => ?_) (fun _ _ => ?_))
      | (with_reducible refine kF_I (by first | assumption | decide) ?_)
      | (with_reducible refine kF_L (by first | assumption | decide) ?_)
      | (with_reducible refine kF_A (by first | assumption | decide) ?_)
      | (with_reducible refine kF_B (by first | assumption | decide) ?_)
      | (with_reducible refine kF_P (by first | assumption | decide) ?_)
      | (with_reducible apply kp_X12_isSceneAt)
      | (with_reducible apply kp_X12_no)
      | (with_reducible apply kp_X12_isKindOrLot)
      | (with_reducible apply kp_X12_whyNoOdds)
      | (with_reducible apply kp_X12_sums)
      | (with_reducible apply kp_X12_fraction)
      | (show ¬ _; decide)
      | decide
      | solve_by_elim (maxDepth := 4)

theorem kp_X12_stage_L178   {s0 : fSt}  : ∀ (n : Nat) (z0 : Int32) (s : fSt), kF (fun c => c ≠ 12) s0 s → kpO (fun c => c ≠ 12) s0 (f_X12_stage_L178  n z0 s) := by
  intro n
  induction n with
  | zero => intro z0 s _; unfold f_X12_stage_L178; exact kp_none
  | succ n ih =>
    intro z0 s h
    unfold f_X12_stage_L178
    repeat' first
        | assumption
        | (refine kp_some ?_)
        | exact kp_none
        | (with_reducible refine kp_ite ?_ ?_)
        | (with_reducible refine kp_ix ?_)
        | (with_reducible refine kp_nz ?_)
        | (with_reducible refine kp_bo ?_)
        | (with_reducible refine kp_cp ?_)
        | (with_reducible refine kp_nn (fun _ => ?_))
        | (with_reducible refine kp_nu ?_ (fun _ => ?_))
        | (with_reducible refine kp_bd ?_ (fun _ _ _ => ?_))
        | (with_reducible refine kp_lts ?_ (fun _ _ => ?_))
        | (with_reducible refine kp_ltv (fun _ => ?_))
        | (with_reducible refine kp_j0 (fun _ _ => ?_) (fun _ _ => ?_))
        | (with_reducible refine kp_j1 (fun _ _ _ => ?_) (fun _ _ => ?_))
        | (with_reducible refine kp_j2 (fun _ _ _ _ => ?_) (fun _ _ => ?_))
        | (with_reducible refine kF_I (by first | assumption | decide) ?_)
        | (with_reducible refine kF_L (by first | assumption | decide) ?_)
        | (with_reducible refine kF_A (by first | assumption | decide) ?_)
        | (with_reducible refine kF_B (by first | assumption | decide) ?_)
        | (with_reducible refine kF_P (by first | assumption | decide) ?_)
        | (show ¬ _; decide)
        | decide
        | (apply ih; assumption)
        | solve_by_elim (maxDepth := 4)

theorem kp_X12_stage_L147  (k14 : fSt → Option (Int32 × fSt)) {s0 : fSt} (hk14 : ∀ (s : fSt), kF (fun c => c ≠ 12) s0 s → kpO (fun c => c ≠ 12) s0 (k14 s)) : ∀ (n : Nat) (z0 : Int32) (s : fSt), kF (fun c => c ≠ 12) s0 s → kpO (fun c => c ≠ 12) s0 (f_X12_stage_L147 k14 n z0 s) := by
  intro n
  induction n with
  | zero => intro z0 s _; unfold f_X12_stage_L147; exact kp_none
  | succ n ih =>
    intro z0 s h
    unfold f_X12_stage_L147
    repeat' first
        | assumption
        | (refine kp_some ?_)
        | exact kp_none
        | (with_reducible refine kp_ite ?_ ?_)
        | (with_reducible refine kp_ix ?_)
        | (with_reducible refine kp_nz ?_)
        | (with_reducible refine kp_bo ?_)
        | (with_reducible refine kp_cp ?_)
        | (with_reducible refine kp_nn (fun _ => ?_))
        | (with_reducible refine kp_nu ?_ (fun _ => ?_))
        | (with_reducible refine kp_bd ?_ (fun _ _ _ => ?_))
        | (with_reducible refine kp_lts ?_ (fun _ _ => ?_))
        | (with_reducible refine kp_ltv (fun _ => ?_))
        | (with_reducible refine kp_j0 (fun _ _ => ?_) (fun _ _ => ?_))
        | (with_reducible refine kp_j1 (fun _ _ _ => ?_) (fun _ _ => ?_))
        | (with_reducible refine kp_j2 (fun _ _ _ _ => ?_) (fun _ _ => ?_))
        | (with_reducible refine kF_I (by first | assumption | decide) ?_)
        | (with_reducible refine kF_L (by first | assumption | decide) ?_)
        | (with_reducible refine kF_A (by first | assumption | decide) ?_)
        | (with_reducible refine kF_B (by first | assumption | decide) ?_)
        | (with_reducible refine kF_P (by first | assumption | decide) ?_)
        | (show ¬ _; decide)
        | decide
        | (apply ih; assumption)
        | solve_by_elim (maxDepth := 4)

theorem kp_X12_stage_L49  (k9 : fSt → Option (Int32 × fSt)) {s0 : fSt} (hk9 : ∀ (s : fSt), kF (fun c => c ≠ 12) s0 s → kpO (fun c => c ≠ 12) s0 (k9 s)) : ∀ (n : Nat)  (s : fSt), kF (fun c => c ≠ 12) s0 s → kpO (fun c => c ≠ 12) s0 (f_X12_stage_L49 k9 n  s) := by
  intro n
  induction n with
  | zero => intro  s _; unfold f_X12_stage_L49; exact kp_none
  | succ n ih =>
    intro  s h
    unfold f_X12_stage_L49
    repeat' first
        | assumption
        | (refine kp_some ?_)
        | exact kp_none
        | (with_reducible refine kp_ite ?_ ?_)
        | (with_reducible refine kp_ix ?_)
        | (with_reducible refine kp_nz ?_)
        | (with_reducible refine kp_bo ?_)
        | (with_reducible refine kp_cp ?_)
        | (with_reducible refine kp_nn (fun _ => ?_))
        | (with_reducible refine kp_nu ?_ (fun _ => ?_))
        | (with_reducible refine kp_bd ?_ (fun _ _ _ => ?_))
        | (with_reducible refine kp_lts ?_ (fun _ _ => ?_))
        | (with_reducible refine kp_ltv (fun _ => ?_))
        | (with_reducible refine kp_j0 (fun _ _ => ?_) (fun _ _ => ?_))
        | (with_reducible refine kp_j1 (fun _ _ _ => ?_) (fun _ _ => ?_))
        | (with_reducible refine kp_j2 (fun _ _ _ _ => ?_) (fun _ _ => ?_))
        | (with_reducible refine kF_I (by first | assumption | decide) ?_)
        | (with_reducible refine kF_L (by first | assumption | decide) ?_)
        | (with_reducible refine kF_A (by first | assumption | decide) ?_)
        | (with_reducible refine kF_B (by first | assumption | decide) ?_)
        | (with_reducible refine kF_P (by first | assumption | decide) ?_)
        | (with_reducible apply kp_X12_isRole)
        | (with_reducible apply kp_X12_isSign)
        | (with_reducible apply kp_X12_must)
        | (with_reducible apply kp_X12_isActor)
        | (with_reducible apply kp_X12_isScene)
        | (with_reducible apply kp_X12_isKind)
        | (with_reducible apply kp_X12_wrong)
        | (with_reducible apply kp_X12_readKind)
        | (with_reducible apply kp_X12_readScene)
        | (with_reducible apply kp_X12_readActor)
        | (with_reducible apply kp_X12_readRole)
        | (show ¬ _; decide)
        | decide
        | (apply ih; assumption)
        | solve_by_elim (maxDepth := 4)

theorem kp_X12_stage_L25  (k7 : fSt → Option (Int32 × fSt)) {s0 : fSt} (hk7 : ∀ (s : fSt), kF (fun c => c ≠ 12) s0 s → kpO (fun c => c ≠ 12) s0 (k7 s)) : ∀ (n : Nat) (z0 : Int32) (s : fSt), kF (fun c => c ≠ 12) s0 s → kpO (fun c => c ≠ 12) s0 (f_X12_stage_L25 k7 n z0 s) := by
  intro n
  induction n with
  | zero => intro z0 s _; unfold f_X12_stage_L25; exact kp_none
  | succ n ih =>
    intro z0 s h
    unfold f_X12_stage_L25
    repeat' first
        | assumption
        | (refine kp_some ?_)
        | exact kp_none
        | (with_reducible refine kp_ite ?_ ?_)
        | (with_reducible refine kp_ix ?_)
        | (with_reducible refine kp_nz ?_)
        | (with_reducible refine kp_bo ?_)
        | (with_reducible refine kp_cp ?_)
        | (with_reducible refine kp_nn (fun _ => ?_))
        | (with_reducible refine kp_nu ?_ (fun _ => ?_))
        | (with_reducible refine kp_bd ?_ (fun _ _ _ => ?_))
        | (with_reducible refine kp_lts ?_ (fun _ _ => ?_))
        | (with_reducible refine kp_ltv (fun _ => ?_))
        | (with_reducible refine kp_j0 (fun _ _ => ?_) (fun _ _ => ?_))
        | (with_reducible refine kp_j1 (fun _ _ _ => ?_) (fun _ _ => ?_))
        | (with_reducible refine kp_j2 (fun _ _ _ _ => ?_) (fun _ _ => ?_))
        | (with_reducible refine kF_I (by first | assumption | decide) ?_)
        | (with_reducible refine kF_L (by first | assumption | decide) ?_)
        | (with_reducible refine kF_A (by first | assumption | decide) ?_)
        | (with_reducible refine kF_B (by first | assumption | decide) ?_)
        | (with_reducible refine kF_P (by first | assumption | decide) ?_)
        | (show ¬ _; decide)
        | decide
        | (apply ih; assumption)
        | solve_by_elim (maxDepth := 4)

theorem kp_X12_stage  (a1 : Int32) (st : fSt) {s0 : fSt}  (h : kF (fun c => c ≠ 12) s0 st) : kpO (fun c => c ≠ 12) s0 (f_X12_stage a1 st) := by
  unfold f_X12_stage
  repeat' first
      | assumption
      | (refine kp_some ?_)
      | exact kp_none
      | (with_reducible refine kp_ite ?_ ?_)
      | (with_reducible refine kp_ix ?_)
      | (with_reducible refine kp_nz ?_)
      | (with_reducible refine kp_bo ?_)
      | (with_reducible refine kp_cp ?_)
      | (with_reducible refine kp_nn (fun _ => ?_))
      | (with_reducible refine kp_nu ?_ (fun _ => ?_))
      | (with_reducible refine kp_bd ?_ (fun _ _ _ => ?_))
      | (with_reducible refine kp_lts ?_ (fun _ _ => ?_))
      | (with_reducible refine kp_ltv (fun _ => ?_))
      | (with_reducible refine kp_j0 (fun _ _ => ?_) (fun _ _ => ?_))
      | (with_reducible refine kp_j1 (fun _ _ _ => ?_) (fun _ _ => ?_))
      | (with_reducible refine kp_j2 (fun _ _ _ _ => ?_) (fun _ _ => ?_))
      | (with_reducible refine kF_I (by first | assumption | decide) ?_)
      | (with_reducible refine kF_L (by first | assumption | decide) ?_)
      | (with_reducible refine kF_A (by first | assumption | decide) ?_)
      | (with_reducible refine kF_B (by first | assumption | decide) ?_)
      | (with_reducible refine kF_P (by first | assumption | decide) ?_)
      | (with_reducible apply kp_X12_opens)
      | (with_reducible apply kp_X12_isWell)
      | (with_reducible apply kp_X12_stage_L178)
      | (with_reducible apply kp_X12_stage_L147)
      | (with_reducible apply kp_X12_stage_L49)
      | (with_reducible apply kp_X12_stage_L25)
      | (show ¬ _; decide)
      | decide
      | solve_by_elim (maxDepth := 4)

theorem kp_X12_status  (st : fSt) {s0 : fSt}  (h : kF (fun c => c ≠ 12) s0 st) : kpO (fun c => c ≠ 12) s0 (f_X12_status st) := by
  unfold f_X12_status
  repeat' first
      | assumption
      | (refine kp_some ?_)
      | exact kp_none
      | (with_reducible refine kp_ite ?_ ?_)
      | (with_reducible refine kp_ix ?_)
      | (with_reducible refine kp_nz ?_)
      | (with_reducible refine kp_bo ?_)
      | (with_reducible refine kp_cp ?_)
      | (with_reducible refine kp_nn (fun _ => ?_))
      | (with_reducible refine kp_nu ?_ (fun _ => ?_))
      | (with_reducible refine kp_bd ?_ (fun _ _ _ => ?_))
      | (with_reducible refine kp_lts ?_ (fun _ _ => ?_))
      | (with_reducible refine kp_ltv (fun _ => ?_))
      | (with_reducible refine kp_j0 (fun _ _ => ?_) (fun _ _ => ?_))
      | (with_reducible refine kp_j1 (fun _ _ _ => ?_) (fun _ _ => ?_))
      | (with_reducible refine kp_j2 (fun _ _ _ _ => ?_) (fun _ _ => ?_))
      | (with_reducible refine kF_I (by first | assumption | decide) ?_)
      | (with_reducible refine kF_L (by first | assumption | decide) ?_)
      | (with_reducible refine kF_A (by first | assumption | decide) ?_)
      | (with_reducible refine kF_B (by first | assumption | decide) ?_)
      | (with_reducible refine kF_P (by first | assumption | decide) ?_)
      | (show ¬ _; decide)
      | decide
      | solve_by_elim (maxDepth := 4)

theorem kp_X12_steerFrom_L107  (a3 : Int32) (j12 : fSt → Option (Unit × fSt)) {s0 : fSt} (hj12 : ∀ (s : fSt), kF (fun c => c ≠ 12) s0 s → kpO (fun c => c ≠ 12) s0 (j12 s)) : ∀ (n : Nat) (z0 : Int32) (s : fSt), kF (fun c => c ≠ 12) s0 s → kpO (fun c => c ≠ 12) s0 (f_X12_steerFrom_L107 a3 j12 n z0 s) := by
  intro n
  induction n with
  | zero => intro z0 s _; unfold f_X12_steerFrom_L107; exact kp_none
  | succ n ih =>
    intro z0 s h
    unfold f_X12_steerFrom_L107
    repeat' first
        | assumption
        | (refine kp_some ?_)
        | exact kp_none
        | (with_reducible refine kp_ite ?_ ?_)
        | (with_reducible refine kp_ix ?_)
        | (with_reducible refine kp_nz ?_)
        | (with_reducible refine kp_bo ?_)
        | (with_reducible refine kp_cp ?_)
        | (with_reducible refine kp_nn (fun _ => ?_))
        | (with_reducible refine kp_nu ?_ (fun _ => ?_))
        | (with_reducible refine kp_bd ?_ (fun _ _ _ => ?_))
        | (with_reducible refine kp_lts ?_ (fun _ _ => ?_))
        | (with_reducible refine kp_ltv (fun _ => ?_))
        | (with_reducible refine kp_j0 (fun _ _ => ?_) (fun _ _ => ?_))
        | (with_reducible refine kp_j1 (fun _ _ _ => ?_) (fun _ _ => ?_))
        | (with_reducible refine kp_j2 (fun _ _ _ _ => ?_) (fun _ _ => ?_))
        | (with_reducible refine kF_I (by first | assumption | decide) ?_)
        | (with_reducible refine kF_L (by first | assumption | decide) ?_)
        | (with_reducible refine kF_A (by first | assumption | decide) ?_)
        | (with_reducible refine kF_B (by first | assumption | decide) ?_)
        | (with_reducible refine kF_P (by first | assumption | decide) ?_)
        | (show ¬ _; decide)
        | decide
        | (apply ih; assumption)
        | solve_by_elim (maxDepth := 4)

theorem kp_X12_steerFrom_L21  (rec : Int32 → Int32 → Int32 → Int32 → fSt → Option (Unit × fSt)) (a1 : Int32) (a2 : Int32) (a3 : Int32) (a4 : Int32) {s0 : fSt} (hrec : ∀ (z0 : Int32) (z1 : Int32) (z2 : Int32) (z3 : Int32) (s : fSt), kF (fun c => c ≠ 12) s0 s → kpO (fun c => c ≠ 12) s0 (rec z0 z1 z2 z3 s)) : ∀ (n : Nat) (z0 : Int32) (s : fSt), kF (fun c => c ≠ 12) s0 s → kpO (fun c => c ≠ 12) s0 (f_X12_steerFrom_L21 rec a1 a2 a3 a4 n z0 s) := by
  intro n
  induction n with
  | zero => intro z0 s _; unfold f_X12_steerFrom_L21; exact kp_none
  | succ n ih =>
    intro z0 s h
    unfold f_X12_steerFrom_L21
    repeat' first
        | assumption
        | (refine kp_some ?_)
        | exact kp_none
        | (with_reducible refine kp_ite ?_ ?_)
        | (with_reducible refine kp_ix ?_)
        | (with_reducible refine kp_nz ?_)
        | (with_reducible refine kp_bo ?_)
        | (with_reducible refine kp_cp ?_)
        | (with_reducible refine kp_nn (fun _ => ?_))
        | (with_reducible refine kp_nu ?_ (fun _ => ?_))
        | (with_reducible refine kp_bd ?_ (fun _ _ _ => ?_))
        | (with_reducible refine kp_lts ?_ (fun _ _ => ?_))
        | (with_reducible refine kp_ltv (fun _ => ?_))
        | (with_reducible refine kp_j0 (fun _ _ => ?_) (fun _ _ => ?_))
        | (with_reducible refine kp_j1 (fun _ _ _ => ?_) (fun _ _ => ?_))
        | (with_reducible refine kp_j2 (fun _ _ _ _ => ?_) (fun _ _ => ?_))
        | (with_reducible refine kF_I (by first | assumption | decide) ?_)
        | (with_reducible refine kF_L (by first | assumption | decide) ?_)
        | (with_reducible refine kF_A (by first | assumption | decide) ?_)
        | (with_reducible refine kF_B (by first | assumption | decide) ?_)
        | (with_reducible refine kF_P (by first | assumption | decide) ?_)
        | (with_reducible apply kp_X12_behind2)
        | (with_reducible apply kp_X12_ending)
        | (with_reducible apply kp_X12_steerFrom_L107)
        | (with_reducible apply kp_X12_kills)
        | (show ¬ _; decide)
        | decide
        | (apply ih; assumption)
        | solve_by_elim (maxDepth := 4)

theorem kp_X12_steerFrom_b  (rec : Int32 → Int32 → Int32 → Int32 → fSt → Option (Unit × fSt)) (a1 : Int32) (a2 : Int32) (a3 : Int32) (a4 : Int32) (st : fSt) {s0 : fSt} (hrec : ∀ (z0 : Int32) (z1 : Int32) (z2 : Int32) (z3 : Int32) (s : fSt), kF (fun c => c ≠ 12) s0 s → kpO (fun c => c ≠ 12) s0 (rec z0 z1 z2 z3 s)) (h : kF (fun c => c ≠ 12) s0 st) : kpO (fun c => c ≠ 12) s0 (f_X12_steerFrom_b rec a1 a2 a3 a4 st) := by
  unfold f_X12_steerFrom_b
  repeat' first
      | assumption
      | (refine kp_some ?_)
      | exact kp_none
      | (with_reducible refine kp_ite ?_ ?_)
      | (with_reducible refine kp_ix ?_)
      | (with_reducible refine kp_nz ?_)
      | (with_reducible refine kp_bo ?_)
      | (with_reducible refine kp_cp ?_)
      | (with_reducible refine kp_nn (fun _ => ?_))
      | (with_reducible refine kp_nu ?_ (fun _ => ?_))
      | (with_reducible refine kp_bd ?_ (fun _ _ _ => ?_))
      | (with_reducible refine kp_lts ?_ (fun _ _ => ?_))
      | (with_reducible refine kp_ltv (fun _ => ?_))
      | (with_reducible refine kp_j0 (fun _ _ => ?_) (fun _ _ => ?_))
      | (with_reducible refine kp_j1 (fun _ _ _ => ?_) (fun _ _ => ?_))
      | (with_reducible refine kp_j2 (fun _ _ _ _ => ?_) (fun _ _ => ?_))
      | (with_reducible refine kF_I (by first | assumption | decide) ?_)
      | (with_reducible refine kF_L (by first | assumption | decide) ?_)
      | (with_reducible refine kF_A (by first | assumption | decide) ?_)
      | (with_reducible refine kF_B (by first | assumption | decide) ?_)
      | (with_reducible refine kF_P (by first | assumption | decide) ?_)
      | (with_reducible apply kp_X12_steerFrom_L21)
      | (show ¬ _; decide)
      | decide
      | solve_by_elim (maxDepth := 4)

theorem kp_X12_steerFrom {s0 : fSt} : ∀ (n : Nat) (z0 : Int32) (z1 : Int32) (z2 : Int32) (z3 : Int32) (s : fSt), kF (fun c => c ≠ 12) s0 s → kpO (fun c => c ≠ 12) s0 (f_X12_steerFrom n z0 z1 z2 z3 s) := by
  intro n
  induction n with
  | zero => intro z0 z1 z2 z3 s _; exact kp_none
  | succ n ih =>
    intro z0 z1 z2 z3 s h
    exact kp_X12_steerFrom_b (f_X12_steerFrom n) z0 z1 z2 z3 s ih h
theorem kp_X12_steer_L79   {s0 : fSt}  : ∀ (n : Nat) (z0 : Int32) (s : fSt), kF (fun c => c ≠ 12) s0 s → kpO (fun c => c ≠ 12) s0 (f_X12_steer_L79  n z0 s) := by
  intro n
  induction n with
  | zero => intro z0 s _; unfold f_X12_steer_L79; exact kp_none
  | succ n ih =>
    intro z0 s h
    unfold f_X12_steer_L79
    repeat' first
        | assumption
        | (refine kp_some ?_)
        | exact kp_none
        | (with_reducible refine kp_ite ?_ ?_)
        | (with_reducible refine kp_ix ?_)
        | (with_reducible refine kp_nz ?_)
        | (with_reducible refine kp_bo ?_)
        | (with_reducible refine kp_cp ?_)
        | (with_reducible refine kp_nn (fun _ => ?_))
        | (with_reducible refine kp_nu ?_ (fun _ => ?_))
        | (with_reducible refine kp_bd ?_ (fun _ _ _ => ?_))
        | (with_reducible refine kp_lts ?_ (fun _ _ => ?_))
        | (with_reducible refine kp_ltv (fun _ => ?_))
        | (with_reducible refine kp_j0 (fun _ _ => ?_) (fun _ _ => ?_))
        | (with_reducible refine kp_j1 (fun _ _ _ => ?_) (fun _ _ => ?_))
        | (with_reducible refine kp_j2 (fun _ _ _ _ => ?_) (fun _ _ => ?_))
        | (with_reducible refine kF_I (by first | assumption | decide) ?_)
        | (with_reducible refine kF_L (by first | assumption | decide) ?_)
        | (with_reducible refine kF_A (by first | assumption | decide) ?_)
        | (with_reducible refine kF_B (by first | assumption | decide) ?_)
        | (with_reducible refine kF_P (by first | assumption | decide) ?_)
        | (show ¬ _; decide)
        | decide
        | (apply ih; assumption)
        | solve_by_elim (maxDepth := 4)

theorem kp_X12_steer  (a1 : Int32) (st : fSt) {s0 : fSt}  (h : kF (fun c => c ≠ 12) s0 st) : kpO (fun c => c ≠ 12) s0 (f_X12_steer a1 st) := by
  unfold f_X12_steer
  repeat' first
      | assumption
      | (refine kp_some ?_)
      | exact kp_none
      | (with_reducible refine kp_ite ?_ ?_)
      | (with_reducible refine kp_ix ?_)
      | (with_reducible refine kp_nz ?_)
      | (with_reducible refine kp_bo ?_)
      | (with_reducible refine kp_cp ?_)
      | (with_reducible refine kp_nn (fun _ => ?_))
      | (with_reducible refine kp_nu ?_ (fun _ => ?_))
      | (with_reducible refine kp_bd ?_ (fun _ _ _ => ?_))
      | (with_reducible refine kp_lts ?_ (fun _ _ => ?_))
      | (with_reducible refine kp_ltv (fun _ => ?_))
      | (with_reducible refine kp_j0 (fun _ _ => ?_) (fun _ _ => ?_))
      | (with_reducible refine kp_j1 (fun _ _ _ => ?_) (fun _ _ => ?_))
      | (with_reducible refine kp_j2 (fun _ _ _ _ => ?_) (fun _ _ => ?_))
      | (with_reducible refine kF_I (by first | assumption | decide) ?_)
      | (with_reducible refine kF_L (by first | assumption | decide) ?_)
      | (with_reducible refine kF_A (by first | assumption | decide) ?_)
      | (with_reducible refine kF_B (by first | assumption | decide) ?_)
      | (with_reducible refine kF_P (by first | assumption | decide) ?_)
      | (with_reducible apply kp_X12_isIn)
      | (with_reducible apply kp_X12_isDark)
      | (with_reducible apply kp_X12_steer_L79)
      | (with_reducible apply kp_X12_refuse)
      | (with_reducible apply kp_X12_steerFrom)
      | (show ¬ _; decide)
      | decide
      | solve_by_elim (maxDepth := 4)

theorem kp_X12_steerAt  (a1 : Int32) (st : fSt) {s0 : fSt}  (h : kF (fun c => c ≠ 12) s0 st) : kpO (fun c => c ≠ 12) s0 (f_X12_steerAt a1 st) := by
  unfold f_X12_steerAt
  repeat' first
      | assumption
      | (refine kp_some ?_)
      | exact kp_none
      | (with_reducible refine kp_ite ?_ ?_)
      | (with_reducible refine kp_ix ?_)
      | (with_reducible refine kp_nz ?_)
      | (with_reducible refine kp_bo ?_)
      | (with_reducible refine kp_cp ?_)
      | (with_reducible refine kp_nn (fun _ => ?_))
      | (with_reducible refine kp_nu ?_ (fun _ => ?_))
      | (with_reducible refine kp_bd ?_ (fun _ _ _ => ?_))
      | (with_reducible refine kp_lts ?_ (fun _ _ => ?_))
      | (with_reducible refine kp_ltv (fun _ => ?_))
      | (with_reducible refine kp_j0 (fun _ _ => ?_) (fun _ _ => ?_))
      | (with_reducible refine kp_j1 (fun _ _ _ => ?_) (fun _ _ => ?_))
      | (with_reducible refine kp_j2 (fun _ _ _ _ => ?_) (fun _ _ => ?_))
      | (with_reducible refine kF_I (by first | assumption | decide) ?_)
      | (with_reducible refine kF_L (by first | assumption | decide) ?_)
      | (with_reducible refine kF_A (by first | assumption | decide) ?_)
      | (with_reducible refine kF_B (by first | assumption | decide) ?_)
      | (with_reducible refine kF_P (by first | assumption | decide) ?_)
      | (with_reducible apply kp_X12_isIn)
      | (with_reducible apply kp_X12_refuse)
      | (show ¬ _; decide)
      | decide
      | solve_by_elim (maxDepth := 4)

theorem kp_X12_suspects_L83  (x19 : Int32) (j25 : Int32 → Int32 → fSt → Option (Int32 × fSt)) (x27 : Int32) {s0 : fSt} (hj25 : ∀ (z0 : Int32) (z1 : Int32) (s : fSt), kF (fun c => c ≠ 12) s0 s → kpO (fun c => c ≠ 12) s0 (j25 z0 z1 s)) : ∀ (n : Nat) (z0 : Int32) (z1 : Int32) (s : fSt), kF (fun c => c ≠ 12) s0 s → kpO (fun c => c ≠ 12) s0 (f_X12_suspects_L83 x19 j25 x27 n z0 z1 s) := by
  intro n
  induction n with
  | zero => intro z0 z1 s _; unfold f_X12_suspects_L83; exact kp_none
  | succ n ih =>
    intro z0 z1 s h
    unfold f_X12_suspects_L83
    repeat' first
        | assumption
        | (refine kp_some ?_)
        | exact kp_none
        | (with_reducible refine kp_ite ?_ ?_)
        | (with_reducible refine kp_ix ?_)
        | (with_reducible refine kp_nz ?_)
        | (with_reducible refine kp_bo ?_)
        | (with_reducible refine kp_cp ?_)
        | (with_reducible refine kp_nn (fun _ => ?_))
        | (with_reducible refine kp_nu ?_ (fun _ => ?_))
        | (with_reducible refine kp_bd ?_ (fun _ _ _ => ?_))
        | (with_reducible refine kp_lts ?_ (fun _ _ => ?_))
        | (with_reducible refine kp_ltv (fun _ => ?_))
        | (with_reducible refine kp_j0 (fun _ _ => ?_) (fun _ _ => ?_))
        | (with_reducible refine kp_j1 (fun _ _ _ => ?_) (fun _ _ => ?_))
        | (with_reducible refine kp_j2 (fun _ _ _ _ => ?_) (fun _ _ => ?_))
        | (with_reducible refine kF_I (by first | assumption | decide) ?_)
        | (with_reducible refine kF_L (by first | assumption | decide) ?_)
        | (with_reducible refine kF_A (by first | assumption | decide) ?_)
        | (with_reducible refine kF_B (by first | assumption | decide) ?_)
        | (with_reducible refine kF_P (by first | assumption | decide) ?_)
        | (with_reducible apply kp_X12_has)
        | (show ¬ _; decide)
        | decide
        | (apply ih; assumption)
        | solve_by_elim (maxDepth := 4)

theorem kp_X12_suspects_L44  (a1 : Int32) (k11 : Int32 → Int32 → fSt → Option (Int32 × fSt)) {s0 : fSt} (hk11 : ∀ (z0 : Int32) (z1 : Int32) (s : fSt), kF (fun c => c ≠ 12) s0 s → kpO (fun c => c ≠ 12) s0 (k11 z0 z1 s)) : ∀ (n : Nat) (z0 : Int32) (z1 : Int32) (z2 : Int32) (s : fSt), kF (fun c => c ≠ 12) s0 s → kpO (fun c => c ≠ 12) s0 (f_X12_suspects_L44 a1 k11 n z0 z1 z2 s) := by
  intro n
  induction n with
  | zero => intro z0 z1 z2 s _; unfold f_X12_suspects_L44; exact kp_none
  | succ n ih =>
    intro z0 z1 z2 s h
    unfold f_X12_suspects_L44
    repeat' first
        | assumption
        | (refine kp_some ?_)
        | exact kp_none
        | (with_reducible refine kp_ite ?_ ?_)
        | (with_reducible refine kp_ix ?_)
        | (with_reducible refine kp_nz ?_)
        | (with_reducible refine kp_bo ?_)
        | (with_reducible refine kp_cp ?_)
        | (with_reducible refine kp_nn (fun _ => ?_))
        | (with_reducible refine kp_nu ?_ (fun _ => ?_))
        | (with_reducible refine kp_bd ?_ (fun _ _ _ => ?_))
        | (with_reducible refine kp_lts ?_ (fun _ _ => ?_))
        | (with_reducible refine kp_ltv (fun _ => ?_))
        | (with_reducible refine kp_j0 (fun _ _ => ?_) (fun _ _ => ?_))
        | (with_reducible refine kp_j1 (fun _ _ _ => ?_) (fun _ _ => ?_))
        | (with_reducible refine kp_j2 (fun _ _ _ _ => ?_) (fun _ _ => ?_))
        | (with_reducible refine kF_I (by first | assumption | decide) ?_)
        | (with_reducible refine kF_L (by first | assumption | decide) ?_)
        | (with_reducible refine kF_A (by first | assumption | decide) ?_)
        | (with_reducible refine kF_B (by first | assumption | decide) ?_)
        | (with_reducible refine kF_P (by first | assumption | decide) ?_)
        | (with_reducible apply kp_X12_suspects_L83)
        | (show ¬ _; decide)
        | decide
        | (apply ih; assumption)
        | solve_by_elim (maxDepth := 4)

theorem kp_X12_suspects  (a1 : Int32) (st : fSt) {s0 : fSt}  (h : kF (fun c => c ≠ 12) s0 st) : kpO (fun c => c ≠ 12) s0 (f_X12_suspects a1 st) := by
  unfold f_X12_suspects
  repeat' first
      | assumption
      | (refine kp_some ?_)
      | exact kp_none
      | (with_reducible refine kp_ite ?_ ?_)
      | (with_reducible refine kp_ix ?_)
      | (with_reducible refine kp_nz ?_)
      | (with_reducible refine kp_bo ?_)
      | (with_reducible refine kp_cp ?_)
      | (with_reducible refine kp_nn (fun _ => ?_))
      | (with_reducible refine kp_nu ?_ (fun _ => ?_))
      | (with_reducible refine kp_bd ?_ (fun _ _ _ => ?_))
      | (with_reducible refine kp_lts ?_ (fun _ _ => ?_))
      | (with_reducible refine kp_ltv (fun _ => ?_))
      | (with_reducible refine kp_j0 (fun _ _ => ?_) (fun _ _ => ?_))
      | (with_reducible refine kp_j1 (fun _ _ _ => ?_) (fun _ _ => ?_))
      | (with_reducible refine kp_j2 (fun _ _ _ _ => ?_) (fun _ _ => ?_))
      | (with_reducible refine kF_I (by first | assumption | decide) ?_)
      | (with_reducible refine kF_L (by first | assumption | decide) ?_)
      | (with_reducible refine kF_A (by first | assumption | decide) ?_)
      | (with_reducible refine kF_B (by first | assumption | decide) ?_)
      | (with_reducible refine kF_P (by first | assumption | decide) ?_)
      | (with_reducible apply kp_X12_isIn)
      | (with_reducible apply kp_X12_refuse)
      | (with_reducible apply kp_X12_suspects_L44)
      | (show ¬ _; decide)
      | decide
      | solve_by_elim (maxDepth := 4)

theorem kp_X12_top  (st : fSt) {s0 : fSt}  (h : kF (fun c => c ≠ 12) s0 st) : kpO (fun c => c ≠ 12) s0 (f_X12_top st) := by
  unfold f_X12_top
  repeat' first
      | assumption
      | (refine kp_some ?_)
      | exact kp_none
      | (with_reducible refine kp_ite ?_ ?_)
      | (with_reducible refine kp_ix ?_)
      | (with_reducible refine kp_nz ?_)
      | (with_reducible refine kp_bo ?_)
      | (with_reducible refine kp_cp ?_)
      | (with_reducible refine kp_nn (fun _ => ?_))
      | (with_reducible refine kp_nu ?_ (fun _ => ?_))
      | (with_reducible refine kp_bd ?_ (fun _ _ _ => ?_))
      | (with_reducible refine kp_lts ?_ (fun _ _ => ?_))
      | (with_reducible refine kp_ltv (fun _ => ?_))
      | (with_reducible refine kp_j0 (fun _ _ => ?_) (fun _ _ => ?_))
      | (with_reducible refine kp_j1 (fun _ _ _ => ?_) (fun _ _ => ?_))
      | (with_reducible refine kp_j2 (fun _ _ _ _ => ?_) (fun _ _ => ?_))
      | (with_reducible refine kF_I (by first | assumption | decide) ?_)
      | (with_reducible refine kF_L (by first | assumption | decide) ?_)
      | (with_reducible refine kF_A (by first | assumption | decide) ?_)
      | (with_reducible refine kF_B (by first | assumption | decide) ?_)
      | (with_reducible refine kF_P (by first | assumption | decide) ?_)
      | (show ¬ _; decide)
      | decide
      | solve_by_elim (maxDepth := 4)

theorem kp_X12_tray_L74  (a1 : Int32) (a3 : Int32) {s0 : fSt}  : ∀ (n : Nat) (z0 : Int32) (s : fSt), kF (fun c => c ≠ 12) s0 s → kpO (fun c => c ≠ 12) s0 (f_X12_tray_L74 a1 a3 n z0 s) := by
  intro n
  induction n with
  | zero => intro z0 s _; unfold f_X12_tray_L74; exact kp_none
  | succ n ih =>
    intro z0 s h
    unfold f_X12_tray_L74
    repeat' first
        | assumption
        | (refine kp_some ?_)
        | exact kp_none
        | (with_reducible refine kp_ite ?_ ?_)
        | (with_reducible refine kp_ix ?_)
        | (with_reducible refine kp_nz ?_)
        | (with_reducible refine kp_bo ?_)
        | (with_reducible refine kp_cp ?_)
        | (with_reducible refine kp_nn (fun _ => ?_))
        | (with_reducible refine kp_nu ?_ (fun _ => ?_))
        | (with_reducible refine kp_bd ?_ (fun _ _ _ => ?_))
        | (with_reducible refine kp_lts ?_ (fun _ _ => ?_))
        | (with_reducible refine kp_ltv (fun _ => ?_))
        | (with_reducible refine kp_j0 (fun _ _ => ?_) (fun _ _ => ?_))
        | (with_reducible refine kp_j1 (fun _ _ _ => ?_) (fun _ _ => ?_))
        | (with_reducible refine kp_j2 (fun _ _ _ _ => ?_) (fun _ _ => ?_))
        | (with_reducible refine kF_I (by first | assumption | decide) ?_)
        | (with_reducible refine kF_L (by first | assumption | decide) ?_)
        | (with_reducible refine kF_A (by first | assumption | decide) ?_)
        | (with_reducible refine kF_B (by first | assumption | decide) ?_)
        | (with_reducible refine kF_P (by first | assumption | decide) ?_)
        | (show ¬ _; decide)
        | decide
        | (apply ih; assumption)
        | solve_by_elim (maxDepth := 4)

theorem kp_X12_tray  (a1 : Int32) (a2 : Int32) (a3 : Int32) (st : fSt) {s0 : fSt}  (h : kF (fun c => c ≠ 12) s0 st) : kpO (fun c => c ≠ 12) s0 (f_X12_tray a1 a2 a3 st) := by
  unfold f_X12_tray
  repeat' first
      | assumption
      | (refine kp_some ?_)
      | exact kp_none
      | (with_reducible refine kp_ite ?_ ?_)
      | (with_reducible refine kp_ix ?_)
      | (with_reducible refine kp_nz ?_)
      | (with_reducible refine kp_bo ?_)
      | (with_reducible refine kp_cp ?_)
      | (with_reducible refine kp_nn (fun _ => ?_))
      | (with_reducible refine kp_nu ?_ (fun _ => ?_))
      | (with_reducible refine kp_bd ?_ (fun _ _ _ => ?_))
      | (with_reducible refine kp_lts ?_ (fun _ _ => ?_))
      | (with_reducible refine kp_ltv (fun _ => ?_))
      | (with_reducible refine kp_j0 (fun _ _ => ?_) (fun _ _ => ?_))
      | (with_reducible refine kp_j1 (fun _ _ _ => ?_) (fun _ _ => ?_))
      | (with_reducible refine kp_j2 (fun _ _ _ _ => ?_) (fun _ _ => ?_))
      | (with_reducible refine kF_I (by first | assumption | decide) ?_)
      | (with_reducible refine kF_L (by first | assumption | decide) ?_)
      | (with_reducible refine kF_A (by first | assumption | decide) ?_)
      | (with_reducible refine kF_B (by first | assumption | decide) ?_)
      | (with_reducible refine kF_P (by first | assumption | decide) ?_)
      | (with_reducible apply kp_X12_no)
      | (with_reducible apply kp_X12_tray_L74)
      | (show ¬ _; decide)
      | decide
      | solve_by_elim (maxDepth := 4)

theorem kp_X12_unseen_L23   {s0 : fSt}  : ∀ (n : Nat) (z0 : Int32) (z1 : Int32) (s : fSt), kF (fun c => c ≠ 12) s0 s → kpO (fun c => c ≠ 12) s0 (f_X12_unseen_L23  n z0 z1 s) := by
  intro n
  induction n with
  | zero => intro z0 z1 s _; unfold f_X12_unseen_L23; exact kp_none
  | succ n ih =>
    intro z0 z1 s h
    unfold f_X12_unseen_L23
    repeat' first
        | assumption
        | (refine kp_some ?_)
        | exact kp_none
        | (with_reducible refine kp_ite ?_ ?_)
        | (with_reducible refine kp_ix ?_)
        | (with_reducible refine kp_nz ?_)
        | (with_reducible refine kp_bo ?_)
        | (with_reducible refine kp_cp ?_)
        | (with_reducible refine kp_nn (fun _ => ?_))
        | (with_reducible refine kp_nu ?_ (fun _ => ?_))
        | (with_reducible refine kp_bd ?_ (fun _ _ _ => ?_))
        | (with_reducible refine kp_lts ?_ (fun _ _ => ?_))
        | (with_reducible refine kp_ltv (fun _ => ?_))
        | (with_reducible refine kp_j0 (fun _ _ => ?_) (fun _ _ => ?_))
        | (with_reducible refine kp_j1 (fun _ _ _ => ?_) (fun _ _ => ?_))
        | (with_reducible refine kp_j2 (fun _ _ _ _ => ?_) (fun _ _ => ?_))
        | (with_reducible refine kF_I (by first | assumption | decide) ?_)
        | (with_reducible refine kF_L (by first | assumption | decide) ?_)
        | (with_reducible refine kF_A (by first | assumption | decide) ?_)
        | (with_reducible refine kF_B (by first | assumption | decide) ?_)
        | (with_reducible refine kF_P (by first | assumption | decide) ?_)
        | (show ¬ _; decide)
        | decide
        | (apply ih; assumption)
        | solve_by_elim (maxDepth := 4)

theorem kp_X12_unseen  (st : fSt) {s0 : fSt}  (h : kF (fun c => c ≠ 12) s0 st) : kpO (fun c => c ≠ 12) s0 (f_X12_unseen st) := by
  unfold f_X12_unseen
  repeat' first
      | assumption
      | (refine kp_some ?_)
      | exact kp_none
      | (with_reducible refine kp_ite ?_ ?_)
      | (with_reducible refine kp_ix ?_)
      | (with_reducible refine kp_nz ?_)
      | (with_reducible refine kp_bo ?_)
      | (with_reducible refine kp_cp ?_)
      | (with_reducible refine kp_nn (fun _ => ?_))
      | (with_reducible refine kp_nu ?_ (fun _ => ?_))
      | (with_reducible refine kp_bd ?_ (fun _ _ _ => ?_))
      | (with_reducible refine kp_lts ?_ (fun _ _ => ?_))
      | (with_reducible refine kp_ltv (fun _ => ?_))
      | (with_reducible refine kp_j0 (fun _ _ => ?_) (fun _ _ => ?_))
      | (with_reducible refine kp_j1 (fun _ _ _ => ?_) (fun _ _ => ?_))
      | (with_reducible refine kp_j2 (fun _ _ _ _ => ?_) (fun _ _ => ?_))
      | (with_reducible refine kF_I (by first | assumption | decide) ?_)
      | (with_reducible refine kF_L (by first | assumption | decide) ?_)
      | (with_reducible refine kF_A (by first | assumption | decide) ?_)
      | (with_reducible refine kF_B (by first | assumption | decide) ?_)
      | (with_reducible refine kF_P (by first | assumption | decide) ?_)
      | (with_reducible apply kp_X12_unseen_L23)
      | (show ¬ _; decide)
      | decide
      | solve_by_elim (maxDepth := 4)

theorem kp_X12_ways  (st : fSt) {s0 : fSt}  (h : kF (fun c => c ≠ 12) s0 st) : kpO (fun c => c ≠ 12) s0 (f_X12_ways st) := by
  unfold f_X12_ways
  repeat' first
      | assumption
      | (refine kp_some ?_)
      | exact kp_none
      | (with_reducible refine kp_ite ?_ ?_)
      | (with_reducible refine kp_ix ?_)
      | (with_reducible refine kp_nz ?_)
      | (with_reducible refine kp_bo ?_)
      | (with_reducible refine kp_cp ?_)
      | (with_reducible refine kp_nn (fun _ => ?_))
      | (with_reducible refine kp_nu ?_ (fun _ => ?_))
      | (with_reducible refine kp_bd ?_ (fun _ _ _ => ?_))
      | (with_reducible refine kp_lts ?_ (fun _ _ => ?_))
      | (with_reducible refine kp_ltv (fun _ => ?_))
      | (with_reducible refine kp_j0 (fun _ _ => ?_) (fun _ _ => ?_))
      | (with_reducible refine kp_j1 (fun _ _ _ => ?_) (fun _ _ => ?_))
      | (with_reducible refine kp_j2 (fun _ _ _ _ => ?_) (fun _ _ => ?_))
      | (with_reducible refine kF_I (by first | assumption | decide) ?_)
      | (with_reducible refine kF_L (by first | assumption | decide) ?_)
      | (with_reducible refine kF_A (by first | assumption | decide) ?_)
      | (with_reducible refine kF_B (by first | assumption | decide) ?_)
      | (with_reducible refine kF_P (by first | assumption | decide) ?_)
      | (with_reducible apply kp_X12_isDark)
      | (with_reducible apply kp_X12_goAll)
      | (with_reducible apply kp_X12_refuse)
      | (show ¬ _; decide)
      | decide
      | solve_by_elim (maxDepth := 4)

theorem kp_X12_week_L82   {s0 : fSt}  : ∀ (n : Nat) (z0 : Int32) (s : fSt), kF (fun c => c ≠ 12) s0 s → kpO (fun c => c ≠ 12) s0 (f_X12_week_L82  n z0 s) := by
  intro n
  induction n with
  | zero => intro z0 s _; unfold f_X12_week_L82; exact kp_none
  | succ n ih =>
    intro z0 s h
    unfold f_X12_week_L82
    repeat' first
        | assumption
        | (refine kp_some ?_)
        | exact kp_none
        | (with_reducible refine kp_ite ?_ ?_)
        | (with_reducible refine kp_ix ?_)
        | (with_reducible refine kp_nz ?_)
        | (with_reducible refine kp_bo ?_)
        | (with_reducible refine kp_cp ?_)
        | (with_reducible refine kp_nn (fun _ => ?_))
        | (with_reducible refine kp_nu ?_ (fun _ => ?_))
        | (with_reducible refine kp_bd ?_ (fun _ _ _ => ?_))
        | (with_reducible refine kp_lts ?_ (fun _ _ => ?_))
        | (with_reducible refine kp_ltv (fun _ => ?_))
        | (with_reducible refine kp_j0 (fun _ _ => ?_) (fun _ _ => ?_))
        | (with_reducible refine kp_j1 (fun _ _ _ => ?_) (fun _ _ => ?_))
        | (with_reducible refine kp_j2 (fun _ _ _ _ => ?_) (fun _ _ => ?_))
        | (with_reducible refine kF_I (by first | assumption | decide) ?_)
        | (with_reducible refine kF_L (by first | assumption | decide) ?_)
        | (with_reducible refine kF_A (by first | assumption | decide) ?_)
        | (with_reducible refine kF_B (by first | assumption | decide) ?_)
        | (with_reducible refine kF_P (by first | assumption | decide) ?_)
        | (show ¬ _; decide)
        | decide
        | (apply ih; assumption)
        | solve_by_elim (maxDepth := 4)

theorem kp_X12_week_L28  (k7 : fSt → Option (Int32 × fSt)) {s0 : fSt} (hk7 : ∀ (s : fSt), kF (fun c => c ≠ 12) s0 s → kpO (fun c => c ≠ 12) s0 (k7 s)) : ∀ (n : Nat)  (s : fSt), kF (fun c => c ≠ 12) s0 s → kpO (fun c => c ≠ 12) s0 (f_X12_week_L28 k7 n  s) := by
  intro n
  induction n with
  | zero => intro  s _; unfold f_X12_week_L28; exact kp_none
  | succ n ih =>
    intro  s h
    unfold f_X12_week_L28
    repeat' first
        | assumption
        | (refine kp_some ?_)
        | exact kp_none
        | (with_reducible refine kp_ite ?_ ?_)
        | (with_reducible refine kp_ix ?_)
        | (with_reducible refine kp_nz ?_)
        | (with_reducible refine kp_bo ?_)
        | (with_reducible refine kp_cp ?_)
        | (with_reducible refine kp_nn (fun _ => ?_))
        | (with_reducible refine kp_nu ?_ (fun _ => ?_))
        | (with_reducible refine kp_bd ?_ (fun _ _ _ => ?_))
        | (with_reducible refine kp_lts ?_ (fun _ _ => ?_))
        | (with_reducible refine kp_ltv (fun _ => ?_))
        | (with_reducible refine kp_j0 (fun _ _ => ?_) (fun _ _ => ?_))
        | (with_reducible refine kp_j1 (fun _ _ _ => ?_) (fun _ _ => ?_))
        | (with_reducible refine kp_j2 (fun _ _ _ _ => ?_) (fun _ _ => ?_))
        | (with_reducible refine kF_I (by first | assumption | decide) ?_)
        | (with_reducible refine kF_L (by first | assumption | decide) ?_)
        | (with_reducible refine kF_A (by first | assumption | decide) ?_)
        | (with_reducible refine kF_B (by first | assumption | decide) ?_)
        | (with_reducible refine kF_P (by first | assumption | decide) ?_)
        | (with_reducible apply kp_X12_readStep)
        | (show ¬ _; decide)
        | decide
        | (apply ih; assumption)
        | solve_by_elim (maxDepth := 4)

theorem kp_X12_week  (a1 : Int32) (st : fSt) {s0 : fSt}  (h : kF (fun c => c ≠ 12) s0 st) : kpO (fun c => c ≠ 12) s0 (f_X12_week a1 st) := by
  unfold f_X12_week
  repeat' first
      | assumption
      | (refine kp_some ?_)
      | exact kp_none
      | (with_reducible refine kp_ite ?_ ?_)
      | (with_reducible refine kp_ix ?_)
      | (with_reducible refine kp_nz ?_)
      | (with_reducible refine kp_bo ?_)
      | (with_reducible refine kp_cp ?_)
      | (with_reducible refine kp_nn (fun _ => ?_))
      | (with_reducible refine kp_nu ?_ (fun _ => ?_))
      | (with_reducible refine kp_bd ?_ (fun _ _ _ => ?_))
      | (with_reducible refine kp_lts ?_ (fun _ _ => ?_))
      | (with_reducible refine kp_ltv (fun _ => ?_))
      | (with_reducible refine kp_j0 (fun _ _ => ?_) (fun _ _ => ?_))
      | (with_reducible refine kp_j1 (fun _ _ _ => ?_) (fun _ _ => ?_))
      | (with_reducible refine kp_j2 (fun _ _ _ _ => ?_) (fun _ _ => ?_))
      | (with_reducible refine kF_I (by first | assumption | decide) ?_)
      | (with_reducible refine kF_L (by first | assumption | decide) ?_)
      | (with_reducible refine kF_A (by first | assumption | decide) ?_)
      | (with_reducible refine kF_B (by first | assumption | decide) ?_)
      | (with_reducible refine kF_P (by first | assumption | decide) ?_)
      | (with_reducible apply kp_X12_opens)
      | (with_reducible apply kp_X12_isWell)
      | (with_reducible apply kp_X12_week_L82)
      | (with_reducible apply kp_X12_week_L28)
      | (show ¬ _; decide)
      | decide
      | solve_by_elim (maxDepth := 4)

theorem kp_X12_who  (a1 : Int32) (a2 : Int32) (st : fSt) {s0 : fSt}  (h : kF (fun c => c ≠ 12) s0 st) : kpO (fun c => c ≠ 12) s0 (f_X12_who a1 a2 st) := by
  unfold f_X12_who
  repeat' first
      | assumption
      | (refine kp_some ?_)
      | exact kp_none
      | (with_reducible refine kp_ite ?_ ?_)
      | (with_reducible refine kp_ix ?_)
      | (with_reducible refine kp_nz ?_)
      | (with_reducible refine kp_bo ?_)
      | (with_reducible refine kp_cp ?_)
      | (with_reducible refine kp_nn (fun _ => ?_))
      | (with_reducible refine kp_nu ?_ (fun _ => ?_))
      | (with_reducible refine kp_bd ?_ (fun _ _ _ => ?_))
      | (with_reducible refine kp_lts ?_ (fun _ _ => ?_))
      | (with_reducible refine kp_ltv (fun _ => ?_))
      | (with_reducible refine kp_j0 (fun _ _ => ?_) (fun _ _ => ?_))
      | (with_reducible refine kp_j1 (fun _ _ _ => ?_) (fun _ _ => ?_))
      | (with_reducible refine kp_j2 (fun _ _ _ _ => ?_) (fun _ _ => ?_))
      | (with_reducible refine kF_I (by first | assumption | decide) ?_)
      | (with_reducible refine kF_L (by first | assumption | decide) ?_)
      | (with_reducible refine kF_A (by first | assumption | decide) ?_)
      | (with_reducible refine kF_B (by first | assumption | decide) ?_)
      | (with_reducible refine kF_P (by first | assumption | decide) ?_)
      | (with_reducible apply kp_X12_isKindAt)
      | (with_reducible apply kp_X12_isIn)
      | (with_reducible apply kp_X12_sums)
      | (with_reducible apply kp_X12_fraction)
      | (with_reducible apply kp_X12_no)
      | (show ¬ _; decide)
      | decide
      | solve_by_elim (maxDepth := 4)

theorem kp_X12_write  (a1 : Int32) (a2 : Int32) (a3 : Int64) (st : fSt) {s0 : fSt}  (h : kF (fun c => c ≠ 12) s0 st) : kpO (fun c => c ≠ 12) s0 (f_X12_write a1 a2 a3 st) := by
  unfold f_X12_write
  repeat' first
      | assumption
      | (refine kp_some ?_)
      | exact kp_none
      | (with_reducible refine kp_ite ?_ ?_)
      | (with_reducible refine kp_ix ?_)
      | (with_reducible refine kp_nz ?_)
      | (with_reducible refine kp_bo ?_)
      | (with_reducible refine kp_cp ?_)
      | (with_reducible refine kp_nn (fun _ => ?_))
      | (with_reducible refine kp_nu ?_ (fun _ => ?_))
      | (with_reducible refine kp_bd ?_ (fun _ _ _ => ?_))
      | (with_reducible refine kp_lts ?_ (fun _ _ => ?_))
      | (with_reducible refine kp_ltv (fun _ => ?_))
      | (with_reducible refine kp_j0 (fun _ _ => ?_) (fun _ _ => ?_))
      | (with_reducible refine kp_j1 (fun _ _ _ => ?_) (fun _ _ => ?_))
      | (with_reducible refine kp_j2 (fun _ _ _ _ => ?_) (fun _ _ => ?_))
      | (with_reducible refine kF_I (by first | assumption | decide) ?_)
      | (with_reducible refine kF_L (by first | assumption | decide) ?_)
      | (with_reducible refine kF_A (by first | assumption | decide) ?_)
      | (with_reducible refine kF_B (by first | assumption | decide) ?_)
      | (with_reducible refine kF_P (by first | assumption | decide) ?_)
      | (with_reducible apply kp_X12_placed)
      | (with_reducible apply kp_X12_cut)
      | (show ¬ _; decide)
      | decide
      | solve_by_elim (maxDepth := 4)

theorem kp_X11_stage_1  (a1 : Int32) (kn : fSt → Option (Int32 × fSt)) (st : fSt) {s0 : fSt} (hkn : ∀ (s : fSt), kF (fun c => c = 12) s0 s → kpO (fun c => c = 12) s0 (kn s)) (h : kF (fun c => c = 12) s0 st) : kpO (fun c => c = 12) s0 (f_X11_stage_1 a1 kn st) := by
  unfold f_X11_stage_1
  repeat' first
      | assumption
      | (refine kp_some ?_)
      | exact kp_none
      | (with_reducible refine kp_ite ?_ ?_)
      | (with_reducible refine kp_ix ?_)
      | (with_reducible refine kp_nz ?_)
      | (with_reducible refine kp_bo ?_)
      | (with_reducible refine kp_cp ?_)
      | (with_reducible refine kp_nn (fun _ => ?_))
      | (with_reducible refine kp_nu ?_ (fun _ => ?_))
      | (with_reducible refine kp_bd ?_ (fun _ _ _ => ?_))
      | (with_reducible refine kp_lts ?_ (fun _ _ => ?_))
      | (with_reducible refine kp_ltv (fun _ => ?_))
      | (with_reducible refine kp_j0 (fun _ _ => ?_) (fun _ _ => ?_))
      | (with_reducible refine kp_j1 (fun _ _ _ => ?_) (fun _ _ => ?_))
      | (with_reducible refine kp_j2 (fun _ _ _ _ => ?_) (fun _ _ => ?_))
      | (with_reducible refine kF_I (by first | assumption | decide) ?_)
      | (with_reducible refine kF_L (by first | assumption | decide) ?_)
      | (with_reducible refine kF_A (by first | assumption | decide) ?_)
      | (with_reducible refine kF_B (by first | assumption | decide) ?_)
      | (with_reducible refine kF_P (by first | assumption | decide) ?_)
      | (with_reducible apply kp_X11_isIn)
      | (with_reducible apply kp_X5_start)
      | (with_reducible apply kp_X11_fail)
      | (show ¬ _; decide)
      | decide
      | solve_by_elim (maxDepth := 4)

theorem kp_X11_stage_2  (n0 : Nat) (st : fSt) {s0 : fSt}  (h : kF (fun c => c = 12) s0 st) : kpO (fun c => c = 12) s0 (f_X11_stage_2 n0 st) := by
  unfold f_X11_stage_2
  repeat' first
      | assumption
      | (refine kp_some ?_)
      | exact kp_none
      | (with_reducible refine kp_ite ?_ ?_)
      | (with_reducible refine kp_ix ?_)
      | (with_reducible refine kp_nz ?_)
      | (with_reducible refine kp_bo ?_)
      | (with_reducible refine kp_cp ?_)
      | (with_reducible refine kp_nn (fun _ => ?_))
      | (with_reducible refine kp_nu ?_ (fun _ => ?_))
      | (with_reducible refine kp_bd ?_ (fun _ _ _ => ?_))
      | (with_reducible refine kp_lts ?_ (fun _ _ => ?_))
      | (with_reducible refine kp_ltv (fun _ => ?_))
      | (with_reducible refine kp_j0 (fun _ _ => ?_) (fun _ _ => ?_))
      | (with_reducible refine kp_j1 (fun _ _ _ => ?_) (fun _ _ => ?_))
      | (with_reducible refine kp_j2 (fun _ _ _ _ => ?_) (fun _ _ => ?_))
      | (with_reducible refine kF_I (by first | assumption | decide) ?_)
      | (with_reducible refine kF_L (by first | assumption | decide) ?_)
      | (with_reducible refine kF_A (by first | assumption | decide) ?_)
      | (with_reducible refine kF_B (by first | assumption | decide) ?_)
      | (with_reducible refine kF_P (by first | assumption | decide) ?_)
      | (with_reducible apply kp_X7_readFrom)
      | (with_reducible apply kp_X11_keepFault)
      | (with_reducible apply kp_X2_raise)
      | (with_reducible apply kp_X11_answer)
      | (with_reducible apply kp_X11_fail)
      | (show ¬ _; decide)
      | decide
      | solve_by_elim (maxDepth := 4)

theorem kp_X11_week_1  (a1 : Int32) (kn : fSt → Option (Int32 × fSt)) (st : fSt) {s0 : fSt} (hkn : ∀ (s : fSt), kF (fun c => c = 12) s0 s → kpO (fun c => c = 12) s0 (kn s)) (h : kF (fun c => c = 12) s0 st) : kpO (fun c => c = 12) s0 (f_X11_week_1 a1 kn st) := by
  unfold f_X11_week_1
  repeat' first
      | assumption
      | (refine kp_some ?_)
      | exact kp_none
      | (with_reducible refine kp_ite ?_ ?_)
      | (with_reducible refine kp_ix ?_)
      | (with_reducible refine kp_nz ?_)
      | (with_reducible refine kp_bo ?_)
      | (with_reducible refine kp_cp ?_)
      | (with_reducible refine kp_nn (fun _ => ?_))
      | (with_reducible refine kp_nu ?_ (fun _ => ?_))
      | (with_reducible refine kp_bd ?_ (fun _ _ _ => ?_))
      | (with_reducible refine kp_lts ?_ (fun _ _ => ?_))
      | (with_reducible refine kp_ltv (fun _ => ?_))
      | (with_reducible refine kp_j0 (fun _ _ => ?_) (fun _ _ => ?_))
      | (with_reducible refine kp_j1 (fun _ _ _ => ?_) (fun _ _ => ?_))
      | (with_reducible refine kp_j2 (fun _ _ _ _ => ?_) (fun _ _ => ?_))
      | (with_reducible refine kF_I (by first | assumption | decide) ?_)
      | (with_reducible refine kF_L (by first | assumption | decide) ?_)
      | (with_reducible refine kF_A (by first | assumption | decide) ?_)
      | (with_reducible refine kF_B (by first | assumption | decide) ?_)
      | (with_reducible refine kF_P (by first | assumption | decide) ?_)
      | (with_reducible apply kp_X11_isIn)
      | (with_reducible apply kp_X5_start)
      | (with_reducible apply kp_X11_fail)
      | (show ¬ _; decide)
      | decide
      | solve_by_elim (maxDepth := 4)

theorem kp_X11_week_2  (n0 : Nat) (st : fSt) {s0 : fSt}  (h : kF (fun c => c = 12) s0 st) : kpO (fun c => c = 12) s0 (f_X11_week_2 n0 st) := by
  unfold f_X11_week_2
  repeat' first
      | assumption
      | (refine kp_some ?_)
      | exact kp_none
      | (with_reducible refine kp_ite ?_ ?_)
      | (with_reducible refine kp_ix ?_)
      | (with_reducible refine kp_nz ?_)
      | (with_reducible refine kp_bo ?_)
      | (with_reducible refine kp_cp ?_)
      | (with_reducible refine kp_nn (fun _ => ?_))
      | (with_reducible refine kp_nu ?_ (fun _ => ?_))
      | (with_reducible refine kp_bd ?_ (fun _ _ _ => ?_))
      | (with_reducible refine kp_lts ?_ (fun _ _ => ?_))
      | (with_reducible refine kp_ltv (fun _ => ?_))
      | (with_reducible refine kp_j0 (fun _ _ => ?_) (fun _ _ => ?_))
      | (with_reducible refine kp_j1 (fun _ _ _ => ?_) (fun _ _ => ?_))
      | (with_reducible refine kp_j2 (fun _ _ _ _ => ?_) (fun _ _ => ?_))
      | (with_reducible refine kF_I (by first | assumption | decide) ?_)
      | (with_reducible refine kF_L (by first | assumption | decide) ?_)
      | (with_reducible refine kF_A (by first | assumption | decide) ?_)
      | (with_reducible refine kF_B (by first | assumption | decide) ?_)
      | (with_reducible refine kF_P (by first | assumption | decide) ?_)
      | (with_reducible apply kp_X9_readFrom)
      | (with_reducible apply kp_X11_keepFault)
      | (with_reducible apply kp_X11_answer)
      | (with_reducible apply kp_X11_fail)
      | (show ¬ _; decide)
      | decide
      | solve_by_elim (maxDepth := 4)

