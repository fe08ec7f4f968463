/-! SIM: what the law owes of the pure side -/
theorem kF_new {d n0 : Nat} {s0 s : fSt} (hd : d ≠ 12) (h : kF (fun c => c = 12) s0 s) : kF (fun c => c = 12) s0 (fNewO d n0 s) := by
  intro c hc i k
  have hc : c = 12 := hc
  obtain ⟨h1, h2, h3, h4, h5⟩ := h c hc i k
  have hne : ¬ (c = d ∧ i = n0) := by omega
  exact ⟨(fNewO_I hne).trans h1, (fNewO_L hne).trans h2, (fNewO_A hne).trans h3, (fNewO_B hne).trans h4, h5⟩
theorem kp_X11_stage (n0 : Nat) (a1 : Int32) (st : fSt) {s0 : fSt} (h : kF (fun c => c = 12) s0 st) : kpO (fun c => c = 12) s0 (f_X11_stage n0 a1 st) := by
  unfold f_X11_stage
  exact kp_X11_stage_1 a1 _ st (fun s hs => kp_X11_stage_2 n0 _ (kF_new (by omega) hs)) h
theorem kp_X11_week (n0 : Nat) (a1 : Int32) (st : fSt) {s0 : fSt} (h : kF (fun c => c = 12) s0 st) : kpO (fun c => c = 12) s0 (f_X11_week n0 a1 st) := by
  unfold f_X11_week
  exact kp_X11_week_1 a1 _ st (fun s hs => kp_X11_week_2 n0 _ (kF_new (by omega) hs)) h
theorem call_simP {α : Type} {x m : fSt → Option (α × fSt)} (hx : ∀ st, kpO (fun c => c = 12) st (x st)) (hm : ∀ st, kpO (fun c => c ≠ 12) st (m st)) (st : fSt) (hR : RS st) (h : ∀ sm, RR st sm → ∃ r sc' sm', x st = some (r, sc') ∧ m sm = some (r, sm') ∧ RR sc' sm') : ∃ r s1 s2, x st = some (r, s1) ∧ m s1 = some (r, s2) ∧ RS s2 := by
  obtain ⟨r, s1, _, e1, _, _⟩ := h st hR
  have k1 := hx st r s1 e1
  obtain ⟨r', s1', s2, e1', e2, H⟩ := h s1 (RR_c (kF_rf st) k1 hR)
  rw [e1] at e1'
  cases e1'
  exact ⟨r, s1, s2, e1, e2, RR_c (hm s1 r s2 e2) (kF_rf s2) H⟩
theorem sim_0 : SIM_0 RS := fun st hR => call_sim (x := f_X11_status) (m := f_X12_status) (fun st => kp_X11_status st (kF_rf st)) (fun st => kp_X12_status st (kF_rf st)) call_status st hR
theorem sim_1 : SIM_1 RS := fun st hR => call_sim (x := f_X11_top) (m := f_X12_top) (fun st => kp_X11_top st (kF_rf st)) (fun st => kp_X12_top st (kF_rf st)) call_top st hR
theorem sim_2 : SIM_2 RS := fun st hR => call_sim (x := f_X11_bottom) (m := f_X12_bottom) (fun st => kp_X11_bottom st (kF_rf st)) (fun st => kp_X12_bottom st (kF_rf st)) call_bottom st hR
theorem sim_3 : SIM_3 RS := fun a1 a2 a3 st hR => call_sim (x := f_X11_tray a1 a2 a3) (m := f_X12_tray a1 a2 a3) (fun st => kp_X11_tray a1 a2 a3 st (kF_rf st)) (fun st => kp_X12_tray a1 a2 a3 st (kF_rf st)) (call_tray a1 a2 a3) st hR
theorem sim_4 : SIM_4 RS := fun a1 a2 a3 st hR => call_sim (x := f_X11_write a1 a2 a3) (m := f_X12_write a1 a2 a3) (fun st => kp_X11_write a1 a2 a3 st (kF_rf st)) (fun st => kp_X12_write a1 a2 a3 st (kF_rf st)) (call_write a1 a2 a3) st hR
theorem sim_5 : SIM_5 RS := fun a1 a2 st hR => call_sim (x := f_X11_read a1 a2) (m := f_X12_read a1 a2) (fun st => kp_X11_read a1 a2 st (kF_rf st)) (fun st => kp_X12_read a1 a2 st (kF_rf st)) (call_read a1 a2) st hR
theorem sim_6 : SIM_6 RS := fun a1 a2 a3 a4 a5 st hR => call_sim (x := f_X11_pour a1 a2 a3 a4 a5) (m := f_X12_pour a1 a2 a3 a4 a5) (fun st => kp_X11_pour a1 a2 a3 a4 a5 st (kF_rf st)) (fun st => kp_X12_pour a1 a2 a3 a4 a5 st (kF_rf st)) (call_pour a1 a2 a3 a4 a5) st hR
theorem sim_7 : SIM_7 RS := fun a1 a2 a3 a4 a5 st hR => call_sim (x := f_X11_feed a1 a2 a3 a4 a5) (m := f_X12_feed a1 a2 a3 a4 a5) (fun st => kp_X11_feed a1 a2 a3 a4 a5 st (kF_rf st)) (fun st => kp_X12_feed a1 a2 a3 a4 a5 st (kF_rf st)) (call_feed a1 a2 a3 a4 a5) st hR
theorem sim_8 : SIM_8 RS := fun n0 a1 st hR hp => call_simP (x := f_X11_stage n0 a1) (m := f_X12_stage a1) (fun st => kp_X11_stage n0 a1 st (kF_rf st)) (fun st => kp_X12_stage a1 st (kF_rf st)) st hR (fun sm h => call_stage a1 n0 st sm h hp)
theorem sim_9 : SIM_9 RS := fun n0 a1 st hR hp => call_simP (x := f_X11_week n0 a1) (m := f_X12_week a1) (fun st => kp_X11_week n0 a1 st (kF_rf st)) (fun st => kp_X12_week a1 st (kF_rf st)) st hR (fun sm h => call_week a1 n0 st sm h hp)
theorem sim_10 : SIM_10 RS := fun a1 st hR => call_sim (x := f_X11_fault a1) (m := f_X12_fault a1) (fun st => kp_X11_fault a1 st (kF_rf st)) (fun st => kp_X12_fault a1 st (kF_rf st)) (call_fault a1) st hR
theorem sim_11 : SIM_11 RS := fun a1 st hR => call_sim (x := f_X11_many a1) (m := f_X12_many a1) (fun st => kp_X11_many a1 st (kF_rf st)) (fun st => kp_X12_many a1 st (kF_rf st)) (call_many a1) st hR
theorem sim_12 : SIM_12 RS := fun a1 a2 st hR => call_sim (x := f_X11_scene a1 a2) (m := f_X12_scene a1 a2) (fun st => kp_X11_scene a1 a2 st (kF_rf st)) (fun st => kp_X12_scene a1 a2 st (kF_rf st)) (call_scene a1 a2) st hR
theorem sim_13 : SIM_13 RS := fun a1 a2 st hR => call_sim (x := f_X11_kind a1 a2) (m := f_X12_kind a1 a2) (fun st => kp_X11_kind a1 a2 st (kF_rf st)) (fun st => kp_X12_kind a1 a2 st (kF_rf st)) (call_kind a1 a2) st hR
theorem sim_14 : SIM_14 RS := fun a1 a2 st hR => call_sim (x := f_X11_actor a1 a2) (m := f_X12_actor a1 a2) (fun st => kp_X11_actor a1 a2 st (kF_rf st)) (fun st => kp_X12_actor a1 a2 st (kF_rf st)) (call_actor a1 a2) st hR
theorem sim_15 : SIM_15 RS := fun a1 a2 _ st hR => call_sim (x := f_X11_bar a1 a2) (m := f_X12_bar a1 a2) (fun st => kp_X11_bar a1 a2 st (kF_rf st)) (fun st => kp_X12_bar a1 a2 st (kF_rf st)) (call_bar a1 a2) st hR
theorem sim_16 : SIM_16 RS := fun a1 a2 _ st hR => call_sim (x := f_X11_kill a1 a2) (m := f_X12_kill a1 a2) (fun st => kp_X11_kill a1 a2 st (kF_rf st)) (fun st => kp_X12_kill a1 a2 st (kF_rf st)) (call_kill a1 a2) st hR
theorem sim_17 : SIM_17 RS := fun a1 a2 st hR => call_sim (x := f_X11_night a1 a2) (m := f_X12_night a1 a2) (fun st => kp_X11_night a1 a2 st (kF_rf st)) (fun st => kp_X12_night a1 a2 st (kF_rf st)) (call_night a1 a2) st hR
theorem sim_18 : SIM_18 RS := fun a1 st hR => call_sim (x := f_X11_lot a1) (m := f_X12_lot a1) (fun st => kp_X11_lot a1 st (kF_rf st)) (fun st => kp_X12_lot a1 st (kF_rf st)) (call_lot a1) st hR
theorem sim_19 : SIM_19 RS := fun a1 a2 st hR => call_sim (x := f_X11_book a1 a2) (m := f_X12_book a1 a2) (fun st => kp_X11_book a1 a2 st (kF_rf st)) (fun st => kp_X12_book a1 a2 st (kF_rf st)) (call_book a1 a2) st hR
theorem sim_20 : SIM_20 RS := fun st hR => call_sim (x := f_X11_unseen) (m := f_X12_unseen) (fun st => kp_X11_unseen st (kF_rf st)) (fun st => kp_X12_unseen st (kF_rf st)) call_unseen st hR
theorem sim_21 : SIM_21 RS := fun a1 st hR => call_sim (x := f_X11_led a1) (m := f_X12_led a1) (fun st => kp_X11_led a1 st (kF_rf st)) (fun st => kp_X12_led a1 st (kF_rf st)) (call_led a1) st hR
theorem sim_22 : SIM_22 RS := fun a1 st hR => call_sim (x := f_X11_heard a1) (m := f_X12_heard a1) (fun st => kp_X11_heard a1 st (kF_rf st)) (fun st => kp_X12_heard a1 st (kF_rf st)) (call_heard a1) st hR
theorem sim_23 : SIM_23 RS := fun a1 st hR => call_sim (x := f_X11_suspects a1) (m := f_X12_suspects a1) (fun st => kp_X11_suspects a1 st (kF_rf st)) (fun st => kp_X12_suspects a1 st (kF_rf st)) (call_suspects a1) st hR
theorem sim_24 : SIM_24 RS := fun a1 a2 st hR => call_sim (x := f_X11_odds a1 a2) (m := f_X12_odds a1 a2) (fun st => kp_X11_odds a1 a2 st (kF_rf st)) (fun st => kp_X12_odds a1 a2 st (kF_rf st)) (call_odds a1 a2) st hR
theorem sim_25 : SIM_25 RS := fun a1 a2 st hR => call_sim (x := f_X11_seen a1 a2) (m := f_X12_seen a1 a2) (fun st => kp_X11_seen a1 a2 st (kF_rf st)) (fun st => kp_X12_seen a1 a2 st (kF_rf st)) (call_seen a1 a2) st hR
theorem sim_26 : SIM_26 RS := fun a1 a2 st hR => call_sim (x := f_X11_who a1 a2) (m := f_X12_who a1 a2) (fun st => kp_X11_who a1 a2 st (kF_rf st)) (fun st => kp_X12_who a1 a2 st (kF_rf st)) (call_who a1 a2) st hR
theorem sim_27 : SIM_27 RS := fun a1 st hR => call_sim (x := f_X11_mean a1) (m := f_X12_mean a1) (fun st => kp_X11_mean a1 st (kF_rf st)) (fun st => kp_X12_mean a1 st (kF_rf st)) (call_mean a1) st hR
theorem sim_28 : SIM_28 RS := fun st hR => call_sim (x := f_X11_ways) (m := f_X12_ways) (fun st => kp_X11_ways st (kF_rf st)) (fun st => kp_X12_ways st (kF_rf st)) call_ways st hR
theorem sim_29 : SIM_29 RS := fun a1 st hR => call_sim (x := f_X11_length a1) (m := f_X12_length a1) (fun st => kp_X11_length a1 st (kF_rf st)) (fun st => kp_X12_length a1 st (kF_rf st)) (call_length a1) st hR
theorem sim_30 : SIM_30 RS := fun a1 st hR => call_sim (x := f_X11_can a1) (m := f_X12_can a1) (fun st => kp_X11_can a1 st (kF_rf st)) (fun st => kp_X12_can a1 st (kF_rf st)) (call_can a1) st hR
theorem sim_31 : SIM_31 RS := fun a1 st hR => call_sim (x := f_X11_by a1) (m := f_X12_by a1) (fun st => kp_X11_by a1 st (kF_rf st)) (fun st => kp_X12_by a1 st (kF_rf st)) (call_by a1) st hR
theorem sim_32 : SIM_32 RS := fun st hR => call_sim (x := f_X11_fewest) (m := f_X12_fewest) (fun st => kp_X11_fewest st (kF_rf st)) (fun st => kp_X12_fewest st (kF_rf st)) call_fewest st hR
theorem sim_33 : SIM_33 RS := fun a1 st hR => call_sim (x := f_X11_steer a1) (m := f_X12_steer a1) (fun st => kp_X11_steer a1 st (kF_rf st)) (fun st => kp_X12_steer a1 st (kF_rf st)) (call_steer a1) st hR
theorem sim_34 : SIM_34 RS := fun a1 st hR => call_sim (x := f_X11_steerAt a1) (m := f_X12_steerAt a1) (fun st => kp_X11_steerAt a1 st (kF_rf st)) (fun st => kp_X12_steerAt a1 st (kF_rf st)) (call_steerAt a1) st hR
theorem sim_35 : SIM_35 RS := fun a1 st hR => call_sim (x := f_X11_death a1) (m := f_X12_death a1) (fun st => kp_X11_death a1 st (kF_rf st)) (fun st => kp_X12_death a1 st (kF_rf st)) (call_death a1) st hR
theorem sim_36 : SIM_36 RS := fun a1 st hR => call_sim (x := f_X11_cast a1) (m := f_X12_cast a1) (fun st => kp_X11_cast a1 st (kF_rf st)) (fun st => kp_X12_cast a1 st (kF_rf st)) (call_cast a1) st hR
theorem sim_37 : SIM_37 RS := fun a1 st hR => call_sim (x := f_X11_castAt a1) (m := f_X12_castAt a1) (fun st => kp_X11_castAt a1 st (kF_rf st)) (fun st => kp_X12_castAt a1 st (kF_rf st)) (call_castAt a1) st hR
theorem sim_38 : SIM_38 RS := fun a1 a2 st hR => call_sim (x := f_X11_breaths a1 a2) (m := f_X12_breaths a1 a2) (fun st => kp_X11_breaths a1 a2 st (kF_rf st)) (fun st => kp_X12_breaths a1 a2 st (kF_rf st)) (call_breaths a1 a2) st hR
theorem sim_39 : SIM_39 RS := fun a1 st hR => call_sim (x := f_X11_run a1) (m := f_X12_run a1) (fun st => kp_X11_run a1 st (kF_rf st)) (fun st => kp_X12_run a1 st (kF_rf st)) (call_run a1) st hR
theorem sim_40 : SIM_40 RS := fun a1 st hR => call_sim (x := f_X11_ran a1) (m := f_X12_ran a1) (fun st => kp_X11_ran a1 st (kF_rf st)) (fun st => kp_X12_ran a1 st (kF_rf st)) (call_ran a1) st hR
theorem sim_41 : SIM_41 RS := fun a1 a2 a3 st hR => call_sim (x := f_X11_often a1 a2 a3) (m := f_X12_often a1 a2 a3) (fun st => kp_X11_often a1 a2 a3 st (kF_rf st)) (fun st => kp_X12_often a1 a2 a3 st (kF_rf st)) (call_often a1 a2 a3) st hR
theorem sim_42 : SIM_42 RS := fun st hR => call_sim (x := f_X11_mark) (m := f_X12_mark) (fun st => kp_X11_mark st (kF_rf st)) (fun st => kp_X12_mark st (kF_rf st)) call_mark st hR
theorem sim_43 : SIM_43 RS := fun st hR => call_sim (x := f_X11_back) (m := f_X12_back) (fun st => kp_X11_back st (kF_rf st)) (fun st => kp_X12_back st (kF_rf st)) call_back st hR
theorem sim_RS : SIM RS := ⟨sim_0, sim_1, sim_2, sim_3, sim_4, sim_5, sim_6, sim_7, sim_8, sim_9, sim_10, sim_11, sim_12, sim_13, sim_14, sim_15, sim_16, sim_17, sim_18, sim_19, sim_20, sim_21, sim_22, sim_23, sim_24, sim_25, sim_26, sim_27, sim_28, sim_29, sim_30, sim_31, sim_32, sim_33, sim_34, sim_35, sim_36, sim_37, sim_38, sim_39, sim_40, sim_41, sim_42, sim_43⟩
