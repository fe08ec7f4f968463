/-! layer 2: the state of a reading, words and signs -/
def psR (sc sm : fSt) (n : Nat) (c : Nat → Nat) (a p so : Nat) : Prop := tpe sc sm n c ∧ tok (gI sc 5 0) (gL sc 5 0 7) (gI sm 12 0) (gL sm 12 0 19) so ∧ (gI sc 5 0 4 = nI a ∧ gI sc 5 0 5 = nI p ∧ gI sm 12 0 15 = nI a ∧ gI sm 12 0 16 = nI p ∧ a ≤ p ∧ p ≤ n) ∧ (gI sm 12 0 12 = nI 0 ∧ gI sc 5 0 10 = nI 0 ∧ gI sc 5 0 11 = mI)
def flR (sc sm : fSt) (k a : Nat) : Prop := 1 ≤ k ∧ k ≤ 7 ∧ a ≤ 900 ∧ gI sm 12 0 12 = nI k ∧ gI sm 12 0 13 = nI a ∧ gI sc 5 0 10 = nI k ∧ gI sc 5 0 11 = nI a
/-- what reading leaves alone -/
def xFr (s t : fSt) : Prop := (∀ c j k, ¬ (c = 5 ∧ j = 0 ∧ 4 ≤ k) → gI t c j k = gI s c j k) ∧ (∀ c j k, ¬ (c = 5 ∧ j = 0 ∧ k = 7) → gL t c j k = gL s c j k) ∧ gA t = gA s ∧ gB t = gB s ∧ gP t = gP s
def yFr (s t : fSt) : Prop := (∀ c j k, ¬ (c = 12 ∧ j = 0 ∧ 12 ≤ k ∧ k < 19) → gI t c j k = gI s c j k) ∧ (∀ c j k, ¬ (c = 12 ∧ j = 0 ∧ k = 19) → gL t c j k = gL s c j k) ∧ gA t = gA s ∧ gB t = gB s ∧ gP t = gP s
theorem xFr_rf (s : fSt) : xFr s s := ⟨fun _ _ _ _ => rfl, fun _ _ _ _ => rfl, rfl, rfl, rfl⟩
theorem yFr_rf (s : fSt) : yFr s s := ⟨fun _ _ _ _ => rfl, fun _ _ _ _ => rfl, rfl, rfl, rfl⟩
theorem xFr_tr {s t u : fSt} (h : xFr s t) (g : xFr t u) : xFr s u := ⟨fun c j k hk => by rw [g.1 c j k hk, h.1 c j k hk], fun c j k hk => by rw [g.2.1 c j k hk, h.2.1 c j k hk], by rw [g.2.2.1, h.2.2.1], by rw [g.2.2.2.1, h.2.2.2.1], by rw [g.2.2.2.2, h.2.2.2.2]⟩
theorem yFr_tr {s t u : fSt} (h : yFr s t) (g : yFr t u) : yFr s u := ⟨fun c j k hk => by rw [g.1 c j k hk, h.1 c j k hk], fun c j k hk => by rw [g.2.1 c j k hk, h.2.1 c j k hk], by rw [g.2.2.1, h.2.2.1], by rw [g.2.2.2.1, h.2.2.2.1], by rw [g.2.2.2.2, h.2.2.2.2]⟩
theorem xFr_xT (s : fSt) (A : Nat → Int32) (nm : Int64) : xFr s (xT s A nm) := by
  refine ⟨fun c j k hk => xT_o _ _ _ (by omega), fun c j k hk => ?_, rfl, rfl, rfl⟩
  unfold xT
  rw [gL_sL, if_neg hk]
  rfl
theorem yFr_yT (s : fSt) (B : Nat → Int32) (wd : Int64) : yFr s (yT s B wd) := by
  refine ⟨fun c j k hk => yT_o _ _ _ (by omega), fun c j k hk => ?_, rfl, rfl, rfl⟩
  unfold yT
  rw [gL_sL, if_neg hk]
  rfl
theorem xFr_I {s t : fSt} {k : Nat} {v : Int32} (hk : 4 ≤ k) (h : xFr s t) : xFr s (sI t 5 0 k v) := by
  refine ⟨fun c j k' hk' => ?_, h.2.1, h.2.2.1, h.2.2.2.1, h.2.2.2.2⟩
  rw [gI_sI, if_neg (by omega), h.1 c j k' hk']
theorem yFr_I {s t : fSt} {k : Nat} {v : Int32} (hk : 12 ≤ k ∧ k < 19) (h : yFr s t) : yFr s (sI t 12 0 k v) := by
  refine ⟨fun c j k' hk' => ?_, h.2.1, h.2.2.1, h.2.2.2.1, h.2.2.2.2⟩
  rw [gI_sI, if_neg (by omega), h.1 c j k' hk']
theorem tok_e {A A' B B' : Nat → Int32} {nm nm' wd wd' : Int64} {so : Nat} (h : tok A nm B wd so) (hA : A' 6 = A 6 ∧ A' 8 = A 8) (hn : nm' = nm) (hB : B' 14 = B 14 ∧ B' 17 = B 17 ∧ B' 18 = B 18) (hw : wd' = wd) : tok A' nm' B' wd' so := by
  unfold tok at *
  rw [hA.1, hA.2, hn, hB.1, hB.2.1, hB.2.2, hw]
  exact h
theorem tpe_e {sc sc' sm sm' : fSt} {n : Nat} {c : Nat → Nat} (T : tpe sc sm n c) (h1 : gI sc' 5 0 3 = gI sc 5 0 3) (h2 : gI sm' 12 0 9 = gI sm 12 0 9) (h3 : gB sc' 5 0 2 = gB sc 5 0 2) (h4 : gA sc' 5 0 1 = gA sc 5 0 1) (h5 : gA sm' 12 0 4 = gA sm 12 0 4) : tpe sc' sm' n c := by
  unfold tpe at *
  rw [h1, h2, h3, h4, h5]
  exact T
section
variable {sc sm : fSt} {n : Nat} {c : Nat → Nat} {a p so : Nat}
theorem tok_35 (h : tok (gI sc 5 0) (gL sc 5 0 7) (gI sm 12 0) (gL sm 12 0 19) so) : so < 64 := by
  rcases h with ⟨h, -⟩ | ⟨h, -⟩ | ⟨h, -⟩ | ⟨h, -⟩ | ⟨h, -⟩ | ⟨h, -⟩ <;> omega
theorem ps_so (P : psR sc sm n c a p so) : gI sc 5 0 6 = nI so := by
  rcases P.2.1 with ⟨h, h2, -⟩ | ⟨h, h2, -⟩ | ⟨h, h2, -⟩ | ⟨h, h2, -⟩ | ⟨h, h2, -⟩ | ⟨h, h2, -⟩
  · rw [h]; exact h2
  · rw [h]; exact h2
  · rw [h]; exact h2
  · exact h2
  · rw [h]; exact h2
  · exact h2
theorem ps_adv (P : psR sc sm n c a p so) : ∃ sc' sm' a' p' so', f_X5_advance sc = some ((), sc') ∧ f_X12_next sm = some ((), sm') ∧ psR sc' sm' n c a' p' so' ∧ xFr sc sc' ∧ yFr sm sm' ∧ (p ≤ a' ∧ (¬ so' = 35 → p < p')) ∧ gI sc' 5 0 9 = gI sc 5 0 9 := by
  obtain ⟨T, -, ⟨q1, q2, q3, q4, q5, q6⟩, q7, q8, q9⟩ := P
  obtain ⟨A', nm', B', wd', a', p', so', e1, e2, ⟨g1, g2, g3⟩, ⟨g4, g5⟩, ⟨g6, g7⟩, g8, g9⟩ := adv T (A := gI sc 5 0) (B := gI sm 12 0) (nm := gL sc 5 0 7) (wd := gL sm 12 0 19) q6 q2 q4
  rw [← xT_0] at e1
  rw [← yT_0] at e2
  refine ⟨_, _, a', p', so', e1, e2, ⟨tpe_e T (xT_o _ _ _ (by omega)) (yT_o _ _ _ (by omega)) rfl rfl rfl, tok_e g8 ⟨xT_I _ _ _ (by omega), xT_I _ _ _ (by omega)⟩ rfl ⟨yT_I _ _ _ (by omega), yT_I _ _ _ (by omega), yT_I _ _ _ (by omega)⟩ rfl, ⟨by rw [xT_I _ _ _ (by omega)]; exact g4, by rw [xT_I _ _ _ (by omega)]; exact g5, by rw [yT_I _ _ _ (by omega)]; exact g6, by rw [yT_I _ _ _ (by omega)]; exact g7, g2, g3⟩, by rw [yT_o _ _ _ (by omega)]; exact q7, by rw [xT_o _ _ _ (by omega)]; exact q8, by rw [xT_o _ _ _ (by omega)]; exact q9⟩, xFr_xT _ _ _, yFr_yT _ _ _, ⟨g1, fun h => ?_⟩, xT_o _ _ _ (by omega)⟩
  have := g9 h
  omega
theorem lN_m1 {v : Nat} (h : v < 2 ^ 40) : ¬ (-1 : Int64) = lN v := by
  intro e
  have h1 : (lN v).toInt = v := pk_lT (by omega)
  rw [← e] at h1
  have h2 : (-1 : Int64).toInt = -1 := rfl
  omega
theorem ps_word (P : psR sc sm n c a p so) {k : Nat} (hk : k < 32) : f_X12_isWord (lN (cdW k)) sm = some (bI (decide (so = k)), sm) := by
  rw [m_isWord]
  have hck := cdW_lt k hk
  rcases P.2.1 with ⟨h, h2, h3⟩ | ⟨h, h2, h3⟩ | ⟨h, h2, h3, -⟩ | ⟨h, h2, h3, -⟩ | ⟨h, h2, h3, -, h4⟩ | ⟨h, h2, h3, -, v, h4, h5, h6, h7, h8⟩
  · rw [decide_eq_false (by rw [h3, i_eq _ _ (by omega) (by omega)]; omega), Bool.false_and, decide_eq_false (by omega)]
  · rw [decide_eq_false (by rw [h3, i_eq _ _ (by omega) (by omega)]; omega), Bool.false_and, decide_eq_false (by omega)]
  · rw [decide_eq_false (by rw [h3, i_eq _ _ (by omega) (by omega)]; omega), Bool.false_and, decide_eq_false (by omega)]
  · rw [decide_eq_false (by rw [h3, i_eq _ _ (by omega) (by omega)]; omega), Bool.false_and, decide_eq_false (by omega)]
  · rw [decide_eq_true h3, Bool.true_and, decide_eq_false (by rw [h4]; exact lN_m1 hck), decide_eq_false (by omega)]
  · have e : (gL sm 12 0 19 = lN (cdW k)) ↔ so = k := by
      rw [h6, l_eq _ _ (by omega) (by omega)]
      constructor
      · intro hv
        by_cases h32 : so < 32
        · exact cdW_inj so h32 k hk (by rw [← h7 h32]; exact hv)
        · exact absurd hv (h8 (by omega) k hk)
      · intro hv
        rw [← hv]
        exact h7 (by omega)
    rw [decide_eq_true h3, Bool.true_and]
    by_cases hs : so = k
    · rw [decide_eq_true (e.mpr hs), decide_eq_true hs]
    · rw [decide_eq_false (fun h => hs (e.mp h)), decide_eq_false hs]
theorem sp_0 : spw 114 111 108 101 0 0 = lN (cdW 0) := by decide
theorem sp_1 : spw 97 99 116 111 114 0 = lN (cdW 1) := by decide
theorem sp_2 : spw 112 97 121 0 0 0 = lN (cdW 2) := by decide
theorem sp_3 : spw 98 114 101 97 116 104 = lN (cdW 3) := by decide
theorem sp_4 : spw 110 111 116 0 0 0 = lN (cdW 4) := by decide
theorem sp_5 : spw 115 99 101 110 101 0 = lN (cdW 5) := by decide
theorem sp_6 : spw 108 105 110 101 115 0 = lN (cdW 6) := by decide
theorem sp_7 : spw 119 105 116 104 0 0 = lN (cdW 7) := by decide
theorem sp_8 : spw 101 110 100 115 0 0 = lN (cdW 8) := by decide
theorem sp_9 : spw 116 104 101 110 0 0 = lN (cdW 9) := by decide
theorem sp_10 : spw 116 101 97 114 0 0 = lN (cdW 10) := by decide
theorem sp_11 : spw 108 97 117 103 104 0 = lN (cdW 11) := by decide
theorem sp_12 : spw 115 108 101 101 112 0 = lN (cdW 12) := by decide
theorem sp_13 : spw 107 105 108 108 115 0 = lN (cdW 13) := by decide
theorem sp_14 : spw 107 105 110 100 0 0 = lN (cdW 14) := by decide
theorem sp_15 : spw 108 111 116 115 0 0 = lN (cdW 15) := by decide
theorem sp_16 : spw 116 101 97 114 115 0 = lN (cdW 16) := by decide
theorem sp_17 : spw 108 97 117 103 104 115 = lN (cdW 17) := by decide
theorem sp_18 : spw 115 108 101 101 112 115 = lN (cdW 18) := by decide
theorem sp_19 : spw 112 108 97 121 0 0 = lN (cdW 19) := by decide
theorem sp_20 : spw 98 97 114 0 0 0 = lN (cdW 20) := by decide
theorem sp_21 : spw 111 112 101 110 0 0 = lN (cdW 21) := by decide
theorem sp_22 : spw 98 117 121 0 0 0 = lN (cdW 22) := by decide
theorem sp_23 : spw 115 112 97 114 101 0 = lN (cdW 23) := by decide
theorem sp_24 : spw 119 104 101 110 0 0 = lN (cdW 24) := by decide
theorem sp_25 : spw 115 101 101 110 0 0 = lN (cdW 25) := by decide
theorem sp_26 : spw 100 101 97 100 0 0 = lN (cdW 26) := by decide
theorem sp_27 : spw 110 105 103 104 116 115 = lN (cdW 27) := by decide
theorem sp_28 : spw 101 110 100 101 100 0 = lN (cdW 28) := by decide
theorem sp_29 : spw 108 111 111 112 0 0 = lN (cdW 29) := by decide
theorem sp_30 : spw 101 110 100 0 0 0 = lN (cdW 30) := by decide
theorem sp_31 : spw 115 116 111 112 0 0 = lN (cdW 31) := by decide
theorem ps_role (P : psR sc sm n c a p so) : f_X12_isRole sm = some (bI (decide (so = 0)), sm) := by
  unfold f_X12_isRole
  rw [m_spelled, fBd_s, sp_0, ps_word P (by omega), fBd_s, fBo_b]
theorem ps_actor (P : psR sc sm n c a p so) : f_X12_isActor sm = some (bI (decide (so = 1)), sm) := by
  unfold f_X12_isActor
  rw [m_spelled, fBd_s, sp_1, ps_word P (by omega), fBd_s, fBo_b]
theorem ps_pay (P : psR sc sm n c a p so) : f_X12_isPay sm = some (bI (decide (so = 2)), sm) := by
  unfold f_X12_isPay
  rw [m_spelled, fBd_s, sp_2, ps_word P (by omega), fBd_s, fBo_b]
theorem ps_breath (P : psR sc sm n c a p so) : f_X12_isBreath sm = some (bI (decide (so = 3)), sm) := by
  unfold f_X12_isBreath
  rw [m_spelled, fBd_s, sp_3, ps_word P (by omega), fBd_s, fBo_b]
theorem ps_not (P : psR sc sm n c a p so) : f_X12_isNot sm = some (bI (decide (so = 4)), sm) := by
  unfold f_X12_isNot
  rw [m_spelled, fBd_s, sp_4, ps_word P (by omega), fBd_s, fBo_b]
theorem ps_scene (P : psR sc sm n c a p so) : f_X12_isScene sm = some (bI (decide (so = 5)), sm) := by
  unfold f_X12_isScene
  rw [m_spelled, fBd_s, sp_5, ps_word P (by omega), fBd_s, fBo_b]
theorem ps_lines (P : psR sc sm n c a p so) : f_X12_isLines sm = some (bI (decide (so = 6)), sm) := by
  unfold f_X12_isLines
  rw [m_spelled, fBd_s, sp_6, ps_word P (by omega), fBd_s, fBo_b]
theorem ps_with (P : psR sc sm n c a p so) : f_X12_isWith sm = some (bI (decide (so = 7)), sm) := by
  unfold f_X12_isWith
  rw [m_spelled, fBd_s, sp_7, ps_word P (by omega), fBd_s, fBo_b]
theorem ps_ends (P : psR sc sm n c a p so) : f_X12_isEnds sm = some (bI (decide (so = 8)), sm) := by
  unfold f_X12_isEnds
  rw [m_spelled, fBd_s, sp_8, ps_word P (by omega), fBd_s, fBo_b]
theorem ps_then (P : psR sc sm n c a p so) : f_X12_isThen sm = some (bI (decide (so = 9)), sm) := by
  unfold f_X12_isThen
  rw [m_spelled, fBd_s, sp_9, ps_word P (by omega), fBd_s, fBo_b]
theorem ps_tear (P : psR sc sm n c a p so) : f_X12_isTear sm = some (bI (decide (so = 10)), sm) := by
  unfold f_X12_isTear
  rw [m_spelled, fBd_s, sp_10, ps_word P (by omega), fBd_s, fBo_b]
theorem ps_laugh (P : psR sc sm n c a p so) : f_X12_isLaugh sm = some (bI (decide (so = 11)), sm) := by
  unfold f_X12_isLaugh
  rw [m_spelled, fBd_s, sp_11, ps_word P (by omega), fBd_s, fBo_b]
theorem ps_sleep (P : psR sc sm n c a p so) : f_X12_isSleep sm = some (bI (decide (so = 12)), sm) := by
  unfold f_X12_isSleep
  rw [m_spelled, fBd_s, sp_12, ps_word P (by omega), fBd_s, fBo_b]
theorem ps_kills (P : psR sc sm n c a p so) : f_X12_isKills sm = some (bI (decide (so = 13)), sm) := by
  unfold f_X12_isKills
  rw [m_spelled, fBd_s, sp_13, ps_word P (by omega), fBd_s, fBo_b]
theorem ps_kind (P : psR sc sm n c a p so) : f_X12_isKind sm = some (bI (decide (so = 14)), sm) := by
  unfold f_X12_isKind
  rw [m_spelled, fBd_s, sp_14, ps_word P (by omega), fBd_s, fBo_b]
theorem ps_lots (P : psR sc sm n c a p so) : f_X12_isLots sm = some (bI (decide (so = 15)), sm) := by
  unfold f_X12_isLots
  rw [m_spelled, fBd_s, sp_15, ps_word P (by omega), fBd_s, fBo_b]
theorem ps_tears (P : psR sc sm n c a p so) : f_X12_isTears sm = some (bI (decide (so = 16)), sm) := by
  unfold f_X12_isTears
  rw [m_spelled, fBd_s, sp_16, ps_word P (by omega), fBd_s, fBo_b]
theorem ps_laughs (P : psR sc sm n c a p so) : f_X12_isLaughs sm = some (bI (decide (so = 17)), sm) := by
  unfold f_X12_isLaughs
  rw [m_spelled, fBd_s, sp_17, ps_word P (by omega), fBd_s, fBo_b]
theorem ps_sleeps (P : psR sc sm n c a p so) : f_X12_isSleeps sm = some (bI (decide (so = 18)), sm) := by
  unfold f_X12_isSleeps
  rw [m_spelled, fBd_s, sp_18, ps_word P (by omega), fBd_s, fBo_b]
theorem ps_end (P : psR sc sm n c a p so) : f_X12_isEnd sm = some (bI (decide (so = 30)), sm) := by
  unfold f_X12_isEnd
  rw [m_spelled, fBd_s, sp_30, ps_word P (by omega), fBd_s, fBo_b]
def stW (so : Nat) : Nat := if so = 19 then 1 else if so = 20 then 2 else if so = 21 then 3 else if so = 22 then 4 else if so = 23 then 5 else if so = 24 then 6 else if so = 29 then 7 else if so = 31 then 8 else 0
theorem ps_step (P : psR sc sm n c a p so) : f_X12_stepWord sm = some (xI (stW so), sm) := by
  have e19 := ps_word P (show 19 < 32 by omega)
  have e20 := ps_word P (show 20 < 32 by omega)
  have e21 := ps_word P (show 21 < 32 by omega)
  have e22 := ps_word P (show 22 < 32 by omega)
  have e23 := ps_word P (show 23 < 32 by omega)
  have e24 := ps_word P (show 24 < 32 by omega)
  have e29 := ps_word P (show 29 < 32 by omega)
  have e31 := ps_word P (show 31 < 32 by omega)
  unfold f_X12_stepWord stW
  simp only [m_spelled, fBd_s, sp_19, sp_20, sp_21, sp_22, sp_23, sp_24, sp_29, sp_31, ↓fJn_s]
  by_cases h19 : so = 19
  · rw [decide_eq_true h19] at e19
    simp (disch := omega) only [i_lit, e19, h19, fBd_s, bI_t, bI_f, i_eq, if_true, if_false, ↓reduceIte, Nat.reduceEqDiff, not_true_eq_false, not_false_eq_true, xI_s, xI_0]
  · rw [decide_eq_false h19] at e19
    by_cases h20 : so = 20
    · rw [decide_eq_true h20] at e20
      simp (disch := omega) only [i_lit, e19, e20, h19, h20, fBd_s, bI_t, bI_f, i_eq, if_true, if_false, ↓reduceIte, Nat.reduceEqDiff, not_true_eq_false, not_false_eq_true, xI_s, xI_0]
    · rw [decide_eq_false h20] at e20
      by_cases h21 : so = 21
      · rw [decide_eq_true h21] at e21
        simp (disch := omega) only [i_lit, e19, e20, e21, h19, h20, h21, fBd_s, bI_t, bI_f, i_eq, if_true, if_false, ↓reduceIte, Nat.reduceEqDiff, not_true_eq_false, not_false_eq_true, xI_s, xI_0]
      · rw [decide_eq_false h21] at e21
        by_cases h22 : so = 22
        · rw [decide_eq_true h22] at e22
          simp (disch := omega) only [i_lit, e19, e20, e21, e22, h19, h20, h21, h22, fBd_s, bI_t, bI_f, i_eq, if_true, if_false, ↓reduceIte, Nat.reduceEqDiff, not_true_eq_false, not_false_eq_true, xI_s, xI_0]
        · rw [decide_eq_false h22] at e22
          by_cases h23 : so = 23
          · rw [decide_eq_true h23] at e23
            simp (disch := omega) only [i_lit, e19, e20, e21, e22, e23, h19, h20, h21, h22, h23, fBd_s, bI_t, bI_f, i_eq, if_true, if_false, ↓reduceIte, Nat.reduceEqDiff, not_true_eq_false, not_false_eq_true, xI_s, xI_0]
          · rw [decide_eq_false h23] at e23
            by_cases h24 : so = 24
            · rw [decide_eq_true h24] at e24
              simp (disch := omega) only [i_lit, e19, e20, e21, e22, e23, e24, h19, h20, h21, h22, h23, h24, fBd_s, bI_t, bI_f, i_eq, if_true, if_false, ↓reduceIte, Nat.reduceEqDiff, not_true_eq_false, not_false_eq_true, xI_s, xI_0]
            · rw [decide_eq_false h24] at e24
              by_cases h29 : so = 29
              · rw [decide_eq_true h29] at e29
                simp (disch := omega) only [i_lit, e19, e20, e21, e22, e23, e24, e29, h19, h20, h21, h22, h23, h24, h29, fBd_s, bI_t, bI_f, i_eq, if_true, if_false, ↓reduceIte, Nat.reduceEqDiff, not_true_eq_false, not_false_eq_true, xI_s, xI_0]
              · rw [decide_eq_false h29] at e29
                by_cases h31 : so = 31
                · rw [decide_eq_true h31] at e31
                  simp (disch := omega) only [i_lit, e19, e20, e21, e22, e23, e24, e29, e31, h19, h20, h21, h22, h23, h24, h29, h31, fBd_s, bI_t, bI_f, i_eq, if_true, if_false, ↓reduceIte, Nat.reduceEqDiff, not_true_eq_false, not_false_eq_true, xI_s, xI_0]
                · rw [decide_eq_false h31] at e31
                  simp (disch := omega) only [i_lit, i_neg1, e19, e20, e21, e22, e23, e24, e29, e31, h19, h20, h21, h22, h23, h24, h29, h31, fBd_s, bI_t, bI_f, i_eq, if_true, if_false, ↓reduceIte, Nat.reduceEqDiff, not_true_eq_false, not_false_eq_true, xI_s, xI_0]
def teW (so : Nat) : Nat := if so = 25 then 1 else if so = 26 then 2 else if so = 28 then 3 else if so = 27 then 4 else 0
theorem ps_test (P : psR sc sm n c a p so) : f_X12_testWord sm = some (xI (teW so), sm) := by
  have e25 := ps_word P (show 25 < 32 by omega)
  have e26 := ps_word P (show 26 < 32 by omega)
  have e28 := ps_word P (show 28 < 32 by omega)
  have e27 := ps_word P (show 27 < 32 by omega)
  unfold f_X12_testWord teW
  simp only [m_spelled, fBd_s, sp_25, sp_26, sp_28, sp_27, ↓fJn_s]
  by_cases h25 : so = 25
  · rw [decide_eq_true h25] at e25
    simp (disch := omega) only [i_lit, e25, h25, fBd_s, bI_t, bI_f, i_eq, if_true, if_false, ↓reduceIte, Nat.reduceEqDiff, not_true_eq_false, not_false_eq_true, xI_s, xI_0]
  · rw [decide_eq_false h25] at e25
    by_cases h26 : so = 26
    · rw [decide_eq_true h26] at e26
      simp (disch := omega) only [i_lit, e25, e26, h25, h26, fBd_s, bI_t, bI_f, i_eq, if_true, if_false, ↓reduceIte, Nat.reduceEqDiff, not_true_eq_false, not_false_eq_true, xI_s, xI_0]
    · rw [decide_eq_false h26] at e26
      by_cases h28 : so = 28
      · rw [decide_eq_true h28] at e28
        simp (disch := omega) only [i_lit, e25, e26, e28, h25, h26, h28, fBd_s, bI_t, bI_f, i_eq, if_true, if_false, ↓reduceIte, Nat.reduceEqDiff, not_true_eq_false, not_false_eq_true, xI_s, xI_0]
      · rw [decide_eq_false h28] at e28
        by_cases h27 : so = 27
        · rw [decide_eq_true h27] at e27
          simp (disch := omega) only [i_lit, e25, e26, e28, e27, h25, h26, h28, h27, fBd_s, bI_t, bI_f, i_eq, if_true, if_false, ↓reduceIte, Nat.reduceEqDiff, not_true_eq_false, not_false_eq_true, xI_s, xI_0]
        · rw [decide_eq_false h27] at e27
          simp (disch := omega) only [i_lit, i_neg1, e25, e26, e28, e27, h25, h26, h28, h27, fBd_s, bI_t, bI_f, i_eq, if_true, if_false, ↓reduceIte, Nat.reduceEqDiff, not_true_eq_false, not_false_eq_true, xI_s, xI_0]
theorem ps_sign (P : psR sc sm n c a p so) {k : Nat} (hk : 59 ≤ k ∧ k ≤ 62) : f_X12_isSign (nI k) sm = some (bI (decide (so = k)), sm) := by
  unfold f_X12_isSign
  rcases P.2.1 with ⟨h, h2, h3⟩ | ⟨h, h2, h3⟩ | ⟨h, h2, h3, -⟩ | ⟨h, h2, h3, h4⟩ | ⟨h, h2, h3, -, -⟩ | ⟨h, h2, h3, -⟩
  · rw [decide_eq_false (by omega)]
    simp (disch := omega) only [↓fLt_e, fBd_s, ↓fJn_s, fNn_s, fNu_0, fNu_s, fBo_0, fBo_1, fBo_b, i_lit, i_neg1, nI_add, pk_mul, nI_clamp, i_le, i_lt, i_eq, fIx_n, nI_mI, mI_nI, mI_lt, nI_lt_m, mI_le, nI_le_m, xI_0, xI_s, bI_0, bI_1, bI_t, bI_f, n_31, j_bit, j_one, i_and, i_or, Nat.not_lt_zero, Nat.succ_ne_zero, Nat.add_one_ne_zero, Nat.add_one_sub_one, Nat.zero_le, Nat.or_zero, Nat.zero_or, Bool.not_true, Bool.not_false, Bool.true_and, Bool.false_and, Bool.and_true, Bool.and_false, ↓reduceIte, if_true, if_false, not_true_eq_false, not_false_eq_true, true_and, and_true, false_and, and_false, and_self, true_or, or_true, false_or, or_false, Nat.reduceEqDiff, Nat.reduceLT, Nat.reduceLeDiff, Nat.reduceAdd, Nat.reduceMul, Nat.reduceSub, Nat.add_zero, Nat.zero_add, Nat.mul_zero, Nat.zero_mul, ne_eq, Bool.not_eq_true, Bool.not_eq_false, reduceCtorEq, decide_true, decide_false, decide_eq_true_eq, decide_eq_false_iff_not, Bool.false_eq_true, if_pos, if_neg, h3]
  · rw [decide_eq_false (by omega)]
    simp (disch := omega) only [↓fLt_e, fBd_s, ↓fJn_s, fNn_s, fNu_0, fNu_s, fBo_0, fBo_1, fBo_b, i_lit, i_neg1, nI_add, pk_mul, nI_clamp, i_le, i_lt, i_eq, fIx_n, nI_mI, mI_nI, mI_lt, nI_lt_m, mI_le, nI_le_m, xI_0, xI_s, bI_0, bI_1, bI_t, bI_f, n_31, j_bit, j_one, i_and, i_or, Nat.not_lt_zero, Nat.succ_ne_zero, Nat.add_one_ne_zero, Nat.add_one_sub_one, Nat.zero_le, Nat.or_zero, Nat.zero_or, Bool.not_true, Bool.not_false, Bool.true_and, Bool.false_and, Bool.and_true, Bool.and_false, ↓reduceIte, if_true, if_false, not_true_eq_false, not_false_eq_true, true_and, and_true, false_and, and_false, and_self, true_or, or_true, false_or, or_false, Nat.reduceEqDiff, Nat.reduceLT, Nat.reduceLeDiff, Nat.reduceAdd, Nat.reduceMul, Nat.reduceSub, Nat.add_zero, Nat.zero_add, Nat.mul_zero, Nat.zero_mul, ne_eq, Bool.not_eq_true, Bool.not_eq_false, reduceCtorEq, decide_true, decide_false, decide_eq_true_eq, decide_eq_false_iff_not, Bool.false_eq_true, if_pos, if_neg, h3]
  · rw [decide_eq_false (by omega)]
    simp (disch := omega) only [↓fLt_e, fBd_s, ↓fJn_s, fNn_s, fNu_0, fNu_s, fBo_0, fBo_1, fBo_b, i_lit, i_neg1, nI_add, pk_mul, nI_clamp, i_le, i_lt, i_eq, fIx_n, nI_mI, mI_nI, mI_lt, nI_lt_m, mI_le, nI_le_m, xI_0, xI_s, bI_0, bI_1, bI_t, bI_f, n_31, j_bit, j_one, i_and, i_or, Nat.not_lt_zero, Nat.succ_ne_zero, Nat.add_one_ne_zero, Nat.add_one_sub_one, Nat.zero_le, Nat.or_zero, Nat.zero_or, Bool.not_true, Bool.not_false, Bool.true_and, Bool.false_and, Bool.and_true, Bool.and_false, ↓reduceIte, if_true, if_false, not_true_eq_false, not_false_eq_true, true_and, and_true, false_and, and_false, and_self, true_or, or_true, false_or, or_false, Nat.reduceEqDiff, Nat.reduceLT, Nat.reduceLeDiff, Nat.reduceAdd, Nat.reduceMul, Nat.reduceSub, Nat.add_zero, Nat.zero_add, Nat.mul_zero, Nat.zero_mul, ne_eq, Bool.not_eq_true, Bool.not_eq_false, reduceCtorEq, decide_true, decide_false, decide_eq_true_eq, decide_eq_false_iff_not, Bool.false_eq_true, if_pos, if_neg, h3]
  · by_cases hs : so = k
    · rw [decide_eq_true hs]
      subst hs
      simp (disch := omega) only [↓fLt_e, fBd_s, ↓fJn_s, fNn_s, fNu_0, fNu_s, fBo_0, fBo_1, fBo_b, i_lit, i_neg1, nI_add, pk_mul, nI_clamp, i_le, i_lt, i_eq, fIx_n, nI_mI, mI_nI, mI_lt, nI_lt_m, mI_le, nI_le_m, xI_0, xI_s, bI_0, bI_1, bI_t, bI_f, n_31, j_bit, j_one, i_and, i_or, Nat.not_lt_zero, Nat.succ_ne_zero, Nat.add_one_ne_zero, Nat.add_one_sub_one, Nat.zero_le, Nat.or_zero, Nat.zero_or, Bool.not_true, Bool.not_false, Bool.true_and, Bool.false_and, Bool.and_true, Bool.and_false, ↓reduceIte, if_true, if_false, not_true_eq_false, not_false_eq_true, true_and, and_true, false_and, and_false, and_self, true_or, or_true, false_or, or_false, Nat.reduceEqDiff, Nat.reduceLT, Nat.reduceLeDiff, Nat.reduceAdd, Nat.reduceMul, Nat.reduceSub, Nat.add_zero, Nat.zero_add, Nat.mul_zero, Nat.zero_mul, ne_eq, Bool.not_eq_true, Bool.not_eq_false, reduceCtorEq, decide_true, decide_false, decide_eq_true_eq, decide_eq_false_iff_not, Bool.false_eq_true, if_pos, if_neg, h3, h4]
    · rw [decide_eq_false hs]
      simp (disch := omega) only [↓fLt_e, fBd_s, ↓fJn_s, fNn_s, fNu_0, fNu_s, fBo_0, fBo_1, fBo_b, i_lit, i_neg1, nI_add, pk_mul, nI_clamp, i_le, i_lt, i_eq, fIx_n, nI_mI, mI_nI, mI_lt, nI_lt_m, mI_le, nI_le_m, xI_0, xI_s, bI_0, bI_1, bI_t, bI_f, n_31, j_bit, j_one, i_and, i_or, Nat.not_lt_zero, Nat.succ_ne_zero, Nat.add_one_ne_zero, Nat.add_one_sub_one, Nat.zero_le, Nat.or_zero, Nat.zero_or, Bool.not_true, Bool.not_false, Bool.true_and, Bool.false_and, Bool.and_true, Bool.and_false, ↓reduceIte, if_true, if_false, not_true_eq_false, not_false_eq_true, true_and, and_true, false_and, and_false, and_self, true_or, or_true, false_or, or_false, Nat.reduceEqDiff, Nat.reduceLT, Nat.reduceLeDiff, Nat.reduceAdd, Nat.reduceMul, Nat.reduceSub, Nat.add_zero, Nat.zero_add, Nat.mul_zero, Nat.zero_mul, ne_eq, Bool.not_eq_true, Bool.not_eq_false, reduceCtorEq, decide_true, decide_false, decide_eq_true_eq, decide_eq_false_iff_not, Bool.false_eq_true, if_pos, if_neg, h3, h4, hs]
  · rw [decide_eq_false (by omega)]
    simp (disch := omega) only [↓fLt_e, fBd_s, ↓fJn_s, fNn_s, fNu_0, fNu_s, fBo_0, fBo_1, fBo_b, i_lit, i_neg1, nI_add, pk_mul, nI_clamp, i_le, i_lt, i_eq, fIx_n, nI_mI, mI_nI, mI_lt, nI_lt_m, mI_le, nI_le_m, xI_0, xI_s, bI_0, bI_1, bI_t, bI_f, n_31, j_bit, j_one, i_and, i_or, Nat.not_lt_zero, Nat.succ_ne_zero, Nat.add_one_ne_zero, Nat.add_one_sub_one, Nat.zero_le, Nat.or_zero, Nat.zero_or, Bool.not_true, Bool.not_false, Bool.true_and, Bool.false_and, Bool.and_true, Bool.and_false, ↓reduceIte, if_true, if_false, not_true_eq_false, not_false_eq_true, true_and, and_true, false_and, and_false, and_self, true_or, or_true, false_or, or_false, Nat.reduceEqDiff, Nat.reduceLT, Nat.reduceLeDiff, Nat.reduceAdd, Nat.reduceMul, Nat.reduceSub, Nat.add_zero, Nat.zero_add, Nat.mul_zero, Nat.zero_mul, ne_eq, Bool.not_eq_true, Bool.not_eq_false, reduceCtorEq, decide_true, decide_false, decide_eq_true_eq, decide_eq_false_iff_not, Bool.false_eq_true, if_pos, if_neg, h3]
  · rw [decide_eq_false (by omega)]
    simp (disch := omega) only [↓fLt_e, fBd_s, ↓fJn_s, fNn_s, fNu_0, fNu_s, fBo_0, fBo_1, fBo_b, i_lit, i_neg1, nI_add, pk_mul, nI_clamp, i_le, i_lt, i_eq, fIx_n, nI_mI, mI_nI, mI_lt, nI_lt_m, mI_le, nI_le_m, xI_0, xI_s, bI_0, bI_1, bI_t, bI_f, n_31, j_bit, j_one, i_and, i_or, Nat.not_lt_zero, Nat.succ_ne_zero, Nat.add_one_ne_zero, Nat.add_one_sub_one, Nat.zero_le, Nat.or_zero, Nat.zero_or, Bool.not_true, Bool.not_false, Bool.true_and, Bool.false_and, Bool.and_true, Bool.and_false, ↓reduceIte, if_true, if_false, not_true_eq_false, not_false_eq_true, true_and, and_true, false_and, and_false, and_self, true_or, or_true, false_or, or_false, Nat.reduceEqDiff, Nat.reduceLT, Nat.reduceLeDiff, Nat.reduceAdd, Nat.reduceMul, Nat.reduceSub, Nat.add_zero, Nat.zero_add, Nat.mul_zero, Nat.zero_mul, ne_eq, Bool.not_eq_true, Bool.not_eq_false, reduceCtorEq, decide_true, decide_false, decide_eq_true_eq, decide_eq_false_iff_not, Bool.false_eq_true, if_pos, if_neg, h3]
end
