/-! layer 2: the reference's sums by kinds -/
abbrev uT : Type := (Nat → Int64) × (Nat → Int64) × Int64 × Int64
def gU (st : fSt) (u : uT) : fSt := sL (sL (sB (sB st 12 0 12 u.1) 12 0 13 u.2.1) 12 0 41 u.2.2.1) 12 0 42 u.2.2.2
theorem gU_rE (st : fSt) (u : uT) : gB (gU st u) 12 0 12 = u.1 := rfl
theorem gU_rS (st : fSt) (u : uT) : gB (gU st u) 12 0 13 = u.2.1 := rfl
theorem gU_rB (st : fSt) (u : uT) : gL (gU st u) 12 0 41 = u.2.2.1 := rfl
theorem gU_rW (st : fSt) (u : uT) : gL (gU st u) 12 0 42 = u.2.2.2 := rfl
theorem gU_r5 (st : fSt) (u : uT) : gA (gU st u) 12 0 5 = gA st 12 0 5 := rfl
theorem gU_q8 (st : fSt) (u : uT) : gB (gU st u) 12 0 8 = gB st 12 0 8 := rfl
theorem gU_q9 (st : fSt) (u : uT) : gB (gU st u) 12 0 9 = gB st 12 0 9 := rfl
theorem gU_q31 (st : fSt) (u : uT) : gL (gU st u) 12 0 31 = gL st 12 0 31 := rfl
theorem gU_sE (st : fSt) (u : uT) (v : Nat → Int64) : sB (gU st u) 12 0 12 v = gU st (v, u.2) := by
  apply st_ext
  · intro c i j; rfl
  · intro c i j; rfl
  · intro c i j; rfl
  · intro c i j
    simp only [gU, gB_sB, gB_sL]
    by_cases h : c = 12 ∧ i = 0 ∧ j = 12
    · obtain ⟨rfl, rfl, rfl⟩ := h
      simp only [and_self, if_true, Nat.reduceEqDiff, and_false, if_false]
    · simp only [h, if_false]
  · intro c i j; rfl
theorem gU_sS (st : fSt) (u : uT) (v : Nat → Int64) : sB (gU st u) 12 0 13 v = gU st (u.1, v, u.2.2) := by
  apply st_ext
  · intro c i j; rfl
  · intro c i j; rfl
  · intro c i j; rfl
  · intro c i j
    simp only [gU, gB_sB, gB_sL]
    split <;> rfl
  · intro c i j; rfl
theorem gU_sB (st : fSt) (u : uT) (v : Int64) : sL (gU st u) 12 0 41 v = gU st (u.1, u.2.1, v, u.2.2.2) := by
  apply st_ext
  · intro c i j; rfl
  · intro c i j
    simp only [gU, gL_sB, gL_sL]
    by_cases h : c = 12 ∧ i = 0 ∧ j = 41
    · obtain ⟨rfl, rfl, rfl⟩ := h
      simp only [and_self, if_true, Nat.reduceEqDiff, and_false, if_false]
    · simp only [h, if_false]
  all_goals intro c i j; rfl
theorem gU_sW (st : fSt) (u : uT) (v : Int64) : sL (gU st u) 12 0 42 v = gU st (u.1, u.2.1, u.2.2.1, v) := by
  apply st_ext
  · intro c i j; rfl
  · intro c i j
    simp only [gU, gL_sB, gL_sL]
    split <;> rfl
  all_goals intro c i j; rfl
theorem gU_gQ (st : fSt) (u : uT) (t t' : qT) : gQ (gU (gQ st t) u) t' = gU (gQ st t') u := by
  apply st_ext
  · intro c i j
    simp only [gU, gQ, gI_sB, gI_sA, gI_sL, gI_oS]
    split <;> rfl
  · intro c i j
    simp only [gU, gQ, gL_sB, gL_sA, gL_sL, gL_oS]
    by_cases h : c = 12 ∧ i = 0
    · simp only [h, true_and]
      by_cases h1 : j = 31
      · subst h1; simp
      · simp [h1]
    · simp only [← and_assoc, h, false_and, if_false]
  · intro c i j
    simp only [gU, gQ, gA_sB, gA_sA, gA_sL, gA_oS]
    by_cases h : c = 12 ∧ i = 0
    · simp only [h, true_and]
      by_cases h1 : j = 11
      · subst h1; simp
      · by_cases h2 : j = 10
        · subst h2; simp
        · simp [h1, h2]
    · simp only [← and_assoc, h, false_and, if_false]
  · intro c i j
    simp only [gU, gQ, gB_sB, gB_sA, gB_sL, gB_oS]
    by_cases h : c = 12 ∧ i = 0
    · simp only [h, true_and]
      by_cases h1 : j = 9
      · subst h1; simp
      · by_cases h2 : j = 8
        · subst h2; simp
        · simp [h1, h2]
    · simp only [← and_assoc, h, false_and, if_false]
  · intro c i j; rfl
theorem gU_self (st : fSt) : gU st (gB st 12 0 12, gB st 12 0 13, gL st 12 0 41, gL st 12 0 42) = st := by
  apply st_ext
  · intro c i k; rfl
  · intro c i k
    simp only [gU, gL_sB, gL_sL]
    split
    · rename_i h; rw [h.1, h.2.1, h.2.2]
    · split
      · rename_i h; rw [h.1, h.2.1, h.2.2]
      · rfl
  · intro c i k; rfl
  · intro c i k
    simp only [gU, gB_sB, gB_sL]
    split
    · rename_i h; rw [h.1, h.2.1, h.2.2]
    · split
      · rename_i h; rw [h.1, h.2.1, h.2.2]
      · rfl
  · intro c i k; rfl
theorem m_sumL102 (x : Int32) (k25 : fSt → Option (Unit × fSt)) (st : fSt) (t : qT) (u : uT) : f_X12_sums_L102 x k25 fF (nI 0) (gU (gQ st t) u) = k25 (gU (gQ st t) (fun e => if e < 10 then u.1 e + x.toInt64 * t.2.2.2.2.1 e else u.1 e, u.2)) := by
  obtain ⟨m, e⟩ := lp_run (fun m (z : Int32 × fSt) => f_X12_sums_L102 x k25 m z.1 z.2) (fun i => (nI i, gU (gQ st t) (fun e => if e < i then u.1 e + x.toInt64 * t.2.2.2.2.1 e else u.1 e, u.2))) 10 (fun m i hi => by
    show f_X12_sums_L102 x k25 (m + 1) (nI i) (gU (gQ st t) (fun e => if e < i then u.1 e + x.toInt64 * t.2.2.2.2.1 e else u.1 e, u.2)) = f_X12_sums_L102 x k25 m (nI (i + 1)) (gU (gQ st t) (fun e => if e < i + 1 then u.1 e + x.toInt64 * t.2.2.2.2.1 e else u.1 e, u.2))
    rw [f_X12_sums_L102]
    simp (disch := omega) only [fLt_e, fBd_s, fJn_s, fNn_s, fNu_0, fNu_s, fBo_0, fBo_1, fBo_b, i_lit, i_le, if_neg, fIx_n, nI_clamp, nI_add, gU_rE, gU_sE, gU_q8, gQ_rB]
    congr 2
    refine Prod.ext (funext fun k => ?_) rfl
    simp only [updL_at]
    by_cases hk : k = i
    · subst hk; rw [if_pos rfl, if_pos (by omega)]
    · rw [if_neg hk]
      by_cases hk2 : k < i
      · rw [if_pos hk2, if_pos (by omega)]
      · rw [if_neg hk2, if_neg (by omega)]) (fF_lt (by omega))
  refine Eq.trans ?_ (Eq.trans e ?_)
  · rfl
  · show f_X12_sums_L102 x k25 (m + 1) (nI 10) (gU (gQ st t) (fun e => if e < 10 then u.1 e + x.toInt64 * t.2.2.2.2.1 e else u.1 e, u.2)) = _
    rw [f_X12_sums_L102]
    simp (disch := omega) only [fLt_e, fBd_s, fJn_s, fNn_s, fNu_0, fNu_s, fBo_0, fBo_1, fBo_b, i_lit, i_le, if_pos]
theorem m_sumL138 (x : Int32) (k25 : fSt → Option (Unit × fSt)) (st : fSt) (t : qT) (u : uT) : f_X12_sums_L138 x k25 fF (nI 0) (gU (gQ st t) u) = k25 (gU (gQ st t) (u.1, fun e => if e < 12 then u.2.1 e + x.toInt64 * t.2.2.2.2.2 e else u.2.1 e, u.2.2)) := by
  obtain ⟨m, e⟩ := lp_run (fun m (z : Int32 × fSt) => f_X12_sums_L138 x k25 m z.1 z.2) (fun i => (nI i, gU (gQ st t) (u.1, fun e => if e < i then u.2.1 e + x.toInt64 * t.2.2.2.2.2 e else u.2.1 e, u.2.2))) 12 (fun m i hi => by
    show f_X12_sums_L138 x k25 (m + 1) (nI i) (gU (gQ st t) (u.1, fun e => if e < i then u.2.1 e + x.toInt64 * t.2.2.2.2.2 e else u.2.1 e, u.2.2)) = f_X12_sums_L138 x k25 m (nI (i + 1)) (gU (gQ st t) (u.1, fun e => if e < i + 1 then u.2.1 e + x.toInt64 * t.2.2.2.2.2 e else u.2.1 e, u.2.2))
    rw [f_X12_sums_L138]
    simp (disch := omega) only [fLt_e, fBd_s, fJn_s, fNn_s, fNu_0, fNu_s, fBo_0, fBo_1, fBo_b, i_lit, i_le, if_neg, fIx_n, nI_clamp, nI_add, gU_rS, gU_sS, gU_q9, gQ_rC]
    congr 2
    refine Prod.ext rfl (Prod.ext (funext fun k => ?_) rfl)
    simp only [updL_at]
    by_cases hk : k = i
    · subst hk; rw [if_pos rfl, if_pos (by omega)]
    · rw [if_neg hk]
      by_cases hk2 : k < i
      · rw [if_pos hk2, if_pos (by omega)]
      · rw [if_neg hk2, if_neg (by omega)]) (fF_lt (by omega))
  refine Eq.trans ?_ (Eq.trans e ?_)
  · rfl
  · show f_X12_sums_L138 x k25 (m + 1) (nI 12) (gU (gQ st t) (u.1, fun e => if e < 12 then u.2.1 e + x.toInt64 * t.2.2.2.2.2 e else u.2.1 e, u.2.2)) = _
    rw [f_X12_sums_L138]
    simp (disch := omega) only [fLt_e, fBd_s, fJn_s, fNn_s, fNu_0, fNu_s, fBo_0, fBo_1, fBo_b, i_lit, i_le, if_pos]
theorem m_sumL2 (k3 : fSt → Option (Unit × fSt)) (st : fSt) (u : uT) : f_X12_sums_L2 k3 fF (nI 0) (gU st u) = k3 (gU st (fun e => if e < 10 then lN 0 else u.1 e, u.2)) := by
  obtain ⟨m, e⟩ := lp_run (fun m (z : Int32 × fSt) => f_X12_sums_L2 k3 m z.1 z.2) (fun i => (nI i, gU st (fun e => if e < i then lN 0 else u.1 e, u.2))) 10 (fun m i hi => by
    show f_X12_sums_L2 k3 (m + 1) (nI i) (gU st (fun e => if e < i then lN 0 else u.1 e, u.2)) = f_X12_sums_L2 k3 m (nI (i + 1)) (gU st (fun e => if e < i + 1 then lN 0 else u.1 e, u.2))
    rw [f_X12_sums_L2]
    simp (disch := omega) only [fLt_e, fBd_s, fJn_s, fNn_s, fNu_0, fNu_s, fBo_0, fBo_1, fBo_b, i_lit, l_lit, i_le, if_neg, fIx_n, nI_clamp, nI_add, gU_rE, gU_sE]
    congr 2
    refine Prod.ext (funext fun k => ?_) rfl
    simp only [updL_at]
    by_cases hk : k = i
    · rw [if_pos hk, if_pos (by omega)]
    · rw [if_neg hk]
      by_cases hk2 : k < i
      · rw [if_pos hk2, if_pos (by omega)]
      · rw [if_neg hk2, if_neg (by omega)]) (fF_lt (by omega))
  refine Eq.trans ?_ (Eq.trans e ?_)
  · rfl
  · show f_X12_sums_L2 k3 (m + 1) (nI 10) (gU st (fun e => if e < 10 then lN 0 else u.1 e, u.2)) = _
    rw [f_X12_sums_L2]
    simp (disch := omega) only [fLt_e, fBd_s, fJn_s, fNn_s, fNu_0, fNu_s, fBo_0, fBo_1, fBo_b, i_lit, i_le, if_pos]
theorem m_sumL23 (k3 : fSt → Option (Unit × fSt)) (st : fSt) (u : uT) : f_X12_sums_L23 k3 fF (nI 0) (gU st u) = k3 (gU st (u.1, fun e => if e < 12 then lN 0 else u.2.1 e, u.2.2)) := by
  obtain ⟨m, e⟩ := lp_run (fun m (z : Int32 × fSt) => f_X12_sums_L23 k3 m z.1 z.2) (fun i => (nI i, gU st (u.1, fun e => if e < i then lN 0 else u.2.1 e, u.2.2))) 12 (fun m i hi => by
    show f_X12_sums_L23 k3 (m + 1) (nI i) (gU st (u.1, fun e => if e < i then lN 0 else u.2.1 e, u.2.2)) = f_X12_sums_L23 k3 m (nI (i + 1)) (gU st (u.1, fun e => if e < i + 1 then lN 0 else u.2.1 e, u.2.2))
    rw [f_X12_sums_L23]
    simp (disch := omega) only [fLt_e, fBd_s, fJn_s, fNn_s, fNu_0, fNu_s, fBo_0, fBo_1, fBo_b, i_lit, l_lit, i_le, if_neg, fIx_n, nI_clamp, nI_add, gU_rS, gU_sS]
    congr 2
    refine Prod.ext rfl (Prod.ext (funext fun k => ?_) rfl)
    simp only [updL_at]
    by_cases hk : k = i
    · rw [if_pos hk, if_pos (by omega)]
    · rw [if_neg hk]
      by_cases hk2 : k < i
      · rw [if_pos hk2, if_pos (by omega)]
      · rw [if_neg hk2, if_neg (by omega)]) (fF_lt (by omega))
  refine Eq.trans ?_ (Eq.trans e ?_)
  · rfl
  · show f_X12_sums_L23 k3 (m + 1) (nI 12) (gU st (u.1, fun e => if e < 12 then lN 0 else u.2.1 e, u.2.2)) = _
    rw [f_X12_sums_L23]
    simp (disch := omega) only [fLt_e, fBd_s, fJn_s, fNn_s, fNu_0, fNu_s, fBo_0, fBo_1, fBo_b, i_lit, i_le, if_pos]
def vE (G : Nat → Nat) (e kp : Nat) : Nat := lsum (fun s _ => if gsl G s = e then 1 else 0) (gCu G kp)
def vS (G : Nat → Nat) (k kp : Nat) : Nat := lsum (fun _ se => if se.testBit k then 1 else 0) (gCu G kp)
def vB (G : Nat → Nat) (kp : Nat) : Nat := lsum (fun _ se => zs (fun k => if se.testBit k then gbr G k else 0) (G 2)) (gCu G kp)
def mlt (G : Nat → Nat) (kp k : Nat) : Nat := if kp = 0 then G (121 + k) else if kp = k + 1 then 1 else 0
def ksm (G : Nat → Nat) (kp : Nat) (f : Nat → Nat) (n : Nat) : Nat := zs (fun k => mlt G kp k * f (k + 1)) n
theorem ksm_s (G : Nat → Nat) (kp : Nat) (f : Nat → Nat) (n : Nat) : ksm G kp f (n + 1) = ksm G kp f n + mlt G kp n * f (n + 1) := rfl
theorem m_sums {sm : fSt} {G : Nat → Nat} (B : rBlk (gA sm 12 0 5) G) (w : gWf G) {kp : Nat} (hkp : kp ≤ G 3) : ∃ t u, f_X12_sums (xI kp) sm = some ((), gU (gQ sm t) u) ∧ (∀ e, e < 10 → u.1 e = lN (ksm G kp (vE G e) (G 3))) ∧ (∀ k, k < G 2 → u.2.1 k = lN (ksm G kp (vS G k) (G 3))) ∧ u.2.2.1 = lN (ksm G kp (vB G) (G 3)) ∧ u.2.2.2 = lN (ksm G kp (fun _ => fWh) (G 3)) := by
  have w1 := w.1
  have hst : sm = gU (gQ sm (gI sm 12 0, gL sm 12 0 31, gA sm 12 0 10, gA sm 12 0 11, gB sm 12 0 8, gB sm 12 0 9)) (gB sm 12 0 12, gB sm 12 0 13, gL sm 12 0 41, gL sm 12 0 42) := by
    rw [gQ_self, gU_self]
  have key : ∀ t u, ∃ t' u', f_X12_sums (xI kp) (gU (gQ sm t) u) = some ((), gU (gQ sm t') u') ∧ (∀ e, e < 10 → u'.1 e = lN (ksm G kp (vE G e) (G 3))) ∧ (∀ k, k < G 2 → u'.2.1 k = lN (ksm G kp (vS G k) (G 3))) ∧ u'.2.2.1 = lN (ksm G kp (vB G) (G 3)) ∧ u'.2.2.2 = lN (ksm G kp (fun _ => fWh) (G 3)) := by
    intro t u
    unfold f_X12_sums
    simp only [fLt_e, fBd_s, fJn_s, fNn_s, fNu_0, fNu_s, fBo_0, fBo_1, fBo_b, i_lit, l_lit, m_sumL2, m_sumL23, gU_sB, gU_sW]
    obtain ⟨⟨x, s⟩, m, ⟨hx, t', u', hs, h1, h2, h3, h4⟩, e⟩ := lp_ex (fun m (z : Int32 × fSt) => f_X12_sums_L54 (xI kp) m z.1 z.2) (fun k z => z.1 = nI k ∧ ∃ t u, z.2 = gU (gQ sm t) u ∧ (∀ e, e < 10 → u.1 e = lN (ksm G kp (vE G e) k)) ∧ (∀ j, j < G 2 → u.2.1 j = lN (ksm G kp (vS G j) k)) ∧ u.2.2.1 = lN (ksm G kp (vB G) k) ∧ u.2.2.2 = lN (ksm G kp (fun _ => fWh) k)) (G 3) (fun k z hk hz => by
      obtain ⟨x, s⟩ := z
      obtain ⟨hx, t, u, hs, h1, h2, h3, h4⟩ := hz
      simp only at hx hs
      subst hx
      subst hs
      have BS : rBlk (gA (gU (gQ sm t) u) 12 0 5) G := B
      have hga := m_goAll BS w (show k + 1 ≤ G 3 by omega)
      rw [gU_gQ, xI_s] at hga
      have wk := (w.2.2.2.2.1 k hk).1
      have hlot := (B.2.2.2.1 k hk).1
      have q8 : ∀ e, e < 10 → (((gCu G (k + 1)).map lNc).foldl (cq G) (qZ (gU (gQ sm t) u))).2.2.2.2.1 e = lN (vE G e (k + 1)) := fun e he => by
        rw [fq_B8]
        show (if e < 10 then lN 0 else _) + _ = _
        rw [if_pos he, lN_add, Nat.zero_add]
        rfl
      have q9 : ∀ j, j < G 2 → (((gCu G (k + 1)).map lNc).foldl (cq G) (qZ (gU (gQ sm t) u))).2.2.2.2.2 j = lN (vS G j (k + 1)) := fun j hj => by
        rw [fq_B9 hj]
        show (if j < 12 then lN 0 else _) + _ = _
        rw [if_pos (by omega), lN_add, Nat.zero_add]
        rfl
      have qb : (((gCu G (k + 1)).map lNc).foldl (cq G) (qZ (gU (gQ sm t) u))).2.1 = lN (vB G (k + 1)) := by
        rw [fq_br]
        show lN 0 + _ = _
        rw [lN_add, Nat.zero_add]
        rfl
      generalize ((gCu G (k + 1)).map lNc).foldl (cq G) (qZ (gU (gQ sm t) u)) = tq at *
      have hsel : ∀ (x : Nat), x < 100 → mlt G kp k = x → ∃ z', (z'.1 = nI (k + 1) ∧ ∃ t u, z'.2 = gU (gQ sm t) u ∧ (∀ e, e < 10 → u.1 e = lN (ksm G kp (vE G e) (k + 1))) ∧ (∀ j, j < G 2 → u.2.1 j = lN (ksm G kp (vS G j) (k + 1))) ∧ u.2.2.1 = lN (ksm G kp (vB G) (k + 1)) ∧ u.2.2.2 = lN (ksm G kp (fun _ => fWh) (k + 1))) ∧ z' = (nI (k + 1), gU (gQ sm tq) (fun e => if e < 10 then u.1 e + (nI x).toInt64 * tq.2.2.2.2.1 e else u.1 e, fun e => if e < 12 then u.2.1 e + (nI x).toInt64 * tq.2.2.2.2.2 e else u.2.1 e, u.2.2.1 + (nI x).toInt64 * tq.2.1, u.2.2.2 + (nI x).toInt64 * lN fWh)) := by
        intro x hx hm
        refine ⟨_, ⟨rfl, _, _, rfl, fun e he => ?_, fun j hj => ?_, ?_, ?_⟩, rfl⟩
        · simp only [he, if_true]
          rw [h1 e he, q8 e he, nI_l (by omega), lN_mul, lN_add, ksm_s, hm]
        · simp only [show j < 12 by omega, if_true]
          rw [h2 j hj, q9 j hj, nI_l (by omega), lN_mul, lN_add, ksm_s, hm]
        · simp only
          rw [h3, qb, nI_l (by omega), lN_mul, lN_add, ksm_s, hm]
        · simp only
          rw [h4, nI_l (by omega), lN_mul, lN_add, ksm_s, hm]
      have ew : lN 17592186044416 = lN fWh := rfl
      cases kp with
      | zero =>
        obtain ⟨z', hz', he⟩ := hsel (G (121 + k)) (by omega) rfl
        refine ⟨z', hz', fun m => ?_⟩
        subst he
        simp only
        rw [f_X12_sums_L54]
        simp (disch := omega) only [fLt_e, fBd_s, fJn_s, fNn_s, fNu_0, fNu_s, fBo_0, fBo_1, fBo_b, i_lit, i_neg1, nI_add, pk_mul, nI_clamp, i_le, i_lt, i_eq, fIx_n, nI_mI, mI_nI, mI_lt, nI_lt_m, mI_le, nI_le_m, xI_0, xI_s, bI_0, bI_1, bI_t, bI_f, n_31, j_bit, j_one, i_and, i_or, Nat.not_lt_zero, Nat.succ_ne_zero, Nat.add_one_ne_zero, Nat.add_one_sub_one, Nat.zero_le, Nat.or_zero, Nat.zero_or, Bool.not_true, Bool.not_false, Bool.true_and, Bool.false_and, Bool.and_true, Bool.and_false, ↓reduceIte, if_true, if_false, not_true_eq_false, not_false_eq_true, true_and, and_true, false_and, and_false, and_self, true_or, or_true, false_or, or_false, Nat.reduceEqDiff, Nat.reduceLT, Nat.reduceLeDiff, Nat.reduceAdd, Nat.reduceMul, Nat.reduceSub, Nat.add_zero, Nat.zero_add, Nat.mul_zero, Nat.zero_mul, ne_eq, Bool.not_eq_true, Bool.not_eq_false, reduceCtorEq, decide_true, decide_false, decide_eq_true_eq, decide_eq_false_iff_not, Bool.false_eq_true, if_pos, if_neg, l_lit, gU_r5, gQ_r5, B.1.2.2.2.1, hga, hlot, m_sumL102, m_sumL138, gU_rB, gU_rW, gU_q31, gQ_rL, gU_sB, gU_sW, ew]
      | succ kq =>
        by_cases hkq : kq = k
        · subst hkq
          obtain ⟨z', hz', he⟩ := hsel 1 (by omega) (by unfold mlt; simp)
          refine ⟨z', hz', fun m => ?_⟩
          subst he
          simp only
          rw [f_X12_sums_L54]
          simp (disch := omega) only [fLt_e, fBd_s, fJn_s, fNn_s, fNu_0, fNu_s, fBo_0, fBo_1, fBo_b, i_lit, i_neg1, nI_add, pk_mul, nI_clamp, i_le, i_lt, i_eq, fIx_n, nI_mI, mI_nI, mI_lt, nI_lt_m, mI_le, nI_le_m, xI_0, xI_s, bI_0, bI_1, bI_t, bI_f, n_31, j_bit, j_one, i_and, i_or, Nat.not_lt_zero, Nat.succ_ne_zero, Nat.add_one_ne_zero, Nat.add_one_sub_one, Nat.zero_le, Nat.or_zero, Nat.zero_or, Bool.not_true, Bool.not_false, Bool.true_and, Bool.false_and, Bool.and_true, Bool.and_false, ↓reduceIte, if_true, if_false, not_true_eq_false, not_false_eq_true, true_and, and_true, false_and, and_false, and_self, true_or, or_true, false_or, or_false, Nat.reduceEqDiff, Nat.reduceLT, Nat.reduceLeDiff, Nat.reduceAdd, Nat.reduceMul, Nat.reduceSub, Nat.add_zero, Nat.zero_add, Nat.mul_zero, Nat.zero_mul, ne_eq, Bool.not_eq_true, Bool.not_eq_false, reduceCtorEq, decide_true, decide_false, decide_eq_true_eq, decide_eq_false_iff_not, Bool.false_eq_true, if_pos, if_neg, l_lit, gU_r5, gQ_r5, B.1.2.2.2.1, hga, hlot, m_sumL102, m_sumL138, gU_rB, gU_rW, gU_q31, gQ_rL, gU_sB, gU_sW, ew]
        · have hm : mlt G (kq + 1) k = 0 := by unfold mlt; simp [hkq]
          refine ⟨(nI (k + 1), gU (gQ sm t) u), ⟨rfl, t, u, rfl, fun e he => ?_, fun j hj => ?_, ?_, ?_⟩, fun m => ?_⟩
          · rw [ksm_s, hm, Nat.zero_mul, Nat.add_zero]; exact h1 e he
          · rw [ksm_s, hm, Nat.zero_mul, Nat.add_zero]; exact h2 j hj
          · rw [ksm_s, hm, Nat.zero_mul, Nat.add_zero]; exact h3
          · rw [ksm_s, hm, Nat.zero_mul, Nat.add_zero]; exact h4
          · simp only
            rw [f_X12_sums_L54]
            simp (disch := omega) only [fLt_e, fBd_s, fJn_s, fNn_s, fNu_0, fNu_s, fBo_0, fBo_1, fBo_b, i_lit, i_neg1, nI_add, pk_mul, nI_clamp, i_le, i_lt, i_eq, fIx_n, nI_mI, mI_nI, mI_lt, nI_lt_m, mI_le, nI_le_m, xI_0, xI_s, bI_0, bI_1, bI_t, bI_f, n_31, j_bit, j_one, i_and, i_or, Nat.not_lt_zero, Nat.succ_ne_zero, Nat.add_one_ne_zero, Nat.add_one_sub_one, Nat.zero_le, Nat.or_zero, Nat.zero_or, Bool.not_true, Bool.not_false, Bool.true_and, Bool.false_and, Bool.and_true, Bool.and_false, ↓reduceIte, if_true, if_false, not_true_eq_false, not_false_eq_true, true_and, and_true, false_and, and_false, and_self, true_or, or_true, false_or, or_false, Nat.reduceEqDiff, Nat.reduceLT, Nat.reduceLeDiff, Nat.reduceAdd, Nat.reduceMul, Nat.reduceSub, Nat.add_zero, Nat.zero_add, Nat.mul_zero, Nat.zero_mul, ne_eq, Bool.not_eq_true, Bool.not_eq_false, reduceCtorEq, decide_true, decide_false, decide_eq_true_eq, decide_eq_false_iff_not, Bool.false_eq_true, if_pos, if_neg, gU_r5, gQ_r5, B.1.2.2.2.1]) (fF_lt (show G 3 < 4000000 by omega)) (s := (nI 0, gU (gQ sm t) (fun e => if e < 10 then lN 0 else u.1 e, fun e => if e < 12 then lN 0 else u.2.1 e, lN 0, lN 0))) ⟨rfl, t, _, rfl, fun e he => by simp only [he, if_true]; rfl, fun j hj => by simp only [show j < 12 by omega, if_true]; rfl, rfl, rfl⟩
    simp only at hx hs e
    subst hx
    subst hs
    refine ⟨t', u', ?_, h1, h2, h3, h4⟩
    rw [e, f_X12_sums_L54]
    simp (disch := omega) only [fLt_e, fBd_s, fJn_s, fNn_s, fNu_0, fNu_s, fBo_0, fBo_1, fBo_b, i_lit, i_neg1, nI_add, pk_mul, nI_clamp, i_le, i_lt, i_eq, fIx_n, nI_mI, mI_nI, mI_lt, nI_lt_m, mI_le, nI_le_m, xI_0, xI_s, bI_0, bI_1, bI_t, bI_f, n_31, j_bit, j_one, i_and, i_or, Nat.not_lt_zero, Nat.succ_ne_zero, Nat.add_one_ne_zero, Nat.add_one_sub_one, Nat.zero_le, Nat.or_zero, Nat.zero_or, Bool.not_true, Bool.not_false, Bool.true_and, Bool.false_and, Bool.and_true, Bool.and_false, ↓reduceIte, if_true, if_false, not_true_eq_false, not_false_eq_true, true_and, and_true, false_and, and_false, and_self, true_or, or_true, false_or, or_false, Nat.reduceEqDiff, Nat.reduceLT, Nat.reduceLeDiff, Nat.reduceAdd, Nat.reduceMul, Nat.reduceSub, Nat.add_zero, Nat.zero_add, Nat.mul_zero, Nat.zero_mul, ne_eq, Bool.not_eq_true, Bool.not_eq_false, reduceCtorEq, decide_true, decide_false, decide_eq_true_eq, decide_eq_false_iff_not, Bool.false_eq_true, if_pos, if_neg, gU_r5, gQ_r5, B.1.2.2.2.1]
  obtain ⟨t', u', e, r⟩ := key (gI sm 12 0, gL sm 12 0 31, gA sm 12 0 10, gA sm 12 0 11, gB sm 12 0 8, gB sm 12 0 9) (gB sm 12 0 12, gB sm 12 0 13, gL sm 12 0 41, gL sm 12 0 42)
  rw [← hst] at e
  exact ⟨t', u', e, r⟩
