/-! layer 2: the reference's sums of odds -/
section
variable {G : Nat → Nat}
theorem cq2_rng (c : Nat × Nat × Nat) (t : qT) : ∀ n, (rng (cq2 G (lNc c)) n t).2.2.2.2.1 = t.2.2.2.2.1 ∧ (∀ k, (rng (cq2 G (lNc c)) n t).2.2.2.2.2 k = if k < n ∧ c.2.1.testBit k = true then t.2.2.2.2.2 k + lN c.2.2 else t.2.2.2.2.2 k) ∧ (rng (cq2 G (lNc c)) n t).2.1 = t.2.1 + lN (c.2.2 * zs (fun k => if c.2.1.testBit k then gbr G k else 0) n) := by
  intro n
  induction n with
  | zero =>
    refine ⟨rfl, fun k => by simp [rng], ?_⟩
    show t.2.1 = t.2.1 + lN (c.2.2 * 0)
    rw [Nat.mul_zero]
    exact (Int64.add_zero _).symm
  | succ n ih =>
    obtain ⟨h1, h2, h3⟩ := ih
    rw [rng_s]
    generalize rng (cq2 G (lNc c)) n t = t1 at *
    have hcq : cq2 G (lNc c) n t1 = if c.2.1.testBit n = true then (t1.1, t1.2.1 + lN c.2.2 * lN (gbr G n), upd t1.2.2.1 n (t1.2.2.1 n ||| nI (2 ^ gsl G c.1)), t1.2.2.2.1, t1.2.2.2.2.1, vp_updL t1.2.2.2.2.2 n (t1.2.2.2.2.2 n + lN c.2.2)) else t1 := rfl
    rw [hcq]
    by_cases hb : c.2.1.testBit n = true
    · rw [if_pos hb]
      refine ⟨h1, fun k => ?_, ?_⟩
      · show vp_updL t1.2.2.2.2.2 n (t1.2.2.2.2.2 n + lN c.2.2) k = _
        rw [updL_at]
        by_cases hk : k = n
        · subst hk; simp [hb, h2]
        · rw [if_neg hk, h2]
          by_cases hk2 : k < n
          · simp [hk2, show k < n + 1 by omega]
          · simp [hk2, show ¬ k < n + 1 by omega]
      · show t1.2.1 + lN c.2.2 * lN (gbr G n) = _
        rw [h3, zs_s, if_pos hb, Nat.mul_add, lN_mul, Int64.add_assoc, lN_add]
    · rw [if_neg hb]
      refine ⟨h1, fun k => ?_, ?_⟩
      · rw [h2]
        by_cases hk : k = n
        · subst hk; simp [hb]
        · by_cases hk2 : k < n
          · simp [hk2, show k < n + 1 by omega]
          · simp [hk2, show ¬ k < n + 1 by omega]
      · rw [h3, zs_s, if_neg hb, Nat.add_zero]
theorem fq_B8 (e : Nat) : ∀ (L : List (Nat × Nat × Nat)) (t : qT), ((L.map lNc).foldl (cq G) t).2.2.2.2.1 e = t.2.2.2.2.1 e + lN (lsum (fun s _ => if gsl G s = e then 1 else 0) L) := by
  intro L
  induction L with
  | nil => intro t; exact (Int64.add_zero _).symm
  | cons c L ih =>
    intro t
    rw [List.map_cons, List.foldl_cons, ih, lsum_cons]
    have h : (cq G t (lNc c)).2.2.2.2.1 = (cq1 G (lNc c) t).2.2.2.2.1 := (cq2_rng c _ (G 2)).1
    rw [h]
    show vp_updL t.2.2.2.2.1 (gsl G c.1) (t.2.2.2.2.1 (gsl G c.1) + lN c.2.2) e + _ = _
    rw [updL_at]
    by_cases he : gsl G c.1 = e
    · subst he
      simp only [if_true, Nat.mul_one]
      rw [Int64.add_assoc, lN_add]
    · rw [if_neg (fun h => he h.symm)]
      simp [he]
theorem fq_B9 {k : Nat} (hk : k < G 2) : ∀ (L : List (Nat × Nat × Nat)) (t : qT), ((L.map lNc).foldl (cq G) t).2.2.2.2.2 k = t.2.2.2.2.2 k + lN (lsum (fun _ se => if se.testBit k then 1 else 0) L) := by
  intro L
  induction L with
  | nil => intro t; exact (Int64.add_zero _).symm
  | cons c L ih =>
    intro t
    rw [List.map_cons, List.foldl_cons, ih, lsum_cons]
    have h : (cq G t (lNc c)).2.2.2.2.2 k = _ := (cq2_rng c (cq1 G (lNc c) t) (G 2)).2.1 k
    rw [h]
    show (if k < G 2 ∧ c.2.1.testBit k = true then t.2.2.2.2.2 k + lN c.2.2 else t.2.2.2.2.2 k) + _ = _
    by_cases he : c.2.1.testBit k = true
    · rw [if_pos ⟨hk, he⟩]
      simp only [he, if_true, Nat.mul_one]
      rw [Int64.add_assoc, lN_add]
    · rw [if_neg (fun h => he h.2)]
      simp [he]
theorem fq_br : ∀ (L : List (Nat × Nat × Nat)) (t : qT), ((L.map lNc).foldl (cq G) t).2.1 = t.2.1 + lN (lsum (fun _ se => zs (fun k => if se.testBit k then gbr G k else 0) (G 2)) L) := by
  intro L
  induction L with
  | nil => intro t; exact (Int64.add_zero _).symm
  | cons c L ih =>
    intro t
    rw [List.map_cons, List.foldl_cons, ih, lsum_cons]
    have h : (cq G t (lNc c)).2.1 = _ := (cq2_rng c (cq1 G (lNc c) t) (G 2)).2.2
    rw [h]
    show t.2.1 + lN _ + _ = _
    rw [Int64.add_assoc, lN_add]
end
theorem gsx_16 {G : Nat → Nat} (w : gWf G) {kp : Nat} (hk : kp ≤ G 3) : zs (gsx G kp) 4 = 16 := by
  unfold gsx
  by_cases h : kp = 0
  · simp [zs, h]
  · have h2 := (w.2.2.2.2.1 (kp - 1) (by omega)).2
    rw [show 125 + (kp - 1) = 124 + kp by omega, show 129 + (kp - 1) = 128 + kp by omega, show 133 + (kp - 1) = 132 + kp by omega] at h2
    simp [zs, h]
    omega
def fWh : Nat := 17592186044416
theorem fWh_16 : fWh = 16 ^ 11 := by decide
theorem gQ_self (sm : fSt) : gQ sm (gI sm 12 0, gL sm 12 0 31, gA sm 12 0 10, gA sm 12 0 11, gB sm 12 0 8, gB sm 12 0 9) = sm := by
  apply st_ext
  · intro c i k
    simp only [gQ, gI_sB, gI_sA, gI_sL, gI_oS]
    split
    · rename_i h; rw [h.1, h.2.1]
    · rfl
  · intro c i k
    simp only [gQ, gL_sB, gL_sA, gL_sL, gL_oS]
    split
    · rename_i h; rw [h.1, h.2.1, h.2.2]
    · rfl
  · intro c i k
    simp only [gQ, gA_sB, gA_sA, gA_sL, gA_oS]
    split
    · rename_i h; rw [h.1, h.2.1, h.2.2]
    · split
      · rename_i h; rw [h.1, h.2.1, h.2.2]
      · rfl
  · intro c i k
    simp only [gQ, gB_sB, gB_sA, gB_sL, gB_oS]
    split
    · rename_i h; rw [h.1, h.2.1, h.2.2]
    · split
      · rename_i h; rw [h.1, h.2.1, h.2.2]
      · rfl
  · intro c i k; rfl
/-- the scratch cells as noRows leaves them -/
def qZ (sm : fSt) : qT := (fun k => if k = 36 then nI 12 else nI 0, lN 0, fun k => if k < 12 then nI 0 else gA sm 12 0 10 k, fun k => if k < 4096 then nI 0 else gA sm 12 0 11 k, fun k => if k < 10 then lN 0 else gB sm 12 0 8 k, fun k => if k < 12 then lN 0 else gB sm 12 0 9 k)
theorem m_noRows (sm : fSt) : f_X12_noRows sm = some ((), gQ sm (qZ sm)) := by
  have hnar : vp_nar .boolean (nI 0) = nI 0 := by decide
  have L51 : ∀ (k9 : fSt → Option (Unit × fSt)) (t : qT), f_X12_noRows_L51 k9 fF (nI 0) (gQ sm t) = k9 (gQ sm (t.1, t.2.1, t.2.2.1, fun k => if k < 4096 then nI 0 else t.2.2.2.1 k, t.2.2.2.2)) := by
    intro k9 t
    obtain ⟨m, e⟩ := lp_run (fun m (z : Int32 × fSt) => f_X12_noRows_L51 k9 m z.1 z.2) (fun i => (nI i, gQ sm (t.1, t.2.1, t.2.2.1, fun k => if k < i then nI 0 else t.2.2.2.1 k, t.2.2.2.2))) 4096 (fun m i hi => by
      show f_X12_noRows_L51 k9 (m + 1) (nI i) (gQ sm (t.1, t.2.1, t.2.2.1, fun k => if k < i then nI 0 else t.2.2.2.1 k, t.2.2.2.2)) = f_X12_noRows_L51 k9 m (nI (i + 1)) (gQ sm (t.1, t.2.1, t.2.2.1, fun k => if k < i + 1 then nI 0 else t.2.2.2.1 k, t.2.2.2.2))
      rw [f_X12_noRows_L51]
      simp (disch := omega) only [fLt_e, fBd_s, fJn_s, fNn_s, fNu_0, fNu_s, fBo_0, fBo_1, fBo_b, i_lit, i_le, if_neg, fIx_n, nI_clamp, nI_add, gQ_rX, gQ_sX, hnar]
      congr 2
      refine Prod.ext rfl (Prod.ext rfl (Prod.ext rfl (Prod.ext (funext fun k => ?_) rfl)))
      simp only [upd_at]
      by_cases hk : k = i
      · rw [if_pos hk, if_pos (by omega)]
      · rw [if_neg hk]
        by_cases hk2 : k < i
        · rw [if_pos hk2, if_pos (by omega)]
        · rw [if_neg hk2, if_neg (by omega)]) (fF_lt (by omega))
    refine Eq.trans ?_ (Eq.trans e ?_)
    · rfl
    · show f_X12_noRows_L51 k9 (m + 1) (nI 4096) (gQ sm (t.1, t.2.1, t.2.2.1, fun k => if k < 4096 then nI 0 else t.2.2.2.1 k, t.2.2.2.2)) = _
      rw [f_X12_noRows_L51]
      simp (disch := omega) only [fLt_e, fBd_s, fJn_s, fNn_s, fNu_0, fNu_s, fBo_0, fBo_1, fBo_b, i_lit, i_le, if_pos]
  have L23 : ∀ (k6 : fSt → Option (Unit × fSt)) (t : qT), f_X12_noRows_L23 k6 fF (nI 0) (gQ sm t) = k6 (gQ sm (t.1, t.2.1, fun k => if k < 12 then nI 0 else t.2.2.1 k, t.2.2.2.1, t.2.2.2.2.1, fun k => if k < 12 then lN 0 else t.2.2.2.2.2 k)) := by
    intro k6 t
    obtain ⟨m, e⟩ := lp_run (fun m (z : Int32 × fSt) => f_X12_noRows_L23 k6 m z.1 z.2) (fun i => (nI i, gQ sm (t.1, t.2.1, fun k => if k < i then nI 0 else t.2.2.1 k, t.2.2.2.1, t.2.2.2.2.1, fun k => if k < i then lN 0 else t.2.2.2.2.2 k))) 12 (fun m i hi => by
      show f_X12_noRows_L23 k6 (m + 1) (nI i) (gQ sm (t.1, t.2.1, fun k => if k < i then nI 0 else t.2.2.1 k, t.2.2.2.1, t.2.2.2.2.1, fun k => if k < i then lN 0 else t.2.2.2.2.2 k)) = f_X12_noRows_L23 k6 m (nI (i + 1)) (gQ sm (t.1, t.2.1, fun k => if k < i + 1 then nI 0 else t.2.2.1 k, t.2.2.2.1, t.2.2.2.2.1, fun k => if k < i + 1 then lN 0 else t.2.2.2.2.2 k))
      rw [f_X12_noRows_L23]
      simp (disch := omega) only [fLt_e, fBd_s, fJn_s, fNn_s, fNu_0, fNu_s, fBo_0, fBo_1, fBo_b, i_lit, l_lit, i_le, if_neg, fIx_n, nI_clamp, nI_add, gQ_rA, gQ_sA, gQ_rC, gQ_sC]
      congr 2
      refine Prod.ext rfl (Prod.ext rfl (Prod.ext (funext fun k => ?_) (Prod.ext rfl (Prod.ext rfl (funext fun k => ?_)))))
      · simp only [upd_at]
        by_cases hk : k = i
        · rw [if_pos hk, if_pos (by omega)]
        · rw [if_neg hk]
          by_cases hk2 : k < i
          · rw [if_pos hk2, if_pos (by omega)]
          · rw [if_neg hk2, if_neg (by omega)]
      · simp only [updL_at]
        by_cases hk : k = i
        · rw [if_pos hk, if_pos (by omega)]
        · rw [if_neg hk]
          by_cases hk2 : k < i
          · rw [if_pos hk2, if_pos (by omega)]
          · rw [if_neg hk2, if_neg (by omega)]) (fF_lt (by omega))
    refine Eq.trans ?_ (Eq.trans e ?_)
    · rfl
    · show f_X12_noRows_L23 k6 (m + 1) (nI 12) (gQ sm (t.1, t.2.1, fun k => if k < 12 then nI 0 else t.2.2.1 k, t.2.2.2.1, t.2.2.2.2.1, fun k => if k < 12 then lN 0 else t.2.2.2.2.2 k)) = _
      rw [f_X12_noRows_L23]
      simp (disch := omega) only [fLt_e, fBd_s, fJn_s, fNn_s, fNu_0, fNu_s, fBo_0, fBo_1, fBo_b, i_lit, i_le, if_pos]
  have L2 : ∀ (k3 : fSt → Option (Unit × fSt)) (t : qT), f_X12_noRows_L2 k3 fF (nI 0) (gQ sm t) = k3 (gQ sm (t.1, t.2.1, t.2.2.1, t.2.2.2.1, fun k => if k < 10 then lN 0 else t.2.2.2.2.1 k, t.2.2.2.2.2)) := by
    intro k3 t
    obtain ⟨m, e⟩ := lp_run (fun m (z : Int32 × fSt) => f_X12_noRows_L2 k3 m z.1 z.2) (fun i => (nI i, gQ sm (t.1, t.2.1, t.2.2.1, t.2.2.2.1, fun k => if k < i then lN 0 else t.2.2.2.2.1 k, t.2.2.2.2.2))) 10 (fun m i hi => by
      show f_X12_noRows_L2 k3 (m + 1) (nI i) (gQ sm (t.1, t.2.1, t.2.2.1, t.2.2.2.1, fun k => if k < i then lN 0 else t.2.2.2.2.1 k, t.2.2.2.2.2)) = f_X12_noRows_L2 k3 m (nI (i + 1)) (gQ sm (t.1, t.2.1, t.2.2.1, t.2.2.2.1, fun k => if k < i + 1 then lN 0 else t.2.2.2.2.1 k, t.2.2.2.2.2))
      rw [f_X12_noRows_L2]
      simp (disch := omega) only [fLt_e, fBd_s, fJn_s, fNn_s, fNu_0, fNu_s, fBo_0, fBo_1, fBo_b, i_lit, l_lit, i_le, if_neg, fIx_n, nI_clamp, nI_add, gQ_rB, gQ_sB]
      congr 2
      refine Prod.ext rfl (Prod.ext rfl (Prod.ext rfl (Prod.ext rfl (Prod.ext (funext fun k => ?_) rfl))))
      simp only [updL_at]
      by_cases hk : k = i
      · rw [if_pos hk, if_pos (by omega)]
      · rw [if_neg hk]
        by_cases hk2 : k < i
        · rw [if_pos hk2, if_pos (by omega)]
        · rw [if_neg hk2, if_neg (by omega)]) (fF_lt (by omega))
    refine Eq.trans ?_ (Eq.trans e ?_)
    · rfl
    · show f_X12_noRows_L2 k3 (m + 1) (nI 10) (gQ sm (t.1, t.2.1, t.2.2.1, t.2.2.2.1, fun k => if k < 10 then lN 0 else t.2.2.2.2.1 k, t.2.2.2.2.2)) = _
      rw [f_X12_noRows_L2]
      simp (disch := omega) only [fLt_e, fBd_s, fJn_s, fNn_s, fNu_0, fNu_s, fBo_0, fBo_1, fBo_b, i_lit, i_le, if_pos]
  have h0 := gQ_self sm
  have key : f_X12_noRows (gQ sm (gI sm 12 0, gL sm 12 0 31, gA sm 12 0 10, gA sm 12 0 11, gB sm 12 0 8, gB sm 12 0 9)) = some ((), gQ sm (qZ sm)) := by
    unfold f_X12_noRows
    simp (disch := omega) only [fLt_e, fBd_s, fJn_s, fNn_s, fNu_0, fNu_s, fBo_0, fBo_1, fBo_b, i_lit, l_lit, L2, L23, L51, gQ_sL, gQ_sI]
    refine congrArg (fun t => some ((), t)) ?_
    unfold gQ qZ
    congr 5
    refine oS_ext fun k h1 h2 => ?_
    simp only [upd_at]
    rcases (show k = 34 ∨ k = 35 ∨ k = 36 ∨ k = 37 ∨ k = 38 by omega) with rfl | rfl | rfl | rfl | rfl <;> rfl
  rw [h0] at key
  exact key
section
variable {sm : fSt} {G : Nat → Nat}
/-- the list of curtains of all rows, by a kind's sixteenths (kp = 0: 4 each) -/
def gCu (G : Nat → Nat) (kp : Nat) : List (Nat × Nat × Nat) := if gpl G (G 2) (G 5) = 0 then [] else gLn G (gsx G kp) 14 (G 2 - 1) (G 5) 0 fWh
theorem m_goAll (B : rBlk (gA sm 12 0 5) G) (w : gWf G) {kp : Nat} (hkp : kp ≤ G 3) : f_X12_goAll (xI kp) sm = some ((), gQ sm (((gCu G kp).map lNc).foldl (cq G) (qZ sm))) := by
  have w1 := w.1
  have w2 := w.2.1
  have BQ : rBlk (gA (gQ sm (qZ sm)) 12 0 5) G := B
  unfold f_X12_goAll gCu
  rw [m_noRows, fBd_s, m_isDark BQ w]
  by_cases hz : gpl G (G 2) (G 5) = 0
  · simp (disch := omega) only [fLt_e, fBd_s, fJn_s, fNn_s, fNu_0, fNu_s, fBo_0, fBo_1, fBo_b, i_lit, i_neg1, nI_add, pk_mul, nI_clamp, i_le, i_lt, i_eq, fIx_n, nI_mI, mI_nI, mI_lt, nI_lt_m, mI_le, nI_le_m, xI_0, xI_s, bI_0, bI_1, bI_t, bI_f, n_31, j_bit, j_one, i_and, i_or, Nat.not_lt_zero, Nat.succ_ne_zero, Nat.add_one_ne_zero, Nat.add_one_sub_one, Nat.zero_le, Nat.or_zero, Nat.zero_or, Bool.not_true, Bool.not_false, Bool.true_and, Bool.false_and, Bool.and_true, Bool.and_false, ↓reduceIte, if_true, if_false, not_true_eq_false, not_false_eq_true, true_and, and_true, false_and, and_false, and_self, true_or, or_true, false_or, or_false, Nat.reduceEqDiff, Nat.reduceLT, Nat.reduceLeDiff, Nat.reduceAdd, Nat.reduceMul, Nat.reduceSub, Nat.add_zero, Nat.zero_add, Nat.mul_zero, Nat.zero_mul, ne_eq, Bool.not_eq_true, Bool.not_eq_false, reduceCtorEq, decide_true, decide_false, decide_eq_true_eq, decide_eq_false_iff_not, Bool.false_eq_true, if_pos, if_neg, hz]
    rfl
  · have hg := gpl_full hz
    have h := m_goThrough B w hkp 14 (G 2 - 1) 0 0 (lN fWh) (qZ sm) (by omega) (by omega) (by omega) (by omega)
    rw [Nat.or_zero, gLs_n (gsx_16 w hkp) _ _ _ _ _ (by unfold fWh; omega)] at h
    have e1 : nI (G 2) - nI 1 = nI (G 2 - 1) := pk_sub (by omega)
    have e2 : (17592186044416 : Int64) = lN fWh := rfl
    rw [e2]
    simp (disch := omega) only [fLt_e, fBd_s, fJn_s, fNn_s, fNu_0, fNu_s, fBo_0, fBo_1, fBo_b, i_lit, i_neg1, nI_add, pk_mul, nI_clamp, i_le, i_lt, i_eq, fIx_n, nI_mI, mI_nI, mI_lt, nI_lt_m, mI_le, nI_le_m, xI_0, xI_s, bI_0, bI_1, bI_t, bI_f, n_31, j_bit, j_one, i_and, i_or, Nat.not_lt_zero, Nat.succ_ne_zero, Nat.add_one_ne_zero, Nat.add_one_sub_one, Nat.zero_le, Nat.or_zero, Nat.zero_or, Bool.not_true, Bool.not_false, Bool.true_and, Bool.false_and, Bool.and_true, Bool.and_false, ↓reduceIte, if_true, if_false, not_true_eq_false, not_false_eq_true, true_and, and_true, false_and, and_false, and_self, true_or, or_true, false_or, or_false, Nat.reduceEqDiff, Nat.reduceLT, Nat.reduceLeDiff, Nat.reduceAdd, Nat.reduceMul, Nat.reduceSub, Nat.add_zero, Nat.zero_add, Nat.mul_zero, Nat.zero_mul, ne_eq, Bool.not_eq_true, Bool.not_eq_false, reduceCtorEq, decide_true, decide_false, decide_eq_true_eq, decide_eq_false_iff_not, Bool.false_eq_true, if_pos, if_neg, hz, gQ_r5, B.1.2.2.1, e1, h]
end
