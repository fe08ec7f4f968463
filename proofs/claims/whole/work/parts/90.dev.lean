/-! layer 2: the reference's walk through all rows, as a fold over the list of its curtains -/
abbrev qT : Type := (Nat → Int32) × Int64 × (Nat → Int32) × (Nat → Int32) × (Nat → Int64) × (Nat → Int64)
def gQ (st : fSt) (t : qT) : fSt := sB (sB (sA (sA (sL (oS st 12 0 34 39 t.1) 12 0 31 t.2.1) 12 0 10 t.2.2.1) 12 0 11 t.2.2.2.1) 12 0 8 t.2.2.2.2.1) 12 0 9 t.2.2.2.2.2
theorem gQ_rI (st : fSt) (t : qT) {k : Nat} (h : 34 ≤ k ∧ k < 39) : gI (gQ st t) 12 0 k = t.1 k := by
  unfold gQ
  simp only [gI_sB, gI_sA, gI_sL, gI_oS, h, and_self, if_true]
theorem gQ_rL (st : fSt) (t : qT) : gL (gQ st t) 12 0 31 = t.2.1 := rfl
theorem gQ_rA (st : fSt) (t : qT) : gA (gQ st t) 12 0 10 = t.2.2.1 := rfl
theorem gQ_rX (st : fSt) (t : qT) : gA (gQ st t) 12 0 11 = t.2.2.2.1 := rfl
theorem gQ_rB (st : fSt) (t : qT) : gB (gQ st t) 12 0 8 = t.2.2.2.2.1 := rfl
theorem gQ_rC (st : fSt) (t : qT) : gB (gQ st t) 12 0 9 = t.2.2.2.2.2 := rfl
theorem gQ_r5 (st : fSt) (t : qT) : gA (gQ st t) 12 0 5 = gA st 12 0 5 := rfl
theorem gQ_sI (st : fSt) (t : qT) {k : Nat} (h : 34 ≤ k ∧ k < 39) (v : Int32) : sI (gQ st t) 12 0 k v = gQ st (upd t.1 k v, t.2) := by
  apply st_ext
  · intro c i j
    simp only [gQ, gI_sI, gI_sB, gI_sA, gI_sL, gI_oS, upd_at]
    by_cases h1 : c = 12 ∧ i = 0
    · by_cases h2 : j = k
      · simp only [h1, h2, h, true_and, and_self, if_true]
      · simp only [h1, h2, true_and, if_false, and_false]
    · simp only [← and_assoc, h1, false_and, if_false]
  all_goals intro c i j; rfl
theorem gQ_sL (st : fSt) (t : qT) (v : Int64) : sL (gQ st t) 12 0 31 v = gQ st (t.1, v, t.2.2) := by
  apply st_ext
  · intro c i j; rfl
  · intro c i j
    simp only [gQ, gL_sL, gL_sB, gL_sA, gL_oS]
    split <;> rfl
  all_goals intro c i j; rfl
theorem gQ_sA (st : fSt) (t : qT) (v : Nat → Int32) : sA (gQ st t) 12 0 10 v = gQ st (t.1, t.2.1, v, t.2.2.2) := by
  apply st_ext
  · intro c i j; rfl
  · intro c i j; rfl
  · intro c i j
    simp only [gQ, gA_sA, gA_sB, gA_sL, gA_oS]
    by_cases h : c = 12 ∧ i = 0 ∧ j = 10
    · obtain ⟨rfl, rfl, rfl⟩ := h
      simp only [and_self, if_true, Nat.reduceEqDiff, and_false, if_false]
    · simp only [h, if_false]
  all_goals intro c i j; rfl
theorem gQ_sX (st : fSt) (t : qT) (v : Nat → Int32) : sA (gQ st t) 12 0 11 v = gQ st (t.1, t.2.1, t.2.2.1, v, t.2.2.2.2) := by
  apply st_ext
  · intro c i j; rfl
  · intro c i j; rfl
  · intro c i j
    simp only [gQ, gA_sA, gA_sB, gA_sL, gA_oS]
    split <;> rfl
  all_goals intro c i j; rfl
theorem gQ_sB (st : fSt) (t : qT) (v : Nat → Int64) : sB (gQ st t) 12 0 8 v = gQ st (t.1, t.2.1, t.2.2.1, t.2.2.2.1, v, t.2.2.2.2.2) := by
  apply st_ext
  · intro c i j; rfl
  · intro c i j; rfl
  · intro c i j; rfl
  · intro c i j
    simp only [gQ, gB_sB, gB_sA, gB_sL, gB_oS]
    by_cases h : c = 12 ∧ i = 0 ∧ j = 8
    · obtain ⟨rfl, rfl, rfl⟩ := h
      simp only [and_self, if_true, Nat.reduceEqDiff, and_false, if_false]
    · simp only [h, if_false]
  · intro c i j; rfl
theorem gQ_sC (st : fSt) (t : qT) (v : Nat → Int64) : sB (gQ st t) 12 0 9 v = gQ st (t.1, t.2.1, t.2.2.1, t.2.2.2.1, t.2.2.2.2.1, v) := by
  apply st_ext
  · intro c i j; rfl
  · intro c i j; rfl
  · intro c i j; rfl
  · intro c i j
    simp only [gQ, gB_sB, gB_sA, gB_sL, gB_oS]
    split <;> rfl
  · intro c i j; rfl
def gsl (G : Nat → Nat) (s : Nat) : Nat := if G (49 + s) = 0 then 9 else G (49 + s) - 1
abbrev cT : Type := Nat × Nat × Int64
def cq1 (G : Nat → Nat) (c : cT) (t : qT) : qT :=
  (fun k => if k = 34 then t.1 34 + nI 1 else if k = 35 then (if t.1 35 < nI (pcn c.2.1) then nI (pcn c.2.1) else t.1 35) else if k = 36 then (if nI (pcn c.2.1) < t.1 36 then nI (pcn c.2.1) else t.1 36) else if k = 37 then t.1 37 ||| nI c.2.1 else if k = 38 then t.1 38 ||| nI (2 ^ gsl G c.1) else t.1 k,
   t.2.1, t.2.2.1, upd t.2.2.2.1 c.2.1 (nI 1), vp_updL t.2.2.2.2.1 (gsl G c.1) (t.2.2.2.2.1 (gsl G c.1) + c.2.2), t.2.2.2.2.2)
def cq2 (G : Nat → Nat) (c : cT) (k : Nat) (t : qT) : qT :=
  if c.2.1.testBit k then (t.1, t.2.1 + c.2.2 * lN (gbr G k), upd t.2.2.1 k (t.2.2.1 k ||| nI (2 ^ gsl G c.1)), t.2.2.2.1, t.2.2.2.2.1, vp_updL t.2.2.2.2.2 k (t.2.2.2.2.2 k + c.2.2)) else t
def cq (G : Nat → Nat) (t : qT) (c : cT) : qT := rng (cq2 G c) (G 2) (cq1 G c t)
def gsx (G : Nat → Nat) (kp d : Nat) : Nat := if kp = 0 then 4 else if d = 0 then 16 - G (124 + kp) - G (128 + kp) - G (132 + kp) else if d = 1 then G (124 + kp) else if d = 2 then G (128 + kp) else G (132 + kp)
def gag (ts : Nat → Nat) (d : Nat) : Nat → Bool
  | 0 => false
  | n + 1 => gag ts d n || (decide (ts n = ts d) && decide (n < d))
def gal (ts sx : Nat → Nat) (d : Nat) : Nat → Nat := zs (fun o => if ts o = ts d then sx o else 0)
def gLs (G sx : Nat → Nat) : Nat → Nat → Nat → Nat → Int64 → List cT
  | 0, _, _, _, _ => []
  | n + 1, s, g, ah, w => if zs (fun d => if gnx G s d (gkil G s g) = 0 then 1 else 0) 4 = 4 then [(s, ah ||| 2 ^ s, w)] else
      (List.range 4).flatMap fun d => if gag (fun d => gnx G s d (gkil G s g)) d 4 then [] else
        if gnx G s d (gkil G s g) = 0 then [(s, ah ||| 2 ^ s, w / 16 * lN (gal (fun d => gnx G s d (gkil G s g)) sx d 4))]
        else gLs G sx n (gnx G s d (gkil G s g) - 1) (gkil G s g) (ah ||| 2 ^ s) (w / 16 * lN (gal (fun d => gnx G s d (gkil G s g)) sx d 4))
section
variable {sm : fSt} {G : Nat → Nat}
theorem gsl_le (w : gWf G) {s : Nat} (hs : s < G 2) : gsl G s ≤ 9 := by
  have := (w.2.2.2.1 s hs).2.2.1
  unfold gsl
  split <;> omega
theorem m_ending (B : rBlk (gA sm 12 0 5) G) (w : gWf G) {s : Nat} (hs : s < G 2) : f_X12_ending (nI s) sm = some (nI (gsl G s), sm) := by
  have h := w.1
  have h2 := (w.2.2.2.1 s hs).2.2.1
  obtain ⟨-, -, e, -⟩ := B.2.2.1 s hs
  unfold f_X12_ending gsl
  cases hv : G (49 + s) with
  | zero => simp (disch := omega) only [fLt_e, fBd_s, fJn_s, fNn_s, fNu_0, fNu_s, fBo_0, fBo_1, fBo_b, i_lit, i_neg1, nI_add, pk_mul, nI_clamp, i_le, i_lt, i_eq, fIx_n, nI_mI, mI_nI, mI_lt, nI_lt_m, mI_le, nI_le_m, xI_0, xI_s, bI_0, bI_1, bI_t, bI_f, n_31, j_bit, j_one, i_and, i_or, Nat.not_lt_zero, Nat.succ_ne_zero, Nat.add_one_ne_zero, Nat.add_one_sub_one, Nat.zero_le, Nat.or_zero, Nat.zero_or, Bool.not_true, Bool.not_false, Bool.true_and, Bool.false_and, Bool.and_true, Bool.and_false, ↓reduceIte, if_true, if_false, not_true_eq_false, not_false_eq_true, true_and, and_true, false_and, and_false, and_self, true_or, or_true, false_or, or_false, Nat.reduceEqDiff, Nat.reduceLT, Nat.reduceLeDiff, Nat.reduceAdd, Nat.reduceMul, Nat.reduceSub, Nat.add_zero, Nat.zero_add, Nat.mul_zero, Nat.zero_mul, ne_eq, Bool.not_eq_true, Bool.not_eq_false, reduceCtorEq, decide_true, decide_false, decide_eq_true_eq, decide_eq_false_iff_not, Bool.false_eq_true, if_pos, if_neg, e, hv]
  | succ v => simp (disch := omega) only [fLt_e, fBd_s, fJn_s, fNn_s, fNu_0, fNu_s, fBo_0, fBo_1, fBo_b, i_lit, i_neg1, nI_add, pk_mul, nI_clamp, i_le, i_lt, i_eq, fIx_n, nI_mI, mI_nI, mI_lt, nI_lt_m, mI_le, nI_le_m, xI_0, xI_s, bI_0, bI_1, bI_t, bI_f, n_31, j_bit, j_one, i_and, i_or, Nat.not_lt_zero, Nat.succ_ne_zero, Nat.add_one_ne_zero, Nat.add_one_sub_one, Nat.zero_le, Nat.or_zero, Nat.zero_or, Bool.not_true, Bool.not_false, Bool.true_and, Bool.false_and, Bool.and_true, Bool.and_false, ↓reduceIte, if_true, if_false, not_true_eq_false, not_false_eq_true, true_and, and_true, false_and, and_false, and_self, true_or, or_true, false_or, or_false, Nat.reduceEqDiff, Nat.reduceLT, Nat.reduceLeDiff, Nat.reduceAdd, Nat.reduceMul, Nat.reduceSub, Nat.add_zero, Nat.zero_add, Nat.mul_zero, Nat.zero_mul, ne_eq, Bool.not_eq_true, Bool.not_eq_false, reduceCtorEq, decide_true, decide_false, decide_eq_true_eq, decide_eq_false_iff_not, Bool.false_eq_true, if_pos, if_neg, e, hv]
theorem m_six (B : rBlk (gA sm 12 0 5) G) (w : gWf G) {kp d : Nat} (hk : kp ≤ G 3) (hd : d < 4) : f_X12_sixteenths (xI kp) (nI d) sm = some (nI (gsx G kp d), sm) := by
  have h := w.1
  unfold f_X12_sixteenths gsx
  cases kp with
  | zero => simp (disch := omega) only [fLt_e, fBd_s, fJn_s, fNn_s, fNu_0, fNu_s, fBo_0, fBo_1, fBo_b, i_lit, i_neg1, nI_add, pk_mul, nI_clamp, i_le, i_lt, i_eq, fIx_n, nI_mI, mI_nI, mI_lt, nI_lt_m, mI_le, nI_le_m, xI_0, xI_s, bI_0, bI_1, bI_t, bI_f, n_31, j_bit, j_one, i_and, i_or, Nat.not_lt_zero, Nat.succ_ne_zero, Nat.add_one_ne_zero, Nat.add_one_sub_one, Nat.zero_le, Nat.or_zero, Nat.zero_or, Bool.not_true, Bool.not_false, Bool.true_and, Bool.false_and, Bool.and_true, Bool.and_false, ↓reduceIte, if_true, if_false, not_true_eq_false, not_false_eq_true, true_and, and_true, false_and, and_false, and_self, true_or, or_true, false_or, or_false, Nat.reduceEqDiff, Nat.reduceLT, Nat.reduceLeDiff, Nat.reduceAdd, Nat.reduceMul, Nat.reduceSub, Nat.add_zero, Nat.zero_add, Nat.mul_zero, Nat.zero_mul, ne_eq, Bool.not_eq_true, Bool.not_eq_false, reduceCtorEq, decide_true, decide_false, decide_eq_true_eq, decide_eq_false_iff_not, Bool.false_eq_true, if_pos, if_neg]
  | succ k =>
    have h2 := (w.2.2.2.2.1 k (by omega)).2
    obtain ⟨-, e1, e2, e3⟩ := B.2.2.2.1 k (by omega)
    have a1 : 124 + (k + 1) = 125 + k := by omega
    have a2 : 128 + (k + 1) = 129 + k := by omega
    have a3 : 132 + (k + 1) = 133 + k := by omega
    have d1 : nI 16 - nI (G (125 + k)) - nI (G (129 + k)) - nI (G (133 + k)) = nI (16 - G (125 + k) - G (129 + k) - G (133 + k)) := by
      rw [pk_sub (by omega), pk_sub (by omega), pk_sub (by omega)]
    rcases (show d = 0 ∨ d = 1 ∨ d = 2 ∨ d = 3 by omega) with rfl | rfl | rfl | rfl <;> simp (disch := omega) only [fLt_e, fBd_s, fJn_s, fNn_s, fNu_0, fNu_s, fBo_0, fBo_1, fBo_b, i_lit, i_neg1, nI_add, pk_mul, nI_clamp, i_le, i_lt, i_eq, fIx_n, nI_mI, mI_nI, mI_lt, nI_lt_m, mI_le, nI_le_m, xI_0, xI_s, bI_0, bI_1, bI_t, bI_f, n_31, j_bit, j_one, i_and, i_or, Nat.not_lt_zero, Nat.succ_ne_zero, Nat.add_one_ne_zero, Nat.add_one_sub_one, Nat.zero_le, Nat.or_zero, Nat.zero_or, Bool.not_true, Bool.not_false, Bool.true_and, Bool.false_and, Bool.and_true, Bool.and_false, ↓reduceIte, if_true, if_false, not_true_eq_false, not_false_eq_true, true_and, and_true, false_and, and_false, and_self, true_or, or_true, false_or, or_false, Nat.reduceEqDiff, Nat.reduceLT, Nat.reduceLeDiff, Nat.reduceAdd, Nat.reduceMul, Nat.reduceSub, Nat.add_zero, Nat.zero_add, Nat.mul_zero, Nat.zero_mul, ne_eq, Bool.not_eq_true, Bool.not_eq_false, reduceCtorEq, decide_true, decide_false, decide_eq_true_eq, decide_eq_false_iff_not, Bool.false_eq_true, if_pos, if_neg, a1, a2, a3, e1, e2, e3, d1]
theorem gsx_le (w : gWf G) {kp d : Nat} (hk : kp ≤ G 3) : gsx G kp d ≤ 16 := by
  unfold gsx
  by_cases h : kp = 0
  · rw [if_pos h]; omega
  · have h2 := (w.2.2.2.2.1 (kp - 1) (by omega)).2
    rw [show 125 + (kp - 1) = 124 + kp by omega, show 129 + (kp - 1) = 128 + kp by omega, show 133 + (kp - 1) = 132 + kp by omega] at h2
    rw [if_neg h]
    repeat' split
    all_goals omega
theorem m_curtain (B : rBlk (gA sm 12 0 5) G) (w : gWf G) {c : cT} (hs : c.1 < G 2) (hse : c.2.1 < 4096) (t : qT) : f_X12_curtain (nI c.1) (nI c.2.1) c.2.2 (gQ sm t) = some ((), gQ sm (cq G t c)) := by
  obtain ⟨s, se, wt⟩ := c
  simp only at hs hse
  have h := w.1
  have hsl := gsl_le w hs
  have hen := fun t => m_ending (sm := gQ sm t) B w hs
  have hbi := fun st => m_bits (show se < 2 ^ 31 by omega) st
  have hL : ∀ t0, f_X12_curtain_L90 (nI s) (nI se) wt fF (nI 0) (gQ sm t0) = some ((), gQ sm (rng (cq2 G (s, se, wt)) (G 2) t0)) := by
    intro t0
    obtain ⟨m, e⟩ := lp_run (fun m (z : Int32 × fSt) => f_X12_curtain_L90 (nI s) (nI se) wt m z.1 z.2) (fun k => (nI k, gQ sm (rng (cq2 G (s, se, wt)) k t0))) (G 2) (fun m k hk => by
      show f_X12_curtain_L90 (nI s) (nI se) wt (m + 1) (nI k) (gQ sm (rng (cq2 G (s, se, wt)) k t0)) = f_X12_curtain_L90 (nI s) (nI se) wt m (nI (k + 1)) (gQ sm (cq2 G (s, se, wt) k (rng (cq2 G (s, se, wt)) k t0)))
      generalize rng (cq2 G (s, se, wt)) k t0 = t1
      have hb := fun t => m_breathsOf (sm := gQ sm t) B w hk
      have hgb := gbr_le w hk
      rw [f_X12_curtain_L90]
      unfold cq2
      cases hbit : se.testBit k
      · simp (disch := omega) only [fLt_e, fBd_s, fJn_s, fNn_s, fNu_0, fNu_s, fBo_0, fBo_1, fBo_b, i_lit, i_neg1, nI_add, pk_mul, nI_clamp, i_le, i_lt, i_eq, fIx_n, nI_mI, mI_nI, mI_lt, nI_lt_m, mI_le, nI_le_m, xI_0, xI_s, bI_0, bI_1, bI_t, bI_f, n_31, j_bit, j_one, i_and, i_or, Nat.not_lt_zero, Nat.succ_ne_zero, Nat.add_one_ne_zero, Nat.add_one_sub_one, Nat.zero_le, Nat.or_zero, Nat.zero_or, Bool.not_true, Bool.not_false, Bool.true_and, Bool.false_and, Bool.and_true, Bool.and_false, ↓reduceIte, if_true, if_false, not_true_eq_false, not_false_eq_true, true_and, and_true, false_and, and_false, and_self, true_or, or_true, false_or, or_false, Nat.reduceEqDiff, Nat.reduceLT, Nat.reduceLeDiff, Nat.reduceAdd, Nat.reduceMul, Nat.reduceSub, Nat.add_zero, Nat.zero_add, Nat.mul_zero, Nat.zero_mul, ne_eq, Bool.not_eq_true, Bool.not_eq_false, reduceCtorEq, decide_true, decide_false, decide_eq_true_eq, decide_eq_false_iff_not, Bool.false_eq_true, if_pos, if_neg, gQ_r5, B.1.2.2.1, m_has, hbit]
      · simp (disch := omega) only [fLt_e, fBd_s, fJn_s, fNn_s, fNu_0, fNu_s, fBo_0, fBo_1, fBo_b, i_lit, i_neg1, nI_add, pk_mul, nI_clamp, i_le, i_lt, i_eq, fIx_n, nI_mI, mI_nI, mI_lt, nI_lt_m, mI_le, nI_le_m, xI_0, xI_s, bI_0, bI_1, bI_t, bI_f, n_31, j_bit, j_one, i_and, i_or, Nat.not_lt_zero, Nat.succ_ne_zero, Nat.add_one_ne_zero, Nat.add_one_sub_one, Nat.zero_le, Nat.or_zero, Nat.zero_or, Bool.not_true, Bool.not_false, Bool.true_and, Bool.false_and, Bool.and_true, Bool.and_false, ↓reduceIte, if_true, if_false, not_true_eq_false, not_false_eq_true, true_and, and_true, false_and, and_false, and_self, true_or, or_true, false_or, or_false, Nat.reduceEqDiff, Nat.reduceLT, Nat.reduceLeDiff, Nat.reduceAdd, Nat.reduceMul, Nat.reduceSub, Nat.add_zero, Nat.zero_add, Nat.mul_zero, Nat.zero_mul, ne_eq, Bool.not_eq_true, Bool.not_eq_false, reduceCtorEq, decide_true, decide_false, decide_eq_true_eq, decide_eq_false_iff_not, Bool.false_eq_true, if_pos, if_neg, gQ_r5, B.1.2.2.1, m_has, hbit, hen, gQ_rA, gQ_sA, gQ_rC, gQ_sC, hb, gQ_rL, gQ_sL, nI_l]) (fF_lt (by omega))
    refine Eq.trans e ?_
    show f_X12_curtain_L90 (nI s) (nI se) wt (m + 1) (nI (G 2)) (gQ sm (rng (cq2 G (s, se, wt)) (G 2) t0)) = _
    rw [f_X12_curtain_L90]
    simp (disch := omega) only [fLt_e, fBd_s, fJn_s, fNn_s, fNu_0, fNu_s, fBo_0, fBo_1, fBo_b, i_lit, i_neg1, nI_add, pk_mul, nI_clamp, i_le, i_lt, i_eq, fIx_n, nI_mI, mI_nI, mI_lt, nI_lt_m, mI_le, nI_le_m, xI_0, xI_s, bI_0, bI_1, bI_t, bI_f, n_31, j_bit, j_one, i_and, i_or, Nat.not_lt_zero, Nat.succ_ne_zero, Nat.add_one_ne_zero, Nat.add_one_sub_one, Nat.zero_le, Nat.or_zero, Nat.zero_or, Bool.not_true, Bool.not_false, Bool.true_and, Bool.false_and, Bool.and_true, Bool.and_false, ↓reduceIte, if_true, if_false, not_true_eq_false, not_false_eq_true, true_and, and_true, false_and, and_false, and_self, true_or, or_true, false_or, or_false, Nat.reduceEqDiff, Nat.reduceLT, Nat.reduceLeDiff, Nat.reduceAdd, Nat.reduceMul, Nat.reduceSub, Nat.add_zero, Nat.zero_add, Nat.mul_zero, Nat.zero_mul, ne_eq, Bool.not_eq_true, Bool.not_eq_false, reduceCtorEq, decide_true, decide_false, decide_eq_true_eq, decide_eq_false_iff_not, Bool.false_eq_true, if_pos, if_neg, gQ_r5, B.1.2.2.1]
  unfold f_X12_curtain cq
  have hnar : vp_nar .boolean (nI 1) = nI 1 := by decide
  simp (disch := omega) only [fLt_e, fBd_s, fJn_s, fNn_s, fNu_0, fNu_s, fBo_0, fBo_1, fBo_b, Nat.not_lt_zero, Nat.succ_ne_zero, Nat.add_one_ne_zero, Nat.add_one_sub_one, Nat.zero_le, Nat.or_zero, Nat.zero_or, Bool.not_true, Bool.not_false, Bool.true_and, Bool.false_and, Bool.and_true, Bool.and_false, ↓reduceIte, if_true, if_false, not_true_eq_false, not_false_eq_true, true_and, and_true, false_and, and_false, and_self, true_or, or_true, false_or, or_false, Nat.reduceEqDiff, Nat.reduceLT, Nat.reduceLeDiff, Nat.reduceAdd, Nat.reduceMul, Nat.reduceSub, Nat.add_zero, Nat.zero_add, Nat.mul_zero, Nat.zero_mul, ne_eq, Bool.not_eq_true, Bool.not_eq_false, reduceCtorEq, decide_true, decide_false, decide_eq_true_eq, decide_eq_false_iff_not, Bool.false_eq_true, i_lit, nI_clamp, fIx_n, n_31, i_and, j_one, hbi, hen, gQ_rI, gQ_sI, gQ_rX, gQ_sX, gQ_rB, gQ_sB, hnar, hL]
  refine congrArg (fun t => some ((), gQ sm (rng (cq2 G (s, se, wt)) (G 2) t))) ?_
  unfold cq1
  refine Prod.ext (funext fun k => ?_) rfl
  simp only [upd_at]
  by_cases h4 : k = 34
  · subst h4; simp
  · by_cases h5 : k = 35
    · subst h5; simp
    · by_cases h6 : k = 36
      · subst h6; simp
      · by_cases h7 : k = 37
        · subst h7; simp
        · by_cases h8 : k = 38
          · subst h8; simp
          · simp only [h4, h5, h6, h7, h8, if_false]
theorem m_thL90 (B : rBlk (gA sm 12 0 5) G) (w : gWf G) {kp s kl d : Nat} (hk : kp ≤ G 3) (hs : s < G 2) (hkl : kl < 64) (hd : d < 4) (k20 : Int32 → Int32 → fSt → Option (Unit × fSt)) : f_X12_goThrough_L90 (nI s) (nI kl) (xI kp) (nI d) (xI (gnx G s d (gkil G s (G 5 ||| kl)))) k20 fF (nI 0) (nI 0) (nI 0) sm = k20 (bI (gag (fun d => gnx G s d (gkil G s (G 5 ||| kl))) d 4)) (nI (gal (fun d => gnx G s d (gkil G s (G 5 ||| kl))) (gsx G kp) d 4)) sm := by
  have h := w.1
  have hgo : G 5 ||| gkil G s kl = gkil G s (G 5 ||| kl) := (gkil_or G s (G 5) kl).symm
  generalize hts : (fun d => gnx G s d (gkil G s (G 5 ||| kl))) = ts
  have hte : ∀ d, gnx G s d (gkil G s (G 5 ||| kl)) = ts d := fun d => by rw [← hts]
  obtain ⟨m, e⟩ := lp_run (fun m (z : Int32 × Int32 × Int32) => f_X12_goThrough_L90 (nI s) (nI kl) (xI kp) (nI d) (xI (ts d)) k20 m z.1 z.2.1 z.2.2 sm) (fun o => (bI (gag ts d o), nI (gal ts (gsx G kp) d o), nI o)) 4 (fun m o ho => by
    show f_X12_goThrough_L90 (nI s) (nI kl) (xI kp) (nI d) (xI (ts d)) k20 (m + 1) (bI (gag ts d o)) (nI (gal ts (gsx G kp) d o)) (nI o) sm = f_X12_goThrough_L90 (nI s) (nI kl) (xI kp) (nI d) (xI (ts d)) k20 m (bI (gag ts d (o + 1))) (nI (gal ts (gsx G kp) d (o + 1))) (nI (o + 1)) sm
    have hb := m_behind2 B w hs ho hkl
    rw [hgo, hte] at hb
    have h6 := m_six B w hk ho
    have to := gnx_le w hs ho (gkil G s (G 5 ||| kl))
    have td := gnx_le w hs hd (gkil G s (G 5 ||| kl))
    rw [hte] at to td
    rw [f_X12_goThrough_L90]
    have ga : gal ts (gsx G kp) d (o + 1) = gal ts (gsx G kp) d o + if ts o = ts d then gsx G kp o else 0 := rfl
    have gg : gag ts d (o + 1) = (gag ts d o || (decide (ts o = ts d) && decide (o < d))) := rfl
    rw [ga, gg]
    by_cases heq : ts o = ts d
    · have hx : (xI (ts o) = xI (ts d)) = True := by rw [heq]; simp
      cases hag : gag ts d o
      · by_cases hod : o < d
        · simp (disch := omega) only [fLt_e, fBd_s, fJn_s, fNn_s, fNu_0, fNu_s, fBo_0, fBo_1, fBo_b, i_lit, i_neg1, nI_add, pk_mul, nI_clamp, i_le, i_lt, i_eq, fIx_n, nI_mI, mI_nI, mI_lt, nI_lt_m, mI_le, nI_le_m, xI_0, xI_s, bI_0, bI_1, bI_t, bI_f, n_31, j_bit, j_one, i_and, i_or, Nat.not_lt_zero, Nat.succ_ne_zero, Nat.add_one_ne_zero, Nat.add_one_sub_one, Nat.zero_le, Nat.or_zero, Nat.zero_or, Bool.not_true, Bool.not_false, Bool.true_and, Bool.false_and, Bool.and_true, Bool.and_false, ↓reduceIte, if_true, if_false, not_true_eq_false, not_false_eq_true, true_and, and_true, false_and, and_false, and_self, true_or, or_true, false_or, or_false, Nat.reduceEqDiff, Nat.reduceLT, Nat.reduceLeDiff, Nat.reduceAdd, Nat.reduceMul, Nat.reduceSub, Nat.add_zero, Nat.zero_add, Nat.mul_zero, Nat.zero_mul, ne_eq, Bool.not_eq_true, Bool.not_eq_false, reduceCtorEq, decide_true, decide_false, decide_eq_true_eq, decide_eq_false_iff_not, Bool.false_eq_true, if_pos, if_neg, hb, hx, h6, heq, hag, hod, Bool.false_or]
        · simp (disch := omega) only [fLt_e, fBd_s, fJn_s, fNn_s, fNu_0, fNu_s, fBo_0, fBo_1, fBo_b, i_lit, i_neg1, nI_add, pk_mul, nI_clamp, i_le, i_lt, i_eq, fIx_n, nI_mI, mI_nI, mI_lt, nI_lt_m, mI_le, nI_le_m, xI_0, xI_s, bI_0, bI_1, bI_t, bI_f, n_31, j_bit, j_one, i_and, i_or, Nat.not_lt_zero, Nat.succ_ne_zero, Nat.add_one_ne_zero, Nat.add_one_sub_one, Nat.zero_le, Nat.or_zero, Nat.zero_or, Bool.not_true, Bool.not_false, Bool.true_and, Bool.false_and, Bool.and_true, Bool.and_false, ↓reduceIte, if_true, if_false, not_true_eq_false, not_false_eq_true, true_and, and_true, false_and, and_false, and_self, true_or, or_true, false_or, or_false, Nat.reduceEqDiff, Nat.reduceLT, Nat.reduceLeDiff, Nat.reduceAdd, Nat.reduceMul, Nat.reduceSub, Nat.add_zero, Nat.zero_add, Nat.mul_zero, Nat.zero_mul, ne_eq, Bool.not_eq_true, Bool.not_eq_false, reduceCtorEq, decide_true, decide_false, decide_eq_true_eq, decide_eq_false_iff_not, Bool.false_eq_true, if_pos, if_neg, hb, hx, h6, heq, hag, hod, Bool.false_or]
      · simp (disch := omega) only [fLt_e, fBd_s, fJn_s, fNn_s, fNu_0, fNu_s, fBo_0, fBo_1, fBo_b, i_lit, i_neg1, nI_add, pk_mul, nI_clamp, i_le, i_lt, i_eq, fIx_n, nI_mI, mI_nI, mI_lt, nI_lt_m, mI_le, nI_le_m, xI_0, xI_s, bI_0, bI_1, bI_t, bI_f, n_31, j_bit, j_one, i_and, i_or, Nat.not_lt_zero, Nat.succ_ne_zero, Nat.add_one_ne_zero, Nat.add_one_sub_one, Nat.zero_le, Nat.or_zero, Nat.zero_or, Bool.not_true, Bool.not_false, Bool.true_and, Bool.false_and, Bool.and_true, Bool.and_false, ↓reduceIte, if_true, if_false, not_true_eq_false, not_false_eq_true, true_and, and_true, false_and, and_false, and_self, true_or, or_true, false_or, or_false, Nat.reduceEqDiff, Nat.reduceLT, Nat.reduceLeDiff, Nat.reduceAdd, Nat.reduceMul, Nat.reduceSub, Nat.add_zero, Nat.zero_add, Nat.mul_zero, Nat.zero_mul, ne_eq, Bool.not_eq_true, Bool.not_eq_false, reduceCtorEq, decide_true, decide_false, decide_eq_true_eq, decide_eq_false_iff_not, Bool.false_eq_true, if_pos, if_neg, hb, hx, h6, heq, hag, Bool.true_or]
    · have hx : (xI (ts o) = xI (ts d)) = False := by rw [xI_eq (by omega) (by omega)]; simp [heq]
      simp (disch := omega) only [fLt_e, fBd_s, fJn_s, fNn_s, fNu_0, fNu_s, fBo_0, fBo_1, fBo_b, i_lit, i_neg1, nI_add, pk_mul, nI_clamp, i_le, i_lt, i_eq, fIx_n, nI_mI, mI_nI, mI_lt, nI_lt_m, mI_le, nI_le_m, xI_0, xI_s, bI_0, bI_1, bI_t, bI_f, n_31, j_bit, j_one, i_and, i_or, Nat.not_lt_zero, Nat.succ_ne_zero, Nat.add_one_ne_zero, Nat.add_one_sub_one, Nat.zero_le, Nat.or_zero, Nat.zero_or, Bool.not_true, Bool.not_false, Bool.true_and, Bool.false_and, Bool.and_true, Bool.and_false, ↓reduceIte, if_true, if_false, not_true_eq_false, not_false_eq_true, true_and, and_true, false_and, and_false, and_self, true_or, or_true, false_or, or_false, Nat.reduceEqDiff, Nat.reduceLT, Nat.reduceLeDiff, Nat.reduceAdd, Nat.reduceMul, Nat.reduceSub, Nat.add_zero, Nat.zero_add, Nat.mul_zero, Nat.zero_mul, ne_eq, Bool.not_eq_true, Bool.not_eq_false, reduceCtorEq, decide_true, decide_false, decide_eq_true_eq, decide_eq_false_iff_not, Bool.false_eq_true, if_pos, if_neg, hb, hx, heq, Bool.or_false]) (fF_lt (by omega))
  rw [hte]
  refine Eq.trans e ?_
  show f_X12_goThrough_L90 (nI s) (nI kl) (xI kp) (nI d) (xI (ts d)) k20 (m + 1) (bI (gag ts d 4)) (nI (gal ts (gsx G kp) d 4)) (nI 4) sm = _
  rw [f_X12_goThrough_L90]
  simp (disch := omega) only [fLt_e, fBd_s, fJn_s, fNn_s, fNu_0, fNu_s, fBo_0, fBo_1, fBo_b, i_lit, i_neg1, nI_add, pk_mul, nI_clamp, i_le, i_lt, i_eq, fIx_n, nI_mI, mI_nI, mI_lt, nI_lt_m, mI_le, nI_le_m, xI_0, xI_s, bI_0, bI_1, bI_t, bI_f, n_31, j_bit, j_one, i_and, i_or, Nat.not_lt_zero, Nat.succ_ne_zero, Nat.add_one_ne_zero, Nat.add_one_sub_one, Nat.zero_le, Nat.or_zero, Nat.zero_or, Bool.not_true, Bool.not_false, Bool.true_and, Bool.false_and, Bool.and_true, Bool.and_false, ↓reduceIte, if_true, if_false, not_true_eq_false, not_false_eq_true, true_and, and_true, false_and, and_false, and_self, true_or, or_true, false_or, or_false, Nat.reduceEqDiff, Nat.reduceLT, Nat.reduceLeDiff, Nat.reduceAdd, Nat.reduceMul, Nat.reduceSub, Nat.add_zero, Nat.zero_add, Nat.mul_zero, Nat.zero_mul, ne_eq, Bool.not_eq_true, Bool.not_eq_false, reduceCtorEq, decide_true, decide_false, decide_eq_true_eq, decide_eq_false_iff_not, Bool.false_eq_true, if_pos, if_neg]
end
/-! layer 2: the walk's induction; goAll -/
section
variable {sm : fSt} {G : Nat → Nat}
theorem m_goThrough (B : rBlk (gA sm 12 0 5) G) (w : gWf G) {kp : Nat} (hkp : kp ≤ G 3) : ∀ n s kl ah (wt : Int64) (t : qT), s < G 2 → s < n → kl < 64 → ah < 4096 → f_X12_goThrough n (nI s) (nI kl) (nI ah) wt (xI kp) (gQ sm t) = some ((), gQ sm ((gLs G (gsx G kp) n s (G 5 ||| kl) ah wt).foldl (cq G) t)) := by
  intro n
  induction n with
  | zero => intro s kl ah wt t _ h; omega
  | succ n ih =>
    intro s kl ah wt t hs hsn hkl hah
    have h := w.1
    have hgo : G 5 ||| gkil G s kl = gkil G s (G 5 ||| kl) := (gkil_or G s (G 5) kl).symm
    have hse : ah ||| 2 ^ s < 4096 := Nat.or_lt_two_pow (n := 12) hah (Nat.pow_lt_pow_right (by omega) (by omega))
    have BQ : ∀ t, rBlk (gA (gQ sm t) 12 0 5) G := fun t => B
    have hbe : ∀ t d, d < 4 → f_X12_behind2 (nI s) (nI d) (nI kl) (gQ sm t) = some (xI (gnx G s d (gkil G s (G 5 ||| kl))), gQ sm t) := fun t d hd => by
      have := m_behind2 (BQ t) w hs hd hkl
      rw [hgo] at this
      exact this
    have htn : ∀ d, d < 4 → gnx G s d (gkil G s (G 5 ||| kl)) ≤ s := fun d hd => gnx_le w hs hd _
    show f_X12_goThrough_b (f_X12_goThrough n) (nI s) (nI kl) (nI ah) wt (xI kp) (gQ sm t) = _
    have hcnt : ∀ k6, f_X12_goThrough_L13 (nI s) (nI kl) k6 fF (nI 0) (nI 0) (gQ sm t) = k6 (nI (zs (fun d => if gnx G s d (gkil G s (G 5 ||| kl)) = 0 then 1 else 0) 4)) (gQ sm t) := by
      intro k6
      obtain ⟨m, e⟩ := lp_run (fun m (z : Int32 × Int32) => f_X12_goThrough_L13 (nI s) (nI kl) k6 m z.1 z.2 (gQ sm t)) (fun d => (nI (zs (fun d => if gnx G s d (gkil G s (G 5 ||| kl)) = 0 then 1 else 0) d), nI d)) 4 (fun m d hd => by
        show f_X12_goThrough_L13 (nI s) (nI kl) k6 (m + 1) (nI (zs (fun d => if gnx G s d (gkil G s (G 5 ||| kl)) = 0 then 1 else 0) d)) (nI d) (gQ sm t) = f_X12_goThrough_L13 (nI s) (nI kl) k6 m (nI (zs (fun d => if gnx G s d (gkil G s (G 5 ||| kl)) = 0 then 1 else 0) (d + 1))) (nI (d + 1)) (gQ sm t)
        have hb := hbe t d hd
        have ht := htn d hd
        rw [f_X12_goThrough_L13, zs_s]
        cases hv : gnx G s d (gkil G s (G 5 ||| kl)) with
        | zero =>
          rw [hv] at hb
          simp (disch := omega) only [fLt_e, fBd_s, fJn_s, fNn_s, fNu_0, fNu_s, fBo_0, fBo_1, fBo_b, i_lit, i_neg1, nI_add, pk_mul, nI_clamp, i_le, i_lt, i_eq, fIx_n, nI_mI, mI_nI, mI_lt, nI_lt_m, mI_le, nI_le_m, xI_0, xI_s, bI_0, bI_1, bI_t, bI_f, n_31, j_bit, j_one, i_and, i_or, Nat.not_lt_zero, Nat.succ_ne_zero, Nat.add_one_ne_zero, Nat.add_one_sub_one, Nat.zero_le, Nat.or_zero, Nat.zero_or, Bool.not_true, Bool.not_false, Bool.true_and, Bool.false_and, Bool.and_true, Bool.and_false, ↓reduceIte, if_true, if_false, not_true_eq_false, not_false_eq_true, true_and, and_true, false_and, and_false, and_self, true_or, or_true, false_or, or_false, Nat.reduceEqDiff, Nat.reduceLT, Nat.reduceLeDiff, Nat.reduceAdd, Nat.reduceMul, Nat.reduceSub, Nat.add_zero, Nat.zero_add, Nat.mul_zero, Nat.zero_mul, ne_eq, Bool.not_eq_true, Bool.not_eq_false, reduceCtorEq, decide_true, decide_false, decide_eq_true_eq, decide_eq_false_iff_not, Bool.false_eq_true, if_pos, if_neg, hb]
        | succ v =>
          rw [hv] at hb ht
          simp (disch := omega) only [fLt_e, fBd_s, fJn_s, fNn_s, fNu_0, fNu_s, fBo_0, fBo_1, fBo_b, i_lit, i_neg1, nI_add, pk_mul, nI_clamp, i_le, i_lt, i_eq, fIx_n, nI_mI, mI_nI, mI_lt, nI_lt_m, mI_le, nI_le_m, xI_0, xI_s, bI_0, bI_1, bI_t, bI_f, n_31, j_bit, j_one, i_and, i_or, Nat.not_lt_zero, Nat.succ_ne_zero, Nat.add_one_ne_zero, Nat.add_one_sub_one, Nat.zero_le, Nat.or_zero, Nat.zero_or, Bool.not_true, Bool.not_false, Bool.true_and, Bool.false_and, Bool.and_true, Bool.and_false, ↓reduceIte, if_true, if_false, not_true_eq_false, not_false_eq_true, true_and, and_true, false_and, and_false, and_self, true_or, or_true, false_or, or_false, Nat.reduceEqDiff, Nat.reduceLT, Nat.reduceLeDiff, Nat.reduceAdd, Nat.reduceMul, Nat.reduceSub, Nat.add_zero, Nat.zero_add, Nat.mul_zero, Nat.zero_mul, ne_eq, Bool.not_eq_true, Bool.not_eq_false, reduceCtorEq, decide_true, decide_false, decide_eq_true_eq, decide_eq_false_iff_not, Bool.false_eq_true, if_pos, if_neg, hb]) (fF_lt (by omega))
      refine Eq.trans e ?_
      show f_X12_goThrough_L13 (nI s) (nI kl) k6 (m + 1) (nI (zs (fun d => if gnx G s d (gkil G s (G 5 ||| kl)) = 0 then 1 else 0) 4)) (nI 4) (gQ sm t) = _
      rw [f_X12_goThrough_L13]
      simp (disch := omega) only [fLt_e, fBd_s, fJn_s, fNn_s, fNu_0, fNu_s, fBo_0, fBo_1, fBo_b, i_lit, i_neg1, nI_add, pk_mul, nI_clamp, i_le, i_lt, i_eq, fIx_n, nI_mI, mI_nI, mI_lt, nI_lt_m, mI_le, nI_le_m, xI_0, xI_s, bI_0, bI_1, bI_t, bI_f, n_31, j_bit, j_one, i_and, i_or, Nat.not_lt_zero, Nat.succ_ne_zero, Nat.add_one_ne_zero, Nat.add_one_sub_one, Nat.zero_le, Nat.or_zero, Nat.zero_or, Bool.not_true, Bool.not_false, Bool.true_and, Bool.false_and, Bool.and_true, Bool.and_false, ↓reduceIte, if_true, if_false, not_true_eq_false, not_false_eq_true, true_and, and_true, false_and, and_false, and_self, true_or, or_true, false_or, or_false, Nat.reduceEqDiff, Nat.reduceLT, Nat.reduceLeDiff, Nat.reduceAdd, Nat.reduceMul, Nat.reduceSub, Nat.add_zero, Nat.zero_add, Nat.mul_zero, Nat.zero_mul, ne_eq, Bool.not_eq_true, Bool.not_eq_false, reduceCtorEq, decide_true, decide_false, decide_eq_true_eq, decide_eq_false_iff_not, Bool.false_eq_true, if_pos, if_neg]
    have hc4 : zs (fun d => if gnx G s d (gkil G s (G 5 ||| kl)) = 0 then 1 else 0) 4 ≤ 4 := by
      have := zs_le (f := fun d => if gnx G s d (gkil G s (G 5 ||| kl)) = 0 then 1 else 0) (b := 1) (n := 4) (fun k _ => by split <;> omega)
      omega
    unfold f_X12_goThrough_b
    simp (disch := omega) only [fLt_e, fBd_s, fJn_s, fNn_s, fNu_0, fNu_s, fBo_0, fBo_1, fBo_b, i_lit, n_31, i_and, j_one, i_or, hcnt]
    unfold gLs
    by_cases hall : zs (fun d => if gnx G s d (gkil G s (G 5 ||| kl)) = 0 then 1 else 0) 4 = 4
    · rw [hall, if_neg (by simp), if_pos rfl]
      have := m_curtain B w (c := (s, ah ||| 2 ^ s, wt)) hs hse t
      simp only at this
      rw [this]
      rfl
    · rw [if_pos (by rw [i_eq _ _ (by omega) (by omega)]; exact hall), if_neg hall]
      generalize hF : (fun d => if gag (fun d => gnx G s d (gkil G s (G 5 ||| kl))) d 4 then ([] : List cT) else
        if gnx G s d (gkil G s (G 5 ||| kl)) = 0 then [(s, ah ||| 2 ^ s, wt / 16 * lN (gal (fun d => gnx G s d (gkil G s (G 5 ||| kl))) (gsx G kp) d 4))]
        else gLs G (gsx G kp) n (gnx G s d (gkil G s (G 5 ||| kl)) - 1) (gkil G s (G 5 ||| kl)) (ah ||| 2 ^ s) (wt / 16 * lN (gal (fun d => gnx G s d (gkil G s (G 5 ||| kl))) (gsx G kp) d 4))) = F
      have hFd : ∀ d, F d = if gag (fun d => gnx G s d (gkil G s (G 5 ||| kl))) d 4 then ([] : List cT) else
        if gnx G s d (gkil G s (G 5 ||| kl)) = 0 then [(s, ah ||| 2 ^ s, wt / 16 * lN (gal (fun d => gnx G s d (gkil G s (G 5 ||| kl))) (gsx G kp) d 4))]
        else gLs G (gsx G kp) n (gnx G s d (gkil G s (G 5 ||| kl)) - 1) (gkil G s (G 5 ||| kl)) (ah ||| 2 ^ s) (wt / 16 * lN (gal (fun d => gnx G s d (gkil G s (G 5 ||| kl))) (gsx G kp) d 4)) := fun d => by rw [← hF]
      obtain ⟨m, e⟩ := lp_run (fun m (z : Int32 × fSt) => f_X12_goThrough_L65 (f_X12_goThrough n) (nI s) (nI kl) wt (xI kp) (nI (ah ||| 2 ^ s)) m z.1 z.2) (fun d => (nI d, gQ sm (((List.range d).flatMap F).foldl (cq G) t))) 4 (fun m d hd => by
        show f_X12_goThrough_L65 (f_X12_goThrough n) (nI s) (nI kl) wt (xI kp) (nI (ah ||| 2 ^ s)) (m + 1) (nI d) (gQ sm (((List.range d).flatMap F).foldl (cq G) t)) = f_X12_goThrough_L65 (f_X12_goThrough n) (nI s) (nI kl) wt (xI kp) (nI (ah ||| 2 ^ s)) m (nI (d + 1)) (gQ sm (((List.range (d + 1)).flatMap F).foldl (cq G) t))
        rw [List.range_succ, List.flatMap_append, List.foldl_append]
        generalize ((List.range d).flatMap F).foldl (cq G) t = t1
        have hfl : List.flatMap F [d] = F d := by simp
        rw [hfl, hFd]
        have hb := hbe t1 d hd
        have ht := htn d hd
        have h90 := fun k20 => m_thL90 (BQ t1) w hkp hs hkl hd k20
        have hga : gal (fun d => gnx G s d (gkil G s (G 5 ||| kl))) (gsx G kp) d 4 ≤ 64 := by
          have := zs_le (f := fun o => if gnx G s o (gkil G s (G 5 ||| kl)) = gnx G s d (gkil G s (G 5 ||| kl)) then gsx G kp o else 0) (b := 16) (n := 4) (fun k _ => by
            have := gsx_le w (d := k) hkp
            split <;> omega)
          exact this
        have hki := m_kills (g := kl) (BQ t1) w hs
        rw [f_X12_goThrough_L65]
        simp only [i_lit] at h90 ⊢
        rw [if_neg (nI_ge hd (by omega)), hb, fBd_s]
        simp only [fLt_e, fJn_s]
        rw [h90]
        generalize hal : gal (fun d => gnx G s d (gkil G s (G 5 ||| kl))) (gsx G kp) d 4 = al at *
        cases hag : gag (fun d => gnx G s d (gkil G s (G 5 ||| kl))) d 4
        · rw [if_pos (by rw [bI_0])]
          simp only [l_lit]
          rw [fNzl_n (by omega) (by omega), nI_l (by omega)]
          cases hv : gnx G s d (gkil G s (G 5 ||| kl)) with
          | zero =>
            have hcu := m_curtain B w (c := (s, ah ||| 2 ^ s, wt / lN 16 * lN al)) hs hse t1
            simp only at hcu
            rw [xI_0, if_neg (by rw [nI_le_m (by omega)]; simp), hcu]
            simp [fBd_s, nI_add]
          | succ v =>
            rw [hv] at ht
            have hr := ih v (gkil G s kl) (ah ||| 2 ^ s) (wt / lN 16 * lN al) t1 (by omega) (by omega) (gkil_lt w hs hkl) hse
            rw [hgo] at hr
            rw [xI_s, if_pos (nI_le (Nat.zero_le _) (by omega)), hki, fBd_s, hr]
            simp [fBd_s, nI_add]
        · rw [if_neg (by rw [bI_0]; simp)]
          simp [nI_add]) (fF_lt (by omega))
      refine Eq.trans e ?_
      show f_X12_goThrough_L65 (f_X12_goThrough n) (nI s) (nI kl) wt (xI kp) (nI (ah ||| 2 ^ s)) (m + 1) (nI 4) (gQ sm (((List.range 4).flatMap F).foldl (cq G) t)) = _
      rw [f_X12_goThrough_L65]
      simp (disch := omega) only [fLt_e, fBd_s, fJn_s, fNn_s, fNu_0, fNu_s, fBo_0, fBo_1, fBo_b, i_lit, i_neg1, nI_add, pk_mul, nI_clamp, i_le, i_lt, i_eq, fIx_n, nI_mI, mI_nI, mI_lt, nI_lt_m, mI_le, nI_le_m, xI_0, xI_s, bI_0, bI_1, bI_t, bI_f, n_31, j_bit, j_one, i_and, i_or, Nat.not_lt_zero, Nat.succ_ne_zero, Nat.add_one_ne_zero, Nat.add_one_sub_one, Nat.zero_le, Nat.or_zero, Nat.zero_or, Bool.not_true, Bool.not_false, Bool.true_and, Bool.false_and, Bool.and_true, Bool.and_false, ↓reduceIte, if_true, if_false, not_true_eq_false, not_false_eq_true, true_and, and_true, false_and, and_false, and_self, true_or, or_true, false_or, or_false, Nat.reduceEqDiff, Nat.reduceLT, Nat.reduceLeDiff, Nat.reduceAdd, Nat.reduceMul, Nat.reduceSub, Nat.add_zero, Nat.zero_add, Nat.mul_zero, Nat.zero_mul, ne_eq, Bool.not_eq_true, Bool.not_eq_false, reduceCtorEq, decide_true, decide_false, decide_eq_true_eq, decide_eq_false_iff_not, Bool.false_eq_true, if_pos, if_neg]
end
