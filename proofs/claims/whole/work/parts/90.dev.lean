/-! layer 2: the class's odds -/
theorem zs_upd (f : Nat → Nat) (v : Nat) {i : Nat} : ∀ {n : Nat}, i < n → zs (fun k => if k = i then v else f k) n + f i = zs f n + v := by
  intro n
  induction n with
  | zero => intro h; omega
  | succ n ih =>
    intro h
    rw [zs_s, zs_s]
    by_cases hn : i = n
    · subst hn
      rw [zs_cong (g := f) (fun k hk => if_neg (by omega)), if_pos rfl]
      omega
    · have := ih (by omega)
      rw [if_neg (fun h => hn h.symm)]
      omega
theorem zs_part (f : Nat → Nat) {i n : Nat} (h : i < n) : f i ≤ zs f n := by
  have := zs_upd f 0 h
  omega
theorem zs_zero {f : Nat → Nat} {n : Nat} (h : ∀ k, k < n → f k = 0) : zs f n = 0 := by
  induction n with
  | zero => rfl
  | succ n ih => rw [zs_s, ih (fun k hk => h k (by omega)), h n (by omega)]
abbrev pT : Type := (Nat → Int64) × (Nat → Int64) × (Nat → Int64) × Int64
def oQ (st : fSt) (t : pT) : fSt := sL (sB (sB (sB st 4 0 1 t.1) 4 0 2 t.2.1) 4 0 3 t.2.2.1) 4 0 3 t.2.2.2
theorem oQ_rW (st : fSt) (t : pT) : gB (oQ st t) 4 0 1 = t.1 := rfl
theorem oQ_rC (st : fSt) (t : pT) : gB (oQ st t) 4 0 2 = t.2.1 := rfl
theorem oQ_rP (st : fSt) (t : pT) : gB (oQ st t) 4 0 3 = t.2.2.1 := rfl
theorem oQ_rL (st : fSt) (t : pT) : gL (oQ st t) 4 0 3 = t.2.2.2 := rfl
theorem oQ_sW (st : fSt) (t : pT) (v : Nat → Int64) : sB (oQ st t) 4 0 1 v = oQ st (v, t.2) := by
  apply st_ext
  · intro c i j; rfl
  · intro c i j; rfl
  · intro c i j; rfl
  · intro c i j
    simp only [oQ, gB_sB, gB_sL]
    by_cases h : c = 4 ∧ i = 0 ∧ j = 1
    · obtain ⟨rfl, rfl, rfl⟩ := h
      simp only [and_self, if_true, Nat.reduceEqDiff, and_false, if_false]
    · simp only [h, if_false]
  · intro c i j; rfl
theorem oQ_sC (st : fSt) (t : pT) (v : Nat → Int64) : sB (oQ st t) 4 0 2 v = oQ st (t.1, v, t.2.2) := by
  apply st_ext
  · intro c i j; rfl
  · intro c i j; rfl
  · intro c i j; rfl
  · intro c i j
    simp only [oQ, gB_sB, gB_sL]
    by_cases h : c = 4 ∧ i = 0 ∧ j = 2
    · obtain ⟨rfl, rfl, rfl⟩ := h
      simp only [and_self, if_true, Nat.reduceEqDiff, and_false, if_false]
    · simp only [h, if_false]
  · intro c i j; rfl
theorem oQ_sP (st : fSt) (t : pT) (v : Nat → Int64) : sB (oQ st t) 4 0 3 v = oQ st (t.1, t.2.1, v, t.2.2.2) := by
  apply st_ext
  · intro c i j; rfl
  · intro c i j; rfl
  · intro c i j; rfl
  · intro c i j
    simp only [oQ, gB_sB, gB_sL]
    split <;> rfl
  · intro c i j; rfl
theorem oQ_sL (st : fSt) (t : pT) (v : Int64) : sL (oQ st t) 4 0 3 v = oQ st (t.1, t.2.1, t.2.2.1, v) := by
  apply st_ext
  · intro c i j; rfl
  · intro c i j
    simp only [oQ, gL_sB, gL_sL]
    split <;> rfl
  all_goals intro c i j; rfl
theorem oQ_self (st : fSt) : oQ st (gB st 4 0 1, gB st 4 0 2, gB st 4 0 3, gL st 4 0 3) = st := by
  apply st_ext
  · intro c i k; rfl
  · intro c i k
    simp only [oQ, gL_sB, gL_sL]
    split
    · rename_i h; rw [h.1, h.2.1, h.2.2]
    · rfl
  · intro c i k; rfl
  · intro c i k
    simp only [oQ, gB_sB, gB_sL]
    repeat' split
    all_goals first | rfl | (rename_i h; rw [h.1, h.2.1, h.2.2])
  · intro c i k; rfl
/-- the weights after the first n ways on -/
def wst (ts sh : Nat → Nat) (g x : Nat) (W : Nat → Int64) : Nat → Nat → Int64
  | 0 => W
  | n + 1 => if ts n = 0 then wst ts sh g x W n else vp_updL (wst ts sh g x W n) ((ts n - 1) * 64 + g) (wst ts sh g x W n ((ts n - 1) * 64 + g) + lN x * lN (sh n))
def wsn (ts sh : Nat → Nat) (g x : Nat) (W : Nat → Nat) : Nat → Nat → Nat
  | 0 => W
  | n + 1 => if ts n = 0 then wsn ts sh g x W n else fun p => if p = (ts n - 1) * 64 + g then wsn ts sh g x W n ((ts n - 1) * 64 + g) + x * sh n else wsn ts sh g x W n p
theorem wst_n {ts sh : Nat → Nat} {g x : Nat} {W : Nat → Int64} {Wn : Nat → Nat} (h : ∀ p, p < 768 → W p = lN (Wn p)) (hg : g < 64) : ∀ n, (∀ d, d < n → ts d ≤ 12) → ∀ p, p < 768 → wst ts sh g x W n p = lN (wsn ts sh g x Wn n p) := by
  intro n
  induction n with
  | zero => intro _ p hp; exact h p hp
  | succ n ih =>
    intro ht p hp
    have ih := ih (fun d hd => ht d (by omega))
    have htn := ht n (by omega)
    unfold wst wsn
    by_cases h0 : ts n = 0
    · rw [if_pos h0, if_pos h0]; exact ih p hp
    · rw [if_neg h0, if_neg h0, updL_at]
      by_cases hq : p = (ts n - 1) * 64 + g
      · rw [if_pos hq, if_pos hq, ih _ (by omega), lN_mul, lN_add]
      · rw [if_neg hq, if_neg hq]; exact ih p hp
section
variable {sc : fSt} {q : Nat} {G : Nat → Nat}
theorem x_endSlot (H : rStg sc q G) (w : gWf G) {s : Nat} (hs : s < G 2) : f_X7_endSlot q (nI s) sc = some (nI (gsl G s), sc) := by
  have h := w.1
  have h2 := (w.2.2.2.1 s hs).2.2.1
  obtain ⟨-, -, e, -⟩ := H.2.2.1 s hs
  unfold f_X7_endSlot gsl
  cases hv : G (49 + s) with
  | zero => simp (disch := omega) only [fLt_e, fBd_s, fJn_s, fNn_s, fNu_0, fNu_s, fBo_0, fBo_1, fBo_b, i_lit, i_neg1, nI_add, pk_mul, nI_clamp, i_le, i_lt, i_eq, fIx_n, nI_mI, mI_nI, mI_lt, nI_lt_m, mI_le, nI_le_m, xI_0, xI_s, bI_0, bI_1, bI_t, bI_f, n_31, j_bit, j_one, i_and, i_or, Nat.not_lt_zero, Nat.succ_ne_zero, Nat.add_one_ne_zero, Nat.add_one_sub_one, Nat.zero_le, Nat.or_zero, Nat.zero_or, Bool.not_true, Bool.not_false, Bool.true_and, Bool.false_and, Bool.and_true, Bool.and_false, ↓reduceIte, if_true, if_false, not_true_eq_false, not_false_eq_true, true_and, and_true, false_and, and_false, and_self, true_or, or_true, false_or, or_false, Nat.reduceEqDiff, Nat.reduceLT, Nat.reduceLeDiff, Nat.reduceAdd, Nat.reduceMul, Nat.reduceSub, Nat.add_zero, Nat.zero_add, Nat.mul_zero, Nat.zero_mul, ne_eq, Bool.not_eq_true, Bool.not_eq_false, reduceCtorEq, decide_true, decide_false, decide_eq_true_eq, decide_eq_false_iff_not, Bool.false_eq_true, if_pos, if_neg, e, hv]
  | succ v => simp (disch := omega) only [fLt_e, fBd_s, fJn_s, fNn_s, fNu_0, fNu_s, fBo_0, fBo_1, fBo_b, i_lit, i_neg1, nI_add, pk_mul, nI_clamp, i_le, i_lt, i_eq, fIx_n, nI_mI, mI_nI, mI_lt, nI_lt_m, mI_le, nI_le_m, xI_0, xI_s, bI_0, bI_1, bI_t, bI_f, n_31, j_bit, j_one, i_and, i_or, Nat.not_lt_zero, Nat.succ_ne_zero, Nat.add_one_ne_zero, Nat.add_one_sub_one, Nat.zero_le, Nat.or_zero, Nat.zero_or, Bool.not_true, Bool.not_false, Bool.true_and, Bool.false_and, Bool.and_true, Bool.and_false, ↓reduceIte, if_true, if_false, not_true_eq_false, not_false_eq_true, true_and, and_true, false_and, and_false, and_self, true_or, or_true, false_or, or_false, Nat.reduceEqDiff, Nat.reduceLT, Nat.reduceLeDiff, Nat.reduceAdd, Nat.reduceMul, Nat.reduceSub, Nat.add_zero, Nat.zero_add, Nat.mul_zero, Nat.zero_mul, ne_eq, Bool.not_eq_true, Bool.not_eq_false, reduceCtorEq, decide_true, decide_false, decide_eq_true_eq, decide_eq_false_iff_not, Bool.false_eq_true, if_pos, if_neg, e, hv]
theorem x_share (H : rStg sc q G) (w : gWf G) {k d : Nat} (hk : k < G 3) (hd : d < 4) : gA sc 7 q 14 (k * 4 + d) = nI (gsx G (k + 1) d) := by
  obtain ⟨-, e0, e1, e2, e3⟩ := H.2.2.2 k hk
  unfold gsx
  rw [if_neg (by omega), show 124 + (k + 1) = 125 + k by omega, show 128 + (k + 1) = 129 + k by omega, show 132 + (k + 1) = 133 + k by omega]
  rcases (show d = 0 ∨ d = 1 ∨ d = 2 ∨ d = 3 by omega) with rfl | rfl | rfl | rfl
  · exact e0
  · exact e1
  · exact e2
  · exact e3
theorem x_passOn (X : rHou sc 0 q G) (w : gWf G) {k s g pn : Nat} (hk : k < G 3) (hs : s < G 2) (hg : g < 64) (hp : pn < 2 ^ 60) (t : pT) (hW : t.1 (s * 64 + g) = lN pn) :
    f_X4_passOn 0 (nI k) (nI s) (nI g) (oQ sc t) = some ((), oQ sc (wst (fun d => gnx G s d (gkil G s g)) (gsx G (k + 1)) (gkil G s g) (pn / 16) (vp_updL t.1 (s * 64 + g) (lN 0)) 4,
      vp_updL t.2.1 (gsl G s) (t.2.1 (gsl G s) + lN (if zs (fun d => if gnx G s d (gkil G s g) = 0 then gsx G (k + 1) d else 0) 4 = 16 then pn else pn / 16 * zs (fun d => if gnx G s d (gkil G s g) = 0 then gsx G (k + 1) d else 0) 4)),
      vp_updL t.2.2.1 s (t.2.2.1 s + lN pn), t.2.2.2)) := by
  have w1 := w.1
  have XQ : ∀ t, rHou (oQ sc t) 0 q G := fun _ => X
  have SQ : ∀ t, rStg (oQ sc t) q G := fun _ => X.2.1
  have hgk := gkil_lt w hs hg
  have hsl := gsl_le w hs
  have hki := fun t => x_killed (SQ t) w hs
  have hen := fun t => x_endSlot (SQ t) w hs
  have e16 : lN pn / lN 16 = lN (pn / 16) := pk_lDiv (b := 16) (by omega) (by omega) (by omega)
  have hL : ∀ (k12 : Int32 → fSt → Option (Unit × fSt)) (t : pT), f_X4_passOn_L57 0 (nI k) (nI s) (lN pn) (nI (gkil G s g)) k12 fF (nI 0) (nI 0) (oQ sc t) = k12 (nI (zs (fun d => if gnx G s d (gkil G s g) = 0 then gsx G (k + 1) d else 0) 4)) (oQ sc (wst (fun d => gnx G s d (gkil G s g)) (gsx G (k + 1)) (gkil G s g) (pn / 16) t.1 4, t.2)) := by
    intro k12 t
    obtain ⟨m, e⟩ := lp_run (fun m (z : Int32 × Int32 × fSt) => f_X4_passOn_L57 0 (nI k) (nI s) (lN pn) (nI (gkil G s g)) k12 m z.1 z.2.1 z.2.2) (fun d => (nI (zs (fun d => if gnx G s d (gkil G s g) = 0 then gsx G (k + 1) d else 0) d), nI d, oQ sc (wst (fun d => gnx G s d (gkil G s g)) (gsx G (k + 1)) (gkil G s g) (pn / 16) t.1 d, t.2))) 4 (fun m d hd => by
      show f_X4_passOn_L57 0 (nI k) (nI s) (lN pn) (nI (gkil G s g)) k12 (m + 1) (nI (zs (fun d => if gnx G s d (gkil G s g) = 0 then gsx G (k + 1) d else 0) d)) (nI d) (oQ sc (wst (fun d => gnx G s d (gkil G s g)) (gsx G (k + 1)) (gkil G s g) (pn / 16) t.1 d, t.2)) = f_X4_passOn_L57 0 (nI k) (nI s) (lN pn) (nI (gkil G s g)) k12 m (nI (zs (fun d => if gnx G s d (gkil G s g) = 0 then gsx G (k + 1) d else 0) (d + 1))) (nI (d + 1)) (oQ sc (wst (fun d => gnx G s d (gkil G s g)) (gsx G (k + 1)) (gkil G s g) (pn / 16) t.1 (d + 1), t.2))
      have hw : wst (fun d => gnx G s d (gkil G s g)) (gsx G (k + 1)) (gkil G s g) (pn / 16) t.1 (d + 1) = if gnx G s d (gkil G s g) = 0 then wst (fun d => gnx G s d (gkil G s g)) (gsx G (k + 1)) (gkil G s g) (pn / 16) t.1 d else vp_updL (wst (fun d => gnx G s d (gkil G s g)) (gsx G (k + 1)) (gkil G s g) (pn / 16) t.1 d) ((gnx G s d (gkil G s g) - 1) * 64 + gkil G s g) (wst (fun d => gnx G s d (gkil G s g)) (gsx G (k + 1)) (gkil G s g) (pn / 16) t.1 d ((gnx G s d (gkil G s g) - 1) * 64 + gkil G s g) + lN (pn / 16) * lN (gsx G (k + 1) d)) := rfl
      rw [hw, zs_s]
      generalize wst (fun d => gnx G s d (gkil G s g)) (gsx G (k + 1)) (gkil G s g) (pn / 16) t.1 d = Wd
      have hon := x_onward (XQ (Wd, t.2)) w hs hd hgk
      have hsh := x_share (SQ (Wd, t.2)) w hk hd
      have htn := gnx_le w hs hd (gkil G s g)
      have hsx := gsx_le w (kp := k + 1) (d := d) (by omega)
      rw [f_X4_passOn_L57]
      cases hv : gnx G s d (gkil G s g) with
      | zero =>
        rw [hv] at hon
        simp (disch := omega) only [fLt_e, fBd_s, fJn_s, fNn_s, fNu_0, fNu_s, fBo_0, fBo_1, fBo_b, i_lit, i_neg1, nI_add, pk_mul, nI_clamp, i_le, i_lt, i_eq, fIx_n, nI_mI, mI_nI, mI_lt, nI_lt_m, mI_le, nI_le_m, xI_0, xI_s, bI_0, bI_1, bI_t, bI_f, n_31, j_bit, j_one, i_and, i_or, Nat.not_lt_zero, Nat.succ_ne_zero, Nat.add_one_ne_zero, Nat.add_one_sub_one, Nat.zero_le, Nat.or_zero, Nat.zero_or, Bool.not_true, Bool.not_false, Bool.true_and, Bool.false_and, Bool.and_true, Bool.and_false, ↓reduceIte, if_true, if_false, not_true_eq_false, not_false_eq_true, true_and, and_true, false_and, and_false, and_self, true_or, or_true, false_or, or_false, Nat.reduceEqDiff, Nat.reduceLT, Nat.reduceLeDiff, Nat.reduceAdd, Nat.reduceMul, Nat.reduceSub, Nat.add_zero, Nat.zero_add, Nat.mul_zero, Nat.zero_mul, ne_eq, Bool.not_eq_true, Bool.not_eq_false, reduceCtorEq, decide_true, decide_false, decide_eq_true_eq, decide_eq_false_iff_not, Bool.false_eq_true, if_pos, if_neg, (XQ _).1, hsh, hon]
      | succ v =>
        rw [hv] at hon htn
        simp (disch := omega) only [fLt_e, fBd_s, fJn_s, fNn_s, fNu_0, fNu_s, fBo_0, fBo_1, fBo_b, i_lit, i_neg1, nI_add, pk_mul, nI_clamp, i_le, i_lt, i_eq, fIx_n, nI_mI, mI_nI, mI_lt, nI_lt_m, mI_le, nI_le_m, xI_0, xI_s, bI_0, bI_1, bI_t, bI_f, n_31, j_bit, j_one, i_and, i_or, Nat.not_lt_zero, Nat.succ_ne_zero, Nat.add_one_ne_zero, Nat.add_one_sub_one, Nat.zero_le, Nat.or_zero, Nat.zero_or, Bool.not_true, Bool.not_false, Bool.true_and, Bool.false_and, Bool.and_true, Bool.and_false, ↓reduceIte, if_true, if_false, not_true_eq_false, not_false_eq_true, true_and, and_true, false_and, and_false, and_self, true_or, or_true, false_or, or_false, Nat.reduceEqDiff, Nat.reduceLT, Nat.reduceLeDiff, Nat.reduceAdd, Nat.reduceMul, Nat.reduceSub, Nat.add_zero, Nat.zero_add, Nat.mul_zero, Nat.zero_mul, ne_eq, Bool.not_eq_true, Bool.not_eq_false, reduceCtorEq, decide_true, decide_false, decide_eq_true_eq, decide_eq_false_iff_not, Bool.false_eq_true, if_pos, if_neg, l_lit, (XQ _).1, hsh, hon, fNzl_n, oQ_rW, oQ_sW, e16, nI_l]) (fF_lt (by omega))
    refine Eq.trans ?_ (Eq.trans e ?_)
    · rfl
    · show f_X4_passOn_L57 0 (nI k) (nI s) (lN pn) (nI (gkil G s g)) k12 (m + 1) (nI (zs (fun d => if gnx G s d (gkil G s g) = 0 then gsx G (k + 1) d else 0) 4)) (nI 4) (oQ sc (wst (fun d => gnx G s d (gkil G s g)) (gsx G (k + 1)) (gkil G s g) (pn / 16) t.1 4, t.2)) = _
      rw [f_X4_passOn_L57]
      simp (disch := omega) only [fLt_e, fBd_s, fJn_s, fNn_s, fNu_0, fNu_s, fBo_0, fBo_1, fBo_b, i_lit, i_neg1, nI_add, pk_mul, nI_clamp, i_le, i_lt, i_eq, fIx_n, nI_mI, mI_nI, mI_lt, nI_lt_m, mI_le, nI_le_m, xI_0, xI_s, bI_0, bI_1, bI_t, bI_f, n_31, j_bit, j_one, i_and, i_or, Nat.not_lt_zero, Nat.succ_ne_zero, Nat.add_one_ne_zero, Nat.add_one_sub_one, Nat.zero_le, Nat.or_zero, Nat.zero_or, Bool.not_true, Bool.not_false, Bool.true_and, Bool.false_and, Bool.and_true, Bool.and_false, ↓reduceIte, if_true, if_false, not_true_eq_false, not_false_eq_true, true_and, and_true, false_and, and_false, and_self, true_or, or_true, false_or, or_false, Nat.reduceEqDiff, Nat.reduceLT, Nat.reduceLeDiff, Nat.reduceAdd, Nat.reduceMul, Nat.reduceSub, Nat.add_zero, Nat.zero_add, Nat.mul_zero, Nat.zero_mul, ne_eq, Bool.not_eq_true, Bool.not_eq_false, reduceCtorEq, decide_true, decide_false, decide_eq_true_eq, decide_eq_false_iff_not, Bool.false_eq_true, if_pos, if_neg]
  have hcl : zs (fun d => if gnx G s d (gkil G s g) = 0 then gsx G (k + 1) d else 0) 4 ≤ 64 := by
    have := zs_le (f := fun d => if gnx G s d (gkil G s g) = 0 then gsx G (k + 1) d else 0) (b := 16) (n := 4) (fun d _ => by
      have := gsx_le w (kp := k + 1) (d := d) (by omega)
      split <;> omega)
    omega
  rw [gkil_v] at hL
  unfold f_X4_passOn
  simp (disch := omega) only [fLt_e, fBd_s, fJn_s, fNn_s, fNu_0, fNu_s, fBo_0, fBo_1, fBo_b, Nat.not_lt_zero, Nat.succ_ne_zero, Nat.add_one_ne_zero, Nat.add_one_sub_one, Nat.zero_le, Nat.or_zero, Nat.zero_or, Bool.not_true, Bool.not_false, Bool.true_and, Bool.false_and, Bool.and_true, Bool.and_false, ↓reduceIte, if_true, if_false, not_true_eq_false, not_false_eq_true, true_and, and_true, false_and, and_false, and_self, true_or, or_true, false_or, or_false, Nat.reduceEqDiff, Nat.reduceLT, Nat.reduceLeDiff, Nat.reduceAdd, Nat.reduceMul, Nat.reduceSub, Nat.add_zero, Nat.zero_add, Nat.mul_zero, Nat.zero_mul, ne_eq, Bool.not_eq_true, Bool.not_eq_false, reduceCtorEq, decide_true, decide_false, decide_eq_true_eq, decide_eq_false_iff_not, Bool.false_eq_true, i_lit, l_lit, pk_mul, nI_add, nI_clamp, fIx_n, i_or, oQ_rW, oQ_sW, oQ_rP, oQ_sP, (XQ _).1, hW, hki, hL]
  rw [← gkil_v]
  generalize zs (fun d => if gnx G s d (gkil G s g) = 0 then gsx G (k + 1) d else 0) 4 = cu at *
  by_cases hc : cu = 16
  · simp (disch := omega) only [fLt_e, fBd_s, fJn_s, fNn_s, fNu_0, fNu_s, fBo_0, fBo_1, fBo_b, i_lit, i_neg1, nI_add, pk_mul, nI_clamp, i_le, i_lt, i_eq, fIx_n, nI_mI, mI_nI, mI_lt, nI_lt_m, mI_le, nI_le_m, xI_0, xI_s, bI_0, bI_1, bI_t, bI_f, n_31, j_bit, j_one, i_and, i_or, Nat.not_lt_zero, Nat.succ_ne_zero, Nat.add_one_ne_zero, Nat.add_one_sub_one, Nat.zero_le, Nat.or_zero, Nat.zero_or, Bool.not_true, Bool.not_false, Bool.true_and, Bool.false_and, Bool.and_true, Bool.and_false, ↓reduceIte, if_true, if_false, not_true_eq_false, not_false_eq_true, true_and, and_true, false_and, and_false, and_self, true_or, or_true, false_or, or_false, Nat.reduceEqDiff, Nat.reduceLT, Nat.reduceLeDiff, Nat.reduceAdd, Nat.reduceMul, Nat.reduceSub, Nat.add_zero, Nat.zero_add, Nat.mul_zero, Nat.zero_mul, ne_eq, Bool.not_eq_true, Bool.not_eq_false, reduceCtorEq, decide_true, decide_false, decide_eq_true_eq, decide_eq_false_iff_not, Bool.false_eq_true, if_pos, if_neg, l_lit, (XQ _).1, hen, hc, oQ_rC, oQ_sC]
  · simp (disch := omega) only [fLt_e, fBd_s, fJn_s, fNn_s, fNu_0, fNu_s, fBo_0, fBo_1, fBo_b, i_lit, i_neg1, nI_add, pk_mul, nI_clamp, i_le, i_lt, i_eq, fIx_n, nI_mI, mI_nI, mI_lt, nI_lt_m, mI_le, nI_le_m, xI_0, xI_s, bI_0, bI_1, bI_t, bI_f, n_31, j_bit, j_one, i_and, i_or, Nat.not_lt_zero, Nat.succ_ne_zero, Nat.add_one_ne_zero, Nat.add_one_sub_one, Nat.zero_le, Nat.or_zero, Nat.zero_or, Bool.not_true, Bool.not_false, Bool.true_and, Bool.false_and, Bool.and_true, Bool.and_false, ↓reduceIte, if_true, if_false, not_true_eq_false, not_false_eq_true, true_and, and_true, false_and, and_false, and_self, true_or, or_true, false_or, or_false, Nat.reduceEqDiff, Nat.reduceLT, Nat.reduceLeDiff, Nat.reduceAdd, Nat.reduceMul, Nat.reduceSub, Nat.add_zero, Nat.zero_add, Nat.mul_zero, Nat.zero_mul, ne_eq, Bool.not_eq_true, Bool.not_eq_false, reduceCtorEq, decide_true, decide_false, decide_eq_true_eq, decide_eq_false_iff_not, Bool.false_eq_true, if_pos, if_neg, l_lit, (XQ _).1, hen, hc, oQ_rC, oQ_sC, fNzl_n, e16, nI_l, lN_mul]
end
