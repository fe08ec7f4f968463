/-! layer 2: the calls ways and length -/
section
variable {G : Nat → Nat}
theorem cq_1 (t : qT) (c : cT) : (cq G t c).1 = (cq1 G c t).1 := by
  unfold cq
  generalize cq1 G c t = u
  have key : ∀ n, (rng (cq2 G c) n u).1 = u.1 := by
    intro n
    induction n with
    | zero => rfl
    | succ n ih =>
      rw [rng_s]
      unfold cq2
      split
      · exact ih
      · exact ih
  exact key _
theorem fq_34 : ∀ (L : List (Nat × Nat × Nat)) (t : qT), ((L.map lNc).foldl (cq G) t).1 34 = t.1 34 + nI L.length := by
  intro L
  induction L with
  | nil => intro t; show t.1 34 = t.1 34 + nI 0; rw [← i_lit]; simp
  | cons c L ih =>
    intro t
    rw [List.map_cons, List.foldl_cons, ih, cq_1, List.length_cons]
    show t.1 34 + nI 1 + nI L.length = _
    rw [Int32.add_assoc, nI_add, Nat.add_comm 1]
theorem fq_35 : ∀ (L : List (Nat × Nat × Nat)) (t : qT) (a : Nat), a ≤ 12 → t.1 35 = nI a → ((L.map lNc).foldl (cq G) t).1 35 = nI (L.foldl (fun a c => max a (pcn c.2.1)) a) := by
  intro L
  induction L with
  | nil => intro t a _ h; exact h
  | cons c L ih =>
    intro t a ha h
    have hp := pcn_le c.2.1
    rw [List.map_cons, List.foldl_cons, List.foldl_cons]
    refine ih _ _ (by omega) ?_
    rw [cq_1]
    show (if t.1 35 < nI (pcn c.2.1) then nI (pcn c.2.1) else t.1 35) = _
    rw [h]
    by_cases hlt : a < pcn c.2.1
    · rw [if_pos (by simp (disch := omega) only [fLt_e, fBd_s, fJn_s, fNn_s, fNu_0, fNu_s, fBo_0, fBo_1, fBo_b, i_lit, i_neg1, nI_add, pk_mul, nI_clamp, i_le, i_lt, i_eq, fIx_n, nI_mI, mI_nI, mI_lt, nI_lt_m, mI_le, nI_le_m, xI_0, xI_s, bI_0, bI_1, bI_t, bI_f, n_31, j_bit, j_one, i_and, i_or, Nat.not_lt_zero, Nat.succ_ne_zero, Nat.add_one_ne_zero, Nat.add_one_sub_one, Nat.zero_le, Nat.or_zero, Nat.zero_or, Bool.not_true, Bool.not_false, Bool.true_and, Bool.false_and, Bool.and_true, Bool.and_false, ↓reduceIte, if_true, if_false, not_true_eq_false, not_false_eq_true, true_and, and_true, false_and, and_false, and_self, true_or, or_true, false_or, or_false, Nat.reduceEqDiff, Nat.reduceLT, Nat.reduceLeDiff, Nat.reduceAdd, Nat.reduceMul, Nat.reduceSub, Nat.add_zero, Nat.zero_add, Nat.mul_zero, Nat.zero_mul, ne_eq, Bool.not_eq_true, Bool.not_eq_false, reduceCtorEq, decide_true, decide_false, decide_eq_true_eq, decide_eq_false_iff_not, Bool.false_eq_true, if_pos, if_neg, hlt]), Nat.max_eq_right (by omega)]
    · rw [if_neg (by simp (disch := omega) only [fLt_e, fBd_s, fJn_s, fNn_s, fNu_0, fNu_s, fBo_0, fBo_1, fBo_b, i_lit, i_neg1, nI_add, pk_mul, nI_clamp, i_le, i_lt, i_eq, fIx_n, nI_mI, mI_nI, mI_lt, nI_lt_m, mI_le, nI_le_m, xI_0, xI_s, bI_0, bI_1, bI_t, bI_f, n_31, j_bit, j_one, i_and, i_or, Nat.not_lt_zero, Nat.succ_ne_zero, Nat.add_one_ne_zero, Nat.add_one_sub_one, Nat.zero_le, Nat.or_zero, Nat.zero_or, Bool.not_true, Bool.not_false, Bool.true_and, Bool.false_and, Bool.and_true, Bool.and_false, ↓reduceIte, if_true, if_false, not_true_eq_false, not_false_eq_true, true_and, and_true, false_and, and_false, and_self, true_or, or_true, false_or, or_false, Nat.reduceEqDiff, Nat.reduceLT, Nat.reduceLeDiff, Nat.reduceAdd, Nat.reduceMul, Nat.reduceSub, Nat.add_zero, Nat.zero_add, Nat.mul_zero, Nat.zero_mul, ne_eq, Bool.not_eq_true, Bool.not_eq_false, reduceCtorEq, decide_true, decide_false, decide_eq_true_eq, decide_eq_false_iff_not, Bool.false_eq_true, if_pos, if_neg, hlt]), Nat.max_eq_left (by omega)]
theorem fq_36 : ∀ (L : List (Nat × Nat × Nat)) (t : qT) (a : Nat), a ≤ 12 → t.1 36 = nI a → ((L.map lNc).foldl (cq G) t).1 36 = nI (L.foldl (fun a c => min a (pcn c.2.1)) a) := by
  intro L
  induction L with
  | nil => intro t a _ h; exact h
  | cons c L ih =>
    intro t a ha h
    have hp := pcn_le c.2.1
    rw [List.map_cons, List.foldl_cons, List.foldl_cons]
    refine ih _ _ (by omega) ?_
    rw [cq_1]
    show (if nI (pcn c.2.1) < t.1 36 then nI (pcn c.2.1) else t.1 36) = _
    rw [h]
    by_cases hlt : pcn c.2.1 < a
    · rw [if_pos (by simp (disch := omega) only [fLt_e, fBd_s, fJn_s, fNn_s, fNu_0, fNu_s, fBo_0, fBo_1, fBo_b, i_lit, i_neg1, nI_add, pk_mul, nI_clamp, i_le, i_lt, i_eq, fIx_n, nI_mI, mI_nI, mI_lt, nI_lt_m, mI_le, nI_le_m, xI_0, xI_s, bI_0, bI_1, bI_t, bI_f, n_31, j_bit, j_one, i_and, i_or, Nat.not_lt_zero, Nat.succ_ne_zero, Nat.add_one_ne_zero, Nat.add_one_sub_one, Nat.zero_le, Nat.or_zero, Nat.zero_or, Bool.not_true, Bool.not_false, Bool.true_and, Bool.false_and, Bool.and_true, Bool.and_false, ↓reduceIte, if_true, if_false, not_true_eq_false, not_false_eq_true, true_and, and_true, false_and, and_false, and_self, true_or, or_true, false_or, or_false, Nat.reduceEqDiff, Nat.reduceLT, Nat.reduceLeDiff, Nat.reduceAdd, Nat.reduceMul, Nat.reduceSub, Nat.add_zero, Nat.zero_add, Nat.mul_zero, Nat.zero_mul, ne_eq, Bool.not_eq_true, Bool.not_eq_false, reduceCtorEq, decide_true, decide_false, decide_eq_true_eq, decide_eq_false_iff_not, Bool.false_eq_true, if_pos, if_neg, hlt]), Nat.min_eq_right (by omega)]
    · rw [if_neg (by simp (disch := omega) only [fLt_e, fBd_s, fJn_s, fNn_s, fNu_0, fNu_s, fBo_0, fBo_1, fBo_b, i_lit, i_neg1, nI_add, pk_mul, nI_clamp, i_le, i_lt, i_eq, fIx_n, nI_mI, mI_nI, mI_lt, nI_lt_m, mI_le, nI_le_m, xI_0, xI_s, bI_0, bI_1, bI_t, bI_f, n_31, j_bit, j_one, i_and, i_or, Nat.not_lt_zero, Nat.succ_ne_zero, Nat.add_one_ne_zero, Nat.add_one_sub_one, Nat.zero_le, Nat.or_zero, Nat.zero_or, Bool.not_true, Bool.not_false, Bool.true_and, Bool.false_and, Bool.and_true, Bool.and_false, ↓reduceIte, if_true, if_false, not_true_eq_false, not_false_eq_true, true_and, and_true, false_and, and_false, and_self, true_or, or_true, false_or, or_false, Nat.reduceEqDiff, Nat.reduceLT, Nat.reduceLeDiff, Nat.reduceAdd, Nat.reduceMul, Nat.reduceSub, Nat.add_zero, Nat.zero_add, Nat.mul_zero, Nat.zero_mul, ne_eq, Bool.not_eq_true, Bool.not_eq_false, reduceCtorEq, decide_true, decide_false, decide_eq_true_eq, decide_eq_false_iff_not, Bool.false_eq_true, if_pos, if_neg, hlt]), Nat.min_eq_left (by omega)]
theorem cov_ovl : ∀ (Q : List nT) a, Q.foldl (cov G) a = a + (ovl G Q).length := by
  intro Q
  induction Q with
  | nil => intro a; rfl
  | cons x Q ih =>
    intro a
    rw [List.foldl_cons, ih]
    unfold cov ovl
    rw [List.filter_cons]
    cases ovr G x
    · simp
    · simp; omega
theorem lov_ovl : ∀ (Q : List nT) a, Q.foldl (lov G) a = (ovl G Q).foldl (fun a p => max a (pcn p.2)) a := by
  intro Q
  induction Q with
  | nil => intro a; rfl
  | cons x Q ih =>
    intro a
    rw [List.foldl_cons, ih]
    unfold lov ovl
    rw [List.filter_cons]
    cases ovr G x
    · simp
    · simp [pr2]
theorem sov_ovl : ∀ (Q : List nT) a, Q.foldl (sov G) a = (ovl G Q).foldl (fun a p => min a (pcn p.2)) a := by
  intro Q
  induction Q with
  | nil => intro a; rfl
  | cons x Q ih =>
    intro a
    rw [List.foldl_cons, ih]
    unfold sov ovl
    rw [List.filter_cons]
    cases ovr G x
    · simp
    · simp [pr2]
theorem ovl_perm {Q A : List nT} (h : Q.Perm A) : (ovl G Q).Perm (ovl G A) := (h.filter _).map _
theorem pfold {f : Nat → Nat × Nat → Nat} (hc : ∀ a p r, f (f a p) r = f (f a r) p) {L M : List (Nat × Nat)} (h : L.Perm M) : ∀ a, L.foldl f a = M.foldl f a := by
  induction h with
  | nil => intro a; rfl
  | cons x _ ih => intro a; rw [List.foldl_cons, List.foldl_cons, ih]
  | swap x y l => intro a; rw [List.foldl_cons, List.foldl_cons, List.foldl_cons, List.foldl_cons, hc]
  | trans _ _ ih1 ih2 => intro a; rw [ih1, ih2]
theorem cEq_rw (sc : fSt) (v n : Int32) (f : Nat → Int32) : cEq sc (rwS (sI sc 6 0 3 v) n f) := ⟨fun c hc i k => by rcases hc with rfl | rfl | rfl | rfl | rfl <;> exact ⟨rfl, rfl, rfl, rfl, rfl⟩, rfl, rfl, ⟨rfl, rfl, rfl⟩, ⟨rfl, rfl, rfl, rfl, rfl, rfl⟩, rfl, rfl, rfl, rfl, rfl, rfl, rfl⟩
theorem mEq_gQ (sm : fSt) (t : qT) : mEq sm (gQ sm t) := ⟨⟨rfl, rfl, rfl, rfl, rfl, rfl, rfl⟩, ⟨rfl, rfl⟩, ⟨rfl, rfl, rfl, rfl, rfl, rfl, rfl⟩, rfl, rfl⟩
end
theorem call_ways : CALL f_X11_ways f_X12_ways := by
  intro sc sm ⟨hA, H⟩
  have H := pro_x H
  have z := pro_0 sm
  unfold f_X11_ways f_X12_ways
  simp only [fLt_e, pro_eq]
  generalize pro sm = s2 at *
  obtain ⟨q, G, w, X, B, -⟩ := RX_cur H
  have x1 := x_canOpen X w
  have m1 := m_isDark B w
  by_cases h0 : gpl G (G 2) (G 5) = 0
  · rw [decide_eq_false (by simp [h0])] at x1
    rw [decide_eq_true h0] at m1
    simp (disch := omega) only [fLt_e, fBd_s, fJn_s, fNn_s, fNu_0, fNu_s, fBo_0, fBo_1, fBo_b, i_lit, i_neg1, nI_add, pk_mul, nI_clamp, i_le, i_lt, i_eq, fIx_n, nI_mI, mI_nI, mI_lt, nI_lt_m, mI_le, nI_le_m, xI_0, xI_s, bI_0, bI_1, bI_t, bI_f, n_31, j_bit, j_one, i_and, i_or, Nat.not_lt_zero, Nat.succ_ne_zero, Nat.add_one_ne_zero, Nat.add_one_sub_one, Nat.zero_le, Nat.or_zero, Nat.zero_or, Bool.not_true, Bool.not_false, Bool.true_and, Bool.false_and, Bool.and_true, Bool.and_false, ↓reduceIte, if_true, if_false, not_true_eq_false, not_false_eq_true, true_and, and_true, false_and, and_false, and_self, true_or, or_true, false_or, or_false, Nat.reduceEqDiff, Nat.reduceLT, Nat.reduceLeDiff, Nat.reduceAdd, Nat.reduceMul, Nat.reduceSub, Nat.add_zero, Nat.zero_add, Nat.mul_zero, Nat.zero_mul, ne_eq, Bool.not_eq_true, Bool.not_eq_false, reduceCtorEq, decide_true, decide_false, decide_eq_true_eq, decide_eq_false_iff_not, Bool.false_eq_true, if_pos, if_neg, x1, m1, f_X11_fail, f_X12_refuse]
    exact ⟨_, _, _, rfl, rfl, fin_st H _⟩
  · rw [decide_eq_true h0] at x1
    rw [decide_eq_false h0] at m1
    obtain ⟨Q, f, e, q1, q2⟩ := x_findAll X w
    have R := rwk_of w q1 q2
    have hg := m_goAll B w (kp := 0) (by omega)
    rw [xI_0] at hg
    have hc := x_countOver (sc := sI sc 6 0 3 (nI (opn G))) R
    have hlen : Q.foldl (cov G) 0 = (gCu G 0).length := by
      rw [cov_ovl, Nat.zero_add, ((ovl_perm q1).trans (all_perm w (kp := 0))).length_eq, List.length_map]
    rw [hlen] at hc
    have h34 := fq_34 (G := G) (gCu G 0) (qZ s2)
    have hz34 : (qZ s2).1 34 = nI 0 := rfl
    rw [hz34, nI_add, Nat.zero_add] at h34
    have hr : gI (gQ s2 (((gCu G 0).map lNc).foldl (cq G) (qZ s2))) 12 0 34 = (((gCu G 0).map lNc).foldl (cq G) (qZ s2)).1 34 := rfl
    simp (disch := omega) only [fLt_e, fBd_s, fJn_s, fNn_s, fNu_0, fNu_s, fBo_0, fBo_1, fBo_b, i_lit, i_neg1, nI_add, pk_mul, nI_clamp, i_le, i_lt, i_eq, fIx_n, nI_mI, mI_nI, mI_lt, nI_lt_m, mI_le, nI_le_m, xI_0, xI_s, bI_0, bI_1, bI_t, bI_f, n_31, j_bit, j_one, i_and, i_or, Nat.not_lt_zero, Nat.succ_ne_zero, Nat.add_one_ne_zero, Nat.add_one_sub_one, Nat.zero_le, Nat.or_zero, Nat.zero_or, Bool.not_true, Bool.not_false, Bool.true_and, Bool.false_and, Bool.and_true, Bool.and_false, ↓reduceIte, if_true, if_false, not_true_eq_false, not_false_eq_true, true_and, and_true, false_and, and_false, and_self, true_or, or_true, false_or, or_false, Nat.reduceEqDiff, Nat.reduceLT, Nat.reduceLeDiff, Nat.reduceAdd, Nat.reduceMul, Nat.reduceSub, Nat.add_zero, Nat.zero_add, Nat.mul_zero, Nat.zero_mul, ne_eq, Bool.not_eq_true, Bool.not_eq_false, reduceCtorEq, decide_true, decide_false, decide_eq_true_eq, decide_eq_false_iff_not, Bool.false_eq_true, if_pos, if_neg, x1, m1, e, hc, hg, hr, h34, f_X11_answer]
    exact ⟨_, _, _, rfl, rfl, fin_0 (RX_e (cEq_rw sc _ _ _) (mEq_gQ s2 _) H) z⟩
theorem call_length (a : Int32) : CALL (f_X11_length a) (f_X12_length a) := by
  intro sc sm ⟨hA, H⟩
  have H := pro_x H
  have z := pro_0 sm
  unfold f_X11_length f_X12_length
  simp only [fLt_e, pro_eq]
  generalize pro sm = s2 at *
  obtain ⟨q, G, w, X, B, -⟩ := RX_cur H
  have x1 := x_canOpen X w
  have m1 := m_isDark B w
  have i3 : ∀ st, f_X11_isIn a (nI 0) (nI 1) st = some (bI (inB a.toInt 0 1), st) := fun st => x_isIn a 0 1 st
  have i4 : ∀ st, f_X12_isIn a.toInt64 0 1 st = some (bI (inB a.toInt 0 1), st) := fun st => m_isIn_c a 0 1 st
  by_cases ha : 0 ≤ a.toInt ∧ a.toInt < 2
  · rw [inB_t.mpr (by omega)] at i3 i4
    obtain ⟨k, hk, rfl, -⟩ := nI_ofInt (n := 2) ha.1 (by omega)
    by_cases h0 : gpl G (G 2) (G 5) = 0
    · rw [decide_eq_false (by simp [h0])] at x1
      rw [decide_eq_true h0] at m1
      simp (disch := omega) only [fLt_e, fBd_s, fJn_s, fNn_s, fNu_0, fNu_s, fBo_0, fBo_1, fBo_b, i_lit, i_neg1, nI_add, pk_mul, nI_clamp, i_le, i_lt, i_eq, fIx_n, nI_mI, mI_nI, mI_lt, nI_lt_m, mI_le, nI_le_m, xI_0, xI_s, bI_0, bI_1, bI_t, bI_f, n_31, j_bit, j_one, i_and, i_or, Nat.not_lt_zero, Nat.succ_ne_zero, Nat.add_one_ne_zero, Nat.add_one_sub_one, Nat.zero_le, Nat.or_zero, Nat.zero_or, Bool.not_true, Bool.not_false, Bool.true_and, Bool.false_and, Bool.and_true, Bool.and_false, ↓reduceIte, if_true, if_false, not_true_eq_false, not_false_eq_true, true_and, and_true, false_and, and_false, and_self, true_or, or_true, false_or, or_false, Nat.reduceEqDiff, Nat.reduceLT, Nat.reduceLeDiff, Nat.reduceAdd, Nat.reduceMul, Nat.reduceSub, Nat.add_zero, Nat.zero_add, Nat.mul_zero, Nat.zero_mul, ne_eq, Bool.not_eq_true, Bool.not_eq_false, reduceCtorEq, decide_true, decide_false, decide_eq_true_eq, decide_eq_false_iff_not, Bool.false_eq_true, if_pos, if_neg, i3, i4, x1, m1, f_X11_fail, f_X12_refuse]
      exact ⟨_, _, _, rfl, rfl, fin_st H _⟩
    · rw [decide_eq_true h0] at x1
      rw [decide_eq_false h0] at m1
      obtain ⟨Q, f, e, q1, q2⟩ := x_findAll X w
      have R := rwk_of w q1 q2
      have hg := m_goAll B w (kp := 0) (by omega)
      rw [xI_0] at hg
      have hP := (ovl_perm q1).trans (all_perm w (kp := 0))
      have hHR := RX_e (cEq_rw sc (nI (opn G)) (nI Q.length) f) (mEq_gQ s2 (((gCu G 0).map lNc).foldl (cq G) (qZ s2))) H
      by_cases hk0 : k = 0
      · subst hk0
        have hc := x_longest (sc := sI sc 6 0 3 (nI (opn G))) R
        have hlen : Q.foldl (lov G) 0 = (gCu G 0).foldl (fun a c => max a (pcn c.2.1)) 0 := by
          rw [lov_ovl, pfold (fun a p r => by show max (max a (pcn p.2)) (pcn r.2) = max (max a (pcn r.2)) (pcn p.2); omega) hP, List.foldl_map]
        rw [hlen] at hc
        have h35 := fq_35 (G := G) (gCu G 0) (qZ s2) 0 (by omega) rfl
        have hr : gI (gQ s2 (((gCu G 0).map lNc).foldl (cq G) (qZ s2))) 12 0 35 = (((gCu G 0).map lNc).foldl (cq G) (qZ s2)).1 35 := rfl
        simp (disch := omega) only [fLt_e, fBd_s, fJn_s, fNn_s, fNu_0, fNu_s, fBo_0, fBo_1, fBo_b, i_lit, i_neg1, nI_add, pk_mul, nI_clamp, i_le, i_lt, i_eq, fIx_n, nI_mI, mI_nI, mI_lt, nI_lt_m, mI_le, nI_le_m, xI_0, xI_s, bI_0, bI_1, bI_t, bI_f, n_31, j_bit, j_one, i_and, i_or, Nat.not_lt_zero, Nat.succ_ne_zero, Nat.add_one_ne_zero, Nat.add_one_sub_one, Nat.zero_le, Nat.or_zero, Nat.zero_or, Bool.not_true, Bool.not_false, Bool.true_and, Bool.false_and, Bool.and_true, Bool.and_false, ↓reduceIte, if_true, if_false, not_true_eq_false, not_false_eq_true, true_and, and_true, false_and, and_false, and_self, true_or, or_true, false_or, or_false, Nat.reduceEqDiff, Nat.reduceLT, Nat.reduceLeDiff, Nat.reduceAdd, Nat.reduceMul, Nat.reduceSub, Nat.add_zero, Nat.zero_add, Nat.mul_zero, Nat.zero_mul, ne_eq, Bool.not_eq_true, Bool.not_eq_false, reduceCtorEq, decide_true, decide_false, decide_eq_true_eq, decide_eq_false_iff_not, Bool.false_eq_true, if_pos, if_neg, i3, i4, x1, m1, e, hc, hg, hr, h35, f_X11_answer]
        exact ⟨_, _, _, rfl, rfl, fin_0 hHR z⟩
      · have hk1 : k = 1 := by omega
        subst hk1
        have hc := x_shortest (sc := sI sc 6 0 3 (nI (opn G))) R
        have hlen : Q.foldl (sov G) 12 = (gCu G 0).foldl (fun a c => min a (pcn c.2.1)) 12 := by
          rw [sov_ovl, pfold (fun a p r => by show min (min a (pcn p.2)) (pcn r.2) = min (min a (pcn r.2)) (pcn p.2); omega) hP, List.foldl_map]
        rw [hlen] at hc
        have h36 := fq_36 (G := G) (gCu G 0) (qZ s2) 12 (by omega) rfl
        have hr : gI (gQ s2 (((gCu G 0).map lNc).foldl (cq G) (qZ s2))) 12 0 36 = (((gCu G 0).map lNc).foldl (cq G) (qZ s2)).1 36 := rfl
        simp (disch := omega) only [fLt_e, fBd_s, fJn_s, fNn_s, fNu_0, fNu_s, fBo_0, fBo_1, fBo_b, i_lit, i_neg1, nI_add, pk_mul, nI_clamp, i_le, i_lt, i_eq, fIx_n, nI_mI, mI_nI, mI_lt, nI_lt_m, mI_le, nI_le_m, xI_0, xI_s, bI_0, bI_1, bI_t, bI_f, n_31, j_bit, j_one, i_and, i_or, Nat.not_lt_zero, Nat.succ_ne_zero, Nat.add_one_ne_zero, Nat.add_one_sub_one, Nat.zero_le, Nat.or_zero, Nat.zero_or, Bool.not_true, Bool.not_false, Bool.true_and, Bool.false_and, Bool.and_true, Bool.and_false, ↓reduceIte, if_true, if_false, not_true_eq_false, not_false_eq_true, true_and, and_true, false_and, and_false, and_self, true_or, or_true, false_or, or_false, Nat.reduceEqDiff, Nat.reduceLT, Nat.reduceLeDiff, Nat.reduceAdd, Nat.reduceMul, Nat.reduceSub, Nat.add_zero, Nat.zero_add, Nat.mul_zero, Nat.zero_mul, ne_eq, Bool.not_eq_true, Bool.not_eq_false, reduceCtorEq, decide_true, decide_false, decide_eq_true_eq, decide_eq_false_iff_not, Bool.false_eq_true, if_pos, if_neg, i3, i4, x1, m1, e, hc, hg, hr, h36, f_X11_answer]
        exact ⟨_, _, _, rfl, rfl, fin_0 hHR z⟩
  · rw [inB_f.mpr (by omega)] at i3 i4
    simp (disch := omega) only [fLt_e, fBd_s, fJn_s, fNn_s, fNu_0, fNu_s, fBo_0, fBo_1, fBo_b, i_lit, i_neg1, nI_add, pk_mul, nI_clamp, i_le, i_lt, i_eq, fIx_n, nI_mI, mI_nI, mI_lt, nI_lt_m, mI_le, nI_le_m, xI_0, xI_s, bI_0, bI_1, bI_t, bI_f, n_31, j_bit, j_one, i_and, i_or, Nat.not_lt_zero, Nat.succ_ne_zero, Nat.add_one_ne_zero, Nat.add_one_sub_one, Nat.zero_le, Nat.or_zero, Nat.zero_or, Bool.not_true, Bool.not_false, Bool.true_and, Bool.false_and, Bool.and_true, Bool.and_false, ↓reduceIte, if_true, if_false, not_true_eq_false, not_false_eq_true, true_and, and_true, false_and, and_false, and_self, true_or, or_true, false_or, or_false, Nat.reduceEqDiff, Nat.reduceLT, Nat.reduceLeDiff, Nat.reduceAdd, Nat.reduceMul, Nat.reduceSub, Nat.add_zero, Nat.zero_add, Nat.mul_zero, Nat.zero_mul, ne_eq, Bool.not_eq_true, Bool.not_eq_false, reduceCtorEq, decide_true, decide_false, decide_eq_true_eq, decide_eq_false_iff_not, Bool.false_eq_true, if_pos, if_neg, i3, i4, f_X11_fail, f_X12_refuse]
    exact ⟨_, _, _, rfl, rfl, fin_st H _⟩
