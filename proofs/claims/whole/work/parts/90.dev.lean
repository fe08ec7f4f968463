/-! layer 2: the call by -/
section
variable {G : Nat → Nat}
theorem cq_10 (c : cT) (k : Nat) (u : qT) : ∀ n, (rng (cq2 G c) n u).2.2.1 k = if k < n ∧ c.2.1.testBit k = true then u.2.2.1 k ||| nI (2 ^ gsl G c.1) else u.2.2.1 k := by
  intro n
  induction n with
  | zero =>
    rw [if_neg (by omega)]
    rfl
  | succ n ih =>
    rw [rng_s, cq2]
    by_cases hb : c.2.1.testBit n = true
    · rw [if_pos hb]
      show upd (rng (cq2 G c) n u).2.2.1 n ((rng (cq2 G c) n u).2.2.1 n ||| nI (2 ^ gsl G c.1)) k = _
      rw [upd_at]
      by_cases hk : k = n
      · subst hk
        rw [if_pos rfl, ih, if_neg (by omega), if_pos ⟨by omega, hb⟩]
      · rw [if_neg hk, ih]
        by_cases h : k < n ∧ c.2.1.testBit k = true
        · rw [if_pos h, if_pos ⟨by omega, h.2⟩]
        · rw [if_neg h, if_neg (fun h2 => h ⟨by omega, h2.2⟩)]
    · rw [if_neg hb, ih]
      by_cases h : k < n ∧ c.2.1.testBit k = true
      · rw [if_pos h, if_pos ⟨by omega, h.2⟩]
      · rw [if_neg h, if_neg (fun h2 => h ⟨by
          by_cases hk : k = n
          · subst hk; exact absurd h2.2 hb
          · omega, h2.2⟩)]
def eob (G : Nat → Nat) (k a : Nat) (p : Nat × Nat) : Nat := if p.2.testBit k then a ||| 2 ^ gsl G p.1 else a
theorem fq_10 {k : Nat} (hk : k < G 2) : ∀ (L : List (Nat × Nat × Nat)) (t : qT) (a : Nat), t.2.2.1 k = nI a → ((L.map lNc).foldl (cq G) t).2.2.1 k = nI (L.foldl (fun a c => eob G k a (c.1, c.2.1)) a) := by
  intro L
  induction L with
  | nil => intro t a h; exact h
  | cons c L ih =>
    intro t a h
    rw [List.map_cons, List.foldl_cons, List.foldl_cons]
    refine ih _ _ ?_
    unfold cq
    rw [cq_10]
    have e : (cq1 G (lNc c) t).2.2.1 k = nI a := h
    rw [e]
    unfold eob
    by_cases hb : c.2.1.testBit k = true
    · rw [if_pos ⟨hk, hb⟩, if_pos hb, i_or]
      rfl
    · rw [if_neg (fun h => hb h.2), if_neg hb]
theorem eop_eob (k a : Nat) (p : Nat × Nat) : eop G (2 ^ k) a p = eob G k a p := by
  unfold eop eob
  have key : p.2 &&& 2 ^ k = if p.2.testBit k then 2 ^ k else 0 := by
    apply Nat.eq_of_testBit_eq
    intro i
    rw [Nat.testBit_and, Nat.testBit_two_pow]
    by_cases hi : k = i
    · subst hi
      cases h : p.2.testBit k
      · rw [if_neg (by decide), Nat.zero_testBit]; rfl
      · rw [if_pos rfl, Nat.testBit_two_pow]; simp
    · rw [decide_eq_false hi, Bool.and_false]
      cases h : p.2.testBit k
      · rw [if_neg (by decide), Nat.zero_testBit]
      · rw [if_pos rfl, Nat.testBit_two_pow, decide_eq_false hi]
  rw [key]
  have hp := Nat.two_pow_pos k
  cases p.2.testBit k
  · simp
  · simp only [if_true]
    rw [if_neg (by omega)]
end
theorem call_by (a : Int32) : CALL (f_X11_by a) (f_X12_by a) := by
  intro sc sm ⟨hA, H⟩
  have H := pro_x H
  have z := pro_0 sm
  unfold f_X11_by f_X12_by
  simp only [fLt_e, pro_eq]
  generalize pro sm = s2 at *
  obtain ⟨q, G, w, X, B, -⟩ := RX_cur H
  have w1 := w.1
  have i1 := x_hasScene X w a
  have i2 := m_isSceneAt B w a
  by_cases ha : 0 ≤ a.toInt ∧ a.toInt < G 2
  · rw [inB_t.mpr (by omega)] at i1 i2
    obtain ⟨k, hk, rfl, -⟩ := nI_ofInt (n := G 2) ha.1 (by omega)
    obtain ⟨Q, f, e, q1, q2⟩ := x_findAll X w
    have R := rwk_of w q1 q2
    have hg := m_goAll B w (kp := 0) (by omega)
    rw [xI_0] at hg
    have hP := (ovl_perm q1).trans (all_perm w (kp := 0))
    have hHR := RX_e (cEq_rw sc (nI (opn G)) (nI Q.length) f) (mEq_gQ s2 (((gCu G 0).map lNc).foldl (cq G) (qZ s2))) H
    have h2k : 2 ^ k < 2 ^ 12 := Nat.pow_lt_pow_right (by omega) (by omega)
    have hc := x_endingsBy (sc := sI sc 6 0 3 (nI (opn G))) X w R h2k
    have hlen : Q.foldl (eov G (2 ^ k)) 0 = (gCu G 0).foldl (fun a c => eob G k a (c.1, c.2.1)) 0 := by
      rw [eov_ovl, pfold (eop_comm G (2 ^ k)) hP, List.foldl_map]
      simp only [eop_eob]
    rw [hlen] at hc
    have h10 := fq_10 hk (gCu G 0) (qZ s2) 0 (by
      show (if k < 12 then nI 0 else _) = nI 0
      rw [if_pos (by omega)])
    have hr : gA (gQ s2 (((gCu G 0).map lNc).foldl (cq G) (qZ s2))) 12 0 10 = (((gCu G 0).map lNc).foldl (cq G) (qZ s2)).2.2.1 := rfl
    have hp : gP (rwS (sI sc 6 0 3 (nI (opn G))) (nI Q.length) f) 2 0 0 = q + 1 := X.1
    simp (disch := omega) only [fLt_e, fBd_s, fJn_s, fNn_s, fNu_0, fNu_s, fBo_0, fBo_1, fBo_b, i_lit, i_neg1, nI_add, pk_mul, nI_clamp, i_le, i_lt, i_eq, fIx_n, nI_mI, mI_nI, mI_lt, nI_lt_m, mI_le, nI_le_m, xI_0, xI_s, bI_0, bI_1, bI_t, bI_f, n_31, j_bit, j_one, i_and, i_or, Nat.not_lt_zero, Nat.succ_ne_zero, Nat.add_one_ne_zero, Nat.add_one_sub_one, Nat.zero_le, Nat.or_zero, Nat.zero_or, Bool.not_true, Bool.not_false, Bool.true_and, Bool.false_and, Bool.and_true, Bool.and_false, ↓reduceIte, if_true, if_false, not_true_eq_false, not_false_eq_true, true_and, and_true, false_and, and_false, and_self, true_or, or_true, false_or, or_false, Nat.reduceEqDiff, Nat.reduceLT, Nat.reduceLeDiff, Nat.reduceAdd, Nat.reduceMul, Nat.reduceSub, Nat.add_zero, Nat.zero_add, Nat.mul_zero, Nat.zero_mul, ne_eq, Bool.not_eq_true, Bool.not_eq_false, reduceCtorEq, decide_true, decide_false, decide_eq_true_eq, decide_eq_false_iff_not, Bool.false_eq_true, if_pos, if_neg, i1, i2, e, hp, hc, hg, hr, h10, f_X11_answer]
    exact ⟨_, _, _, rfl, rfl, fin_0 hHR z⟩
  · rw [inB_f.mpr (by omega)] at i1 i2
    simp (disch := omega) only [fLt_e, fBd_s, fJn_s, fNn_s, fNu_0, fNu_s, fBo_0, fBo_1, fBo_b, i_lit, i_neg1, nI_add, pk_mul, nI_clamp, i_le, i_lt, i_eq, fIx_n, nI_mI, mI_nI, mI_lt, nI_lt_m, mI_le, nI_le_m, xI_0, xI_s, bI_0, bI_1, bI_t, bI_f, n_31, j_bit, j_one, i_and, i_or, Nat.not_lt_zero, Nat.succ_ne_zero, Nat.add_one_ne_zero, Nat.add_one_sub_one, Nat.zero_le, Nat.or_zero, Nat.zero_or, Bool.not_true, Bool.not_false, Bool.true_and, Bool.false_and, Bool.and_true, Bool.and_false, ↓reduceIte, if_true, if_false, not_true_eq_false, not_false_eq_true, true_and, and_true, false_and, and_false, and_self, true_or, or_true, false_or, or_false, Nat.reduceEqDiff, Nat.reduceLT, Nat.reduceLeDiff, Nat.reduceAdd, Nat.reduceMul, Nat.reduceSub, Nat.add_zero, Nat.zero_add, Nat.mul_zero, Nat.zero_mul, ne_eq, Bool.not_eq_true, Bool.not_eq_false, reduceCtorEq, decide_true, decide_false, decide_eq_true_eq, decide_eq_false_iff_not, Bool.false_eq_true, if_pos, if_neg, i1, i2, f_X11_fail, f_X12_refuse]
    exact ⟨_, _, _, rfl, rfl, fin_st H _⟩
