/-! layer 2: endings by a scene -/
section
variable {sc : fSt} {q : Nat} {G : Nat → Nat} {Q : List nT} {f : Nat → Int32}
theorem x_lastO (R : rwk G Q f) {i : Nat} {x : nT} (h : Q[i]? = some x) (ho : ovr G x = true) (w : gWf G) (st : fSt) : f_X6_lastOf (f i) st = some (nI x.1, st) := by
  obtain ⟨⟨a1, a2, a3, a4, a5⟩, hf⟩ := R.2 i x h
  have w1 := w.1
  have e : fwd G x = x.2.1 ||| 2 ^ 20 := if_pos ho
  rw [hf, e]
  refine x_lastOf (by omega) ?_ ?_ st
  · rw [Nat.testBit_or, a3, Bool.true_or]
  · intro j hj
    rw [Nat.testBit_or, a4 j hj, Nat.testBit_two_pow, decide_eq_false (by omega)]
    rfl
theorem fwd_and {x : nT} (ho : ovr G x = true) {a : Nat} (ha : a < 4096) : fwd G x &&& a = x.2.1 &&& a := by
  have e : fwd G x = x.2.1 ||| 2 ^ 20 := if_pos ho
  rw [e]
  apply Nat.eq_of_testBit_eq
  intro i
  rw [Nat.testBit_and, Nat.testBit_and, Nat.testBit_or, Nat.testBit_two_pow]
  by_cases hi : 20 = i
  · subst hi
    rw [Nat.testBit_lt_two_pow (Nat.lt_of_lt_of_le ha (by decide))]
    simp
  · rw [decide_eq_false hi, Bool.or_false]
def eov (G : Nat → Nat) (a2 a : Nat) (x : nT) : Nat := if ovr G x then (if x.2.1 &&& a2 = 0 then a else a ||| 2 ^ gsl G x.1) else a
theorem x_endingsBy (X : rHou sc 0 q G) (w : gWf G) (R : rwk G Q f) {a2 : Nat} (ha : a2 < 4096) : f_X6_endingsBy q (nI a2) (rwS sc (nI Q.length) f) = some (nI (Q.foldl (eov G a2) 0), rwS sc (nI Q.length) f) := by
  have hl := R.1
  have w1 := w.1
  obtain ⟨m, e⟩ := lp_run (fun m (z : Int32 × Int32) => f_X6_endingsBy_L5 q (nI a2) m z.1 z.2 (rwS sc (nI Q.length) f)) (fun i => (nI ((Q.take i).foldl (eov G a2) 0), nI i)) Q.length (fun m i hi => by
    show f_X6_endingsBy_L5 q (nI a2) (m + 1) (nI ((Q.take i).foldl (eov G a2) 0)) (nI i) (rwS sc (nI Q.length) f) = f_X6_endingsBy_L5 q (nI a2) m (nI ((Q.take (i + 1)).foldl (eov G a2) 0)) (nI (i + 1)) (rwS sc (nI Q.length) f)
    obtain ⟨x, hx⟩ := get_x hi
    obtain ⟨hok, hf⟩ := R.2 i x hx
    have ho := x_isOver (sc := sc) R hx (nI Q.length)
    rw [take_x hx, List.foldl_append, List.foldl_cons, List.foldl_nil, f_X6_endingsBy_L5]
    generalize (Q.take i).foldl (eov G a2) 0 = a at *
    unfold eov
    cases hv : ovr G x with
    | false =>
      rw [hv] at ho
      simp (disch := omega) only [fLt_e, fBd_s, fJn_s, fNn_s, fNu_0, fNu_s, fBo_0, fBo_1, fBo_b, i_lit, i_neg1, nI_add, pk_mul, nI_clamp, i_le, i_lt, i_eq, fIx_n, nI_mI, mI_nI, mI_lt, nI_lt_m, mI_le, nI_le_m, xI_0, xI_s, bI_0, bI_1, bI_t, bI_f, n_31, j_bit, j_one, i_and, i_or, Nat.not_lt_zero, Nat.succ_ne_zero, Nat.add_one_ne_zero, Nat.add_one_sub_one, Nat.zero_le, Nat.or_zero, Nat.zero_or, Bool.not_true, Bool.not_false, Bool.true_and, Bool.false_and, Bool.and_true, Bool.and_false, ↓reduceIte, if_true, if_false, not_true_eq_false, not_false_eq_true, true_and, and_true, false_and, and_false, and_self, true_or, or_true, false_or, or_false, Nat.reduceEqDiff, Nat.reduceLT, Nat.reduceLeDiff, Nat.reduceAdd, Nat.reduceMul, Nat.reduceSub, Nat.add_zero, Nat.zero_add, Nat.mul_zero, Nat.zero_mul, ne_eq, Bool.not_eq_true, Bool.not_eq_false, reduceCtorEq, decide_true, decide_false, decide_eq_true_eq, decide_eq_false_iff_not, Bool.false_eq_true, if_pos, if_neg, rwS_n, ho]
    | true =>
      rw [hv] at ho
      have hla := x_lastO R hx hv w (rwS sc (nI Q.length) f)
      rw [hf] at hla
      have hen : f_X7_endSlot q (nI x.1) (rwS sc (nI Q.length) f) = some (nI (gsl G x.1), rwS sc (nI Q.length) f) := x_endSlot (sc := rwS sc (nI Q.length) f) X.2.1 w hok.1
      have hsl := gsl_le w hok.1
      have han := fwd_and (G := G) hv ha
      by_cases hz : x.2.1 &&& a2 = 0
      · rw [hz] at han
        simp (disch := omega) only [fLt_e, fBd_s, fJn_s, fNn_s, fNu_0, fNu_s, fBo_0, fBo_1, fBo_b, i_lit, i_neg1, nI_add, pk_mul, nI_clamp, i_le, i_lt, i_eq, fIx_n, nI_mI, mI_nI, mI_lt, nI_lt_m, mI_le, nI_le_m, xI_0, xI_s, bI_0, bI_1, bI_t, bI_f, n_31, j_bit, j_one, i_and, i_or, Nat.not_lt_zero, Nat.succ_ne_zero, Nat.add_one_ne_zero, Nat.add_one_sub_one, Nat.zero_le, Nat.or_zero, Nat.zero_or, Bool.not_true, Bool.not_false, Bool.true_and, Bool.false_and, Bool.and_true, Bool.and_false, ↓reduceIte, if_true, if_false, not_true_eq_false, not_false_eq_true, true_and, and_true, false_and, and_false, and_self, true_or, or_true, false_or, or_false, Nat.reduceEqDiff, Nat.reduceLT, Nat.reduceLeDiff, Nat.reduceAdd, Nat.reduceMul, Nat.reduceSub, Nat.add_zero, Nat.zero_add, Nat.mul_zero, Nat.zero_mul, ne_eq, Bool.not_eq_true, Bool.not_eq_false, reduceCtorEq, decide_true, decide_false, decide_eq_true_eq, decide_eq_false_iff_not, Bool.false_eq_true, if_pos, if_neg, rwS_n, rwS_f, ho, hf, han, hz]
      · have hlt : x.2.1 &&& a2 < 2 ^ 31 := Nat.lt_of_le_of_lt Nat.and_le_right (by omega)
        simp (disch := omega) only [fLt_e, fBd_s, fJn_s, fNn_s, fNu_0, fNu_s, fBo_0, fBo_1, fBo_b, i_lit, i_neg1, nI_add, pk_mul, nI_clamp, i_le, i_lt, i_eq, fIx_n, nI_mI, mI_nI, mI_lt, nI_lt_m, mI_le, nI_le_m, xI_0, xI_s, bI_0, bI_1, bI_t, bI_f, n_31, j_bit, j_one, i_and, i_or, Nat.not_lt_zero, Nat.succ_ne_zero, Nat.add_one_ne_zero, Nat.add_one_sub_one, Nat.zero_le, Nat.or_zero, Nat.zero_or, Bool.not_true, Bool.not_false, Bool.true_and, Bool.false_and, Bool.and_true, Bool.and_false, ↓reduceIte, if_true, if_false, not_true_eq_false, not_false_eq_true, true_and, and_true, false_and, and_false, and_self, true_or, or_true, false_or, or_false, Nat.reduceEqDiff, Nat.reduceLT, Nat.reduceLeDiff, Nat.reduceAdd, Nat.reduceMul, Nat.reduceSub, Nat.add_zero, Nat.zero_add, Nat.mul_zero, Nat.zero_mul, ne_eq, Bool.not_eq_true, Bool.not_eq_false, reduceCtorEq, decide_true, decide_false, decide_eq_true_eq, decide_eq_false_iff_not, Bool.false_eq_true, if_pos, if_neg, rwS_n, rwS_f, ho, hf, han, hz, hla, hen]) (fF_lt (by omega))
  unfold f_X6_endingsBy
  refine Eq.trans ?_ (Eq.trans e ?_)
  · rfl
  · show f_X6_endingsBy_L5 q (nI a2) (m + 1) (nI ((Q.take Q.length).foldl (eov G a2) 0)) (nI Q.length) (rwS sc (nI Q.length) f) = _
    rw [f_X6_endingsBy_L5, List.take_length]
    simp (disch := omega) only [fLt_e, fBd_s, fJn_s, fNn_s, fNu_0, fNu_s, fBo_0, fBo_1, fBo_b, i_lit, i_neg1, nI_add, pk_mul, nI_clamp, i_le, i_lt, i_eq, fIx_n, nI_mI, mI_nI, mI_lt, nI_lt_m, mI_le, nI_le_m, xI_0, xI_s, bI_0, bI_1, bI_t, bI_f, n_31, j_bit, j_one, i_and, i_or, Nat.not_lt_zero, Nat.succ_ne_zero, Nat.add_one_ne_zero, Nat.add_one_sub_one, Nat.zero_le, Nat.or_zero, Nat.zero_or, Bool.not_true, Bool.not_false, Bool.true_and, Bool.false_and, Bool.and_true, Bool.and_false, ↓reduceIte, if_true, if_false, not_true_eq_false, not_false_eq_true, true_and, and_true, false_and, and_false, and_self, true_or, or_true, false_or, or_false, Nat.reduceEqDiff, Nat.reduceLT, Nat.reduceLeDiff, Nat.reduceAdd, Nat.reduceMul, Nat.reduceSub, Nat.add_zero, Nat.zero_add, Nat.mul_zero, Nat.zero_mul, ne_eq, Bool.not_eq_true, Bool.not_eq_false, reduceCtorEq, decide_true, decide_false, decide_eq_true_eq, decide_eq_false_iff_not, Bool.false_eq_true, if_pos, if_neg, rwS_n]
end
def eop (G : Nat → Nat) (a2 a : Nat) (p : Nat × Nat) : Nat := if p.2 &&& a2 = 0 then a else a ||| 2 ^ gsl G p.1
theorem eov_ovl (G : Nat → Nat) (a2 : Nat) : ∀ (Q : List nT) a, Q.foldl (eov G a2) a = (ovl G Q).foldl (eop G a2) a := by
  intro Q
  induction Q with
  | nil => intro a; rfl
  | cons x Q ih =>
    intro a
    rw [List.foldl_cons, ih]
    unfold eov ovl
    rw [List.filter_cons]
    cases ovr G x
    · simp
    · simp [pr2, eop]
theorem eop_comm (G : Nat → Nat) (a2 : Nat) (a : Nat) (p r : Nat × Nat) : eop G a2 (eop G a2 a p) r = eop G a2 (eop G a2 a r) p := by
  unfold eop
  split <;> split <;> first | rfl | rw [Nat.or_assoc, Nat.or_assoc, Nat.or_comm (2 ^ gsl G p.1)]
