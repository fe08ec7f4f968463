/-! layer 2: the class's loops over all rows -/
def rwk (G : Nat → Nat) (Q : List nT) (f : Nat → Int32) : Prop := Q.length ≤ 2048 ∧ ∀ k x, Q[k]? = some x → nok G x ∧ f k = nI (fwd G x)
def ovr (G : Nat → Nat) (x : nT) : Bool := gov (tsn G x) 4
section
variable {G : Nat → Nat}
theorem sub_ok (w : gWf G) : ∀ n x, nok G x → ∀ y ∈ sub G n x, nok G y := by
  intro n
  induction n with
  | zero => intro x _ y hy; exact absurd hy (by simp [sub])
  | succ n ih =>
    intro x hx y hy
    unfold sub at hy
    rcases List.mem_cons.mp hy with rfl | hy
    · exact hx
    · obtain ⟨z, hz, hy⟩ := List.mem_flatMap.mp hy
      unfold chd at hz
      obtain ⟨t, ht, rfl⟩ := List.mem_map.mp hz
      exact ih _ (kid_ok w hx ht).1 y hy
theorem allR_ok (w : gWf G) : ∀ y ∈ allR G, nok G y := by
  intro y hy
  unfold allR at hy
  split at hy
  · exact absurd hy (by simp)
  · rename_i h
    exact sub_ok w 13 _ (rtn_ok w (gpl_pos h)) y hy
theorem rwk_of (w : gWf G) {Q : List nT} {f : Nat → Int32} (h : Q.Perm (allR G)) (hf : ∀ k x, Q[k]? = some x → f k = nI (fwd G x)) : rwk G Q f := by
  refine ⟨by rw [h.length_eq]; exact allR_len w, fun k x hx => ⟨?_, hf k x hx⟩⟩
  exact allR_ok w x (h.mem_iff.mp (List.mem_of_getElem? hx))
theorem fwd_or {x : nT} (hx : nok G x) (h : ovr G x = true) : fwd G x = x.2.1 + 1048576 := by
  unfold ovr at h
  unfold fwd
  rw [if_pos h]
  exact or_add 20 _ (Nat.testBit_lt_two_pow (Nat.lt_of_lt_of_le hx.2.1 (by decide)))
theorem fwd_no {x : nT} (h : ovr G x = false) : fwd G x = x.2.1 := by
  unfold fwd
  rw [if_neg (by
    intro h2
    have h2 : ovr G x = true := h2
    rw [h] at h2
    exact absurd h2 (by decide))]
theorem fwd_20 {x : nT} (hx : nok G x) : fwd G x &&& 1048576 = if ovr G x then 1048576 else 0 := by
  have hb : x.2.1.testBit 20 = false := Nat.testBit_lt_two_pow (Nat.lt_of_lt_of_le hx.2.1 (by decide))
  have key : ∀ a : Nat, a &&& 2 ^ 20 = if a.testBit 20 then 2 ^ 20 else 0 := by
    intro a
    apply Nat.eq_of_testBit_eq
    intro i
    rw [Nat.testBit_and, Nat.testBit_two_pow]
    by_cases hi : 20 = i
    · subst hi
      cases h : a.testBit 20
      · rw [if_neg (by decide), Nat.zero_testBit]; rfl
      · rw [if_pos rfl, Nat.testBit_two_pow]; rfl
    · rw [decide_eq_false hi, Bool.and_false]
      cases h : a.testBit 20
      · rw [if_neg (by decide), Nat.zero_testBit]
      · rw [if_pos rfl, Nat.testBit_two_pow, decide_eq_false hi]
  have k2 := key (fwd G x)
  rw [show (2 : Nat) ^ 20 = 1048576 from rfl] at k2
  rw [k2]
  cases ho : ovr G x with
  | true =>
    have e : fwd G x = x.2.1 ||| 2 ^ 20 := if_pos ho
    rw [e, Nat.testBit_or, Nat.testBit_two_pow]
    simp
  | false =>
    rw [fwd_no ho, hb]
end
section
variable {sc : fSt} {G : Nat → Nat} {Q : List nT} {f : Nat → Int32}
theorem x_isOver (R : rwk G Q f) {i : Nat} {x : nT} (h : Q[i]? = some x) (n : Int32) : f_X6_isOver (nI i) (rwS sc n f) = some (bI (ovr G x), rwS sc n f) := by
  obtain ⟨hx, hf⟩ := R.2 i x h
  have hi : i < Q.length := (List.getElem?_eq_some_iff.mp h).1
  have hl := R.1
  have e := fwd_20 hx
  unfold f_X6_isOver
  cases ho : ovr G x with
  | true =>
    rw [ho] at e
    simp only [if_true] at e
    simp (disch := omega) only [fLt_e, fBd_s, fJn_s, fNn_s, fNu_0, fNu_s, fBo_0, fBo_1, fBo_b, i_lit, i_neg1, nI_add, pk_mul, nI_clamp, i_le, i_lt, i_eq, fIx_n, nI_mI, mI_nI, mI_lt, nI_lt_m, mI_le, nI_le_m, xI_0, xI_s, bI_0, bI_1, bI_t, bI_f, n_31, j_bit, j_one, i_and, i_or, Nat.not_lt_zero, Nat.succ_ne_zero, Nat.add_one_ne_zero, Nat.add_one_sub_one, Nat.zero_le, Nat.or_zero, Nat.zero_or, Bool.not_true, Bool.not_false, Bool.true_and, Bool.false_and, Bool.and_true, Bool.and_false, ↓reduceIte, if_true, if_false, not_true_eq_false, not_false_eq_true, true_and, and_true, false_and, and_false, and_self, true_or, or_true, false_or, or_false, Nat.reduceEqDiff, Nat.reduceLT, Nat.reduceLeDiff, Nat.reduceAdd, Nat.reduceMul, Nat.reduceSub, Nat.add_zero, Nat.zero_add, Nat.mul_zero, Nat.zero_mul, ne_eq, Bool.not_eq_true, Bool.not_eq_false, reduceCtorEq, decide_true, decide_false, decide_eq_true_eq, decide_eq_false_iff_not, Bool.false_eq_true, if_pos, if_neg, rwS_f, hf, e]
  | false =>
    rw [ho] at e
    simp only [Bool.false_eq_true, if_false] at e
    simp (disch := omega) only [fLt_e, fBd_s, fJn_s, fNn_s, fNu_0, fNu_s, fBo_0, fBo_1, fBo_b, i_lit, i_neg1, nI_add, pk_mul, nI_clamp, i_le, i_lt, i_eq, fIx_n, nI_mI, mI_nI, mI_lt, nI_lt_m, mI_le, nI_le_m, xI_0, xI_s, bI_0, bI_1, bI_t, bI_f, n_31, j_bit, j_one, i_and, i_or, Nat.not_lt_zero, Nat.succ_ne_zero, Nat.add_one_ne_zero, Nat.add_one_sub_one, Nat.zero_le, Nat.or_zero, Nat.zero_or, Bool.not_true, Bool.not_false, Bool.true_and, Bool.false_and, Bool.and_true, Bool.and_false, ↓reduceIte, if_true, if_false, not_true_eq_false, not_false_eq_true, true_and, and_true, false_and, and_false, and_self, true_or, or_true, false_or, or_false, Nat.reduceEqDiff, Nat.reduceLT, Nat.reduceLeDiff, Nat.reduceAdd, Nat.reduceMul, Nat.reduceSub, Nat.add_zero, Nat.zero_add, Nat.mul_zero, Nat.zero_mul, ne_eq, Bool.not_eq_true, Bool.not_eq_false, reduceCtorEq, decide_true, decide_false, decide_eq_true_eq, decide_eq_false_iff_not, Bool.false_eq_true, if_pos, if_neg, rwS_f, hf, e]
theorem x_lengthOf (R : rwk G Q f) {i : Nat} {x : nT} (h : Q[i]? = some x) (ho : ovr G x = true) (n : Int32) : f_X6_lengthOf (nI i) (rwS sc n f) = some (nI (pcn x.2.1), rwS sc n f) := by
  obtain ⟨hx, hf⟩ := R.2 i x h
  have hi : i < Q.length := (List.getElem?_eq_some_iff.mp h).1
  have hl := R.1
  rw [fwd_or hx ho] at hf
  have hb := (bc_w hx.2.1 (rwS sc n f)).2
  have hs : nI (pcn x.2.1 + 1) - nI 1 = nI (pcn x.2.1) := by rw [nI_sub (by omega), Nat.add_sub_cancel]
  unfold f_X6_lengthOf
  simp (disch := omega) only [fLt_e, fBd_s, fJn_s, fNn_s, fNu_0, fNu_s, fBo_0, fBo_1, fBo_b, i_lit, i_neg1, nI_add, pk_mul, nI_clamp, i_le, i_lt, i_eq, fIx_n, nI_mI, mI_nI, mI_lt, nI_lt_m, mI_le, nI_le_m, xI_0, xI_s, bI_0, bI_1, bI_t, bI_f, n_31, j_bit, j_one, i_and, i_or, Nat.not_lt_zero, Nat.succ_ne_zero, Nat.add_one_ne_zero, Nat.add_one_sub_one, Nat.zero_le, Nat.or_zero, Nat.zero_or, Bool.not_true, Bool.not_false, Bool.true_and, Bool.false_and, Bool.and_true, Bool.and_false, ↓reduceIte, if_true, if_false, not_true_eq_false, not_false_eq_true, true_and, and_true, false_and, and_false, and_self, true_or, or_true, false_or, or_false, Nat.reduceEqDiff, Nat.reduceLT, Nat.reduceLeDiff, Nat.reduceAdd, Nat.reduceMul, Nat.reduceSub, Nat.add_zero, Nat.zero_add, Nat.mul_zero, Nat.zero_mul, ne_eq, Bool.not_eq_true, Bool.not_eq_false, reduceCtorEq, decide_true, decide_false, decide_eq_true_eq, decide_eq_false_iff_not, Bool.false_eq_true, if_pos, if_neg, rwS_f, hf, hb, hs]
theorem take_x {i : Nat} {x : nT} (h : Q[i]? = some x) : Q.take (i + 1) = Q.take i ++ [x] := by
  rw [List.take_succ, h]
  rfl
theorem get_x {i : Nat} (h : i < Q.length) : ∃ x, Q[i]? = some x := ⟨Q[i], List.getElem?_eq_getElem h⟩
def cov (G : Nat → Nat) (a : Nat) (x : nT) : Nat := if ovr G x then a + 1 else a
theorem x_countOver (R : rwk G Q f) : f_X6_countOver (rwS sc (nI Q.length) f) = some (nI (Q.foldl (cov G) 0), rwS sc (nI Q.length) f) := by
  have hl := R.1
  obtain ⟨m, e⟩ := lp_run (fun m (z : Int32 × Int32) => f_X6_countOver_L4 m z.1 z.2 (rwS sc (nI Q.length) f)) (fun i => (nI ((Q.take i).foldl (cov G) 0), nI i)) Q.length (fun m i hi => by
    show f_X6_countOver_L4 (m + 1) (nI ((Q.take i).foldl (cov G) 0)) (nI i) (rwS sc (nI Q.length) f) = f_X6_countOver_L4 m (nI ((Q.take (i + 1)).foldl (cov G) 0)) (nI (i + 1)) (rwS sc (nI Q.length) f)
    obtain ⟨x, hx⟩ := get_x hi
    have ho := x_isOver (sc := sc) R hx (nI Q.length)
    rw [take_x hx, List.foldl_append, List.foldl_cons, List.foldl_nil, f_X6_countOver_L4]
    generalize (Q.take i).foldl (cov G) 0 = a
    unfold cov
    cases hv : ovr G x <;> rw [hv] at ho <;> simp (disch := omega) only [fLt_e, fBd_s, fJn_s, fNn_s, fNu_0, fNu_s, fBo_0, fBo_1, fBo_b, i_lit, i_neg1, nI_add, pk_mul, nI_clamp, i_le, i_lt, i_eq, fIx_n, nI_mI, mI_nI, mI_lt, nI_lt_m, mI_le, nI_le_m, xI_0, xI_s, bI_0, bI_1, bI_t, bI_f, n_31, j_bit, j_one, i_and, i_or, Nat.not_lt_zero, Nat.succ_ne_zero, Nat.add_one_ne_zero, Nat.add_one_sub_one, Nat.zero_le, Nat.or_zero, Nat.zero_or, Bool.not_true, Bool.not_false, Bool.true_and, Bool.false_and, Bool.and_true, Bool.and_false, ↓reduceIte, if_true, if_false, not_true_eq_false, not_false_eq_true, true_and, and_true, false_and, and_false, and_self, true_or, or_true, false_or, or_false, Nat.reduceEqDiff, Nat.reduceLT, Nat.reduceLeDiff, Nat.reduceAdd, Nat.reduceMul, Nat.reduceSub, Nat.add_zero, Nat.zero_add, Nat.mul_zero, Nat.zero_mul, ne_eq, Bool.not_eq_true, Bool.not_eq_false, reduceCtorEq, decide_true, decide_false, decide_eq_true_eq, decide_eq_false_iff_not, Bool.false_eq_true, if_pos, if_neg, rwS_n, ho]) (fF_lt (by omega))
  unfold f_X6_countOver
  refine Eq.trans ?_ (Eq.trans e ?_)
  · rfl
  · show f_X6_countOver_L4 (m + 1) (nI ((Q.take Q.length).foldl (cov G) 0)) (nI Q.length) (rwS sc (nI Q.length) f) = _
    rw [f_X6_countOver_L4, List.take_length]
    simp (disch := omega) only [fLt_e, fBd_s, fJn_s, fNn_s, fNu_0, fNu_s, fBo_0, fBo_1, fBo_b, i_lit, i_neg1, nI_add, pk_mul, nI_clamp, i_le, i_lt, i_eq, fIx_n, nI_mI, mI_nI, mI_lt, nI_lt_m, mI_le, nI_le_m, xI_0, xI_s, bI_0, bI_1, bI_t, bI_f, n_31, j_bit, j_one, i_and, i_or, Nat.not_lt_zero, Nat.succ_ne_zero, Nat.add_one_ne_zero, Nat.add_one_sub_one, Nat.zero_le, Nat.or_zero, Nat.zero_or, Bool.not_true, Bool.not_false, Bool.true_and, Bool.false_and, Bool.and_true, Bool.and_false, ↓reduceIte, if_true, if_false, not_true_eq_false, not_false_eq_true, true_and, and_true, false_and, and_false, and_self, true_or, or_true, false_or, or_false, Nat.reduceEqDiff, Nat.reduceLT, Nat.reduceLeDiff, Nat.reduceAdd, Nat.reduceMul, Nat.reduceSub, Nat.add_zero, Nat.zero_add, Nat.mul_zero, Nat.zero_mul, ne_eq, Bool.not_eq_true, Bool.not_eq_false, reduceCtorEq, decide_true, decide_false, decide_eq_true_eq, decide_eq_false_iff_not, Bool.false_eq_true, if_pos, if_neg, rwS_n]
def lov (G : Nat → Nat) (a : Nat) (x : nT) : Nat := if ovr G x then max a (pcn x.2.1) else a
def sov (G : Nat → Nat) (a : Nat) (x : nT) : Nat := if ovr G x then min a (pcn x.2.1) else a
theorem lov_le (G : Nat → Nat) : ∀ (L : List nT) a, a ≤ 12 → L.foldl (lov G) a ≤ 12 := by
  intro L
  induction L with
  | nil => intro a h; exact h
  | cons x L ih =>
    intro a h
    refine ih _ ?_
    unfold lov
    have := pcn_le x.2.1
    split <;> omega
theorem sov_le (G : Nat → Nat) : ∀ (L : List nT) a, a ≤ 12 → L.foldl (sov G) a ≤ 12 := by
  intro L
  induction L with
  | nil => intro a h; exact h
  | cons x L ih =>
    intro a h
    refine ih _ ?_
    unfold sov
    split <;> omega
theorem x_longest (R : rwk G Q f) : f_X6_longest (rwS sc (nI Q.length) f) = some (nI (Q.foldl (lov G) 0), rwS sc (nI Q.length) f) := by
  have hl := R.1
  obtain ⟨m, e⟩ := lp_run (fun m (z : Int32 × Int32) => f_X6_longest_L4 m z.1 z.2 (rwS sc (nI Q.length) f)) (fun i => (nI ((Q.take i).foldl (lov G) 0), nI i)) Q.length (fun m i hi => by
    show f_X6_longest_L4 (m + 1) (nI ((Q.take i).foldl (lov G) 0)) (nI i) (rwS sc (nI Q.length) f) = f_X6_longest_L4 m (nI ((Q.take (i + 1)).foldl (lov G) 0)) (nI (i + 1)) (rwS sc (nI Q.length) f)
    obtain ⟨x, hx⟩ := get_x hi
    have ho := x_isOver (sc := sc) R hx (nI Q.length)
    have ha := lov_le G (Q.take i) 0 (by omega)
    have hp := pcn_le x.2.1
    rw [take_x hx, List.foldl_append, List.foldl_cons, List.foldl_nil, f_X6_longest_L4]
    generalize (Q.take i).foldl (lov G) 0 = a at *
    unfold lov
    cases hv : ovr G x with
    | false =>
      rw [hv] at ho
      simp (disch := omega) only [fLt_e, fBd_s, fJn_s, fNn_s, fNu_0, fNu_s, fBo_0, fBo_1, fBo_b, i_lit, i_neg1, nI_add, pk_mul, nI_clamp, i_le, i_lt, i_eq, fIx_n, nI_mI, mI_nI, mI_lt, nI_lt_m, mI_le, nI_le_m, xI_0, xI_s, bI_0, bI_1, bI_t, bI_f, n_31, j_bit, j_one, i_and, i_or, Nat.not_lt_zero, Nat.succ_ne_zero, Nat.add_one_ne_zero, Nat.add_one_sub_one, Nat.zero_le, Nat.or_zero, Nat.zero_or, Bool.not_true, Bool.not_false, Bool.true_and, Bool.false_and, Bool.and_true, Bool.and_false, ↓reduceIte, if_true, if_false, not_true_eq_false, not_false_eq_true, true_and, and_true, false_and, and_false, and_self, true_or, or_true, false_or, or_false, Nat.reduceEqDiff, Nat.reduceLT, Nat.reduceLeDiff, Nat.reduceAdd, Nat.reduceMul, Nat.reduceSub, Nat.add_zero, Nat.zero_add, Nat.mul_zero, Nat.zero_mul, ne_eq, Bool.not_eq_true, Bool.not_eq_false, reduceCtorEq, decide_true, decide_false, decide_eq_true_eq, decide_eq_false_iff_not, Bool.false_eq_true, if_pos, if_neg, rwS_n, ho]
    | true =>
      rw [hv] at ho
      have hlen := x_lengthOf (sc := sc) R hx hv (nI Q.length)
      by_cases hlt : a < pcn x.2.1
      · rw [Nat.max_eq_right (by omega)]
        simp (disch := omega) only [fLt_e, fBd_s, fJn_s, fNn_s, fNu_0, fNu_s, fBo_0, fBo_1, fBo_b, i_lit, i_neg1, nI_add, pk_mul, nI_clamp, i_le, i_lt, i_eq, fIx_n, nI_mI, mI_nI, mI_lt, nI_lt_m, mI_le, nI_le_m, xI_0, xI_s, bI_0, bI_1, bI_t, bI_f, n_31, j_bit, j_one, i_and, i_or, Nat.not_lt_zero, Nat.succ_ne_zero, Nat.add_one_ne_zero, Nat.add_one_sub_one, Nat.zero_le, Nat.or_zero, Nat.zero_or, Bool.not_true, Bool.not_false, Bool.true_and, Bool.false_and, Bool.and_true, Bool.and_false, ↓reduceIte, if_true, if_false, not_true_eq_false, not_false_eq_true, true_and, and_true, false_and, and_false, and_self, true_or, or_true, false_or, or_false, Nat.reduceEqDiff, Nat.reduceLT, Nat.reduceLeDiff, Nat.reduceAdd, Nat.reduceMul, Nat.reduceSub, Nat.add_zero, Nat.zero_add, Nat.mul_zero, Nat.zero_mul, ne_eq, Bool.not_eq_true, Bool.not_eq_false, reduceCtorEq, decide_true, decide_false, decide_eq_true_eq, decide_eq_false_iff_not, Bool.false_eq_true, if_pos, if_neg, rwS_n, ho, hlen, hlt]
      · rw [Nat.max_eq_left (by omega)]
        simp (disch := omega) only [fLt_e, fBd_s, fJn_s, fNn_s, fNu_0, fNu_s, fBo_0, fBo_1, fBo_b, i_lit, i_neg1, nI_add, pk_mul, nI_clamp, i_le, i_lt, i_eq, fIx_n, nI_mI, mI_nI, mI_lt, nI_lt_m, mI_le, nI_le_m, xI_0, xI_s, bI_0, bI_1, bI_t, bI_f, n_31, j_bit, j_one, i_and, i_or, Nat.not_lt_zero, Nat.succ_ne_zero, Nat.add_one_ne_zero, Nat.add_one_sub_one, Nat.zero_le, Nat.or_zero, Nat.zero_or, Bool.not_true, Bool.not_false, Bool.true_and, Bool.false_and, Bool.and_true, Bool.and_false, ↓reduceIte, if_true, if_false, not_true_eq_false, not_false_eq_true, true_and, and_true, false_and, and_false, and_self, true_or, or_true, false_or, or_false, Nat.reduceEqDiff, Nat.reduceLT, Nat.reduceLeDiff, Nat.reduceAdd, Nat.reduceMul, Nat.reduceSub, Nat.add_zero, Nat.zero_add, Nat.mul_zero, Nat.zero_mul, ne_eq, Bool.not_eq_true, Bool.not_eq_false, reduceCtorEq, decide_true, decide_false, decide_eq_true_eq, decide_eq_false_iff_not, Bool.false_eq_true, if_pos, if_neg, rwS_n, ho, hlen, hlt]) (fF_lt (by omega))
  unfold f_X6_longest
  refine Eq.trans ?_ (Eq.trans e ?_)
  · rfl
  · show f_X6_longest_L4 (m + 1) (nI ((Q.take Q.length).foldl (lov G) 0)) (nI Q.length) (rwS sc (nI Q.length) f) = _
    rw [f_X6_longest_L4, List.take_length]
    simp (disch := omega) only [fLt_e, fBd_s, fJn_s, fNn_s, fNu_0, fNu_s, fBo_0, fBo_1, fBo_b, i_lit, i_neg1, nI_add, pk_mul, nI_clamp, i_le, i_lt, i_eq, fIx_n, nI_mI, mI_nI, mI_lt, nI_lt_m, mI_le, nI_le_m, xI_0, xI_s, bI_0, bI_1, bI_t, bI_f, n_31, j_bit, j_one, i_and, i_or, Nat.not_lt_zero, Nat.succ_ne_zero, Nat.add_one_ne_zero, Nat.add_one_sub_one, Nat.zero_le, Nat.or_zero, Nat.zero_or, Bool.not_true, Bool.not_false, Bool.true_and, Bool.false_and, Bool.and_true, Bool.and_false, ↓reduceIte, if_true, if_false, not_true_eq_false, not_false_eq_true, true_and, and_true, false_and, and_false, and_self, true_or, or_true, false_or, or_false, Nat.reduceEqDiff, Nat.reduceLT, Nat.reduceLeDiff, Nat.reduceAdd, Nat.reduceMul, Nat.reduceSub, Nat.add_zero, Nat.zero_add, Nat.mul_zero, Nat.zero_mul, ne_eq, Bool.not_eq_true, Bool.not_eq_false, reduceCtorEq, decide_true, decide_false, decide_eq_true_eq, decide_eq_false_iff_not, Bool.false_eq_true, if_pos, if_neg, rwS_n]
theorem x_shortest (R : rwk G Q f) : f_X6_shortest (rwS sc (nI Q.length) f) = some (nI (Q.foldl (sov G) 12), rwS sc (nI Q.length) f) := by
  have hl := R.1
  obtain ⟨m, e⟩ := lp_run (fun m (z : Int32 × Int32) => f_X6_shortest_L5 m z.1 z.2 (rwS sc (nI Q.length) f)) (fun i => (nI ((Q.take i).foldl (sov G) 12), nI i)) Q.length (fun m i hi => by
    show f_X6_shortest_L5 (m + 1) (nI ((Q.take i).foldl (sov G) 12)) (nI i) (rwS sc (nI Q.length) f) = f_X6_shortest_L5 m (nI ((Q.take (i + 1)).foldl (sov G) 12)) (nI (i + 1)) (rwS sc (nI Q.length) f)
    obtain ⟨x, hx⟩ := get_x hi
    have ho := x_isOver (sc := sc) R hx (nI Q.length)
    have ha := sov_le G (Q.take i) 12 (by omega)
    have hp := pcn_le x.2.1
    rw [take_x hx, List.foldl_append, List.foldl_cons, List.foldl_nil, f_X6_shortest_L5]
    generalize (Q.take i).foldl (sov G) 12 = a at *
    unfold sov
    cases hv : ovr G x with
    | false =>
      rw [hv] at ho
      simp (disch := omega) only [fLt_e, fBd_s, fJn_s, fNn_s, fNu_0, fNu_s, fBo_0, fBo_1, fBo_b, i_lit, i_neg1, nI_add, pk_mul, nI_clamp, i_le, i_lt, i_eq, fIx_n, nI_mI, mI_nI, mI_lt, nI_lt_m, mI_le, nI_le_m, xI_0, xI_s, bI_0, bI_1, bI_t, bI_f, n_31, j_bit, j_one, i_and, i_or, Nat.not_lt_zero, Nat.succ_ne_zero, Nat.add_one_ne_zero, Nat.add_one_sub_one, Nat.zero_le, Nat.or_zero, Nat.zero_or, Bool.not_true, Bool.not_false, Bool.true_and, Bool.false_and, Bool.and_true, Bool.and_false, ↓reduceIte, if_true, if_false, not_true_eq_false, not_false_eq_true, true_and, and_true, false_and, and_false, and_self, true_or, or_true, false_or, or_false, Nat.reduceEqDiff, Nat.reduceLT, Nat.reduceLeDiff, Nat.reduceAdd, Nat.reduceMul, Nat.reduceSub, Nat.add_zero, Nat.zero_add, Nat.mul_zero, Nat.zero_mul, ne_eq, Bool.not_eq_true, Bool.not_eq_false, reduceCtorEq, decide_true, decide_false, decide_eq_true_eq, decide_eq_false_iff_not, Bool.false_eq_true, if_pos, if_neg, rwS_n, ho]
    | true =>
      rw [hv] at ho
      have hlen := x_lengthOf (sc := sc) R hx hv (nI Q.length)
      by_cases hlt : pcn x.2.1 < a
      · rw [Nat.min_eq_right (by omega)]
        simp (disch := omega) only [fLt_e, fBd_s, fJn_s, fNn_s, fNu_0, fNu_s, fBo_0, fBo_1, fBo_b, i_lit, i_neg1, nI_add, pk_mul, nI_clamp, i_le, i_lt, i_eq, fIx_n, nI_mI, mI_nI, mI_lt, nI_lt_m, mI_le, nI_le_m, xI_0, xI_s, bI_0, bI_1, bI_t, bI_f, n_31, j_bit, j_one, i_and, i_or, Nat.not_lt_zero, Nat.succ_ne_zero, Nat.add_one_ne_zero, Nat.add_one_sub_one, Nat.zero_le, Nat.or_zero, Nat.zero_or, Bool.not_true, Bool.not_false, Bool.true_and, Bool.false_and, Bool.and_true, Bool.and_false, ↓reduceIte, if_true, if_false, not_true_eq_false, not_false_eq_true, true_and, and_true, false_and, and_false, and_self, true_or, or_true, false_or, or_false, Nat.reduceEqDiff, Nat.reduceLT, Nat.reduceLeDiff, Nat.reduceAdd, Nat.reduceMul, Nat.reduceSub, Nat.add_zero, Nat.zero_add, Nat.mul_zero, Nat.zero_mul, ne_eq, Bool.not_eq_true, Bool.not_eq_false, reduceCtorEq, decide_true, decide_false, decide_eq_true_eq, decide_eq_false_iff_not, Bool.false_eq_true, if_pos, if_neg, rwS_n, ho, hlen, hlt]
      · rw [Nat.min_eq_left (by omega)]
        simp (disch := omega) only [fLt_e, fBd_s, fJn_s, fNn_s, fNu_0, fNu_s, fBo_0, fBo_1, fBo_b, i_lit, i_neg1, nI_add, pk_mul, nI_clamp, i_le, i_lt, i_eq, fIx_n, nI_mI, mI_nI, mI_lt, nI_lt_m, mI_le, nI_le_m, xI_0, xI_s, bI_0, bI_1, bI_t, bI_f, n_31, j_bit, j_one, i_and, i_or, Nat.not_lt_zero, Nat.succ_ne_zero, Nat.add_one_ne_zero, Nat.add_one_sub_one, Nat.zero_le, Nat.or_zero, Nat.zero_or, Bool.not_true, Bool.not_false, Bool.true_and, Bool.false_and, Bool.and_true, Bool.and_false, ↓reduceIte, if_true, if_false, not_true_eq_false, not_false_eq_true, true_and, and_true, false_and, and_false, and_self, true_or, or_true, false_or, or_false, Nat.reduceEqDiff, Nat.reduceLT, Nat.reduceLeDiff, Nat.reduceAdd, Nat.reduceMul, Nat.reduceSub, Nat.add_zero, Nat.zero_add, Nat.mul_zero, Nat.zero_mul, ne_eq, Bool.not_eq_true, Bool.not_eq_false, reduceCtorEq, decide_true, decide_false, decide_eq_true_eq, decide_eq_false_iff_not, Bool.false_eq_true, if_pos, if_neg, rwS_n, ho, hlen, hlt]) (fF_lt (by omega))
  unfold f_X6_shortest
  refine Eq.trans ?_ (Eq.trans e ?_)
  · rfl
  · show f_X6_shortest_L5 (m + 1) (nI ((Q.take Q.length).foldl (sov G) 12)) (nI Q.length) (rwS sc (nI Q.length) f) = _
    rw [f_X6_shortest_L5, List.take_length]
    simp (disch := omega) only [fLt_e, fBd_s, fJn_s, fNn_s, fNu_0, fNu_s, fBo_0, fBo_1, fBo_b, i_lit, i_neg1, nI_add, pk_mul, nI_clamp, i_le, i_lt, i_eq, fIx_n, nI_mI, mI_nI, mI_lt, nI_lt_m, mI_le, nI_le_m, xI_0, xI_s, bI_0, bI_1, bI_t, bI_f, n_31, j_bit, j_one, i_and, i_or, Nat.not_lt_zero, Nat.succ_ne_zero, Nat.add_one_ne_zero, Nat.add_one_sub_one, Nat.zero_le, Nat.or_zero, Nat.zero_or, Bool.not_true, Bool.not_false, Bool.true_and, Bool.false_and, Bool.and_true, Bool.and_false, ↓reduceIte, if_true, if_false, not_true_eq_false, not_false_eq_true, true_and, and_true, false_and, and_false, and_self, true_or, or_true, false_or, or_false, Nat.reduceEqDiff, Nat.reduceLT, Nat.reduceLeDiff, Nat.reduceAdd, Nat.reduceMul, Nat.reduceSub, Nat.add_zero, Nat.zero_add, Nat.mul_zero, Nat.zero_mul, ne_eq, Bool.not_eq_true, Bool.not_eq_false, reduceCtorEq, decide_true, decide_false, decide_eq_true_eq, decide_eq_false_iff_not, Bool.false_eq_true, if_pos, if_neg, rwS_n]
end
