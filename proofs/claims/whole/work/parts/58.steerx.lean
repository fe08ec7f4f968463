/-! layer 2: the class's steer, letter by letter -/
def tS (st : fSt) (n : Int32) (f g : Nat → Int32) : fSt := rwS (sA st 11 0 3 g) n f
theorem tS_n (st : fSt) (n : Int32) (f g : Nat → Int32) : gI (tS st n f g) 6 0 2 = n := rfl
theorem tS_f (st : fSt) (n : Int32) (f g : Nat → Int32) : gA (tS st n f g) 6 0 1 = f := rfl
theorem tS_g (st : fSt) (n : Int32) (f g : Nat → Int32) : gA (tS st n f g) 11 0 3 = g := rfl
theorem tS_s (st : fSt) (n : Int32) (f g h : Nat → Int32) : sA (tS st n f g) 11 0 3 h = tS st n f h := by
  apply st_ext
  · intro c i k; rfl
  · intro c i k; rfl
  · intro c i k
    simp only [tS, rwS, gA_sA, gA_sI]
    by_cases h1 : c = 11 ∧ i = 0 ∧ k = 3
    · obtain ⟨rfl, rfl, rfl⟩ := h1
      simp
    · simp only [h1, if_false]
  · intro c i k; rfl
  · intro c i k; rfl
theorem tS_of (st : fSt) (n : Int32) (f : Nat → Int32) : rwS st n f = tS st n f (gA st 11 0 3) := by
  unfold tS
  rw [sA_self]
section
variable {sc : fSt} {q : Nat} {G : Nat → Nat} {Q : List nT} {f : Nat → Int32}
def sgc (G : Nat → Nat) (e L : Nat) (y z : nT) : Bool := ovr G z && decide (gsl G z.1 = e) && decide (pcn z.2.1 = L) && decide (z.2.1 / 2 ^ y.1 = y.2.1 / 2 ^ y.1)
theorem x_endsAt (X : rHou sc 0 q G) (w : gWf G) (R : rwk G Q f) {i e : Nat} {z : nT} (h : Q[i]? = some z) (he : e ≤ 9) (n : Int32) : f_X6_endsAt q (nI i) (nI e) (rwS sc n f) = some (bI (ovr G z && decide (gsl G z.1 = e)), rwS sc n f) := by
  have hl := R.1
  have hi : i < Q.length := (List.getElem?_eq_some_iff.mp h).1
  obtain ⟨hok, hf⟩ := R.2 i z h
  have ho := x_isOver (sc := sc) R h n
  unfold f_X6_endsAt
  cases hv : ovr G z with
  | false =>
    rw [hv] at ho
    simp (disch := omega) only [fLt_e, fBd_s, fJn_s, fNn_s, fNu_0, fNu_s, fBo_0, fBo_1, fBo_b, i_lit, i_neg1, nI_add, pk_mul, nI_clamp, i_le, i_lt, i_eq, fIx_n, nI_mI, mI_nI, mI_lt, nI_lt_m, mI_le, nI_le_m, xI_0, xI_s, bI_0, bI_1, bI_t, bI_f, n_31, j_bit, j_one, i_and, i_or, Nat.not_lt_zero, Nat.succ_ne_zero, Nat.add_one_ne_zero, Nat.add_one_sub_one, Nat.zero_le, Nat.or_zero, Nat.zero_or, Bool.not_true, Bool.not_false, Bool.true_and, Bool.false_and, Bool.and_true, Bool.and_false, ↓reduceIte, if_true, if_false, not_true_eq_false, not_false_eq_true, true_and, and_true, false_and, and_false, and_self, true_or, or_true, false_or, or_false, Nat.reduceEqDiff, Nat.reduceLT, Nat.reduceLeDiff, Nat.reduceAdd, Nat.reduceMul, Nat.reduceSub, Nat.add_zero, Nat.zero_add, Nat.mul_zero, Nat.zero_mul, ne_eq, Bool.not_eq_true, Bool.not_eq_false, reduceCtorEq, decide_true, decide_false, decide_eq_true_eq, decide_eq_false_iff_not, Bool.false_eq_true, if_pos, if_neg, ho]
  | true =>
    rw [hv] at ho
    have hla := x_lastO R h hv w (rwS sc n f)
    have hen : f_X7_endSlot q (nI z.1) (rwS sc n f) = some (nI (gsl G z.1), rwS sc n f) := x_endSlot (sc := rwS sc n f) X.2.1 w hok.1
    have hsl := gsl_le w hok.1
    by_cases hg : gsl G z.1 = e
    · simp (disch := omega) only [fLt_e, fBd_s, fJn_s, fNn_s, fNu_0, fNu_s, fBo_0, fBo_1, fBo_b, i_lit, i_neg1, nI_add, pk_mul, nI_clamp, i_le, i_lt, i_eq, fIx_n, nI_mI, mI_nI, mI_lt, nI_lt_m, mI_le, nI_le_m, xI_0, xI_s, bI_0, bI_1, bI_t, bI_f, n_31, j_bit, j_one, i_and, i_or, Nat.not_lt_zero, Nat.succ_ne_zero, Nat.add_one_ne_zero, Nat.add_one_sub_one, Nat.zero_le, Nat.or_zero, Nat.zero_or, Bool.not_true, Bool.not_false, Bool.true_and, Bool.false_and, Bool.and_true, Bool.and_false, ↓reduceIte, if_true, if_false, not_true_eq_false, not_false_eq_true, true_and, and_true, false_and, and_false, and_self, true_or, or_true, false_or, or_false, Nat.reduceEqDiff, Nat.reduceLT, Nat.reduceLeDiff, Nat.reduceAdd, Nat.reduceMul, Nat.reduceSub, Nat.add_zero, Nat.zero_add, Nat.mul_zero, Nat.zero_mul, ne_eq, Bool.not_eq_true, Bool.not_eq_false, reduceCtorEq, decide_true, decide_false, decide_eq_true_eq, decide_eq_false_iff_not, Bool.false_eq_true, if_pos, if_neg, ho, rwS_f, hla, hen, hg]
    · simp (disch := omega) only [fLt_e, fBd_s, fJn_s, fNn_s, fNu_0, fNu_s, fBo_0, fBo_1, fBo_b, i_lit, i_neg1, nI_add, pk_mul, nI_clamp, i_le, i_lt, i_eq, fIx_n, nI_mI, mI_nI, mI_lt, nI_lt_m, mI_le, nI_le_m, xI_0, xI_s, bI_0, bI_1, bI_t, bI_f, n_31, j_bit, j_one, i_and, i_or, Nat.not_lt_zero, Nat.succ_ne_zero, Nat.add_one_ne_zero, Nat.add_one_sub_one, Nat.zero_le, Nat.or_zero, Nat.zero_or, Bool.not_true, Bool.not_false, Bool.true_and, Bool.false_and, Bool.and_true, Bool.and_false, ↓reduceIte, if_true, if_false, not_true_eq_false, not_false_eq_true, true_and, and_true, false_and, and_false, and_self, true_or, or_true, false_or, or_false, Nat.reduceEqDiff, Nat.reduceLT, Nat.reduceLeDiff, Nat.reduceAdd, Nat.reduceMul, Nat.reduceSub, Nat.add_zero, Nat.zero_add, Nat.mul_zero, Nat.zero_mul, ne_eq, Bool.not_eq_true, Bool.not_eq_false, reduceCtorEq, decide_true, decide_false, decide_eq_true_eq, decide_eq_false_iff_not, Bool.false_eq_true, if_pos, if_neg, ho, rwS_f, hla, hen, hg]
def sto (G : Nat → Nat) (e a : Nat) (z : nT) : Nat := if ovr G z = true ∧ gsl G z.1 = e ∧ (a = 0 ∨ pcn z.2.1 < a) then pcn z.2.1 else a
theorem x_shortestTo (X : rHou sc 0 q G) (w : gWf G) (R : rwk G Q f) {e : Nat} (he : e ≤ 9) : f_X6_shortestTo q (nI e) (rwS sc (nI Q.length) f) = some (nI (Q.foldl (sto G e) 0), rwS sc (nI Q.length) f) := by
  have hl := R.1
  have hst : ∀ (L : List nT) a, a ≤ 12 → L.foldl (sto G e) a ≤ 12 := by
    intro L
    induction L with
    | nil => intro a h; exact h
    | cons z L ih =>
      intro a h
      refine ih _ ?_
      unfold sto
      have := pcn_le z.2.1
      split <;> omega
  obtain ⟨m, e2⟩ := lp_run (fun m (z : Int32 × Int32) => f_X6_shortestTo_L5 q (nI e) m z.1 z.2 (rwS sc (nI Q.length) f)) (fun i => (nI ((Q.take i).foldl (sto G e) 0), nI i)) Q.length (fun m i hi => by
    show f_X6_shortestTo_L5 q (nI e) (m + 1) (nI ((Q.take i).foldl (sto G e) 0)) (nI i) (rwS sc (nI Q.length) f) = f_X6_shortestTo_L5 q (nI e) m (nI ((Q.take (i + 1)).foldl (sto G e) 0)) (nI (i + 1)) (rwS sc (nI Q.length) f)
    obtain ⟨z, hz⟩ := get_x hi
    have hen := x_endsAt (e := e) X w R hz he (nI Q.length)
    have ha := hst (Q.take i) 0 (by omega)
    have hp := pcn_le z.2.1
    rw [take_x hz, List.foldl_append, List.foldl_cons, List.foldl_nil, f_X6_shortestTo_L5]
    generalize (Q.take i).foldl (sto G e) 0 = a at *
    unfold sto
    cases hv : ovr G z with
    | false =>
      rw [hv] at hen
      simp (disch := omega) only [fLt_e, fBd_s, fJn_s, fNn_s, fNu_0, fNu_s, fBo_0, fBo_1, fBo_b, i_lit, i_neg1, nI_add, pk_mul, nI_clamp, i_le, i_lt, i_eq, fIx_n, nI_mI, mI_nI, mI_lt, nI_lt_m, mI_le, nI_le_m, xI_0, xI_s, bI_0, bI_1, bI_t, bI_f, n_31, j_bit, j_one, i_and, i_or, Nat.not_lt_zero, Nat.succ_ne_zero, Nat.add_one_ne_zero, Nat.add_one_sub_one, Nat.zero_le, Nat.or_zero, Nat.zero_or, Bool.not_true, Bool.not_false, Bool.true_and, Bool.false_and, Bool.and_true, Bool.and_false, ↓reduceIte, if_true, if_false, not_true_eq_false, not_false_eq_true, true_and, and_true, false_and, and_false, and_self, true_or, or_true, false_or, or_false, Nat.reduceEqDiff, Nat.reduceLT, Nat.reduceLeDiff, Nat.reduceAdd, Nat.reduceMul, Nat.reduceSub, Nat.add_zero, Nat.zero_add, Nat.mul_zero, Nat.zero_mul, ne_eq, Bool.not_eq_true, Bool.not_eq_false, reduceCtorEq, decide_true, decide_false, decide_eq_true_eq, decide_eq_false_iff_not, Bool.false_eq_true, if_pos, if_neg, rwS_n, hen]
    | true =>
      rw [hv] at hen
      have hlen := x_lengthOf (sc := sc) R hz hv (nI Q.length)
      by_cases hg : gsl G z.1 = e
      · by_cases h0 : a = 0
        · subst h0
          simp (disch := omega) only [fLt_e, fBd_s, fJn_s, fNn_s, fNu_0, fNu_s, fBo_0, fBo_1, fBo_b, i_lit, i_neg1, nI_add, pk_mul, nI_clamp, i_le, i_lt, i_eq, fIx_n, nI_mI, mI_nI, mI_lt, nI_lt_m, mI_le, nI_le_m, xI_0, xI_s, bI_0, bI_1, bI_t, bI_f, n_31, j_bit, j_one, i_and, i_or, Nat.not_lt_zero, Nat.succ_ne_zero, Nat.add_one_ne_zero, Nat.add_one_sub_one, Nat.zero_le, Nat.or_zero, Nat.zero_or, Bool.not_true, Bool.not_false, Bool.true_and, Bool.false_and, Bool.and_true, Bool.and_false, ↓reduceIte, if_true, if_false, not_true_eq_false, not_false_eq_true, true_and, and_true, false_and, and_false, and_self, true_or, or_true, false_or, or_false, Nat.reduceEqDiff, Nat.reduceLT, Nat.reduceLeDiff, Nat.reduceAdd, Nat.reduceMul, Nat.reduceSub, Nat.add_zero, Nat.zero_add, Nat.mul_zero, Nat.zero_mul, ne_eq, Bool.not_eq_true, Bool.not_eq_false, reduceCtorEq, decide_true, decide_false, decide_eq_true_eq, decide_eq_false_iff_not, Bool.false_eq_true, if_pos, if_neg, rwS_n, hen, hg, hlen]
        · by_cases hlt : pcn z.2.1 < a
          · simp (disch := omega) only [fLt_e, fBd_s, fJn_s, fNn_s, fNu_0, fNu_s, fBo_0, fBo_1, fBo_b, i_lit, i_neg1, nI_add, pk_mul, nI_clamp, i_le, i_lt, i_eq, fIx_n, nI_mI, mI_nI, mI_lt, nI_lt_m, mI_le, nI_le_m, xI_0, xI_s, bI_0, bI_1, bI_t, bI_f, n_31, j_bit, j_one, i_and, i_or, Nat.not_lt_zero, Nat.succ_ne_zero, Nat.add_one_ne_zero, Nat.add_one_sub_one, Nat.zero_le, Nat.or_zero, Nat.zero_or, Bool.not_true, Bool.not_false, Bool.true_and, Bool.false_and, Bool.and_true, Bool.and_false, ↓reduceIte, if_true, if_false, not_true_eq_false, not_false_eq_true, true_and, and_true, false_and, and_false, and_self, true_or, or_true, false_or, or_false, Nat.reduceEqDiff, Nat.reduceLT, Nat.reduceLeDiff, Nat.reduceAdd, Nat.reduceMul, Nat.reduceSub, Nat.add_zero, Nat.zero_add, Nat.mul_zero, Nat.zero_mul, ne_eq, Bool.not_eq_true, Bool.not_eq_false, reduceCtorEq, decide_true, decide_false, decide_eq_true_eq, decide_eq_false_iff_not, Bool.false_eq_true, if_pos, if_neg, rwS_n, hen, hg, hlen, h0, hlt]
          · simp (disch := omega) only [fLt_e, fBd_s, fJn_s, fNn_s, fNu_0, fNu_s, fBo_0, fBo_1, fBo_b, i_lit, i_neg1, nI_add, pk_mul, nI_clamp, i_le, i_lt, i_eq, fIx_n, nI_mI, mI_nI, mI_lt, nI_lt_m, mI_le, nI_le_m, xI_0, xI_s, bI_0, bI_1, bI_t, bI_f, n_31, j_bit, j_one, i_and, i_or, Nat.not_lt_zero, Nat.succ_ne_zero, Nat.add_one_ne_zero, Nat.add_one_sub_one, Nat.zero_le, Nat.or_zero, Nat.zero_or, Bool.not_true, Bool.not_false, Bool.true_and, Bool.false_and, Bool.and_true, Bool.and_false, ↓reduceIte, if_true, if_false, not_true_eq_false, not_false_eq_true, true_and, and_true, false_and, and_false, and_self, true_or, or_true, false_or, or_false, Nat.reduceEqDiff, Nat.reduceLT, Nat.reduceLeDiff, Nat.reduceAdd, Nat.reduceMul, Nat.reduceSub, Nat.add_zero, Nat.zero_add, Nat.mul_zero, Nat.zero_mul, ne_eq, Bool.not_eq_true, Bool.not_eq_false, reduceCtorEq, decide_true, decide_false, decide_eq_true_eq, decide_eq_false_iff_not, Bool.false_eq_true, if_pos, if_neg, rwS_n, hen, hg, hlen, h0, hlt]
      · simp (disch := omega) only [fLt_e, fBd_s, fJn_s, fNn_s, fNu_0, fNu_s, fBo_0, fBo_1, fBo_b, i_lit, i_neg1, nI_add, pk_mul, nI_clamp, i_le, i_lt, i_eq, fIx_n, nI_mI, mI_nI, mI_lt, nI_lt_m, mI_le, nI_le_m, xI_0, xI_s, bI_0, bI_1, bI_t, bI_f, n_31, j_bit, j_one, i_and, i_or, Nat.not_lt_zero, Nat.succ_ne_zero, Nat.add_one_ne_zero, Nat.add_one_sub_one, Nat.zero_le, Nat.or_zero, Nat.zero_or, Bool.not_true, Bool.not_false, Bool.true_and, Bool.false_and, Bool.and_true, Bool.and_false, ↓reduceIte, if_true, if_false, not_true_eq_false, not_false_eq_true, true_and, and_true, false_and, and_false, and_self, true_or, or_true, false_or, or_false, Nat.reduceEqDiff, Nat.reduceLT, Nat.reduceLeDiff, Nat.reduceAdd, Nat.reduceMul, Nat.reduceSub, Nat.add_zero, Nat.zero_add, Nat.mul_zero, Nat.zero_mul, ne_eq, Bool.not_eq_true, Bool.not_eq_false, reduceCtorEq, decide_true, decide_false, decide_eq_true_eq, decide_eq_false_iff_not, Bool.false_eq_true, if_pos, if_neg, rwS_n, hen, hg]) (fF_lt (by omega))
  unfold f_X6_shortestTo
  refine Eq.trans ?_ (Eq.trans e2 ?_)
  · rfl
  · show f_X6_shortestTo_L5 q (nI e) (m + 1) (nI ((Q.take Q.length).foldl (sto G e) 0)) (nI Q.length) (rwS sc (nI Q.length) f) = _
    rw [f_X6_shortestTo_L5, List.take_length]
    simp (disch := omega) only [fLt_e, fBd_s, fJn_s, fNn_s, fNu_0, fNu_s, fBo_0, fBo_1, fBo_b, i_lit, i_neg1, nI_add, pk_mul, nI_clamp, i_le, i_lt, i_eq, fIx_n, nI_mI, mI_nI, mI_lt, nI_lt_m, mI_le, nI_le_m, xI_0, xI_s, bI_0, bI_1, bI_t, bI_f, n_31, j_bit, j_one, i_and, i_or, Nat.not_lt_zero, Nat.succ_ne_zero, Nat.add_one_ne_zero, Nat.add_one_sub_one, Nat.zero_le, Nat.or_zero, Nat.zero_or, Bool.not_true, Bool.not_false, Bool.true_and, Bool.false_and, Bool.and_true, Bool.and_false, ↓reduceIte, if_true, if_false, not_true_eq_false, not_false_eq_true, true_and, and_true, false_and, and_false, and_self, true_or, or_true, false_or, or_false, Nat.reduceEqDiff, Nat.reduceLT, Nat.reduceLeDiff, Nat.reduceAdd, Nat.reduceMul, Nat.reduceSub, Nat.add_zero, Nat.zero_add, Nat.mul_zero, Nat.zero_mul, ne_eq, Bool.not_eq_true, Bool.not_eq_false, reduceCtorEq, decide_true, decide_false, decide_eq_true_eq, decide_eq_false_iff_not, Bool.false_eq_true, if_pos, if_neg, rwS_n]
theorem sto_spec (e : Nat) : ∀ (L : List nT) a, (∀ z ∈ L, 0 < pcn z.2.1) → (L.foldl (sto G e) a = a ∨ ∃ z, z ∈ L ∧ ovr G z = true ∧ gsl G z.1 = e ∧ pcn z.2.1 = L.foldl (sto G e) a) ∧ (∀ z ∈ L, ovr G z = true → gsl G z.1 = e → 0 < L.foldl (sto G e) a ∧ L.foldl (sto G e) a ≤ pcn z.2.1) ∧ (0 < a → 0 < L.foldl (sto G e) a ∧ L.foldl (sto G e) a ≤ a) := by
  intro L
  induction L with
  | nil => intro a _; exact ⟨Or.inl rfl, fun z h => absurd h (by simp), fun h => ⟨h, Nat.le_refl _⟩⟩
  | cons y L ih =>
    intro a hL
    have hy := hL y (by simp)
    obtain ⟨i1, i2, i3⟩ := ih (sto G e a y) (fun z hz => hL z (by simp [hz]))
    rw [List.foldl_cons]
    refine ⟨?_, ?_, ?_⟩
    · rcases i1 with h | ⟨z, z1, z2, z3, z4⟩
      · by_cases hc : ovr G y = true ∧ gsl G y.1 = e ∧ (a = 0 ∨ pcn y.2.1 < a)
        · refine Or.inr ⟨y, by simp, hc.1, hc.2.1, ?_⟩
          rw [h]
          exact (if_pos hc).symm
        · refine Or.inl ?_
          rw [h]
          exact if_neg hc
      · exact Or.inr ⟨z, by simp [z1], z2, z3, z4⟩
    · intro z hz h1 h2
      rcases List.mem_cons.mp hz with rfl | hz
      · by_cases hc : a = 0 ∨ pcn z.2.1 < a
        · have e1 : sto G e a z = pcn z.2.1 := if_pos ⟨h1, h2, hc⟩
          rw [e1] at i3 ⊢
          exact i3 hy
        · have e1 : sto G e a z = a := if_neg (fun h => hc h.2.2)
          rw [e1] at i3 ⊢
          have := i3 (by omega)
          omega
      · exact i2 z hz h1 h2
    · intro ha
      by_cases hc : ovr G y = true ∧ gsl G y.1 = e ∧ (a = 0 ∨ pcn y.2.1 < a)
      · have e1 : sto G e a y = pcn y.2.1 := if_pos hc
        rw [e1] at i3 ⊢
        have := i3 hy
        omega
      · have e1 : sto G e a y = a := if_neg hc
        rw [e1] at i3 ⊢
        exact i3 ha
theorem fwd_4095 {z : nT} (hz : nok G z) : fwd G z &&& 4095 = z.2.1 := by
  have h1 : z.2.1 &&& 4095 = z.2.1 := by
    rw [show (4095 : Nat) = 2 ^ 12 - 1 from rfl, Nat.and_two_pow_sub_one_eq_mod]
    exact Nat.mod_eq_of_lt hz.2.1
  cases hv : ovr G z with
  | true => rw [fwd_and hv (by omega)]; exact h1
  | false => rw [fwd_no hv]; exact h1
theorem x_sgb (X : rHou sc 0 q G) (w : gWf G) (R : rwk G Q f) {e L : Nat} {y : nT} (hy : nok G y) (he : e ≤ 9) (hL : L ≤ 12) : f_X6_someGoesBy q (nI y.2.1) (nI e) (nI L) (rwS sc (nI Q.length) f) = some (bI (Q.any (sgc G e L y)), rwS sc (nI Q.length) f) := by
  have hl := R.1
  have w1 := w.1
  have hy1 := hy.1
  have hy2 := hy.2.1
  have hla := x_lastOf (show y.1 < 24 by omega) hy.2.2.1 hy.2.2.2.1 (rwS sc (nI Q.length) f)
  have key : ∀ r i n, i + r = Q.length → r < n → f_X6_someGoesBy_L9 q (nI y.2.1) (nI e) (nI L) (nI y.1) n (nI i) (rwS sc (nI Q.length) f) = some (bI ((Q.drop i).any (sgc G e L y)), rwS sc (nI Q.length) f) := by
    intro r
    induction r with
    | zero =>
      intro i n hi hn
      obtain ⟨n, rfl⟩ : ∃ m, n = m + 1 := ⟨n - 1, by omega⟩
      have hiq : i = Q.length := by omega
      rw [hiq, List.drop_length, f_X6_someGoesBy_L9]
      simp (disch := omega) only [fLt_e, fBd_s, fJn_s, fNn_s, fNu_0, fNu_s, fBo_0, fBo_1, fBo_b, i_lit, i_neg1, nI_add, pk_mul, nI_clamp, i_le, i_lt, i_eq, fIx_n, nI_mI, mI_nI, mI_lt, nI_lt_m, mI_le, nI_le_m, xI_0, xI_s, bI_0, bI_1, bI_t, bI_f, n_31, j_bit, j_one, i_and, i_or, Nat.not_lt_zero, Nat.succ_ne_zero, Nat.add_one_ne_zero, Nat.add_one_sub_one, Nat.zero_le, Nat.or_zero, Nat.zero_or, Bool.not_true, Bool.not_false, Bool.true_and, Bool.false_and, Bool.and_true, Bool.and_false, ↓reduceIte, if_true, if_false, not_true_eq_false, not_false_eq_true, true_and, and_true, false_and, and_false, and_self, true_or, or_true, false_or, or_false, Nat.reduceEqDiff, Nat.reduceLT, Nat.reduceLeDiff, Nat.reduceAdd, Nat.reduceMul, Nat.reduceSub, Nat.add_zero, Nat.zero_add, Nat.mul_zero, Nat.zero_mul, ne_eq, Bool.not_eq_true, Bool.not_eq_false, reduceCtorEq, decide_true, decide_false, decide_eq_true_eq, decide_eq_false_iff_not, Bool.false_eq_true, if_pos, if_neg, rwS_n, List.any_nil]
    | succ r ih =>
      intro i n hi hn
      obtain ⟨n, rfl⟩ : ∃ m, n = m + 1 := ⟨n - 1, by omega⟩
      have hiq : i < Q.length := by omega
      obtain ⟨z, hz⟩ := get_x hiq
      have hdr : Q.drop i = z :: Q.drop (i + 1) := by
        rw [List.drop_eq_getElem_cons hiq]
        congr 1
        have := List.getElem?_eq_getElem hiq
        rw [hz] at this
        exact (Option.some.inj this).symm
      have ih := ih (i + 1) n (by omega) (by omega)
      obtain ⟨hok, hf⟩ := R.2 i z hz
      have hen := x_endsAt (e := e) X w R hz he (nI Q.length)
      have h4 := fwd_4095 hok
      have hz2 := hok.2.1
      have hq1 : nI z.2.1 >>> nI y.1 = nI (z.2.1 / 2 ^ y.1) := i_shr (by omega) (by omega)
      have hq2 : nI y.2.1 >>> nI y.1 = nI (y.2.1 / 2 ^ y.1) := i_shr (by omega) (by omega)
      have b1 : z.2.1 / 2 ^ y.1 < 2 ^ 31 := Nat.lt_of_le_of_lt (Nat.div_le_self _ _) (by omega)
      have b2 : y.2.1 / 2 ^ y.1 < 2 ^ 31 := Nat.lt_of_le_of_lt (Nat.div_le_self _ _) (by omega)
      rw [hdr, List.any_cons, f_X6_someGoesBy_L9]
      by_cases hs : z.2.1 / 2 ^ y.1 = y.2.1 / 2 ^ y.1
      · cases hv : ovr G z with
        | false =>
          rw [hv] at hen
          have hc : sgc G e L y z = false := by unfold sgc; rw [hv]; rfl
          simp (disch := omega) only [fLt_e, fBd_s, fJn_s, fNn_s, fNu_0, fNu_s, fBo_0, fBo_1, fBo_b, i_lit, i_neg1, nI_add, pk_mul, nI_clamp, i_le, i_lt, i_eq, fIx_n, nI_mI, mI_nI, mI_lt, nI_lt_m, mI_le, nI_le_m, xI_0, xI_s, bI_0, bI_1, bI_t, bI_f, n_31, j_bit, j_one, i_and, i_or, Nat.not_lt_zero, Nat.succ_ne_zero, Nat.add_one_ne_zero, Nat.add_one_sub_one, Nat.zero_le, Nat.or_zero, Nat.zero_or, Bool.not_true, Bool.not_false, Bool.true_and, Bool.false_and, Bool.and_true, Bool.and_false, ↓reduceIte, if_true, if_false, not_true_eq_false, not_false_eq_true, true_and, and_true, false_and, and_false, and_self, true_or, or_true, false_or, or_false, Nat.reduceEqDiff, Nat.reduceLT, Nat.reduceLeDiff, Nat.reduceAdd, Nat.reduceMul, Nat.reduceSub, Nat.add_zero, Nat.zero_add, Nat.mul_zero, Nat.zero_mul, ne_eq, Bool.not_eq_true, Bool.not_eq_false, reduceCtorEq, decide_true, decide_false, decide_eq_true_eq, decide_eq_false_iff_not, Bool.false_eq_true, if_pos, if_neg, rwS_n, rwS_f, hf, h4, hq1, hq2, hs, hen, hc, ih, Bool.false_or]
        | true =>
          rw [hv] at hen
          have hlen := x_lengthOf (sc := sc) R hz hv (nI Q.length)
          have hp := pcn_le z.2.1
          by_cases hg : gsl G z.1 = e
          · by_cases hpl : pcn z.2.1 = L
            · have hc : sgc G e L y z = true := by unfold sgc; rw [hv, decide_eq_true hg, decide_eq_true hpl, decide_eq_true hs]; rfl
              simp (disch := omega) only [fLt_e, fBd_s, fJn_s, fNn_s, fNu_0, fNu_s, fBo_0, fBo_1, fBo_b, i_lit, i_neg1, nI_add, pk_mul, nI_clamp, i_le, i_lt, i_eq, fIx_n, nI_mI, mI_nI, mI_lt, nI_lt_m, mI_le, nI_le_m, xI_0, xI_s, bI_0, bI_1, bI_t, bI_f, n_31, j_bit, j_one, i_and, i_or, Nat.not_lt_zero, Nat.succ_ne_zero, Nat.add_one_ne_zero, Nat.add_one_sub_one, Nat.zero_le, Nat.or_zero, Nat.zero_or, Bool.not_true, Bool.not_false, Bool.true_and, Bool.false_and, Bool.and_true, Bool.and_false, ↓reduceIte, if_true, if_false, not_true_eq_false, not_false_eq_true, true_and, and_true, false_and, and_false, and_self, true_or, or_true, false_or, or_false, Nat.reduceEqDiff, Nat.reduceLT, Nat.reduceLeDiff, Nat.reduceAdd, Nat.reduceMul, Nat.reduceSub, Nat.add_zero, Nat.zero_add, Nat.mul_zero, Nat.zero_mul, ne_eq, Bool.not_eq_true, Bool.not_eq_false, reduceCtorEq, decide_true, decide_false, decide_eq_true_eq, decide_eq_false_iff_not, Bool.false_eq_true, if_pos, if_neg, rwS_n, rwS_f, hf, h4, hq1, hq2, hs, hen, hg, hlen, hpl, hc, Bool.true_or]
            · have hc : sgc G e L y z = false := by unfold sgc; rw [hv, decide_eq_false hpl]; simp
              simp (disch := omega) only [fLt_e, fBd_s, fJn_s, fNn_s, fNu_0, fNu_s, fBo_0, fBo_1, fBo_b, i_lit, i_neg1, nI_add, pk_mul, nI_clamp, i_le, i_lt, i_eq, fIx_n, nI_mI, mI_nI, mI_lt, nI_lt_m, mI_le, nI_le_m, xI_0, xI_s, bI_0, bI_1, bI_t, bI_f, n_31, j_bit, j_one, i_and, i_or, Nat.not_lt_zero, Nat.succ_ne_zero, Nat.add_one_ne_zero, Nat.add_one_sub_one, Nat.zero_le, Nat.or_zero, Nat.zero_or, Bool.not_true, Bool.not_false, Bool.true_and, Bool.false_and, Bool.and_true, Bool.and_false, ↓reduceIte, if_true, if_false, not_true_eq_false, not_false_eq_true, true_and, and_true, false_and, and_false, and_self, true_or, or_true, false_or, or_false, Nat.reduceEqDiff, Nat.reduceLT, Nat.reduceLeDiff, Nat.reduceAdd, Nat.reduceMul, Nat.reduceSub, Nat.add_zero, Nat.zero_add, Nat.mul_zero, Nat.zero_mul, ne_eq, Bool.not_eq_true, Bool.not_eq_false, reduceCtorEq, decide_true, decide_false, decide_eq_true_eq, decide_eq_false_iff_not, Bool.false_eq_true, if_pos, if_neg, rwS_n, rwS_f, hf, h4, hq1, hq2, hs, hen, hg, hlen, hpl, hc, ih, Bool.false_or]
          · have hc : sgc G e L y z = false := by unfold sgc; rw [decide_eq_false hg]; simp
            simp (disch := omega) only [fLt_e, fBd_s, fJn_s, fNn_s, fNu_0, fNu_s, fBo_0, fBo_1, fBo_b, i_lit, i_neg1, nI_add, pk_mul, nI_clamp, i_le, i_lt, i_eq, fIx_n, nI_mI, mI_nI, mI_lt, nI_lt_m, mI_le, nI_le_m, xI_0, xI_s, bI_0, bI_1, bI_t, bI_f, n_31, j_bit, j_one, i_and, i_or, Nat.not_lt_zero, Nat.succ_ne_zero, Nat.add_one_ne_zero, Nat.add_one_sub_one, Nat.zero_le, Nat.or_zero, Nat.zero_or, Bool.not_true, Bool.not_false, Bool.true_and, Bool.false_and, Bool.and_true, Bool.and_false, ↓reduceIte, if_true, if_false, not_true_eq_false, not_false_eq_true, true_and, and_true, false_and, and_false, and_self, true_or, or_true, false_or, or_false, Nat.reduceEqDiff, Nat.reduceLT, Nat.reduceLeDiff, Nat.reduceAdd, Nat.reduceMul, Nat.reduceSub, Nat.add_zero, Nat.zero_add, Nat.mul_zero, Nat.zero_mul, ne_eq, Bool.not_eq_true, Bool.not_eq_false, reduceCtorEq, decide_true, decide_false, decide_eq_true_eq, decide_eq_false_iff_not, Bool.false_eq_true, if_pos, if_neg, rwS_n, rwS_f, hf, h4, hq1, hq2, hs, hen, hg, hc, ih, Bool.false_or]
      · have hc : sgc G e L y z = false := by unfold sgc; rw [decide_eq_false hs]; simp
        simp (disch := omega) only [fLt_e, fBd_s, fJn_s, fNn_s, fNu_0, fNu_s, fBo_0, fBo_1, fBo_b, i_lit, i_neg1, nI_add, pk_mul, nI_clamp, i_le, i_lt, i_eq, fIx_n, nI_mI, mI_nI, mI_lt, nI_lt_m, mI_le, nI_le_m, xI_0, xI_s, bI_0, bI_1, bI_t, bI_f, n_31, j_bit, j_one, i_and, i_or, Nat.not_lt_zero, Nat.succ_ne_zero, Nat.add_one_ne_zero, Nat.add_one_sub_one, Nat.zero_le, Nat.or_zero, Nat.zero_or, Bool.not_true, Bool.not_false, Bool.true_and, Bool.false_and, Bool.and_true, Bool.and_false, ↓reduceIte, if_true, if_false, not_true_eq_false, not_false_eq_true, true_and, and_true, false_and, and_false, and_self, true_or, or_true, false_or, or_false, Nat.reduceEqDiff, Nat.reduceLT, Nat.reduceLeDiff, Nat.reduceAdd, Nat.reduceMul, Nat.reduceSub, Nat.add_zero, Nat.zero_add, Nat.mul_zero, Nat.zero_mul, ne_eq, Bool.not_eq_true, Bool.not_eq_false, reduceCtorEq, decide_true, decide_false, decide_eq_true_eq, decide_eq_false_iff_not, Bool.false_eq_true, if_pos, if_neg, rwS_n, rwS_f, hf, h4, hq1, hq2, hs, hc, ih, Bool.false_or]
  unfold f_X6_someGoesBy
  simp only [fLt_e, fBd_s, fJn_s, fNn_s, fNu_0, fNu_s, fBo_0, fBo_1, fBo_b, i_lit, hla]
  have := key Q.length 0 fF (by omega) (fF_lt (by omega))
  rw [List.drop_zero] at this
  exact this
theorem sgc_iff (w : gWf G) (h : Q.Perm (allR G)) {e L n : Nat} {y : nT} (hy : y ∈ allR G) {p : List Nat} (hn : y.1 < n) (hp : p.length + 1 = pcn y.2.1) : Q.any (sgc G e L y) = true ↔ ∃ u, u ∈ wds G e n y p ∧ u.length = L := by
  have w1 := w.1
  have hyo := allR_ok w y hy
  have hy1 := hyo.1
  rw [wds_sub w e n y p L hyo, List.any_eq_true]
  constructor
  · rintro ⟨z, z1, z2⟩
    have z1 := h.mem_iff.mp z1
    unfold sgc at z2
    rw [Bool.and_eq_true, Bool.and_eq_true, Bool.and_eq_true, decide_eq_true_eq, decide_eq_true_eq, decide_eq_true_eq] at z2
    obtain ⟨⟨⟨a1, a2⟩, a3⟩, a4⟩ := z2
    refine ⟨z, ?_, a1, a2, by omega⟩
    have hag : agr z y := by
      intro i hi
      have : (z.2.1 / 2 ^ y.1).testBit (i - y.1) = (y.2.1 / 2 ^ y.1).testBit (i - y.1) := by rw [a4]
      rw [Nat.testBit_div_two_pow, Nat.testBit_div_two_pow, show i - y.1 + y.1 = i by omega] at this
      exact this
    unfold allR at z1 hy
    split at hy
    · exact absurd hy (by simp)
    · rename_i h0
      rw [if_neg h0] at z1
      rw [sub_fuel w n 13 y hyo hn (by omega)]
      exact agr_sub w 13 _ (rtn_ok w (gpl_pos h0)) (show G 2 - 1 < 13 by omega) y hy z z1 hag
  · rintro ⟨z, z1, z2, z3, z4⟩
    have hag := sub_agr w n y hyo z z1
    have hzA : z ∈ allR G := by
      unfold allR at hy ⊢
      split at hy
      · exact absurd hy (by simp)
      · rename_i h0
        rw [if_neg h0]
        obtain ⟨k, hk⟩ := sub_tr 13 _ y hy n z z1
        exact sub_up w k _ (rtn_ok w (gpl_pos h0)) (show G 2 - 1 < 13 by omega) z hk
    refine ⟨z, h.mem_iff.mpr hzA, ?_⟩
    unfold sgc
    rw [Bool.and_eq_true, Bool.and_eq_true, Bool.and_eq_true, decide_eq_true_eq, decide_eq_true_eq, decide_eq_true_eq]
    refine ⟨⟨⟨z2, z3⟩, by omega⟩, ?_⟩
    apply Nat.eq_of_testBit_eq
    intro i
    rw [Nat.testBit_div_two_pow, Nat.testBit_div_two_pow]
    exact hag _ (by omega)
end
