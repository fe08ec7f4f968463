/-! layer 2: the call cast -/
section
variable {sc sm : fSt} {q : Nat} {G : Nat → Nat}
theorem glr_nt (w : gWf G) {nt : Nat} (h : nt ≤ 7) (r : Nat) : glr G r * nt ≤ 1680 := by
  have := Nat.mul_le_mul (glr_le w r) h
  omega
theorem m_castL32 (B : rBlk (gA sm 12 0 5) G) (w : gWf G) {nt : Nat} (hnt : nt ≤ 7) (k9 : Int32 → fSt → Option (Int32 × fSt)) : ∃ F, f_X12_cast_L32 (nI nt) k9 fF (nI 0) (nI 0) sm = k9 (bI (anyN (insc G) (G 0))) (sA sm 12 0 21 F) ∧ ∀ o, o < G 0 → F o = nI (glr G o * nt) := by
  have w1 := w.1
  obtain ⟨s', m, ⟨F, hs, q1⟩, e⟩ := lp_ex (fun m (z : Int32 × Int32 × fSt) => f_X12_cast_L32 (nI nt) k9 m z.1 z.2.1 z.2.2) (fun r z => ∃ F, z = (bI (anyN (insc G) r), nI r, sA sm 12 0 21 F) ∧ ∀ o, o < r → F o = nI (glr G o * nt)) (G 0) (by
    rintro r z hr ⟨F, rfl, q1⟩
    have BF : rBlk (gA (sA sm 12 0 21 F) 12 0 5) G := B
    have h0 : gA (sA sm 12 0 21 F) 12 0 5 0 = nI (G 0) := B.1.1
    have h21 : gA (sA sm 12 0 21 F) 12 0 21 = F := rfl
    have hin := m_isInScene BF w (show r < 6 by omega)
    have hbr := m_breathsFor BF w (show r < 6 by omega) nt
    refine ⟨(bI (anyN (insc G) (r + 1)), nI (r + 1), sA sm 12 0 21 (upd F r (nI (glr G r * nt)))), ⟨_, rfl, ?_⟩, ?_⟩
    · intro o ho
      rw [upd_at]
      by_cases h : o = r
      · rw [if_pos h, h]
      · rw [if_neg h]
        exact q1 o (by omega)
    · intro m
      show f_X12_cast_L32 (nI nt) k9 (m + 1) (bI (anyN (insc G) r)) (nI r) (sA sm 12 0 21 F) = _
      rw [f_X12_cast_L32, anyN_s]
      cases ha : anyN (insc G) r with
      | true => simp (disch := omega) only [fLt_e, fBd_s, fJn_s, fNn_s, fNu_0, fNu_s, fBo_0, fBo_1, fBo_b, i_lit, i_neg1, nI_add, pk_mul, nI_clamp, i_le, i_lt, i_eq, fIx_n, nI_mI, mI_nI, mI_lt, nI_lt_m, mI_le, nI_le_m, xI_0, xI_s, bI_0, bI_1, bI_t, bI_f, n_31, j_bit, j_one, i_and, i_or, Nat.not_lt_zero, Nat.succ_ne_zero, Nat.add_one_ne_zero, Nat.add_one_sub_one, Nat.zero_le, Nat.or_zero, Nat.zero_or, Bool.not_true, Bool.not_false, Bool.true_and, Bool.false_and, Bool.and_true, Bool.and_false, ↓reduceIte, if_true, if_false, not_true_eq_false, not_false_eq_true, true_and, and_true, false_and, and_false, and_self, true_or, or_true, false_or, or_false, Nat.reduceEqDiff, Nat.reduceLT, Nat.reduceLeDiff, Nat.reduceAdd, Nat.reduceMul, Nat.reduceSub, Nat.add_zero, Nat.zero_add, Nat.mul_zero, Nat.zero_mul, ne_eq, Bool.not_eq_true, Bool.not_eq_false, reduceCtorEq, decide_true, decide_false, decide_eq_true_eq, decide_eq_false_iff_not, Bool.false_eq_true, if_pos, if_neg, h0, hbr, h21, sA_sA, Bool.true_or]
      | false =>
        cases hi : insc G r with
        | true =>
          rw [hi] at hin
          simp (disch := omega) only [fLt_e, fBd_s, fJn_s, fNn_s, fNu_0, fNu_s, fBo_0, fBo_1, fBo_b, i_lit, i_neg1, nI_add, pk_mul, nI_clamp, i_le, i_lt, i_eq, fIx_n, nI_mI, mI_nI, mI_lt, nI_lt_m, mI_le, nI_le_m, xI_0, xI_s, bI_0, bI_1, bI_t, bI_f, n_31, j_bit, j_one, i_and, i_or, Nat.not_lt_zero, Nat.succ_ne_zero, Nat.add_one_ne_zero, Nat.add_one_sub_one, Nat.zero_le, Nat.or_zero, Nat.zero_or, Bool.not_true, Bool.not_false, Bool.true_and, Bool.false_and, Bool.and_true, Bool.and_false, ↓reduceIte, if_true, if_false, not_true_eq_false, not_false_eq_true, true_and, and_true, false_and, and_false, and_self, true_or, or_true, false_or, or_false, Nat.reduceEqDiff, Nat.reduceLT, Nat.reduceLeDiff, Nat.reduceAdd, Nat.reduceMul, Nat.reduceSub, Nat.add_zero, Nat.zero_add, Nat.mul_zero, Nat.zero_mul, ne_eq, Bool.not_eq_true, Bool.not_eq_false, reduceCtorEq, decide_true, decide_false, decide_eq_true_eq, decide_eq_false_iff_not, Bool.false_eq_true, if_pos, if_neg, h0, hin, hbr, h21, sA_sA, Bool.false_or]
        | false =>
          rw [hi] at hin
          simp (disch := omega) only [fLt_e, fBd_s, fJn_s, fNn_s, fNu_0, fNu_s, fBo_0, fBo_1, fBo_b, i_lit, i_neg1, nI_add, pk_mul, nI_clamp, i_le, i_lt, i_eq, fIx_n, nI_mI, mI_nI, mI_lt, nI_lt_m, mI_le, nI_le_m, xI_0, xI_s, bI_0, bI_1, bI_t, bI_f, n_31, j_bit, j_one, i_and, i_or, Nat.not_lt_zero, Nat.succ_ne_zero, Nat.add_one_ne_zero, Nat.add_one_sub_one, Nat.zero_le, Nat.or_zero, Nat.zero_or, Bool.not_true, Bool.not_false, Bool.true_and, Bool.false_and, Bool.and_true, Bool.and_false, ↓reduceIte, if_true, if_false, not_true_eq_false, not_false_eq_true, true_and, and_true, false_and, and_false, and_self, true_or, or_true, false_or, or_false, Nat.reduceEqDiff, Nat.reduceLT, Nat.reduceLeDiff, Nat.reduceAdd, Nat.reduceMul, Nat.reduceSub, Nat.add_zero, Nat.zero_add, Nat.mul_zero, Nat.zero_mul, ne_eq, Bool.not_eq_true, Bool.not_eq_false, reduceCtorEq, decide_true, decide_false, decide_eq_true_eq, decide_eq_false_iff_not, Bool.false_eq_true, if_pos, if_neg, h0, hin, hbr, h21, sA_sA, Bool.false_or]) (fF_lt (show G 0 < 4000000 by omega)) (s := (nI 0, nI 0, sm)) ⟨gA sm 12 0 21, by rw [sA_self]; rfl, fun o h => absurd h (Nat.not_lt_zero o)⟩
  refine ⟨F, ?_, q1⟩
  refine Eq.trans e ?_
  rw [hs]
  have h0 : gA (sA sm 12 0 21 F) 12 0 5 0 = nI (G 0) := B.1.1
  show f_X12_cast_L32 (nI nt) k9 (m + 1) (bI (anyN (insc G) (G 0))) (nI (G 0)) (sA sm 12 0 21 F) = _
  rw [f_X12_cast_L32]
  simp (disch := omega) only [fLt_e, fBd_s, fJn_s, fNn_s, fNu_0, fNu_s, fBo_0, fBo_1, fBo_b, i_lit, i_neg1, nI_add, pk_mul, nI_clamp, i_le, i_lt, i_eq, fIx_n, nI_mI, mI_nI, mI_lt, nI_lt_m, mI_le, nI_le_m, xI_0, xI_s, bI_0, bI_1, bI_t, bI_f, n_31, j_bit, j_one, i_and, i_or, Nat.not_lt_zero, Nat.succ_ne_zero, Nat.add_one_ne_zero, Nat.add_one_sub_one, Nat.zero_le, Nat.or_zero, Nat.zero_or, Bool.not_true, Bool.not_false, Bool.true_and, Bool.false_and, Bool.and_true, Bool.and_false, ↓reduceIte, if_true, if_false, not_true_eq_false, not_false_eq_true, true_and, and_true, false_and, and_false, and_self, true_or, or_true, false_or, or_false, Nat.reduceEqDiff, Nat.reduceLT, Nat.reduceLeDiff, Nat.reduceAdd, Nat.reduceMul, Nat.reduceSub, Nat.add_zero, Nat.zero_add, Nat.mul_zero, Nat.zero_mul, ne_eq, Bool.not_eq_true, Bool.not_eq_false, reduceCtorEq, decide_true, decide_false, decide_eq_true_eq, decide_eq_false_iff_not, Bool.false_eq_true, if_pos, if_neg, h0]
theorem m_castL121 (v : Int32) {st : fSt} (h : gI st 12 0 53 = v) : f_X12_cast_L121 fF (nI 0) st = some (v, sA st 12 0 20 (fun k => if k < 6 then gA st 12 0 19 k else gA st 12 0 20 k)) := by
  obtain ⟨m, e⟩ := lp_run (fun m (z : Int32 × fSt) => f_X12_cast_L121 m z.1 z.2) (fun i => (nI i, sA st 12 0 20 (fun k => if k < i then gA st 12 0 19 k else gA st 12 0 20 k))) 6 (fun m i hi => by
    show f_X12_cast_L121 (m + 1) (nI i) (sA st 12 0 20 (fun k => if k < i then gA st 12 0 19 k else gA st 12 0 20 k)) = f_X12_cast_L121 m (nI (i + 1)) (sA st 12 0 20 (fun k => if k < i + 1 then gA st 12 0 19 k else gA st 12 0 20 k))
    have hup : upd (fun k => if k < i then gA st 12 0 19 k else gA st 12 0 20 k) i (gA st 12 0 19 i) = fun k => if k < i + 1 then gA st 12 0 19 k else gA st 12 0 20 k := by
      funext k
      rw [upd_at]
      by_cases h : k = i
      · have h3 : k < i + 1 := by omega
        rw [if_pos h, if_pos h3, h]
      · rw [if_neg h]
        by_cases h2 : k < i
        · have h3 : k < i + 1 := by omega
          rw [if_pos h2, if_pos h3]
        · have h3 : ¬ k < i + 1 := by omega
          rw [if_neg h2, if_neg h3]
    have r2 : ∀ F, gA (sA st 12 0 20 F) 12 0 19 = gA st 12 0 19 := fun F => rfl
    have r3 : ∀ F, gA (sA st 12 0 20 F) 12 0 20 = F := fun F => rfl
    rw [f_X12_cast_L121]
    simp (disch := omega) only [fLt_e, fBd_s, fJn_s, fNn_s, fNu_0, fNu_s, fBo_0, fBo_1, fBo_b, i_lit, i_neg1, nI_add, pk_mul, nI_clamp, i_le, i_lt, i_eq, fIx_n, nI_mI, mI_nI, mI_lt, nI_lt_m, mI_le, nI_le_m, xI_0, xI_s, bI_0, bI_1, bI_t, bI_f, n_31, j_bit, j_one, i_and, i_or, Nat.not_lt_zero, Nat.succ_ne_zero, Nat.add_one_ne_zero, Nat.add_one_sub_one, Nat.zero_le, Nat.or_zero, Nat.zero_or, Bool.not_true, Bool.not_false, Bool.true_and, Bool.false_and, Bool.and_true, Bool.and_false, ↓reduceIte, if_true, if_false, not_true_eq_false, not_false_eq_true, true_and, and_true, false_and, and_false, and_self, true_or, or_true, false_or, or_false, Nat.reduceEqDiff, Nat.reduceLT, Nat.reduceLeDiff, Nat.reduceAdd, Nat.reduceMul, Nat.reduceSub, Nat.add_zero, Nat.zero_add, Nat.mul_zero, Nat.zero_mul, ne_eq, Bool.not_eq_true, Bool.not_eq_false, reduceCtorEq, decide_true, decide_false, decide_eq_true_eq, decide_eq_false_iff_not, Bool.false_eq_true, if_pos, if_neg, r2, r3, sA_sA, hup]) (fF_lt (by omega))
  refine Eq.trans ?_ (Eq.trans e ?_)
  · have : (fun k => if k < 0 then gA st 12 0 19 k else gA st 12 0 20 k) = gA st 12 0 20 := by
      funext k
      rw [if_neg (Nat.not_lt_zero k)]
    show f_X12_cast_L121 fF (nI 0) st = f_X12_cast_L121 fF (nI 0) (sA st 12 0 20 (fun k => if k < 0 then gA st 12 0 19 k else gA st 12 0 20 k))
    rw [this, sA_self]
  · have r1 : ∀ F, gI (sA st 12 0 20 F) 12 0 53 = v := fun F => h
    show f_X12_cast_L121 (m + 1) (nI 6) (sA st 12 0 20 (fun k => if k < 6 then gA st 12 0 19 k else gA st 12 0 20 k)) = _
    rw [f_X12_cast_L121]
    simp (disch := omega) only [fLt_e, fBd_s, fJn_s, fNn_s, fNu_0, fNu_s, fBo_0, fBo_1, fBo_b, i_lit, i_neg1, nI_add, pk_mul, nI_clamp, i_le, i_lt, i_eq, fIx_n, nI_mI, mI_nI, mI_lt, nI_lt_m, mI_le, nI_le_m, xI_0, xI_s, bI_0, bI_1, bI_t, bI_f, n_31, j_bit, j_one, i_and, i_or, Nat.not_lt_zero, Nat.succ_ne_zero, Nat.add_one_ne_zero, Nat.add_one_sub_one, Nat.zero_le, Nat.or_zero, Nat.zero_or, Bool.not_true, Bool.not_false, Bool.true_and, Bool.false_and, Bool.and_true, Bool.and_false, ↓reduceIte, if_true, if_false, not_true_eq_false, not_false_eq_true, true_and, and_true, false_and, and_false, and_self, true_or, or_true, false_or, or_false, Nat.reduceEqDiff, Nat.reduceLT, Nat.reduceLeDiff, Nat.reduceAdd, Nat.reduceMul, Nat.reduceSub, Nat.add_zero, Nat.zero_add, Nat.mul_zero, Nat.zero_mul, ne_eq, Bool.not_eq_true, Bool.not_eq_false, reduceCtorEq, decide_true, decide_false, decide_eq_true_eq, decide_eq_false_iff_not, Bool.false_eq_true, if_pos, if_neg, r1]
def kN (st : fSt) (f g : Nat → Int32) : fSt := sA (sA st 1 0 4 f) 1 0 5 g
theorem kN_4 (st : fSt) (f g : Nat → Int32) : gA (kN st f g) 1 0 4 = f := rfl
theorem kN_5 (st : fSt) (f g : Nat → Int32) : gA (kN st f g) 1 0 5 = g := rfl
theorem kN_i (st : fSt) (f g : Nat → Int32) (k i : Nat) : gI (kN st f g) 7 i k = gI st 7 i k := rfl
theorem kN_s5 (st : fSt) (f g x : Nat → Int32) : sA (kN st f g) 1 0 5 x = kN st f x := by
  unfold kN
  rw [sA_sA]
theorem kN_s4 (st : fSt) (f g x : Nat → Int32) : sA (kN st f g) 1 0 4 x = kN st x g := by
  apply st_ext
  · intro c i k; rfl
  · intro c i k; rfl
  · intro c i k
    simp only [kN, gA_sA]
    by_cases h : c = 1 ∧ i = 0
    · obtain ⟨rfl, rfl⟩ := h
      by_cases h1 : k = 4
      · subst h1; simp
      · simp [h1]
    · simp only [← and_assoc, h, false_and, if_false]
  · intro c i k; rfl
  · intro c i k; rfl
theorem x_fbL2 (X : rStg sc q G) (w : gWf G) {nt : Nat} (hnt : nt ≤ 7) (k3 : fSt → Option (Int32 × fSt)) : ∃ f g, f_X1_findBest_L2 q (nI nt) k3 fF (nI 0) sc = k3 (kN sc f g) ∧ ∀ o, o < G 0 → f o = nI (glr G o * nt) ∧ g o = nI (bsd G o) := by
  have w1 := w.1
  obtain ⟨s', m, ⟨f, g, hs, q1⟩, e⟩ := lp_ex (fun m (z : Int32 × fSt) => f_X1_findBest_L2 q (nI nt) k3 m z.1 z.2) (fun r z => ∃ f g, z = (nI r, kN sc f g) ∧ ∀ o, o < r → f o = nI (glr G o * nt) ∧ g o = nI (bsd G o)) (G 0) (by
    rintro r z hr ⟨f, g, rfl, q1⟩
    have h0 : gI sc 7 q 0 = nI (G 0) := X.1.1
    have hln : ∀ f g, f_X7_linesOfRole q (nI r) (kN sc f g) = some (nI (glr G r), kN sc f g) := fun f g => x_linesOfRole (sc := kN sc f g) X w (by omega)
    have hbs : ∀ f g, f_X7_rolesBeside q (nI r) (kN sc f g) = some (nI (bsd G r), kN sc f g) := fun f g => x_rolesBeside (sc := kN sc f g) X w (by omega)
    refine ⟨(nI (r + 1), kN sc (upd f r (nI (glr G r * nt))) (upd g r (nI (bsd G r)))), ⟨_, _, rfl, ?_⟩, ?_⟩
    · intro o ho
      rw [upd_at, upd_at]
      by_cases h : o = r
      · rw [if_pos h, if_pos h, h]
        exact ⟨rfl, rfl⟩
      · rw [if_neg h, if_neg h]
        exact q1 o (by omega)
    · intro m
      show f_X1_findBest_L2 q (nI nt) k3 (m + 1) (nI r) (kN sc f g) = _
      rw [f_X1_findBest_L2]
      simp (disch := omega) only [fLt_e, fBd_s, fJn_s, fNn_s, fNu_0, fNu_s, fBo_0, fBo_1, fBo_b, i_lit, i_neg1, nI_add, pk_mul, nI_clamp, i_le, i_lt, i_eq, fIx_n, nI_mI, mI_nI, mI_lt, nI_lt_m, mI_le, nI_le_m, xI_0, xI_s, bI_0, bI_1, bI_t, bI_f, n_31, j_bit, j_one, i_and, i_or, Nat.not_lt_zero, Nat.succ_ne_zero, Nat.add_one_ne_zero, Nat.add_one_sub_one, Nat.zero_le, Nat.or_zero, Nat.zero_or, Bool.not_true, Bool.not_false, Bool.true_and, Bool.false_and, Bool.and_true, Bool.and_false, ↓reduceIte, if_true, if_false, not_true_eq_false, not_false_eq_true, true_and, and_true, false_and, and_false, and_self, true_or, or_true, false_or, or_false, Nat.reduceEqDiff, Nat.reduceLT, Nat.reduceLeDiff, Nat.reduceAdd, Nat.reduceMul, Nat.reduceSub, Nat.add_zero, Nat.zero_add, Nat.mul_zero, Nat.zero_mul, ne_eq, Bool.not_eq_true, Bool.not_eq_false, reduceCtorEq, decide_true, decide_false, decide_eq_true_eq, decide_eq_false_iff_not, Bool.false_eq_true, if_pos, if_neg, kN_i, h0, hln, hbs, kN_4, kN_5, kN_s4, kN_s5]) (fF_lt (show G 0 < 4000000 by omega)) (s := (nI 0, sc)) ⟨gA sc 1 0 4, gA sc 1 0 5, by
        unfold kN
        rw [sA_self, sA_self], fun o h => absurd h (Nat.not_lt_zero o)⟩
  refine ⟨f, g, ?_, q1⟩
  refine Eq.trans e ?_
  rw [hs]
  have h0 : gI sc 7 q 0 = nI (G 0) := X.1.1
  show f_X1_findBest_L2 q (nI nt) k3 (m + 1) (nI (G 0)) (kN sc f g) = _
  rw [f_X1_findBest_L2]
  simp (disch := omega) only [fLt_e, fBd_s, fJn_s, fNn_s, fNu_0, fNu_s, fBo_0, fBo_1, fBo_b, i_lit, i_neg1, nI_add, pk_mul, nI_clamp, i_le, i_lt, i_eq, fIx_n, nI_mI, mI_nI, mI_lt, nI_lt_m, mI_le, nI_le_m, xI_0, xI_s, bI_0, bI_1, bI_t, bI_f, n_31, j_bit, j_one, i_and, i_or, Nat.not_lt_zero, Nat.succ_ne_zero, Nat.add_one_ne_zero, Nat.add_one_sub_one, Nat.zero_le, Nat.or_zero, Nat.zero_or, Bool.not_true, Bool.not_false, Bool.true_and, Bool.false_and, Bool.and_true, Bool.and_false, ↓reduceIte, if_true, if_false, not_true_eq_false, not_false_eq_true, true_and, and_true, false_and, and_false, and_self, true_or, or_true, false_or, or_false, Nat.reduceEqDiff, Nat.reduceLT, Nat.reduceLeDiff, Nat.reduceAdd, Nat.reduceMul, Nat.reduceSub, Nat.add_zero, Nat.zero_add, Nat.mul_zero, Nat.zero_mul, ne_eq, Bool.not_eq_true, Bool.not_eq_false, reduceCtorEq, decide_true, decide_false, decide_eq_true_eq, decide_eq_false_iff_not, Bool.false_eq_true, if_pos, if_neg, kN_i, h0]
/-- the class's findBest: the answer, and what is kept -/
theorem x_findBest (X : rStg sc q G) (w : gWf G) {nt : Nat} (hnt : nt ≤ 7) : ∃ s', f_X1_findBest q (nI nt) sc = some ((match sch G (fun o => glr G o * nt) 8 0 0 (fun _ => 0) none with | none => mI | some c => nI c.1), s') ∧ (∀ c, ¬ c = 1 → ∀ i k, gI s' c i k = gI sc c i k ∧ gL s' c i k = gL sc c i k ∧ gA s' c i k = gA sc c i k ∧ gB s' c i k = gB sc c i k ∧ gP s' c i k = gP sc c i k) ∧
    (match sch G (fun o => glr G o * nt) 8 0 0 (fun _ => 0) none with | none => gA s' 1 0 1 = gA sc 1 0 1 | some c => c.1 < 1073741824 ∧ (∀ k, c.2 k ≤ 6) ∧ ∀ k, k < 6 → gA s' 1 0 1 k = xI (if k < G 0 then c.2 k else 0)) := by
  have w1 := w.1
  obtain ⟨f, g, e, hfg⟩ := x_fbL2 X w hnt (fun s2 => (fBd (f_J7_fill_53178 1 0 2 6 ((-1 : Int32)) s2) fun _ s4 =>
    fBd (f_J7_fill_53178 1 0 6 6 ((0 : Int32)) s4) fun _ s5 =>
    fBd (f_J7_fill_53178 1 0 7 6 ((0 : Int32)) s5) fun _ s6 =>
    fLt (sI s6 1 0 7 ((-1 : Int32))) fun s7 =>
    fBd (f_X1_choose 8 q ((0 : Int32)) ((0 : Int32)) s7) fun _ s8 =>
    fJn (fun (s9 : fSt) =>
      (some (gI s9 1 0 7, s9))) fun (j10 : fSt → Option (Int32 × fSt)) =>
    if (gI s8 1 0 7) = ((-1 : Int32)) then
      (j10 s8)
    else
      (fCp ((0 : Int32)) ((0 : Int32)) ((6 : Int32)) 6 6 <|
      fLt (sA s8 1 0 1 (va_cpy (gA s8 1 0 3) (gA s8 1 0 1) ((0 : Int32)).toNatClampNeg ((0 : Int32)).toNatClampNeg ((6 : Int32)).toNatClampNeg)) fun s11 =>
      j10 s11)))
  have hbeg : ∃ t p s, sI (sA (sA (sA (kN sc f g) 1 0 2 t) 1 0 6 p) 1 0 7 s) 1 0 7 mI = kS (kN sc f g) mI t (gA sc 1 0 3) p s ∧ (∀ k, k < 6 → t k = mI ∧ p k = nI 0 ∧ s k = nI 0) ∧ f_X1_findBest q (nI nt) sc = (fBd (f_X1_choose 8 q (nI 0) (nI 0) (sI (sA (sA (sA (kN sc f g) 1 0 2 t) 1 0 6 p) 1 0 7 s) 1 0 7 mI)) fun _ s8 =>
    fJn (fun (s9 : fSt) =>
      (some (gI s9 1 0 7, s9))) fun (j10 : fSt → Option (Int32 × fSt)) =>
    if (gI s8 1 0 7) = mI then
      (j10 s8)
    else
      (fCp (nI 0) (nI 0) (nI 6) 6 6 <|
      fLt (sA s8 1 0 1 (va_cpy (gA s8 1 0 3) (gA s8 1 0 1) 0 0 6)) fun s11 =>
      j10 s11)) := by
    have hfi := fun st j a => x_fillI st 1 0 j 6 a (by omega)
    refine ⟨fun e => if e < 6 then mI else gA (kN sc f g) 1 0 2 e, fun e => if e < 6 then nI 0 else gA (sA (kN sc f g) 1 0 2 (fun e => if e < 6 then mI else gA (kN sc f g) 1 0 2 e)) 1 0 6 e, fun e => if e < 6 then nI 0 else gA (sA (sA (kN sc f g) 1 0 2 (fun e => if e < 6 then mI else gA (kN sc f g) 1 0 2 e)) 1 0 6 (fun e => if e < 6 then nI 0 else gA (sA (kN sc f g) 1 0 2 (fun e => if e < 6 then mI else gA (kN sc f g) 1 0 2 e)) 1 0 6 e)) 1 0 7 e, ?_, ?_, ?_⟩
    rotate_left 2
    · unfold f_X1_findBest
      simp only [fLt_e, fJn_s]
      refine Eq.trans e ?_
      simp only [hfi, fBd_s, fLt_e]
      rfl
    · unfold kS
      apply st_ext
      · intro c i k; rfl
      · intro c i k; rfl
      · intro c i k
        simp only [gA_sA, gA_sI]
        by_cases h : c = 1 ∧ i = 0
        · obtain ⟨rfl, rfl⟩ := h
          by_cases h1 : k = 3
          · subst h1
            simp
            rfl
          · simp [h1]
        · simp only [← and_assoc, h, false_and, if_false]
      · intro c i k; rfl
      · intro c i k; rfl
    · intro k hk
      exact ⟨if_pos hk, if_pos hk, if_pos hk⟩
  obtain ⟨t, p, s, hst, htp, hfb⟩ := hbeg
  have hN : ∀ o, o < G 0 → gA (kN sc f g) 1 0 4 o = nI (glr G o * nt) ∧ gA (kN sc f g) 1 0 5 o = nI (bsd G o) := hfg
  obtain ⟨v', t', bb', p', s', ec, r1, -, -⟩ := x_choose (sc := kN sc f g) (nb := fun o => glr G o * nt) X w hN (fun o => glr_nt w hnt o) 8 0 0 (fun _ => 0) none mI t (gA sc 1 0 3) p s (Nat.zero_le _) (by omega) (Nat.zero_le _) (fun o => Nat.zero_le _) rfl ⟨fun o h => absurd h (Nat.not_lt_zero o), fun o h6 _ => (htp o h6).1⟩ (fun a ha => (htp a (by omega)).2)
  rw [hst, ec] at hfb
  have hcp : ∀ K : Option (Int32 × fSt), fCp (nI 0) (nI 0) (nI 6) 6 6 K = K := fun K => fCp_n (sp := 0) (dp := 0) (n := 6) (by omega) (by omega) (by omega) (by omega)
  cases hS : sch G (fun o => glr G o * nt) 8 0 0 (fun _ => 0) none with
  | none =>
    rw [hS] at r1
    have hv : v' = mI := r1
    subst hv
    refine ⟨kS (kN sc f g) mI t' bb' p' s', Eq.trans hfb rfl, ?_, rfl⟩
    intro c hc i k
    refine ⟨?_, rfl, ?_, rfl, rfl⟩
    · show gI (sI _ 1 0 7 mI) c i k = _
      rw [gI_sI, if_neg (fun h => hc h.1)]
      rfl
    · simp only [kS, kN, gA_sI, gA_sA]
      simp only [hc, false_and, if_false]
  | some d =>
    rw [hS] at r1
    obtain ⟨hv, hd, hb3, hb4⟩ := r1
    subst hv
    have hne : ¬ gI (kS (kN sc f g) (nI d.1) t' bb' p' s') 1 0 7 = mI := by
      show ¬ nI d.1 = mI
      rw [nI_mI (by omega)]
      exact fun h => h
    refine ⟨sA (kS (kN sc f g) (nI d.1) t' bb' p' s') 1 0 1 (va_cpy bb' (gA sc 1 0 1) 0 0 6), Eq.trans hfb (Eq.trans (if_neg hne) (Eq.trans (hcp _) rfl)), ?_, hd, hb3, ?_⟩
    · intro c hc i k
      refine ⟨?_, rfl, ?_, rfl, rfl⟩
      · show gI (sI _ 1 0 7 (nI d.1)) c i k = _
        rw [gI_sI, if_neg (fun h => hc h.1)]
        rfl
      · simp only [kS, kN, gA_sI, gA_sA]
        simp only [hc, false_and, if_false]
    · intro k hk
      rw [gA_same]
      unfold va_cpy
      rw [if_pos (by omega), Nat.zero_add, Nat.sub_zero]
      exact hb4 k hk
end
theorem zor_any {G : Nat → Nat} (w : gWf G) : zor (fun s => G (37 + s)) (G 2) = 0 ↔ anyN (insc G) (G 0) = false := by
  have w1 := w.1
  constructor
  · intro h
    cases ha : anyN (insc G) (G 0) with
    | false => rfl
    | true =>
      obtain ⟨r, h1, h2⟩ := (anyN_iff _ _).mp ha
      unfold insc at h2
      obtain ⟨s, s1, s2⟩ := (anyN_iff _ _).mp h2
      have : (zor (fun s => G (37 + s)) (G 2)).testBit r = true := (zor_bit _ _ _).mpr ⟨s, s1, s2⟩
      rw [h, Nat.zero_testBit] at this
      exact absurd this (by decide)
  · intro h
    apply Nat.eq_of_testBit_eq
    intro i
    rw [Nat.zero_testBit]
    cases hb : (zor (fun s => G (37 + s)) (G 2)).testBit i with
    | false => rfl
    | true =>
      obtain ⟨s, s1, s2⟩ := (zor_bit _ _ _).mp hb
      have hlt := (w.2.2.2.1 s s1).2.1
      have : anyN (insc G) (G 0) = true := (anyN_iff _ _).mpr ⟨i, bit_lt hlt s2, (anyN_iff _ _).mpr ⟨s, s1, s2⟩⟩
      rw [h] at this
      exact absurd this (by decide)
theorem call_cast (a : Int32) : CALL (f_X11_cast a) (f_X12_cast a) := by
  intro sc sm ⟨hA, H⟩
  have H := pro_x H
  have z := pro_0 sm
  unfold f_X11_cast f_X12_cast
  simp only [fLt_e, pro_eq]
  generalize pro sm = s2 at *
  obtain ⟨q, G, w, X, B, -⟩ := RX_cur H
  have w1 := w.1
  have i3 : ∀ st, f_X11_isIn a (nI 1) (nI 7) st = some (bI (inB a.toInt 1 7), st) := fun st => x_isIn a 1 7 st
  have i4 : ∀ st, f_X12_isIn a.toInt64 1 7 st = some (bI (inB a.toInt 1 7), st) := fun st => m_isIn_c a 1 7 st
  by_cases ha : 1 ≤ a.toInt ∧ a.toInt ≤ 7
  · rw [inB_t.mpr (by omega)] at i3 i4
    obtain ⟨nt, hnt, rfl, -⟩ := nI_ofInt (a := a) (n := 8) (by omega) (by omega)
    have hra := x_rolesInAny X.2.1 w
    have hzl : zor (fun s => G (37 + s)) (G 2) < 2 ^ 6 := zor_lt (fun k hk => w_pl w hk)
    have hza := zor_any w
    obtain ⟨F, e32, hF⟩ := m_castL32 (sm := s2) B w (show nt ≤ 7 by omega) (fun x7 s8 =>
      (if ¬ x7 = 0 then
        (fLt (sI s8 12 0 53 ((-1 : Int32))) fun s10 =>
        fBd (f_X12_casts 8 ((0 : Int32)) ((0 : Int32)) s10) fun _ s11 =>
        if 0 ≤ (gI s11 12 0 53) then
          (fLt (sI s11 12 0 54 ((1 : Int32))) fun s12 =>
          fLt ((0 : Int32)) fun (x13 : Int32) =>
          f_X12_cast_L121 fF x13 s12)
        else
          (fBd (f_X12_refuse ((9 : Int32)) s11) fun x19 s20 =>
          some (x19, s20)))
      else
        (fBd (f_X12_refuse ((8 : Int32)) s8) fun x21 s22 =>
        some (x21, s22))))
    have e32 : f_X12_cast_L32 (nI nt) (fun x7 s8 =>
      (if ¬ x7 = 0 then
        (fLt (sI s8 12 0 53 ((-1 : Int32))) fun s10 =>
        fBd (f_X12_casts 8 ((0 : Int32)) ((0 : Int32)) s10) fun _ s11 =>
        if 0 ≤ (gI s11 12 0 53) then
          (fLt (sI s11 12 0 54 ((1 : Int32))) fun s12 =>
          fLt ((0 : Int32)) fun (x13 : Int32) =>
          f_X12_cast_L121 fF x13 s12)
        else
          (fBd (f_X12_refuse ((9 : Int32)) s11) fun x19 s20 =>
          some (x19, s20)))
      else
        (fBd (f_X12_refuse ((8 : Int32)) s8) fun x21 s22 =>
        some (x21, s22)))) fF 0 0 s2 = _ := e32
    have hm0 : ¬ inB (nI nt).toInt 1 7 = false := by rw [inB_t.mpr (by omega)]; decide
    by_cases hz : zor (fun s => G (37 + s)) (G 2) = 0
    · rw [hza.mp hz] at e32
      rw [hz] at hra
      have hm : (fBd (f_X12_isIn (nI nt).toInt64 1 7 s2) fun x3 s4 =>
        if ¬ x3 = 0 then
          (fLt ((0 : Int32)) fun (x5 : Int32) =>
          fLt ((0 : Int32)) fun (x6 : Int32) =>
          fJn (fun (x7 : Int32) (s8 : fSt) =>
            (if ¬ x7 = 0 then
              (fLt (sI s8 12 0 53 ((-1 : Int32))) fun s10 =>
              fBd (f_X12_casts 8 ((0 : Int32)) ((0 : Int32)) s10) fun _ s11 =>
              if 0 ≤ (gI s11 12 0 53) then
                (fLt (sI s11 12 0 54 ((1 : Int32))) fun s12 =>
                fLt ((0 : Int32)) fun (x13 : Int32) =>
                f_X12_cast_L121 fF x13 s12)
              else
                (fBd (f_X12_refuse ((9 : Int32)) s11) fun x19 s20 =>
                some (x19, s20)))
            else
              (fBd (f_X12_refuse ((8 : Int32)) s8) fun x21 s22 =>
              some (x21, s22)))) fun (k9 : Int32 → fSt → Option (Int32 × fSt)) =>
          f_X12_cast_L32 (nI nt) k9 fF x5 x6 s4)
        else
          (fBd (f_X12_refuse ((5 : Int32)) s4) fun x39 s40 =>
          some (x39, s40))) = some (mI, sI (sA s2 12 0 21 F) 12 0 0 (nI 8)) := by
        rw [i4, fBd_s, if_pos (by decide)]
        exact e32
      refine ⟨mI, sI sc 11 0 2 (nI 8), _, ?_, hm, fin_st (RX_e (cEq_rf sc) ?_ H) _⟩
      · simp (disch := omega) only [fLt_e, fBd_s, fJn_s, fNn_s, fNu_0, fNu_s, fBo_0, fBo_1, fBo_b, i_lit, i_neg1, nI_add, pk_mul, nI_clamp, i_le, i_lt, i_eq, fIx_n, nI_mI, mI_nI, mI_lt, nI_lt_m, mI_le, nI_le_m, xI_0, xI_s, bI_0, bI_1, bI_t, bI_f, n_31, j_bit, j_one, i_and, i_or, Nat.not_lt_zero, Nat.succ_ne_zero, Nat.add_one_ne_zero, Nat.add_one_sub_one, Nat.zero_le, Nat.or_zero, Nat.zero_or, Bool.not_true, Bool.not_false, Bool.true_and, Bool.false_and, Bool.and_true, Bool.and_false, ↓reduceIte, if_true, if_false, not_true_eq_false, not_false_eq_true, true_and, and_true, false_and, and_false, and_self, true_or, or_true, false_or, or_false, Nat.reduceEqDiff, Nat.reduceLT, Nat.reduceLeDiff, Nat.reduceAdd, Nat.reduceMul, Nat.reduceSub, Nat.add_zero, Nat.zero_add, Nat.mul_zero, Nat.zero_mul, ne_eq, Bool.not_eq_true, Bool.not_eq_false, reduceCtorEq, decide_true, decide_false, decide_eq_true_eq, decide_eq_false_iff_not, Bool.false_eq_true, if_pos, if_neg, i3, X.1, hra, f_X11_fail]
      exact ⟨⟨rfl, rfl, rfl, rfl, rfl, rfl, rfl⟩, ⟨rfl, rfl⟩, ⟨rfl, rfl, rfl, rfl, rfl, rfl, rfl⟩, rfl, rfl⟩
    · have hat : anyN (insc G) (G 0) = true := by
        cases h : anyN (insc G) (G 0) with
        | true => rfl
        | false => exact absurd (hza.mpr h) hz
      rw [hat] at e32
      obtain ⟨s', ef, k1, k2⟩ := x_findBest X.2.1 w (show nt ≤ 7 by omega)
      have hkm : sI (sA s2 12 0 21 F) 12 0 53 mI = kM (sA s2 12 0 21 F) mI (gA s2 12 0 18) (gA s2 12 0 19) := by
        unfold kM
        have e1 : sA (sA (sA s2 12 0 21 F) 12 0 18 (gA s2 12 0 18)) 12 0 19 (gA s2 12 0 19) = sA s2 12 0 21 F := by
          have e2 : gA s2 12 0 18 = gA (sA s2 12 0 21 F) 12 0 18 := rfl
          have e3 : gA s2 12 0 19 = gA (sA s2 12 0 21 F) 12 0 19 := rfl
          rw [e2, e3, sA_self, sA_self]
        rw [e1]
      obtain ⟨v', p', c', ec, r1, -⟩ := m_casts (sm := sA s2 12 0 21 F) (nb := fun o => glr G o * nt) B w hF (fun o => glr_nt w (by omega) o) 8 0 0 (fun _ => 0) none mI (gA s2 12 0 18) (gA s2 12 0 19) (Nat.zero_le _) (by omega) (Nat.zero_le _) (fun o => Nat.zero_le _) rfl (fun o h => absurd h (Nat.not_lt_zero o))
      rw [← hkm] at ec
      have ec : f_X12_casts 8 0 0 (sI (sA s2 12 0 21 F) 12 0 53 (-1)) = some ((), kM (sA s2 12 0 21 F) v' p' c') := ec
      have hkEq : ∀ c, (c = 0 ∨ c = 2 ∨ c = 7 ∨ c = 8 ∨ c = 9) → ∀ i k, gI s' c i k = gI sc c i k ∧ gL s' c i k = gL sc c i k ∧ gA s' c i k = gA sc c i k ∧ gB s' c i k = gB sc c i k ∧ gP s' c i k = gP sc c i k := by
        intro c hc
        refine k1 c ?_
        rcases hc with rfl | rfl | rfl | rfl | rfl <;> decide
      have hi11 := fun k => (k1 11 (by decide) 0 k).1
      have hl11 := fun k => (k1 11 (by decide) 0 k).2.1
      have ha11 := fun k => (k1 11 (by decide) 0 k).2.2.1
      have hi5 := fun k => (k1 5 (by decide) 0 k).1
      have ha5 := fun k => (k1 5 (by decide) 0 k).2.2.1
      have hb5 := fun k => (k1 5 (by decide) 0 k).2.2.2.1
      have hi10 := fun k => (k1 10 (by decide) 0 k).1
      have hb4 := fun k => (k1 4 (by decide) 0 k).2.2.2.1
      obtain ⟨-, hC0⟩ : True ∧ rC sc s2 := ⟨trivial, H.2.2.2.2.2.1⟩
      cases hS : sch G (fun o => glr G o * nt) 8 0 0 (fun _ => 0) none with
      | none =>
        rw [hS] at r1 ef k2
        have hv : v' = mI := r1
        have hk1 : gA s' 1 0 1 = gA sc 1 0 1 := k2
        have hm : (fBd (f_X12_isIn (nI nt).toInt64 1 7 s2) fun x3 s4 =>
          if ¬ x3 = 0 then
            (fLt ((0 : Int32)) fun (x5 : Int32) =>
            fLt ((0 : Int32)) fun (x6 : Int32) =>
            fJn (fun (x7 : Int32) (s8 : fSt) =>
              (if ¬ x7 = 0 then
                (fLt (sI s8 12 0 53 ((-1 : Int32))) fun s10 =>
                fBd (f_X12_casts 8 ((0 : Int32)) ((0 : Int32)) s10) fun _ s11 =>
                if 0 ≤ (gI s11 12 0 53) then
                  (fLt (sI s11 12 0 54 ((1 : Int32))) fun s12 =>
                  fLt ((0 : Int32)) fun (x13 : Int32) =>
                  f_X12_cast_L121 fF x13 s12)
                else
                  (fBd (f_X12_refuse ((9 : Int32)) s11) fun x19 s20 =>
                  some (x19, s20)))
              else
                (fBd (f_X12_refuse ((8 : Int32)) s8) fun x21 s22 =>
                some (x21, s22)))) fun (k9 : Int32 → fSt → Option (Int32 × fSt)) =>
            f_X12_cast_L32 (nI nt) k9 fF x5 x6 s4)
          else
            (fBd (f_X12_refuse ((5 : Int32)) s4) fun x39 s40 =>
            some (x39, s40))) = some (mI, sI (kM (sA s2 12 0 21 F) mI p' c') 12 0 0 (nI 9)) := by
          rw [i4, fBd_s, if_pos (by decide)]
          refine Eq.trans e32 ?_
          rw [if_pos (by decide), fLt_e, ec, fBd_s, hv, kM_v, if_neg (by decide)]
          rfl
        refine ⟨mI, sI s' 11 0 2 (nI 9), _, ?_, hm, fin_st (RX_mk (sc := sc) (sm := s2) hkEq (hi11 9) ⟨rfl, rfl, rfl, rfl, rfl, rfl⟩ H ?_ ?_ ?_ ?_ ?_ ?_ ?_) _⟩
        · simp (disch := omega) only [fLt_e, fBd_s, fJn_s, fNn_s, fNu_0, fNu_s, fBo_0, fBo_1, fBo_b, i_lit, i_neg1, nI_add, pk_mul, nI_clamp, i_le, i_lt, i_eq, fIx_n, nI_mI, mI_nI, mI_lt, nI_lt_m, mI_le, nI_le_m, xI_0, xI_s, bI_0, bI_1, bI_t, bI_f, n_31, j_bit, j_one, i_and, i_or, Nat.not_lt_zero, Nat.succ_ne_zero, Nat.add_one_ne_zero, Nat.add_one_sub_one, Nat.zero_le, Nat.or_zero, Nat.zero_or, Bool.not_true, Bool.not_false, Bool.true_and, Bool.false_and, Bool.and_true, Bool.and_false, ↓reduceIte, if_true, if_false, not_true_eq_false, not_false_eq_true, true_and, and_true, false_and, and_false, and_self, true_or, or_true, false_or, or_false, Nat.reduceEqDiff, Nat.reduceLT, Nat.reduceLeDiff, Nat.reduceAdd, Nat.reduceMul, Nat.reduceSub, Nat.add_zero, Nat.zero_add, Nat.mul_zero, Nat.zero_mul, ne_eq, Bool.not_eq_true, Bool.not_eq_false, reduceCtorEq, decide_true, decide_false, decide_eq_true_eq, decide_eq_false_iff_not, Bool.false_eq_true, if_pos, if_neg, i3, X.1, hra, hz, ef, f_X11_fail]
        · have h := H.1
          unfold rF at *
          rw [hl11, hl11]
          exact h
        · have h := H.2.1
          unfold rQ at *
          rw [hi11, hi11]
          exact h
        · have h := H.2.2.2.1
          unfold rP at *
          rw [hi5, ha5, hb5]
          exact h
        · have h := H.2.2.2.2.1
          unfold rS at *
          rw [hi11, ha11]
          exact h
        · unfold rC at *
          rw [hk1]
          exact hC0
        · have h := H.2.2.2.2.2.2.1
          unfold rW at *
          simp only [hi10]
          exact h
        · have h := H.2.2.2.2.2.2.2.1
          unfold rO at *
          rw [hb4]
          exact h
      | some d =>
        rw [hS] at r1 ef k2
        obtain ⟨hv, hd, hb3, hb4'⟩ := r1
        obtain ⟨-, -, hk2⟩ : d.1 < 1073741824 ∧ (∀ k, d.2 k ≤ 6) ∧ ∀ k, k < 6 → gA s' 1 0 1 k = xI (if k < G 0 then d.2 k else 0) := k2
        have h121 := m_castL121 (nI d.1) (st := sI (kM (sA s2 12 0 21 F) (nI d.1) p' c') 12 0 54 (nI 1)) rfl
        have hm : (fBd (f_X12_isIn (nI nt).toInt64 1 7 s2) fun x3 s4 =>
          if ¬ x3 = 0 then
            (fLt ((0 : Int32)) fun (x5 : Int32) =>
            fLt ((0 : Int32)) fun (x6 : Int32) =>
            fJn (fun (x7 : Int32) (s8 : fSt) =>
              (if ¬ x7 = 0 then
                (fLt (sI s8 12 0 53 ((-1 : Int32))) fun s10 =>
                fBd (f_X12_casts 8 ((0 : Int32)) ((0 : Int32)) s10) fun _ s11 =>
                if 0 ≤ (gI s11 12 0 53) then
                  (fLt (sI s11 12 0 54 ((1 : Int32))) fun s12 =>
                  fLt ((0 : Int32)) fun (x13 : Int32) =>
                  f_X12_cast_L121 fF x13 s12)
                else
                  (fBd (f_X12_refuse ((9 : Int32)) s11) fun x19 s20 =>
                  some (x19, s20)))
              else
                (fBd (f_X12_refuse ((8 : Int32)) s8) fun x21 s22 =>
                some (x21, s22)))) fun (k9 : Int32 → fSt → Option (Int32 × fSt)) =>
            f_X12_cast_L32 (nI nt) k9 fF x5 x6 s4)
          else
            (fBd (f_X12_refuse ((5 : Int32)) s4) fun x39 s40 =>
            some (x39, s40))) = some (nI d.1, sA (sI (kM (sA s2 12 0 21 F) (nI d.1) p' c') 12 0 54 (nI 1)) 12 0 20 (fun k => if k < 6 then c' k else gA s2 12 0 20 k)) := by
          have hle : (0 : Int32) ≤ nI d.1 := nI_le (Nat.zero_le _) (by omega)
          rw [i4, fBd_s, if_pos (by decide)]
          refine Eq.trans e32 ?_
          rw [if_pos (by decide), fLt_e, ec, fBd_s, hv, kM_v, if_pos hle]
          exact h121
        refine ⟨nI d.1, sI s' 11 0 2 (nI 0), _, ?_, hm, fin_0 (RX_mk (sc := sc) (sm := s2) hkEq (hi11 9) ⟨rfl, rfl, rfl, rfl, rfl, rfl⟩ H ?_ ?_ ?_ ?_ ?_ ?_ ?_) z⟩
        · have hdl := hd
          simp (disch := omega) only [fLt_e, fBd_s, fJn_s, fNn_s, fNu_0, fNu_s, fBo_0, fBo_1, fBo_b, i_lit, i_neg1, nI_add, pk_mul, nI_clamp, i_le, i_lt, i_eq, fIx_n, nI_mI, mI_nI, mI_lt, nI_lt_m, mI_le, nI_le_m, xI_0, xI_s, bI_0, bI_1, bI_t, bI_f, n_31, j_bit, j_one, i_and, i_or, Nat.not_lt_zero, Nat.succ_ne_zero, Nat.add_one_ne_zero, Nat.add_one_sub_one, Nat.zero_le, Nat.or_zero, Nat.zero_or, Bool.not_true, Bool.not_false, Bool.true_and, Bool.false_and, Bool.and_true, Bool.and_false, ↓reduceIte, if_true, if_false, not_true_eq_false, not_false_eq_true, true_and, and_true, false_and, and_false, and_self, true_or, or_true, false_or, or_false, Nat.reduceEqDiff, Nat.reduceLT, Nat.reduceLeDiff, Nat.reduceAdd, Nat.reduceMul, Nat.reduceSub, Nat.add_zero, Nat.zero_add, Nat.mul_zero, Nat.zero_mul, ne_eq, Bool.not_eq_true, Bool.not_eq_false, reduceCtorEq, decide_true, decide_false, decide_eq_true_eq, decide_eq_false_iff_not, Bool.false_eq_true, if_pos, if_neg, i3, X.1, hra, hz, ef, f_X11_answer]
        · have h := H.1
          unfold rF at *
          rw [hl11, hl11]
          exact h
        · have h := H.2.1
          unfold rQ at *
          rw [hi11, hi11]
          exact h
        · have h := H.2.2.2.1
          unfold rP at *
          rw [hi5, ha5, hb5]
          exact h
        · have h := H.2.2.2.2.1
          unfold rS at *
          rw [hi11, ha11]
          exact h
        · refine Or.inr ⟨rfl, fun r hr => ⟨if r < G 0 then d.2 r else 0, ?_, hk2 r hr, ?_⟩⟩
          · have := hb3 r
            split <;> omega
          · show (if r < 6 then c' r else gA s2 12 0 20 r) = _
            rw [if_pos hr]
            exact hb4' r hr
        · have h := H.2.2.2.2.2.2.1
          unfold rW at *
          simp only [hi10]
          exact h
        · have h := H.2.2.2.2.2.2.2.1
          unfold rO at *
          rw [hb4]
          exact h
  · rw [inB_f.mpr (by omega)] at i3 i4
    simp (disch := omega) only [fLt_e, fBd_s, fJn_s, fNn_s, fNu_0, fNu_s, fBo_0, fBo_1, fBo_b, i_lit, i_neg1, nI_add, pk_mul, nI_clamp, i_le, i_lt, i_eq, fIx_n, nI_mI, mI_nI, mI_lt, nI_lt_m, mI_le, nI_le_m, xI_0, xI_s, bI_0, bI_1, bI_t, bI_f, n_31, j_bit, j_one, i_and, i_or, Nat.not_lt_zero, Nat.succ_ne_zero, Nat.add_one_ne_zero, Nat.add_one_sub_one, Nat.zero_le, Nat.or_zero, Nat.zero_or, Bool.not_true, Bool.not_false, Bool.true_and, Bool.false_and, Bool.and_true, Bool.and_false, ↓reduceIte, if_true, if_false, not_true_eq_false, not_false_eq_true, true_and, and_true, false_and, and_false, and_self, true_or, or_true, false_or, or_false, Nat.reduceEqDiff, Nat.reduceLT, Nat.reduceLeDiff, Nat.reduceAdd, Nat.reduceMul, Nat.reduceSub, Nat.add_zero, Nat.zero_add, Nat.mul_zero, Nat.zero_mul, ne_eq, Bool.not_eq_true, Bool.not_eq_false, reduceCtorEq, decide_true, decide_false, decide_eq_true_eq, decide_eq_false_iff_not, Bool.false_eq_true, if_pos, if_neg, i3, i4, f_X11_fail, f_X12_refuse]
    exact ⟨_, _, _, rfl, rfl, fin_st H _⟩
