/-! layer 2: the book; calls of nights -/
theorem itr_inv {σ : Type} {f : Nat → σ → σ} (P : σ → Prop) (hs : ∀ k t, P t → P (f k t)) : ∀ n k t, P t → P (itq f n k t) := by
  intro n
  induction n with
  | zero => intro k t h; exact h
  | succ n ih => intro k t h; exact ih _ _ (hs k t h)
section
variable {sc sm : fSt} {q : Nat} {G : Nat → Nat}
theorem m_booksL9 {k : Nat} (h1 : 1 ≤ k) (h2 : k ≤ 19) (k14 : fSt → Option (Unit × fSt)) (st : fSt) : f_X12_books_L9 (nI k) k14 fF (nI 0) st = k14 (sA st 12 0 5 (fun p => if 137 + 4 * k ≤ p ∧ p < 141 + 4 * k then gA st 12 0 5 (p - 4) else gA st 12 0 5 p)) := by
  obtain ⟨m, e⟩ := lp_run (fun m (z : Int32 × fSt) => f_X12_books_L9 (nI k) k14 m z.1 z.2) (fun i => (nI i, sA st 12 0 5 (fun p => if 137 + 4 * k ≤ p ∧ p < 137 + 4 * k + i then gA st 12 0 5 (p - 4) else gA st 12 0 5 p))) 4 (fun m i hi => by
    show f_X12_books_L9 (nI k) k14 (m + 1) (nI i) (sA st 12 0 5 (fun p => if 137 + 4 * k ≤ p ∧ p < 137 + 4 * k + i then gA st 12 0 5 (p - 4) else gA st 12 0 5 p)) = f_X12_books_L9 (nI k) k14 m (nI (i + 1)) (sA st 12 0 5 (fun p => if 137 + 4 * k ≤ p ∧ p < 137 + 4 * k + (i + 1) then gA st 12 0 5 (p - 4) else gA st 12 0 5 p))
    rw [f_X12_books_L9]
    have e4 : nI (137 + 4 * k) - nI 4 = nI (137 + 4 * k - 4) := pk_sub (by omega)
    simp (disch := omega) only [fLt_e, fBd_s, fJn_s, fNn_s, fNu_0, fNu_s, fBo_0, fBo_1, fBo_b, i_lit, i_neg1, nI_add, pk_mul, nI_clamp, i_le, i_lt, i_eq, fIx_n, nI_mI, mI_nI, mI_lt, nI_lt_m, mI_le, nI_le_m, xI_0, xI_s, bI_0, bI_1, bI_t, bI_f, n_31, j_bit, j_one, i_and, i_or, Nat.not_lt_zero, Nat.succ_ne_zero, Nat.add_one_ne_zero, Nat.add_one_sub_one, Nat.zero_le, Nat.or_zero, Nat.zero_or, Bool.not_true, Bool.not_false, Bool.true_and, Bool.false_and, Bool.and_true, Bool.and_false, ↓reduceIte, if_true, if_false, not_true_eq_false, not_false_eq_true, true_and, and_true, false_and, and_false, and_self, true_or, or_true, false_or, or_false, Nat.reduceEqDiff, Nat.reduceLT, Nat.reduceLeDiff, Nat.reduceAdd, Nat.reduceMul, Nat.reduceSub, Nat.add_zero, Nat.zero_add, Nat.mul_zero, Nat.zero_mul, ne_eq, Bool.not_eq_true, Bool.not_eq_false, reduceCtorEq, decide_true, decide_false, decide_eq_true_eq, decide_eq_false_iff_not, Bool.false_eq_true, if_pos, if_neg, gA_same, sA_sA, e4]
    congr 2
    funext p
    rw [upd_at]
    by_cases hp : p = 137 + 4 * k + i
    · rw [if_pos hp, if_pos (by omega)]
      congr 1
      omega
    · rw [if_neg hp]
      by_cases hp2 : 137 + 4 * k ≤ p ∧ p < 137 + 4 * k + i
      · rw [if_pos hp2, if_pos (by omega)]
      · rw [if_neg hp2, if_neg (by omega)]) (fF_lt (by omega))
  refine Eq.trans ?_ (Eq.trans e ?_)
  · show _ = f_X12_books_L9 (nI k) k14 fF (nI 0) (sA st 12 0 5 (fun p => if 137 + 4 * k ≤ p ∧ p < 137 + 4 * k + 0 then gA st 12 0 5 (p - 4) else gA st 12 0 5 p))
    congr 1
    rw [show (fun p => if 137 + 4 * k ≤ p ∧ p < 137 + 4 * k + 0 then gA st 12 0 5 (p - 4) else gA st 12 0 5 p) = gA st 12 0 5 from funext fun p => if_neg (by omega)]
    exact (sA_self st 12 0 5).symm
  · show f_X12_books_L9 (nI k) k14 (m + 1) (nI 4) (sA st 12 0 5 (fun p => if 137 + 4 * k ≤ p ∧ p < 137 + 4 * k + 4 then gA st 12 0 5 (p - 4) else gA st 12 0 5 p)) = _
    rw [f_X12_books_L9]
    simp (disch := omega) only [fLt_e, fBd_s, fJn_s, fNn_s, fNu_0, fNu_s, fBo_0, fBo_1, fBo_b, i_lit, i_neg1, nI_add, pk_mul, nI_clamp, i_le, i_lt, i_eq, fIx_n, nI_mI, mI_nI, mI_lt, nI_lt_m, mI_le, nI_le_m, xI_0, xI_s, bI_0, bI_1, bI_t, bI_f, n_31, j_bit, j_one, i_and, i_or, Nat.not_lt_zero, Nat.succ_ne_zero, Nat.add_one_ne_zero, Nat.add_one_sub_one, Nat.zero_le, Nat.or_zero, Nat.zero_or, Bool.not_true, Bool.not_false, Bool.true_and, Bool.false_and, Bool.and_true, Bool.and_false, ↓reduceIte, if_true, if_false, not_true_eq_false, not_false_eq_true, true_and, and_true, false_and, and_false, and_self, true_or, or_true, false_or, or_false, Nat.reduceEqDiff, Nat.reduceLT, Nat.reduceLeDiff, Nat.reduceAdd, Nat.reduceMul, Nat.reduceSub, Nat.add_zero, Nat.zero_add, Nat.mul_zero, Nat.zero_mul, ne_eq, Bool.not_eq_true, Bool.not_eq_false, reduceCtorEq, decide_true, decide_false, decide_eq_true_eq, decide_eq_false_iff_not, Bool.false_eq_true, if_pos, if_neg]
    congr 2
    funext p
    congr 1
    apply propext
    omega
theorem m_booksL3 (k3 : fSt → Option (Unit × fSt)) : ∀ k m st, k ≤ 19 → k < m → f_X12_books_L3 k3 m (nI k) st = k3 (sA st 12 0 5 (fun p => if 141 ≤ p ∧ p < 141 + 4 * k then gA st 12 0 5 (p - 4) else gA st 12 0 5 p)) := by
  intro k
  induction k with
  | zero =>
    intro m st _ hm
    obtain ⟨m, rfl⟩ : ∃ m', m = m' + 1 := ⟨m - 1, by omega⟩
    rw [f_X12_books_L3]
    simp (disch := omega) only [fLt_e, fBd_s, fJn_s, fNn_s, fNu_0, fNu_s, fBo_0, fBo_1, fBo_b, i_lit, i_neg1, nI_add, pk_mul, nI_clamp, i_le, i_lt, i_eq, fIx_n, nI_mI, mI_nI, mI_lt, nI_lt_m, mI_le, nI_le_m, xI_0, xI_s, bI_0, bI_1, bI_t, bI_f, n_31, j_bit, j_one, i_and, i_or, Nat.not_lt_zero, Nat.succ_ne_zero, Nat.add_one_ne_zero, Nat.add_one_sub_one, Nat.zero_le, Nat.or_zero, Nat.zero_or, Bool.not_true, Bool.not_false, Bool.true_and, Bool.false_and, Bool.and_true, Bool.and_false, ↓reduceIte, if_true, if_false, not_true_eq_false, not_false_eq_true, true_and, and_true, false_and, and_false, and_self, true_or, or_true, false_or, or_false, Nat.reduceEqDiff, Nat.reduceLT, Nat.reduceLeDiff, Nat.reduceAdd, Nat.reduceMul, Nat.reduceSub, Nat.add_zero, Nat.zero_add, Nat.mul_zero, Nat.zero_mul, ne_eq, Bool.not_eq_true, Bool.not_eq_false, reduceCtorEq, decide_true, decide_false, decide_eq_true_eq, decide_eq_false_iff_not, Bool.false_eq_true, if_pos, if_neg]
    congr 1
    exact (sA_self st 12 0 5).symm
  | succ k ih =>
    intro m st hk hm
    obtain ⟨m, rfl⟩ : ∃ m', m = m' + 1 := ⟨m - 1, by omega⟩
    rw [f_X12_books_L3]
    simp only [fLt_e, fJn_s, i_lit, i_neg1]
    rw [if_neg (nI_ge (show 0 < k + 1 by omega) (by omega)), m_booksL9 (by omega) hk]
    have e : nI (k + 1) + mI = nI k := pk_m1 k
    rw [e, ih m _ (by omega) (by omega), sA_sA, gA_same]
    congr 2
    funext p
    by_cases h1 : 141 ≤ p ∧ p < 141 + 4 * k
    · rw [if_pos h1, if_neg (by omega), if_pos (by omega)]
    · rw [if_neg h1]
      by_cases h2 : 137 + 4 * (k + 1) ≤ p ∧ p < 141 + 4 * (k + 1)
      · rw [if_pos h2, if_pos (by omega)]
      · rw [if_neg h2, if_neg (by omega)]
theorem m_books (B : rBlk (gA sm 12 0 5) G) (w : gWf G) (t : pSt) (rd kd : Int32) : ∃ g, f_X12_books kd (oS sm 12 0 25 29 (aM t rd)) = some ((), sA (oS sm 12 0 25 29 (aM t rd)) 12 0 5 g) ∧ g 6 = nI (min 20 (G 6 + 1)) ∧ (g 137 = nI t.2.2.1 ∧ g 138 = xI t.2.2.2.1 ∧ g 139 = kd ∧ g 140 = nI t.2.2.2.2.1) ∧ (∀ p, 141 ≤ p → p < 217 → g p = gA sm 12 0 5 (p - 4)) ∧ ∀ p, p < 6 ∨ (7 ≤ p ∧ p < 137) ∨ 217 ≤ p → g p = gA sm 12 0 5 p := by
  have w2 := w.2.1
  have h6 := B.1.2.2.2.2.2.2
  have hmin : (if nI (G 6 + 1) < nI 20 then nI (G 6 + 1) else nI 20) = nI (min 20 (G 6 + 1)) := by
    by_cases h : G 6 + 1 < 20
    · rw [if_pos (nI_lt h (by omega)), Nat.min_eq_right (by omega)]
    · rw [if_neg (nI_nlt (by omega) (by omega)), Nat.min_eq_left (by omega)]
  unfold f_X12_books
  simp only [fLt_e, fJn_s, i_lit]
  rw [m_booksL3 _ 19 fF _ (by omega) (fF_lt (by omega))]
  simp (disch := omega) only [fLt_e, fBd_s, fJn_s, fNn_s, fNu_0, fNu_s, fBo_0, fBo_1, fBo_b, Nat.not_lt_zero, Nat.succ_ne_zero, Nat.add_one_ne_zero, Nat.add_one_sub_one, Nat.zero_le, Nat.or_zero, Nat.zero_or, Bool.not_true, Bool.not_false, Bool.true_and, Bool.false_and, Bool.and_true, Bool.and_false, ↓reduceIte, if_true, if_false, not_true_eq_false, not_false_eq_true, true_and, and_true, false_and, and_false, and_self, true_or, or_true, false_or, or_false, Nat.reduceEqDiff, Nat.reduceLT, Nat.reduceLeDiff, Nat.reduceAdd, Nat.reduceMul, Nat.reduceSub, Nat.add_zero, Nat.zero_add, Nat.mul_zero, Nat.zero_mul, ne_eq, Bool.not_eq_true, Bool.not_eq_false, reduceCtorEq, decide_true, decide_false, decide_eq_true_eq, decide_eq_false_iff_not, Bool.false_eq_true, nI_add, nI_clamp, fIx_n, gI_sA, gA_same, sA_sA, upd_at, if_neg, if_pos, gI_oS, gA_oS, h6, hmin]
  refine ⟨_, rfl, ?_, ⟨?_, ?_, ?_, ?_⟩, fun p h1 h2 => ?_, fun p hp => ?_⟩
  · simp only [upd_at, if_true]
  · simp (disch := omega) only [upd_at, if_neg, if_pos, aM, if_true]
  · simp (disch := omega) only [upd_at, if_neg, if_pos, aM, if_true]
  · simp (disch := omega) only [upd_at, if_neg, if_pos, aM, if_true]
  · simp (disch := omega) only [upd_at, if_neg, if_pos, aM, if_true]
  · simp (disch := omega) only [upd_at, if_neg, if_pos]
  · simp (disch := omega) only [upd_at, if_neg]
theorem x_note (X : rHou sc 0 q G) (w : gWf G) (i : Nat) (a : Nat → Int32) : ∃ e, f_X0_note 0 i (oS sc 3 i 0 7 a) = some ((), sI (sA (oS sc 3 i 0 7 a) 0 0 1 e) 0 0 0 (nI (min 20 (G 6 + 1)))) ∧ (e 0 = a 0 ∧ e 1 = a 1 ∧ e 2 = a 2 ∧ e 3 = a 3) ∧ ∀ p, 4 ≤ p → p < 80 → e p = gA sc 0 0 1 (p - 4) := by
  have w2 := w.2.1
  have h6 := X.2.2.2.1
  have hmin : (if nI 20 < nI (G 6 + 1) then nI 20 else nI (G 6 + 1)) = nI (min 20 (G 6 + 1)) := by
    by_cases h : G 6 + 1 ≤ 20
    · rw [if_neg (nI_nlt h (by omega)), Nat.min_eq_right (by omega)]
    · rw [if_pos (nI_lt (by omega) (by omega)), Nat.min_eq_left (by omega)]
  have e76 : nI 80 - nI 4 = nI 76 := pk_sub (by omega)
  unfold f_X0_note
  simp only [i_lit, e76]
  rw [fCp_n (by omega) (by omega) (by omega) (by omega)]
  simp (disch := omega) only [fLt_e, fBd_s, fJn_s, fNn_s, fNu_0, fNu_s, fBo_0, fBo_1, fBo_b, Nat.not_lt_zero, Nat.succ_ne_zero, Nat.add_one_ne_zero, Nat.add_one_sub_one, Nat.zero_le, Nat.or_zero, Nat.zero_or, Bool.not_true, Bool.not_false, Bool.true_and, Bool.false_and, Bool.and_true, Bool.and_false, ↓reduceIte, if_true, if_false, not_true_eq_false, not_false_eq_true, true_and, and_true, false_and, and_false, and_self, true_or, or_true, false_or, or_false, Nat.reduceEqDiff, Nat.reduceLT, Nat.reduceLeDiff, Nat.reduceAdd, Nat.reduceMul, Nat.reduceSub, Nat.add_zero, Nat.zero_add, Nat.mul_zero, Nat.zero_mul, ne_eq, Bool.not_eq_true, Bool.not_eq_false, reduceCtorEq, decide_true, decide_false, decide_eq_true_eq, decide_eq_false_iff_not, Bool.false_eq_true, nI_add, nI_clamp, fIx_n, gI_sA, gA_same, sA_sA, upd_at, if_neg, if_pos, gI_oS, gA_oS, h6, hmin]
  refine ⟨_, rfl, ⟨?_, ?_, ?_, ?_⟩, fun p h1 h2 => ?_⟩
  · simp (disch := omega) only [upd_at, if_neg, if_pos, if_true]
  · simp (disch := omega) only [upd_at, if_neg, if_pos, if_true]
  · simp (disch := omega) only [upd_at, if_neg, if_pos, if_true]
  · simp (disch := omega) only [upd_at, if_neg, if_pos, if_true]
  · simp (disch := omega) only [upd_at, if_neg, if_pos, va_cpy, Nat.zero_add]
theorem up_night (H : RX sc sm) {i v : Nat} {a b e g : Nat → Int32} (hv : ∀ q G, gWf G → rHou sc 0 q G → rBlk (gA sm 12 0 5) G → v = min 20 (G 6 + 1)) {t : pSt} {kd : Nat} (ht : 0 < t.2.2.1 ∧ t.2.2.1 < 4096 ∧ t.2.2.2.1 ≤ 9 ∧ kd ≤ 4 ∧ t.2.2.2.2.1 < 1048576)
    (he : e 0 = nI t.2.2.1 ∧ e 1 = xI t.2.2.2.1 ∧ e 2 = xI kd ∧ e 3 = nI t.2.2.2.2.1) (he2 : ∀ p, 4 ≤ p → p < 80 → e p = gA sc 0 0 1 (p - 4))
    (hg : g 6 = nI v) (hg1 : g 137 = nI t.2.2.1 ∧ g 138 = xI t.2.2.2.1 ∧ g 139 = xI kd ∧ g 140 = nI t.2.2.2.2.1) (hg2 : ∀ p, 141 ≤ p → p < 217 → g p = gA sm 12 0 5 (p - 4)) (hg3 : ∀ p, p < 6 ∨ (7 ≤ p ∧ p < 137) ∨ 217 ≤ p → g p = gA sm 12 0 5 p) :
    RX (sI (sA (oS sc 3 i 0 7 a) 0 0 1 e) 0 0 0 (nI v)) (sA (oS sm 12 0 25 29 b) 12 0 5 g) := by
  refine up0 H ⟨fun c hc i k => by rcases hc with rfl | rfl | rfl <;> exact ⟨rfl, rfl, rfl, rfl, rfl⟩, fun i k hk => rfl, fun i k => rfl, fun i hi => ⟨?_, ?_⟩, rfl, rfl, ⟨rfl, rfl, rfl⟩, ⟨rfl, rfl, rfl, rfl, rfl, rfl⟩, rfl, rfl, rfl, rfl, rfl, rfl, rfl⟩
    ⟨⟨rfl, rfl, rfl, rfl, rfl, rfl, rfl⟩, ⟨rfl, rfl⟩, ⟨rfl, rfl, rfl, fun k hk => ?_, rfl, rfl, rfl⟩, rfl, rfl⟩ ?_
  · simp only [gI_sI, gI_sA, gI_oS, hi, and_false, false_and, if_false, Nat.reduceEqDiff]
  · simp only [gA_sI, gA_sA, gA_oS, hi, and_false, false_and, if_false]
  · rw [gA_same]
    exact hg3 k (by omega)
  · intro q G w X B
    have hv := hv q G w X B
    have w2 := w.2.1
    refine ⟨fun k => if k = 6 then v else if k = 137 then t.2.2.1 else if k = 138 then t.2.2.2.1 else if k = 139 then kd else if k = 140 then t.2.2.2.2.1 else if 141 ≤ k ∧ k < 217 then G (k - 4) else G k, fun k hk => ?_, ?_, ?_, ?_, ?_, fun i hi => ?_⟩
    · simp (disch := omega) only [if_neg]
    · obtain ⟨w1, ⟨w2, w3, w4⟩, w5, w6, w7, w8⟩ := w
      refine ⟨w1, ⟨w2, w3, ?_⟩, fun a ha => ?_, fun s hs => ?_, fun k hk => ?_, fun i hi => ?_⟩
      · simp only [if_true]; omega
      · have ha : a < G 1 := ha
        simp (disch := omega) only [if_neg]; exact w5 a ha
      · have hs : s < G 2 := hs
        simp (disch := omega) only [if_neg]; exact w6 s hs
      · have hk : k < G 3 := hk
        simp (disch := omega) only [if_neg]; exact w7 k hk
      · simp only [if_true] at hi
        cases i with
        | zero => simp only [Nat.mul_zero, Nat.add_zero, Nat.reduceEqDiff, if_false, if_true]; exact ht
        | succ i =>
          have := w8 i (by omega)
          simp (disch := omega) only [if_neg, if_pos]
          rw [show 137 + 4 * (i + 1) - 4 = 137 + 4 * i by omega, show 138 + 4 * (i + 1) - 4 = 138 + 4 * i by omega, show 139 + 4 * (i + 1) - 4 = 139 + 4 * i by omega, show 140 + 4 * (i + 1) - 4 = 140 + 4 * i by omega]
          exact this
    · exact X.2.2.1
    · refine ⟨gI_same _ _ _ _ _, fun i hi => ?_⟩
      simp only [if_true] at hi
      rw [gA_sI, gA_same]
      cases i with
      | zero => simp only [Nat.zero_mul, Nat.zero_add, Nat.mul_zero, Nat.add_zero, Nat.reduceEqDiff, if_false, if_true]; exact he
      | succ i =>
        have := X.2.2.2.2 i (by omega)
        simp (disch := omega) only [if_neg, if_pos]
        rw [he2 _ (by omega) (by omega), he2 _ (by omega) (by omega), he2 _ (by omega) (by omega), he2 _ (by omega) (by omega)]
        rw [show 137 + 4 * (i + 1) - 4 = 137 + 4 * i by omega, show 138 + 4 * (i + 1) - 4 = 138 + 4 * i by omega, show 139 + 4 * (i + 1) - 4 = 139 + 4 * i by omega, show 140 + 4 * (i + 1) - 4 = 140 + 4 * i by omega]
        rw [show (i + 1) * 4 - 4 = i * 4 by omega, show (i + 1) * 4 + 1 - 4 = i * 4 + 1 by omega, show (i + 1) * 4 + 2 - 4 = i * 4 + 2 by omega, show (i + 1) * 4 + 3 - 4 = i * 4 + 3 by omega]
        exact this
    · rw [gA_same]
      refine ⟨?_, ?_, ?_⟩
      · rw [hg3 4 (by omega)]; exact B.1.2.2.2.2.1
      · rw [hg3 5 (by omega)]; exact B.1.2.2.2.2.2.1
      · exact hg
    · simp only [if_true] at hi
      rw [gA_same]
      cases i with
      | zero => simp only [Nat.mul_zero, Nat.add_zero, Nat.reduceEqDiff, if_false, if_true]; exact hg1
      | succ i =>
        have := B.2.2.2.2.1 i (by omega)
        simp (disch := omega) only [if_neg, if_pos]
        rw [hg2 _ (by omega) (by omega), hg2 _ (by omega) (by omega), hg2 _ (by omega) (by omega), hg2 _ (by omega) (by omega)]
        rw [show 137 + 4 * (i + 1) - 4 = 137 + 4 * i by omega, show 138 + 4 * (i + 1) - 4 = 138 + 4 * i by omega, show 139 + 4 * (i + 1) - 4 = 139 + 4 * i by omega, show 140 + 4 * (i + 1) - 4 = 140 + 4 * i by omega]
        exact this
theorem x_open (H : rHou sc 0 q G) (w : gWf G) (i : Nat) (who : Int32) (A : Nat → Int32) : f_X3_open i 0 who (oS sc 3 i 0 7 A) = some ((), oS sc 3 i 0 7 (aNi (gpl G (G 2) (G 5), G 5, 0, 0, 0, 0) who (A 6))) := by
  have w2 := w.2.1
  have ho := fun A => x_opening (rHou_oS (i := i) (lo := 0) (hi := 7) (a := A) H) w (show G 5 < 64 by omega)
  unfold f_X3_open
  simp (disch := omega) only [fLt_e, fBd_s, fJn_s, fNn_s, fNu_0, fNu_s, fBo_0, fBo_1, fBo_b, i_lit, i_neg1, nI_add, pk_mul, nI_clamp, i_le, i_lt, i_eq, fIx_n, nI_mI, mI_nI, mI_lt, nI_lt_m, mI_le, nI_le_m, xI_0, xI_s, bI_0, bI_1, bI_t, bI_f, n_31, j_bit, j_one, i_and, i_or, Nat.not_lt_zero, Nat.succ_ne_zero, Nat.add_one_ne_zero, Nat.add_one_sub_one, Nat.zero_le, Nat.or_zero, Nat.zero_or, Bool.not_true, Bool.not_false, Bool.true_and, Bool.false_and, Bool.and_true, Bool.and_false, ↓reduceIte, if_true, if_false, not_true_eq_false, not_false_eq_true, true_and, and_true, false_and, and_false, and_self, true_or, or_true, false_or, or_false, Nat.reduceEqDiff, Nat.reduceLT, Nat.reduceLeDiff, Nat.reduceAdd, Nat.reduceMul, Nat.reduceSub, Nat.add_zero, Nat.zero_add, Nat.mul_zero, Nat.zero_mul, ne_eq, Bool.not_eq_true, Bool.not_eq_false, reduceCtorEq, decide_true, decide_false, decide_eq_true_eq, decide_eq_false_iff_not, Bool.false_eq_true, if_pos, if_neg, oS_sI, gI_oS, upd_at, H.2.2.1.2, ho]
  refine congrArg (fun S => some ((), S)) (oS_ext fun k _ hk => ?_)
  simp only [upd_at]
  rcases (show k = 0 ∨ k = 1 ∨ k = 2 ∨ k = 3 ∨ k = 4 ∨ k = 5 ∨ k = 6 by omega) with rfl | rfl | rfl | rfl | rfl | rfl | rfl <;> rfl
-- what is done by hand
abbrev dOk (f : Nat → Int64) (n : Nat) : Prop := ∀ k, k < n → 0 ≤ (f k).toInt ∧ (f k).toInt ≤ 3
theorem l0i : (0 : Int64).toInt = 0 := rfl
theorem l3i : (3 : Int64).toInt = 3 := rfl
theorem l4i : (4 : Int64).toInt = 4 := rfl
theorem x_holdsL {t many ma : Nat} (hm : many ≤ ma) (hma : ma ≤ 60) (h : gI sc 8 t 3 = nI ma) (k3 k5 : fSt → Option (Int32 × fSt)) : ∀ n k m, k + n = many → n < m → ((∀ j, k ≤ j → j < many → 0 ≤ (gB sc 8 t 1 j).toInt ∧ (gB sc 8 t 1 j).toInt ≤ 3) → f_X8_holdsDeeds_L2 t (nI many) k3 k5 m (nI k) sc = k3 sc) ∧ ((¬ ∀ j, k ≤ j → j < many → 0 ≤ (gB sc 8 t 1 j).toInt ∧ (gB sc 8 t 1 j).toInt ≤ 3) → f_X8_holdsDeeds_L2 t (nI many) k3 k5 m (nI k) sc = k5 sc) := by
  intro n
  induction n with
  | zero =>
    intro k m hk hm
    obtain ⟨m, rfl⟩ : ∃ m', m = m' + 1 := ⟨m - 1, by omega⟩
    rw [f_X8_holdsDeeds_L2]
    refine ⟨fun _ => ?_, fun hh => absurd (fun j h1 h2 => by omega) hh⟩
    simp (disch := omega) only [fLt_e, fBd_s, fJn_s, fNn_s, fNu_0, fNu_s, fBo_0, fBo_1, fBo_b, i_lit, i_neg1, nI_add, pk_mul, nI_clamp, i_le, i_lt, i_eq, fIx_n, nI_mI, mI_nI, mI_lt, nI_lt_m, mI_le, nI_le_m, xI_0, xI_s, bI_0, bI_1, bI_t, bI_f, n_31, j_bit, j_one, i_and, i_or, Nat.not_lt_zero, Nat.succ_ne_zero, Nat.add_one_ne_zero, Nat.add_one_sub_one, Nat.zero_le, Nat.or_zero, Nat.zero_or, Bool.not_true, Bool.not_false, Bool.true_and, Bool.false_and, Bool.and_true, Bool.and_false, ↓reduceIte, if_true, if_false, not_true_eq_false, not_false_eq_true, true_and, and_true, false_and, and_false, and_self, true_or, or_true, false_or, or_false, Nat.reduceEqDiff, Nat.reduceLT, Nat.reduceLeDiff, Nat.reduceAdd, Nat.reduceMul, Nat.reduceSub, Nat.add_zero, Nat.zero_add, Nat.mul_zero, Nat.zero_mul, ne_eq, Bool.not_eq_true, Bool.not_eq_false, reduceCtorEq, decide_true, decide_false, decide_eq_true_eq, decide_eq_false_iff_not, Bool.false_eq_true, if_pos, if_neg]
  | succ n ih =>
    intro k m hk hm
    obtain ⟨m, rfl⟩ : ∃ m', m = m' + 1 := ⟨m - 1, by omega⟩
    rw [f_X8_holdsDeeds_L2]
    simp only [lg_lt, l0i, l4i]
    obtain ⟨i1, i2⟩ := ih (k + 1) m (by omega) (by omega)
    by_cases hok : 0 ≤ (gB sc 8 t 1 k).toInt ∧ (gB sc 8 t 1 k).toInt ≤ 3
    · refine ⟨fun hh => ?_, fun hh => ?_⟩
      · simp (disch := omega) only [fLt_e, fBd_s, fJn_s, fNn_s, fNu_0, fNu_s, fBo_0, fBo_1, fBo_b, Nat.not_lt_zero, Nat.succ_ne_zero, Nat.add_one_ne_zero, Nat.add_one_sub_one, Nat.zero_le, Nat.or_zero, Nat.zero_or, Bool.not_true, Bool.not_false, Bool.true_and, Bool.false_and, Bool.and_true, Bool.and_false, ↓reduceIte, if_true, if_false, not_true_eq_false, not_false_eq_true, true_and, and_true, false_and, and_false, and_self, true_or, or_true, false_or, or_false, Nat.reduceEqDiff, Nat.reduceLT, Nat.reduceLeDiff, Nat.reduceAdd, Nat.reduceMul, Nat.reduceSub, Nat.add_zero, Nat.zero_add, Nat.mul_zero, Nat.zero_mul, ne_eq, Bool.not_eq_true, Bool.not_eq_false, reduceCtorEq, decide_true, decide_false, decide_eq_true_eq, decide_eq_false_iff_not, Bool.false_eq_true, i_lit, nI_add, nI_clamp, fIx_n, i_le, if_neg, if_pos, lg_lt, l0i, l4i, h]
        exact i1 (fun j h1 h2 => hh j (by omega) h2)
      · simp (disch := omega) only [fLt_e, fBd_s, fJn_s, fNn_s, fNu_0, fNu_s, fBo_0, fBo_1, fBo_b, Nat.not_lt_zero, Nat.succ_ne_zero, Nat.add_one_ne_zero, Nat.add_one_sub_one, Nat.zero_le, Nat.or_zero, Nat.zero_or, Bool.not_true, Bool.not_false, Bool.true_and, Bool.false_and, Bool.and_true, Bool.and_false, ↓reduceIte, if_true, if_false, not_true_eq_false, not_false_eq_true, true_and, and_true, false_and, and_false, and_self, true_or, or_true, false_or, or_false, Nat.reduceEqDiff, Nat.reduceLT, Nat.reduceLeDiff, Nat.reduceAdd, Nat.reduceMul, Nat.reduceSub, Nat.add_zero, Nat.zero_add, Nat.mul_zero, Nat.zero_mul, ne_eq, Bool.not_eq_true, Bool.not_eq_false, reduceCtorEq, decide_true, decide_false, decide_eq_true_eq, decide_eq_false_iff_not, Bool.false_eq_true, i_lit, nI_add, nI_clamp, fIx_n, i_le, if_neg, if_pos, lg_lt, l0i, l4i, h]
        refine i2 (fun h3 => hh (fun j h1 h2 => ?_))
        by_cases hj : j = k
        · rw [hj]; exact hok
        · exact h3 j (by omega) h2
    · refine ⟨fun hh => absurd (hh k (by omega) (by omega)) hok, fun _ => ?_⟩
      by_cases h0 : (gB sc 8 t 1 k).toInt < 0
      · simp (disch := omega) only [fLt_e, fBd_s, fJn_s, fNn_s, fNu_0, fNu_s, fBo_0, fBo_1, fBo_b, Nat.not_lt_zero, Nat.succ_ne_zero, Nat.add_one_ne_zero, Nat.add_one_sub_one, Nat.zero_le, Nat.or_zero, Nat.zero_or, Bool.not_true, Bool.not_false, Bool.true_and, Bool.false_and, Bool.and_true, Bool.and_false, ↓reduceIte, if_true, if_false, not_true_eq_false, not_false_eq_true, true_and, and_true, false_and, and_false, and_self, true_or, or_true, false_or, or_false, Nat.reduceEqDiff, Nat.reduceLT, Nat.reduceLeDiff, Nat.reduceAdd, Nat.reduceMul, Nat.reduceSub, Nat.add_zero, Nat.zero_add, Nat.mul_zero, Nat.zero_mul, ne_eq, Bool.not_eq_true, Bool.not_eq_false, reduceCtorEq, decide_true, decide_false, decide_eq_true_eq, decide_eq_false_iff_not, Bool.false_eq_true, i_lit, nI_add, nI_clamp, fIx_n, i_le, if_neg, if_pos, lg_lt, l0i, l4i, h]
      · simp (disch := omega) only [fLt_e, fBd_s, fJn_s, fNn_s, fNu_0, fNu_s, fBo_0, fBo_1, fBo_b, Nat.not_lt_zero, Nat.succ_ne_zero, Nat.add_one_ne_zero, Nat.add_one_sub_one, Nat.zero_le, Nat.or_zero, Nat.zero_or, Bool.not_true, Bool.not_false, Bool.true_and, Bool.false_and, Bool.and_true, Bool.and_false, ↓reduceIte, if_true, if_false, not_true_eq_false, not_false_eq_true, true_and, and_true, false_and, and_false, and_self, true_or, or_true, false_or, or_false, Nat.reduceEqDiff, Nat.reduceLT, Nat.reduceLeDiff, Nat.reduceAdd, Nat.reduceMul, Nat.reduceSub, Nat.add_zero, Nat.zero_add, Nat.mul_zero, Nat.zero_mul, ne_eq, Bool.not_eq_true, Bool.not_eq_false, reduceCtorEq, decide_true, decide_false, decide_eq_true_eq, decide_eq_false_iff_not, Bool.false_eq_true, i_lit, nI_add, nI_clamp, fIx_n, i_le, if_neg, if_pos, lg_lt, l0i, l4i, h]
theorem m_handC {t many : Nat} (ht : t < 4) (hm : many ≤ 12) (k9 : fSt → Option (Int32 × fSt)) : ∀ n k m, k + n = many → n < m → ((∀ j, k ≤ j → j < many → 0 ≤ (gB sm 12 0 3 (60 * t + j)).toInt ∧ (gB sm 12 0 3 (60 * t + j)).toInt ≤ 3) → f_X12_night_L75 (nI t) (nI many) k9 m (nI k) sm = k9 sm) ∧ ((¬ ∀ j, k ≤ j → j < many → 0 ≤ (gB sm 12 0 3 (60 * t + j)).toInt ∧ (gB sm 12 0 3 (60 * t + j)).toInt ≤ 3) → f_X12_night_L75 (nI t) (nI many) k9 m (nI k) sm = some (-1, sI sm 12 0 0 5)) := by
  intro n
  induction n with
  | zero =>
    intro k m hk hm
    obtain ⟨m, rfl⟩ : ∃ m', m = m' + 1 := ⟨m - 1, by omega⟩
    rw [f_X12_night_L75]
    refine ⟨fun _ => ?_, fun hh => absurd (fun j h1 h2 => by omega) hh⟩
    simp (disch := omega) only [fLt_e, fBd_s, fJn_s, fNn_s, fNu_0, fNu_s, fBo_0, fBo_1, fBo_b, i_lit, i_neg1, nI_add, pk_mul, nI_clamp, i_le, i_lt, i_eq, fIx_n, nI_mI, mI_nI, mI_lt, nI_lt_m, mI_le, nI_le_m, xI_0, xI_s, bI_0, bI_1, bI_t, bI_f, n_31, j_bit, j_one, i_and, i_or, Nat.not_lt_zero, Nat.succ_ne_zero, Nat.add_one_ne_zero, Nat.add_one_sub_one, Nat.zero_le, Nat.or_zero, Nat.zero_or, Bool.not_true, Bool.not_false, Bool.true_and, Bool.false_and, Bool.and_true, Bool.and_false, ↓reduceIte, if_true, if_false, not_true_eq_false, not_false_eq_true, true_and, and_true, false_and, and_false, and_self, true_or, or_true, false_or, or_false, Nat.reduceEqDiff, Nat.reduceLT, Nat.reduceLeDiff, Nat.reduceAdd, Nat.reduceMul, Nat.reduceSub, Nat.add_zero, Nat.zero_add, Nat.mul_zero, Nat.zero_mul, ne_eq, Bool.not_eq_true, Bool.not_eq_false, reduceCtorEq, decide_true, decide_false, decide_eq_true_eq, decide_eq_false_iff_not, Bool.false_eq_true, if_pos, if_neg]
  | succ n ih =>
    intro k m hk hm
    obtain ⟨m, rfl⟩ : ∃ m', m = m' + 1 := ⟨m - 1, by omega⟩
    rw [f_X12_night_L75]
    unfold f_X12_numberOf
    obtain ⟨i1, i2⟩ := ih (k + 1) m (by omega) (by omega)
    by_cases hok : 0 ≤ (gB sm 12 0 3 (60 * t + k)).toInt ∧ (gB sm 12 0 3 (60 * t + k)).toInt ≤ 3
    · have hin := inB_t.mpr hok
      refine ⟨fun hh => ?_, fun hh => ?_⟩
      · simp (disch := omega) only [fLt_e, fBd_s, fJn_s, fNn_s, fNu_0, fNu_s, fBo_0, fBo_1, fBo_b, i_lit, i_neg1, nI_add, pk_mul, nI_clamp, i_le, i_lt, i_eq, fIx_n, nI_mI, mI_nI, mI_lt, nI_lt_m, mI_le, nI_le_m, xI_0, xI_s, bI_0, bI_1, bI_t, bI_f, n_31, j_bit, j_one, i_and, i_or, Nat.not_lt_zero, Nat.succ_ne_zero, Nat.add_one_ne_zero, Nat.add_one_sub_one, Nat.zero_le, Nat.or_zero, Nat.zero_or, Bool.not_true, Bool.not_false, Bool.true_and, Bool.false_and, Bool.and_true, Bool.and_false, ↓reduceIte, if_true, if_false, not_true_eq_false, not_false_eq_true, true_and, and_true, false_and, and_false, and_self, true_or, or_true, false_or, or_false, Nat.reduceEqDiff, Nat.reduceLT, Nat.reduceLeDiff, Nat.reduceAdd, Nat.reduceMul, Nat.reduceSub, Nat.add_zero, Nat.zero_add, Nat.mul_zero, Nat.zero_mul, ne_eq, Bool.not_eq_true, Bool.not_eq_false, reduceCtorEq, decide_true, decide_false, decide_eq_true_eq, decide_eq_false_iff_not, Bool.false_eq_true, if_pos, if_neg, m_isIn, l0i, l3i, hin]
        exact i1 (fun j h1 h2 => hh j (by omega) h2)
      · simp (disch := omega) only [fLt_e, fBd_s, fJn_s, fNn_s, fNu_0, fNu_s, fBo_0, fBo_1, fBo_b, i_lit, i_neg1, nI_add, pk_mul, nI_clamp, i_le, i_lt, i_eq, fIx_n, nI_mI, mI_nI, mI_lt, nI_lt_m, mI_le, nI_le_m, xI_0, xI_s, bI_0, bI_1, bI_t, bI_f, n_31, j_bit, j_one, i_and, i_or, Nat.not_lt_zero, Nat.succ_ne_zero, Nat.add_one_ne_zero, Nat.add_one_sub_one, Nat.zero_le, Nat.or_zero, Nat.zero_or, Bool.not_true, Bool.not_false, Bool.true_and, Bool.false_and, Bool.and_true, Bool.and_false, ↓reduceIte, if_true, if_false, not_true_eq_false, not_false_eq_true, true_and, and_true, false_and, and_false, and_self, true_or, or_true, false_or, or_false, Nat.reduceEqDiff, Nat.reduceLT, Nat.reduceLeDiff, Nat.reduceAdd, Nat.reduceMul, Nat.reduceSub, Nat.add_zero, Nat.zero_add, Nat.mul_zero, Nat.zero_mul, ne_eq, Bool.not_eq_true, Bool.not_eq_false, reduceCtorEq, decide_true, decide_false, decide_eq_true_eq, decide_eq_false_iff_not, Bool.false_eq_true, if_pos, if_neg, m_isIn, l0i, l3i, hin]
        refine i2 (fun h3 => hh (fun j h1 h2 => ?_))
        by_cases hj : j = k
        · rw [hj]; exact hok
        · exact h3 j (by omega) h2
    · have hin := inB_f.mpr hok
      refine ⟨fun hh => absurd (hh k (by omega) (by omega)) hok, fun _ => ?_⟩
      simp (disch := omega) only [fLt_e, fBd_s, fJn_s, fNn_s, fNu_0, fNu_s, fBo_0, fBo_1, fBo_b, i_lit, i_neg1, nI_add, pk_mul, nI_clamp, i_le, i_lt, i_eq, fIx_n, nI_mI, mI_nI, mI_lt, nI_lt_m, mI_le, nI_le_m, xI_0, xI_s, bI_0, bI_1, bI_t, bI_f, n_31, j_bit, j_one, i_and, i_or, Nat.not_lt_zero, Nat.succ_ne_zero, Nat.add_one_ne_zero, Nat.add_one_sub_one, Nat.zero_le, Nat.or_zero, Nat.zero_or, Bool.not_true, Bool.not_false, Bool.true_and, Bool.false_and, Bool.and_true, Bool.and_false, ↓reduceIte, if_true, if_false, not_true_eq_false, not_false_eq_true, true_and, and_true, false_and, and_false, and_self, true_or, or_true, false_or, or_false, Nat.reduceEqDiff, Nat.reduceLT, Nat.reduceLeDiff, Nat.reduceAdd, Nat.reduceMul, Nat.reduceSub, Nat.add_zero, Nat.zero_add, Nat.mul_zero, Nat.zero_mul, ne_eq, Bool.not_eq_true, Bool.not_eq_false, reduceCtorEq, decide_true, decide_false, decide_eq_true_eq, decide_eq_false_iff_not, Bool.false_eq_true, if_pos, if_neg, m_isIn, l0i, l3i, hin, f_X12_refuse]
end
theorem m_isTray (a : Int32) (sm : fSt) : f_X12_isTray a sm = some (bI (inB a.toInt 0 3), sm) := by
  unfold f_X12_isTray
  rw [m_isIn_c, l0i]
  simp only [fBd_s, fBo_b]
  rfl
