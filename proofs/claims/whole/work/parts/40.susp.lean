/-! layer 2: the call suspects -/
def zan (f : Nat → Nat) (se x : Nat) : Nat → Nat
  | 0 => x
  | n + 1 => if se.testBit n then zan f se x n &&& f n else zan f se x n
theorem zan_0 (f : Nat → Nat) (se x : Nat) : zan f se x 0 = x := rfl
theorem zan_s (f : Nat → Nat) (se x n : Nat) : zan f se x (n + 1) = if se.testBit n then zan f se x n &&& f n else zan f se x n := rfl
theorem zan_bit (f : Nat → Nat) (se x b : Nat) : ∀ n, (zan f se x n).testBit b = true ↔ x.testBit b = true ∧ ∀ k, k < n → se.testBit k = true → (f k).testBit b = true := by
  intro n
  induction n with
  | zero => simp [zan_0]
  | succ n ih =>
    rw [zan_s]
    by_cases h : se.testBit n = true
    · rw [if_pos h, Nat.testBit_and, Bool.and_eq_true, ih]
      constructor
      · rintro ⟨⟨h1, h2⟩, h3⟩
        refine ⟨h1, fun k hk hs => ?_⟩
        by_cases hkn : k = n
        · rw [hkn]; exact h3
        · exact h2 k (by omega) hs
      · rintro ⟨h1, h2⟩
        exact ⟨⟨h1, fun k hk hs => h2 k (by omega) hs⟩, h2 n (by omega) h⟩
    · rw [if_neg h, ih]
      constructor
      · rintro ⟨h1, h2⟩
        refine ⟨h1, fun k hk hs => ?_⟩
        by_cases hkn : k = n
        · rw [hkn] at hs; exact absurd hs h
        · exact h2 k (by omega) hs
      · rintro ⟨h1, h2⟩
        exact ⟨h1, fun k hk hs => h2 k (by omega) hs⟩
theorem zan_le (f : Nat → Nat) (se x : Nat) : ∀ n, zan f se x n ≤ x := by
  intro n
  induction n with
  | zero => exact Nat.le_refl _
  | succ n ih =>
    rw [zan_s]
    split
    · exact Nat.le_trans Nat.and_le_left ih
    · exact ih
def zsu (G : Nat → Nat) (e x : Nat) : Nat → Nat
  | 0 => x
  | i + 1 => if G (138 + 4 * i) = e + 1 then zan (fun s => G (37 + s)) (G (137 + 4 * i)) (zsu G e x i) (G 2) else zsu G e x i
theorem zsu_s (G : Nat → Nat) (e x i : Nat) : zsu G e x (i + 1) = if G (138 + 4 * i) = e + 1 then zan (fun s => G (37 + s)) (G (137 + 4 * i)) (zsu G e x i) (G 2) else zsu G e x i := rfl
theorem zsu_le (G : Nat → Nat) (e x : Nat) : ∀ n, zsu G e x n ≤ x := by
  intro n
  induction n with
  | zero => exact Nat.le_refl _
  | succ n ih =>
    rw [zsu_s]
    split
    · exact Nat.le_trans (zan_le _ _ _ _) ih
    · exact ih
theorem zsu_bit (G : Nat → Nat) (e x b : Nat) : ∀ n, (zsu G e x n).testBit b = true ↔ x.testBit b = true ∧ ∀ i, i < n → ∀ k, k < G 2 → (gsw G e i).testBit k = true → (G (37 + k)).testBit b = true := by
  intro n
  induction n with
  | zero => simp [zsu]
  | succ n ih =>
    have hg : gsw G e n = if G (138 + 4 * n) = e + 1 then G (137 + 4 * n) else 0 := rfl
    rw [zsu_s]
    by_cases h : G (138 + 4 * n) = e + 1
    · rw [if_pos h] at hg
      rw [if_pos h, zan_bit, ih]
      constructor
      · rintro ⟨⟨h1, h2⟩, h3⟩
        refine ⟨h1, fun i hi k hk hs => ?_⟩
        by_cases hin : i = n
        · rw [hin, hg] at hs; exact h3 k hk hs
        · exact h2 i (by omega) k hk hs
      · rintro ⟨h1, h2⟩
        exact ⟨⟨h1, fun i hi k hk hs => h2 i (by omega) k hk hs⟩, fun k hk hs => h2 n (by omega) k hk (by rw [hg]; exact hs)⟩
    · rw [if_neg h] at hg
      rw [if_neg h, ih]
      constructor
      · rintro ⟨h1, h2⟩
        refine ⟨h1, fun i hi k hk hs => ?_⟩
        by_cases hin : i = n
        · rw [hin, hg, Nat.zero_testBit] at hs; exact absurd hs (by decide)
        · exact h2 i (by omega) k hk hs
      · rintro ⟨h1, h2⟩
        exact ⟨h1, fun i hi k hk hs => h2 i (by omega) k hk hs⟩
theorem zsu_eq (G : Nat → Nat) (e x n : Nat) : zsu G e x n = zan (fun s => G (37 + s)) (zor (gsw G e) n) x (G 2) := by
  apply Nat.eq_of_testBit_eq
  intro b
  have h1 := zsu_bit G e x b n
  have h2 := zan_bit (fun s => G (37 + s)) (zor (gsw G e) n) x b (G 2)
  have h : (zsu G e x n).testBit b = true ↔ (zan (fun s => G (37 + s)) (zor (gsw G e) n) x (G 2)).testBit b = true := by
    rw [h1, h2]
    constructor
    · rintro ⟨a1, a2⟩
      refine ⟨a1, fun k hk hs => ?_⟩
      obtain ⟨i, hi, hb⟩ := (zor_bit _ _ _).mp hs
      exact a2 i hi k hk hb
    · rintro ⟨a1, a2⟩
      exact ⟨a1, fun i hi k hk hs => a2 k hk ((zor_bit _ _ _).mpr ⟨i, hi, hs⟩)⟩
  cases h3 : (zsu G e x n).testBit b <;> cases h4 : (zan (fun s => G (37 + s)) (zor (gsw G e) n) x (G 2)).testBit b <;> simp_all
def zany (f : Nat → Nat) (e : Nat) : Nat → Nat
  | 0 => 0
  | i + 1 => if f i = e then 1 else zany f e i
theorem zany_s (f : Nat → Nat) (e i : Nat) : zany f e (i + 1) = if f i = e then 1 else zany f e i := rfl
theorem zany_le (f : Nat → Nat) (e : Nat) : ∀ n, zany f e n ≤ 1 := by
  intro n
  induction n with
  | zero => exact Nat.zero_le _
  | succ n ih =>
    rw [zany_s]
    split <;> omega
theorem zany_0 {G : Nat → Nat} (w : gWf G) (e : Nat) : ∀ n, n ≤ G 6 → (zany (fun i => G (138 + 4 * i)) (e + 1) n = 0 ↔ zor (gsw G e) n = 0) := by
  intro n
  induction n with
  | zero => intro _; exact ⟨fun _ => rfl, fun _ => rfl⟩
  | succ n ih =>
    intro hn
    have hg : gsw G e n = if G (138 + 4 * n) = e + 1 then G (137 + 4 * n) else 0 := rfl
    rw [zany_s, zor_s, hg]
    by_cases h : G (138 + 4 * n) = e + 1
    · rw [if_pos h, if_pos h]
      have h0 := (w.2.2.2.2.2 n (by omega)).1
      constructor
      · intro hh; omega
      · intro hh
        have := Nat.right_le_or (n := zor (gsw G e) n) (m := G (137 + 4 * n))
        omega
    · rw [if_neg h, if_neg h, Nat.or_zero]
      exact ih (by omega)
theorem nI_sub {a b : Nat} (h : b ≤ a) : nI a - nI b = nI (a - b) := by
  obtain ⟨c, rfl⟩ : ∃ c, a = c + b := ⟨a - b, by omega⟩
  rw [← nI_add, Nat.add_sub_cancel]
  exact Int32.add_sub_cancel _ _
section
variable {sc sm : fSt} {q : Nat} {G : Nat → Nat}
theorem x_rolesInEach (X : rStg sc q G) (w : gWf G) {se : Nat} (hse : se < 2 ^ 31) : f_X7_rolesInEach q (nI se) sc = some (nI (zan (fun s => G (37 + s)) se (2 ^ G 0 - 1) (G 2)), sc) := by
  have w1 := w.1
  have hp : 1 ≤ 2 ^ G 0 := Nat.one_le_two_pow
  have hn : gI sc 7 q 2 = nI (G 2) := X.1.2.2.1
  have h0 : gI sc 7 q 0 = nI (G 0) := X.1.1
  obtain ⟨m, e⟩ := lp_run (fun m (t : Int32 × Int32) => f_X7_rolesInEach_L11 q (nI se) m t.1 t.2 sc) (fun t => (nI (zan (fun s => G (37 + s)) se (2 ^ G 0 - 1) t), nI t)) (G 2) (fun m t ht => by
    show f_X7_rolesInEach_L11 q (nI se) (m + 1) (nI (zan (fun s => G (37 + s)) se (2 ^ G 0 - 1) t)) (nI t) sc = f_X7_rolesInEach_L11 q (nI se) m (nI (zan (fun s => G (37 + s)) se (2 ^ G 0 - 1) (t + 1))) (nI (t + 1)) sc
    have hr := (X.2.2.1 t ht).2.1
    rw [f_X7_rolesInEach_L11, zan_s]
    by_cases hb : se.testBit t = true
    · rw [if_pos hb]
      simp (disch := omega) only [fLt_e, fBd_s, fJn_s, fNn_s, fNu_0, fNu_s, fBo_0, fBo_1, fBo_b, i_lit, i_neg1, nI_add, pk_mul, nI_clamp, i_le, i_lt, i_eq, fIx_n, nI_mI, mI_nI, mI_lt, nI_lt_m, mI_le, nI_le_m, xI_0, xI_s, bI_0, bI_1, bI_t, bI_f, n_31, j_bit, j_one, i_and, i_or, Nat.not_lt_zero, Nat.succ_ne_zero, Nat.add_one_ne_zero, Nat.add_one_sub_one, Nat.zero_le, Nat.or_zero, Nat.zero_or, Bool.not_true, Bool.not_false, Bool.true_and, Bool.false_and, Bool.and_true, Bool.and_false, ↓reduceIte, if_true, if_false, not_true_eq_false, not_false_eq_true, true_and, and_true, false_and, and_false, and_self, true_or, or_true, false_or, or_false, Nat.reduceEqDiff, Nat.reduceLT, Nat.reduceLeDiff, Nat.reduceAdd, Nat.reduceMul, Nat.reduceSub, Nat.add_zero, Nat.zero_add, Nat.mul_zero, Nat.zero_mul, ne_eq, Bool.not_eq_true, Bool.not_eq_false, reduceCtorEq, decide_true, decide_false, decide_eq_true_eq, decide_eq_false_iff_not, Bool.false_eq_true, if_pos, if_neg, hn, hr, hb]
    · rw [if_neg hb]
      have hb : se.testBit t = false := by simpa using hb
      simp (disch := omega) only [fLt_e, fBd_s, fJn_s, fNn_s, fNu_0, fNu_s, fBo_0, fBo_1, fBo_b, i_lit, i_neg1, nI_add, pk_mul, nI_clamp, i_le, i_lt, i_eq, fIx_n, nI_mI, mI_nI, mI_lt, nI_lt_m, mI_le, nI_le_m, xI_0, xI_s, bI_0, bI_1, bI_t, bI_f, n_31, j_bit, j_one, i_and, i_or, Nat.not_lt_zero, Nat.succ_ne_zero, Nat.add_one_ne_zero, Nat.add_one_sub_one, Nat.zero_le, Nat.or_zero, Nat.zero_or, Bool.not_true, Bool.not_false, Bool.true_and, Bool.false_and, Bool.and_true, Bool.and_false, ↓reduceIte, if_true, if_false, not_true_eq_false, not_false_eq_true, true_and, and_true, false_and, and_false, and_self, true_or, or_true, false_or, or_false, Nat.reduceEqDiff, Nat.reduceLT, Nat.reduceLeDiff, Nat.reduceAdd, Nat.reduceMul, Nat.reduceSub, Nat.add_zero, Nat.zero_add, Nat.mul_zero, Nat.zero_mul, ne_eq, Bool.not_eq_true, Bool.not_eq_false, reduceCtorEq, decide_true, decide_false, decide_eq_true_eq, decide_eq_false_iff_not, Bool.false_eq_true, if_pos, if_neg, hn, hr, hb]) (fF_lt (by omega))
  unfold f_X7_rolesInEach
  rw [h0]
  simp (disch := omega) only [fLt_e, fBd_s, fJn_s, fNn_s, fNu_0, fNu_s, fBo_0, fBo_1, fBo_b, i_lit, i_neg1, nI_add, pk_mul, nI_clamp, i_le, i_lt, i_eq, fIx_n, nI_mI, mI_nI, mI_lt, nI_lt_m, mI_le, nI_le_m, xI_0, xI_s, bI_0, bI_1, bI_t, bI_f, n_31, j_bit, j_one, i_and, i_or, Nat.not_lt_zero, Nat.succ_ne_zero, Nat.add_one_ne_zero, Nat.add_one_sub_one, Nat.zero_le, Nat.or_zero, Nat.zero_or, Bool.not_true, Bool.not_false, Bool.true_and, Bool.false_and, Bool.and_true, Bool.and_false, ↓reduceIte, if_true, if_false, not_true_eq_false, not_false_eq_true, true_and, and_true, false_and, and_false, and_self, true_or, or_true, false_or, or_false, Nat.reduceEqDiff, Nat.reduceLT, Nat.reduceLeDiff, Nat.reduceAdd, Nat.reduceMul, Nat.reduceSub, Nat.add_zero, Nat.zero_add, Nat.mul_zero, Nat.zero_mul, ne_eq, Bool.not_eq_true, Bool.not_eq_false, reduceCtorEq, decide_true, decide_false, decide_eq_true_eq, decide_eq_false_iff_not, Bool.false_eq_true, if_pos, if_neg, nI_sub]
  refine Eq.trans e ?_
  show f_X7_rolesInEach_L11 q (nI se) (m + 1) (nI (zan (fun s => G (37 + s)) se (2 ^ G 0 - 1) (G 2))) (nI (G 2)) sc = _
  rw [f_X7_rolesInEach_L11]
  simp (disch := omega) only [fLt_e, fBd_s, fJn_s, fNn_s, fNu_0, fNu_s, fBo_0, fBo_1, fBo_b, i_lit, i_neg1, nI_add, pk_mul, nI_clamp, i_le, i_lt, i_eq, fIx_n, nI_mI, mI_nI, mI_lt, nI_lt_m, mI_le, nI_le_m, xI_0, xI_s, bI_0, bI_1, bI_t, bI_f, n_31, j_bit, j_one, i_and, i_or, Nat.not_lt_zero, Nat.succ_ne_zero, Nat.add_one_ne_zero, Nat.add_one_sub_one, Nat.zero_le, Nat.or_zero, Nat.zero_or, Bool.not_true, Bool.not_false, Bool.true_and, Bool.false_and, Bool.and_true, Bool.and_false, ↓reduceIte, if_true, if_false, not_true_eq_false, not_false_eq_true, true_and, and_true, false_and, and_false, and_self, true_or, or_true, false_or, or_false, Nat.reduceEqDiff, Nat.reduceLT, Nat.reduceLeDiff, Nat.reduceAdd, Nat.reduceMul, Nat.reduceSub, Nat.add_zero, Nat.zero_add, Nat.mul_zero, Nat.zero_mul, ne_eq, Bool.not_eq_true, Bool.not_eq_false, reduceCtorEq, decide_true, decide_false, decide_eq_true_eq, decide_eq_false_iff_not, Bool.false_eq_true, if_pos, if_neg, hn]
theorem m_suL83 (B : rBlk (gA sm 12 0 5) G) (w : gWf G) {i : Nat} (hi : i < G 6) (x : Nat) (x27 : Int32) (j25 : Int32 → Int32 → fSt → Option (Int32 × fSt)) : f_X12_suspects_L83 (nI i) j25 x27 fF (nI x) (nI 0) sm = j25 (nI (zan (fun s => G (37 + s)) (G (137 + 4 * i)) x (G 2))) x27 sm := by
  have w1 := w.1
  have w2 := w.2.1
  have hb1 := (w.2.2.2.2.2 i hi).2.1
  have hs := (B.2.2.2.2.1 i hi).1
  have hh : ∀ s, s < 12 → f_X12_has (nI (G (137 + 4 * i))) (nI s) sm = some (bI ((G (137 + 4 * i)).testBit s), sm) := fun s hs => m_has (by omega) (by omega) sm
  obtain ⟨m, e⟩ := lp_run (fun m (t : Int32 × Int32) => f_X12_suspects_L83 (nI i) j25 x27 m t.1 t.2 sm) (fun t => (nI (zan (fun s => G (37 + s)) (G (137 + 4 * i)) x t), nI t)) (G 2) (fun m t ht => by
    show f_X12_suspects_L83 (nI i) j25 x27 (m + 1) (nI (zan (fun s => G (37 + s)) (G (137 + 4 * i)) x t)) (nI t) sm = f_X12_suspects_L83 (nI i) j25 x27 m (nI (zan (fun s => G (37 + s)) (G (137 + 4 * i)) x (t + 1))) (nI (t + 1)) sm
    have hr := (B.2.2.1 t ht).2.1
    rw [f_X12_suspects_L83, zan_s]
    by_cases hb : (G (137 + 4 * i)).testBit t = true
    · rw [if_pos hb]
      simp (disch := omega) only [fLt_e, fBd_s, fJn_s, fNn_s, fNu_0, fNu_s, fBo_0, fBo_1, fBo_b, i_lit, i_neg1, nI_add, pk_mul, nI_clamp, i_le, i_lt, i_eq, fIx_n, nI_mI, mI_nI, mI_lt, nI_lt_m, mI_le, nI_le_m, xI_0, xI_s, bI_0, bI_1, bI_t, bI_f, n_31, j_bit, j_one, i_and, i_or, Nat.not_lt_zero, Nat.succ_ne_zero, Nat.add_one_ne_zero, Nat.add_one_sub_one, Nat.zero_le, Nat.or_zero, Nat.zero_or, Bool.not_true, Bool.not_false, Bool.true_and, Bool.false_and, Bool.and_true, Bool.and_false, ↓reduceIte, if_true, if_false, not_true_eq_false, not_false_eq_true, true_and, and_true, false_and, and_false, and_self, true_or, or_true, false_or, or_false, Nat.reduceEqDiff, Nat.reduceLT, Nat.reduceLeDiff, Nat.reduceAdd, Nat.reduceMul, Nat.reduceSub, Nat.add_zero, Nat.zero_add, Nat.mul_zero, Nat.zero_mul, ne_eq, Bool.not_eq_true, Bool.not_eq_false, reduceCtorEq, decide_true, decide_false, decide_eq_true_eq, decide_eq_false_iff_not, Bool.false_eq_true, if_pos, if_neg, B.1.2.2.1, hs, hh, hr, hb]
    · rw [if_neg hb]
      have hb : (G (137 + 4 * i)).testBit t = false := by simpa using hb
      simp (disch := omega) only [fLt_e, fBd_s, fJn_s, fNn_s, fNu_0, fNu_s, fBo_0, fBo_1, fBo_b, i_lit, i_neg1, nI_add, pk_mul, nI_clamp, i_le, i_lt, i_eq, fIx_n, nI_mI, mI_nI, mI_lt, nI_lt_m, mI_le, nI_le_m, xI_0, xI_s, bI_0, bI_1, bI_t, bI_f, n_31, j_bit, j_one, i_and, i_or, Nat.not_lt_zero, Nat.succ_ne_zero, Nat.add_one_ne_zero, Nat.add_one_sub_one, Nat.zero_le, Nat.or_zero, Nat.zero_or, Bool.not_true, Bool.not_false, Bool.true_and, Bool.false_and, Bool.and_true, Bool.and_false, ↓reduceIte, if_true, if_false, not_true_eq_false, not_false_eq_true, true_and, and_true, false_and, and_false, and_self, true_or, or_true, false_or, or_false, Nat.reduceEqDiff, Nat.reduceLT, Nat.reduceLeDiff, Nat.reduceAdd, Nat.reduceMul, Nat.reduceSub, Nat.add_zero, Nat.zero_add, Nat.mul_zero, Nat.zero_mul, ne_eq, Bool.not_eq_true, Bool.not_eq_false, reduceCtorEq, decide_true, decide_false, decide_eq_true_eq, decide_eq_false_iff_not, Bool.false_eq_true, if_pos, if_neg, B.1.2.2.1, hs, hh, hr, hb]) (fF_lt (by omega))
  refine Eq.trans e ?_
  show f_X12_suspects_L83 (nI i) j25 x27 (m + 1) (nI (zan (fun s => G (37 + s)) (G (137 + 4 * i)) x (G 2))) (nI (G 2)) sm = _
  rw [f_X12_suspects_L83]
  simp (disch := omega) only [fLt_e, fBd_s, fJn_s, fNn_s, fNu_0, fNu_s, fBo_0, fBo_1, fBo_b, i_lit, i_neg1, nI_add, pk_mul, nI_clamp, i_le, i_lt, i_eq, fIx_n, nI_mI, mI_nI, mI_lt, nI_lt_m, mI_le, nI_le_m, xI_0, xI_s, bI_0, bI_1, bI_t, bI_f, n_31, j_bit, j_one, i_and, i_or, Nat.not_lt_zero, Nat.succ_ne_zero, Nat.add_one_ne_zero, Nat.add_one_sub_one, Nat.zero_le, Nat.or_zero, Nat.zero_or, Bool.not_true, Bool.not_false, Bool.true_and, Bool.false_and, Bool.and_true, Bool.and_false, ↓reduceIte, if_true, if_false, not_true_eq_false, not_false_eq_true, true_and, and_true, false_and, and_false, and_self, true_or, or_true, false_or, or_false, Nat.reduceEqDiff, Nat.reduceLT, Nat.reduceLeDiff, Nat.reduceAdd, Nat.reduceMul, Nat.reduceSub, Nat.add_zero, Nat.zero_add, Nat.mul_zero, Nat.zero_mul, ne_eq, Bool.not_eq_true, Bool.not_eq_false, reduceCtorEq, decide_true, decide_false, decide_eq_true_eq, decide_eq_false_iff_not, Bool.false_eq_true, if_pos, if_neg, B.1.2.2.1]
theorem m_suL44 (B : rBlk (gA sm 12 0 5) G) (w : gWf G) {e : Nat} (he : e < 9) (x : Nat) (k11 : Int32 → Int32 → fSt → Option (Int32 × fSt)) : f_X12_suspects_L44 (nI e) k11 fF (nI x) (nI 0) (nI 0) sm = k11 (nI (zsu G e x (G 6))) (nI (zany (fun i => G (138 + 4 * i)) (e + 1) (G 6))) sm := by
  have w2 := w.2.1
  obtain ⟨m, er⟩ := lp_run (fun m (t : Int32 × Int32 × Int32) => f_X12_suspects_L44 (nI e) k11 m t.1 t.2.1 t.2.2 sm) (fun t => (nI (zsu G e x t), nI (zany (fun i => G (138 + 4 * i)) (e + 1) t), nI t)) (G 6) (fun m t ht => by
    show f_X12_suspects_L44 (nI e) k11 (m + 1) (nI (zsu G e x t)) (nI (zany (fun i => G (138 + 4 * i)) (e + 1) t)) (nI t) sm = f_X12_suspects_L44 (nI e) k11 m (nI (zsu G e x (t + 1))) (nI (zany (fun i => G (138 + 4 * i)) (e + 1) (t + 1))) (nI (t + 1)) sm
    have hq0 := (B.2.2.2.2.1 t ht).2.1
    rw [show 138 + 4 * t = 137 + 4 * t + 1 by omega] at hq0
    have hn := (w.2.2.2.2.2 t ht).2.2.1
    rw [f_X12_suspects_L44, zsu_s, zany_s]
    by_cases hq : G (138 + 4 * t) = e + 1
    · rw [if_pos hq, if_pos hq]
      rw [show 138 + 4 * t = 137 + 4 * t + 1 by omega] at hq
      simp (disch := omega) only [fLt_e, fBd_s, fJn_s, fNn_s, fNu_0, fNu_s, fBo_0, fBo_1, fBo_b, i_lit, i_neg1, nI_add, pk_mul, nI_clamp, i_le, i_lt, i_eq, fIx_n, nI_mI, mI_nI, mI_lt, nI_lt_m, mI_le, nI_le_m, xI_0, xI_s, bI_0, bI_1, bI_t, bI_f, n_31, j_bit, j_one, i_and, i_or, Nat.not_lt_zero, Nat.succ_ne_zero, Nat.add_one_ne_zero, Nat.add_one_sub_one, Nat.zero_le, Nat.or_zero, Nat.zero_or, Bool.not_true, Bool.not_false, Bool.true_and, Bool.false_and, Bool.and_true, Bool.and_false, ↓reduceIte, if_true, if_false, not_true_eq_false, not_false_eq_true, true_and, and_true, false_and, and_false, and_self, true_or, or_true, false_or, or_false, Nat.reduceEqDiff, Nat.reduceLT, Nat.reduceLeDiff, Nat.reduceAdd, Nat.reduceMul, Nat.reduceSub, Nat.add_zero, Nat.zero_add, Nat.mul_zero, Nat.zero_mul, ne_eq, Bool.not_eq_true, Bool.not_eq_false, reduceCtorEq, decide_true, decide_false, decide_eq_true_eq, decide_eq_false_iff_not, Bool.false_eq_true, if_pos, if_neg, B.1.2.2.2.2.2.2, hq0, hq, m_suL83 B w ht]
    · have hx : ¬ xI (G (137 + 4 * t + 1)) = nI e := by
        rw [← xI_s, xI_eq (by rw [show 137 + 4 * t + 1 = 138 + 4 * t by omega]; omega) (by omega)]
        rw [show 137 + 4 * t + 1 = 138 + 4 * t by omega]
        exact hq
      rw [if_neg hq, if_neg hq]
      simp (disch := omega) only [fLt_e, fBd_s, fJn_s, fNn_s, fNu_0, fNu_s, fBo_0, fBo_1, fBo_b, i_lit, i_neg1, nI_add, pk_mul, nI_clamp, i_le, i_lt, i_eq, fIx_n, nI_mI, mI_nI, mI_lt, nI_lt_m, mI_le, nI_le_m, xI_0, xI_s, bI_0, bI_1, bI_t, bI_f, n_31, j_bit, j_one, i_and, i_or, Nat.not_lt_zero, Nat.succ_ne_zero, Nat.add_one_ne_zero, Nat.add_one_sub_one, Nat.zero_le, Nat.or_zero, Nat.zero_or, Bool.not_true, Bool.not_false, Bool.true_and, Bool.false_and, Bool.and_true, Bool.and_false, ↓reduceIte, if_true, if_false, not_true_eq_false, not_false_eq_true, true_and, and_true, false_and, and_false, and_self, true_or, or_true, false_or, or_false, Nat.reduceEqDiff, Nat.reduceLT, Nat.reduceLeDiff, Nat.reduceAdd, Nat.reduceMul, Nat.reduceSub, Nat.add_zero, Nat.zero_add, Nat.mul_zero, Nat.zero_mul, ne_eq, Bool.not_eq_true, Bool.not_eq_false, reduceCtorEq, decide_true, decide_false, decide_eq_true_eq, decide_eq_false_iff_not, Bool.false_eq_true, if_pos, if_neg, B.1.2.2.2.2.2.2, hq0, hx]) (fF_lt (by omega))
  refine Eq.trans er ?_
  show f_X12_suspects_L44 (nI e) k11 (m + 1) (nI (zsu G e x (G 6))) (nI (zany (fun i => G (138 + 4 * i)) (e + 1) (G 6))) (nI (G 6)) sm = _
  rw [f_X12_suspects_L44]
  simp (disch := omega) only [fLt_e, fBd_s, fJn_s, fNn_s, fNu_0, fNu_s, fBo_0, fBo_1, fBo_b, i_lit, i_neg1, nI_add, pk_mul, nI_clamp, i_le, i_lt, i_eq, fIx_n, nI_mI, mI_nI, mI_lt, nI_lt_m, mI_le, nI_le_m, xI_0, xI_s, bI_0, bI_1, bI_t, bI_f, n_31, j_bit, j_one, i_and, i_or, Nat.not_lt_zero, Nat.succ_ne_zero, Nat.add_one_ne_zero, Nat.add_one_sub_one, Nat.zero_le, Nat.or_zero, Nat.zero_or, Bool.not_true, Bool.not_false, Bool.true_and, Bool.false_and, Bool.and_true, Bool.and_false, ↓reduceIte, if_true, if_false, not_true_eq_false, not_false_eq_true, true_and, and_true, false_and, and_false, and_self, true_or, or_true, false_or, or_false, Nat.reduceEqDiff, Nat.reduceLT, Nat.reduceLeDiff, Nat.reduceAdd, Nat.reduceMul, Nat.reduceSub, Nat.add_zero, Nat.zero_add, Nat.mul_zero, Nat.zero_mul, ne_eq, Bool.not_eq_true, Bool.not_eq_false, reduceCtorEq, decide_true, decide_false, decide_eq_true_eq, decide_eq_false_iff_not, Bool.false_eq_true, if_pos, if_neg, B.1.2.2.2.2.2.2]
end
theorem call_suspects (a : Int32) : CALL (f_X11_suspects a) (f_X12_suspects a) := by
  intro sc sm ⟨hA, H⟩
  have H := pro_x H
  have z := pro_0 sm
  unfold f_X11_suspects f_X12_suspects
  simp only [fLt_e, pro_eq]
  generalize pro sm = s2 at *
  obtain ⟨q, G, w, X, B, -⟩ := RX_cur H
  have w1 := w.1
  have w2 := w.2.1
  have i3 : ∀ st, f_X11_isIn a (nI 0) (nI 8) st = some (bI (inB a.toInt 0 8), st) := fun st => x_isIn a 0 8 st
  have i4 : ∀ st, f_X12_isIn a.toInt64 0 8 st = some (bI (inB a.toInt 0 8), st) := fun st => m_isIn_c a 0 8 st
  by_cases hb : 0 ≤ a.toInt ∧ a.toInt < 9
  · rw [inB_t.mpr (by omega)] at i3 i4
    obtain ⟨e, he, rfl, -⟩ := nI_ofInt (n := 9) hb.1 (by omega)
    have hp : 1 ≤ 2 ^ G 0 := Nat.one_le_two_pow
    have hp2 : 2 ^ G 0 ≤ 2 ^ 6 := Nat.pow_le_pow_right (by omega) (by omega)
    have hse : zor (gsw G e) (G 6) < 2 ^ 12 := zor_lt (fun k hk => by
      have := (w.2.2.2.2.2 k hk).2.1
      unfold gsw
      split <;> omega)
    have hz := zany_0 w e (G 6) (Nat.le_refl _)
    have hzl := zany_le (fun i => G (138 + 4 * i)) (e + 1) (G 6)
    have hro := x_rolesInEach X.2.1 w (se := zor (gsw G e) (G 6)) (by omega)
    rw [← zsu_eq] at hro
    have hzs := zsu_le G e (2 ^ G 0 - 1) (G 6)
    by_cases h0 : zor (gsw G e) (G 6) = 0
    · have h1 := hz.mpr h0
      simp (disch := omega) only [fLt_e, fBd_s, fJn_s, fNn_s, fNu_0, fNu_s, fBo_0, fBo_1, fBo_b, i_lit, i_neg1, nI_add, pk_mul, nI_clamp, i_le, i_lt, i_eq, fIx_n, nI_mI, mI_nI, mI_lt, nI_lt_m, mI_le, nI_le_m, xI_0, xI_s, bI_0, bI_1, bI_t, bI_f, n_31, j_bit, j_one, i_and, i_or, Nat.not_lt_zero, Nat.succ_ne_zero, Nat.add_one_ne_zero, Nat.add_one_sub_one, Nat.zero_le, Nat.or_zero, Nat.zero_or, Bool.not_true, Bool.not_false, Bool.true_and, Bool.false_and, Bool.and_true, Bool.and_false, ↓reduceIte, if_true, if_false, not_true_eq_false, not_false_eq_true, true_and, and_true, false_and, and_false, and_self, true_or, or_true, false_or, or_false, Nat.reduceEqDiff, Nat.reduceLT, Nat.reduceLeDiff, Nat.reduceAdd, Nat.reduceMul, Nat.reduceSub, Nat.add_zero, Nat.zero_add, Nat.mul_zero, Nat.zero_mul, ne_eq, Bool.not_eq_true, Bool.not_eq_false, reduceCtorEq, decide_true, decide_false, decide_eq_true_eq, decide_eq_false_iff_not, Bool.false_eq_true, if_pos, if_neg, i3, i4, nI_sub, x_seenWith X.2.2.2 w he, m_suL44 B w he, B.1.1, h0, h1, f_X11_fail, f_X12_refuse]
      exact ⟨_, _, _, rfl, rfl, fin_st H _⟩
    · have h1 : ¬ zany (fun i => G (138 + 4 * i)) (e + 1) (G 6) = 0 := fun hh => h0 (hz.mp hh)
      simp (disch := omega) only [fLt_e, fBd_s, fJn_s, fNn_s, fNu_0, fNu_s, fBo_0, fBo_1, fBo_b, i_lit, i_neg1, nI_add, pk_mul, nI_clamp, i_le, i_lt, i_eq, fIx_n, nI_mI, mI_nI, mI_lt, nI_lt_m, mI_le, nI_le_m, xI_0, xI_s, bI_0, bI_1, bI_t, bI_f, n_31, j_bit, j_one, i_and, i_or, Nat.not_lt_zero, Nat.succ_ne_zero, Nat.add_one_ne_zero, Nat.add_one_sub_one, Nat.zero_le, Nat.or_zero, Nat.zero_or, Bool.not_true, Bool.not_false, Bool.true_and, Bool.false_and, Bool.and_true, Bool.and_false, ↓reduceIte, if_true, if_false, not_true_eq_false, not_false_eq_true, true_and, and_true, false_and, and_false, and_self, true_or, or_true, false_or, or_false, Nat.reduceEqDiff, Nat.reduceLT, Nat.reduceLeDiff, Nat.reduceAdd, Nat.reduceMul, Nat.reduceSub, Nat.add_zero, Nat.zero_add, Nat.mul_zero, Nat.zero_mul, ne_eq, Bool.not_eq_true, Bool.not_eq_false, reduceCtorEq, decide_true, decide_false, decide_eq_true_eq, decide_eq_false_iff_not, Bool.false_eq_true, if_pos, if_neg, i3, i4, nI_sub, x_seenWith X.2.2.2 w he, m_suL44 B w he, B.1.1, X.1, hro, h0, h1, f_X11_answer]
      exact ⟨_, _, _, rfl, rfl, fin_0 H z⟩
  · rw [inB_f.mpr (by omega)] at i3 i4
    simp (disch := omega) only [fLt_e, fBd_s, fJn_s, fNn_s, fNu_0, fNu_s, fBo_0, fBo_1, fBo_b, i_lit, i_neg1, nI_add, pk_mul, nI_clamp, i_le, i_lt, i_eq, fIx_n, nI_mI, mI_nI, mI_lt, nI_lt_m, mI_le, nI_le_m, xI_0, xI_s, bI_0, bI_1, bI_t, bI_f, n_31, j_bit, j_one, i_and, i_or, Nat.not_lt_zero, Nat.succ_ne_zero, Nat.add_one_ne_zero, Nat.add_one_sub_one, Nat.zero_le, Nat.or_zero, Nat.zero_or, Bool.not_true, Bool.not_false, Bool.true_and, Bool.false_and, Bool.and_true, Bool.and_false, ↓reduceIte, if_true, if_false, not_true_eq_false, not_false_eq_true, true_and, and_true, false_and, and_false, and_self, true_or, or_true, false_or, or_false, Nat.reduceEqDiff, Nat.reduceLT, Nat.reduceLeDiff, Nat.reduceAdd, Nat.reduceMul, Nat.reduceSub, Nat.add_zero, Nat.zero_add, Nat.mul_zero, Nat.zero_mul, ne_eq, Bool.not_eq_true, Bool.not_eq_false, reduceCtorEq, decide_true, decide_false, decide_eq_true_eq, decide_eq_false_iff_not, Bool.false_eq_true, if_pos, if_neg, i3, i4, f_X11_fail, f_X12_refuse]
    exact ⟨_, _, _, rfl, rfl, fin_st H _⟩
