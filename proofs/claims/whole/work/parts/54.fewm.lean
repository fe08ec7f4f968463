/-! layer 2: the reference's fewest -/
section
variable {st : fSt} {P : Nat → Prop}
theorem or_4096 {a b : Nat} (ha : a < 4096) (hb : b < 4096) : a ||| b < 4096 := Nat.or_lt_two_pow (n := 12) ha hb
theorem m_fewL100 {n v : Nat} (hn : n ≤ 13) (hv : v < 4096) (h11 : ∀ x, x < 4096 → (gA st 12 0 11 x = nI 0 ∧ ¬ P x) ∨ (gA st 12 0 11 x = nI 1 ∧ P x)) {A : Nat → Int32} {a : Nat → Nat} (hA : lrel 4096 A a) (hle : ∀ k, a k ≤ 99) :
    ∃ A' a', (∀ j21 : fSt → Option (Int32 × fSt), f_X12_fewest_L100 (nI n) (nI v) j21 fF (nI 0) (sA st 12 0 14 A) = j21 (sA st 12 0 14 A')) ∧ lrel 4096 A' a' ∧ (∀ k, a' k ≤ a k) ∧ (∀ k, a' k = a k ∨ (n + 1 < a k ∧ a' k = n + 1 ∧ ∃ x, P x ∧ k = v ||| x)) ∧ (∀ x, x < 4096 → P x → a' (v ||| x) ≤ n + 1) := by
  obtain ⟨s', m, ⟨A', a', hs, p1, p2, p3, p4⟩, e⟩ := lp_ex (fun m (z : Int32 × fSt) (j21 : fSt → Option (Int32 × fSt)) => f_X12_fewest_L100 (nI n) (nI v) j21 m z.1 z.2)
    (fun t z => ∃ A' a', z = (nI t, sA st 12 0 14 A') ∧ lrel 4096 A' a' ∧ (∀ k, a' k ≤ a k) ∧ (∀ k, a' k = a k ∨ (n + 1 < a k ∧ a' k = n + 1 ∧ ∃ x, P x ∧ k = v ||| x)) ∧ (∀ x, x < t → P x → a' (v ||| x) ≤ n + 1)) 4096 (by
    rintro t z ht ⟨A', a', rfl, p1, p2, p3, p4⟩
    have hr11 : gA (sA st 12 0 14 A') 12 0 11 = gA st 12 0 11 := rfl
    have hr14 : gA (sA st 12 0 14 A') 12 0 14 = A' := rfl
    rcases h11 t ht with ⟨g1, g2⟩ | ⟨g1, g2⟩
    · refine ⟨(nI (t + 1), sA st 12 0 14 A'), ⟨A', a', rfl, p1, p2, p3, ?_⟩, ?_⟩
      · intro x hx hP
        by_cases h : x = t
        · subst h; exact absurd hP g2
        · exact p4 x (by omega) hP
      · intro m
        funext j21
        show f_X12_fewest_L100 (nI n) (nI v) j21 (m + 1) (nI t) (sA st 12 0 14 A') = _
        rw [f_X12_fewest_L100]
        simp (disch := omega) only [fLt_e, fBd_s, fJn_s, fNn_s, fNu_0, fNu_s, fBo_0, fBo_1, fBo_b, i_lit, i_neg1, nI_add, pk_mul, nI_clamp, i_le, i_lt, i_eq, fIx_n, nI_mI, mI_nI, mI_lt, nI_lt_m, mI_le, nI_le_m, xI_0, xI_s, bI_0, bI_1, bI_t, bI_f, n_31, j_bit, j_one, i_and, i_or, Nat.not_lt_zero, Nat.succ_ne_zero, Nat.add_one_ne_zero, Nat.add_one_sub_one, Nat.zero_le, Nat.or_zero, Nat.zero_or, Bool.not_true, Bool.not_false, Bool.true_and, Bool.false_and, Bool.and_true, Bool.and_false, ↓reduceIte, if_true, if_false, not_true_eq_false, not_false_eq_true, true_and, and_true, false_and, and_false, and_self, true_or, or_true, false_or, or_false, Nat.reduceEqDiff, Nat.reduceLT, Nat.reduceLeDiff, Nat.reduceAdd, Nat.reduceMul, Nat.reduceSub, Nat.add_zero, Nat.zero_add, Nat.mul_zero, Nat.zero_mul, ne_eq, Bool.not_eq_true, Bool.not_eq_false, reduceCtorEq, decide_true, decide_false, decide_eq_true_eq, decide_eq_false_iff_not, Bool.false_eq_true, if_pos, if_neg, hr11, g1]
    · have ho := or_4096 hv ht
      have hlo := p1 _ ho
      have hl9 : a' (v ||| t) ≤ 99 := Nat.le_trans (p2 _) (hle _)
      by_cases hlt : n + 1 < a' (v ||| t)
      · refine ⟨(nI (t + 1), sA st 12 0 14 (upd A' (v ||| t) (nI (n + 1)))), ⟨_, fun k => if k = v ||| t then n + 1 else a' k, rfl, lrel_u p1 _ _, ?_, ?_, ?_⟩, ?_⟩
        · intro k
          dsimp only
          split
          · rename_i h; rw [h]; have := p2 (v ||| t); omega
          · exact p2 k
        · intro k
          dsimp only
          split
          · rename_i h
            refine Or.inr ⟨?_, rfl, t, g2, h⟩
            rw [h]
            have := p2 (v ||| t)
            omega
          · exact p3 k
        · intro x hx hP
          dsimp only
          split
          · exact Nat.le_refl _
          · rename_i h
            by_cases hxt : x = t
            · subst hxt; exact absurd rfl h
            · exact p4 x (by omega) hP
        · intro m
          funext j21
          show f_X12_fewest_L100 (nI n) (nI v) j21 (m + 1) (nI t) (sA st 12 0 14 A') = _
          rw [f_X12_fewest_L100]
          simp (disch := omega) only [fLt_e, fBd_s, fJn_s, fNn_s, fNu_0, fNu_s, fBo_0, fBo_1, fBo_b, i_lit, i_neg1, nI_add, pk_mul, nI_clamp, i_le, i_lt, i_eq, fIx_n, nI_mI, mI_nI, mI_lt, nI_lt_m, mI_le, nI_le_m, xI_0, xI_s, bI_0, bI_1, bI_t, bI_f, n_31, j_bit, j_one, i_and, i_or, Nat.not_lt_zero, Nat.succ_ne_zero, Nat.add_one_ne_zero, Nat.add_one_sub_one, Nat.zero_le, Nat.or_zero, Nat.zero_or, Bool.not_true, Bool.not_false, Bool.true_and, Bool.false_and, Bool.and_true, Bool.and_false, ↓reduceIte, if_true, if_false, not_true_eq_false, not_false_eq_true, true_and, and_true, false_and, and_false, and_self, true_or, or_true, false_or, or_false, Nat.reduceEqDiff, Nat.reduceLT, Nat.reduceLeDiff, Nat.reduceAdd, Nat.reduceMul, Nat.reduceSub, Nat.add_zero, Nat.zero_add, Nat.mul_zero, Nat.zero_mul, ne_eq, Bool.not_eq_true, Bool.not_eq_false, reduceCtorEq, decide_true, decide_false, decide_eq_true_eq, decide_eq_false_iff_not, Bool.false_eq_true, if_pos, if_neg, hr11, hr14, g1, hlo, hlt, sA_sA]
      · refine ⟨(nI (t + 1), sA st 12 0 14 (upd A' (v ||| t) (nI (a' (v ||| t))))), ⟨_, a', rfl, ?_, p2, p3, ?_⟩, ?_⟩
        · intro k hk
          rw [upd_at]
          split
          · rename_i h; rw [h]
          · exact p1 k hk
        · intro x hx hP
          by_cases hxt : x = t
          · subst hxt; omega
          · exact p4 x (by omega) hP
        · intro m
          funext j21
          show f_X12_fewest_L100 (nI n) (nI v) j21 (m + 1) (nI t) (sA st 12 0 14 A') = _
          rw [f_X12_fewest_L100]
          simp (disch := omega) only [fLt_e, fBd_s, fJn_s, fNn_s, fNu_0, fNu_s, fBo_0, fBo_1, fBo_b, i_lit, i_neg1, nI_add, pk_mul, nI_clamp, i_le, i_lt, i_eq, fIx_n, nI_mI, mI_nI, mI_lt, nI_lt_m, mI_le, nI_le_m, xI_0, xI_s, bI_0, bI_1, bI_t, bI_f, n_31, j_bit, j_one, i_and, i_or, Nat.not_lt_zero, Nat.succ_ne_zero, Nat.add_one_ne_zero, Nat.add_one_sub_one, Nat.zero_le, Nat.or_zero, Nat.zero_or, Bool.not_true, Bool.not_false, Bool.true_and, Bool.false_and, Bool.and_true, Bool.and_false, ↓reduceIte, if_true, if_false, not_true_eq_false, not_false_eq_true, true_and, and_true, false_and, and_false, and_self, true_or, or_true, false_or, or_false, Nat.reduceEqDiff, Nat.reduceLT, Nat.reduceLeDiff, Nat.reduceAdd, Nat.reduceMul, Nat.reduceSub, Nat.add_zero, Nat.zero_add, Nat.mul_zero, Nat.zero_mul, ne_eq, Bool.not_eq_true, Bool.not_eq_false, reduceCtorEq, decide_true, decide_false, decide_eq_true_eq, decide_eq_false_iff_not, Bool.false_eq_true, if_pos, if_neg, hr11, hr14, g1, hlo, hlt, sA_sA]) (fF_lt (by omega)) (s := (nI 0, sA st 12 0 14 A)) ⟨A, a, rfl, hA, fun k => Nat.le_refl _, fun k => Or.inl rfl, fun x h => absurd h (Nat.not_lt_zero x)⟩
  refine ⟨A', a', fun j21 => ?_, p1, p2, p3, p4⟩
  refine Eq.trans (congrFun e j21) ?_
  rw [hs]
  show f_X12_fewest_L100 (nI n) (nI v) j21 (m + 1) (nI 4096) (sA st 12 0 14 A') = _
  rw [f_X12_fewest_L100]
  simp (disch := omega) only [fLt_e, fBd_s, fJn_s, fNn_s, fNu_0, fNu_s, fBo_0, fBo_1, fBo_b, i_lit, i_neg1, nI_add, pk_mul, nI_clamp, i_le, i_lt, i_eq, fIx_n, nI_mI, mI_nI, mI_lt, nI_lt_m, mI_le, nI_le_m, xI_0, xI_s, bI_0, bI_1, bI_t, bI_f, n_31, j_bit, j_one, i_and, i_or, Nat.not_lt_zero, Nat.succ_ne_zero, Nat.add_one_ne_zero, Nat.add_one_sub_one, Nat.zero_le, Nat.or_zero, Nat.zero_or, Bool.not_true, Bool.not_false, Bool.true_and, Bool.false_and, Bool.and_true, Bool.and_false, ↓reduceIte, if_true, if_false, not_true_eq_false, not_false_eq_true, true_and, and_true, false_and, and_false, and_self, true_or, or_true, false_or, or_false, Nat.reduceEqDiff, Nat.reduceLT, Nat.reduceLeDiff, Nat.reduceAdd, Nat.reduceMul, Nat.reduceSub, Nat.add_zero, Nat.zero_add, Nat.mul_zero, Nat.zero_mul, ne_eq, Bool.not_eq_true, Bool.not_eq_false, reduceCtorEq, decide_true, decide_false, decide_eq_true_eq, decide_eq_false_iff_not, Bool.false_eq_true, if_pos, if_neg]
theorem m_fewL78 {n : Nat} (hn : n ≤ 13) (h11 : ∀ x, x < 4096 → (gA st 12 0 11 x = nI 0 ∧ ¬ P x) ∨ (gA st 12 0 11 x = nI 1 ∧ P x)) (hP : ∀ x, P x → x < 4096) {A : Nat → Int32} {a : Nat → Nat} (hA : lrel 4096 A a) (hle : ∀ k, a k ≤ 99) :
    ∃ A' a', (∀ k15 : fSt → Option (Int32 × fSt), f_X12_fewest_L78 (nI n) k15 fF (nI 0) (sA st 12 0 14 A) = k15 (sA st 12 0 14 A')) ∧ lrel 4096 A' a' ∧ (∀ k, a' k ≤ a k) ∧ (∀ k, a' k = a k ∨ (n + 1 < a k ∧ a' k = n + 1 ∧ ∃ v x, v < 4096 ∧ a v = n ∧ P x ∧ k = v ||| x)) ∧ (∀ v x, v < 4096 → a v = n → P x → a' (v ||| x) ≤ n + 1) := by
  obtain ⟨s', m, ⟨A', a', hs, p1, p2, p3, p4⟩, e⟩ := lp_ex (fun m (z : Int32 × fSt) (k15 : fSt → Option (Int32 × fSt)) => f_X12_fewest_L78 (nI n) k15 m z.1 z.2)
    (fun t z => ∃ A' a', z = (nI t, sA st 12 0 14 A') ∧ lrel 4096 A' a' ∧ (∀ k, a' k ≤ a k) ∧ (∀ k, a' k = a k ∨ (n + 1 < a k ∧ a' k = n + 1 ∧ ∃ v x, v < 4096 ∧ a v = n ∧ P x ∧ k = v ||| x)) ∧ (∀ v x, v < t → a v = n → P x → a' (v ||| x) ≤ n + 1)) 4096 (by
    rintro t z ht ⟨A', a', rfl, p1, p2, p3, p4⟩
    have hr14 : gA (sA st 12 0 14 A') 12 0 14 = A' := rfl
    have hlt := p1 t ht
    have hl9 : a' t ≤ 99 := Nat.le_trans (p2 _) (hle _)
    by_cases hv : a' t = n
    · have hv0 : a t = n := by
        rcases p3 t with h | ⟨h1, h2, -⟩ <;> omega
      obtain ⟨A2, a2, e2, q1, q2, q3, q4⟩ := m_fewL100 (st := st) (P := P) hn ht h11 p1 (fun k => Nat.le_trans (p2 k) (hle k))
      refine ⟨(nI (t + 1), sA st 12 0 14 A2), ⟨A2, a2, rfl, q1, fun k => Nat.le_trans (q2 k) (p2 k), ?_, ?_⟩, ?_⟩
      · intro k
        rcases q3 k with h | ⟨h1, h2, x, x1, x2⟩
        · rw [h]; exact p3 k
        · have := p2 k
          exact Or.inr ⟨by omega, h2, t, x, ht, hv0, x1, x2⟩
      · intro v x hvt h1 h2
        by_cases h : v = t
        · subst h
          exact q4 x (hP x h2) h2
        · have := p4 v x (by omega) h1 h2
          have := q2 (v ||| x)
          omega
      · intro m
        funext k15
        show f_X12_fewest_L78 (nI n) k15 (m + 1) (nI t) (sA st 12 0 14 A') = f_X12_fewest_L78 (nI n) k15 m (nI (t + 1)) (sA st 12 0 14 A2)
        rw [f_X12_fewest_L78]
        simp (disch := omega) only [fLt_e, fBd_s, fJn_s, fNn_s, fNu_0, fNu_s, fBo_0, fBo_1, fBo_b, i_lit, i_neg1, nI_add, pk_mul, nI_clamp, i_le, i_lt, i_eq, fIx_n, nI_mI, mI_nI, mI_lt, nI_lt_m, mI_le, nI_le_m, xI_0, xI_s, bI_0, bI_1, bI_t, bI_f, n_31, j_bit, j_one, i_and, i_or, Nat.not_lt_zero, Nat.succ_ne_zero, Nat.add_one_ne_zero, Nat.add_one_sub_one, Nat.zero_le, Nat.or_zero, Nat.zero_or, Bool.not_true, Bool.not_false, Bool.true_and, Bool.false_and, Bool.and_true, Bool.and_false, ↓reduceIte, if_true, if_false, not_true_eq_false, not_false_eq_true, true_and, and_true, false_and, and_false, and_self, true_or, or_true, false_or, or_false, Nat.reduceEqDiff, Nat.reduceLT, Nat.reduceLeDiff, Nat.reduceAdd, Nat.reduceMul, Nat.reduceSub, Nat.add_zero, Nat.zero_add, Nat.mul_zero, Nat.zero_mul, ne_eq, Bool.not_eq_true, Bool.not_eq_false, reduceCtorEq, decide_true, decide_false, decide_eq_true_eq, decide_eq_false_iff_not, Bool.false_eq_true, if_pos, if_neg, hr14, hlt, hv, e2]
    · refine ⟨(nI (t + 1), sA st 12 0 14 A'), ⟨A', a', rfl, p1, p2, p3, ?_⟩, ?_⟩
      · intro v x hvt h1 h2
        by_cases h : v = t
        · subst h
          have := p2 v
          rcases p3 v with h | ⟨h3, h4, -⟩ <;> omega
        · exact p4 v x (by omega) h1 h2
      · intro m
        funext k15
        show f_X12_fewest_L78 (nI n) k15 (m + 1) (nI t) (sA st 12 0 14 A') = _
        rw [f_X12_fewest_L78]
        simp (disch := omega) only [fLt_e, fBd_s, fJn_s, fNn_s, fNu_0, fNu_s, fBo_0, fBo_1, fBo_b, i_lit, i_neg1, nI_add, pk_mul, nI_clamp, i_le, i_lt, i_eq, fIx_n, nI_mI, mI_nI, mI_lt, nI_lt_m, mI_le, nI_le_m, xI_0, xI_s, bI_0, bI_1, bI_t, bI_f, n_31, j_bit, j_one, i_and, i_or, Nat.not_lt_zero, Nat.succ_ne_zero, Nat.add_one_ne_zero, Nat.add_one_sub_one, Nat.zero_le, Nat.or_zero, Nat.zero_or, Bool.not_true, Bool.not_false, Bool.true_and, Bool.false_and, Bool.and_true, Bool.and_false, ↓reduceIte, if_true, if_false, not_true_eq_false, not_false_eq_true, true_and, and_true, false_and, and_false, and_self, true_or, or_true, false_or, or_false, Nat.reduceEqDiff, Nat.reduceLT, Nat.reduceLeDiff, Nat.reduceAdd, Nat.reduceMul, Nat.reduceSub, Nat.add_zero, Nat.zero_add, Nat.mul_zero, Nat.zero_mul, ne_eq, Bool.not_eq_true, Bool.not_eq_false, reduceCtorEq, decide_true, decide_false, decide_eq_true_eq, decide_eq_false_iff_not, Bool.false_eq_true, if_pos, if_neg, hr14, hlt, hv]) (fF_lt (by omega)) (s := (nI 0, sA st 12 0 14 A)) ⟨A, a, rfl, hA, fun k => Nat.le_refl _, fun k => Or.inl rfl, fun v x h => absurd h (Nat.not_lt_zero v)⟩
  refine ⟨A', a', fun k15 => ?_, p1, p2, p3, p4⟩
  refine Eq.trans (congrFun e k15) ?_
  rw [hs]
  show f_X12_fewest_L78 (nI n) k15 (m + 1) (nI 4096) (sA st 12 0 14 A') = _
  rw [f_X12_fewest_L78]
  simp (disch := omega) only [fLt_e, fBd_s, fJn_s, fNn_s, fNu_0, fNu_s, fBo_0, fBo_1, fBo_b, i_lit, i_neg1, nI_add, pk_mul, nI_clamp, i_le, i_lt, i_eq, fIx_n, nI_mI, mI_nI, mI_lt, nI_lt_m, mI_le, nI_le_m, xI_0, xI_s, bI_0, bI_1, bI_t, bI_f, n_31, j_bit, j_one, i_and, i_or, Nat.not_lt_zero, Nat.succ_ne_zero, Nat.add_one_ne_zero, Nat.add_one_sub_one, Nat.zero_le, Nat.or_zero, Nat.zero_or, Bool.not_true, Bool.not_false, Bool.true_and, Bool.false_and, Bool.and_true, Bool.and_false, ↓reduceIte, if_true, if_false, not_true_eq_false, not_false_eq_true, true_and, and_true, false_and, and_false, and_self, true_or, or_true, false_or, or_false, Nat.reduceEqDiff, Nat.reduceLT, Nat.reduceLeDiff, Nat.reduceAdd, Nat.reduceMul, Nat.reduceSub, Nat.add_zero, Nat.zero_add, Nat.mul_zero, Nat.zero_mul, ne_eq, Bool.not_eq_true, Bool.not_eq_false, reduceCtorEq, decide_true, decide_false, decide_eq_true_eq, decide_eq_false_iff_not, Bool.false_eq_true, if_pos, if_neg]
theorem m_fewL62 {cs : Nat} (h37 : gI st 12 0 37 = nI cs) (hcs : cs < 4096) (h11 : ∀ x, x < 4096 → (gA st 12 0 11 x = nI 0 ∧ ¬ P x) ∨ (gA st 12 0 11 x = nI 1 ∧ P x)) (hP : ∀ x, P x → x < 4096) (hex : ∃ k, k ≤ 12 ∧ un P k cs) : ∀ d n m (A : Nat → Int32) (a : Nat → Nat), n + d = 13 → d < m → lrel 4096 A a → (∀ k, a k ≤ 99) →
    (∀ u, u < 4096 → a u < 99 → un P (a u) u) → (∀ k u, k ≤ n → u < 4096 → un P k u → a u ≤ k) → (∀ u, a u ≤ n ∨ a u = 99) → ∃ A' r, f_X12_fewest_L62 m (nI n) (sA st 12 0 14 A) = some (nI r, sA st 12 0 14 A') ∧ leastN P cs r := by
  intro d
  induction d with
  | zero =>
    intro n m A a hd hm hA hle i1 i2 i3
    obtain ⟨m, rfl⟩ : ∃ k, m = k + 1 := ⟨m - 1, by omega⟩
    obtain ⟨k, hk, hu⟩ := hex
    have h1 := i2 k cs (by omega) hcs hu
    have hAc := hA cs hcs
    have hr14 : gA (sA st 12 0 14 A) 12 0 14 = A := rfl
    have hr37 : gI (sA st 12 0 14 A) 12 0 37 = nI cs := h37
    refine ⟨A, a cs, ?_, i1 cs hcs (by omega), fun j hj => ?_⟩
    · rw [f_X12_fewest_L62]
      simp (disch := omega) only [fLt_e, fBd_s, fJn_s, fNn_s, fNu_0, fNu_s, fBo_0, fBo_1, fBo_b, i_lit, i_neg1, nI_add, pk_mul, nI_clamp, i_le, i_lt, i_eq, fIx_n, nI_mI, mI_nI, mI_lt, nI_lt_m, mI_le, nI_le_m, xI_0, xI_s, bI_0, bI_1, bI_t, bI_f, n_31, j_bit, j_one, i_and, i_or, Nat.not_lt_zero, Nat.succ_ne_zero, Nat.add_one_ne_zero, Nat.add_one_sub_one, Nat.zero_le, Nat.or_zero, Nat.zero_or, Bool.not_true, Bool.not_false, Bool.true_and, Bool.false_and, Bool.and_true, Bool.and_false, ↓reduceIte, if_true, if_false, not_true_eq_false, not_false_eq_true, true_and, and_true, false_and, and_false, and_self, true_or, or_true, false_or, or_false, Nat.reduceEqDiff, Nat.reduceLT, Nat.reduceLeDiff, Nat.reduceAdd, Nat.reduceMul, Nat.reduceSub, Nat.add_zero, Nat.zero_add, Nat.mul_zero, Nat.zero_mul, ne_eq, Bool.not_eq_true, Bool.not_eq_false, reduceCtorEq, decide_true, decide_false, decide_eq_true_eq, decide_eq_false_iff_not, Bool.false_eq_true, if_pos, if_neg, hr14, hr37, hAc]
    · by_cases h : j ≤ n
      · exact i2 j cs h hcs hj
      · omega
  | succ d ih =>
    intro n m A a hd hm hA hle i1 i2 i3
    obtain ⟨m, rfl⟩ : ∃ k, m = k + 1 := ⟨m - 1, by omega⟩
    have hAc := hA cs hcs
    have hlc := hle cs
    have hr14 : gA (sA st 12 0 14 A) 12 0 14 = A := rfl
    have hr37 : gI (sA st 12 0 14 A) 12 0 37 = nI cs := h37
    by_cases h99 : a cs = 99
    · obtain ⟨A', a', e, q1, q2, q3, q4⟩ := m_fewL78 (st := st) (P := P) (n := n) (by omega) h11 hP hA hle
      obtain ⟨A2, r, e2, hr⟩ := ih (n + 1) m A' a' (by omega) (by omega) q1 (fun k => Nat.le_trans (q2 k) (hle k)) (by
        intro u hu h
        rcases q3 u with h2 | ⟨h1, h2, v, x, h3, h4, h5, h6⟩
        · rw [h2] at h ⊢
          exact i1 u hu h
        · rw [h2]
          have := i1 v h3 (by omega)
          rw [h4] at this
          exact ⟨v, x, this, h5, h6⟩) (by
        intro k u hk hu hun
        by_cases hkn : k ≤ n
        · have := i2 k u hkn hu hun
          have := q2 u
          omega
        · have hkn : k = n + 1 := by omega
          subst hkn
          obtain ⟨v, x, h1, h2, h3⟩ := hun
          have hv : v < 4096 := by
            have : v ≤ u := by rw [h3]; exact Nat.left_le_or
            omega
          have hav := i2 n v (Nat.le_refl _) hv h1
          by_cases hvn : a v = n
          · rw [h3]
            exact q4 v x hv hvn h2
          · have h4 : un P (a v + 1) u := ⟨v, x, i1 v hv (by omega), h2, h3⟩
            have := i2 (a v + 1) u (by omega) hu h4
            have := q2 u
            omega) (by
        intro u
        rcases q3 u with h2 | ⟨h1, h2, -⟩
        · rcases i3 u with h | h
          · exact Or.inl (by omega)
          · exact Or.inr (by omega)
        · exact Or.inl (by omega))
      refine ⟨A2, r, ?_, hr⟩
      rw [f_X12_fewest_L62]
      simp (disch := omega) only [fLt_e, fBd_s, fJn_s, fNn_s, fNu_0, fNu_s, fBo_0, fBo_1, fBo_b, i_lit, i_neg1, nI_add, pk_mul, nI_clamp, i_le, i_lt, i_eq, fIx_n, nI_mI, mI_nI, mI_lt, nI_lt_m, mI_le, nI_le_m, xI_0, xI_s, bI_0, bI_1, bI_t, bI_f, n_31, j_bit, j_one, i_and, i_or, Nat.not_lt_zero, Nat.succ_ne_zero, Nat.add_one_ne_zero, Nat.add_one_sub_one, Nat.zero_le, Nat.or_zero, Nat.zero_or, Bool.not_true, Bool.not_false, Bool.true_and, Bool.false_and, Bool.and_true, Bool.and_false, ↓reduceIte, if_true, if_false, not_true_eq_false, not_false_eq_true, true_and, and_true, false_and, and_false, and_self, true_or, or_true, false_or, or_false, Nat.reduceEqDiff, Nat.reduceLT, Nat.reduceLeDiff, Nat.reduceAdd, Nat.reduceMul, Nat.reduceSub, Nat.add_zero, Nat.zero_add, Nat.mul_zero, Nat.zero_mul, ne_eq, Bool.not_eq_true, Bool.not_eq_false, reduceCtorEq, decide_true, decide_false, decide_eq_true_eq, decide_eq_false_iff_not, Bool.false_eq_true, if_pos, if_neg, hr14, hr37, hAc, h99, e]
      exact e2
    · refine ⟨A, a cs, ?_, i1 cs hcs (by omega), fun j hj => ?_⟩
      · rw [f_X12_fewest_L62]
        simp (disch := omega) only [fLt_e, fBd_s, fJn_s, fNn_s, fNu_0, fNu_s, fBo_0, fBo_1, fBo_b, i_lit, i_neg1, nI_add, pk_mul, nI_clamp, i_le, i_lt, i_eq, fIx_n, nI_mI, mI_nI, mI_lt, nI_lt_m, mI_le, nI_le_m, xI_0, xI_s, bI_0, bI_1, bI_t, bI_f, n_31, j_bit, j_one, i_and, i_or, Nat.not_lt_zero, Nat.succ_ne_zero, Nat.add_one_ne_zero, Nat.add_one_sub_one, Nat.zero_le, Nat.or_zero, Nat.zero_or, Bool.not_true, Bool.not_false, Bool.true_and, Bool.false_and, Bool.and_true, Bool.and_false, ↓reduceIte, if_true, if_false, not_true_eq_false, not_false_eq_true, true_and, and_true, false_and, and_false, and_self, true_or, or_true, false_or, or_false, Nat.reduceEqDiff, Nat.reduceLT, Nat.reduceLeDiff, Nat.reduceAdd, Nat.reduceMul, Nat.reduceSub, Nat.add_zero, Nat.zero_add, Nat.mul_zero, Nat.zero_mul, ne_eq, Bool.not_eq_true, Bool.not_eq_false, reduceCtorEq, decide_true, decide_false, decide_eq_true_eq, decide_eq_false_iff_not, Bool.false_eq_true, if_pos, if_neg, hr14, hr37, hAc, h99]
      · rcases i3 cs with h | h
        · by_cases hj2 : j ≤ n
          · exact i2 j cs hj2 hcs hj
          · omega
        · exact absurd h h99
theorem m_fewL31 (k8 : fSt → Option (Int32 × fSt)) (A : Nat → Int32) : f_X12_fewest_L31 k8 fF (nI 0) (sA st 12 0 14 A) = k8 (sA st 12 0 14 (fun k => if k < 4096 then (if k = 0 then nI 0 else nI 99) else A k)) := by
  obtain ⟨m, e⟩ := lp_run (fun m (z : Int32 × fSt) => f_X12_fewest_L31 k8 m z.1 z.2) (fun t => (nI t, sA st 12 0 14 (fun k => if k < t then (if k = 0 then nI 0 else nI 99) else A k))) 4096 (fun m t ht => by
    show f_X12_fewest_L31 k8 (m + 1) (nI t) (sA st 12 0 14 (fun k => if k < t then (if k = 0 then nI 0 else nI 99) else A k)) = f_X12_fewest_L31 k8 m (nI (t + 1)) (sA st 12 0 14 (fun k => if k < t + 1 then (if k = 0 then nI 0 else nI 99) else A k))
    have hr14 : ∀ F : Nat → Int32, gA (sA st 12 0 14 F) 12 0 14 = F := fun F => rfl
    have hup : ∀ v, (if t = 0 then nI 0 else nI 99) = v → upd (fun k => if k < t then (if k = 0 then nI 0 else nI 99) else A k) t v = fun k => if k < t + 1 then (if k = 0 then nI 0 else nI 99) else A k := by
      intro v hv
      funext k
      rw [upd_at]
      by_cases h : k = t
      · subst h
        rw [if_pos rfl, if_pos (by omega), hv]
      · rw [if_neg h]
        by_cases h2 : k < t
        · have h3 : k < t + 1 := by omega
          rw [if_pos h2, if_pos h3]
        · have h3 : ¬ k < t + 1 := by omega
          rw [if_neg h2, if_neg h3]
    rw [f_X12_fewest_L31]
    by_cases h0 : t = 0
    · have := hup (nI 0) (if_pos h0)
      rw [← this]
      simp (disch := omega) only [fLt_e, fBd_s, fJn_s, fNn_s, fNu_0, fNu_s, fBo_0, fBo_1, fBo_b, i_lit, i_neg1, nI_add, pk_mul, nI_clamp, i_le, i_lt, i_eq, fIx_n, nI_mI, mI_nI, mI_lt, nI_lt_m, mI_le, nI_le_m, xI_0, xI_s, bI_0, bI_1, bI_t, bI_f, n_31, j_bit, j_one, i_and, i_or, Nat.not_lt_zero, Nat.succ_ne_zero, Nat.add_one_ne_zero, Nat.add_one_sub_one, Nat.zero_le, Nat.or_zero, Nat.zero_or, Bool.not_true, Bool.not_false, Bool.true_and, Bool.false_and, Bool.and_true, Bool.and_false, ↓reduceIte, if_true, if_false, not_true_eq_false, not_false_eq_true, true_and, and_true, false_and, and_false, and_self, true_or, or_true, false_or, or_false, Nat.reduceEqDiff, Nat.reduceLT, Nat.reduceLeDiff, Nat.reduceAdd, Nat.reduceMul, Nat.reduceSub, Nat.add_zero, Nat.zero_add, Nat.mul_zero, Nat.zero_mul, ne_eq, Bool.not_eq_true, Bool.not_eq_false, reduceCtorEq, decide_true, decide_false, decide_eq_true_eq, decide_eq_false_iff_not, Bool.false_eq_true, if_pos, if_neg, hr14, h0, sA_sA]
    · have := hup (nI 99) (if_neg h0)
      rw [← this]
      simp (disch := omega) only [fLt_e, fBd_s, fJn_s, fNn_s, fNu_0, fNu_s, fBo_0, fBo_1, fBo_b, i_lit, i_neg1, nI_add, pk_mul, nI_clamp, i_le, i_lt, i_eq, fIx_n, nI_mI, mI_nI, mI_lt, nI_lt_m, mI_le, nI_le_m, xI_0, xI_s, bI_0, bI_1, bI_t, bI_f, n_31, j_bit, j_one, i_and, i_or, Nat.not_lt_zero, Nat.succ_ne_zero, Nat.add_one_ne_zero, Nat.add_one_sub_one, Nat.zero_le, Nat.or_zero, Nat.zero_or, Bool.not_true, Bool.not_false, Bool.true_and, Bool.false_and, Bool.and_true, Bool.and_false, ↓reduceIte, if_true, if_false, not_true_eq_false, not_false_eq_true, true_and, and_true, false_and, and_false, and_self, true_or, or_true, false_or, or_false, Nat.reduceEqDiff, Nat.reduceLT, Nat.reduceLeDiff, Nat.reduceAdd, Nat.reduceMul, Nat.reduceSub, Nat.add_zero, Nat.zero_add, Nat.mul_zero, Nat.zero_mul, ne_eq, Bool.not_eq_true, Bool.not_eq_false, reduceCtorEq, decide_true, decide_false, decide_eq_true_eq, decide_eq_false_iff_not, Bool.false_eq_true, if_pos, if_neg, hr14, h0, sA_sA]) (fF_lt (by omega))
  refine Eq.trans ?_ (Eq.trans e ?_)
  · have : (fun k => if k < 0 then (if k = 0 then nI 0 else nI 99) else A k) = A := by
      funext k
      rw [if_neg (Nat.not_lt_zero k)]
    show f_X12_fewest_L31 k8 fF (nI 0) (sA st 12 0 14 A) = f_X12_fewest_L31 k8 fF (nI 0) (sA st 12 0 14 (fun k => if k < 0 then (if k = 0 then nI 0 else nI 99) else A k))
    rw [this]
  · show f_X12_fewest_L31 k8 (m + 1) (nI 4096) (sA st 12 0 14 (fun k => if k < 4096 then (if k = 0 then nI 0 else nI 99) else A k)) = _
    rw [f_X12_fewest_L31]
    simp (disch := omega) only [fLt_e, fBd_s, fJn_s, fNn_s, fNu_0, fNu_s, fBo_0, fBo_1, fBo_b, i_lit, i_neg1, nI_add, pk_mul, nI_clamp, i_le, i_lt, i_eq, fIx_n, nI_mI, mI_nI, mI_lt, nI_lt_m, mI_le, nI_le_m, xI_0, xI_s, bI_0, bI_1, bI_t, bI_f, n_31, j_bit, j_one, i_and, i_or, Nat.not_lt_zero, Nat.succ_ne_zero, Nat.add_one_ne_zero, Nat.add_one_sub_one, Nat.zero_le, Nat.or_zero, Nat.zero_or, Bool.not_true, Bool.not_false, Bool.true_and, Bool.false_and, Bool.and_true, Bool.and_false, ↓reduceIte, if_true, if_false, not_true_eq_false, not_false_eq_true, true_and, and_true, false_and, and_false, and_self, true_or, or_true, false_or, or_false, Nat.reduceEqDiff, Nat.reduceLT, Nat.reduceLeDiff, Nat.reduceAdd, Nat.reduceMul, Nat.reduceSub, Nat.add_zero, Nat.zero_add, Nat.mul_zero, Nat.zero_mul, ne_eq, Bool.not_eq_true, Bool.not_eq_false, reduceCtorEq, decide_true, decide_false, decide_eq_true_eq, decide_eq_false_iff_not, Bool.false_eq_true, if_pos, if_neg]
/-- what the reference does behind goAll -/
theorem m_few {cs : Nat} (h37 : gI st 12 0 37 = nI cs) (hcs : cs < 4096) (h11 : ∀ x, x < 4096 → (gA st 12 0 11 x = nI 0 ∧ ¬ P x) ∨ (gA st 12 0 11 x = nI 1 ∧ P x)) (hP : ∀ x, P x → x < 4096) (hex : ∃ k, k ≤ 12 ∧ un P k cs) :
    ∃ A' r, f_X12_fewest_L31 (fun s7 => f_X12_fewest_L62 fF (nI 0) s7) fF (nI 0) st = some (nI r, sA st 12 0 14 A') ∧ leastN P cs r := by
  have h0 := m_fewL31 (st := st) (fun s7 => f_X12_fewest_L62 fF (nI 0) s7) (gA st 12 0 14)
  rw [sA_self] at h0
  rw [h0]
  refine m_fewL62 h37 hcs h11 hP hex 13 0 fF _ (fun k => if k = 0 then 0 else 99) rfl (fF_lt (by omega)) ?_ ?_ ?_ ?_ ?_
  · intro k hk
    show (if k < 4096 then (if k = 0 then nI 0 else nI 99) else gA st 12 0 14 k) = nI (if k = 0 then 0 else 99)
    rw [if_pos hk]
    split <;> rfl
  · intro k
    split <;> omega
  · intro u _ hu
    by_cases h : u = 0
    · rw [if_pos h]; exact h
    · rw [if_neg h] at hu; omega
  · intro k u hk _ hun
    have hk : k = 0 := by omega
    subst hk
    have hun : u = 0 := hun
    rw [if_pos hun]
    exact Nat.le_refl _
  · intro u
    split
    · exact Or.inl (Nat.le_refl _)
    · exact Or.inr rfl
end
