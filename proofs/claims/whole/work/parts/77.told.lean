/-! layer 2: looking a name up, and reading a name told before -/
theorem lg_cmp_eq0 (x y : Int64) : (lg_cmp x y = nI 0) = (x = y) := lg_eq x y
def fnd (f : Nat → Int64) (w : Int64) : Nat → Nat → Nat
  | _, 0 => 0
  | k, d + 1 => if f k = w then k + 1 else fnd f w (k + 1) d
theorem fnd_le (f : Nat → Int64) (w : Int64) : ∀ d k, fnd f w k d ≤ k + d := by
  intro d
  induction d with
  | zero => intro k; unfold fnd; omega
  | succ d ih =>
    intro k
    unfold fnd
    have := ih (k + 1)
    split <;> omega
theorem fnd_cg {f g : Nat → Int64} (w : Int64) : ∀ d k, (∀ j, k ≤ j → j < k + d → f j = g j) → fnd f w k d = fnd g w k d := by
  intro d
  induction d with
  | zero => intro k _; rfl
  | succ d ih =>
    intro k h
    unfold fnd
    rw [h k (by omega) (by omega), ih (k + 1) (fun j h1 h2 => h j (by omega) (by omega))]
theorem m_named {sm : fSt} {b o m : Nat} (h : 28 * b + o + m ≤ 140) : f_X12_named (nI b) (nI o) (nI m) sm = some (xI (fnd (fun k => gB sm 12 0 7 (28 * b + o + k)) (gL sm 12 0 19) 0 m), sm) := by
  have key : ∀ d k F, d < F → k + d = m → f_X12_named_L3 (nI b) (nI o) (nI m) F (nI k) sm = some (xI (fnd (fun k => gB sm 12 0 7 (28 * b + o + k)) (gL sm 12 0 19) k d), sm) := by
    intro d
    induction d with
    | zero =>
      intro k F hF hk
      obtain ⟨F, rfl⟩ : ∃ F', F = F' + 1 := ⟨F - 1, by omega⟩
      unfold f_X12_named_L3 fnd
      have e : m ≤ k := by omega
      simp (disch := omega) only [↓fLt_e, fBd_s, ↓fJn_s, fNn_s, fNu_0, fNu_s, fBo_0, fBo_1, fBo_b, i_lit, i_neg1, nI_add, pk_mul, nI_clamp, i_le, i_lt, i_eq, fIx_n, nI_mI, mI_nI, mI_lt, nI_lt_m, mI_le, nI_le_m, xI_0, xI_s, bI_0, bI_1, bI_t, bI_f, n_31, j_bit, j_one, i_and, i_or, Nat.not_lt_zero, Nat.succ_ne_zero, Nat.add_one_ne_zero, Nat.add_one_sub_one, Nat.zero_le, Nat.or_zero, Nat.zero_or, Bool.not_true, Bool.not_false, Bool.true_and, Bool.false_and, Bool.and_true, Bool.and_false, ↓reduceIte, if_true, if_false, not_true_eq_false, not_false_eq_true, true_and, and_true, false_and, and_false, and_self, true_or, or_true, false_or, or_false, Nat.reduceEqDiff, Nat.reduceLT, Nat.reduceLeDiff, Nat.reduceAdd, Nat.reduceMul, Nat.reduceSub, Nat.add_zero, Nat.zero_add, Nat.mul_zero, Nat.zero_mul, ne_eq, Bool.not_eq_true, Bool.not_eq_false, reduceCtorEq, decide_true, decide_false, decide_eq_true_eq, decide_eq_false_iff_not, Bool.false_eq_true, if_pos, if_neg, e]
    | succ d ih =>
      intro k F hF hk
      obtain ⟨F, rfl⟩ : ∃ F', F = F' + 1 := ⟨F - 1, by omega⟩
      unfold f_X12_named_L3 fnd
      have e : ¬ m ≤ k := by omega
      have ih' := ih (k + 1) F (by omega) (by omega)
      by_cases g : gB sm 12 0 7 (28 * b + o + k) = gL sm 12 0 19
      · simp (disch := omega) only [↓fLt_e, fBd_s, ↓fJn_s, fNn_s, fNu_0, fNu_s, fBo_0, fBo_1, fBo_b, i_lit, i_neg1, nI_add, pk_mul, nI_clamp, i_le, i_lt, i_eq, fIx_n, nI_mI, mI_nI, mI_lt, nI_lt_m, mI_le, nI_le_m, xI_0, xI_s, bI_0, bI_1, bI_t, bI_f, n_31, j_bit, j_one, i_and, i_or, Nat.not_lt_zero, Nat.succ_ne_zero, Nat.add_one_ne_zero, Nat.add_one_sub_one, Nat.zero_le, Nat.or_zero, Nat.zero_or, Bool.not_true, Bool.not_false, Bool.true_and, Bool.false_and, Bool.and_true, Bool.and_false, ↓reduceIte, if_true, if_false, not_true_eq_false, not_false_eq_true, true_and, and_true, false_and, and_false, and_self, true_or, or_true, false_or, or_false, Nat.reduceEqDiff, Nat.reduceLT, Nat.reduceLeDiff, Nat.reduceAdd, Nat.reduceMul, Nat.reduceSub, Nat.add_zero, Nat.zero_add, Nat.mul_zero, Nat.zero_mul, ne_eq, Bool.not_eq_true, Bool.not_eq_false, reduceCtorEq, decide_true, decide_false, decide_eq_true_eq, decide_eq_false_iff_not, Bool.false_eq_true, if_pos, if_neg, e, lg_cmp_eq0, g]
      · simp (disch := omega) only [↓fLt_e, fBd_s, ↓fJn_s, fNn_s, fNu_0, fNu_s, fBo_0, fBo_1, fBo_b, i_lit, i_neg1, nI_add, pk_mul, nI_clamp, i_le, i_lt, i_eq, fIx_n, nI_mI, mI_nI, mI_lt, nI_lt_m, mI_le, nI_le_m, xI_0, xI_s, bI_0, bI_1, bI_t, bI_f, n_31, j_bit, j_one, i_and, i_or, Nat.not_lt_zero, Nat.succ_ne_zero, Nat.add_one_ne_zero, Nat.add_one_sub_one, Nat.zero_le, Nat.or_zero, Nat.zero_or, Bool.not_true, Bool.not_false, Bool.true_and, Bool.false_and, Bool.and_true, Bool.and_false, ↓reduceIte, if_true, if_false, not_true_eq_false, not_false_eq_true, true_and, and_true, false_and, and_false, and_self, true_or, or_true, false_or, or_false, Nat.reduceEqDiff, Nat.reduceLT, Nat.reduceLeDiff, Nat.reduceAdd, Nat.reduceMul, Nat.reduceSub, Nat.add_zero, Nat.zero_add, Nat.mul_zero, Nat.zero_mul, ne_eq, Bool.not_eq_true, Bool.not_eq_false, reduceCtorEq, decide_true, decide_false, decide_eq_true_eq, decide_eq_false_iff_not, Bool.false_eq_true, if_pos, if_neg, e, lg_cmp_eq0, g, ih']
  unfold f_X12_named
  rw [fLt_e, show (0 : Int32) = nI 0 from rfl]
  exact key m 0 fF (Nat.lt_of_lt_of_le (by omega : m < 4096) (Nat.le_trans (by decide) fF_ge)) (by omega)
theorem x_find {st : fSt} {c i j n m : Nat} (h : m ≤ n ∧ n ≤ 140) (w : Int64) : f_X5_find c i j n (nI m) w st = some (xI (fnd (gB st c i j) w 0 m), st) := by
  have key : ∀ d k F, d < F → k + d = m → f_X5_find_L3 c i j n (nI m) w (fun s2 => some (mI, s2)) F (nI k) st = some (xI (fnd (gB st c i j) w k d), st) := by
    intro d
    induction d with
    | zero =>
      intro k F hF hk
      obtain ⟨F, rfl⟩ : ∃ F', F = F' + 1 := ⟨F - 1, by omega⟩
      unfold f_X5_find_L3 fnd
      have e : m ≤ k := by omega
      simp (disch := omega) only [↓fLt_e, fBd_s, ↓fJn_s, fNn_s, fNu_0, fNu_s, fBo_0, fBo_1, fBo_b, i_lit, i_neg1, nI_add, pk_mul, nI_clamp, i_le, i_lt, i_eq, fIx_n, nI_mI, mI_nI, mI_lt, nI_lt_m, mI_le, nI_le_m, xI_0, xI_s, bI_0, bI_1, bI_t, bI_f, n_31, j_bit, j_one, i_and, i_or, Nat.not_lt_zero, Nat.succ_ne_zero, Nat.add_one_ne_zero, Nat.add_one_sub_one, Nat.zero_le, Nat.or_zero, Nat.zero_or, Bool.not_true, Bool.not_false, Bool.true_and, Bool.false_and, Bool.and_true, Bool.and_false, ↓reduceIte, if_true, if_false, not_true_eq_false, not_false_eq_true, true_and, and_true, false_and, and_false, and_self, true_or, or_true, false_or, or_false, Nat.reduceEqDiff, Nat.reduceLT, Nat.reduceLeDiff, Nat.reduceAdd, Nat.reduceMul, Nat.reduceSub, Nat.add_zero, Nat.zero_add, Nat.mul_zero, Nat.zero_mul, ne_eq, Bool.not_eq_true, Bool.not_eq_false, reduceCtorEq, decide_true, decide_false, decide_eq_true_eq, decide_eq_false_iff_not, Bool.false_eq_true, if_pos, if_neg, e]
    | succ d ih =>
      intro k F hF hk
      obtain ⟨F, rfl⟩ : ∃ F', F = F' + 1 := ⟨F - 1, by omega⟩
      unfold f_X5_find_L3 fnd
      have e : ¬ m ≤ k := by omega
      have e2 : ¬ (Int32.ofNat n) ≤ nI k := by
        rw [show Int32.ofNat n = nI n from rfl, i_le _ _ (by omega) (by omega)]
        omega
      have ih' := ih (k + 1) F (by omega) (by omega)
      by_cases g : gB st c i j k = w
      · simp (disch := omega) only [↓fLt_e, fBd_s, ↓fJn_s, fNn_s, fNu_0, fNu_s, fBo_0, fBo_1, fBo_b, i_lit, i_neg1, nI_add, pk_mul, nI_clamp, i_le, i_lt, i_eq, fIx_n, nI_mI, mI_nI, mI_lt, nI_lt_m, mI_le, nI_le_m, xI_0, xI_s, bI_0, bI_1, bI_t, bI_f, n_31, j_bit, j_one, i_and, i_or, Nat.not_lt_zero, Nat.succ_ne_zero, Nat.add_one_ne_zero, Nat.add_one_sub_one, Nat.zero_le, Nat.or_zero, Nat.zero_or, Bool.not_true, Bool.not_false, Bool.true_and, Bool.false_and, Bool.and_true, Bool.and_false, ↓reduceIte, if_true, if_false, not_true_eq_false, not_false_eq_true, true_and, and_true, false_and, and_false, and_self, true_or, or_true, false_or, or_false, Nat.reduceEqDiff, Nat.reduceLT, Nat.reduceLeDiff, Nat.reduceAdd, Nat.reduceMul, Nat.reduceSub, Nat.add_zero, Nat.zero_add, Nat.mul_zero, Nat.zero_mul, ne_eq, Bool.not_eq_true, Bool.not_eq_false, reduceCtorEq, decide_true, decide_false, decide_eq_true_eq, decide_eq_false_iff_not, Bool.false_eq_true, if_pos, if_neg, e, e2, lg_cmp_eq0, g]
      · simp (disch := omega) only [↓fLt_e, fBd_s, ↓fJn_s, fNn_s, fNu_0, fNu_s, fBo_0, fBo_1, fBo_b, i_lit, i_neg1, nI_add, pk_mul, nI_clamp, i_le, i_lt, i_eq, fIx_n, nI_mI, mI_nI, mI_lt, nI_lt_m, mI_le, nI_le_m, xI_0, xI_s, bI_0, bI_1, bI_t, bI_f, n_31, j_bit, j_one, i_and, i_or, Nat.not_lt_zero, Nat.succ_ne_zero, Nat.add_one_ne_zero, Nat.add_one_sub_one, Nat.zero_le, Nat.or_zero, Nat.zero_or, Bool.not_true, Bool.not_false, Bool.true_and, Bool.false_and, Bool.and_true, Bool.and_false, ↓reduceIte, if_true, if_false, not_true_eq_false, not_false_eq_true, true_and, and_true, false_and, and_false, and_self, true_or, or_true, false_or, or_false, Nat.reduceEqDiff, Nat.reduceLT, Nat.reduceLeDiff, Nat.reduceAdd, Nat.reduceMul, Nat.reduceSub, Nat.add_zero, Nat.zero_add, Nat.mul_zero, Nat.zero_mul, ne_eq, Bool.not_eq_true, Bool.not_eq_false, reduceCtorEq, decide_true, decide_false, decide_eq_true_eq, decide_eq_false_iff_not, Bool.false_eq_true, if_pos, if_neg, e, e2, lg_cmp_eq0, g, ih']
  unfold f_X5_find
  rw [fLt_e, fJn_s, show (0 : Int32) = nI 0 from rfl]
  exact key m 0 fF (Nat.lt_of_lt_of_le (by omega : m < 4096) (Nat.le_trans (by decide) fF_ge)) (by omega)
section
variable {sc sm : fSt} {n : Nat} {c : Nat → Nat} {a p so : Nat}
theorem ps_w (P : psR sc sm n c a p so) (h : so = 32) : gL sm 12 0 19 = gL sc 5 0 7 := by
  rcases P.2.1 with ⟨h, -⟩ | ⟨h, -⟩ | ⟨h, -⟩ | ⟨h, -⟩ | ⟨h, -⟩ | ⟨h, h2, h3, -, v, h4, h5, h6, -⟩
  · omega
  · omega
  · omega
  · omega
  · omega
  · rw [h6, h5]
/-- a name that stands in both lists, or a fault -/
theorem ps_told (P : psR sc sm n c a p so) {b o m ci ii ji ni : Nat} (h : 28 * b + o + m ≤ 140 ∧ m ≤ ni ∧ ni ≤ 140) (hN : ∀ k, k < m → gB sc ci ii ji k = gB sm 12 0 7 (28 * b + o + k)) : ∃ sc' sm' r, f_X12_readTold (nI b) (nI o) (nI m) sm = some (r, sm') ∧ xFr sc sc' ∧ yFr sm sm' ∧ ((∃ v, v < m ∧ so = 32 ∧ r = nI v ∧ f_X5_takeName ci ii ji ni (nI m) sc = some (nI 1, sc') ∧ gI sc' 5 0 9 = nI v ∧ ∃ a' p' so', psR sc' sm' n c a' p' so' ∧ (p ≤ a' ∧ (¬ so' = 35 → p < p'))) ∨ (f_X5_takeName ci ii ji ni (nI m) sc = some (nI 0, sc') ∧ ∃ d, flR sc' sm' d a)) := by
  have hso := ps_so P
  have h64 := tok_35 P.2.1
  have hb := P.2.2.2.1
  have hn := ps_name P
  by_cases hs : so = 32
  · rw [decide_eq_true hs] at hn
    have hm := m_named (sm := sm) h.1
    have hx := x_find (st := sc) (c := ci) (i := ii) (j := ji) (n := ni) (m := m) h.2 (gL sc 5 0 7)
    rw [fnd_cg (g := fun k => gB sm 12 0 7 (28 * b + o + k)) _ _ _ (fun j _ hj => hN j (by omega)), ← ps_w P hs] at hx
    have hle := fnd_le (fun k => gB sm 12 0 7 (28 * b + o + k)) (gL sm 12 0 19) m 0
    generalize fnd (fun k => gB sm 12 0 7 (28 * b + o + k)) (gL sm 12 0 19) 0 m = r at hm hx hle
    cases r with
    | zero =>
      obtain ⟨sc', sm', e1, e2, F, f1, f2⟩ := ps_fail P (k := 3) (by omega)
      have hf := F.2.2.2.1
      have hmu := m_must_no (sm := sm') ⟨F.1, F.2.1⟩ F.2.2.2.1 (nI 1)
      refine ⟨sc', sm', mI, ?_, f1, f2, Or.inr ⟨?_, _, F⟩⟩
      · unfold f_X12_readTold
        simp (disch := omega) only [↓fLt_e, fBd_s, ↓fJn_s, fNn_s, fNu_0, fNu_s, fBo_0, fBo_1, fBo_b, i_lit, i_neg1, nI_add, pk_mul, nI_clamp, i_le, i_lt, i_eq, fIx_n, nI_mI, mI_nI, mI_lt, nI_lt_m, mI_le, nI_le_m, xI_0, xI_s, bI_0, bI_1, bI_t, bI_f, n_31, j_bit, j_one, i_and, i_or, Nat.not_lt_zero, Nat.succ_ne_zero, Nat.add_one_ne_zero, Nat.add_one_sub_one, Nat.zero_le, Nat.or_zero, Nat.zero_or, Bool.not_true, Bool.not_false, Bool.true_and, Bool.false_and, Bool.and_true, Bool.and_false, ↓reduceIte, if_true, if_false, not_true_eq_false, not_false_eq_true, true_and, and_true, false_and, and_false, and_self, true_or, or_true, false_or, or_false, Nat.reduceEqDiff, Nat.reduceLT, Nat.reduceLeDiff, Nat.reduceAdd, Nat.reduceMul, Nat.reduceSub, Nat.add_zero, Nat.zero_add, Nat.mul_zero, Nat.zero_mul, ne_eq, Bool.not_eq_true, Bool.not_eq_false, reduceCtorEq, decide_true, decide_false, decide_eq_true_eq, decide_eq_false_iff_not, Bool.false_eq_true, if_pos, if_neg, hb, hn, hm, e2, hmu]
      · unfold f_X5_takeName
        rw [← ps_w P hs]
        simp (disch := omega) only [↓fLt_e, fBd_s, ↓fJn_s, fNn_s, fNu_0, fNu_s, fBo_0, fBo_1, fBo_b, i_lit, i_neg1, nI_add, pk_mul, nI_clamp, i_le, i_lt, i_eq, fIx_n, nI_mI, mI_nI, mI_lt, nI_lt_m, mI_le, nI_le_m, xI_0, xI_s, bI_0, bI_1, bI_t, bI_f, n_31, j_bit, j_one, i_and, i_or, Nat.not_lt_zero, Nat.succ_ne_zero, Nat.add_one_ne_zero, Nat.add_one_sub_one, Nat.zero_le, Nat.or_zero, Nat.zero_or, Bool.not_true, Bool.not_false, Bool.true_and, Bool.false_and, Bool.and_true, Bool.and_false, ↓reduceIte, if_true, if_false, not_true_eq_false, not_false_eq_true, true_and, and_true, false_and, and_false, and_self, true_or, or_true, false_or, or_false, Nat.reduceEqDiff, Nat.reduceLT, Nat.reduceLeDiff, Nat.reduceAdd, Nat.reduceMul, Nat.reduceSub, Nat.add_zero, Nat.zero_add, Nat.mul_zero, Nat.zero_mul, ne_eq, Bool.not_eq_true, Bool.not_eq_false, reduceCtorEq, decide_true, decide_false, decide_eq_true_eq, decide_eq_false_iff_not, Bool.false_eq_true, if_pos, if_neg, hso, hs, hx, e1]
    | succ v =>
      obtain ⟨sc', sm', a', p', so', e1, e2, P', f1, f2, m1, m2⟩ := ps_adv (ps_9 P (nI v))
      refine ⟨sc', sm', nI v, ?_, xFr_tr (xFr_I (by omega) (xFr_rf _)) f1, f2, Or.inl ⟨v, by omega, hs, rfl, ?_, ?_, a', p', so', P', m1⟩⟩
      · unfold f_X12_readTold f_X12_must
        simp (disch := omega) only [↓fLt_e, fBd_s, ↓fJn_s, fNn_s, fNu_0, fNu_s, fBo_0, fBo_1, fBo_b, i_lit, i_neg1, nI_add, pk_mul, nI_clamp, i_le, i_lt, i_eq, fIx_n, nI_mI, mI_nI, mI_lt, nI_lt_m, mI_le, nI_le_m, xI_0, xI_s, bI_0, bI_1, bI_t, bI_f, n_31, j_bit, j_one, i_and, i_or, Nat.not_lt_zero, Nat.succ_ne_zero, Nat.add_one_ne_zero, Nat.add_one_sub_one, Nat.zero_le, Nat.or_zero, Nat.zero_or, Bool.not_true, Bool.not_false, Bool.true_and, Bool.false_and, Bool.and_true, Bool.and_false, ↓reduceIte, if_true, if_false, not_true_eq_false, not_false_eq_true, true_and, and_true, false_and, and_false, and_self, true_or, or_true, false_or, or_false, Nat.reduceEqDiff, Nat.reduceLT, Nat.reduceLeDiff, Nat.reduceAdd, Nat.reduceMul, Nat.reduceSub, Nat.add_zero, Nat.zero_add, Nat.mul_zero, Nat.zero_mul, ne_eq, Bool.not_eq_true, Bool.not_eq_false, reduceCtorEq, decide_true, decide_false, decide_eq_true_eq, decide_eq_false_iff_not, Bool.false_eq_true, if_pos, if_neg, hb, hn, hm, e2]
      · unfold f_X5_takeName
        rw [← ps_w P hs]
        simp (disch := omega) only [↓fLt_e, fBd_s, ↓fJn_s, fNn_s, fNu_0, fNu_s, fBo_0, fBo_1, fBo_b, i_lit, i_neg1, nI_add, pk_mul, nI_clamp, i_le, i_lt, i_eq, fIx_n, nI_mI, mI_nI, mI_lt, nI_lt_m, mI_le, nI_le_m, xI_0, xI_s, bI_0, bI_1, bI_t, bI_f, n_31, j_bit, j_one, i_and, i_or, Nat.not_lt_zero, Nat.succ_ne_zero, Nat.add_one_ne_zero, Nat.add_one_sub_one, Nat.zero_le, Nat.or_zero, Nat.zero_or, Bool.not_true, Bool.not_false, Bool.true_and, Bool.false_and, Bool.and_true, Bool.and_false, ↓reduceIte, if_true, if_false, not_true_eq_false, not_false_eq_true, true_and, and_true, false_and, and_false, and_self, true_or, or_true, false_or, or_false, Nat.reduceEqDiff, Nat.reduceLT, Nat.reduceLeDiff, Nat.reduceAdd, Nat.reduceMul, Nat.reduceSub, Nat.add_zero, Nat.zero_add, Nat.mul_zero, Nat.zero_mul, ne_eq, Bool.not_eq_true, Bool.not_eq_false, reduceCtorEq, decide_true, decide_false, decide_eq_true_eq, decide_eq_false_iff_not, Bool.false_eq_true, if_pos, if_neg, hso, hs, hx, e1]
      · rw [m2, gI_sI, if_pos ⟨rfl, rfl, rfl⟩]
  · rw [decide_eq_false hs] at hn
    obtain ⟨sc', sm', e1, e2, F, f1, f2⟩ := ps_wrong P
    have hf := F.2.2.2.1
    have hmu := m_must_no (sm := sm') ⟨F.1, F.2.1⟩ F.2.2.2.1 (nI 1)
    have h1 := F.1
    have h2 := F.2.1
    have k0 : ¬ nI (if so = 36 then 1 else 2) = nI 0 := by rw [i_eq _ _ (by omega) (by omega)]; omega
    refine ⟨sc', sm', nI 0, ?_, f1, f2, Or.inr ⟨?_, _, F⟩⟩
    · unfold f_X12_readTold
      simp (disch := omega) only [↓fJn_s, i_lit, hb, hn, bI_f, not_true_eq_false, not_false_eq_true, if_true, if_false, e2, fBd_s, hf, k0, ↓fLt_e, hmu]
    · unfold f_X5_takeName
      simp (disch := omega) only [↓fLt_e, fBd_s, ↓fJn_s, fNn_s, fNu_0, fNu_s, fBo_0, fBo_1, fBo_b, i_lit, i_neg1, nI_add, pk_mul, nI_clamp, i_le, i_lt, i_eq, fIx_n, nI_mI, mI_nI, mI_lt, nI_lt_m, mI_le, nI_le_m, xI_0, xI_s, bI_0, bI_1, bI_t, bI_f, n_31, j_bit, j_one, i_and, i_or, Nat.not_lt_zero, Nat.succ_ne_zero, Nat.add_one_ne_zero, Nat.add_one_sub_one, Nat.zero_le, Nat.or_zero, Nat.zero_or, Bool.not_true, Bool.not_false, Bool.true_and, Bool.false_and, Bool.and_true, Bool.and_false, ↓reduceIte, if_true, if_false, not_true_eq_false, not_false_eq_true, true_and, and_true, false_and, and_false, and_self, true_or, or_true, false_or, or_false, Nat.reduceEqDiff, Nat.reduceLT, Nat.reduceLeDiff, Nat.reduceAdd, Nat.reduceMul, Nat.reduceSub, Nat.add_zero, Nat.zero_add, Nat.mul_zero, Nat.zero_mul, ne_eq, Bool.not_eq_true, Bool.not_eq_false, reduceCtorEq, decide_true, decide_false, decide_eq_true_eq, decide_eq_false_iff_not, Bool.false_eq_true, if_pos, if_neg, hso, hs, e1]
end
