/-! layer 2: the items of a stage, both sides -/
theorem fBd_as {α β γ : Type} (o : Option (α × fSt)) (f : α → fSt → Option (β × fSt)) (g : β → fSt → Option γ) : fBd (fBd o f) g = fBd o (fun a s => fBd (f a s) g) := by
  cases o <;> rfl
section
variable {n : Nat} {c : Nat → Nat} {sc sm : fSt} {a p so : Nat}
theorem ps_t0 (P : psR sc sm n c a p so) : (gI sm 12 0 14 = nI 0) ↔ so = 35 := by
  rcases P.2.1 with ⟨h, h2, h3⟩ | ⟨h, h2, h3⟩ | ⟨h, h2, h3, -⟩ | ⟨h, h2, h3, -⟩ | ⟨h, h2, h3, -⟩ | ⟨h, h2, h3, -⟩ <;> rw [h3, i_eq _ _ (by omega) (by omega)] <;> omega
-- the class: one item
section
variable {q : Nat} {s : fSt} {k : Nat}
theorem lx_0 (hk : k < 900) (h : gI s 5 0 6 = nI 0) (k5 : Int32 → fSt → Option (Int32 × fSt)) (F : Nat) : f_X7_readFrom_L4 q k5 (F + 1) (nI 1) (nI k) s = fBd (f_X7_readRole q s) fun x s' => f_X7_readFrom_L4 q k5 F x (nI (k + 1)) s' := by
  have h9 : ¬ 900 ≤ k := by omega
  conv => lhs; unfold f_X7_readFrom_L4
  simp (disch := omega) only [↓fLt_e, fBd_s, ↓fJn_s, fNn_s, fNu_0, fNu_s, fBo_0, fBo_1, fBo_b, i_lit, i_neg1, nI_add, pk_mul, nI_clamp, i_le, i_lt, i_eq, fIx_n, nI_mI, mI_nI, mI_lt, nI_lt_m, mI_le, nI_le_m, xI_0, xI_s, bI_0, bI_1, bI_t, bI_f, n_31, j_bit, j_one, i_and, i_or, Nat.not_lt_zero, Nat.succ_ne_zero, Nat.add_one_ne_zero, Nat.add_one_sub_one, Nat.zero_le, Nat.or_zero, Nat.zero_or, Bool.not_true, Bool.not_false, Bool.true_and, Bool.false_and, Bool.and_true, Bool.and_false, ↓reduceIte, if_true, if_false, not_true_eq_false, not_false_eq_true, true_and, and_true, false_and, and_false, and_self, true_or, or_true, false_or, or_false, Nat.reduceEqDiff, Nat.reduceLT, Nat.reduceLeDiff, Nat.reduceAdd, Nat.reduceMul, Nat.reduceSub, Nat.add_zero, Nat.zero_add, Nat.mul_zero, Nat.zero_mul, ne_eq, Bool.not_eq_true, Bool.not_eq_false, reduceCtorEq, decide_true, decide_false, decide_eq_true_eq, decide_eq_false_iff_not, Bool.false_eq_true, if_pos, if_neg, h, h9]
theorem lx_1 (hk : k < 900) (h : gI s 5 0 6 = nI 1) (k5 : Int32 → fSt → Option (Int32 × fSt)) (F : Nat) : f_X7_readFrom_L4 q k5 (F + 1) (nI 1) (nI k) s = fBd (f_X7_readActor q s) fun x s' => f_X7_readFrom_L4 q k5 F x (nI (k + 1)) s' := by
  have h9 : ¬ 900 ≤ k := by omega
  conv => lhs; unfold f_X7_readFrom_L4
  simp (disch := omega) only [↓fLt_e, fBd_s, ↓fJn_s, fNn_s, fNu_0, fNu_s, fBo_0, fBo_1, fBo_b, i_lit, i_neg1, nI_add, pk_mul, nI_clamp, i_le, i_lt, i_eq, fIx_n, nI_mI, mI_nI, mI_lt, nI_lt_m, mI_le, nI_le_m, xI_0, xI_s, bI_0, bI_1, bI_t, bI_f, n_31, j_bit, j_one, i_and, i_or, Nat.not_lt_zero, Nat.succ_ne_zero, Nat.add_one_ne_zero, Nat.add_one_sub_one, Nat.zero_le, Nat.or_zero, Nat.zero_or, Bool.not_true, Bool.not_false, Bool.true_and, Bool.false_and, Bool.and_true, Bool.and_false, ↓reduceIte, if_true, if_false, not_true_eq_false, not_false_eq_true, true_and, and_true, false_and, and_false, and_self, true_or, or_true, false_or, or_false, Nat.reduceEqDiff, Nat.reduceLT, Nat.reduceLeDiff, Nat.reduceAdd, Nat.reduceMul, Nat.reduceSub, Nat.add_zero, Nat.zero_add, Nat.mul_zero, Nat.zero_mul, ne_eq, Bool.not_eq_true, Bool.not_eq_false, reduceCtorEq, decide_true, decide_false, decide_eq_true_eq, decide_eq_false_iff_not, Bool.false_eq_true, if_pos, if_neg, h, h9]
theorem lx_5 (hk : k < 900) (h : gI s 5 0 6 = nI 5) (k5 : Int32 → fSt → Option (Int32 × fSt)) (F : Nat) : f_X7_readFrom_L4 q k5 (F + 1) (nI 1) (nI k) s = fBd (f_X7_readScene q s) fun x s' => f_X7_readFrom_L4 q k5 F x (nI (k + 1)) s' := by
  have h9 : ¬ 900 ≤ k := by omega
  conv => lhs; unfold f_X7_readFrom_L4
  simp (disch := omega) only [↓fLt_e, fBd_s, ↓fJn_s, fNn_s, fNu_0, fNu_s, fBo_0, fBo_1, fBo_b, i_lit, i_neg1, nI_add, pk_mul, nI_clamp, i_le, i_lt, i_eq, fIx_n, nI_mI, mI_nI, mI_lt, nI_lt_m, mI_le, nI_le_m, xI_0, xI_s, bI_0, bI_1, bI_t, bI_f, n_31, j_bit, j_one, i_and, i_or, Nat.not_lt_zero, Nat.succ_ne_zero, Nat.add_one_ne_zero, Nat.add_one_sub_one, Nat.zero_le, Nat.or_zero, Nat.zero_or, Bool.not_true, Bool.not_false, Bool.true_and, Bool.false_and, Bool.and_true, Bool.and_false, ↓reduceIte, if_true, if_false, not_true_eq_false, not_false_eq_true, true_and, and_true, false_and, and_false, and_self, true_or, or_true, false_or, or_false, Nat.reduceEqDiff, Nat.reduceLT, Nat.reduceLeDiff, Nat.reduceAdd, Nat.reduceMul, Nat.reduceSub, Nat.add_zero, Nat.zero_add, Nat.mul_zero, Nat.zero_mul, ne_eq, Bool.not_eq_true, Bool.not_eq_false, reduceCtorEq, decide_true, decide_false, decide_eq_true_eq, decide_eq_false_iff_not, Bool.false_eq_true, if_pos, if_neg, h, h9]
theorem lx_14 (hk : k < 900) (h : gI s 5 0 6 = nI 14) (k5 : Int32 → fSt → Option (Int32 × fSt)) (F : Nat) : f_X7_readFrom_L4 q k5 (F + 1) (nI 1) (nI k) s = fBd (f_X7_readKind q s) fun x s' => f_X7_readFrom_L4 q k5 F x (nI (k + 1)) s' := by
  have h9 : ¬ 900 ≤ k := by omega
  conv => lhs; unfold f_X7_readFrom_L4
  simp (disch := omega) only [↓fLt_e, fBd_s, ↓fJn_s, fNn_s, fNu_0, fNu_s, fBo_0, fBo_1, fBo_b, i_lit, i_neg1, nI_add, pk_mul, nI_clamp, i_le, i_lt, i_eq, fIx_n, nI_mI, mI_nI, mI_lt, nI_lt_m, mI_le, nI_le_m, xI_0, xI_s, bI_0, bI_1, bI_t, bI_f, n_31, j_bit, j_one, i_and, i_or, Nat.not_lt_zero, Nat.succ_ne_zero, Nat.add_one_ne_zero, Nat.add_one_sub_one, Nat.zero_le, Nat.or_zero, Nat.zero_or, Bool.not_true, Bool.not_false, Bool.true_and, Bool.false_and, Bool.and_true, Bool.and_false, ↓reduceIte, if_true, if_false, not_true_eq_false, not_false_eq_true, true_and, and_true, false_and, and_false, and_self, true_or, or_true, false_or, or_false, Nat.reduceEqDiff, Nat.reduceLT, Nat.reduceLeDiff, Nat.reduceAdd, Nat.reduceMul, Nat.reduceSub, Nat.add_zero, Nat.zero_add, Nat.mul_zero, Nat.zero_mul, ne_eq, Bool.not_eq_true, Bool.not_eq_false, reduceCtorEq, decide_true, decide_false, decide_eq_true_eq, decide_eq_false_iff_not, Bool.false_eq_true, if_pos, if_neg, h, h9]
theorem lx_no {so : Nat} (hk : k < 900) (h : gI s 5 0 6 = nI so) (hs : (¬ so = 0 ∧ ¬ so = 1 ∧ ¬ so = 5 ∧ ¬ so = 14 ∧ ¬ so = 35) ∧ so < 64) (k5 : Int32 → fSt → Option (Int32 × fSt)) (F : Nat) : f_X7_readFrom_L4 q k5 (F + 1) (nI 1) (nI k) s = fBd (f_X5_failHere s) fun x s' => f_X7_readFrom_L4 q k5 F x (nI (k + 1)) s' := by
  have h9 : ¬ 900 ≤ k := by omega
  obtain ⟨⟨h0, h1, h5, h14, h35⟩, h64⟩ := hs
  conv => lhs; unfold f_X7_readFrom_L4
  simp (disch := omega) only [↓fLt_e, fBd_s, ↓fJn_s, fNn_s, fNu_0, fNu_s, fBo_0, fBo_1, fBo_b, i_lit, i_neg1, nI_add, pk_mul, nI_clamp, i_le, i_lt, i_eq, fIx_n, nI_mI, mI_nI, mI_lt, nI_lt_m, mI_le, nI_le_m, xI_0, xI_s, bI_0, bI_1, bI_t, bI_f, n_31, j_bit, j_one, i_and, i_or, Nat.not_lt_zero, Nat.succ_ne_zero, Nat.add_one_ne_zero, Nat.add_one_sub_one, Nat.zero_le, Nat.or_zero, Nat.zero_or, Bool.not_true, Bool.not_false, Bool.true_and, Bool.false_and, Bool.and_true, Bool.and_false, ↓reduceIte, if_true, if_false, not_true_eq_false, not_false_eq_true, true_and, and_true, false_and, and_false, and_self, true_or, or_true, false_or, or_false, Nat.reduceEqDiff, Nat.reduceLT, Nat.reduceLeDiff, Nat.reduceAdd, Nat.reduceMul, Nat.reduceSub, Nat.add_zero, Nat.zero_add, Nat.mul_zero, Nat.zero_mul, ne_eq, Bool.not_eq_true, Bool.not_eq_false, reduceCtorEq, decide_true, decide_false, decide_eq_true_eq, decide_eq_false_iff_not, Bool.false_eq_true, if_pos, if_neg, h, h9, h0, h1, h5, h14, h35]
theorem lx_end (h : gI s 5 0 6 = nI 35) (hk : k < 900) (k5 : Int32 → fSt → Option (Int32 × fSt)) (F : Nat) : f_X7_readFrom_L4 q k5 (F + 1) (nI 1) (nI k) s = k5 (nI 1) s := by
  have h9 : ¬ 900 ≤ k := by omega
  conv => lhs; unfold f_X7_readFrom_L4
  simp (disch := omega) only [↓fLt_e, fBd_s, ↓fJn_s, fNn_s, fNu_0, fNu_s, fBo_0, fBo_1, fBo_b, i_lit, i_neg1, nI_add, pk_mul, nI_clamp, i_le, i_lt, i_eq, fIx_n, nI_mI, mI_nI, mI_lt, nI_lt_m, mI_le, nI_le_m, xI_0, xI_s, bI_0, bI_1, bI_t, bI_f, n_31, j_bit, j_one, i_and, i_or, Nat.not_lt_zero, Nat.succ_ne_zero, Nat.add_one_ne_zero, Nat.add_one_sub_one, Nat.zero_le, Nat.or_zero, Nat.zero_or, Bool.not_true, Bool.not_false, Bool.true_and, Bool.false_and, Bool.and_true, Bool.and_false, ↓reduceIte, if_true, if_false, not_true_eq_false, not_false_eq_true, true_and, and_true, false_and, and_false, and_self, true_or, or_true, false_or, or_false, Nat.reduceEqDiff, Nat.reduceLT, Nat.reduceLeDiff, Nat.reduceAdd, Nat.reduceMul, Nat.reduceSub, Nat.add_zero, Nat.zero_add, Nat.mul_zero, Nat.zero_mul, ne_eq, Bool.not_eq_true, Bool.not_eq_false, reduceCtorEq, decide_true, decide_false, decide_eq_true_eq, decide_eq_false_iff_not, Bool.false_eq_true, if_pos, if_neg, h, h9]
theorem lx_bad (hk : k < 1000) (k5 : Int32 → fSt → Option (Int32 × fSt)) (F : Nat) : f_X7_readFrom_L4 q k5 (F + 1) (nI 0) (nI k) s = k5 (nI 0) s := by
  conv => lhs; unfold f_X7_readFrom_L4
  simp (disch := omega) only [↓fLt_e, fBd_s, ↓fJn_s, fNn_s, fNu_0, fNu_s, fBo_0, fBo_1, fBo_b, i_lit, i_neg1, nI_add, pk_mul, nI_clamp, i_le, i_lt, i_eq, fIx_n, nI_mI, mI_nI, mI_lt, nI_lt_m, mI_le, nI_le_m, xI_0, xI_s, bI_0, bI_1, bI_t, bI_f, n_31, j_bit, j_one, i_and, i_or, Nat.not_lt_zero, Nat.succ_ne_zero, Nat.add_one_ne_zero, Nat.add_one_sub_one, Nat.zero_le, Nat.or_zero, Nat.zero_or, Bool.not_true, Bool.not_false, Bool.true_and, Bool.false_and, Bool.and_true, Bool.and_false, ↓reduceIte, if_true, if_false, not_true_eq_false, not_false_eq_true, true_and, and_true, false_and, and_false, and_self, true_or, or_true, false_or, or_false, Nat.reduceEqDiff, Nat.reduceLT, Nat.reduceLeDiff, Nat.reduceAdd, Nat.reduceMul, Nat.reduceSub, Nat.add_zero, Nat.zero_add, Nat.mul_zero, Nat.zero_mul, ne_eq, Bool.not_eq_true, Bool.not_eq_false, reduceCtorEq, decide_true, decide_false, decide_eq_true_eq, decide_eq_false_iff_not, Bool.false_eq_true, if_pos, if_neg]
  split <;> rfl
end
-- the reference: one item
section
variable {s : fSt}
noncomputable def lmK (k9 : fSt → Option (Int32 × fSt)) (F : Nat) (s : fSt) : Option (Int32 × fSt) := fBd (f_X12_isSign ((59 : Int32)) s) fun x s1 => fBd (f_X12_must x s1) fun _ s2 => f_X12_stage_L49 k9 F s2
theorem lm_K (h : gI s 12 0 12 = nI 0) (h0 : ¬ gI s 12 0 14 = nI 0) (k9 : fSt → Option (Int32 × fSt)) (F : Nat) : f_X12_stage_L49 k9 (F + 1) s = fBd (f_X12_isRole s) fun x1 s1 => if x1 = 0 then (fBd (f_X12_isActor s1) fun x2 s2 => if x2 = 0 then (fBd (f_X12_isScene s2) fun x3 s3 => if x3 = 0 then (fBd (f_X12_isKind s3) fun x4 s4 => if x4 = 0 then (fBd (f_X12_wrong s4) fun _ s5 => lmK k9 F s5) else fBd (f_X12_readKind s4) fun _ s5 => lmK k9 F s5) else fBd (f_X12_readScene s3) fun _ s5 => lmK k9 F s5) else fBd (f_X12_readActor s2) fun _ s5 => lmK k9 F s5) else fBd (f_X12_readRole s1) fun _ s5 => lmK k9 F s5 := by
  conv => lhs; unfold f_X12_stage_L49
  rw [if_neg (fun g => g h), if_neg (show ¬ gI s 12 0 14 = (0 : Int32) from h0)]
  rfl
theorem lmK_t (M : Option (Unit × fSt)) (k9 : fSt → Option (Int32 × fSt)) (F : Nat) : (fBd M fun _ s5 => lmK k9 F s5) = fBd (fBd M fun _ s => mTail s) fun _ s' => f_X12_stage_L49 k9 F s' := by
  rw [fBd_as]
  refine congrArg (fBd M) (funext fun _ => funext fun s => ?_)
  unfold mTail lmK
  rw [fBd_as]
  rfl
theorem lm_0 (h : gI s 12 0 12 = nI 0) (h0 : ¬ gI s 12 0 14 = nI 0) (e : f_X12_isRole s = some (bI true, s)) (k9 : fSt → Option (Int32 × fSt)) (F : Nat) : f_X12_stage_L49 k9 (F + 1) s = fBd (fBd (f_X12_readRole s) fun _ s => mTail s) fun _ s' => f_X12_stage_L49 k9 F s' := by
  rw [lm_K h h0, e, fBd_s, if_neg (by decide), lmK_t]
theorem lm_1 (h : gI s 12 0 12 = nI 0) (h0 : ¬ gI s 12 0 14 = nI 0) (e0 : f_X12_isRole s = some (bI false, s)) (e : f_X12_isActor s = some (bI true, s)) (k9 : fSt → Option (Int32 × fSt)) (F : Nat) : f_X12_stage_L49 k9 (F + 1) s = fBd (fBd (f_X12_readActor s) fun _ s => mTail s) fun _ s' => f_X12_stage_L49 k9 F s' := by
  rw [lm_K h h0, e0, fBd_s, if_pos (by decide), e, fBd_s, if_neg (by decide), lmK_t]
theorem lm_5 (h : gI s 12 0 12 = nI 0) (h0 : ¬ gI s 12 0 14 = nI 0) (e0 : f_X12_isRole s = some (bI false, s)) (e1 : f_X12_isActor s = some (bI false, s)) (e : f_X12_isScene s = some (bI true, s)) (k9 : fSt → Option (Int32 × fSt)) (F : Nat) : f_X12_stage_L49 k9 (F + 1) s = fBd (fBd (f_X12_readScene s) fun _ s => mTail s) fun _ s' => f_X12_stage_L49 k9 F s' := by
  rw [lm_K h h0, e0, fBd_s, if_pos (by decide), e1, fBd_s, if_pos (by decide), e, fBd_s, if_neg (by decide), lmK_t]
theorem lm_14 (h : gI s 12 0 12 = nI 0) (h0 : ¬ gI s 12 0 14 = nI 0) (e0 : f_X12_isRole s = some (bI false, s)) (e1 : f_X12_isActor s = some (bI false, s)) (e5 : f_X12_isScene s = some (bI false, s)) (e : f_X12_isKind s = some (bI true, s)) (k9 : fSt → Option (Int32 × fSt)) (F : Nat) : f_X12_stage_L49 k9 (F + 1) s = fBd (fBd (f_X12_readKind s) fun _ s => mTail s) fun _ s' => f_X12_stage_L49 k9 F s' := by
  rw [lm_K h h0, e0, fBd_s, if_pos (by decide), e1, fBd_s, if_pos (by decide), e5, fBd_s, if_pos (by decide), e, fBd_s, if_neg (by decide), lmK_t]
theorem lm_no (h : gI s 12 0 12 = nI 0) (h0 : ¬ gI s 12 0 14 = nI 0) (e0 : f_X12_isRole s = some (bI false, s)) (e1 : f_X12_isActor s = some (bI false, s)) (e5 : f_X12_isScene s = some (bI false, s)) (e : f_X12_isKind s = some (bI false, s)) (k9 : fSt → Option (Int32 × fSt)) (F : Nat) : f_X12_stage_L49 k9 (F + 1) s = fBd (fBd (f_X12_wrong s) fun _ s => mTail s) fun _ s' => f_X12_stage_L49 k9 F s' := by
  rw [lm_K h h0, e0, fBd_s, if_pos (by decide), e1, fBd_s, if_pos (by decide), e5, fBd_s, if_pos (by decide), e, fBd_s, if_pos (by decide), lmK_t]
theorem lm_end (h : gI s 12 0 12 = nI 0) (h0 : gI s 12 0 14 = nI 0) (k9 : fSt → Option (Int32 × fSt)) (F : Nat) : f_X12_stage_L49 k9 (F + 1) s = k9 s := by
  conv => lhs; unfold f_X12_stage_L49
  simp (disch := omega) only [↓fLt_e, fBd_s, ↓fJn_s, fNn_s, fNu_0, fNu_s, fBo_0, fBo_1, fBo_b, i_lit, i_neg1, nI_add, pk_mul, nI_clamp, i_le, i_lt, i_eq, fIx_n, nI_mI, mI_nI, mI_lt, nI_lt_m, mI_le, nI_le_m, xI_0, xI_s, bI_0, bI_1, bI_t, bI_f, n_31, j_bit, j_one, i_and, i_or, Nat.not_lt_zero, Nat.succ_ne_zero, Nat.add_one_ne_zero, Nat.add_one_sub_one, Nat.zero_le, Nat.or_zero, Nat.zero_or, Bool.not_true, Bool.not_false, Bool.true_and, Bool.false_and, Bool.and_true, Bool.and_false, ↓reduceIte, if_true, if_false, not_true_eq_false, not_false_eq_true, true_and, and_true, false_and, and_false, and_self, true_or, or_true, false_or, or_false, Nat.reduceEqDiff, Nat.reduceLT, Nat.reduceLeDiff, Nat.reduceAdd, Nat.reduceMul, Nat.reduceSub, Nat.add_zero, Nat.zero_add, Nat.mul_zero, Nat.zero_mul, ne_eq, Bool.not_eq_true, Bool.not_eq_false, reduceCtorEq, decide_true, decide_false, decide_eq_true_eq, decide_eq_false_iff_not, Bool.false_eq_true, if_pos, if_neg, h, h0]
theorem lm_bad (h : bad s) (k9 : fSt → Option (Int32 × fSt)) (F : Nat) : f_X12_stage_L49 k9 (F + 1) s = k9 s := by
  obtain ⟨k, hk, hk2⟩ := h
  have k0 : ¬ k = 0 := by omega
  conv => lhs; unfold f_X12_stage_L49
  simp (disch := omega) only [↓fLt_e, fBd_s, ↓fJn_s, fNn_s, fNu_0, fNu_s, fBo_0, fBo_1, fBo_b, i_lit, i_neg1, nI_add, pk_mul, nI_clamp, i_le, i_lt, i_eq, fIx_n, nI_mI, mI_nI, mI_lt, nI_lt_m, mI_le, nI_le_m, xI_0, xI_s, bI_0, bI_1, bI_t, bI_f, n_31, j_bit, j_one, i_and, i_or, Nat.not_lt_zero, Nat.succ_ne_zero, Nat.add_one_ne_zero, Nat.add_one_sub_one, Nat.zero_le, Nat.or_zero, Nat.zero_or, Bool.not_true, Bool.not_false, Bool.true_and, Bool.false_and, Bool.and_true, Bool.and_false, ↓reduceIte, if_true, if_false, not_true_eq_false, not_false_eq_true, true_and, and_true, false_and, and_false, and_self, true_or, or_true, false_or, or_false, Nat.reduceEqDiff, Nat.reduceLT, Nat.reduceLeDiff, Nat.reduceAdd, Nat.reduceMul, Nat.reduceSub, Nat.add_zero, Nat.zero_add, Nat.mul_zero, Nat.zero_mul, ne_eq, Bool.not_eq_true, Bool.not_eq_false, reduceCtorEq, decide_true, decide_false, decide_eq_true_eq, decide_eq_false_iff_not, Bool.false_eq_true, if_pos, if_neg, hk2, k0]
end
-- what the reading of all items does
def itO (n : Nat) (c : Nat → Nat) (q : Nat) (sc sm : fSt) (k Fx Fm : Nat) : Prop :=
  ∃ sc' sm', xQ q sc sc' ∧ yQ sm sm' ∧
    ((∃ G' a' p', sgR sc' sm' q G' ∧ psR sc' sm' n c a' p' 35 ∧ ∀ k5 k9, f_X7_readFrom_L4 q k5 Fx (nI 1) (nI k) sc = k5 (nI 1) sc' ∧ f_X12_stage_L49 k9 Fm sm = k9 sm') ∨
     (∃ d e, flR sc' sm' d e ∧ ∀ k5 k9, f_X7_readFrom_L4 q k5 Fx (nI 1) (nI k) sc = k5 (nI 0) sc' ∧ f_X12_stage_L49 k9 Fm sm = k9 sm'))
theorem it_one {q k Fx Fm : Nat} {X : fSt → Option (Int32 × fSt)} {M : fSt → Option (Unit × fSt)} (hk : k < 900) (hI : itR n c q sc sm p X M)
    (hX : ∀ k5, f_X7_readFrom_L4 q k5 (Fx + 2) (nI 1) (nI k) sc = fBd (X sc) fun x s' => f_X7_readFrom_L4 q k5 (Fx + 1) x (nI (k + 1)) s')
    (hM : ∀ k9, f_X12_stage_L49 k9 (Fm + 2) sm = fBd (fBd (M sm) fun _ s => mTail s) fun _ s' => f_X12_stage_L49 k9 (Fm + 1) s')
    (next : ∀ sc' sm' G' a' p' so', sgR sc' sm' q G' → psR sc' sm' n c a' p' so' → (p ≤ a' ∧ (¬ so' = 35 → p < p')) → itO n c q sc' sm' (k + 1) (Fx + 1) (Fm + 1)) : itO n c q sc sm k (Fx + 2) (Fm + 2) := by
  obtain ⟨s1, t1, e1, f1, g1, h⟩ := hI
  rcases h with ⟨d1, G', a', p', so', S', P', m⟩ | ⟨d1, d, e, F⟩
  · obtain ⟨s2, t2, f2, g2, h⟩ := next s1 t1 G' a' p' so' S' P' m
    refine ⟨s2, t2, xQ_tr f1 f2, yQ_tr g1 g2, ?_⟩
    rcases h with ⟨G2, a2, p2, S2, P2, h⟩ | ⟨d, e, F, h⟩
    · refine Or.inl ⟨G2, a2, p2, S2, P2, fun k5 k9 => ⟨?_, ?_⟩⟩
      · rw [hX, d1, fBd_s]; exact (h k5 k9).1
      · rw [hM, e1, fBd_s]; exact (h k5 k9).2
    · refine Or.inr ⟨d, e, F, fun k5 k9 => ⟨?_, ?_⟩⟩
      · rw [hX, d1, fBd_s]; exact (h k5 k9).1
      · rw [hM, e1, fBd_s]; exact (h k5 k9).2
  · refine ⟨s1, t1, f1, g1, Or.inr ⟨d, e, F, fun k5 k9 => ⟨?_, ?_⟩⟩⟩
    · rw [hX, d1, fBd_s]
      exact lx_bad (by omega) _ _
    · rw [hM, e1, fBd_s]
      exact lm_bad (bad_fl F) _ _
end
section
variable {n : Nat} {c : Nat → Nat}
/-- all items -/
theorem ps_items {q : Nat} : ∀ d (sc sm : fSt) (G : Nat → Nat) a p so k Fx Fm, psR sc sm n c a p so → sgR sc sm q G → (¬ so = 35 → k < p) → k ≤ n → n < k + d → d < Fx → d < Fm → k < 900 ∨ so = 35 → k ≤ 899 → itO n c q sc sm k (Fx + 1) (Fm + 1) := by
  intro d
  induction d with
  | zero =>
    intro sc sm G a p so k Fx Fm P S hkp hk hd
    omega
  | succ d ih =>
    intro sc sm G a p so k Fx Fm P S hkp hk hd hFx hFm _ h899
    obtain ⟨Fx, rfl⟩ : ∃ F', Fx = F' + 1 := ⟨Fx - 1, by omega⟩
    obtain ⟨Fm, rfl⟩ : ∃ F', Fm = F' + 1 := ⟨Fm - 1, by omega⟩
    have hb := P.2.2.2.1
    have hso := ps_so P
    have h64 := tok_35 P.2.1
    have hpp := P.2.2.1.2.2.2.2
    have hn := P.1.1
    have ht := ps_t0 P
    by_cases h35 : so = 35
    · refine ⟨sc, sm, xQ_rf q sc, yQ_rf sm, Or.inl ⟨G, a, p, S, by rw [← h35]; exact P, fun k5 k9 => ⟨lx_end (by rw [hso, h35]) (by omega) _ _, lm_end hb (ht.mpr h35) _ _⟩⟩⟩
    have h0 : ¬ gI sm 12 0 14 = nI 0 := fun h => h35 (ht.mp h)
    have hkp := hkp h35
    have hnext : ∀ sc' sm' G' a' p' so', sgR sc' sm' q G' → psR sc' sm' n c a' p' so' → (p ≤ a' ∧ (¬ so' = 35 → p < p')) → itO n c q sc' sm' (k + 1) (Fx + 1) (Fm + 1) := by
      intro sc' sm' G' a' p' so' S' P' m
      have hpp' := P'.2.2.1.2.2.2.2
      by_cases hk8 : k + 1 ≤ 899
      · refine ih sc' sm' G' a' p' so' (k + 1) Fx Fm P' S' (fun h => ?_) (by omega) (by omega) (by omega) (by omega) (Or.inl (by omega)) hk8
        have := m.2 h
        omega
      · have h35' : so' = 35 := by
          refine Decidable.byContradiction fun h => ?_
          have := m.2 h
          omega
        have hb' := P'.2.2.2.1
        have hso' := ps_so P'
        have ht' := ps_t0 P'
        refine ⟨sc', sm', xQ_rf q sc', yQ_rf sm', Or.inl ⟨G', a', p', S', by rw [← h35']; exact P', fun k5 k9 => ⟨?_, lm_end hb' (ht'.mpr h35') _ _⟩⟩⟩
        have h9 : 900 ≤ k + 1 := by omega
        unfold f_X7_readFrom_L4
        simp (disch := omega) only [↓fLt_e, fBd_s, ↓fJn_s, fNn_s, fNu_0, fNu_s, fBo_0, fBo_1, fBo_b, i_lit, i_neg1, nI_add, pk_mul, nI_clamp, i_le, i_lt, i_eq, fIx_n, nI_mI, mI_nI, mI_lt, nI_lt_m, mI_le, nI_le_m, xI_0, xI_s, bI_0, bI_1, bI_t, bI_f, n_31, j_bit, j_one, i_and, i_or, Nat.not_lt_zero, Nat.succ_ne_zero, Nat.add_one_ne_zero, Nat.add_one_sub_one, Nat.zero_le, Nat.or_zero, Nat.zero_or, Bool.not_true, Bool.not_false, Bool.true_and, Bool.false_and, Bool.and_true, Bool.and_false, ↓reduceIte, if_true, if_false, not_true_eq_false, not_false_eq_true, true_and, and_true, false_and, and_false, and_self, true_or, or_true, false_or, or_false, Nat.reduceEqDiff, Nat.reduceLT, Nat.reduceLeDiff, Nat.reduceAdd, Nat.reduceMul, Nat.reduceSub, Nat.add_zero, Nat.zero_add, Nat.mul_zero, Nat.zero_mul, ne_eq, Bool.not_eq_true, Bool.not_eq_false, reduceCtorEq, decide_true, decide_false, decide_eq_true_eq, decide_eq_false_iff_not, Bool.false_eq_true, if_pos, if_neg, h9]
    have er := ps_role P
    have ea := ps_actor P
    have es := ps_scene P
    have ek := ps_kind P
    by_cases c0 : so = 0
    · rw [decide_eq_true c0] at er
      exact it_one (by omega) (ps_readRole P S) (fun k5 => lx_0 (by omega) (by rw [hso, c0]) k5 (Fx + 1)) (fun k9 => lm_0 hb h0 er k9 (Fm + 1)) hnext
    rw [decide_eq_false c0] at er
    by_cases c1 : so = 1
    · rw [decide_eq_true c1] at ea
      exact it_one (by omega) (ps_readActor P S) (fun k5 => lx_1 (by omega) (by rw [hso, c1]) k5 (Fx + 1)) (fun k9 => lm_1 hb h0 er ea k9 (Fm + 1)) hnext
    rw [decide_eq_false c1] at ea
    by_cases c5 : so = 5
    · rw [decide_eq_true c5] at es
      exact it_one (by omega) (ps_readScene P S) (fun k5 => lx_5 (by omega) (by rw [hso, c5]) k5 (Fx + 1)) (fun k9 => lm_5 hb h0 er ea es k9 (Fm + 1)) hnext
    rw [decide_eq_false c5] at es
    by_cases c14 : so = 14
    · rw [decide_eq_true c14] at ek
      exact it_one (by omega) (ps_readKind P S) (fun k5 => lx_14 (by omega) (by rw [hso, c14]) k5 (Fx + 1)) (fun k9 => lm_14 hb h0 er ea es ek k9 (Fm + 1)) hnext
    rw [decide_eq_false c14] at ek
    obtain ⟨s2, t2, w1, w2, F, f2, g2⟩ := ps_wrong P
    refine ⟨s2, t2, xQ_x f2, yQ_y g2, Or.inr ⟨_, _, F, fun k5 k9 => ⟨?_, ?_⟩⟩⟩
    · rw [lx_no (by omega) hso ⟨⟨c0, c1, c5, c14, h35⟩, h64⟩, w1, fBd_s]
      exact lx_bad (by omega) _ _
    · rw [lm_no hb h0 er ea es ek, w2, fBd_s, mTail_no ⟨F.1, F.2.1⟩ F.2.2.2.1, fBd_s]
      exact lm_bad (bad_fl F) _ _
end
