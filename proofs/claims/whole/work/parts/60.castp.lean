/-! layer 2: who plays what: the search as a function, the small functions of both sides -/
def anyN (c : Nat → Bool) : Nat → Bool
  | 0 => false
  | n + 1 => anyN c n || c n
theorem anyN_s (c : Nat → Bool) (n : Nat) : anyN c (n + 1) = (anyN c n || c n) := rfl
theorem anyN_iff (c : Nat → Bool) : ∀ n, anyN c n = true ↔ ∃ k, k < n ∧ c k = true := by
  intro n
  induction n with
  | zero =>
    constructor
    · intro h; exact absurd h (by simp [anyN])
    · rintro ⟨k, hk, -⟩; omega
  | succ n ih =>
    rw [anyN_s, Bool.or_eq_true, ih]
    constructor
    · rintro (⟨k, h1, h2⟩ | h)
      · exact ⟨k, by omega, h2⟩
      · exact ⟨n, by omega, h⟩
    · rintro ⟨k, h1, h2⟩
      by_cases hk : k = n
      · subst hk; exact Or.inr h2
      · exact Or.inl ⟨k, by omega, h2⟩
theorem lp_any {ρ : Type} (L : Nat → Nat → ρ) (yes no : ρ) (c : Nat → Bool) (N : Nat) (hy : ∀ m t, t < N → c t = true → L (m + 1) t = yes) (hn : ∀ m t, t < N → c t = false → L (m + 1) t = L m (t + 1)) (hN : ∀ m, L (m + 1) N = no) {F : Nat} (hF : N < F) : L F 0 = if anyN c N then yes else no := by
  have key : ∀ d t F, t + d = N → d < F → anyN c t = false → L F t = if anyN c N then yes else no := by
    intro d
    induction d with
    | zero =>
      intro t F h hF ha
      obtain ⟨m, rfl⟩ : ∃ k, F = k + 1 := ⟨F - 1, by omega⟩
      have ht : t = N := by omega
      subst ht
      rw [hN, ha]
      rfl
    | succ d ih =>
      intro t F h hF ha
      obtain ⟨m, rfl⟩ : ∃ k, F = k + 1 := ⟨F - 1, by omega⟩
      cases hc : c t with
      | true =>
        rw [hy m t (by omega) hc, (anyN_iff c N).mpr ⟨t, by omega, hc⟩]
        rfl
      | false =>
        rw [hn m t (by omega) hc]
        exact ih (t + 1) m (by omega) (by omega) (by rw [anyN_s, ha, hc]; rfl)
  exact key N 0 F (by omega) (by omega) rfl
def bsd (G : Nat → Nat) (r : Nat) : Nat := zor (fun s => if (G (37 + s)).testBit r then G (37 + s) else 0) (G 2)
def tog (G : Nat → Nat) (o r : Nat) : Bool := anyN (fun s => (G (37 + s)).testBit o && (G (37 + s)).testBit r) (G 2)
def insc (G : Nat → Nat) (r : Nat) : Bool := anyN (fun s => (G (37 + s)).testBit r) (G 2)
section
variable {sc sm : fSt} {q : Nat} {G : Nat → Nat}
theorem bsd_lt (w : gWf G) (r : Nat) : bsd G r < 64 := by
  unfold bsd
  refine zor_lt (b := 6) (fun k hk => ?_)
  have := w_pl w hk
  split <;> omega
theorem bsd_tog (r o : Nat) : (bsd G r).testBit o = tog G o r := by
  rw [Bool.eq_iff_iff]
  unfold bsd tog
  rw [zor_bit, anyN_iff]
  constructor
  · rintro ⟨k, h1, h2⟩
    refine ⟨k, h1, ?_⟩
    split at h2
    · rename_i h
      rw [h2, h]
      rfl
    · rw [Nat.zero_testBit] at h2
      exact absurd h2 (by decide)
  · rintro ⟨k, h1, h2⟩
    rw [Bool.and_eq_true] at h2
    refine ⟨k, h1, ?_⟩
    rw [if_pos h2.2]
    exact h2.1
theorem bsd_in (r : Nat) : insc G r = true ↔ ¬ bsd G r = 0 := by
  unfold insc
  rw [anyN_iff]
  constructor
  · rintro ⟨k, h1, h2⟩ h0
    have : (bsd G r).testBit r = true := by
      unfold bsd
      rw [zor_bit]
      exact ⟨k, h1, by rw [if_pos h2]; exact h2⟩
    rw [h0, Nat.zero_testBit] at this
    exact absurd this (by decide)
  · intro h
    refine Classical.byContradiction (fun hn => h ?_)
    apply Nat.eq_of_testBit_eq
    intro i
    rw [Nat.zero_testBit]
    cases hb : (bsd G r).testBit i with
    | false => rfl
    | true =>
      unfold bsd at hb
      rw [zor_bit] at hb
      obtain ⟨k, h1, h2⟩ := hb
      split at h2
      · rename_i h3
        exact absurd ⟨k, h1, h3⟩ hn
      · rw [Nat.zero_testBit] at h2
        exact absurd h2 (by decide)
theorem x_rolesBeside (H : rStg sc q G) (w : gWf G) {r : Nat} (hr : r < 6) : f_X7_rolesBeside q (nI r) sc = some (nI (bsd G r), sc) := by
  have h := w.1
  unfold f_X7_rolesBeside
  obtain ⟨m, e⟩ := lp_run (fun m (t : Int32 × Int32) => f_X7_rolesBeside_L4 q (nI r) m t.1 t.2 sc) (fun t => (nI (zor (fun s => if (G (37 + s)).testBit r then G (37 + s) else 0) t), nI t)) (G 2) (fun m t ht => by
    show f_X7_rolesBeside_L4 q (nI r) (m + 1) (nI (zor (fun s => if (G (37 + s)).testBit r then G (37 + s) else 0) t)) (nI t) sc = f_X7_rolesBeside_L4 q (nI r) m (nI (zor (fun s => if (G (37 + s)).testBit r then G (37 + s) else 0) (t + 1))) (nI (t + 1)) sc
    have hp := w_pl w ht
    obtain ⟨c0, c1, -⟩ := H.2.2.1 t ht
    rw [f_X7_rolesBeside_L4, zor_s]
    cases hb : (G (37 + t)).testBit r
    · simp (disch := omega) only [fLt_e, fBd_s, fJn_s, fNn_s, fNu_0, fNu_s, fBo_0, fBo_1, fBo_b, i_lit, i_neg1, nI_add, pk_mul, nI_clamp, i_le, i_lt, i_eq, fIx_n, nI_mI, mI_nI, mI_lt, nI_lt_m, mI_le, nI_le_m, xI_0, xI_s, bI_0, bI_1, bI_t, bI_f, n_31, j_bit, j_one, i_and, i_or, Nat.not_lt_zero, Nat.succ_ne_zero, Nat.add_one_ne_zero, Nat.add_one_sub_one, Nat.zero_le, Nat.or_zero, Nat.zero_or, Bool.not_true, Bool.not_false, Bool.true_and, Bool.false_and, Bool.and_true, Bool.and_false, ↓reduceIte, if_true, if_false, not_true_eq_false, not_false_eq_true, true_and, and_true, false_and, and_false, and_self, true_or, or_true, false_or, or_false, Nat.reduceEqDiff, Nat.reduceLT, Nat.reduceLeDiff, Nat.reduceAdd, Nat.reduceMul, Nat.reduceSub, Nat.add_zero, Nat.zero_add, Nat.mul_zero, Nat.zero_mul, ne_eq, Bool.not_eq_true, Bool.not_eq_false, reduceCtorEq, decide_true, decide_false, decide_eq_true_eq, decide_eq_false_iff_not, Bool.false_eq_true, if_pos, if_neg, H.1.2.2.1, c0, c1, hb]
    · simp (disch := omega) only [fLt_e, fBd_s, fJn_s, fNn_s, fNu_0, fNu_s, fBo_0, fBo_1, fBo_b, i_lit, i_neg1, nI_add, pk_mul, nI_clamp, i_le, i_lt, i_eq, fIx_n, nI_mI, mI_nI, mI_lt, nI_lt_m, mI_le, nI_le_m, xI_0, xI_s, bI_0, bI_1, bI_t, bI_f, n_31, j_bit, j_one, i_and, i_or, Nat.not_lt_zero, Nat.succ_ne_zero, Nat.add_one_ne_zero, Nat.add_one_sub_one, Nat.zero_le, Nat.or_zero, Nat.zero_or, Bool.not_true, Bool.not_false, Bool.true_and, Bool.false_and, Bool.and_true, Bool.and_false, ↓reduceIte, if_true, if_false, not_true_eq_false, not_false_eq_true, true_and, and_true, false_and, and_false, and_self, true_or, or_true, false_or, or_false, Nat.reduceEqDiff, Nat.reduceLT, Nat.reduceLeDiff, Nat.reduceAdd, Nat.reduceMul, Nat.reduceSub, Nat.add_zero, Nat.zero_add, Nat.mul_zero, Nat.zero_mul, ne_eq, Bool.not_eq_true, Bool.not_eq_false, reduceCtorEq, decide_true, decide_false, decide_eq_true_eq, decide_eq_false_iff_not, Bool.false_eq_true, if_pos, if_neg, H.1.2.2.1, c0, c1, hb]) (fF_lt (by omega))
  refine Eq.trans e ?_
  show f_X7_rolesBeside_L4 q (nI r) (m + 1) (nI (zor (fun s => if (G (37 + s)).testBit r then G (37 + s) else 0) (G 2))) (nI (G 2)) sc = _
  rw [f_X7_rolesBeside_L4]
  simp (disch := omega) only [fLt_e, fBd_s, fJn_s, fNn_s, fNu_0, fNu_s, fBo_0, fBo_1, fBo_b, i_lit, i_neg1, nI_add, pk_mul, nI_clamp, i_le, i_lt, i_eq, fIx_n, nI_mI, mI_nI, mI_lt, nI_lt_m, mI_le, nI_le_m, xI_0, xI_s, bI_0, bI_1, bI_t, bI_f, n_31, j_bit, j_one, i_and, i_or, Nat.not_lt_zero, Nat.succ_ne_zero, Nat.add_one_ne_zero, Nat.add_one_sub_one, Nat.zero_le, Nat.or_zero, Nat.zero_or, Bool.not_true, Bool.not_false, Bool.true_and, Bool.false_and, Bool.and_true, Bool.and_false, ↓reduceIte, if_true, if_false, not_true_eq_false, not_false_eq_true, true_and, and_true, false_and, and_false, and_self, true_or, or_true, false_or, or_false, Nat.reduceEqDiff, Nat.reduceLT, Nat.reduceLeDiff, Nat.reduceAdd, Nat.reduceMul, Nat.reduceSub, Nat.add_zero, Nat.zero_add, Nat.mul_zero, Nat.zero_mul, ne_eq, Bool.not_eq_true, Bool.not_eq_false, reduceCtorEq, decide_true, decide_false, decide_eq_true_eq, decide_eq_false_iff_not, Bool.false_eq_true, if_pos, if_neg, H.1.2.2.1]
  rfl
theorem x_rolesInAny (H : rStg sc q G) (w : gWf G) : f_X7_rolesInAny q sc = some (nI (zor (fun s => G (37 + s)) (G 2)), sc) := by
  have h := w.1
  unfold f_X7_rolesInAny
  obtain ⟨m, e⟩ := lp_run (fun m (t : Int32 × Int32) => f_X7_rolesInAny_L4 q m t.1 t.2 sc) (fun t => (nI (zor (fun s => G (37 + s)) t), nI t)) (G 2) (fun m t ht => by
    show f_X7_rolesInAny_L4 q (m + 1) (nI (zor (fun s => G (37 + s)) t)) (nI t) sc = f_X7_rolesInAny_L4 q m (nI (zor (fun s => G (37 + s)) (t + 1))) (nI (t + 1)) sc
    obtain ⟨c0, c1, -⟩ := H.2.2.1 t ht
    rw [f_X7_rolesInAny_L4, zor_s]
    simp (disch := omega) only [fLt_e, fBd_s, fJn_s, fNn_s, fNu_0, fNu_s, fBo_0, fBo_1, fBo_b, i_lit, i_neg1, nI_add, pk_mul, nI_clamp, i_le, i_lt, i_eq, fIx_n, nI_mI, mI_nI, mI_lt, nI_lt_m, mI_le, nI_le_m, xI_0, xI_s, bI_0, bI_1, bI_t, bI_f, n_31, j_bit, j_one, i_and, i_or, Nat.not_lt_zero, Nat.succ_ne_zero, Nat.add_one_ne_zero, Nat.add_one_sub_one, Nat.zero_le, Nat.or_zero, Nat.zero_or, Bool.not_true, Bool.not_false, Bool.true_and, Bool.false_and, Bool.and_true, Bool.and_false, ↓reduceIte, if_true, if_false, not_true_eq_false, not_false_eq_true, true_and, and_true, false_and, and_false, and_self, true_or, or_true, false_or, or_false, Nat.reduceEqDiff, Nat.reduceLT, Nat.reduceLeDiff, Nat.reduceAdd, Nat.reduceMul, Nat.reduceSub, Nat.add_zero, Nat.zero_add, Nat.mul_zero, Nat.zero_mul, ne_eq, Bool.not_eq_true, Bool.not_eq_false, reduceCtorEq, decide_true, decide_false, decide_eq_true_eq, decide_eq_false_iff_not, Bool.false_eq_true, if_pos, if_neg, H.1.2.2.1, c1]) (fF_lt (by omega))
  refine Eq.trans e ?_
  show f_X7_rolesInAny_L4 q (m + 1) (nI (zor (fun s => G (37 + s)) (G 2))) (nI (G 2)) sc = _
  rw [f_X7_rolesInAny_L4]
  simp (disch := omega) only [fLt_e, fBd_s, fJn_s, fNn_s, fNu_0, fNu_s, fBo_0, fBo_1, fBo_b, i_lit, i_neg1, nI_add, pk_mul, nI_clamp, i_le, i_lt, i_eq, fIx_n, nI_mI, mI_nI, mI_lt, nI_lt_m, mI_le, nI_le_m, xI_0, xI_s, bI_0, bI_1, bI_t, bI_f, n_31, j_bit, j_one, i_and, i_or, Nat.not_lt_zero, Nat.succ_ne_zero, Nat.add_one_ne_zero, Nat.add_one_sub_one, Nat.zero_le, Nat.or_zero, Nat.zero_or, Bool.not_true, Bool.not_false, Bool.true_and, Bool.false_and, Bool.and_true, Bool.and_false, ↓reduceIte, if_true, if_false, not_true_eq_false, not_false_eq_true, true_and, and_true, false_and, and_false, and_self, true_or, or_true, false_or, or_false, Nat.reduceEqDiff, Nat.reduceLT, Nat.reduceLeDiff, Nat.reduceAdd, Nat.reduceMul, Nat.reduceSub, Nat.add_zero, Nat.zero_add, Nat.mul_zero, Nat.zero_mul, ne_eq, Bool.not_eq_true, Bool.not_eq_false, reduceCtorEq, decide_true, decide_false, decide_eq_true_eq, decide_eq_false_iff_not, Bool.false_eq_true, if_pos, if_neg, H.1.2.2.1]
theorem m_areTogether (B : rBlk (gA sm 12 0 5) G) (w : gWf G) {o r : Nat} (ho : o < 6) (hr : r < 6) : f_X12_areTogether (nI o) (nI r) sm = some (bI (tog G o r), sm) := by
  have h := w.1
  unfold f_X12_areTogether
  have e := lp_any (fun m t => f_X12_areTogether_L2 (nI o) (nI r) m (nI t) sm) (some (nI 1, sm)) (some (nI 0, sm)) (fun s => (G (37 + s)).testBit o && (G (37 + s)).testBit r) (G 2) (fun m t ht hc => by
    have hp := w_pl w ht
    obtain ⟨c0, c1, -⟩ := B.2.2.1 t ht
    rw [Bool.and_eq_true] at hc
    rw [f_X12_areTogether_L2]
    simp (disch := omega) only [fLt_e, fBd_s, fJn_s, fNn_s, fNu_0, fNu_s, fBo_0, fBo_1, fBo_b, i_lit, i_neg1, nI_add, pk_mul, nI_clamp, i_le, i_lt, i_eq, fIx_n, nI_mI, mI_nI, mI_lt, nI_lt_m, mI_le, nI_le_m, xI_0, xI_s, bI_0, bI_1, bI_t, bI_f, n_31, j_bit, j_one, i_and, i_or, Nat.not_lt_zero, Nat.succ_ne_zero, Nat.add_one_ne_zero, Nat.add_one_sub_one, Nat.zero_le, Nat.or_zero, Nat.zero_or, Bool.not_true, Bool.not_false, Bool.true_and, Bool.false_and, Bool.and_true, Bool.and_false, ↓reduceIte, if_true, if_false, not_true_eq_false, not_false_eq_true, true_and, and_true, false_and, and_false, and_self, true_or, or_true, false_or, or_false, Nat.reduceEqDiff, Nat.reduceLT, Nat.reduceLeDiff, Nat.reduceAdd, Nat.reduceMul, Nat.reduceSub, Nat.add_zero, Nat.zero_add, Nat.mul_zero, Nat.zero_mul, ne_eq, Bool.not_eq_true, Bool.not_eq_false, reduceCtorEq, decide_true, decide_false, decide_eq_true_eq, decide_eq_false_iff_not, Bool.false_eq_true, if_pos, if_neg, B.1.2.2.1, c1, m_has, hc.1, hc.2]) (fun m t ht hc => by
    have hp := w_pl w ht
    obtain ⟨c0, c1, -⟩ := B.2.2.1 t ht
    rw [f_X12_areTogether_L2]
    cases hb : (G (37 + t)).testBit o with
    | false => simp (disch := omega) only [fLt_e, fBd_s, fJn_s, fNn_s, fNu_0, fNu_s, fBo_0, fBo_1, fBo_b, i_lit, i_neg1, nI_add, pk_mul, nI_clamp, i_le, i_lt, i_eq, fIx_n, nI_mI, mI_nI, mI_lt, nI_lt_m, mI_le, nI_le_m, xI_0, xI_s, bI_0, bI_1, bI_t, bI_f, n_31, j_bit, j_one, i_and, i_or, Nat.not_lt_zero, Nat.succ_ne_zero, Nat.add_one_ne_zero, Nat.add_one_sub_one, Nat.zero_le, Nat.or_zero, Nat.zero_or, Bool.not_true, Bool.not_false, Bool.true_and, Bool.false_and, Bool.and_true, Bool.and_false, ↓reduceIte, if_true, if_false, not_true_eq_false, not_false_eq_true, true_and, and_true, false_and, and_false, and_self, true_or, or_true, false_or, or_false, Nat.reduceEqDiff, Nat.reduceLT, Nat.reduceLeDiff, Nat.reduceAdd, Nat.reduceMul, Nat.reduceSub, Nat.add_zero, Nat.zero_add, Nat.mul_zero, Nat.zero_mul, ne_eq, Bool.not_eq_true, Bool.not_eq_false, reduceCtorEq, decide_true, decide_false, decide_eq_true_eq, decide_eq_false_iff_not, Bool.false_eq_true, if_pos, if_neg, B.1.2.2.1, c1, m_has, hb]
    | true =>
      rw [hb, Bool.true_and] at hc
      simp (disch := omega) only [fLt_e, fBd_s, fJn_s, fNn_s, fNu_0, fNu_s, fBo_0, fBo_1, fBo_b, i_lit, i_neg1, nI_add, pk_mul, nI_clamp, i_le, i_lt, i_eq, fIx_n, nI_mI, mI_nI, mI_lt, nI_lt_m, mI_le, nI_le_m, xI_0, xI_s, bI_0, bI_1, bI_t, bI_f, n_31, j_bit, j_one, i_and, i_or, Nat.not_lt_zero, Nat.succ_ne_zero, Nat.add_one_ne_zero, Nat.add_one_sub_one, Nat.zero_le, Nat.or_zero, Nat.zero_or, Bool.not_true, Bool.not_false, Bool.true_and, Bool.false_and, Bool.and_true, Bool.and_false, ↓reduceIte, if_true, if_false, not_true_eq_false, not_false_eq_true, true_and, and_true, false_and, and_false, and_self, true_or, or_true, false_or, or_false, Nat.reduceEqDiff, Nat.reduceLT, Nat.reduceLeDiff, Nat.reduceAdd, Nat.reduceMul, Nat.reduceSub, Nat.add_zero, Nat.zero_add, Nat.mul_zero, Nat.zero_mul, ne_eq, Bool.not_eq_true, Bool.not_eq_false, reduceCtorEq, decide_true, decide_false, decide_eq_true_eq, decide_eq_false_iff_not, Bool.false_eq_true, if_pos, if_neg, B.1.2.2.1, c1, m_has, hb, hc]) (fun m => by
    rw [f_X12_areTogether_L2]
    simp (disch := omega) only [fLt_e, fBd_s, fJn_s, fNn_s, fNu_0, fNu_s, fBo_0, fBo_1, fBo_b, i_lit, i_neg1, nI_add, pk_mul, nI_clamp, i_le, i_lt, i_eq, fIx_n, nI_mI, mI_nI, mI_lt, nI_lt_m, mI_le, nI_le_m, xI_0, xI_s, bI_0, bI_1, bI_t, bI_f, n_31, j_bit, j_one, i_and, i_or, Nat.not_lt_zero, Nat.succ_ne_zero, Nat.add_one_ne_zero, Nat.add_one_sub_one, Nat.zero_le, Nat.or_zero, Nat.zero_or, Bool.not_true, Bool.not_false, Bool.true_and, Bool.false_and, Bool.and_true, Bool.and_false, ↓reduceIte, if_true, if_false, not_true_eq_false, not_false_eq_true, true_and, and_true, false_and, and_false, and_self, true_or, or_true, false_or, or_false, Nat.reduceEqDiff, Nat.reduceLT, Nat.reduceLeDiff, Nat.reduceAdd, Nat.reduceMul, Nat.reduceSub, Nat.add_zero, Nat.zero_add, Nat.mul_zero, Nat.zero_mul, ne_eq, Bool.not_eq_true, Bool.not_eq_false, reduceCtorEq, decide_true, decide_false, decide_eq_true_eq, decide_eq_false_iff_not, Bool.false_eq_true, if_pos, if_neg, B.1.2.2.1]) (fF_lt (show G 2 < 4000000 by omega))
  refine Eq.trans e ?_
  have ht : anyN (fun s => (G (37 + s)).testBit o && (G (37 + s)).testBit r) (G 2) = tog G o r := rfl
  rw [ht]
  cases tog G o r <;> rfl
theorem m_isInScene (B : rBlk (gA sm 12 0 5) G) (w : gWf G) {r : Nat} (hr : r < 6) : f_X12_isInScene (nI r) sm = some (bI (insc G r), sm) := by
  have h := w.1
  unfold f_X12_isInScene
  have e := lp_any (fun m t => f_X12_isInScene_L2 (nI r) m (nI t) sm) (some (nI 1, sm)) (some (nI 0, sm)) (fun s => (G (37 + s)).testBit r) (G 2) (fun m t ht hc => by
    have hp := w_pl w ht
    obtain ⟨c0, c1, -⟩ := B.2.2.1 t ht
    rw [f_X12_isInScene_L2]
    simp (disch := omega) only [fLt_e, fBd_s, fJn_s, fNn_s, fNu_0, fNu_s, fBo_0, fBo_1, fBo_b, i_lit, i_neg1, nI_add, pk_mul, nI_clamp, i_le, i_lt, i_eq, fIx_n, nI_mI, mI_nI, mI_lt, nI_lt_m, mI_le, nI_le_m, xI_0, xI_s, bI_0, bI_1, bI_t, bI_f, n_31, j_bit, j_one, i_and, i_or, Nat.not_lt_zero, Nat.succ_ne_zero, Nat.add_one_ne_zero, Nat.add_one_sub_one, Nat.zero_le, Nat.or_zero, Nat.zero_or, Bool.not_true, Bool.not_false, Bool.true_and, Bool.false_and, Bool.and_true, Bool.and_false, ↓reduceIte, if_true, if_false, not_true_eq_false, not_false_eq_true, true_and, and_true, false_and, and_false, and_self, true_or, or_true, false_or, or_false, Nat.reduceEqDiff, Nat.reduceLT, Nat.reduceLeDiff, Nat.reduceAdd, Nat.reduceMul, Nat.reduceSub, Nat.add_zero, Nat.zero_add, Nat.mul_zero, Nat.zero_mul, ne_eq, Bool.not_eq_true, Bool.not_eq_false, reduceCtorEq, decide_true, decide_false, decide_eq_true_eq, decide_eq_false_iff_not, Bool.false_eq_true, if_pos, if_neg, B.1.2.2.1, c1, m_has, hc]) (fun m t ht hc => by
    have hp := w_pl w ht
    obtain ⟨c0, c1, -⟩ := B.2.2.1 t ht
    rw [f_X12_isInScene_L2]
    simp (disch := omega) only [fLt_e, fBd_s, fJn_s, fNn_s, fNu_0, fNu_s, fBo_0, fBo_1, fBo_b, i_lit, i_neg1, nI_add, pk_mul, nI_clamp, i_le, i_lt, i_eq, fIx_n, nI_mI, mI_nI, mI_lt, nI_lt_m, mI_le, nI_le_m, xI_0, xI_s, bI_0, bI_1, bI_t, bI_f, n_31, j_bit, j_one, i_and, i_or, Nat.not_lt_zero, Nat.succ_ne_zero, Nat.add_one_ne_zero, Nat.add_one_sub_one, Nat.zero_le, Nat.or_zero, Nat.zero_or, Bool.not_true, Bool.not_false, Bool.true_and, Bool.false_and, Bool.and_true, Bool.and_false, ↓reduceIte, if_true, if_false, not_true_eq_false, not_false_eq_true, true_and, and_true, false_and, and_false, and_self, true_or, or_true, false_or, or_false, Nat.reduceEqDiff, Nat.reduceLT, Nat.reduceLeDiff, Nat.reduceAdd, Nat.reduceMul, Nat.reduceSub, Nat.add_zero, Nat.zero_add, Nat.mul_zero, Nat.zero_mul, ne_eq, Bool.not_eq_true, Bool.not_eq_false, reduceCtorEq, decide_true, decide_false, decide_eq_true_eq, decide_eq_false_iff_not, Bool.false_eq_true, if_pos, if_neg, B.1.2.2.1, c1, m_has, hc]) (fun m => by
    rw [f_X12_isInScene_L2]
    simp (disch := omega) only [fLt_e, fBd_s, fJn_s, fNn_s, fNu_0, fNu_s, fBo_0, fBo_1, fBo_b, i_lit, i_neg1, nI_add, pk_mul, nI_clamp, i_le, i_lt, i_eq, fIx_n, nI_mI, mI_nI, mI_lt, nI_lt_m, mI_le, nI_le_m, xI_0, xI_s, bI_0, bI_1, bI_t, bI_f, n_31, j_bit, j_one, i_and, i_or, Nat.not_lt_zero, Nat.succ_ne_zero, Nat.add_one_ne_zero, Nat.add_one_sub_one, Nat.zero_le, Nat.or_zero, Nat.zero_or, Bool.not_true, Bool.not_false, Bool.true_and, Bool.false_and, Bool.and_true, Bool.and_false, ↓reduceIte, if_true, if_false, not_true_eq_false, not_false_eq_true, true_and, and_true, false_and, and_false, and_self, true_or, or_true, false_or, or_false, Nat.reduceEqDiff, Nat.reduceLT, Nat.reduceLeDiff, Nat.reduceAdd, Nat.reduceMul, Nat.reduceSub, Nat.add_zero, Nat.zero_add, Nat.mul_zero, Nat.zero_mul, ne_eq, Bool.not_eq_true, Bool.not_eq_false, reduceCtorEq, decide_true, decide_false, decide_eq_true_eq, decide_eq_false_iff_not, Bool.false_eq_true, if_pos, if_neg, B.1.2.2.1]) (fF_lt (show G 2 < 4000000 by omega))
  refine Eq.trans e ?_
  have ht : anyN (fun s => (G (37 + s)).testBit r) (G 2) = insc G r := rfl
  rw [ht]
  cases insc G r <;> rfl
end
def spn (nb pl : Nat → Nat) (a : Nat) : Nat → Nat
  | 0 => 0
  | r + 1 => if pl r = a + 1 then spn nb pl a r + nb r else spn nb pl a r
def msk (pl : Nat → Nat) (a : Nat) : Nat → Nat
  | 0 => 0
  | r + 1 => if pl r = a + 1 then msk pl a r ||| 2 ^ r else msk pl a r
def upn (pl : Nat → Nat) (r v : Nat) : Nat → Nat := fun k => if k = r then v else pl k
theorem spn_s (nb pl : Nat → Nat) (a r : Nat) : spn nb pl a (r + 1) = if pl r = a + 1 then spn nb pl a r + nb r else spn nb pl a r := rfl
theorem msk_s (pl : Nat → Nat) (a r : Nat) : msk pl a (r + 1) = if pl r = a + 1 then msk pl a r ||| 2 ^ r else msk pl a r := rfl
theorem upn_at (pl : Nat → Nat) (r v : Nat) : upn pl r v r = v := if_pos rfl
theorem upn_lt (pl : Nat → Nat) {r v k : Nat} (h : k < r) : upn pl r v k = pl k := if_neg (by omega)
theorem spn_cong (nb : Nat → Nat) {pl pl' : Nat → Nat} (a : Nat) : ∀ r, (∀ o, o < r → pl' o = pl o) → spn nb pl' a r = spn nb pl a r := by
  intro r
  induction r with
  | zero => intro _; rfl
  | succ r ih =>
    intro h
    rw [spn_s, spn_s, ih (fun o ho => h o (by omega)), h r (by omega)]
theorem msk_cong {pl pl' : Nat → Nat} (a : Nat) : ∀ r, (∀ o, o < r → pl' o = pl o) → msk pl' a r = msk pl a r := by
  intro r
  induction r with
  | zero => intro _; rfl
  | succ r ih =>
    intro h
    rw [msk_s, msk_s, ih (fun o ho => h o (by omega)), h r (by omega)]
theorem msk_bit (pl : Nat → Nat) (a i : Nat) : ∀ r, (msk pl a r).testBit i = true ↔ i < r ∧ pl i = a + 1 := by
  intro r
  induction r with
  | zero =>
    constructor
    · intro h; exact absurd (show (0 : Nat).testBit i = true from h) (by rw [Nat.zero_testBit]; decide)
    · rintro ⟨h, -⟩; omega
  | succ r ih =>
    rw [msk_s]
    by_cases h : pl r = a + 1
    · rw [if_pos h, Nat.testBit_or, Nat.testBit_two_pow, Bool.or_eq_true, ih, decide_eq_true_eq]
      constructor
      · rintro (⟨h1, h2⟩ | h1)
        · exact ⟨by omega, h2⟩
        · subst h1; exact ⟨by omega, h⟩
      · rintro ⟨h1, h2⟩
        by_cases hi : r = i
        · exact Or.inr hi
        · exact Or.inl ⟨by omega, h2⟩
    · rw [if_neg h, ih]
      constructor
      · rintro ⟨h1, h2⟩; exact ⟨by omega, h2⟩
      · rintro ⟨h1, h2⟩
        by_cases hi : i = r
        · subst hi; exact absurd h2 h
        · exact ⟨by omega, h2⟩
theorem msk_lt (pl : Nat → Nat) (a r : Nat) : msk pl a r < 2 ^ r := by
  apply Nat.lt_pow_two_of_testBit
  intro i hi
  cases h : (msk pl a r).testBit i with
  | false => rfl
  | true =>
    have := ((msk_bit pl a i r).mp h).1
    omega
theorem spn_le (nb pl : Nat → Nat) (a : Nat) {b : Nat} (hb : ∀ o, nb o ≤ b) : ∀ r, spn nb pl a r ≤ r * b := by
  intro r
  induction r with
  | zero => exact Nat.zero_le _
  | succ r ih =>
    rw [spn_s, Nat.succ_mul]
    have := hb r
    split <;> omega
def ckc (G nb : Nat → Nat) (r a : Nat) (pl : Nat → Nat) : Bool := !(G (19 + a)).testBit r && decide (msk pl a r &&& bsd G r = 0) && decide (spn nb pl a r + nb r ≤ G (13 + a))
abbrev cB : Type := Option (Nat × (Nat → Nat))
def prn (b : cB) (pay : Nat) : Bool := match b with
  | none => false
  | some c => decide (c.1 ≤ pay)
def sch (G nb : Nat → Nat) : Nat → Nat → Nat → (Nat → Nat) → cB → cB
  | 0, _, _, _, b => b
  | n + 1, r, pay, pl, b => if prn b pay then b else if G 0 ≤ r then some (pay, pl) else if bsd G r = 0 then sch G nb n (r + 1) pay (upn pl r 0) b else
      (List.range (G 1)).foldl (fun b a => if ckc G nb r a pl then sch G nb n (r + 1) (pay + nb r * G (7 + a)) (upn pl r (a + 1)) b else b) b
theorem msk_bsd (G pl : Nat → Nat) (a r : Nat) : (msk pl a r &&& bsd G r = 0) ↔ ∀ o, o < r → pl o = a + 1 → tog G o r = false := by
  constructor
  · intro h o ho hp
    cases ht : tog G o r with
    | false => rfl
    | true =>
      have : (msk pl a r &&& bsd G r).testBit o = true := by
        rw [Nat.testBit_and, (msk_bit pl a o r).mpr ⟨ho, hp⟩, bsd_tog, ht]
        rfl
      rw [h, Nat.zero_testBit] at this
      exact absurd this (by decide)
  · intro h
    apply Nat.eq_of_testBit_eq
    intro i
    rw [Nat.zero_testBit, Nat.testBit_and, bsd_tog]
    cases hm : (msk pl a r).testBit i with
    | false => rfl
    | true =>
      obtain ⟨h1, h2⟩ := (msk_bit pl a i r).mp hm
      rw [h i h1 h2]
      rfl
def bRC (G : Nat → Nat) (b : cB) (v : Int32) (f : Nat → Int32) : Prop := match b with
  | none => v = mI
  | some c => v = nI c.1 ∧ c.1 < 1073741824 ∧ (∀ k, c.2 k ≤ 6) ∧ ∀ k, k < 6 → f k = xI (if k < G 0 then c.2 k else 0)
