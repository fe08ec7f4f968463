/-! layer 2: draws; a night by lot -/
def rnx (r : Nat) : Nat := (r * 2903 + 7187) % 65536
theorem rnx_lt (r : Nat) : rnx r < 65536 := Nat.mod_lt _ (by omega)
theorem and_ffff (x : Nat) : x &&& 65535 = x % 65536 := Nat.and_two_pow_sub_one_eq_mod x 16
theorem x_draw {sc : fSt} {i r n : Nat} {A : Nat → Int32} (hA : A 6 = nI r) (hr : r < 65536) (h0 : 0 < n) (hn : n < 2 ^ 31) : f_X3_draw i (nI n) (oS sc 3 i 0 7 A) = some (nI (rnx r / 8 % n), oS sc 3 i 0 7 (upd A 6 (nI (rnx r)))) := by
  have e1 : nI (r * 2903 + 7187) &&& nI 65535 = nI (rnx r) := by
    rw [i_and, and_ffff]
    unfold rnx
    exact rfl
  have hx := rnx_lt r
  have e2 : nI (rnx r) / nI 8 = nI (rnx r / 8) := pk_div (by omega) (by omega) (by omega)
  have e3 : nI (rnx r / 8) - nI (rnx r / 8) / nI n * nI n = nI (rnx r / 8 % n) := pk_rem (by omega) h0 hn
  unfold f_X3_draw
  simp (disch := omega) only [fLt_e, fBd_s, fJn_s, fNn_s, fNu_0, fNu_s, fBo_0, fBo_1, fBo_b, Nat.not_lt_zero, Nat.succ_ne_zero, Nat.add_one_ne_zero, Nat.add_one_sub_one, Nat.zero_le, Nat.or_zero, Nat.zero_or, Bool.not_true, Bool.not_false, Bool.true_and, Bool.false_and, Bool.and_true, Bool.and_false, ↓reduceIte, if_true, if_false, not_true_eq_false, not_false_eq_true, true_and, and_true, false_and, and_false, and_self, true_or, or_true, false_or, or_false, Nat.reduceEqDiff, Nat.reduceLT, Nat.reduceLeDiff, Nat.reduceAdd, Nat.reduceMul, Nat.reduceSub, Nat.add_zero, Nat.zero_add, Nat.mul_zero, Nat.zero_mul, ne_eq, Bool.not_eq_true, Bool.not_eq_false, reduceCtorEq, decide_true, decide_false, decide_eq_true_eq, decide_eq_false_iff_not, Bool.false_eq_true, i_lit, i_le, pk_mul, nI_add, oS_sI, gI_oS, upd_at, hA, e1, e2, e3, if_neg, fNz_n]
theorem m_draw {sm : fSt} {r n : Nat} {A : Nat → Int32} (hA : A 28 = nI r) (hr : r < 65536) (h0 : 0 < n) (hn : n < 2 ^ 31) : f_X12_draw (nI n) (oS sm 12 0 25 29 A) = some (nI (rnx r / 8 % n), oS sm 12 0 25 29 (upd A 28 (nI (rnx r)))) := by
  have e1 : nI (r * 2903 + 7187) - nI (r * 2903 + 7187) / nI 65536 * nI 65536 = nI (rnx r) := pk_rem (by omega) (by omega) (by omega)
  have hx := rnx_lt r
  have e2 : nI (rnx r) / nI 8 = nI (rnx r / 8) := pk_div (by omega) (by omega) (by omega)
  have e3 : nI (rnx r / 8) - nI (rnx r / 8) / nI n * nI n = nI (rnx r / 8 % n) := pk_rem (by omega) h0 hn
  unfold f_X12_draw
  simp (disch := omega) only [fLt_e, fBd_s, fJn_s, fNn_s, fNu_0, fNu_s, fBo_0, fBo_1, fBo_b, Nat.not_lt_zero, Nat.succ_ne_zero, Nat.add_one_ne_zero, Nat.add_one_sub_one, Nat.zero_le, Nat.or_zero, Nat.zero_or, Bool.not_true, Bool.not_false, Bool.true_and, Bool.false_and, Bool.and_true, Bool.and_false, ↓reduceIte, if_true, if_false, not_true_eq_false, not_false_eq_true, true_and, and_true, false_and, and_false, and_self, true_or, or_true, false_or, or_false, Nat.reduceEqDiff, Nat.reduceLT, Nat.reduceLeDiff, Nat.reduceAdd, Nat.reduceMul, Nat.reduceSub, Nat.add_zero, Nat.zero_add, Nat.mul_zero, Nat.zero_mul, ne_eq, Bool.not_eq_true, Bool.not_eq_false, reduceCtorEq, decide_true, decide_false, decide_eq_true_eq, decide_eq_false_iff_not, Bool.false_eq_true, i_lit, i_le, pk_mul, nI_add, oS_sI, gI_oS, upd_at, hA, e1, e2, e3, if_neg, fNz_n]
def glt (G : Nat → Nat) : Nat := zs (fun k => G (121 + k)) (G 3)
/-- the kind drawn by v, from kind k on, at most n further -/
def gdk (G : Nat → Nat) : Nat → Nat → Nat → Nat
  | 0, _, k => k
  | n + 1, v, k => if v < G (121 + k) then k else gdk G n (v - G (121 + k)) (k + 1)
theorem gdk_le (G : Nat → Nat) : ∀ n v k, gdk G n v k ≤ k + n := by
  intro n
  induction n with
  | zero => intro v k; exact Nat.le_refl _
  | succ n ih =>
    intro v k
    unfold gdk
    split
    · omega
    · have := ih (v - G (121 + k)) (k + 1)
      omega
/-- what a kind does, by a draw v -/
def gda (G : Nat → Nat) (k v : Nat) : Nat := if v < G (125 + k) then 1 else if v < G (125 + k) + G (129 + k) then 2 else if v < G (125 + k) + G (129 + k) + G (133 + k) then 3 else 0
theorem gda_lt (G : Nat → Nat) (k v : Nat) : gda G k v < 4 := by
  unfold gda
  repeat' split
  all_goals omega
section
variable {sc sm : fSt} {q : Nat} {G : Nat → Nat}
theorem x_lotsInAll (H : rStg sc q G) (w : gWf G) : f_X7_lotsInAll q sc = some (nI (glt G), sc) := by
  have h := w.1
  unfold f_X7_lotsInAll
  obtain ⟨m, e⟩ := lp_run (fun m (t : Int32 × Int32) => f_X7_lotsInAll_L4 q m t.1 t.2 sc) (fun t => (nI (zs (fun k => G (121 + k)) t), nI t)) (G 3) (fun m t ht => by
    show f_X7_lotsInAll_L4 q (m + 1) (nI (zs (fun k => G (121 + k)) t)) (nI t) sc = f_X7_lotsInAll_L4 q m (nI (zs (fun k => G (121 + k)) (t + 1))) (nI (t + 1)) sc
    rw [f_X7_lotsInAll_L4]
    simp (disch := omega) only [fLt_e, fBd_s, fJn_s, fNn_s, fNu_0, fNu_s, fBo_0, fBo_1, fBo_b, i_lit, i_neg1, nI_add, pk_mul, nI_clamp, i_le, i_lt, i_eq, fIx_n, nI_mI, mI_nI, mI_lt, nI_lt_m, mI_le, nI_le_m, xI_0, xI_s, bI_0, bI_1, bI_t, bI_f, n_31, j_bit, j_one, i_and, i_or, Nat.not_lt_zero, Nat.succ_ne_zero, Nat.add_one_ne_zero, Nat.add_one_sub_one, Nat.zero_le, Nat.or_zero, Nat.zero_or, Bool.not_true, Bool.not_false, Bool.true_and, Bool.false_and, Bool.and_true, Bool.and_false, ↓reduceIte, if_true, if_false, not_true_eq_false, not_false_eq_true, true_and, and_true, false_and, and_false, and_self, true_or, or_true, false_or, or_false, Nat.reduceEqDiff, Nat.reduceLT, Nat.reduceLeDiff, Nat.reduceAdd, Nat.reduceMul, Nat.reduceSub, Nat.add_zero, Nat.zero_add, Nat.mul_zero, Nat.zero_mul, ne_eq, Bool.not_eq_true, Bool.not_eq_false, reduceCtorEq, decide_true, decide_false, decide_eq_true_eq, decide_eq_false_iff_not, Bool.false_eq_true, if_pos, if_neg, H.1.2.2.2, (H.2.2.2 t ht).1, zs_s]) (fF_lt (by omega))
  refine Eq.trans e ?_
  show f_X7_lotsInAll_L4 q (m + 1) (nI (zs (fun k => G (121 + k)) (G 3))) (nI (G 3)) sc = _
  rw [f_X7_lotsInAll_L4]
  simp (disch := omega) only [fLt_e, fBd_s, fJn_s, fNn_s, fNu_0, fNu_s, fBo_0, fBo_1, fBo_b, i_lit, i_neg1, nI_add, pk_mul, nI_clamp, i_le, i_lt, i_eq, fIx_n, nI_mI, mI_nI, mI_lt, nI_lt_m, mI_le, nI_le_m, xI_0, xI_s, bI_0, bI_1, bI_t, bI_f, n_31, j_bit, j_one, i_and, i_or, Nat.not_lt_zero, Nat.succ_ne_zero, Nat.add_one_ne_zero, Nat.add_one_sub_one, Nat.zero_le, Nat.or_zero, Nat.zero_or, Bool.not_true, Bool.not_false, Bool.true_and, Bool.false_and, Bool.and_true, Bool.and_false, ↓reduceIte, if_true, if_false, not_true_eq_false, not_false_eq_true, true_and, and_true, false_and, and_false, and_self, true_or, or_true, false_or, or_false, Nat.reduceEqDiff, Nat.reduceLT, Nat.reduceLeDiff, Nat.reduceAdd, Nat.reduceMul, Nat.reduceSub, Nat.add_zero, Nat.zero_add, Nat.mul_zero, Nat.zero_mul, ne_eq, Bool.not_eq_true, Bool.not_eq_false, reduceCtorEq, decide_true, decide_false, decide_eq_true_eq, decide_eq_false_iff_not, Bool.false_eq_true, if_pos, if_neg, H.1.2.2.2]
  rfl
theorem m_allLots (B : rBlk (gA sm 12 0 5) G) (w : gWf G) : f_X12_allLots sm = some (nI (glt G), sm) := by
  have h := w.1
  unfold f_X12_allLots
  obtain ⟨m, e⟩ := lp_run (fun m (t : Int32 × Int32) => f_X12_allLots_L4 m t.1 t.2 sm) (fun t => (nI (zs (fun k => G (121 + k)) t), nI t)) (G 3) (fun m t ht => by
    show f_X12_allLots_L4 (m + 1) (nI (zs (fun k => G (121 + k)) t)) (nI t) sm = f_X12_allLots_L4 m (nI (zs (fun k => G (121 + k)) (t + 1))) (nI (t + 1)) sm
    rw [f_X12_allLots_L4]
    simp (disch := omega) only [fLt_e, fBd_s, fJn_s, fNn_s, fNu_0, fNu_s, fBo_0, fBo_1, fBo_b, i_lit, i_neg1, nI_add, pk_mul, nI_clamp, i_le, i_lt, i_eq, fIx_n, nI_mI, mI_nI, mI_lt, nI_lt_m, mI_le, nI_le_m, xI_0, xI_s, bI_0, bI_1, bI_t, bI_f, n_31, j_bit, j_one, i_and, i_or, Nat.not_lt_zero, Nat.succ_ne_zero, Nat.add_one_ne_zero, Nat.add_one_sub_one, Nat.zero_le, Nat.or_zero, Nat.zero_or, Bool.not_true, Bool.not_false, Bool.true_and, Bool.false_and, Bool.and_true, Bool.and_false, ↓reduceIte, if_true, if_false, not_true_eq_false, not_false_eq_true, true_and, and_true, false_and, and_false, and_self, true_or, or_true, false_or, or_false, Nat.reduceEqDiff, Nat.reduceLT, Nat.reduceLeDiff, Nat.reduceAdd, Nat.reduceMul, Nat.reduceSub, Nat.add_zero, Nat.zero_add, Nat.mul_zero, Nat.zero_mul, ne_eq, Bool.not_eq_true, Bool.not_eq_false, reduceCtorEq, decide_true, decide_false, decide_eq_true_eq, decide_eq_false_iff_not, Bool.false_eq_true, if_pos, if_neg, B.1.2.2.2.1, (B.2.2.2.1 t ht).1, zs_s]) (fF_lt (by omega))
  refine Eq.trans e ?_
  show f_X12_allLots_L4 (m + 1) (nI (zs (fun k => G (121 + k)) (G 3))) (nI (G 3)) sm = _
  rw [f_X12_allLots_L4]
  simp (disch := omega) only [fLt_e, fBd_s, fJn_s, fNn_s, fNu_0, fNu_s, fBo_0, fBo_1, fBo_b, i_lit, i_neg1, nI_add, pk_mul, nI_clamp, i_le, i_lt, i_eq, fIx_n, nI_mI, mI_nI, mI_lt, nI_lt_m, mI_le, nI_le_m, xI_0, xI_s, bI_0, bI_1, bI_t, bI_f, n_31, j_bit, j_one, i_and, i_or, Nat.not_lt_zero, Nat.succ_ne_zero, Nat.add_one_ne_zero, Nat.add_one_sub_one, Nat.zero_le, Nat.or_zero, Nat.zero_or, Bool.not_true, Bool.not_false, Bool.true_and, Bool.false_and, Bool.and_true, Bool.and_false, ↓reduceIte, if_true, if_false, not_true_eq_false, not_false_eq_true, true_and, and_true, false_and, and_false, and_self, true_or, or_true, false_or, or_false, Nat.reduceEqDiff, Nat.reduceLT, Nat.reduceLeDiff, Nat.reduceAdd, Nat.reduceMul, Nat.reduceSub, Nat.add_zero, Nat.zero_add, Nat.mul_zero, Nat.zero_mul, ne_eq, Bool.not_eq_true, Bool.not_eq_false, reduceCtorEq, decide_true, decide_false, decide_eq_true_eq, decide_eq_false_iff_not, Bool.false_eq_true, if_pos, if_neg, B.1.2.2.2.1]
  rfl
theorem glt_pos (w : gWf G) (h : 0 < G 3) : 0 < glt G ∧ glt G ≤ 120 := by
  have w1 := w.1
  have w3 := w.2.2.2.2.1
  constructor
  · have := zs_mono (fun k => G (121 + k)) (show 1 ≤ G 3 from h)
    have e : zs (fun k => G (121 + k)) 1 = G 121 := by simp [zs]
    have := (w3 0 h).1
    rw [Nat.add_zero] at this
    unfold glt
    omega
  · have := zs_le (f := fun k => G (121 + k)) (b := 30) (n := G 3) (fun k hk => (w3 k hk).1.2)
    unfold glt
    omega
theorem x_drawKindL (H : rStg sc q G) (w : gWf G) (k9 : Int32 → fSt → Option (Int32 × fSt)) : ∀ n v k m, v < 2 ^ 30 → k + n + 1 = G 3 → n < m → f_X3_drawKind_L11 q k9 m (nI v) (nI k) sc = k9 (nI (gdk G n v k)) sc := by
  intro n
  induction n with
  | zero =>
    intro v k m hv hk hm
    obtain ⟨m, rfl⟩ : ∃ m', m = m' + 1 := ⟨m - 1, by omega⟩
    have w1 := w.1
    have e : nI (G 3) - nI 1 = nI (G 3 - 1) := pk_sub (by omega)
    rw [f_X3_drawKind_L11]
    simp (disch := omega) only [fLt_e, fBd_s, fJn_s, fNn_s, fNu_0, fNu_s, fBo_0, fBo_1, fBo_b, i_lit, i_neg1, nI_add, pk_mul, nI_clamp, i_le, i_lt, i_eq, fIx_n, nI_mI, mI_nI, mI_lt, nI_lt_m, mI_le, nI_le_m, xI_0, xI_s, bI_0, bI_1, bI_t, bI_f, n_31, j_bit, j_one, i_and, i_or, Nat.not_lt_zero, Nat.succ_ne_zero, Nat.add_one_ne_zero, Nat.add_one_sub_one, Nat.zero_le, Nat.or_zero, Nat.zero_or, Bool.not_true, Bool.not_false, Bool.true_and, Bool.false_and, Bool.and_true, Bool.and_false, ↓reduceIte, if_true, if_false, not_true_eq_false, not_false_eq_true, true_and, and_true, false_and, and_false, and_self, true_or, or_true, false_or, or_false, Nat.reduceEqDiff, Nat.reduceLT, Nat.reduceLeDiff, Nat.reduceAdd, Nat.reduceMul, Nat.reduceSub, Nat.add_zero, Nat.zero_add, Nat.mul_zero, Nat.zero_mul, ne_eq, Bool.not_eq_true, Bool.not_eq_false, reduceCtorEq, decide_true, decide_false, decide_eq_true_eq, decide_eq_false_iff_not, Bool.false_eq_true, if_pos, if_neg, H.1.2.2.2, e]
    rfl
  | succ n ih =>
    intro v k m hv hk hm
    obtain ⟨m, rfl⟩ : ∃ m', m = m' + 1 := ⟨m - 1, by omega⟩
    have w1 := w.1
    have w3 := (w.2.2.2.2.1 k (by omega)).1
    have e : nI (G 3) - nI 1 = nI (G 3 - 1) := pk_sub (by omega)
    have e2 := (H.2.2.2 k (by omega)).1
    rw [f_X3_drawKind_L11]
    unfold gdk
    by_cases hc : v < G (121 + k)
    · simp (disch := omega) only [fLt_e, fBd_s, fJn_s, fNn_s, fNu_0, fNu_s, fBo_0, fBo_1, fBo_b, i_lit, i_neg1, nI_add, pk_mul, nI_clamp, i_le, i_lt, i_eq, fIx_n, nI_mI, mI_nI, mI_lt, nI_lt_m, mI_le, nI_le_m, xI_0, xI_s, bI_0, bI_1, bI_t, bI_f, n_31, j_bit, j_one, i_and, i_or, Nat.not_lt_zero, Nat.succ_ne_zero, Nat.add_one_ne_zero, Nat.add_one_sub_one, Nat.zero_le, Nat.or_zero, Nat.zero_or, Bool.not_true, Bool.not_false, Bool.true_and, Bool.false_and, Bool.and_true, Bool.and_false, ↓reduceIte, if_true, if_false, not_true_eq_false, not_false_eq_true, true_and, and_true, false_and, and_false, and_self, true_or, or_true, false_or, or_false, Nat.reduceEqDiff, Nat.reduceLT, Nat.reduceLeDiff, Nat.reduceAdd, Nat.reduceMul, Nat.reduceSub, Nat.add_zero, Nat.zero_add, Nat.mul_zero, Nat.zero_mul, ne_eq, Bool.not_eq_true, Bool.not_eq_false, reduceCtorEq, decide_true, decide_false, decide_eq_true_eq, decide_eq_false_iff_not, Bool.false_eq_true, if_pos, if_neg, H.1.2.2.2, e, e2, hc]
    · have e3 : nI v - nI (G (121 + k)) = nI (v - G (121 + k)) := pk_sub (by omega)
      simp (disch := omega) only [fLt_e, fBd_s, fJn_s, fNn_s, fNu_0, fNu_s, fBo_0, fBo_1, fBo_b, i_lit, i_neg1, nI_add, pk_mul, nI_clamp, i_le, i_lt, i_eq, fIx_n, nI_mI, mI_nI, mI_lt, nI_lt_m, mI_le, nI_le_m, xI_0, xI_s, bI_0, bI_1, bI_t, bI_f, n_31, j_bit, j_one, i_and, i_or, Nat.not_lt_zero, Nat.succ_ne_zero, Nat.add_one_ne_zero, Nat.add_one_sub_one, Nat.zero_le, Nat.or_zero, Nat.zero_or, Bool.not_true, Bool.not_false, Bool.true_and, Bool.false_and, Bool.and_true, Bool.and_false, ↓reduceIte, if_true, if_false, not_true_eq_false, not_false_eq_true, true_and, and_true, false_and, and_false, and_self, true_or, or_true, false_or, or_false, Nat.reduceEqDiff, Nat.reduceLT, Nat.reduceLeDiff, Nat.reduceAdd, Nat.reduceMul, Nat.reduceSub, Nat.add_zero, Nat.zero_add, Nat.mul_zero, Nat.zero_mul, ne_eq, Bool.not_eq_true, Bool.not_eq_false, reduceCtorEq, decide_true, decide_false, decide_eq_true_eq, decide_eq_false_iff_not, Bool.false_eq_true, if_pos, if_neg, H.1.2.2.2, e, e2, hc, e3]
      exact ih _ _ m (by omega) (by omega) (by omega)
theorem m_drawKindL (B : rBlk (gA sm 12 0 5) G) (w : gWf G) : ∀ n v k m, v + zs (fun j => G (121 + j)) k < glt G → k + n + 1 = G 3 → n < m → f_X12_drawnKind_L11 m (nI v) (nI k) sm = some (nI (gdk G n v k), sm) := by
  have hgl : glt G ≤ 120 ∨ G 3 = 0 := by
    by_cases h : 0 < G 3
    · exact Or.inl (glt_pos w h).2
    · exact Or.inr (by omega)
  intro n
  induction n with
  | zero =>
    intro v k m hv hk hm
    obtain ⟨m, rfl⟩ : ∃ m', m = m' + 1 := ⟨m - 1, by omega⟩
    have w1 := w.1
    have w3 := (w.2.2.2.2.1 k (by omega)).1
    have e2 := (B.2.2.2.1 k (by omega)).1
    have : glt G = zs (fun j => G (121 + j)) k + G (121 + k) := by
      unfold glt
      rw [← hk, Nat.add_zero, zs_s]
    rw [f_X12_drawnKind_L11]
    simp (disch := omega) only [fLt_e, fBd_s, fJn_s, fNn_s, fNu_0, fNu_s, fBo_0, fBo_1, fBo_b, i_lit, i_neg1, nI_add, pk_mul, nI_clamp, i_le, i_lt, i_eq, fIx_n, nI_mI, mI_nI, mI_lt, nI_lt_m, mI_le, nI_le_m, xI_0, xI_s, bI_0, bI_1, bI_t, bI_f, n_31, j_bit, j_one, i_and, i_or, Nat.not_lt_zero, Nat.succ_ne_zero, Nat.add_one_ne_zero, Nat.add_one_sub_one, Nat.zero_le, Nat.or_zero, Nat.zero_or, Bool.not_true, Bool.not_false, Bool.true_and, Bool.false_and, Bool.and_true, Bool.and_false, ↓reduceIte, if_true, if_false, not_true_eq_false, not_false_eq_true, true_and, and_true, false_and, and_false, and_self, true_or, or_true, false_or, or_false, Nat.reduceEqDiff, Nat.reduceLT, Nat.reduceLeDiff, Nat.reduceAdd, Nat.reduceMul, Nat.reduceSub, Nat.add_zero, Nat.zero_add, Nat.mul_zero, Nat.zero_mul, ne_eq, Bool.not_eq_true, Bool.not_eq_false, reduceCtorEq, decide_true, decide_false, decide_eq_true_eq, decide_eq_false_iff_not, Bool.false_eq_true, if_pos, if_neg, e2]
    rfl
  | succ n ih =>
    intro v k m hv hk hm
    obtain ⟨m, rfl⟩ : ∃ m', m = m' + 1 := ⟨m - 1, by omega⟩
    have w1 := w.1
    have w3 := (w.2.2.2.2.1 k (by omega)).1
    have e2 := (B.2.2.2.1 k (by omega)).1
    rw [f_X12_drawnKind_L11]
    unfold gdk
    by_cases hc : v < G (121 + k)
    · simp (disch := omega) only [fLt_e, fBd_s, fJn_s, fNn_s, fNu_0, fNu_s, fBo_0, fBo_1, fBo_b, i_lit, i_neg1, nI_add, pk_mul, nI_clamp, i_le, i_lt, i_eq, fIx_n, nI_mI, mI_nI, mI_lt, nI_lt_m, mI_le, nI_le_m, xI_0, xI_s, bI_0, bI_1, bI_t, bI_f, n_31, j_bit, j_one, i_and, i_or, Nat.not_lt_zero, Nat.succ_ne_zero, Nat.add_one_ne_zero, Nat.add_one_sub_one, Nat.zero_le, Nat.or_zero, Nat.zero_or, Bool.not_true, Bool.not_false, Bool.true_and, Bool.false_and, Bool.and_true, Bool.and_false, ↓reduceIte, if_true, if_false, not_true_eq_false, not_false_eq_true, true_and, and_true, false_and, and_false, and_self, true_or, or_true, false_or, or_false, Nat.reduceEqDiff, Nat.reduceLT, Nat.reduceLeDiff, Nat.reduceAdd, Nat.reduceMul, Nat.reduceSub, Nat.add_zero, Nat.zero_add, Nat.mul_zero, Nat.zero_mul, ne_eq, Bool.not_eq_true, Bool.not_eq_false, reduceCtorEq, decide_true, decide_false, decide_eq_true_eq, decide_eq_false_iff_not, Bool.false_eq_true, if_pos, if_neg, e2, hc]
    · have e3 : nI v - nI (G (121 + k)) = nI (v - G (121 + k)) := pk_sub (by omega)
      simp (disch := omega) only [fLt_e, fBd_s, fJn_s, fNn_s, fNu_0, fNu_s, fBo_0, fBo_1, fBo_b, i_lit, i_neg1, nI_add, pk_mul, nI_clamp, i_le, i_lt, i_eq, fIx_n, nI_mI, mI_nI, mI_lt, nI_lt_m, mI_le, nI_le_m, xI_0, xI_s, bI_0, bI_1, bI_t, bI_f, n_31, j_bit, j_one, i_and, i_or, Nat.not_lt_zero, Nat.succ_ne_zero, Nat.add_one_ne_zero, Nat.add_one_sub_one, Nat.zero_le, Nat.or_zero, Nat.zero_or, Bool.not_true, Bool.not_false, Bool.true_and, Bool.false_and, Bool.and_true, Bool.and_false, ↓reduceIte, if_true, if_false, not_true_eq_false, not_false_eq_true, true_and, and_true, false_and, and_false, and_self, true_or, or_true, false_or, or_false, Nat.reduceEqDiff, Nat.reduceLT, Nat.reduceLeDiff, Nat.reduceAdd, Nat.reduceMul, Nat.reduceSub, Nat.add_zero, Nat.zero_add, Nat.mul_zero, Nat.zero_mul, ne_eq, Bool.not_eq_true, Bool.not_eq_false, reduceCtorEq, decide_true, decide_false, decide_eq_true_eq, decide_eq_false_iff_not, Bool.false_eq_true, if_pos, if_neg, e2, hc, e3]
      exact ih _ _ m (by rw [zs_s]; omega) (by omega) (by omega)
theorem x_drawKind (H : rHou sc 0 q G) (w : gWf G) (h3 : 0 < G 3) {i r : Nat} {A : Nat → Int32} (hA : A 6 = nI r) (hr : r < 65536) : f_X3_drawKind i q (oS sc 3 i 0 7 A) = some (nI (gdk G (G 3 - 1) (rnx r / 8 % glt G) 0), oS sc 3 i 0 7 (upd A 6 (nI (rnx r)))) := by
  have g1 := glt_pos w h3
  have hm : rnx r / 8 % glt G < glt G := Nat.mod_lt _ g1.1
  unfold f_X3_drawKind
  rw [x_lotsInAll (rStg_oS H.2.1) w, fBd_s, x_draw hA hr g1.1 (by omega)]
  simp only [fBd_s, fLt_e, fJn_s, i_lit]
  exact x_drawKindL (rStg_oS H.2.1) w _ (G 3 - 1) _ 0 fF (by omega) (by omega) (fF_lt (by have := w.1; omega))
theorem m_drawnKind (B : rBlk (gA sm 12 0 5) G) (w : gWf G) (h3 : 0 < G 3) {r : Nat} {A : Nat → Int32} (hA : A 28 = nI r) (hr : r < 65536) : f_X12_drawnKind (oS sm 12 0 25 29 A) = some (nI (gdk G (G 3 - 1) (rnx r / 8 % glt G) 0), oS sm 12 0 25 29 (upd A 28 (nI (rnx r)))) := by
  have g1 := glt_pos w h3
  have hm : rnx r / 8 % glt G < glt G := Nat.mod_lt _ g1.1
  unfold f_X12_drawnKind
  rw [m_allLots (rBlk_oS B) w, fBd_s, m_draw hA hr g1.1 (by omega)]
  simp only [fBd_s, fLt_e, fJn_s, i_lit]
  exact m_drawKindL (rBlk_oS B) w (G 3 - 1) _ 0 fF (by rw [zs_0]; omega) (by omega) (fF_lt (by have := w.1; omega))
theorem x_drawDeed (H : rStg sc q G) (w : gWf G) {i r k : Nat} (hk : k < G 3) {A : Nat → Int32} (hA : A 6 = nI r) (hr : r < 65536) : f_X3_drawDeed i q (nI k) (oS sc 3 i 0 7 A) = some (nI (gda G k (rnx r / 8 % 16)), oS sc 3 i 0 7 (upd A 6 (nI (rnx r)))) := by
  have w1 := w.1
  have w3 := (w.2.2.2.2.1 k hk).2
  obtain ⟨-, -, e1, e2, e3⟩ := (rStg_oS (i := i) (lo := 0) (hi := 7) (a := upd A 6 (nI (rnx r))) H).2.2.2 k hk
  have hv : rnx r / 8 % 16 < 16 := Nat.mod_lt _ (by omega)
  obtain ⟨m, hm⟩ := fF_s (n := 4) (by omega)
  have hF : fF = m + 1 + 1 + 1 + 1 + 1 := by omega
  unfold f_X3_drawDeed
  rw [show (16 : Int32) = nI 16 from rfl, x_draw hA hr (by omega) (by omega)]
  simp only [fBd_s, fLt_e, hF, i_lit]
  generalize rnx r / 8 % 16 = v at *
  unfold gda
  rw [f_X3_drawDeed_L10]
  by_cases h1 : v < G (125 + k)
  · simp (disch := omega) only [fLt_e, fBd_s, fJn_s, fNn_s, fNu_0, fNu_s, fBo_0, fBo_1, fBo_b, i_lit, i_neg1, nI_add, pk_mul, nI_clamp, i_le, i_lt, i_eq, fIx_n, nI_mI, mI_nI, mI_lt, nI_lt_m, mI_le, nI_le_m, xI_0, xI_s, bI_0, bI_1, bI_t, bI_f, n_31, j_bit, j_one, i_and, i_or, Nat.not_lt_zero, Nat.succ_ne_zero, Nat.add_one_ne_zero, Nat.add_one_sub_one, Nat.zero_le, Nat.or_zero, Nat.zero_or, Bool.not_true, Bool.not_false, Bool.true_and, Bool.false_and, Bool.and_true, Bool.and_false, ↓reduceIte, if_true, if_false, not_true_eq_false, not_false_eq_true, true_and, and_true, false_and, and_false, and_self, true_or, or_true, false_or, or_false, Nat.reduceEqDiff, Nat.reduceLT, Nat.reduceLeDiff, Nat.reduceAdd, Nat.reduceMul, Nat.reduceSub, Nat.add_zero, Nat.zero_add, Nat.mul_zero, Nat.zero_mul, ne_eq, Bool.not_eq_true, Bool.not_eq_false, reduceCtorEq, decide_true, decide_false, decide_eq_true_eq, decide_eq_false_iff_not, Bool.false_eq_true, if_pos, if_neg, e1, h1]
  · have d1 : nI v - nI (G (125 + k)) = nI (v - G (125 + k)) := pk_sub (by omega)
    simp (disch := omega) only [fLt_e, fBd_s, fJn_s, fNn_s, fNu_0, fNu_s, fBo_0, fBo_1, fBo_b, i_lit, i_neg1, nI_add, pk_mul, nI_clamp, i_le, i_lt, i_eq, fIx_n, nI_mI, mI_nI, mI_lt, nI_lt_m, mI_le, nI_le_m, xI_0, xI_s, bI_0, bI_1, bI_t, bI_f, n_31, j_bit, j_one, i_and, i_or, Nat.not_lt_zero, Nat.succ_ne_zero, Nat.add_one_ne_zero, Nat.add_one_sub_one, Nat.zero_le, Nat.or_zero, Nat.zero_or, Bool.not_true, Bool.not_false, Bool.true_and, Bool.false_and, Bool.and_true, Bool.and_false, ↓reduceIte, if_true, if_false, not_true_eq_false, not_false_eq_true, true_and, and_true, false_and, and_false, and_self, true_or, or_true, false_or, or_false, Nat.reduceEqDiff, Nat.reduceLT, Nat.reduceLeDiff, Nat.reduceAdd, Nat.reduceMul, Nat.reduceSub, Nat.add_zero, Nat.zero_add, Nat.mul_zero, Nat.zero_mul, ne_eq, Bool.not_eq_true, Bool.not_eq_false, reduceCtorEq, decide_true, decide_false, decide_eq_true_eq, decide_eq_false_iff_not, Bool.false_eq_true, if_pos, if_neg, e1, h1, d1]
    rw [f_X3_drawDeed_L10]
    by_cases h2 : v < G (125 + k) + G (129 + k)
    · simp (disch := omega) only [fLt_e, fBd_s, fJn_s, fNn_s, fNu_0, fNu_s, fBo_0, fBo_1, fBo_b, i_lit, i_neg1, nI_add, pk_mul, nI_clamp, i_le, i_lt, i_eq, fIx_n, nI_mI, mI_nI, mI_lt, nI_lt_m, mI_le, nI_le_m, xI_0, xI_s, bI_0, bI_1, bI_t, bI_f, n_31, j_bit, j_one, i_and, i_or, Nat.not_lt_zero, Nat.succ_ne_zero, Nat.add_one_ne_zero, Nat.add_one_sub_one, Nat.zero_le, Nat.or_zero, Nat.zero_or, Bool.not_true, Bool.not_false, Bool.true_and, Bool.false_and, Bool.and_true, Bool.and_false, ↓reduceIte, if_true, if_false, not_true_eq_false, not_false_eq_true, true_and, and_true, false_and, and_false, and_self, true_or, or_true, false_or, or_false, Nat.reduceEqDiff, Nat.reduceLT, Nat.reduceLeDiff, Nat.reduceAdd, Nat.reduceMul, Nat.reduceSub, Nat.add_zero, Nat.zero_add, Nat.mul_zero, Nat.zero_mul, ne_eq, Bool.not_eq_true, Bool.not_eq_false, reduceCtorEq, decide_true, decide_false, decide_eq_true_eq, decide_eq_false_iff_not, Bool.false_eq_true, if_pos, if_neg, e2, h2]
    · have d2 : nI (v - G (125 + k)) - nI (G (129 + k)) = nI (v - G (125 + k) - G (129 + k)) := pk_sub (by omega)
      simp (disch := omega) only [fLt_e, fBd_s, fJn_s, fNn_s, fNu_0, fNu_s, fBo_0, fBo_1, fBo_b, i_lit, i_neg1, nI_add, pk_mul, nI_clamp, i_le, i_lt, i_eq, fIx_n, nI_mI, mI_nI, mI_lt, nI_lt_m, mI_le, nI_le_m, xI_0, xI_s, bI_0, bI_1, bI_t, bI_f, n_31, j_bit, j_one, i_and, i_or, Nat.not_lt_zero, Nat.succ_ne_zero, Nat.add_one_ne_zero, Nat.add_one_sub_one, Nat.zero_le, Nat.or_zero, Nat.zero_or, Bool.not_true, Bool.not_false, Bool.true_and, Bool.false_and, Bool.and_true, Bool.and_false, ↓reduceIte, if_true, if_false, not_true_eq_false, not_false_eq_true, true_and, and_true, false_and, and_false, and_self, true_or, or_true, false_or, or_false, Nat.reduceEqDiff, Nat.reduceLT, Nat.reduceLeDiff, Nat.reduceAdd, Nat.reduceMul, Nat.reduceSub, Nat.add_zero, Nat.zero_add, Nat.mul_zero, Nat.zero_mul, ne_eq, Bool.not_eq_true, Bool.not_eq_false, reduceCtorEq, decide_true, decide_false, decide_eq_true_eq, decide_eq_false_iff_not, Bool.false_eq_true, if_pos, if_neg, e2, h2, d2]
      rw [f_X3_drawDeed_L10]
      by_cases h3 : v < G (125 + k) + G (129 + k) + G (133 + k)
      · simp (disch := omega) only [fLt_e, fBd_s, fJn_s, fNn_s, fNu_0, fNu_s, fBo_0, fBo_1, fBo_b, i_lit, i_neg1, nI_add, pk_mul, nI_clamp, i_le, i_lt, i_eq, fIx_n, nI_mI, mI_nI, mI_lt, nI_lt_m, mI_le, nI_le_m, xI_0, xI_s, bI_0, bI_1, bI_t, bI_f, n_31, j_bit, j_one, i_and, i_or, Nat.not_lt_zero, Nat.succ_ne_zero, Nat.add_one_ne_zero, Nat.add_one_sub_one, Nat.zero_le, Nat.or_zero, Nat.zero_or, Bool.not_true, Bool.not_false, Bool.true_and, Bool.false_and, Bool.and_true, Bool.and_false, ↓reduceIte, if_true, if_false, not_true_eq_false, not_false_eq_true, true_and, and_true, false_and, and_false, and_self, true_or, or_true, false_or, or_false, Nat.reduceEqDiff, Nat.reduceLT, Nat.reduceLeDiff, Nat.reduceAdd, Nat.reduceMul, Nat.reduceSub, Nat.add_zero, Nat.zero_add, Nat.mul_zero, Nat.zero_mul, ne_eq, Bool.not_eq_true, Bool.not_eq_false, reduceCtorEq, decide_true, decide_false, decide_eq_true_eq, decide_eq_false_iff_not, Bool.false_eq_true, if_pos, if_neg, e3, h3]
      · simp (disch := omega) only [fLt_e, fBd_s, fJn_s, fNn_s, fNu_0, fNu_s, fBo_0, fBo_1, fBo_b, i_lit, i_neg1, nI_add, pk_mul, nI_clamp, i_le, i_lt, i_eq, fIx_n, nI_mI, mI_nI, mI_lt, nI_lt_m, mI_le, nI_le_m, xI_0, xI_s, bI_0, bI_1, bI_t, bI_f, n_31, j_bit, j_one, i_and, i_or, Nat.not_lt_zero, Nat.succ_ne_zero, Nat.add_one_ne_zero, Nat.add_one_sub_one, Nat.zero_le, Nat.or_zero, Nat.zero_or, Bool.not_true, Bool.not_false, Bool.true_and, Bool.false_and, Bool.and_true, Bool.and_false, ↓reduceIte, if_true, if_false, not_true_eq_false, not_false_eq_true, true_and, and_true, false_and, and_false, and_self, true_or, or_true, false_or, or_false, Nat.reduceEqDiff, Nat.reduceLT, Nat.reduceLeDiff, Nat.reduceAdd, Nat.reduceMul, Nat.reduceSub, Nat.add_zero, Nat.zero_add, Nat.mul_zero, Nat.zero_mul, ne_eq, Bool.not_eq_true, Bool.not_eq_false, reduceCtorEq, decide_true, decide_false, decide_eq_true_eq, decide_eq_false_iff_not, Bool.false_eq_true, if_pos, if_neg, e3, h3]
        rw [f_X3_drawDeed_L10]
        simp (disch := omega) only [fLt_e, fBd_s, fJn_s, fNn_s, fNu_0, fNu_s, fBo_0, fBo_1, fBo_b, i_lit, i_neg1, nI_add, pk_mul, nI_clamp, i_le, i_lt, i_eq, fIx_n, nI_mI, mI_nI, mI_lt, nI_lt_m, mI_le, nI_le_m, xI_0, xI_s, bI_0, bI_1, bI_t, bI_f, n_31, j_bit, j_one, i_and, i_or, Nat.not_lt_zero, Nat.succ_ne_zero, Nat.add_one_ne_zero, Nat.add_one_sub_one, Nat.zero_le, Nat.or_zero, Nat.zero_or, Bool.not_true, Bool.not_false, Bool.true_and, Bool.false_and, Bool.and_true, Bool.and_false, ↓reduceIte, if_true, if_false, not_true_eq_false, not_false_eq_true, true_and, and_true, false_and, and_false, and_self, true_or, or_true, false_or, or_false, Nat.reduceEqDiff, Nat.reduceLT, Nat.reduceLeDiff, Nat.reduceAdd, Nat.reduceMul, Nat.reduceSub, Nat.add_zero, Nat.zero_add, Nat.mul_zero, Nat.zero_mul, ne_eq, Bool.not_eq_true, Bool.not_eq_false, reduceCtorEq, decide_true, decide_false, decide_eq_true_eq, decide_eq_false_iff_not, Bool.false_eq_true, if_pos, if_neg]
theorem m_drawnAct (B : rBlk (gA sm 12 0 5) G) (w : gWf G) {r k : Nat} (hk : k < G 3) {A : Nat → Int32} (hA : A 28 = nI r) (hr : r < 65536) : f_X12_drawnAct (nI k) (oS sm 12 0 25 29 A) = some (nI (gda G k (rnx r / 8 % 16)), oS sm 12 0 25 29 (upd A 28 (nI (rnx r)))) := by
  have w1 := w.1
  have w3 := (w.2.2.2.2.1 k hk).2
  obtain ⟨-, e1, e2, e3⟩ := B.2.2.2.1 k hk
  have hv : rnx r / 8 % 16 < 16 := Nat.mod_lt _ (by omega)
  unfold f_X12_drawnAct
  rw [show (16 : Int32) = nI 16 from rfl, m_draw hA hr (by omega) (by omega)]
  simp only [fBd_s, fLt_e, gA_oS]
  generalize rnx r / 8 % 16 = v at *
  unfold gda
  by_cases h1 : v < G (125 + k)
  · simp (disch := omega) only [fLt_e, fBd_s, fJn_s, fNn_s, fNu_0, fNu_s, fBo_0, fBo_1, fBo_b, i_lit, i_neg1, nI_add, pk_mul, nI_clamp, i_le, i_lt, i_eq, fIx_n, nI_mI, mI_nI, mI_lt, nI_lt_m, mI_le, nI_le_m, xI_0, xI_s, bI_0, bI_1, bI_t, bI_f, n_31, j_bit, j_one, i_and, i_or, Nat.not_lt_zero, Nat.succ_ne_zero, Nat.add_one_ne_zero, Nat.add_one_sub_one, Nat.zero_le, Nat.or_zero, Nat.zero_or, Bool.not_true, Bool.not_false, Bool.true_and, Bool.false_and, Bool.and_true, Bool.and_false, ↓reduceIte, if_true, if_false, not_true_eq_false, not_false_eq_true, true_and, and_true, false_and, and_false, and_self, true_or, or_true, false_or, or_false, Nat.reduceEqDiff, Nat.reduceLT, Nat.reduceLeDiff, Nat.reduceAdd, Nat.reduceMul, Nat.reduceSub, Nat.add_zero, Nat.zero_add, Nat.mul_zero, Nat.zero_mul, ne_eq, Bool.not_eq_true, Bool.not_eq_false, reduceCtorEq, decide_true, decide_false, decide_eq_true_eq, decide_eq_false_iff_not, Bool.false_eq_true, if_pos, if_neg, e1, e2, e3, h1]
  · by_cases h2 : v < G (125 + k) + G (129 + k)
    · simp (disch := omega) only [fLt_e, fBd_s, fJn_s, fNn_s, fNu_0, fNu_s, fBo_0, fBo_1, fBo_b, i_lit, i_neg1, nI_add, pk_mul, nI_clamp, i_le, i_lt, i_eq, fIx_n, nI_mI, mI_nI, mI_lt, nI_lt_m, mI_le, nI_le_m, xI_0, xI_s, bI_0, bI_1, bI_t, bI_f, n_31, j_bit, j_one, i_and, i_or, Nat.not_lt_zero, Nat.succ_ne_zero, Nat.add_one_ne_zero, Nat.add_one_sub_one, Nat.zero_le, Nat.or_zero, Nat.zero_or, Bool.not_true, Bool.not_false, Bool.true_and, Bool.false_and, Bool.and_true, Bool.and_false, ↓reduceIte, if_true, if_false, not_true_eq_false, not_false_eq_true, true_and, and_true, false_and, and_false, and_self, true_or, or_true, false_or, or_false, Nat.reduceEqDiff, Nat.reduceLT, Nat.reduceLeDiff, Nat.reduceAdd, Nat.reduceMul, Nat.reduceSub, Nat.add_zero, Nat.zero_add, Nat.mul_zero, Nat.zero_mul, ne_eq, Bool.not_eq_true, Bool.not_eq_false, reduceCtorEq, decide_true, decide_false, decide_eq_true_eq, decide_eq_false_iff_not, Bool.false_eq_true, if_pos, if_neg, e1, e2, e3, h1, h2]
    · by_cases h3 : v < G (125 + k) + G (129 + k) + G (133 + k)
      · simp (disch := omega) only [fLt_e, fBd_s, fJn_s, fNn_s, fNu_0, fNu_s, fBo_0, fBo_1, fBo_b, i_lit, i_neg1, nI_add, pk_mul, nI_clamp, i_le, i_lt, i_eq, fIx_n, nI_mI, mI_nI, mI_lt, nI_lt_m, mI_le, nI_le_m, xI_0, xI_s, bI_0, bI_1, bI_t, bI_f, n_31, j_bit, j_one, i_and, i_or, Nat.not_lt_zero, Nat.succ_ne_zero, Nat.add_one_ne_zero, Nat.add_one_sub_one, Nat.zero_le, Nat.or_zero, Nat.zero_or, Bool.not_true, Bool.not_false, Bool.true_and, Bool.false_and, Bool.and_true, Bool.and_false, ↓reduceIte, if_true, if_false, not_true_eq_false, not_false_eq_true, true_and, and_true, false_and, and_false, and_self, true_or, or_true, false_or, or_false, Nat.reduceEqDiff, Nat.reduceLT, Nat.reduceLeDiff, Nat.reduceAdd, Nat.reduceMul, Nat.reduceSub, Nat.add_zero, Nat.zero_add, Nat.mul_zero, Nat.zero_mul, ne_eq, Bool.not_eq_true, Bool.not_eq_false, reduceCtorEq, decide_true, decide_false, decide_eq_true_eq, decide_eq_false_iff_not, Bool.false_eq_true, if_pos, if_neg, e1, e2, e3, h1, h2, h3]
      · simp (disch := omega) only [fLt_e, fBd_s, fJn_s, fNn_s, fNu_0, fNu_s, fBo_0, fBo_1, fBo_b, i_lit, i_neg1, nI_add, pk_mul, nI_clamp, i_le, i_lt, i_eq, fIx_n, nI_mI, mI_nI, mI_lt, nI_lt_m, mI_le, nI_le_m, xI_0, xI_s, bI_0, bI_1, bI_t, bI_f, n_31, j_bit, j_one, i_and, i_or, Nat.not_lt_zero, Nat.succ_ne_zero, Nat.add_one_ne_zero, Nat.add_one_sub_one, Nat.zero_le, Nat.or_zero, Nat.zero_or, Bool.not_true, Bool.not_false, Bool.true_and, Bool.false_and, Bool.and_true, Bool.and_false, ↓reduceIte, if_true, if_false, not_true_eq_false, not_false_eq_true, true_and, and_true, false_and, and_false, and_self, true_or, or_true, false_or, or_false, Nat.reduceEqDiff, Nat.reduceLT, Nat.reduceLeDiff, Nat.reduceAdd, Nat.reduceMul, Nat.reduceSub, Nat.add_zero, Nat.zero_add, Nat.mul_zero, Nat.zero_mul, ne_eq, Bool.not_eq_true, Bool.not_eq_false, reduceCtorEq, decide_true, decide_false, decide_eq_true_eq, decide_eq_false_iff_not, Bool.false_eq_true, if_pos, if_neg, e1, e2, e3, h1, h2, h3]
def lsq (G : Nat → Nat) (kd : Nat) (_ : Nat) (t : pSt) : pSt := if t.1 = 0 then t else gst G (gda G kd (rnx t.2.2.2.2.2 / 8 % 16)) (rnx t.2.2.2.2.2) t
theorem lst_0 (G : Nat → Nat) (kd : Nat) : ∀ n k (t : pSt), t.1 = 0 → itq (lsq G kd) n k t = t := by
  intro n
  induction n with
  | zero => intro k t _; rfl
  | succ n ih =>
    intro k t h
    show itq (lsq G kd) n (k + 1) (lsq G kd k t) = t
    have : lsq G kd k t = t := if_pos h
    rw [this]
    exact ih _ _ h
theorem x_lotL (H : rHou sc 0 q G) (w : gWf G) {i kd : Nat} (hkd : kd < G 3) (k4 : fSt → Option (Unit × fSt)) (who : Int32) : ∀ n k (t : pSt) m, k + n = 12 → pOk G t → n < m → f_X3_playFor_L8 i 0 (nI kd) k4 m (nI k) (oS sc 3 i 0 7 (aNi t who (nI t.2.2.2.2.2))) = k4 (oS sc 3 i 0 7 (aNi (itq (lsq G kd) n k t) who (nI (itq (lsq G kd) n k t).2.2.2.2.2))) := by
  intro n
  induction n with
  | zero =>
    intro k t m hk ht hm
    obtain ⟨m, rfl⟩ : ∃ m', m = m' + 1 := ⟨m - 1, by omega⟩
    rw [f_X3_playFor_L8]
    simp (disch := omega) only [fLt_e, fBd_s, fJn_s, fNn_s, fNu_0, fNu_s, fBo_0, fBo_1, fBo_b, i_lit, i_neg1, nI_add, pk_mul, nI_clamp, i_le, i_lt, i_eq, fIx_n, nI_mI, mI_nI, mI_lt, nI_lt_m, mI_le, nI_le_m, xI_0, xI_s, bI_0, bI_1, bI_t, bI_f, n_31, j_bit, j_one, i_and, i_or, Nat.not_lt_zero, Nat.succ_ne_zero, Nat.add_one_ne_zero, Nat.add_one_sub_one, Nat.zero_le, Nat.or_zero, Nat.zero_or, Bool.not_true, Bool.not_false, Bool.true_and, Bool.false_and, Bool.and_true, Bool.and_false, ↓reduceIte, if_true, if_false, not_true_eq_false, not_false_eq_true, true_and, and_true, false_and, and_false, and_self, true_or, or_true, false_or, or_false, Nat.reduceEqDiff, Nat.reduceLT, Nat.reduceLeDiff, Nat.reduceAdd, Nat.reduceMul, Nat.reduceSub, Nat.add_zero, Nat.zero_add, Nat.mul_zero, Nat.zero_mul, ne_eq, Bool.not_eq_true, Bool.not_eq_false, reduceCtorEq, decide_true, decide_false, decide_eq_true_eq, decide_eq_false_iff_not, Bool.false_eq_true, if_pos, if_neg]
    rfl
  | succ n ih =>
    intro k t m hk ht hnm
    obtain ⟨m, rfl⟩ : ∃ m', m = m' + 1 := ⟨m - 1, by omega⟩
    have w1 := w.1
    have a1 := ht.1
    rw [f_X3_playFor_L8]
    by_cases hz : t.1 = 0
    · simp (disch := omega) only [fLt_e, fBd_s, fJn_s, fNn_s, fNu_0, fNu_s, fBo_0, fBo_1, fBo_b, i_lit, i_neg1, nI_add, pk_mul, nI_clamp, i_le, i_lt, i_eq, fIx_n, nI_mI, mI_nI, mI_lt, nI_lt_m, mI_le, nI_le_m, xI_0, xI_s, bI_0, bI_1, bI_t, bI_f, n_31, j_bit, j_one, i_and, i_or, Nat.not_lt_zero, Nat.succ_ne_zero, Nat.add_one_ne_zero, Nat.add_one_sub_one, Nat.zero_le, Nat.or_zero, Nat.zero_or, Bool.not_true, Bool.not_false, Bool.true_and, Bool.false_and, Bool.and_true, Bool.and_false, ↓reduceIte, if_true, if_false, not_true_eq_false, not_false_eq_true, true_and, and_true, false_and, and_false, and_self, true_or, or_true, false_or, or_false, Nat.reduceEqDiff, Nat.reduceLT, Nat.reduceLeDiff, Nat.reduceAdd, Nat.reduceMul, Nat.reduceSub, Nat.add_zero, Nat.zero_add, Nat.mul_zero, Nat.zero_mul, ne_eq, Bool.not_eq_true, Bool.not_eq_false, reduceCtorEq, decide_true, decide_false, decide_eq_true_eq, decide_eq_false_iff_not, Bool.false_eq_true, if_pos, if_neg, gI_oS, aNi, hz]
      rw [lst_0 G kd _ _ _ hz]
    · have hp : 0 < t.1 := by omega
      have hx : ¬ xI t.1 = mI := by
        rw [← xI_0, xI_eq (by omega) (by omega)]
        exact hz
      have hr := ht.2.2.2.2.2
      have hdd := x_drawDeed H.2.1 w (i := i) hkd (A := aNi t who (nI t.2.2.2.2.2)) rfl hr
      have hn1 : oS sc 3 i 0 7 (upd (aNi t who (nI t.2.2.2.2.2)) 6 (nI (rnx t.2.2.2.2.2))) = oS sc 3 i 0 7 (aNi t who (nI (rnx t.2.2.2.2.2))) := oS_ext fun j _ hj => by
        rw [upd_at]
        rcases (show j = 0 ∨ j = 1 ∨ j = 2 ∨ j = 3 ∨ j = 4 ∨ j = 5 ∨ j = 6 by omega) with rfl | rfl | rfl | rfl | rfl | rfl | rfl <;> rfl
      have hps := x_playScene H w (i := i) hp ht (gda_lt G kd (rnx t.2.2.2.2.2 / 8 % 16)) (rnx t.2.2.2.2.2) who (nI (rnx t.2.2.2.2.2))
      have hst' : lsq G kd k t = gst G (gda G kd (rnx t.2.2.2.2.2 / 8 % 16)) (rnx t.2.2.2.2.2) t := if_neg hz
      have hg := gst_ok w hp ht (gda_lt G kd (rnx t.2.2.2.2.2 / 8 % 16)) (rnx_lt t.2.2.2.2.2)
      have key := ih (k + 1) _ m (by omega) hg (by omega)
      simp (disch := omega) only [fLt_e, fBd_s, fJn_s, fNn_s, fNu_0, fNu_s, fBo_0, fBo_1, fBo_b, i_lit, i_neg1, nI_add, pk_mul, nI_clamp, i_le, i_lt, i_eq, fIx_n, nI_mI, mI_nI, mI_lt, nI_lt_m, mI_le, nI_le_m, xI_0, xI_s, bI_0, bI_1, bI_t, bI_f, n_31, j_bit, j_one, i_and, i_or, Nat.not_lt_zero, Nat.succ_ne_zero, Nat.add_one_ne_zero, Nat.add_one_sub_one, Nat.zero_le, Nat.or_zero, Nat.zero_or, Bool.not_true, Bool.not_false, Bool.true_and, Bool.false_and, Bool.and_true, Bool.and_false, ↓reduceIte, if_true, if_false, not_true_eq_false, not_false_eq_true, true_and, and_true, false_and, and_false, and_self, true_or, or_true, false_or, or_false, Nat.reduceEqDiff, Nat.reduceLT, Nat.reduceLeDiff, Nat.reduceAdd, Nat.reduceMul, Nat.reduceSub, Nat.add_zero, Nat.zero_add, Nat.mul_zero, Nat.zero_mul, ne_eq, Bool.not_eq_true, Bool.not_eq_false, reduceCtorEq, decide_true, decide_false, decide_eq_true_eq, decide_eq_false_iff_not, Bool.false_eq_true, if_pos, if_neg, gI_oS, gP_oS, H.1, aNi, hx, hdd, hn1, hps]
      refine Eq.trans key ?_
      show _ = k4 (oS sc 3 i 0 7 (aNi (itq (lsq G kd) n (k + 1) (lsq G kd k t)) who (nI (itq (lsq G kd) n (k + 1) (lsq G kd k t)).2.2.2.2.2)))
      rw [hst']
theorem m_lotL (B : rBlk (gA sm 12 0 5) G) (w : gWf G) {kd : Nat} (hkd : kd < G 3) : ∀ n k (t : pSt) m kl (A : Nat → Int32), t.1 ≤ n → k + n ≤ 12 → pOk G t → kl < 64 → t.2.1 = G 5 ||| kl → n < m → A 25 = nI t.2.2.1 → A 27 = nI t.2.2.2.2.1 → A 28 = nI t.2.2.2.2.2 → (t.1 = 0 → A 26 = xI t.2.2.2.1) → f_X12_playFor_L15 (nI kd) m (xI t.1) (nI kl) (oS sm 12 0 25 29 A) = fBd (f_X12_books (nI kd) (oS sm 12 0 25 29 (aM (itq (lsq G kd) n k t) (nI (itq (lsq G kd) n k t).2.2.2.2.2)))) fun _ s21 => some ((), s21) := by
  intro n
  induction n with
  | zero =>
    intro k t m kl A htn hk ht hkl hg hm A1 A2 A3 A4
    obtain ⟨m, rfl⟩ : ∃ m', m = m' + 1 := ⟨m - 1, by omega⟩
    have hz : t.1 = 0 := by omega
    rw [f_X12_playFor_L15]
    rw [hz, xI_0, if_pos (by decide), ms_end A1 A2 A3 (A4 hz)]
    rfl
  | succ n ih =>
    intro k t m kl A htn hk ht hkl hg hnm A1 A2 A3 A4
    obtain ⟨m, rfl⟩ : ∃ m', m = m' + 1 := ⟨m - 1, by omega⟩
    have w1 := w.1
    have w2 := w.2.1
    have a1 := ht.1
    rw [f_X12_playFor_L15]
    by_cases hz : t.1 = 0
    · rw [hz, xI_0, if_pos (by decide), ms_end A1 A2 A3 (A4 hz), lst_0 G kd _ _ _ hz]
    · have hp : 0 < t.1 := by omega
      obtain ⟨s, hs⟩ : ∃ s, t.1 = s + 1 := ⟨t.1 - 1, by omega⟩
      have hs2 : s < G 2 := by omega
      have hr := ht.2.2.2.2.2
      have hd4 := gda_lt G kd (rnx t.2.2.2.2.2 / 8 % 16)
      have hse := m_sees B w hp ht (gda G kd (rnx t.2.2.2.2.2 / 8 % 16)) (rnx t.2.2.2.2.2) A1 A2
      rw [show t.1 - 1 = s by omega, A3] at hse
      have hda := m_drawnAct B w hkd (A := aM (gst G (gda G kd (rnx t.2.2.2.2.2 / 8 % 16)) (rnx t.2.2.2.2.2) t) (nI t.2.2.2.2.2)) rfl hr
      have hn1 : oS sm 12 0 25 29 (upd (aM (gst G (gda G kd (rnx t.2.2.2.2.2 / 8 % 16)) (rnx t.2.2.2.2.2) t) (nI t.2.2.2.2.2)) 28 (nI (rnx t.2.2.2.2.2))) = oS sm 12 0 25 29 (aM (gst G (gda G kd (rnx t.2.2.2.2.2 / 8 % 16)) (rnx t.2.2.2.2.2) t) (nI (rnx t.2.2.2.2.2))) := oS_ext fun j hj0 hj => by
        rw [upd_at]
        rcases (show j = 25 ∨ j = 26 ∨ j = 27 ∨ j = 28 by omega) with rfl | rfl | rfl | rfl <;> rfl
      have hbe := fun A => m_behind2 (rBlk_oS (lo := 25) (hi := 29) (a := A) B) w hs2 hd4 hkl
      have hki := fun A => m_kills (g := kl) (rBlk_oS (lo := 25) (hi := 29) (a := A) B) w hs2
      have hst' : lsq G kd k t = gst G (gda G kd (rnx t.2.2.2.2.2 / 8 % 16)) (rnx t.2.2.2.2.2) t := if_neg hz
      have hgk := gst_ok w hp ht hd4 (rnx_lt t.2.2.2.2.2)
      have hlt := gst_lt (r := rnx t.2.2.2.2.2) w hp ht hd4
      have e1 : (gst G (gda G kd (rnx t.2.2.2.2.2 / 8 % 16)) (rnx t.2.2.2.2.2) t).1 = gnx G s (gda G kd (rnx t.2.2.2.2.2 / 8 % 16)) (G 5 ||| gkil G s kl) := by
        show gnx G (t.1 - 1) _ (gkil G (t.1 - 1) t.2.1) = _
        rw [hg, hs, Nat.add_sub_cancel, gkil_or]
      have e2 : (gst G (gda G kd (rnx t.2.2.2.2.2 / 8 % 16)) (rnx t.2.2.2.2.2) t).2.1 = G 5 ||| gkil G s kl := by
        show gkil G (t.1 - 1) t.2.1 = _
        rw [hg, hs, Nat.add_sub_cancel, gkil_or]
      have key := ih (k + 1) _ m (gkil G s kl) (aM (gst G (gda G kd (rnx t.2.2.2.2.2 / 8 % 16)) (rnx t.2.2.2.2.2) t) (nI (rnx t.2.2.2.2.2))) (by omega) (by omega) hgk (gkil_lt w hs2 hkl) e2 (by omega) rfl rfl rfl (fun _ => rfl)
      rw [hs, xI_s]
      simp (disch := omega) only [fLt_e, fBd_s, fJn_s, fNn_s, fNu_0, fNu_s, fBo_0, fBo_1, fBo_b, i_lit, i_neg1, nI_add, pk_mul, nI_clamp, i_le, i_lt, i_eq, fIx_n, nI_mI, mI_nI, mI_lt, nI_lt_m, mI_le, nI_le_m, xI_0, xI_s, bI_0, bI_1, bI_t, bI_f, n_31, j_bit, j_one, i_and, i_or, Nat.not_lt_zero, Nat.succ_ne_zero, Nat.add_one_ne_zero, Nat.add_one_sub_one, Nat.zero_le, Nat.or_zero, Nat.zero_or, Bool.not_true, Bool.not_false, Bool.true_and, Bool.false_and, Bool.and_true, Bool.and_false, ↓reduceIte, if_true, if_false, not_true_eq_false, not_false_eq_true, true_and, and_true, false_and, and_false, and_self, true_or, or_true, false_or, or_false, Nat.reduceEqDiff, Nat.reduceLT, Nat.reduceLeDiff, Nat.reduceAdd, Nat.reduceMul, Nat.reduceSub, Nat.add_zero, Nat.zero_add, Nat.mul_zero, Nat.zero_mul, ne_eq, Bool.not_eq_true, Bool.not_eq_false, reduceCtorEq, decide_true, decide_false, decide_eq_true_eq, decide_eq_false_iff_not, Bool.false_eq_true, if_pos, if_neg, hse, hda, hn1, hbe, hki]
      rw [← e1]
      refine Eq.trans key ?_
      show _ = fBd (f_X12_books (nI kd) (oS sm 12 0 25 29 (aM (itq (lsq G kd) n (k + 1) (lsq G kd k t)) (nI (itq (lsq G kd) n (k + 1) (lsq G kd k t)).2.2.2.2.2)))) _
      rw [hst']
end
