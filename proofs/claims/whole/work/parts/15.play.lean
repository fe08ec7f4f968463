/-! layer 2: a night is played, on both sides -/
theorem upd_at (f : Nat → Int32) (k : Nat) (x : Int32) (j : Nat) : upd f k x j = if j = k then x else f j := rfl
theorem updL_at (f : Nat → Int64) (k : Nat) (x : Int64) (j : Nat) : vp_updL f k x j = if j = k then x else f j := rfl
def oS (st : fSt) (c i lo hi : Nat) (a : Nat → Int32) : fSt := (fun c' i' k' => if c' = c ∧ i' = i ∧ (lo ≤ k' ∧ k' < hi) then a k' else st.1 c' i' k', st.2)
theorem gI_oS (st : fSt) (c i lo hi : Nat) (a : Nat → Int32) (c' i' k' : Nat) : gI (oS st c i lo hi a) c' i' k' = if c' = c ∧ i' = i ∧ (lo ≤ k' ∧ k' < hi) then a k' else gI st c' i' k' := rfl
theorem gL_oS (st : fSt) (c i lo hi : Nat) (a : Nat → Int32) : gL (oS st c i lo hi a) = gL st := rfl
theorem gA_oS (st : fSt) (c i lo hi : Nat) (a : Nat → Int32) : gA (oS st c i lo hi a) = gA st := rfl
theorem gB_oS (st : fSt) (c i lo hi : Nat) (a : Nat → Int32) : gB (oS st c i lo hi a) = gB st := rfl
theorem gP_oS (st : fSt) (c i lo hi : Nat) (a : Nat → Int32) : gP (oS st c i lo hi a) = gP st := rfl
theorem oS_sI {st : fSt} {c i lo hi k : Nat} {a : Nat → Int32} {v : Int32} (hk : lo ≤ k ∧ k < hi) : sI (oS st c i lo hi a) c i k v = oS st c i lo hi (upd a k v) := by
  refine Prod.ext (funext fun c' => funext fun i' => funext fun k' => ?_) rfl
  show (if c' = c ∧ i' = i ∧ k' = k then v else if c' = c ∧ i' = i ∧ (lo ≤ k' ∧ k' < hi) then a k' else st.1 c' i' k') = if c' = c ∧ i' = i ∧ (lo ≤ k' ∧ k' < hi) then (if k' = k then v else a k') else st.1 c' i' k'
  by_cases h1 : c' = c
  · by_cases h2 : i' = i
    · by_cases h3 : k' = k
      · simp [h1, h2, h3, hk]
      · simp [h1, h2, h3]
    · simp [h2]
  · simp [h1]
theorem oS_ext {st : fSt} {c i lo hi : Nat} {a b : Nat → Int32} (h : ∀ k, lo ≤ k → k < hi → a k = b k) : oS st c i lo hi a = oS st c i lo hi b := by
  refine Prod.ext (funext fun c' => funext fun i' => funext fun k' => ?_) rfl
  show (if c' = c ∧ i' = i ∧ (lo ≤ k' ∧ k' < hi) then a k' else st.1 c' i' k') = if c' = c ∧ i' = i ∧ (lo ≤ k' ∧ k' < hi) then b k' else st.1 c' i' k'
  split
  · rename_i g
    exact h k' g.2.2.1 g.2.2.2
  · rfl
theorem oS_0 (st : fSt) (c i lo hi : Nat) : st = oS st c i lo hi (gI st c i) := by
  refine Prod.ext (funext fun c' => funext fun i' => funext fun k' => ?_) rfl
  show st.1 c' i' k' = if c' = c ∧ i' = i ∧ (lo ≤ k' ∧ k' < hi) then st.1 c i k' else st.1 c' i' k'
  split
  · rename_i g
    rw [g.1, g.2.1]
  · rfl
theorem rStg_oS {sc : fSt} {q : Nat} {G : Nat → Nat} {i lo hi : Nat} {a : Nat → Int32} (H : rStg sc q G) : rStg (oS sc 3 i lo hi a) q G := H
theorem rHou_oS {sc : fSt} {q : Nat} {G : Nat → Nat} {i lo hi : Nat} {a : Nat → Int32} (H : rHou sc 0 q G) : rHou (oS sc 3 i lo hi a) 0 q G := H
-- sums
def zs (f : Nat → Nat) : Nat → Nat
  | 0 => 0
  | n + 1 => zs f n + f n
theorem zs_0 (f : Nat → Nat) : zs f 0 = 0 := rfl
theorem zs_s (f : Nat → Nat) (n : Nat) : zs f (n + 1) = zs f n + f n := rfl
theorem zs_le {f : Nat → Nat} {b : Nat} {n : Nat} (h : ∀ k, k < n → f k ≤ b) : zs f n ≤ n * b := by
  induction n with
  | zero => simp [zs]
  | succ n ih =>
    rw [zs_s, Nat.succ_mul]
    have := ih (fun k hk => h k (by omega))
    have := h n (by omega)
    omega
theorem zs_cong {f g : Nat → Nat} {n : Nat} (h : ∀ k, k < n → f k = g k) : zs f n = zs g n := by
  induction n with
  | zero => rfl
  | succ n ih => rw [zs_s, zs_s, ih (fun k hk => h k (by omega)), h n (by omega)]
theorem zs_mono (f : Nat → Nat) {a b : Nat} (h : a ≤ b) : zs f a ≤ zs f b := by
  induction b with
  | zero => rw [Nat.le_zero.mp h]; exact Nat.le_refl _
  | succ b ih =>
    rcases Nat.eq_or_lt_of_le h with h | h
    · rw [h]; exact Nat.le_refl _
    · rw [zs_s]
      have := ih (by omega)
      omega
-- bits
def pcn (a : Nat) : Nat := zs (fun k => (a.testBit k).toNat) 12
theorem pcn_le (a : Nat) : pcn a ≤ 12 := by
  have := zs_le (f := fun k => (a.testBit k).toNat) (b := 1) (n := 12) (fun k _ => Bool.toNat_le _)
  unfold pcn
  omega
def z0 : fSt := (fun _ _ _ => 0, fun _ _ _ => 0, fun _ _ _ _ => 0, fun _ _ _ _ => 0, fun _ _ _ => 0)
noncomputable def bcV (a : Int32) : Int32 := ((f_J6_bitCount_0f7a4 a z0).getD (0, z0)).1
theorem bc_ok (a : Int32) (st : fSt) : f_J6_bitCount_0f7a4 a st = some (bcV a, st) := rfl
set_option maxRecDepth 100000 in
theorem bc_64 : (List.range 64).all (fun a => decide (bcV (nI a) = nI (pcn a))) = true := by decide +kernel
theorem bc_n {a : Nat} (h : a < 64) : bcV (nI a) = nI (pcn a) := co_dec (P := fun a => bcV (nI a) = nI (pcn a)) bc_64 h
def gbr (G : Nat → Nat) (s : Nat) : Nat := G (25 + s) * pcn (G (37 + s))
section
variable {sc sm : fSt} {q : Nat} {G : Nat → Nat}
theorem gbr_le (w : gWf G) {s : Nat} (hs : s < G 2) : gbr G s ≤ 240 := by
  have h := (w.2.2.2.1 s hs).1
  have := pcn_le (G (37 + s))
  unfold gbr
  exact Nat.mul_le_mul (show G (25 + s) ≤ 20 by omega) this
theorem x_breathsOfScene (H : rStg sc q G) (w : gWf G) {s : Nat} (hs : s < G 2) : f_X7_breathsOfScene q (nI s) sc = some (nI (gbr G s), sc) := by
  have h := w.1
  have h2 := (w.2.2.2.1 s hs).1
  obtain ⟨e1, e2, -⟩ := H.2.2.1 s hs
  unfold f_X7_breathsOfScene
  rw [fIx_n (by omega) (by omega), fIx_n (by omega) (by omega), nI_clamp (by omega), e1, e2, bc_ok, bc_n (w_pl w hs), fBd_s, pk_mul]
  rfl
theorem m_bits {a : Nat} (ha : a < 2 ^ 31) (st : fSt) : f_X12_bits (nI a) st = some (nI (pcn a), st) := by
  unfold f_X12_bits
  obtain ⟨m, e⟩ := lp_run (fun m (t : Int32 × Int32) => f_X12_bits_L4 (nI a) m t.1 t.2 st) (fun t => (nI (zs (fun k => (a.testBit k).toNat) t), nI t)) 12 (fun m t ht => by
    show f_X12_bits_L4 (nI a) (m + 1) (nI (zs (fun k => (a.testBit k).toNat) t)) (nI t) st = f_X12_bits_L4 (nI a) m (nI (zs (fun k => (a.testBit k).toNat) (t + 1))) (nI (t + 1)) st
    rw [f_X12_bits_L4]
    simp (disch := omega) only [fLt_e, fBd_s, fJn_s, fNn_s, fNu_0, fNu_s, fBo_0, fBo_1, fBo_b, i_lit, i_neg1, nI_add, pk_mul, nI_clamp, i_le, i_lt, i_eq, fIx_n, nI_mI, mI_nI, mI_lt, nI_lt_m, mI_le, nI_le_m, xI_0, xI_s, bI_0, bI_1, bI_t, bI_f, n_31, j_bit, j_one, i_and, i_or, Nat.not_lt_zero, Nat.succ_ne_zero, Nat.add_one_ne_zero, Nat.add_one_sub_one, Nat.zero_le, Nat.or_zero, Nat.zero_or, Bool.not_true, Bool.not_false, Bool.true_and, Bool.false_and, Bool.and_true, Bool.and_false, ↓reduceIte, if_true, if_false, not_true_eq_false, not_false_eq_true, true_and, and_true, false_and, and_false, and_self, true_or, or_true, false_or, or_false, Nat.reduceEqDiff, Nat.reduceLT, Nat.reduceLeDiff, Nat.reduceAdd, Nat.reduceMul, Nat.reduceSub, Nat.add_zero, Nat.zero_add, Nat.mul_zero, Nat.zero_mul, ne_eq, Bool.not_eq_true, Bool.not_eq_false, reduceCtorEq, decide_true, decide_false, decide_eq_true_eq, decide_eq_false_iff_not, Bool.false_eq_true, if_pos, if_neg, bI, zs_s]) (fF_lt (by omega))
  refine Eq.trans e ?_
  show f_X12_bits_L4 (nI a) (m + 1) (nI (zs (fun k => (a.testBit k).toNat) 12)) (nI 12) st = _
  rw [f_X12_bits_L4]
  simp (disch := omega) only [fLt_e, fBd_s, fJn_s, fNn_s, fNu_0, fNu_s, fBo_0, fBo_1, fBo_b, i_lit, i_neg1, nI_add, pk_mul, nI_clamp, i_le, i_lt, i_eq, fIx_n, nI_mI, mI_nI, mI_lt, nI_lt_m, mI_le, nI_le_m, xI_0, xI_s, bI_0, bI_1, bI_t, bI_f, n_31, j_bit, j_one, i_and, i_or, Nat.not_lt_zero, Nat.succ_ne_zero, Nat.add_one_ne_zero, Nat.add_one_sub_one, Nat.zero_le, Nat.or_zero, Nat.zero_or, Bool.not_true, Bool.not_false, Bool.true_and, Bool.false_and, Bool.and_true, Bool.and_false, ↓reduceIte, if_true, if_false, not_true_eq_false, not_false_eq_true, true_and, and_true, false_and, and_false, and_self, true_or, or_true, false_or, or_false, Nat.reduceEqDiff, Nat.reduceLT, Nat.reduceLeDiff, Nat.reduceAdd, Nat.reduceMul, Nat.reduceSub, Nat.add_zero, Nat.zero_add, Nat.mul_zero, Nat.zero_mul, ne_eq, Bool.not_eq_true, Bool.not_eq_false, reduceCtorEq, decide_true, decide_false, decide_eq_true_eq, decide_eq_false_iff_not, Bool.false_eq_true, if_pos, if_neg]
  rfl
theorem m_breathsOf (B : rBlk (gA sm 12 0 5) G) (w : gWf G) {s : Nat} (hs : s < G 2) : f_X12_breathsOf (nI s) sm = some (nI (gbr G s), sm) := by
  have h := w.1
  have h2 := w_pl w hs
  obtain ⟨e1, e2, -⟩ := B.2.2.1 s hs
  unfold f_X12_breathsOf
  simp only [i_lit, nI_add]
  rw [fIx_n (by omega) (by omega), fIx_n (by omega) (by omega), nI_clamp (by omega), nI_clamp (by omega), e1, e2, m_bits (by omega), fBd_s, pk_mul]
  rfl
theorem x_killedIn (H : rStg sc q G) (w : gWf G) {s g : Nat} (hs : s < G 2) : ∃ v, f_X7_killedIn q (nI s) sc = some (v, sc) ∧ nI g ||| v = nI (gkil G s g) := by
  have h := w.1
  have h2 := (w.2.2.2.1 s hs).2.2.2.2
  obtain ⟨-, -, -, -, -, -, -, e⟩ := H.2.2.1 s hs
  unfold f_X7_killedIn gkil
  cases hv : G (109 + s) with
  | zero => exact ⟨nI 0, by simp (disch := omega) only [fLt_e, fBd_s, fJn_s, fNn_s, fNu_0, fNu_s, fBo_0, fBo_1, fBo_b, i_lit, i_neg1, nI_add, pk_mul, nI_clamp, i_le, i_lt, i_eq, fIx_n, nI_mI, mI_nI, mI_lt, nI_lt_m, mI_le, nI_le_m, xI_0, xI_s, bI_0, bI_1, bI_t, bI_f, n_31, j_bit, j_one, i_and, i_or, Nat.not_lt_zero, Nat.succ_ne_zero, Nat.add_one_ne_zero, Nat.add_one_sub_one, Nat.zero_le, Nat.or_zero, Nat.zero_or, Bool.not_true, Bool.not_false, Bool.true_and, Bool.false_and, Bool.and_true, Bool.and_false, ↓reduceIte, if_true, if_false, not_true_eq_false, not_false_eq_true, true_and, and_true, false_and, and_false, and_self, true_or, or_true, false_or, or_false, Nat.reduceEqDiff, Nat.reduceLT, Nat.reduceLeDiff, Nat.reduceAdd, Nat.reduceMul, Nat.reduceSub, Nat.add_zero, Nat.zero_add, Nat.mul_zero, Nat.zero_mul, ne_eq, Bool.not_eq_true, Bool.not_eq_false, reduceCtorEq, decide_true, decide_false, decide_eq_true_eq, decide_eq_false_iff_not, Bool.false_eq_true, if_pos, if_neg, e, hv], by simp (disch := omega) only [fLt_e, fBd_s, fJn_s, fNn_s, fNu_0, fNu_s, fBo_0, fBo_1, fBo_b, i_lit, i_neg1, nI_add, pk_mul, nI_clamp, i_le, i_lt, i_eq, fIx_n, nI_mI, mI_nI, mI_lt, nI_lt_m, mI_le, nI_le_m, xI_0, xI_s, bI_0, bI_1, bI_t, bI_f, n_31, j_bit, j_one, i_and, i_or, Nat.not_lt_zero, Nat.succ_ne_zero, Nat.add_one_ne_zero, Nat.add_one_sub_one, Nat.zero_le, Nat.or_zero, Nat.zero_or, Bool.not_true, Bool.not_false, Bool.true_and, Bool.false_and, Bool.and_true, Bool.and_false, ↓reduceIte, if_true, if_false, not_true_eq_false, not_false_eq_true, true_and, and_true, false_and, and_false, and_self, true_or, or_true, false_or, or_false, Nat.reduceEqDiff, Nat.reduceLT, Nat.reduceLeDiff, Nat.reduceAdd, Nat.reduceMul, Nat.reduceSub, Nat.add_zero, Nat.zero_add, Nat.mul_zero, Nat.zero_mul, ne_eq, Bool.not_eq_true, Bool.not_eq_false, reduceCtorEq, decide_true, decide_false, decide_eq_true_eq, decide_eq_false_iff_not, Bool.false_eq_true, if_pos, if_neg, hv]⟩
  | succ v => exact ⟨nI (2 ^ v), by simp (disch := omega) only [fLt_e, fBd_s, fJn_s, fNn_s, fNu_0, fNu_s, fBo_0, fBo_1, fBo_b, i_lit, i_neg1, nI_add, pk_mul, nI_clamp, i_le, i_lt, i_eq, fIx_n, nI_mI, mI_nI, mI_lt, nI_lt_m, mI_le, nI_le_m, xI_0, xI_s, bI_0, bI_1, bI_t, bI_f, n_31, j_bit, j_one, i_and, i_or, Nat.not_lt_zero, Nat.succ_ne_zero, Nat.add_one_ne_zero, Nat.add_one_sub_one, Nat.zero_le, Nat.or_zero, Nat.zero_or, Bool.not_true, Bool.not_false, Bool.true_and, Bool.false_and, Bool.and_true, Bool.and_false, ↓reduceIte, if_true, if_false, not_true_eq_false, not_false_eq_true, true_and, and_true, false_and, and_false, and_self, true_or, or_true, false_or, or_false, Nat.reduceEqDiff, Nat.reduceLT, Nat.reduceLeDiff, Nat.reduceAdd, Nat.reduceMul, Nat.reduceSub, Nat.add_zero, Nat.zero_add, Nat.mul_zero, Nat.zero_mul, ne_eq, Bool.not_eq_true, Bool.not_eq_false, reduceCtorEq, decide_true, decide_false, decide_eq_true_eq, decide_eq_false_iff_not, Bool.false_eq_true, if_pos, if_neg, e, hv], by simp (disch := omega) only [fLt_e, fBd_s, fJn_s, fNn_s, fNu_0, fNu_s, fBo_0, fBo_1, fBo_b, i_lit, i_neg1, nI_add, pk_mul, nI_clamp, i_le, i_lt, i_eq, fIx_n, nI_mI, mI_nI, mI_lt, nI_lt_m, mI_le, nI_le_m, xI_0, xI_s, bI_0, bI_1, bI_t, bI_f, n_31, j_bit, j_one, i_and, i_or, Nat.not_lt_zero, Nat.succ_ne_zero, Nat.add_one_ne_zero, Nat.add_one_sub_one, Nat.zero_le, Nat.or_zero, Nat.zero_or, Bool.not_true, Bool.not_false, Bool.true_and, Bool.false_and, Bool.and_true, Bool.and_false, ↓reduceIte, if_true, if_false, not_true_eq_false, not_false_eq_true, true_and, and_true, false_and, and_false, and_self, true_or, or_true, false_or, or_false, Nat.reduceEqDiff, Nat.reduceLT, Nat.reduceLeDiff, Nat.reduceAdd, Nat.reduceMul, Nat.reduceSub, Nat.add_zero, Nat.zero_add, Nat.mul_zero, Nat.zero_mul, ne_eq, Bool.not_eq_true, Bool.not_eq_false, reduceCtorEq, decide_true, decide_false, decide_eq_true_eq, decide_eq_false_iff_not, Bool.false_eq_true, if_pos, if_neg, hv]⟩
theorem m_kills (B : rBlk (gA sm 12 0 5) G) (w : gWf G) {s g : Nat} (hs : s < G 2) : f_X12_kills (nI s) (nI g) sm = some (nI (gkil G s g), sm) := by
  have h := w.1
  have h2 := (w.2.2.2.1 s hs).2.2.2.2
  obtain ⟨-, -, -, -, -, -, -, e⟩ := B.2.2.1 s hs
  unfold f_X12_kills gkil
  cases hv : G (109 + s) with
  | zero => simp (disch := omega) only [fLt_e, fBd_s, fJn_s, fNn_s, fNu_0, fNu_s, fBo_0, fBo_1, fBo_b, i_lit, i_neg1, nI_add, pk_mul, nI_clamp, i_le, i_lt, i_eq, fIx_n, nI_mI, mI_nI, mI_lt, nI_lt_m, mI_le, nI_le_m, xI_0, xI_s, bI_0, bI_1, bI_t, bI_f, n_31, j_bit, j_one, i_and, i_or, Nat.not_lt_zero, Nat.succ_ne_zero, Nat.add_one_ne_zero, Nat.add_one_sub_one, Nat.zero_le, Nat.or_zero, Nat.zero_or, Bool.not_true, Bool.not_false, Bool.true_and, Bool.false_and, Bool.and_true, Bool.and_false, ↓reduceIte, if_true, if_false, not_true_eq_false, not_false_eq_true, true_and, and_true, false_and, and_false, and_self, true_or, or_true, false_or, or_false, Nat.reduceEqDiff, Nat.reduceLT, Nat.reduceLeDiff, Nat.reduceAdd, Nat.reduceMul, Nat.reduceSub, Nat.add_zero, Nat.zero_add, Nat.mul_zero, Nat.zero_mul, ne_eq, Bool.not_eq_true, Bool.not_eq_false, reduceCtorEq, decide_true, decide_false, decide_eq_true_eq, decide_eq_false_iff_not, Bool.false_eq_true, if_pos, if_neg, e, hv]
  | succ v => simp (disch := omega) only [fLt_e, fBd_s, fJn_s, fNn_s, fNu_0, fNu_s, fBo_0, fBo_1, fBo_b, i_lit, i_neg1, nI_add, pk_mul, nI_clamp, i_le, i_lt, i_eq, fIx_n, nI_mI, mI_nI, mI_lt, nI_lt_m, mI_le, nI_le_m, xI_0, xI_s, bI_0, bI_1, bI_t, bI_f, n_31, j_bit, j_one, i_and, i_or, Nat.not_lt_zero, Nat.succ_ne_zero, Nat.add_one_ne_zero, Nat.add_one_sub_one, Nat.zero_le, Nat.or_zero, Nat.zero_or, Bool.not_true, Bool.not_false, Bool.true_and, Bool.false_and, Bool.and_true, Bool.and_false, ↓reduceIte, if_true, if_false, not_true_eq_false, not_false_eq_true, true_and, and_true, false_and, and_false, and_self, true_or, or_true, false_or, or_false, Nat.reduceEqDiff, Nat.reduceLT, Nat.reduceLeDiff, Nat.reduceAdd, Nat.reduceMul, Nat.reduceSub, Nat.add_zero, Nat.zero_add, Nat.mul_zero, Nat.zero_mul, ne_eq, Bool.not_eq_true, Bool.not_eq_false, reduceCtorEq, decide_true, decide_false, decide_eq_true_eq, decide_eq_false_iff_not, Bool.false_eq_true, if_pos, if_neg, e, hv]
theorem x_way (H : rStg sc q G) {s d : Nat} (hs : s < G 2) (hd : d < 4) : gA sc 7 q 11 (s * 4 + d) = xI (G (61 + 12 * d + s)) := by
  obtain ⟨-, -, -, e0, e1, e2, e3, -⟩ := H.2.2.1 s hs
  rcases (show d = 0 ∨ d = 1 ∨ d = 2 ∨ d = 3 by omega) with rfl | rfl | rfl | rfl
  · exact e0
  · exact e1
  · exact e2
  · exact e3
theorem x_onward (H : rHou sc 0 q G) (w : gWf G) {s d g : Nat} (hs : s < G 2) (hd : d < 4) (hg : g < 64) : f_X2_onward 0 (nI s) (nI d) (nI g) sc = some (xI (gnx G s d g), sc) := by
  have h := w.1
  have h1 := w_way w hs hd
  have h2 := w_way w hs (show 0 < 4 by omega)
  have e := x_way H.2.1 hs hd
  have e0 := x_way H.2.1 hs (show 0 < 4 by omega)
  simp only [Nat.mul_zero, Nat.add_zero] at e0 h2
  unfold f_X2_onward gnx gway
  cases hv : G (61 + 12 * d + s) with
  | zero => simp (disch := omega) only [fLt_e, fBd_s, fJn_s, fNn_s, fNu_0, fNu_s, fBo_0, fBo_1, fBo_b, i_lit, i_neg1, nI_add, pk_mul, nI_clamp, i_le, i_lt, i_eq, fIx_n, nI_mI, mI_nI, mI_lt, nI_lt_m, mI_le, nI_le_m, xI_0, xI_s, bI_0, bI_1, bI_t, bI_f, n_31, j_bit, j_one, i_and, i_or, Nat.not_lt_zero, Nat.succ_ne_zero, Nat.add_one_ne_zero, Nat.add_one_sub_one, Nat.zero_le, Nat.or_zero, Nat.zero_or, Bool.not_true, Bool.not_false, Bool.true_and, Bool.false_and, Bool.and_true, Bool.and_false, ↓reduceIte, if_true, if_false, not_true_eq_false, not_false_eq_true, true_and, and_true, false_and, and_false, and_self, true_or, or_true, false_or, or_false, Nat.reduceEqDiff, Nat.reduceLT, Nat.reduceLeDiff, Nat.reduceAdd, Nat.reduceMul, Nat.reduceSub, Nat.add_zero, Nat.zero_add, Nat.mul_zero, Nat.zero_mul, ne_eq, Bool.not_eq_true, Bool.not_eq_false, reduceCtorEq, decide_true, decide_false, decide_eq_true_eq, decide_eq_false_iff_not, Bool.false_eq_true, if_pos, if_neg, H.1, e, e0, hv, x_playable H w]
  | succ v => simp (disch := omega) only [fLt_e, fBd_s, fJn_s, fNn_s, fNu_0, fNu_s, fBo_0, fBo_1, fBo_b, i_lit, i_neg1, nI_add, pk_mul, nI_clamp, i_le, i_lt, i_eq, fIx_n, nI_mI, mI_nI, mI_lt, nI_lt_m, mI_le, nI_le_m, xI_0, xI_s, bI_0, bI_1, bI_t, bI_f, n_31, j_bit, j_one, i_and, i_or, Nat.not_lt_zero, Nat.succ_ne_zero, Nat.add_one_ne_zero, Nat.add_one_sub_one, Nat.zero_le, Nat.or_zero, Nat.zero_or, Bool.not_true, Bool.not_false, Bool.true_and, Bool.false_and, Bool.and_true, Bool.and_false, ↓reduceIte, if_true, if_false, not_true_eq_false, not_false_eq_true, true_and, and_true, false_and, and_false, and_self, true_or, or_true, false_or, or_false, Nat.reduceEqDiff, Nat.reduceLT, Nat.reduceLeDiff, Nat.reduceAdd, Nat.reduceMul, Nat.reduceSub, Nat.add_zero, Nat.zero_add, Nat.mul_zero, Nat.zero_mul, ne_eq, Bool.not_eq_true, Bool.not_eq_false, reduceCtorEq, decide_true, decide_false, decide_eq_true_eq, decide_eq_false_iff_not, Bool.false_eq_true, if_pos, if_neg, H.1, e, e0, hv, x_playable_n H w]
theorem x_opening (H : rHou sc 0 q G) (w : gWf G) {g : Nat} (hg : g < 64) : f_X2_opening 0 (nI g) sc = some (xI (gpl G (G 2) g), sc) := by
  have h := w.1
  unfold f_X2_opening
  rw [H.1, fNn_s, H.2.1.1.2.2.1]
  have e : nI (G 2) - (1 : Int32) = xI (G 2) := by
    cases G 2 with
    | zero => rfl
    | succ n => exact nI_pred n
  rw [e, x_playable H w (Nat.le_refl _) hg]
  rfl
theorem x_canOpen (H : rHou sc 0 q G) (w : gWf G) : f_X2_canOpen 0 sc = some (bI (decide (gpl G (G 2) (G 5) ≠ 0)), sc) := by
  have h := w.1
  have h2 := w.2.1
  have h3 := gpl_le G (G 2) (G 5)
  unfold f_X2_canOpen
  rw [H.2.2.1.2, x_opening H w (by omega)]
  cases hv : gpl G (G 2) (G 5) with
  | zero => simp (disch := omega) only [fLt_e, fBd_s, fJn_s, fNn_s, fNu_0, fNu_s, fBo_0, fBo_1, fBo_b, i_lit, i_neg1, nI_add, pk_mul, nI_clamp, i_le, i_lt, i_eq, fIx_n, nI_mI, mI_nI, mI_lt, nI_lt_m, mI_le, nI_le_m, xI_0, xI_s, bI_0, bI_1, bI_t, bI_f, n_31, j_bit, j_one, i_and, i_or, Nat.not_lt_zero, Nat.succ_ne_zero, Nat.add_one_ne_zero, Nat.add_one_sub_one, Nat.zero_le, Nat.or_zero, Nat.zero_or, Bool.not_true, Bool.not_false, Bool.true_and, Bool.false_and, Bool.and_true, Bool.and_false, ↓reduceIte, if_true, if_false, not_true_eq_false, not_false_eq_true, true_and, and_true, false_and, and_false, and_self, true_or, or_true, false_or, or_false, Nat.reduceEqDiff, Nat.reduceLT, Nat.reduceLeDiff, Nat.reduceAdd, Nat.reduceMul, Nat.reduceSub, Nat.add_zero, Nat.zero_add, Nat.mul_zero, Nat.zero_mul, ne_eq, Bool.not_eq_true, Bool.not_eq_false, reduceCtorEq, decide_true, decide_false, decide_eq_true_eq, decide_eq_false_iff_not, Bool.false_eq_true, if_pos, if_neg, hv]
  | succ v => simp (disch := omega) only [fLt_e, fBd_s, fJn_s, fNn_s, fNu_0, fNu_s, fBo_0, fBo_1, fBo_b, i_lit, i_neg1, nI_add, pk_mul, nI_clamp, i_le, i_lt, i_eq, fIx_n, nI_mI, mI_nI, mI_lt, nI_lt_m, mI_le, nI_le_m, xI_0, xI_s, bI_0, bI_1, bI_t, bI_f, n_31, j_bit, j_one, i_and, i_or, Nat.not_lt_zero, Nat.succ_ne_zero, Nat.add_one_ne_zero, Nat.add_one_sub_one, Nat.zero_le, Nat.or_zero, Nat.zero_or, Bool.not_true, Bool.not_false, Bool.true_and, Bool.false_and, Bool.and_true, Bool.and_false, ↓reduceIte, if_true, if_false, not_true_eq_false, not_false_eq_true, true_and, and_true, false_and, and_false, and_self, true_or, or_true, false_or, or_false, Nat.reduceEqDiff, Nat.reduceLT, Nat.reduceLeDiff, Nat.reduceAdd, Nat.reduceMul, Nat.reduceSub, Nat.add_zero, Nat.zero_add, Nat.mul_zero, Nat.zero_mul, ne_eq, Bool.not_eq_true, Bool.not_eq_false, reduceCtorEq, decide_true, decide_false, decide_eq_true_eq, decide_eq_false_iff_not, Bool.false_eq_true, if_pos, if_neg, hv]
theorem m_isDark (B : rBlk (gA sm 12 0 5) G) (w : gWf G) : f_X12_isDark sm = some (bI (decide (gpl G (G 2) (G 5) = 0)), sm) := by
  have h := w.1
  unfold f_X12_isDark
  simp only [i_lit, fJn_s]
  rw [fIx_n (by omega) (by omega), nI_clamp (by omega), B.1.2.2.1]
  have e : nI (G 2) - nI 1 = xI (G 2) := by
    cases G 2 with
    | zero => rfl
    | succ n => exact nI_pred n
  rw [e, m_canPlay B w (Nat.le_refl _) (by omega), Nat.or_zero, fBd_s]
  by_cases hz : gpl G (G 2) (G 5) = 0
  · simp (disch := omega) only [fLt_e, fBd_s, fJn_s, fNn_s, fNu_0, fNu_s, fBo_0, fBo_1, fBo_b, i_lit, i_neg1, nI_add, pk_mul, nI_clamp, i_le, i_lt, i_eq, fIx_n, nI_mI, mI_nI, mI_lt, nI_lt_m, mI_le, nI_le_m, xI_0, xI_s, bI_0, bI_1, bI_t, bI_f, n_31, j_bit, j_one, i_and, i_or, Nat.not_lt_zero, Nat.succ_ne_zero, Nat.add_one_ne_zero, Nat.add_one_sub_one, Nat.zero_le, Nat.or_zero, Nat.zero_or, Bool.not_true, Bool.not_false, Bool.true_and, Bool.false_and, Bool.and_true, Bool.and_false, ↓reduceIte, if_true, if_false, not_true_eq_false, not_false_eq_true, true_and, and_true, false_and, and_false, and_self, true_or, or_true, false_or, or_false, Nat.reduceEqDiff, Nat.reduceLT, Nat.reduceLeDiff, Nat.reduceAdd, Nat.reduceMul, Nat.reduceSub, Nat.add_zero, Nat.zero_add, Nat.mul_zero, Nat.zero_mul, ne_eq, Bool.not_eq_true, Bool.not_eq_false, reduceCtorEq, decide_true, decide_false, decide_eq_true_eq, decide_eq_false_iff_not, Bool.false_eq_true, if_pos, if_neg, hz]
  · simp (disch := omega) only [fLt_e, fBd_s, fJn_s, fNn_s, fNu_0, fNu_s, fBo_0, fBo_1, fBo_b, i_lit, i_neg1, nI_add, pk_mul, nI_clamp, i_le, i_lt, i_eq, fIx_n, nI_mI, mI_nI, mI_lt, nI_lt_m, mI_le, nI_le_m, xI_0, xI_s, bI_0, bI_1, bI_t, bI_f, n_31, j_bit, j_one, i_and, i_or, Nat.not_lt_zero, Nat.succ_ne_zero, Nat.add_one_ne_zero, Nat.add_one_sub_one, Nat.zero_le, Nat.or_zero, Nat.zero_or, Bool.not_true, Bool.not_false, Bool.true_and, Bool.false_and, Bool.and_true, Bool.and_false, ↓reduceIte, if_true, if_false, not_true_eq_false, not_false_eq_true, true_and, and_true, false_and, and_false, and_self, true_or, or_true, false_or, or_false, Nat.reduceEqDiff, Nat.reduceLT, Nat.reduceLeDiff, Nat.reduceAdd, Nat.reduceMul, Nat.reduceSub, Nat.add_zero, Nat.zero_add, Nat.mul_zero, Nat.zero_mul, ne_eq, Bool.not_eq_true, Bool.not_eq_false, reduceCtorEq, decide_true, decide_false, decide_eq_true_eq, decide_eq_false_iff_not, Bool.false_eq_true, if_pos, if_neg, hz]
theorem m_behind2 (B : rBlk (gA sm 12 0 5) G) (w : gWf G) {s d k : Nat} (hs : s < G 2) (hd : d < 4) (hk : k < 64) : f_X12_behind2 (nI s) (nI d) (nI k) sm = some (xI (gnx G s d (G 5 ||| gkil G s k)), sm) := by
  have h := w.1
  have h0 := (w.2.2.2.1 s hs).2.2.2.1
  obtain ⟨-, -, -, e0, e1, e2, e3, -⟩ := B.2.2.1 s hs
  have hk' := gkil_lt w hs hk
  -- what follows once the way told is known
  have key : ∀ t, t ≤ s → (fBd (f_X12_kills (nI s) (nI k) sm) fun x8 s9 => fBd (f_X12_canPlay (xI t) x8 s9) fun x10 s11 => if x10 = nI 0 then some (mI, s11) else some (xI t, s11)) = some (xI (gpl G t (G 5 ||| gkil G s k)), sm) := by
    intro t ht
    rw [m_kills B w hs, fBd_s, m_canPlay B w (by omega) hk', fBd_s]
    simp only [bI_0]
    unfold gpl
    by_cases ht0 : t = 0
    · simp [ht0, xI_0]
    · by_cases hc : gcan G (t - 1) (G 5 ||| gkil G s k) = true
      · simp [ht0, hc]
      · simp [ht0, hc, xI_0]
  have key2 : ∀ t, t ≤ s → (if nI 0 ≤ xI t then (fBd (f_X12_kills (nI s) (nI k) sm) fun x8 s9 => fBd (f_X12_canPlay (xI t) x8 s9) fun x10 s11 => if x10 = nI 0 then some (mI, s11) else some (xI t, s11)) else fBd (f_X12_kills (nI s) (nI k) sm) fun x8 s9 => fBd (f_X12_canPlay (xI (G (61 + s))) x8 s9) fun x10 s11 => if x10 = nI 0 then some (mI, s11) else some (xI (G (61 + s)), s11)) = some (xI (gpl G (if t = 0 then G (61 + s) else t) (G 5 ||| gkil G s k)), sm) := by
    intro t ht
    cases t with
    | zero => rw [if_neg (by rw [xI_0, nI_le_m (by omega)]; simp), if_pos rfl, key _ h0.1]
    | succ t =>
      rw [if_pos (show nI 0 ≤ xI (t + 1) from nI_le (Nat.zero_le _) (by omega)), if_neg (by omega)]
      exact key _ ht
  unfold f_X12_behind2 gnx gway
  simp only [fJn_s, fLt_e, i_lit, i_neg1, nI_add]
  rw [fIx_n (a := 97 + s) (by omega) (by omega), fIx_n (a := 85 + s) (by omega) (by omega), fIx_n (a := 73 + s) (by omega) (by omega)]
  rw [nI_clamp (n := 97 + s) (by omega), nI_clamp (n := 85 + s) (by omega), nI_clamp (n := 73 + s) (by omega), nI_clamp (n := 61 + s) (by omega), e1, e2, e3]
  simp only [fIx_n (show 61 + s < 2150 by omega) (show 2150 < 2 ^ 31 by omega), e0]
  rcases (show d = 0 ∨ d = 1 ∨ d = 2 ∨ d = 3 by omega) with rfl | rfl | rfl | rfl
  · rw [if_pos (by decide), if_pos (by decide), if_pos (by decide)]
    have e : (if G (61 + 12 * 0 + s) = 0 then G (61 + s) else G (61 + 12 * 0 + s)) = G (61 + s) := by
      rw [Nat.mul_zero, Nat.add_zero]
      split
      · rfl
      · rfl
    rw [e]
    exact key2 0 (by omega)
  · rw [if_neg (by decide)]
    exact key2 _ h0.2.1
  · rw [if_pos (by decide), if_neg (by decide)]
    exact key2 _ h0.2.2.1
  · rw [if_pos (by decide), if_pos (by decide), if_neg (by decide)]
    exact key2 _ h0.2.2.2
end
