/-! layer 2: words, bytes, tokens -/
def cdW (k : Nat) : Nat := [605573, 1167858, 16441, 86148744, 14836, 20026821, 12892339, 763528, 178323, 663726, 660530, 12637416, 20321456, 11841939, 370116, 409235, 21136979, 404397331, 650286611, 536633, 2098, 508078, 2745, 20448837, 762030, 627886, 136228, 479437459, 5705892, 409072, 5572, 643568].getD k 0
theorem fw_tab : ∀ k, k < 32 → fWd k = lN (cdW k) := by decide +kernel
theorem cdW_lt : ∀ k, k < 32 → cdW k < 2 ^ 40 := by decide +kernel
theorem cdW_inj : ∀ k, k < 32 → ∀ j, j < 32 → cdW k = cdW j → k = j := by decide +kernel
def spw (a0 a1 a2 a3 a4 a5 : Int32) : Int64 :=
  let x1 := ((a0.toInt64 - 96) * 32 + a1.toInt64) - 96
  let x5 := if a2 ≤ 0 then x1 else (x1 * 32 + a2.toInt64) - 96
  let x9 := if a3 ≤ 0 then x5 else (x5 * 32 + a3.toInt64) - 96
  let x13 := if a4 ≤ 0 then x9 else (x9 * 32 + a4.toInt64) - 96
  if a5 ≤ 0 then x13 else (x13 * 32 + a5.toInt64) - 96
theorem m_spelled (a0 a1 a2 a3 a4 a5 : Int32) (st : fSt) : f_X12_spelled a0 a1 a2 a3 a4 a5 st = some (spw a0 a1 a2 a3 a4 a5, st) := by
  unfold f_X12_spelled spw
  simp only [fLt_e, fJn_s]
  by_cases h2 : a2 ≤ 0 <;> by_cases h3 : a3 ≤ 0 <;> by_cases h4 : a4 ≤ 0 <;> by_cases h5 : a5 ≤ 0 <;> simp only [h2, h3, h4, h5, if_true, if_false]
theorem m_isWord (x : Int64) (sm : fSt) : f_X12_isWord x sm = some (bI (decide (gI sm 12 0 14 = nI 1) && decide (gL sm 12 0 19 = x)), sm) := by
  unfold f_X12_isWord
  simp only [fJn_s, lg_eq]
  by_cases h1 : gI sm 12 0 14 = nI 1
  · have h1' : gI sm 12 0 14 = 1 := h1
    by_cases h2 : gL sm 12 0 19 = x
    · rw [if_neg (by rw [h1']; exact fun h => h rfl), if_neg (by rw [h2]; exact fun h => h rfl), decide_eq_true h1, decide_eq_true h2]
      rfl
    · rw [if_neg (by rw [h1']; exact fun h => h rfl), if_pos h2, decide_eq_false h2, Bool.and_false]
      rfl
  · have h1' : ¬ gI sm 12 0 14 = 1 := h1
    rw [if_pos h1', decide_eq_false h1, Bool.false_and]
    rfl
def tok (A : Nat → Int32) (nm : Int64) (B : Nat → Int32) (wd : Int64) (so : Nat) : Prop :=
  (so = 35 ∧ A 6 = nI 35 ∧ B 14 = nI 0) ∨ (so = 36 ∧ A 6 = nI 36 ∧ B 14 = nI 4) ∨
  (so = 34 ∧ A 6 = nI 34 ∧ B 14 = nI 2 ∧ ∃ v, v ≤ 9999 ∧ A 8 = nI v ∧ B 17 = nI v) ∨
  ((59 ≤ so ∧ so ≤ 62) ∧ A 6 = nI so ∧ B 14 = nI 3 ∧ B 17 = nI so) ∨
  (so = 33 ∧ A 6 = nI 33 ∧ B 14 = nI 1 ∧ (∃ L, 8 < L ∧ L ≤ 900 ∧ B 18 = nI L) ∧ wd = -1) ∨
  (so ≤ 32 ∧ A 6 = nI so ∧ B 14 = nI 1 ∧ (∃ L, L ≤ 8 ∧ B 18 = nI L) ∧ ∃ v, v < 2 ^ 40 ∧ nm = lN v ∧ wd = lN v ∧ (so < 32 → v = cdW so) ∧ (so = 32 → ∀ k, k < 32 → ¬ v = cdW k))
def xT (st : fSt) (A : Nat → Int32) (nm : Int64) : fSt := sL (oS st 5 0 4 9 A) 5 0 7 nm
def yT (st : fSt) (B : Nat → Int32) (wd : Int64) : fSt := sL (oS st 12 0 14 19 B) 12 0 19 wd
theorem xT_I (st : fSt) (A : Nat → Int32) (nm : Int64) {k : Nat} (h : 4 ≤ k ∧ k < 9) : gI (xT st A nm) 5 0 k = A k := by
  unfold xT
  simp only [gI_sL, gI_oS, h, and_self, if_true]
theorem xT_o (st : fSt) (A : Nat → Int32) (nm : Int64) {c j k : Nat} (h : ¬ (c = 5 ∧ j = 0 ∧ 4 ≤ k ∧ k < 9)) : gI (xT st A nm) c j k = gI st c j k := by
  unfold xT
  rw [gI_sL, gI_oS, if_neg h]
theorem xT_L (st : fSt) (A : Nat → Int32) (nm : Int64) : gL (xT st A nm) 5 0 7 = nm := rfl
theorem xT_A (st : fSt) (A : Nat → Int32) (nm : Int64) : gA (xT st A nm) = gA st := rfl
theorem xT_B (st : fSt) (A : Nat → Int32) (nm : Int64) : gB (xT st A nm) = gB st := rfl
theorem xT_P (st : fSt) (A : Nat → Int32) (nm : Int64) : gP (xT st A nm) = gP st := rfl
theorem xT_sI (st : fSt) (A : Nat → Int32) (nm : Int64) {k : Nat} (h : 4 ≤ k ∧ k < 9) (v : Int32) : sI (xT st A nm) 5 0 k v = xT st (upd A k v) nm := by
  unfold xT
  rw [← oS_sI (st := st) (c := 5) (i := 0) (a := A) (v := v) h]
  rfl
theorem xT_sL (st : fSt) (A : Nat → Int32) (nm : Int64) (v : Int64) : sL (xT st A nm) 5 0 7 v = xT st A v := by
  apply st_ext
  · intro c i k; rfl
  · intro c i k
    simp only [xT, gL_sL]
    split <;> rfl
  · intro c i k; rfl
  · intro c i k; rfl
  · intro c i k; rfl
theorem xT_0 (st : fSt) : st = xT st (gI st 5 0) (gL st 5 0 7) := by
  unfold xT
  rw [← oS_0]
  apply st_ext
  · intro c i k; rfl
  · intro c i k
    simp only [gL_sL]
    split
    · rename_i h; rw [h.1, h.2.1, h.2.2]
    · rfl
  · intro c i k; rfl
  · intro c i k; rfl
  · intro c i k; rfl
theorem yT_I (st : fSt) (B : Nat → Int32) (wd : Int64) {k : Nat} (h : 14 ≤ k ∧ k < 19) : gI (yT st B wd) 12 0 k = B k := by
  unfold yT
  simp only [gI_sL, gI_oS, h, and_self, if_true]
theorem yT_o (st : fSt) (B : Nat → Int32) (wd : Int64) {c j k : Nat} (h : ¬ (c = 12 ∧ j = 0 ∧ 14 ≤ k ∧ k < 19)) : gI (yT st B wd) c j k = gI st c j k := by
  unfold yT
  rw [gI_sL, gI_oS, if_neg h]
theorem yT_L (st : fSt) (B : Nat → Int32) (wd : Int64) : gL (yT st B wd) 12 0 19 = wd := rfl
theorem yT_A (st : fSt) (B : Nat → Int32) (wd : Int64) : gA (yT st B wd) = gA st := rfl
theorem yT_B (st : fSt) (B : Nat → Int32) (wd : Int64) : gB (yT st B wd) = gB st := rfl
theorem yT_sI (st : fSt) (B : Nat → Int32) (wd : Int64) {k : Nat} (h : 14 ≤ k ∧ k < 19) (v : Int32) : sI (yT st B wd) 12 0 k v = yT st (upd B k v) wd := by
  unfold yT
  rw [← oS_sI (st := st) (c := 12) (i := 0) (a := B) (v := v) h]
  rfl
theorem yT_sL (st : fSt) (B : Nat → Int32) (wd : Int64) (v : Int64) : sL (yT st B wd) 12 0 19 v = yT st B v := by
  apply st_ext
  · intro c i k; rfl
  · intro c i k
    simp only [yT, gL_sL]
    split <;> rfl
  · intro c i k; rfl
  · intro c i k; rfl
  · intro c i k; rfl
theorem yT_0 (st : fSt) : st = yT st (gI st 12 0) (gL st 12 0 19) := by
  unfold yT
  rw [← oS_0]
  apply st_ext
  · intro c i k; rfl
  · intro c i k
    simp only [gL_sL]
    split
    · rename_i h; rw [h.1, h.2.1, h.2.2]
    · rfl
  · intro c i k; rfl
  · intro c i k; rfl
  · intro c i k; rfl
theorem upd_up (A : Nat → Int32) (k : Nat) (v u : Int32) : upd (upd A k v) k u = upd A k u := by
  funext j
  rw [upd_at, upd_at, upd_at]
  split <;> rfl
-- bytes
theorem byt_neg : ∀ k, k < 128 → (-(nI (k + 1))) &&& nI 255 = nI (255 - k) := by decide +kernel
theorem byt_pos : ∀ k, k < 128 → nI k &&& nI 255 = nI k := by decide +kernel
theorem byt_cs (x : Int32) (h1 : -128 ≤ x.toInt) (h2 : x.toInt ≤ 127) : ∃ c, c < 256 ∧ x &&& nI 255 = nI c ∧ ((c < 128 ∧ x = nI c) ∨ (128 ≤ c ∧ x.toInt < 0)) := by
  by_cases h : 0 ≤ x.toInt
  · obtain ⟨k, hk, rfl, -⟩ := nI_ofInt (a := x) (n := 128) h (by omega)
    exact ⟨k, by omega, byt_pos k hk, Or.inl ⟨hk, rfl⟩⟩
  · obtain ⟨k, hk⟩ : ∃ k : Nat, x.toInt = -((k : Int) + 1) := ⟨(-x.toInt - 1).toNat, by omega⟩
    have hx : x = -(nI (k + 1)) := by
      apply Int32.toInt_inj.mp
      rw [Int32.toInt_neg, nI_toInt (by omega), hk]
      rw [Int.bmod_eq_of_le (by omega) (by omega)]
      omega
    refine ⟨255 - k, by omega, ?_, Or.inr ⟨by omega, by omega⟩⟩
    rw [hx]
    exact byt_neg k (by omega)
def bty (x : Int32) (c : Nat) : Prop := (c < 128 ∧ x = nI c) ∨ (128 ≤ c ∧ x.toInt < 0)
theorem bty_eq {x : Int32} {c : Nat} (h : bty x c) {k : Nat} (hk : k < 128) : (x = nI k) = (c = k) := by
  apply propext
  rcases h with ⟨h1, rfl⟩ | ⟨h1, h2⟩
  · rw [i_eq _ _ (by omega) (by omega)]
  · constructor
    · intro e
      rw [e, nI_toInt (by omega)] at h2
      omega
    · omega
theorem x_isLet {x : Int32} {c : Nat} (h : bty x c) (hc : c < 256) (st : fSt) : f_X5_isLetter x st = some (bI (decide (97 ≤ c ∧ c ≤ 122)), st) := by
  unfold f_X5_isLetter
  rcases h with ⟨h1, rfl⟩ | ⟨h1, h2⟩
  · by_cases h3 : c < 97
    · rw [decide_eq_false (by omega)]
      simp (disch := omega) only [↓fLt_e, fBd_s, ↓fJn_s, fNn_s, fNu_0, fNu_s, fBo_0, fBo_1, fBo_b, i_lit, i_neg1, nI_add, pk_mul, nI_clamp, i_le, i_lt, i_eq, fIx_n, nI_mI, mI_nI, mI_lt, nI_lt_m, mI_le, nI_le_m, xI_0, xI_s, bI_0, bI_1, bI_t, bI_f, n_31, j_bit, j_one, i_and, i_or, Nat.not_lt_zero, Nat.succ_ne_zero, Nat.add_one_ne_zero, Nat.add_one_sub_one, Nat.zero_le, Nat.or_zero, Nat.zero_or, Bool.not_true, Bool.not_false, Bool.true_and, Bool.false_and, Bool.and_true, Bool.and_false, ↓reduceIte, if_true, if_false, not_true_eq_false, not_false_eq_true, true_and, and_true, false_and, and_false, and_self, true_or, or_true, false_or, or_false, Nat.reduceEqDiff, Nat.reduceLT, Nat.reduceLeDiff, Nat.reduceAdd, Nat.reduceMul, Nat.reduceSub, Nat.add_zero, Nat.zero_add, Nat.mul_zero, Nat.zero_mul, ne_eq, Bool.not_eq_true, Bool.not_eq_false, reduceCtorEq, decide_true, decide_false, decide_eq_true_eq, decide_eq_false_iff_not, Bool.false_eq_true, if_pos, if_neg, h3]
    · by_cases h4 : 122 < c
      · rw [decide_eq_false (by omega)]
        simp (disch := omega) only [↓fLt_e, fBd_s, ↓fJn_s, fNn_s, fNu_0, fNu_s, fBo_0, fBo_1, fBo_b, i_lit, i_neg1, nI_add, pk_mul, nI_clamp, i_le, i_lt, i_eq, fIx_n, nI_mI, mI_nI, mI_lt, nI_lt_m, mI_le, nI_le_m, xI_0, xI_s, bI_0, bI_1, bI_t, bI_f, n_31, j_bit, j_one, i_and, i_or, Nat.not_lt_zero, Nat.succ_ne_zero, Nat.add_one_ne_zero, Nat.add_one_sub_one, Nat.zero_le, Nat.or_zero, Nat.zero_or, Bool.not_true, Bool.not_false, Bool.true_and, Bool.false_and, Bool.and_true, Bool.and_false, ↓reduceIte, if_true, if_false, not_true_eq_false, not_false_eq_true, true_and, and_true, false_and, and_false, and_self, true_or, or_true, false_or, or_false, Nat.reduceEqDiff, Nat.reduceLT, Nat.reduceLeDiff, Nat.reduceAdd, Nat.reduceMul, Nat.reduceSub, Nat.add_zero, Nat.zero_add, Nat.mul_zero, Nat.zero_mul, ne_eq, Bool.not_eq_true, Bool.not_eq_false, reduceCtorEq, decide_true, decide_false, decide_eq_true_eq, decide_eq_false_iff_not, Bool.false_eq_true, if_pos, if_neg, h3, h4]
      · rw [decide_eq_true (by omega)]
        simp (disch := omega) only [↓fLt_e, fBd_s, ↓fJn_s, fNn_s, fNu_0, fNu_s, fBo_0, fBo_1, fBo_b, i_lit, i_neg1, nI_add, pk_mul, nI_clamp, i_le, i_lt, i_eq, fIx_n, nI_mI, mI_nI, mI_lt, nI_lt_m, mI_le, nI_le_m, xI_0, xI_s, bI_0, bI_1, bI_t, bI_f, n_31, j_bit, j_one, i_and, i_or, Nat.not_lt_zero, Nat.succ_ne_zero, Nat.add_one_ne_zero, Nat.add_one_sub_one, Nat.zero_le, Nat.or_zero, Nat.zero_or, Bool.not_true, Bool.not_false, Bool.true_and, Bool.false_and, Bool.and_true, Bool.and_false, ↓reduceIte, if_true, if_false, not_true_eq_false, not_false_eq_true, true_and, and_true, false_and, and_false, and_self, true_or, or_true, false_or, or_false, Nat.reduceEqDiff, Nat.reduceLT, Nat.reduceLeDiff, Nat.reduceAdd, Nat.reduceMul, Nat.reduceSub, Nat.add_zero, Nat.zero_add, Nat.mul_zero, Nat.zero_mul, ne_eq, Bool.not_eq_true, Bool.not_eq_false, reduceCtorEq, decide_true, decide_false, decide_eq_true_eq, decide_eq_false_iff_not, Bool.false_eq_true, if_pos, if_neg, h3, h4]
  · have h3 : x < nI 97 := by rw [Int32.lt_iff_toInt_lt, nI_toInt (by omega)]; omega
    rw [decide_eq_false (by omega)]
    simp (disch := omega) only [↓fLt_e, fBd_s, ↓fJn_s, fNn_s, fNu_0, fNu_s, fBo_0, fBo_1, fBo_b, i_lit, i_neg1, nI_add, pk_mul, nI_clamp, i_le, i_lt, i_eq, fIx_n, nI_mI, mI_nI, mI_lt, nI_lt_m, mI_le, nI_le_m, xI_0, xI_s, bI_0, bI_1, bI_t, bI_f, n_31, j_bit, j_one, i_and, i_or, Nat.not_lt_zero, Nat.succ_ne_zero, Nat.add_one_ne_zero, Nat.add_one_sub_one, Nat.zero_le, Nat.or_zero, Nat.zero_or, Bool.not_true, Bool.not_false, Bool.true_and, Bool.false_and, Bool.and_true, Bool.and_false, ↓reduceIte, if_true, if_false, not_true_eq_false, not_false_eq_true, true_and, and_true, false_and, and_false, and_self, true_or, or_true, false_or, or_false, Nat.reduceEqDiff, Nat.reduceLT, Nat.reduceLeDiff, Nat.reduceAdd, Nat.reduceMul, Nat.reduceSub, Nat.add_zero, Nat.zero_add, Nat.mul_zero, Nat.zero_mul, ne_eq, Bool.not_eq_true, Bool.not_eq_false, reduceCtorEq, decide_true, decide_false, decide_eq_true_eq, decide_eq_false_iff_not, Bool.false_eq_true, if_pos, if_neg, h3]
theorem m_isLet {c : Nat} (hc : c < 256) (st : fSt) : f_X12_isLetter (nI c) st = some (bI (decide (97 ≤ c ∧ c ≤ 122)), st) := by
  unfold f_X12_isLetter
  by_cases h3 : c < 97
  · rw [decide_eq_false (by omega)]
    simp (disch := omega) only [↓fLt_e, fBd_s, ↓fJn_s, fNn_s, fNu_0, fNu_s, fBo_0, fBo_1, fBo_b, i_lit, i_neg1, nI_add, pk_mul, nI_clamp, i_le, i_lt, i_eq, fIx_n, nI_mI, mI_nI, mI_lt, nI_lt_m, mI_le, nI_le_m, xI_0, xI_s, bI_0, bI_1, bI_t, bI_f, n_31, j_bit, j_one, i_and, i_or, Nat.not_lt_zero, Nat.succ_ne_zero, Nat.add_one_ne_zero, Nat.add_one_sub_one, Nat.zero_le, Nat.or_zero, Nat.zero_or, Bool.not_true, Bool.not_false, Bool.true_and, Bool.false_and, Bool.and_true, Bool.and_false, ↓reduceIte, if_true, if_false, not_true_eq_false, not_false_eq_true, true_and, and_true, false_and, and_false, and_self, true_or, or_true, false_or, or_false, Nat.reduceEqDiff, Nat.reduceLT, Nat.reduceLeDiff, Nat.reduceAdd, Nat.reduceMul, Nat.reduceSub, Nat.add_zero, Nat.zero_add, Nat.mul_zero, Nat.zero_mul, ne_eq, Bool.not_eq_true, Bool.not_eq_false, reduceCtorEq, decide_true, decide_false, decide_eq_true_eq, decide_eq_false_iff_not, Bool.false_eq_true, if_pos, if_neg, h3]
  · by_cases h4 : 122 < c
    · rw [decide_eq_false (by omega)]
      simp (disch := omega) only [↓fLt_e, fBd_s, ↓fJn_s, fNn_s, fNu_0, fNu_s, fBo_0, fBo_1, fBo_b, i_lit, i_neg1, nI_add, pk_mul, nI_clamp, i_le, i_lt, i_eq, fIx_n, nI_mI, mI_nI, mI_lt, nI_lt_m, mI_le, nI_le_m, xI_0, xI_s, bI_0, bI_1, bI_t, bI_f, n_31, j_bit, j_one, i_and, i_or, Nat.not_lt_zero, Nat.succ_ne_zero, Nat.add_one_ne_zero, Nat.add_one_sub_one, Nat.zero_le, Nat.or_zero, Nat.zero_or, Bool.not_true, Bool.not_false, Bool.true_and, Bool.false_and, Bool.and_true, Bool.and_false, ↓reduceIte, if_true, if_false, not_true_eq_false, not_false_eq_true, true_and, and_true, false_and, and_false, and_self, true_or, or_true, false_or, or_false, Nat.reduceEqDiff, Nat.reduceLT, Nat.reduceLeDiff, Nat.reduceAdd, Nat.reduceMul, Nat.reduceSub, Nat.add_zero, Nat.zero_add, Nat.mul_zero, Nat.zero_mul, ne_eq, Bool.not_eq_true, Bool.not_eq_false, reduceCtorEq, decide_true, decide_false, decide_eq_true_eq, decide_eq_false_iff_not, Bool.false_eq_true, if_pos, if_neg, h3, h4]
    · rw [decide_eq_true (by omega)]
      simp (disch := omega) only [↓fLt_e, fBd_s, ↓fJn_s, fNn_s, fNu_0, fNu_s, fBo_0, fBo_1, fBo_b, i_lit, i_neg1, nI_add, pk_mul, nI_clamp, i_le, i_lt, i_eq, fIx_n, nI_mI, mI_nI, mI_lt, nI_lt_m, mI_le, nI_le_m, xI_0, xI_s, bI_0, bI_1, bI_t, bI_f, n_31, j_bit, j_one, i_and, i_or, Nat.not_lt_zero, Nat.succ_ne_zero, Nat.add_one_ne_zero, Nat.add_one_sub_one, Nat.zero_le, Nat.or_zero, Nat.zero_or, Bool.not_true, Bool.not_false, Bool.true_and, Bool.false_and, Bool.and_true, Bool.and_false, ↓reduceIte, if_true, if_false, not_true_eq_false, not_false_eq_true, true_and, and_true, false_and, and_false, and_self, true_or, or_true, false_or, or_false, Nat.reduceEqDiff, Nat.reduceLT, Nat.reduceLeDiff, Nat.reduceAdd, Nat.reduceMul, Nat.reduceSub, Nat.add_zero, Nat.zero_add, Nat.mul_zero, Nat.zero_mul, ne_eq, Bool.not_eq_true, Bool.not_eq_false, reduceCtorEq, decide_true, decide_false, decide_eq_true_eq, decide_eq_false_iff_not, Bool.false_eq_true, if_pos, if_neg, h3, h4]
theorem x_isDig {x : Int32} {c : Nat} (h : bty x c) (hc : c < 256) (st : fSt) : f_X5_isDigit x st = some (bI (decide (48 ≤ c ∧ c ≤ 57)), st) := by
  unfold f_X5_isDigit
  rcases h with ⟨h1, rfl⟩ | ⟨h1, h2⟩
  · by_cases h3 : c < 48
    · rw [decide_eq_false (by omega)]
      simp (disch := omega) only [↓fLt_e, fBd_s, ↓fJn_s, fNn_s, fNu_0, fNu_s, fBo_0, fBo_1, fBo_b, i_lit, i_neg1, nI_add, pk_mul, nI_clamp, i_le, i_lt, i_eq, fIx_n, nI_mI, mI_nI, mI_lt, nI_lt_m, mI_le, nI_le_m, xI_0, xI_s, bI_0, bI_1, bI_t, bI_f, n_31, j_bit, j_one, i_and, i_or, Nat.not_lt_zero, Nat.succ_ne_zero, Nat.add_one_ne_zero, Nat.add_one_sub_one, Nat.zero_le, Nat.or_zero, Nat.zero_or, Bool.not_true, Bool.not_false, Bool.true_and, Bool.false_and, Bool.and_true, Bool.and_false, ↓reduceIte, if_true, if_false, not_true_eq_false, not_false_eq_true, true_and, and_true, false_and, and_false, and_self, true_or, or_true, false_or, or_false, Nat.reduceEqDiff, Nat.reduceLT, Nat.reduceLeDiff, Nat.reduceAdd, Nat.reduceMul, Nat.reduceSub, Nat.add_zero, Nat.zero_add, Nat.mul_zero, Nat.zero_mul, ne_eq, Bool.not_eq_true, Bool.not_eq_false, reduceCtorEq, decide_true, decide_false, decide_eq_true_eq, decide_eq_false_iff_not, Bool.false_eq_true, if_pos, if_neg, h3]
    · by_cases h4 : 57 < c
      · rw [decide_eq_false (by omega)]
        simp (disch := omega) only [↓fLt_e, fBd_s, ↓fJn_s, fNn_s, fNu_0, fNu_s, fBo_0, fBo_1, fBo_b, i_lit, i_neg1, nI_add, pk_mul, nI_clamp, i_le, i_lt, i_eq, fIx_n, nI_mI, mI_nI, mI_lt, nI_lt_m, mI_le, nI_le_m, xI_0, xI_s, bI_0, bI_1, bI_t, bI_f, n_31, j_bit, j_one, i_and, i_or, Nat.not_lt_zero, Nat.succ_ne_zero, Nat.add_one_ne_zero, Nat.add_one_sub_one, Nat.zero_le, Nat.or_zero, Nat.zero_or, Bool.not_true, Bool.not_false, Bool.true_and, Bool.false_and, Bool.and_true, Bool.and_false, ↓reduceIte, if_true, if_false, not_true_eq_false, not_false_eq_true, true_and, and_true, false_and, and_false, and_self, true_or, or_true, false_or, or_false, Nat.reduceEqDiff, Nat.reduceLT, Nat.reduceLeDiff, Nat.reduceAdd, Nat.reduceMul, Nat.reduceSub, Nat.add_zero, Nat.zero_add, Nat.mul_zero, Nat.zero_mul, ne_eq, Bool.not_eq_true, Bool.not_eq_false, reduceCtorEq, decide_true, decide_false, decide_eq_true_eq, decide_eq_false_iff_not, Bool.false_eq_true, if_pos, if_neg, h3, h4]
      · rw [decide_eq_true (by omega)]
        simp (disch := omega) only [↓fLt_e, fBd_s, ↓fJn_s, fNn_s, fNu_0, fNu_s, fBo_0, fBo_1, fBo_b, i_lit, i_neg1, nI_add, pk_mul, nI_clamp, i_le, i_lt, i_eq, fIx_n, nI_mI, mI_nI, mI_lt, nI_lt_m, mI_le, nI_le_m, xI_0, xI_s, bI_0, bI_1, bI_t, bI_f, n_31, j_bit, j_one, i_and, i_or, Nat.not_lt_zero, Nat.succ_ne_zero, Nat.add_one_ne_zero, Nat.add_one_sub_one, Nat.zero_le, Nat.or_zero, Nat.zero_or, Bool.not_true, Bool.not_false, Bool.true_and, Bool.false_and, Bool.and_true, Bool.and_false, ↓reduceIte, if_true, if_false, not_true_eq_false, not_false_eq_true, true_and, and_true, false_and, and_false, and_self, true_or, or_true, false_or, or_false, Nat.reduceEqDiff, Nat.reduceLT, Nat.reduceLeDiff, Nat.reduceAdd, Nat.reduceMul, Nat.reduceSub, Nat.add_zero, Nat.zero_add, Nat.mul_zero, Nat.zero_mul, ne_eq, Bool.not_eq_true, Bool.not_eq_false, reduceCtorEq, decide_true, decide_false, decide_eq_true_eq, decide_eq_false_iff_not, Bool.false_eq_true, if_pos, if_neg, h3, h4]
  · have h3 : x < nI 48 := by rw [Int32.lt_iff_toInt_lt, nI_toInt (by omega)]; omega
    rw [decide_eq_false (by omega)]
    simp (disch := omega) only [↓fLt_e, fBd_s, ↓fJn_s, fNn_s, fNu_0, fNu_s, fBo_0, fBo_1, fBo_b, i_lit, i_neg1, nI_add, pk_mul, nI_clamp, i_le, i_lt, i_eq, fIx_n, nI_mI, mI_nI, mI_lt, nI_lt_m, mI_le, nI_le_m, xI_0, xI_s, bI_0, bI_1, bI_t, bI_f, n_31, j_bit, j_one, i_and, i_or, Nat.not_lt_zero, Nat.succ_ne_zero, Nat.add_one_ne_zero, Nat.add_one_sub_one, Nat.zero_le, Nat.or_zero, Nat.zero_or, Bool.not_true, Bool.not_false, Bool.true_and, Bool.false_and, Bool.and_true, Bool.and_false, ↓reduceIte, if_true, if_false, not_true_eq_false, not_false_eq_true, true_and, and_true, false_and, and_false, and_self, true_or, or_true, false_or, or_false, Nat.reduceEqDiff, Nat.reduceLT, Nat.reduceLeDiff, Nat.reduceAdd, Nat.reduceMul, Nat.reduceSub, Nat.add_zero, Nat.zero_add, Nat.mul_zero, Nat.zero_mul, ne_eq, Bool.not_eq_true, Bool.not_eq_false, reduceCtorEq, decide_true, decide_false, decide_eq_true_eq, decide_eq_false_iff_not, Bool.false_eq_true, if_pos, if_neg, h3]
theorem m_isDig {c : Nat} (hc : c < 256) (st : fSt) : f_X12_isDigit (nI c) st = some (bI (decide (48 ≤ c ∧ c ≤ 57)), st) := by
  unfold f_X12_isDigit
  by_cases h3 : c < 48
  · rw [decide_eq_false (by omega)]
    simp (disch := omega) only [↓fLt_e, fBd_s, ↓fJn_s, fNn_s, fNu_0, fNu_s, fBo_0, fBo_1, fBo_b, i_lit, i_neg1, nI_add, pk_mul, nI_clamp, i_le, i_lt, i_eq, fIx_n, nI_mI, mI_nI, mI_lt, nI_lt_m, mI_le, nI_le_m, xI_0, xI_s, bI_0, bI_1, bI_t, bI_f, n_31, j_bit, j_one, i_and, i_or, Nat.not_lt_zero, Nat.succ_ne_zero, Nat.add_one_ne_zero, Nat.add_one_sub_one, Nat.zero_le, Nat.or_zero, Nat.zero_or, Bool.not_true, Bool.not_false, Bool.true_and, Bool.false_and, Bool.and_true, Bool.and_false, ↓reduceIte, if_true, if_false, not_true_eq_false, not_false_eq_true, true_and, and_true, false_and, and_false, and_self, true_or, or_true, false_or, or_false, Nat.reduceEqDiff, Nat.reduceLT, Nat.reduceLeDiff, Nat.reduceAdd, Nat.reduceMul, Nat.reduceSub, Nat.add_zero, Nat.zero_add, Nat.mul_zero, Nat.zero_mul, ne_eq, Bool.not_eq_true, Bool.not_eq_false, reduceCtorEq, decide_true, decide_false, decide_eq_true_eq, decide_eq_false_iff_not, Bool.false_eq_true, if_pos, if_neg, h3]
  · by_cases h4 : 57 < c
    · rw [decide_eq_false (by omega)]
      simp (disch := omega) only [↓fLt_e, fBd_s, ↓fJn_s, fNn_s, fNu_0, fNu_s, fBo_0, fBo_1, fBo_b, i_lit, i_neg1, nI_add, pk_mul, nI_clamp, i_le, i_lt, i_eq, fIx_n, nI_mI, mI_nI, mI_lt, nI_lt_m, mI_le, nI_le_m, xI_0, xI_s, bI_0, bI_1, bI_t, bI_f, n_31, j_bit, j_one, i_and, i_or, Nat.not_lt_zero, Nat.succ_ne_zero, Nat.add_one_ne_zero, Nat.add_one_sub_one, Nat.zero_le, Nat.or_zero, Nat.zero_or, Bool.not_true, Bool.not_false, Bool.true_and, Bool.false_and, Bool.and_true, Bool.and_false, ↓reduceIte, if_true, if_false, not_true_eq_false, not_false_eq_true, true_and, and_true, false_and, and_false, and_self, true_or, or_true, false_or, or_false, Nat.reduceEqDiff, Nat.reduceLT, Nat.reduceLeDiff, Nat.reduceAdd, Nat.reduceMul, Nat.reduceSub, Nat.add_zero, Nat.zero_add, Nat.mul_zero, Nat.zero_mul, ne_eq, Bool.not_eq_true, Bool.not_eq_false, reduceCtorEq, decide_true, decide_false, decide_eq_true_eq, decide_eq_false_iff_not, Bool.false_eq_true, if_pos, if_neg, h3, h4]
    · rw [decide_eq_true (by omega)]
      simp (disch := omega) only [↓fLt_e, fBd_s, ↓fJn_s, fNn_s, fNu_0, fNu_s, fBo_0, fBo_1, fBo_b, i_lit, i_neg1, nI_add, pk_mul, nI_clamp, i_le, i_lt, i_eq, fIx_n, nI_mI, mI_nI, mI_lt, nI_lt_m, mI_le, nI_le_m, xI_0, xI_s, bI_0, bI_1, bI_t, bI_f, n_31, j_bit, j_one, i_and, i_or, Nat.not_lt_zero, Nat.succ_ne_zero, Nat.add_one_ne_zero, Nat.add_one_sub_one, Nat.zero_le, Nat.or_zero, Nat.zero_or, Bool.not_true, Bool.not_false, Bool.true_and, Bool.false_and, Bool.and_true, Bool.and_false, ↓reduceIte, if_true, if_false, not_true_eq_false, not_false_eq_true, true_and, and_true, false_and, and_false, and_self, true_or, or_true, false_or, or_false, Nat.reduceEqDiff, Nat.reduceLT, Nat.reduceLeDiff, Nat.reduceAdd, Nat.reduceMul, Nat.reduceSub, Nat.add_zero, Nat.zero_add, Nat.mul_zero, Nat.zero_mul, ne_eq, Bool.not_eq_true, Bool.not_eq_false, reduceCtorEq, decide_true, decide_false, decide_eq_true_eq, decide_eq_false_iff_not, Bool.false_eq_true, if_pos, if_neg, h3, h4]
/-- the tape of both sides -/
def tpe (sc sm : fSt) (n : Nat) (c : Nat → Nat) : Prop := n ≤ 900 ∧ gI sc 5 0 3 = nI n ∧ gI sm 12 0 9 = nI n ∧ (∀ k, k < 32 → gB sc 5 0 2 k = fWd k) ∧ ∀ k, k < n → c k < 256 ∧ bty (gA sc 5 0 1 k) (c k) ∧ gA sm 12 0 4 k &&& nI 255 = nI (c k)
section
variable {sc sm : fSt} {n : Nat} {c : Nat → Nat}
theorem m_look {B : Nat → Int32} {wd : Int64} (T : tpe sc sm n c) {p : Nat} (hp : p < 1000) : f_X12_look2 (nI p) (yT sm B wd) = some (nI (if n ≤ p then 0 else c p), yT sm B wd) := by
  obtain ⟨t1, t2, t3, t4, t5⟩ := T
  have h9 : gI (yT sm B wd) 12 0 9 = nI n := by rw [yT_o _ _ _ (by omega)]; exact t3
  unfold f_X12_look2
  by_cases h : n ≤ p
  · rw [if_pos h]
    simp (disch := omega) only [↓fLt_e, fBd_s, ↓fJn_s, fNn_s, fNu_0, fNu_s, fBo_0, fBo_1, fBo_b, i_lit, i_neg1, nI_add, pk_mul, nI_clamp, i_le, i_lt, i_eq, fIx_n, nI_mI, mI_nI, mI_lt, nI_lt_m, mI_le, nI_le_m, xI_0, xI_s, bI_0, bI_1, bI_t, bI_f, n_31, j_bit, j_one, i_and, i_or, Nat.not_lt_zero, Nat.succ_ne_zero, Nat.add_one_ne_zero, Nat.add_one_sub_one, Nat.zero_le, Nat.or_zero, Nat.zero_or, Bool.not_true, Bool.not_false, Bool.true_and, Bool.false_and, Bool.and_true, Bool.and_false, ↓reduceIte, if_true, if_false, not_true_eq_false, not_false_eq_true, true_and, and_true, false_and, and_false, and_self, true_or, or_true, false_or, or_false, Nat.reduceEqDiff, Nat.reduceLT, Nat.reduceLeDiff, Nat.reduceAdd, Nat.reduceMul, Nat.reduceSub, Nat.add_zero, Nat.zero_add, Nat.mul_zero, Nat.zero_mul, ne_eq, Bool.not_eq_true, Bool.not_eq_false, reduceCtorEq, decide_true, decide_false, decide_eq_true_eq, decide_eq_false_iff_not, Bool.false_eq_true, if_pos, if_neg, h9, h]
  · rw [if_neg h]
    have h5 := (t5 p (by omega)).2.2
    simp only [↓fJn_s, i_lit, h9]
    rw [if_neg (by rw [i_le _ _ (by omega) (by omega)]; omega), fIx_n (by omega) (by omega), nI_clamp (by omega), yT_A, h5]
theorem sp_loop (T : tpe sc sm n c) (nm wd : Int64) : ∀ r p (A B : Nat → Int32) F1 F2, p + r = n → r < F1 → r < F2 → A 5 = nI p → B 15 = nI p → ∃ p', p ≤ p' ∧ p' ≤ n ∧ (∀ k2 : fSt → Option (Unit × fSt), f_X5_advance_L0 k2 F1 (xT sc A nm) = k2 (xT sc (upd A 5 (nI p')) nm)) ∧ ∀ k3 : fSt → Option (Unit × fSt), f_X12_next_L8 k3 F2 (yT sm B wd) = k3 (yT sm (upd B 15 (nI p')) wd) := by
  have T0 := T
  obtain ⟨t1, t2, t3, t4, t5⟩ := T0
  intro r
  induction r with
  | zero =>
    intro p A B F1 F2 hr h1 h2 ha hb
    obtain ⟨F1, rfl⟩ : ∃ k, F1 = k + 1 := ⟨F1 - 1, by omega⟩
    obtain ⟨F2, rfl⟩ : ∃ k, F2 = k + 1 := ⟨F2 - 1, by omega⟩
    have x3 : gI (xT sc A nm) 5 0 3 = nI n := by rw [xT_o _ _ _ (by omega)]; exact t2
    have x5 : gI (xT sc A nm) 5 0 5 = nI p := by rw [xT_I _ _ _ (by omega)]; exact ha
    have m9 : gI (yT sm B wd) 12 0 9 = nI n := by rw [yT_o _ _ _ (by omega)]; exact t3
    have m15 : gI (yT sm B wd) 12 0 15 = nI p := by rw [yT_I _ _ _ (by omega)]; exact hb
    have eA : upd A 5 (nI p) = A := by funext j; rw [upd_at]; split <;> simp_all
    have eB : upd B 15 (nI p) = B := by funext j; rw [upd_at]; split <;> simp_all
    refine ⟨p, Nat.le_refl _, by omega, ?_, ?_⟩
    · intro k2
      rw [f_X5_advance_L0, eA, x3, x5, if_pos (by rw [i_le _ _ (by omega) (by omega)]; omega)]
    · intro k3
      rw [f_X12_next_L8, eB, m9, m15, if_pos (by rw [i_le _ _ (by omega) (by omega)]; omega)]
  | succ r ih =>
    intro p A B F1 F2 hr h1 h2 ha hb
    obtain ⟨F1, rfl⟩ : ∃ k, F1 = k + 1 := ⟨F1 - 1, by omega⟩
    obtain ⟨F2, rfl⟩ : ∃ k, F2 = k + 1 := ⟨F2 - 1, by omega⟩
    have x3 : gI (xT sc A nm) 5 0 3 = nI n := by rw [xT_o _ _ _ (by omega)]; exact t2
    have x5 : gI (xT sc A nm) 5 0 5 = nI p := by rw [xT_I _ _ _ (by omega)]; exact ha
    have m9 : gI (yT sm B wd) 12 0 9 = nI n := by rw [yT_o _ _ _ (by omega)]; exact t3
    have m15 : gI (yT sm B wd) 12 0 15 = nI p := by rw [yT_I _ _ _ (by omega)]; exact hb
    obtain ⟨c1, c2, c3⟩ := t5 p (by omega)
    have hlk := m_look (B := B) (wd := wd) T (p := p) (by omega)
    rw [if_neg (show ¬ n ≤ p by omega)] at hlk
    have q32 := bty_eq c2 (show 32 < 128 by omega)
    have q10 := bty_eq c2 (show 10 < 128 by omega)
    have sxx : ∀ v, sI (xT sc A nm) 5 0 5 v = xT sc (upd A 5 v) nm := fun v => xT_sI _ _ _ (by omega) v
    have syy : ∀ v, sI (yT sm B wd) 12 0 15 v = yT sm (upd B 15 v) wd := fun v => yT_sI _ _ _ (by omega) v
    by_cases hw : c p = 32 ∨ c p = 10
    · obtain ⟨p', g1, g2, g3, g4⟩ := ih (p + 1) (upd A 5 (nI (p + 1))) (upd B 15 (nI (p + 1))) F1 F2 (by omega) (by omega) (by omega) (by rw [upd_at, if_pos rfl]) (by rw [upd_at, if_pos rfl])
      rw [upd_up] at g3 g4
      refine ⟨p', by omega, g2, ?_, ?_⟩
      · intro k2
        rw [← g3 k2, f_X5_advance_L0]
        rcases hw with hw | hw
        · simp (disch := omega) only [↓fLt_e, fBd_s, ↓fJn_s, fNn_s, fNu_0, fNu_s, fBo_0, fBo_1, fBo_b, i_lit, i_neg1, nI_add, pk_mul, nI_clamp, i_le, i_lt, i_eq, fIx_n, nI_mI, mI_nI, mI_lt, nI_lt_m, mI_le, nI_le_m, xI_0, xI_s, bI_0, bI_1, bI_t, bI_f, n_31, j_bit, j_one, i_and, i_or, Nat.not_lt_zero, Nat.succ_ne_zero, Nat.add_one_ne_zero, Nat.add_one_sub_one, Nat.zero_le, Nat.or_zero, Nat.zero_or, Bool.not_true, Bool.not_false, Bool.true_and, Bool.false_and, Bool.and_true, Bool.and_false, ↓reduceIte, if_true, if_false, not_true_eq_false, not_false_eq_true, true_and, and_true, false_and, and_false, and_self, true_or, or_true, false_or, or_false, Nat.reduceEqDiff, Nat.reduceLT, Nat.reduceLeDiff, Nat.reduceAdd, Nat.reduceMul, Nat.reduceSub, Nat.add_zero, Nat.zero_add, Nat.mul_zero, Nat.zero_mul, ne_eq, Bool.not_eq_true, Bool.not_eq_false, reduceCtorEq, decide_true, decide_false, decide_eq_true_eq, decide_eq_false_iff_not, Bool.false_eq_true, if_pos, if_neg, x3, x5, xT_A, q32, q10, hw, sxx]
        · simp (disch := omega) only [↓fLt_e, fBd_s, ↓fJn_s, fNn_s, fNu_0, fNu_s, fBo_0, fBo_1, fBo_b, i_lit, i_neg1, nI_add, pk_mul, nI_clamp, i_le, i_lt, i_eq, fIx_n, nI_mI, mI_nI, mI_lt, nI_lt_m, mI_le, nI_le_m, xI_0, xI_s, bI_0, bI_1, bI_t, bI_f, n_31, j_bit, j_one, i_and, i_or, Nat.not_lt_zero, Nat.succ_ne_zero, Nat.add_one_ne_zero, Nat.add_one_sub_one, Nat.zero_le, Nat.or_zero, Nat.zero_or, Bool.not_true, Bool.not_false, Bool.true_and, Bool.false_and, Bool.and_true, Bool.and_false, ↓reduceIte, if_true, if_false, not_true_eq_false, not_false_eq_true, true_and, and_true, false_and, and_false, and_self, true_or, or_true, false_or, or_false, Nat.reduceEqDiff, Nat.reduceLT, Nat.reduceLeDiff, Nat.reduceAdd, Nat.reduceMul, Nat.reduceSub, Nat.add_zero, Nat.zero_add, Nat.mul_zero, Nat.zero_mul, ne_eq, Bool.not_eq_true, Bool.not_eq_false, reduceCtorEq, decide_true, decide_false, decide_eq_true_eq, decide_eq_false_iff_not, Bool.false_eq_true, if_pos, if_neg, x3, x5, xT_A, q32, q10, hw, sxx]
      · intro k3
        rw [← g4 k3, f_X12_next_L8]
        rcases hw with hw | hw
        · simp (disch := omega) only [↓fLt_e, fBd_s, ↓fJn_s, fNn_s, fNu_0, fNu_s, fBo_0, fBo_1, fBo_b, i_lit, i_neg1, nI_add, pk_mul, nI_clamp, i_le, i_lt, i_eq, fIx_n, nI_mI, mI_nI, mI_lt, nI_lt_m, mI_le, nI_le_m, xI_0, xI_s, bI_0, bI_1, bI_t, bI_f, n_31, j_bit, j_one, i_and, i_or, Nat.not_lt_zero, Nat.succ_ne_zero, Nat.add_one_ne_zero, Nat.add_one_sub_one, Nat.zero_le, Nat.or_zero, Nat.zero_or, Bool.not_true, Bool.not_false, Bool.true_and, Bool.false_and, Bool.and_true, Bool.and_false, ↓reduceIte, if_true, if_false, not_true_eq_false, not_false_eq_true, true_and, and_true, false_and, and_false, and_self, true_or, or_true, false_or, or_false, Nat.reduceEqDiff, Nat.reduceLT, Nat.reduceLeDiff, Nat.reduceAdd, Nat.reduceMul, Nat.reduceSub, Nat.add_zero, Nat.zero_add, Nat.mul_zero, Nat.zero_mul, ne_eq, Bool.not_eq_true, Bool.not_eq_false, reduceCtorEq, decide_true, decide_false, decide_eq_true_eq, decide_eq_false_iff_not, Bool.false_eq_true, if_pos, if_neg, m9, m15, hlk, hw, syy]
        · simp (disch := omega) only [↓fLt_e, fBd_s, ↓fJn_s, fNn_s, fNu_0, fNu_s, fBo_0, fBo_1, fBo_b, i_lit, i_neg1, nI_add, pk_mul, nI_clamp, i_le, i_lt, i_eq, fIx_n, nI_mI, mI_nI, mI_lt, nI_lt_m, mI_le, nI_le_m, xI_0, xI_s, bI_0, bI_1, bI_t, bI_f, n_31, j_bit, j_one, i_and, i_or, Nat.not_lt_zero, Nat.succ_ne_zero, Nat.add_one_ne_zero, Nat.add_one_sub_one, Nat.zero_le, Nat.or_zero, Nat.zero_or, Bool.not_true, Bool.not_false, Bool.true_and, Bool.false_and, Bool.and_true, Bool.and_false, ↓reduceIte, if_true, if_false, not_true_eq_false, not_false_eq_true, true_and, and_true, false_and, and_false, and_self, true_or, or_true, false_or, or_false, Nat.reduceEqDiff, Nat.reduceLT, Nat.reduceLeDiff, Nat.reduceAdd, Nat.reduceMul, Nat.reduceSub, Nat.add_zero, Nat.zero_add, Nat.mul_zero, Nat.zero_mul, ne_eq, Bool.not_eq_true, Bool.not_eq_false, reduceCtorEq, decide_true, decide_false, decide_eq_true_eq, decide_eq_false_iff_not, Bool.false_eq_true, if_pos, if_neg, m9, m15, hlk, hw, syy]
    · have eA : upd A 5 (nI p) = A := by funext j; rw [upd_at]; split <;> simp_all
      have eB : upd B 15 (nI p) = B := by funext j; rw [upd_at]; split <;> simp_all
      have n32 : ¬ c p = 32 := fun h => hw (Or.inl h)
      have n10 : ¬ c p = 10 := fun h => hw (Or.inr h)
      refine ⟨p, Nat.le_refl _, by omega, ?_, ?_⟩
      · intro k2
        rw [f_X5_advance_L0, eA]
        simp (disch := omega) only [↓fLt_e, fBd_s, ↓fJn_s, fNn_s, fNu_0, fNu_s, fBo_0, fBo_1, fBo_b, i_lit, i_neg1, nI_add, pk_mul, nI_clamp, i_le, i_lt, i_eq, fIx_n, nI_mI, mI_nI, mI_lt, nI_lt_m, mI_le, nI_le_m, xI_0, xI_s, bI_0, bI_1, bI_t, bI_f, n_31, j_bit, j_one, i_and, i_or, Nat.not_lt_zero, Nat.succ_ne_zero, Nat.add_one_ne_zero, Nat.add_one_sub_one, Nat.zero_le, Nat.or_zero, Nat.zero_or, Bool.not_true, Bool.not_false, Bool.true_and, Bool.false_and, Bool.and_true, Bool.and_false, ↓reduceIte, if_true, if_false, not_true_eq_false, not_false_eq_true, true_and, and_true, false_and, and_false, and_self, true_or, or_true, false_or, or_false, Nat.reduceEqDiff, Nat.reduceLT, Nat.reduceLeDiff, Nat.reduceAdd, Nat.reduceMul, Nat.reduceSub, Nat.add_zero, Nat.zero_add, Nat.mul_zero, Nat.zero_mul, ne_eq, Bool.not_eq_true, Bool.not_eq_false, reduceCtorEq, decide_true, decide_false, decide_eq_true_eq, decide_eq_false_iff_not, Bool.false_eq_true, if_pos, if_neg, x3, x5, xT_A, q32, q10, n32, n10]
      · intro k3
        rw [f_X12_next_L8, eB]
        simp (disch := omega) only [↓fLt_e, fBd_s, ↓fJn_s, fNn_s, fNu_0, fNu_s, fBo_0, fBo_1, fBo_b, i_lit, i_neg1, nI_add, pk_mul, nI_clamp, i_le, i_lt, i_eq, fIx_n, nI_mI, mI_nI, mI_lt, nI_lt_m, mI_le, nI_le_m, xI_0, xI_s, bI_0, bI_1, bI_t, bI_f, n_31, j_bit, j_one, i_and, i_or, Nat.not_lt_zero, Nat.succ_ne_zero, Nat.add_one_ne_zero, Nat.add_one_sub_one, Nat.zero_le, Nat.or_zero, Nat.zero_or, Bool.not_true, Bool.not_false, Bool.true_and, Bool.false_and, Bool.and_true, Bool.and_false, ↓reduceIte, if_true, if_false, not_true_eq_false, not_false_eq_true, true_and, and_true, false_and, and_false, and_self, true_or, or_true, false_or, or_false, Nat.reduceEqDiff, Nat.reduceLT, Nat.reduceLeDiff, Nat.reduceAdd, Nat.reduceMul, Nat.reduceSub, Nat.add_zero, Nat.zero_add, Nat.mul_zero, Nat.zero_mul, ne_eq, Bool.not_eq_true, Bool.not_eq_false, reduceCtorEq, decide_true, decide_false, decide_eq_true_eq, decide_eq_false_iff_not, Bool.false_eq_true, if_pos, if_neg, m9, m15, hlk, n32, n10]
end
