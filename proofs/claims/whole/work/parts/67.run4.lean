/-! layer 2: the run of a week, block by block -/
def frz (sm : fSt) : Prop := gI sm 12 0 57 = nI 1 ∨ (gI sm 12 0 57 = nI 0 ∧ gI sm 12 0 58 = nI 200)
def fzn (sm sm' : fSt) : Prop := sm' = sm ∨ sm' = sI sm 12 0 57 (nI 1)
def fzz (fr to : Nat) (sm : fSt) : fSt := if to ≤ fr then sm else if gI sm 12 0 57 = nI 1 then sm else sI sm 12 0 57 (nI 1)
theorem fz_fzn (fr to : Nat) (sm : fSt) : fzn sm (fzz fr to sm) := by
  unfold fzz
  split
  · exact Or.inl rfl
  · split
    · exact Or.inl rfl
    · exact Or.inr rfl
theorem frz_fzn {sm sm' : fSt} (h : frz sm) (g : fzn sm sm') : frz sm' := by
  rcases g with rfl | rfl
  · exact h
  · exact Or.inl (gI_same _ _ _ _ _)
theorem mFr_fzn {sm sm' : fSt} (g : fzn sm sm') : mFr sm sm' := by
  rcases g with rfl | rfl
  · exact mFr_rf _
  · exact mFr_I (by omega) (mFr_rf _)
section
variable {i : Nat} {no : Bool} {G0 : Nat → Nat} {q : Nat} {w M : Nat}
theorem wkR_fzn {sc sm sm' : fSt} {sg : Nat} (W : wkR i no G0 q sc sm sg) (g : fzn sm sm') : wkR i no G0 q sc sm' sg := by
  rcases g with rfl | rfl
  · exact W
  · have W0 := W
    obtain ⟨Gc, Gm, r, se, en, l, -, -, -, ⟨s1, s2⟩, -⟩ := W0
    refine wkR_e W (cFr_rf i no sc) ⟨rfl, rfl, rfl, rfl⟩ rfl ⟨rfl, rfl⟩ (fun k _ => rfl) (fun k h1 h2 => ?_) ⟨s1, s2⟩
    rw [gI_sI, if_neg (by omega)]
theorem frz_one {sm : fSt} {j : Nat} (rec : Int32 → Int32 → fSt → Option (Unit × fSt)) (h : gI sm 12 0 58 = nI 200) : f_X12_doOne rec (nI j) sm = some ((), sI sm 12 0 57 (nI 1)) := by
  unfold f_X12_doOne
  simp (disch := omega) only [↓fLt_e, fBd_s, ↓fJn_s, fNn_s, fNu_0, fNu_s, fBo_0, fBo_1, fBo_b, i_lit, i_neg1, nI_add, pk_mul, nI_clamp, i_le, i_lt, i_eq, fIx_n, nI_mI, mI_nI, mI_lt, nI_lt_m, mI_le, nI_le_m, xI_0, xI_s, bI_0, bI_1, bI_t, bI_f, n_31, j_bit, j_one, i_and, i_or, Nat.not_lt_zero, Nat.succ_ne_zero, Nat.add_one_ne_zero, Nat.add_one_sub_one, Nat.zero_le, Nat.or_zero, Nat.zero_or, Bool.not_true, Bool.not_false, Bool.true_and, Bool.false_and, Bool.and_true, Bool.and_false, ↓reduceIte, if_true, if_false, not_true_eq_false, not_false_eq_true, true_and, and_true, false_and, and_false, and_self, true_or, or_true, false_or, or_false, Nat.reduceEqDiff, Nat.reduceLT, Nat.reduceLeDiff, Nat.reduceAdd, Nat.reduceMul, Nat.reduceSub, Nat.add_zero, Nat.zero_add, Nat.mul_zero, Nat.zero_mul, ne_eq, Bool.not_eq_true, Bool.not_eq_false, reduceCtorEq, decide_true, decide_false, decide_eq_true_eq, decide_eq_false_iff_not, Bool.false_eq_true, if_pos, if_neg, h]
theorem frz_L2 {sm : fSt} {fr to : Nat} (h : frz sm) (hfr : fr ≤ 30) (hto : to ≤ 30) (rec : Int32 → Int32 → fSt → Option (Unit × fSt)) (k3 : fSt → Option (Unit × fSt)) {m : Nat} (hm : 1 ≤ m) (hm2 : to < fr + m) : f_X12_doAll_L2 rec (nI to) k3 m (nI fr) sm = k3 (fzz fr to sm) := by
  obtain ⟨m, rfl⟩ : ∃ k, m = k + 1 := ⟨m - 1, by omega⟩
  rw [f_X12_doAll_L2]
  unfold fzz
  by_cases hle : to ≤ fr
  · rw [if_pos hle]
    simp (disch := omega) only [↓fLt_e, fBd_s, ↓fJn_s, fNn_s, fNu_0, fNu_s, fBo_0, fBo_1, fBo_b, i_lit, i_neg1, nI_add, pk_mul, nI_clamp, i_le, i_lt, i_eq, fIx_n, nI_mI, mI_nI, mI_lt, nI_lt_m, mI_le, nI_le_m, xI_0, xI_s, bI_0, bI_1, bI_t, bI_f, n_31, j_bit, j_one, i_and, i_or, Nat.not_lt_zero, Nat.succ_ne_zero, Nat.add_one_ne_zero, Nat.add_one_sub_one, Nat.zero_le, Nat.or_zero, Nat.zero_or, Bool.not_true, Bool.not_false, Bool.true_and, Bool.false_and, Bool.and_true, Bool.and_false, ↓reduceIte, if_true, if_false, not_true_eq_false, not_false_eq_true, true_and, and_true, false_and, and_false, and_self, true_or, or_true, false_or, or_false, Nat.reduceEqDiff, Nat.reduceLT, Nat.reduceLeDiff, Nat.reduceAdd, Nat.reduceMul, Nat.reduceSub, Nat.add_zero, Nat.zero_add, Nat.mul_zero, Nat.zero_mul, ne_eq, Bool.not_eq_true, Bool.not_eq_false, reduceCtorEq, decide_true, decide_false, decide_eq_true_eq, decide_eq_false_iff_not, Bool.false_eq_true, if_pos, if_neg, hle]
  · rw [if_neg hle]
    rcases h with h | ⟨h, h2⟩
    · rw [if_pos h]
      simp (disch := omega) only [↓fLt_e, fBd_s, ↓fJn_s, fNn_s, fNu_0, fNu_s, fBo_0, fBo_1, fBo_b, i_lit, i_neg1, nI_add, pk_mul, nI_clamp, i_le, i_lt, i_eq, fIx_n, nI_mI, mI_nI, mI_lt, nI_lt_m, mI_le, nI_le_m, xI_0, xI_s, bI_0, bI_1, bI_t, bI_f, n_31, j_bit, j_one, i_and, i_or, Nat.not_lt_zero, Nat.succ_ne_zero, Nat.add_one_ne_zero, Nat.add_one_sub_one, Nat.zero_le, Nat.or_zero, Nat.zero_or, Bool.not_true, Bool.not_false, Bool.true_and, Bool.false_and, Bool.and_true, Bool.and_false, ↓reduceIte, if_true, if_false, not_true_eq_false, not_false_eq_true, true_and, and_true, false_and, and_false, and_self, true_or, or_true, false_or, or_false, Nat.reduceEqDiff, Nat.reduceLT, Nat.reduceLeDiff, Nat.reduceAdd, Nat.reduceMul, Nat.reduceSub, Nat.add_zero, Nat.zero_add, Nat.mul_zero, Nat.zero_mul, ne_eq, Bool.not_eq_true, Bool.not_eq_false, reduceCtorEq, decide_true, decide_false, decide_eq_true_eq, decide_eq_false_iff_not, Bool.false_eq_true, if_pos, if_neg, hle, h]
    · obtain ⟨m, rfl⟩ : ∃ k, m = k + 1 := ⟨m - 1, by omega⟩
      have h0 : ¬ gI sm 12 0 57 = nI 1 := by rw [h, i_eq _ _ (by omega) (by omega)]; omega
      have hs : gI (sI sm 12 0 57 (nI 1)) 12 0 57 = nI 1 := gI_same _ _ _ _ _
      have hone := frz_one (j := fr) rec h2
      rw [if_neg h0]
      simp (disch := omega) only [↓fLt_e, fBd_s, ↓fJn_s, fNn_s, fNu_0, fNu_s, fBo_0, fBo_1, fBo_b, i_lit, i_neg1, nI_add, pk_mul, nI_clamp, i_le, i_lt, i_eq, fIx_n, nI_mI, mI_nI, mI_lt, nI_lt_m, mI_le, nI_le_m, xI_0, xI_s, bI_0, bI_1, bI_t, bI_f, n_31, j_bit, j_one, i_and, i_or, Nat.not_lt_zero, Nat.succ_ne_zero, Nat.add_one_ne_zero, Nat.add_one_sub_one, Nat.zero_le, Nat.or_zero, Nat.zero_or, Bool.not_true, Bool.not_false, Bool.true_and, Bool.false_and, Bool.and_true, Bool.and_false, ↓reduceIte, if_true, if_false, not_true_eq_false, not_false_eq_true, true_and, and_true, false_and, and_false, and_self, true_or, or_true, false_or, or_false, Nat.reduceEqDiff, Nat.reduceLT, Nat.reduceLeDiff, Nat.reduceAdd, Nat.reduceMul, Nat.reduceSub, Nat.add_zero, Nat.zero_add, Nat.mul_zero, Nat.zero_mul, ne_eq, Bool.not_eq_true, Bool.not_eq_false, reduceCtorEq, decide_true, decide_false, decide_eq_true_eq, decide_eq_false_iff_not, Bool.false_eq_true, if_pos, if_neg, hle, h, hone]
      rw [f_X12_doAll_L2]
      by_cases hc : nI to ≤ gA (sI sm 12 0 57 (nI 1)) 12 0 5 (219 + 7 * fr + 6)
      · rw [if_pos hc]
      · rw [if_neg hc, hs, if_pos (by rw [i_lit, i_eq _ _ (by omega) (by omega)]; omega)]
theorem frz_all {sm : fSt} {fr to D : Nat} (h : frz sm) (hfr : fr ≤ 30) (hto : to ≤ 30) : f_X12_doAll (D + 1) (nI fr) (nI to) sm = some ((), fzz fr to sm) :=
  frz_L2 h hfr hto (f_X12_doAll D) (fun s2 => some ((), s2)) (fF_lt (show 0 < 4000000 by omega)) (Nat.lt_of_lt_of_le (fF_lt (show to < 4000000 by omega)) (Nat.le_add_left _ _))
theorem frz_L194 {c j D to : Nat} (hj : j < 30) (hto : to ≤ 30) (hc : c ≤ 99) : ∀ r k (sm : fSt), frz sm → gA sm 12 0 5 (220 + 7 * j) = nI c → gA sm 12 0 5 (225 + 7 * j) = nI to → k + r = c → ∃ sm', fzn sm sm' ∧ ∀ k27 m, r < m → f_X12_doOne_L194 (f_X12_doAll (D + 1)) (nI j) (nI (219 + 7 * j)) k27 m (nI k) sm = k27 sm' := by
  have hx3 : nI (219 + 7 * j) + nI 1 = nI (220 + 7 * j) := by rw [nI_add]; congr 1; omega
  have hx7 : nI (219 + 7 * j) + nI 6 = nI (225 + 7 * j) := by rw [nI_add]; congr 1; omega
  intro r
  induction r with
  | zero =>
    intro k sm h hc1 ht hk
    refine ⟨sm, Or.inl rfl, fun k27 m hm => ?_⟩
    obtain ⟨m, rfl⟩ : ∃ k, m = k + 1 := ⟨m - 1, by omega⟩
    have hkc : k = c := by omega
    subst hkc
    rw [f_X12_doOne_L194]
    simp (disch := omega) only [↓fLt_e, fBd_s, ↓fJn_s, fNn_s, fNu_0, fNu_s, fBo_0, fBo_1, fBo_b, i_lit, i_neg1, nI_add, pk_mul, nI_clamp, i_le, i_lt, i_eq, fIx_n, nI_mI, mI_nI, mI_lt, nI_lt_m, mI_le, nI_le_m, xI_0, xI_s, bI_0, bI_1, bI_t, bI_f, n_31, j_bit, j_one, i_and, i_or, Nat.not_lt_zero, Nat.succ_ne_zero, Nat.add_one_ne_zero, Nat.add_one_sub_one, Nat.zero_le, Nat.or_zero, Nat.zero_or, Bool.not_true, Bool.not_false, Bool.true_and, Bool.false_and, Bool.and_true, Bool.and_false, ↓reduceIte, if_true, if_false, not_true_eq_false, not_false_eq_true, true_and, and_true, false_and, and_false, and_self, true_or, or_true, false_or, or_false, Nat.reduceEqDiff, Nat.reduceLT, Nat.reduceLeDiff, Nat.reduceAdd, Nat.reduceMul, Nat.reduceSub, Nat.add_zero, Nat.zero_add, Nat.mul_zero, Nat.zero_mul, ne_eq, Bool.not_eq_true, Bool.not_eq_false, reduceCtorEq, decide_true, decide_false, decide_eq_true_eq, decide_eq_false_iff_not, Bool.false_eq_true, if_pos, if_neg, hx3, hc1]
  | succ r ih =>
    intro k sm h hc1 ht hk
    rcases h with h | ⟨h, h2⟩
    · refine ⟨sm, Or.inl rfl, fun k27 m hm => ?_⟩
      obtain ⟨m, rfl⟩ : ∃ k, m = k + 1 := ⟨m - 1, by omega⟩
      rw [f_X12_doOne_L194]
      simp (disch := omega) only [↓fLt_e, fBd_s, ↓fJn_s, fNn_s, fNu_0, fNu_s, fBo_0, fBo_1, fBo_b, i_lit, i_neg1, nI_add, pk_mul, nI_clamp, i_le, i_lt, i_eq, fIx_n, nI_mI, mI_nI, mI_lt, nI_lt_m, mI_le, nI_le_m, xI_0, xI_s, bI_0, bI_1, bI_t, bI_f, n_31, j_bit, j_one, i_and, i_or, Nat.not_lt_zero, Nat.succ_ne_zero, Nat.add_one_ne_zero, Nat.add_one_sub_one, Nat.zero_le, Nat.or_zero, Nat.zero_or, Bool.not_true, Bool.not_false, Bool.true_and, Bool.false_and, Bool.and_true, Bool.and_false, ↓reduceIte, if_true, if_false, not_true_eq_false, not_false_eq_true, true_and, and_true, false_and, and_false, and_self, true_or, or_true, false_or, or_false, Nat.reduceEqDiff, Nat.reduceLT, Nat.reduceLeDiff, Nat.reduceAdd, Nat.reduceMul, Nat.reduceSub, Nat.add_zero, Nat.zero_add, Nat.mul_zero, Nat.zero_mul, ne_eq, Bool.not_eq_true, Bool.not_eq_false, reduceCtorEq, decide_true, decide_false, decide_eq_true_eq, decide_eq_false_iff_not, Bool.false_eq_true, if_pos, if_neg, hx3, hc1, h]
    · have hall := frz_all (sm := sm) (fr := j + 1) (to := to) (D := D) (Or.inr ⟨h, h2⟩) (by omega) hto
      have hz := fz_fzn (j + 1) to sm
      have hfr := frz_fzn (Or.inr ⟨h, h2⟩) hz
      have h5 : gA (fzz (j + 1) to sm) 12 0 5 = gA sm 12 0 5 := by
        rcases hz with e | e <;> rw [e] <;> rfl
      obtain ⟨sm', q1, q2⟩ := ih (k + 1) (fzz (j + 1) to sm) hfr (by rw [h5]; exact hc1) (by rw [h5]; exact ht) (by omega)
      refine ⟨sm', ?_, fun k27 m hm => ?_⟩
      · rcases hz with e | e
        · rw [e] at q1; exact q1
        · rw [e] at q1
          rcases q1 with rfl | rfl
          · exact Or.inr rfl
          · exact Or.inr (sI_sI _ _ _ _ _ _)
      · obtain ⟨m, rfl⟩ : ∃ k, m = k + 1 := ⟨m - 1, by omega⟩
        rw [f_X12_doOne_L194]
        simp (disch := omega) only [↓fLt_e, fBd_s, ↓fJn_s, fNn_s, fNu_0, fNu_s, fBo_0, fBo_1, fBo_b, i_lit, i_neg1, nI_add, pk_mul, nI_clamp, i_le, i_lt, i_eq, fIx_n, nI_mI, mI_nI, mI_lt, nI_lt_m, mI_le, nI_le_m, xI_0, xI_s, bI_0, bI_1, bI_t, bI_f, n_31, j_bit, j_one, i_and, i_or, Nat.not_lt_zero, Nat.succ_ne_zero, Nat.add_one_ne_zero, Nat.add_one_sub_one, Nat.zero_le, Nat.or_zero, Nat.zero_or, Bool.not_true, Bool.not_false, Bool.true_and, Bool.false_and, Bool.and_true, Bool.and_false, ↓reduceIte, if_true, if_false, not_true_eq_false, not_false_eq_true, true_and, and_true, false_and, and_false, and_self, true_or, or_true, false_or, or_false, Nat.reduceEqDiff, Nat.reduceLT, Nat.reduceLeDiff, Nat.reduceAdd, Nat.reduceMul, Nat.reduceSub, Nat.add_zero, Nat.zero_add, Nat.mul_zero, Nat.zero_mul, ne_eq, Bool.not_eq_true, Bool.not_eq_false, reduceCtorEq, decide_true, decide_false, decide_eq_true_eq, decide_eq_false_iff_not, Bool.false_eq_true, if_pos, if_neg, hx3, hx7, hc1, ht, h, hall]
        exact q2 k27 m (by omega)
theorem L36_go {sc : fSt} {at' kp sg F : Nat} (hM : gI sc 9 w 0 = nI M) (hM2 : M ≤ 60) (hat : at' < M) (hs : gI sc 10 i 6 = nI sg) (hsg : sg < 200) (hk : kp ≤ 202 * sg) (k8 : fSt → Option (Unit × fSt)) : f_X10_go_L36 i 0 w k8 (F + 1) (nI at') (nI kp) sc = (fBd (if gA sc 9 w 1 at' = nI 30 then f_X10_comeToEnd i w (nI at') sc else f_X10_doStep i 0 w (nI at') sc) fun x s => f_X10_go_L36 i 0 w k8 F x (nI (kp + 1)) s) := by
  have hb := x_isBelow (nI at') M (by omega) sc
  rw [nI_toInt (by omega), inB_t.mpr (by omega)] at hb
  rw [f_X10_go_L36]
  by_cases h30 : gA sc 9 w 1 at' = nI 30
  · rw [if_pos h30]
    simp (disch := omega) only [↓fLt_e, fBd_s, ↓fJn_s, fNn_s, fNu_0, fNu_s, fBo_0, fBo_1, fBo_b, i_lit, i_neg1, nI_add, pk_mul, nI_clamp, i_le, i_lt, i_eq, fIx_n, nI_mI, mI_nI, mI_lt, nI_lt_m, mI_le, nI_le_m, xI_0, xI_s, bI_0, bI_1, bI_t, bI_f, n_31, j_bit, j_one, i_and, i_or, Nat.not_lt_zero, Nat.succ_ne_zero, Nat.add_one_ne_zero, Nat.add_one_sub_one, Nat.zero_le, Nat.or_zero, Nat.zero_or, Bool.not_true, Bool.not_false, Bool.true_and, Bool.false_and, Bool.and_true, Bool.and_false, ↓reduceIte, if_true, if_false, not_true_eq_false, not_false_eq_true, true_and, and_true, false_and, and_false, and_self, true_or, or_true, false_or, or_false, Nat.reduceEqDiff, Nat.reduceLT, Nat.reduceLeDiff, Nat.reduceAdd, Nat.reduceMul, Nat.reduceSub, Nat.add_zero, Nat.zero_add, Nat.mul_zero, Nat.zero_mul, ne_eq, Bool.not_eq_true, Bool.not_eq_false, reduceCtorEq, decide_true, decide_false, decide_eq_true_eq, decide_eq_false_iff_not, Bool.false_eq_true, if_pos, if_neg, hM, hb, hs, h30]
  · rw [if_neg h30]
    simp (disch := omega) only [↓fLt_e, fBd_s, ↓fJn_s, fNn_s, fNu_0, fNu_s, fBo_0, fBo_1, fBo_b, i_lit, i_neg1, nI_add, pk_mul, nI_clamp, i_le, i_lt, i_eq, fIx_n, nI_mI, mI_nI, mI_lt, nI_lt_m, mI_le, nI_le_m, xI_0, xI_s, bI_0, bI_1, bI_t, bI_f, n_31, j_bit, j_one, i_and, i_or, Nat.not_lt_zero, Nat.succ_ne_zero, Nat.add_one_ne_zero, Nat.add_one_sub_one, Nat.zero_le, Nat.or_zero, Nat.zero_or, Bool.not_true, Bool.not_false, Bool.true_and, Bool.false_and, Bool.and_true, Bool.and_false, ↓reduceIte, if_true, if_false, not_true_eq_false, not_false_eq_true, true_and, and_true, false_and, and_false, and_self, true_or, or_true, false_or, or_false, Nat.reduceEqDiff, Nat.reduceLT, Nat.reduceLeDiff, Nat.reduceAdd, Nat.reduceMul, Nat.reduceSub, Nat.add_zero, Nat.zero_add, Nat.mul_zero, Nat.zero_mul, ne_eq, Bool.not_eq_true, Bool.not_eq_false, reduceCtorEq, decide_true, decide_false, decide_eq_true_eq, decide_eq_false_iff_not, Bool.false_eq_true, if_pos, if_neg, hM, hb, hs, h30]
theorem L36_exit {sc : fSt} {at' kp sg F : Nat} (hM : gI sc 9 w 0 = nI M) (hM2 : M ≤ 60) (hat : at' ≤ 60) (hs : gI sc 10 i 6 = nI sg) (hsg : sg ≤ 200) (hk : kp ≤ 202 * sg) (h : M ≤ at' ∨ sg = 200) (k8 : fSt → Option (Unit × fSt)) : f_X10_go_L36 i 0 w k8 (F + 1) (nI at') (nI kp) sc = k8 sc := by
  have hb := x_isBelow (nI at') M (by omega) sc
  rw [nI_toInt (by omega)] at hb
  rw [f_X10_go_L36]
  by_cases hle : M ≤ at'
  · rw [inB_f.mpr (by omega)] at hb
    simp (disch := omega) only [↓fLt_e, fBd_s, ↓fJn_s, fNn_s, fNu_0, fNu_s, fBo_0, fBo_1, fBo_b, i_lit, i_neg1, nI_add, pk_mul, nI_clamp, i_le, i_lt, i_eq, fIx_n, nI_mI, mI_nI, mI_lt, nI_lt_m, mI_le, nI_le_m, xI_0, xI_s, bI_0, bI_1, bI_t, bI_f, n_31, j_bit, j_one, i_and, i_or, Nat.not_lt_zero, Nat.succ_ne_zero, Nat.add_one_ne_zero, Nat.add_one_sub_one, Nat.zero_le, Nat.or_zero, Nat.zero_or, Bool.not_true, Bool.not_false, Bool.true_and, Bool.false_and, Bool.and_true, Bool.and_false, ↓reduceIte, if_true, if_false, not_true_eq_false, not_false_eq_true, true_and, and_true, false_and, and_false, and_self, true_or, or_true, false_or, or_false, Nat.reduceEqDiff, Nat.reduceLT, Nat.reduceLeDiff, Nat.reduceAdd, Nat.reduceMul, Nat.reduceSub, Nat.add_zero, Nat.zero_add, Nat.mul_zero, Nat.zero_mul, ne_eq, Bool.not_eq_true, Bool.not_eq_false, reduceCtorEq, decide_true, decide_false, decide_eq_true_eq, decide_eq_false_iff_not, Bool.false_eq_true, if_pos, if_neg, hM, hb]
  · rw [inB_t.mpr (by omega)] at hb
    have h200 : sg = 200 := by omega
    subst h200
    simp (disch := omega) only [↓fLt_e, fBd_s, ↓fJn_s, fNn_s, fNu_0, fNu_s, fBo_0, fBo_1, fBo_b, i_lit, i_neg1, nI_add, pk_mul, nI_clamp, i_le, i_lt, i_eq, fIx_n, nI_mI, mI_nI, mI_lt, nI_lt_m, mI_le, nI_le_m, xI_0, xI_s, bI_0, bI_1, bI_t, bI_f, n_31, j_bit, j_one, i_and, i_or, Nat.not_lt_zero, Nat.succ_ne_zero, Nat.add_one_ne_zero, Nat.add_one_sub_one, Nat.zero_le, Nat.or_zero, Nat.zero_or, Bool.not_true, Bool.not_false, Bool.true_and, Bool.false_and, Bool.and_true, Bool.and_false, ↓reduceIte, if_true, if_false, not_true_eq_false, not_false_eq_true, true_and, and_true, false_and, and_false, and_self, true_or, or_true, false_or, or_false, Nat.reduceEqDiff, Nat.reduceLT, Nat.reduceLeDiff, Nat.reduceAdd, Nat.reduceMul, Nat.reduceSub, Nat.add_zero, Nat.zero_add, Nat.mul_zero, Nat.zero_mul, ne_eq, Bool.not_eq_true, Bool.not_eq_false, reduceCtorEq, decide_true, decide_false, decide_eq_true_eq, decide_eq_false_iff_not, Bool.false_eq_true, if_pos, if_neg, hM, hb, hs]
theorem cte_when {sc : fSt} {m a : Nat} (hm : m < 60) (ha : a < 60) (h4 : gA sc 9 w 4 m = nI a) (h1 : ¬ gA sc 9 w 1 a = nI 29) : f_X10_comeToEnd i w (nI m) sc = some (nI (m + 1), sc) := by
  unfold f_X10_comeToEnd
  simp (disch := omega) only [↓fLt_e, fBd_s, ↓fJn_s, fNn_s, fNu_0, fNu_s, fBo_0, fBo_1, fBo_b, i_lit, i_neg1, nI_add, pk_mul, nI_clamp, i_le, i_lt, i_eq, fIx_n, nI_mI, mI_nI, mI_lt, nI_lt_m, mI_le, nI_le_m, xI_0, xI_s, bI_0, bI_1, bI_t, bI_f, n_31, j_bit, j_one, i_and, i_or, Nat.not_lt_zero, Nat.succ_ne_zero, Nat.add_one_ne_zero, Nat.add_one_sub_one, Nat.zero_le, Nat.or_zero, Nat.zero_or, Bool.not_true, Bool.not_false, Bool.true_and, Bool.false_and, Bool.and_true, Bool.and_false, ↓reduceIte, if_true, if_false, not_true_eq_false, not_false_eq_true, true_and, and_true, false_and, and_false, and_self, true_or, or_true, false_or, or_false, Nat.reduceEqDiff, Nat.reduceLT, Nat.reduceLeDiff, Nat.reduceAdd, Nat.reduceMul, Nat.reduceSub, Nat.add_zero, Nat.zero_add, Nat.mul_zero, Nat.zero_mul, ne_eq, Bool.not_eq_true, Bool.not_eq_false, reduceCtorEq, decide_true, decide_false, decide_eq_true_eq, decide_eq_false_iff_not, Bool.false_eq_true, if_pos, if_neg, h4, h1]
theorem cte_loop {sc : fSt} {m a r : Nat} (hm : m < 60) (ha : a < 60) (h4 : gA sc 9 w 4 m = nI a) (h1 : gA sc 9 w 1 a = nI 29) (hr : 1 ≤ r) (hr2 : r ≤ 99) (hl : gA sc 10 i 1 a = nI r) : f_X10_comeToEnd i w (nI m) sc = some (if r = 1 then nI (m + 1) else nI (a + 1), sA sc 10 i 1 (upd (gA sc 10 i 1) a (nI (r - 1)))) := by
  have hs : nI r - nI 1 = nI (r - 1) := nI_sub hr
  have hr' : ∀ f, gA (sA sc 10 i 1 f) 10 i 1 = f := fun f => gA_same _ _ _ _ _
  have hu : upd (gA sc 10 i 1) a (nI (r - 1)) a = nI (r - 1) := by rw [upd_at, if_pos rfl]
  unfold f_X10_comeToEnd
  by_cases h : r = 1
  · subst h
    simp (disch := omega) only [↓fLt_e, fBd_s, ↓fJn_s, fNn_s, fNu_0, fNu_s, fBo_0, fBo_1, fBo_b, i_lit, i_neg1, nI_add, pk_mul, nI_clamp, i_le, i_lt, i_eq, fIx_n, nI_mI, mI_nI, mI_lt, nI_lt_m, mI_le, nI_le_m, xI_0, xI_s, bI_0, bI_1, bI_t, bI_f, n_31, j_bit, j_one, i_and, i_or, Nat.not_lt_zero, Nat.succ_ne_zero, Nat.add_one_ne_zero, Nat.add_one_sub_one, Nat.zero_le, Nat.or_zero, Nat.zero_or, Bool.not_true, Bool.not_false, Bool.true_and, Bool.false_and, Bool.and_true, Bool.and_false, ↓reduceIte, if_true, if_false, not_true_eq_false, not_false_eq_true, true_and, and_true, false_and, and_false, and_self, true_or, or_true, false_or, or_false, Nat.reduceEqDiff, Nat.reduceLT, Nat.reduceLeDiff, Nat.reduceAdd, Nat.reduceMul, Nat.reduceSub, Nat.add_zero, Nat.zero_add, Nat.mul_zero, Nat.zero_mul, ne_eq, Bool.not_eq_true, Bool.not_eq_false, reduceCtorEq, decide_true, decide_false, decide_eq_true_eq, decide_eq_false_iff_not, Bool.false_eq_true, if_pos, if_neg, h4, h1, hl, hs, hr', hu]
  · have h0 : ¬ r - 1 ≤ 0 := by omega
    simp (disch := omega) only [↓fLt_e, fBd_s, ↓fJn_s, fNn_s, fNu_0, fNu_s, fBo_0, fBo_1, fBo_b, i_lit, i_neg1, nI_add, pk_mul, nI_clamp, i_le, i_lt, i_eq, fIx_n, nI_mI, mI_nI, mI_lt, nI_lt_m, mI_le, nI_le_m, xI_0, xI_s, bI_0, bI_1, bI_t, bI_f, n_31, j_bit, j_one, i_and, i_or, Nat.not_lt_zero, Nat.succ_ne_zero, Nat.add_one_ne_zero, Nat.add_one_sub_one, Nat.zero_le, Nat.or_zero, Nat.zero_or, Bool.not_true, Bool.not_false, Bool.true_and, Bool.false_and, Bool.and_true, Bool.and_false, ↓reduceIte, if_true, if_false, not_true_eq_false, not_false_eq_true, true_and, and_true, false_and, and_false, and_self, true_or, or_true, false_or, or_false, Nat.reduceEqDiff, Nat.reduceLT, Nat.reduceLeDiff, Nat.reduceAdd, Nat.reduceMul, Nat.reduceSub, Nat.add_zero, Nat.zero_add, Nat.mul_zero, Nat.zero_mul, ne_eq, Bool.not_eq_true, Bool.not_eq_false, reduceCtorEq, decide_true, decide_false, decide_eq_true_eq, decide_eq_false_iff_not, Bool.false_eq_true, if_pos, if_neg, h4, h1, hl, hs, hr', hu, h, h0]
theorem rBod_le {sc : fSt} : ∀ n d fr to a a', rBod sc w G0 n d fr to a a' → fr ≤ to ∧ a ≤ a' := by
  intro n
  induction n with
  | zero =>
    intro d fr to a a' h
    obtain ⟨h1, h2⟩ := h
    omega
  | succ n ih =>
    intro d fr to a a' h
    rcases h with ⟨h1, h2⟩ | ⟨h1, -, h⟩
    · omega
    · rcases h with ⟨-, -, -, h⟩ | ⟨-, -, -, h3, m, hb, -, -, -, -, h⟩
      · have := ih _ _ _ _ _ h
        omega
      · have := ih _ _ _ _ _ h
        have := ih _ _ _ _ _ hb
        omega
def stR (i : Nat) (no : Bool) (G0 : Nat → Nat) (q w : Nat) (sc sm : fSt) (sg kp a nx : Nat) (sc1 sm1 : fSt) (sg1 : Nat) (s : Nat) : Prop :=
  wkR i no G0 q sc1 sm1 sg1 ∧ sg ≤ sg1 ∧ sg1 ≤ 200 ∧ cFr i no sc sc1 ∧ mFr sm sm1 ∧ (∀ p, p < a ∨ nx ≤ p → gA sc1 10 i 1 p = gA sc 10 i 1 p) ∧
  ((sg1 < 200 ∧ gI sm1 12 0 57 = nI 0 ∧ ∃ e, e + 202 * sg ≤ 202 * sg1 + s ∧ ∀ k8 F, f_X10_go_L36 i 0 w k8 (F + e) (nI a) (nI kp) sc = f_X10_go_L36 i 0 w k8 F (nI nx) (nI (kp + e)) sc1) ∨
   (frz sm1 ∧ ∀ k8 F, 1000000 < F + kp → f_X10_go_L36 i 0 w k8 F (nI a) (nI kp) sc = k8 sc1))
def stO (i : Nat) (no : Bool) (G0 : Nat → Nat) (q w D : Nat) (sc sm : fSt) (sg kp fr a nx : Nat) : Prop := ∃ sc1 sm1 sg1, stR i no G0 q w sc sm sg kp a nx sc1 sm1 sg1 0 ∧ f_X12_doOne (f_X12_doAll D) (nI fr) sm = some ((), sm1)
def seO (i : Nat) (no : Bool) (G0 : Nat → Nat) (q w D : Nat) (sc sm : fSt) (sg kp fr to a a' : Nat) : Prop := ∃ sc1 sm1 sg1, stR i no G0 q w sc sm sg kp a a' sc1 sm1 sg1 0 ∧ ∀ k3 m, to < fr + m → f_X12_doAll_L2 (f_X12_doAll D) (nI to) k3 m (nI fr) sm = k3 sm1
def SEG (i : Nat) (no : Bool) (G0 : Nat → Nat) (q w M n d fr to a a' D : Nat) : Prop := ∀ sc sm sg kp, rBod sc w G0 n d fr to a a' → gI sc 9 w 0 = nI M → wkR i no G0 q sc sm sg → sg < 200 → kp ≤ 202 * sg → gI sm 12 0 57 = nI 0 → seO i no G0 q w D sc sm sg kp fr to a a'
theorem wk_st {sc sm : fSt} {sg : Nat} (W : wkR i no G0 q sc sm sg) : gI sc 10 i 6 = nI sg ∧ gI sm 12 0 58 = nI sg ∧ G0 218 ≤ 30 ∧ ∀ j, j < G0 218 → gA sm 12 0 5 (225 + 7 * j) = nI (G0 (225 + 7 * j)) := by
  obtain ⟨Gc, Gm, r, se, en, l, ⟨wc, wm, X, B, hag, hno, hG0⟩, -, -, ⟨s1, s2⟩, -⟩ := W
  refine ⟨s1, s2, ?_, fun j hj => ?_⟩
  · have := B.2.2.2.2.2.1.2.2.2.2
    rw [hG0 218 (by omega)] at this
    exact this
  · have hcell := B.2.2.2.2.2.2 j (by rw [hG0 218 (by omega)]; exact hj)
    rw [hG0 (225 + 7 * j) (by omega)] at hcell
    exact hcell.2.2.1
theorem cFr_9 {sc sc' : fSt} (h : cFr i no sc sc') (j k : Nat) : gA sc' 9 j k = gA sc 9 j k := (h.1 9 j k (by unfold cFc; omega)).2.2.1
theorem cFr_90 {sc sc' : fSt} (h : cFr i no sc sc') (j k : Nat) : gI sc' 9 j k = gI sc 9 j k := (h.1 9 j k (by unfold cFc; omega)).1
/-- a step that is no block -/
theorem o_simple {D fr a : Nat} {sc sm : fSt} {sg kp : Nat} (hM2 : M ≤ 60) (hM : gI sc 9 w 0 = nI M) (W : wkR i no G0 q sc sm sg) (hsg : sg < 200) (hk : kp ≤ 202 * sg) (h57 : gI sm 12 0 57 = nI 0) (hS : rStp sc w G0 fr a) (hfr : fr < G0 218) (ha : a < M) (h5 : ¬ G0 (219 + 7 * fr) = 5) (h6 : ¬ G0 (219 + 7 * fr) = 6) (h30 : ¬ gA sc 9 w 1 a = nI 30) : stO i no G0 q w D sc sm sg kp fr a (a + 1) := by
  obtain ⟨s1, s2, hj30, h225⟩ := wk_st W
  by_cases h7 : G0 (219 + 7 * fr) = 7
  · obtain ⟨c1, c2⟩ := stp_stop W hS hfr (by omega) hsg h7
    have W1 := wk_inc W
    have W2 := wkR_fzn W1 (Or.inr rfl)
    refine ⟨_, _, sg + 1, ⟨W2, by omega, by omega, cFr_I (Or.inl ⟨rfl, rfl⟩) (cFr_rf i no sc), mFr_I (by omega) (mFr_I (by omega) (mFr_rf sm)), fun p _ => rfl, Or.inr ⟨Or.inl (gI_same _ _ _ _ _), fun k8 F hF => ?_⟩⟩, c2 _⟩
    obtain ⟨F, rfl⟩ : ∃ k, F = k + 1 := ⟨F - 1, by omega⟩
    obtain ⟨F, rfl⟩ : ∃ k, F = k + 1 := ⟨F - 1, by omega⟩
    rw [L36_go hM hM2 ha s1 hsg hk, if_neg h30, c1, fBd_s, hM]
    exact L36_exit (sg := sg + 1) (by rw [gI_sI, if_neg (by omega)]; exact hM) hM2 hM2 (gI_same _ _ _ _ _) (by omega) (by omega) (Or.inl (Nat.le_refl _)) k8
  · obtain ⟨sc', sm', c1, c2, W1, hc, hm, hl, h57'⟩ := stp_simple W hS hfr (by omega) hsg h5 h6 h7
    refine ⟨sc', sm', sg + 1, ⟨W1, by omega, by omega, hc, hm, fun p _ => by rw [hl], ?_⟩, c2 _⟩
    obtain ⟨t1, t2, -⟩ := wk_st W1
    by_cases h200 : sg + 1 = 200
    · refine Or.inr ⟨Or.inr ⟨by rw [h57']; exact h57, by rw [t2, h200]⟩, fun k8 F hF => ?_⟩
      obtain ⟨F, rfl⟩ : ∃ k, F = k + 1 := ⟨F - 1, by omega⟩
      obtain ⟨F, rfl⟩ : ∃ k, F = k + 1 := ⟨F - 1, by omega⟩
      rw [L36_go hM hM2 ha s1 hsg hk, if_neg h30, c1, fBd_s]
      exact L36_exit (by rw [cFr_90 hc]; exact hM) hM2 (by omega) t1 (by omega) (by omega) (Or.inr h200) k8
    · refine Or.inl ⟨by omega, by rw [h57']; exact h57, 1, by omega, fun k8 F => ?_⟩
      rw [L36_go hM hM2 ha s1 hsg hk, if_neg h30, c1, fBd_s]
/-- one after the other -/
theorem o_seq {D n d fr frn to a nx a' : Nat} {sc sm : fSt} {sg kp : Nat} (hfr : fr < to) (hlt : fr < frn) (hto : to ≤ G0 218) (h225 : G0 (225 + 7 * fr) = frn) (hfn : frn ≤ to) (hM : gI sc 9 w 0 = nI M) (hk : kp ≤ 202 * sg) (h57 : gI sm 12 0 57 = nI 0) (ha1 : a ≤ nx) (ha2 : nx ≤ a') (hb : rBod sc w G0 n d frn to nx a') (ih : SEG i no G0 q w M n d frn to nx a' D) (h1 : stO i no G0 q w D sc sm sg kp fr a nx) : seO i no G0 q w D sc sm sg kp fr to a a' := by
  obtain ⟨sc1, sm1, sg1, ⟨W1, g1, g2, hc1, hm1, hl1, ho⟩, hone⟩ := h1
  obtain ⟨t1, t2, hj30, hcell⟩ := wk_st W1
  have hx8 := hcell fr (by omega)
  rw [h225, show 225 + 7 * fr = 219 + 7 * fr + 6 by omega] at hx8
  have hL2 : ∀ k3 m, to < fr + m → ∃ m', m = m' + 1 ∧ to < frn + m' ∧ f_X12_doAll_L2 (f_X12_doAll D) (nI to) k3 m (nI fr) sm = f_X12_doAll_L2 (f_X12_doAll D) (nI to) k3 m' (nI frn) sm1 := by
    intro k3 m hm
    obtain ⟨m, rfl⟩ : ∃ k, m = k + 1 := ⟨m - 1, by omega⟩
    refine ⟨m, rfl, by omega, ?_⟩
    rw [f_X12_doAll_L2]
    simp (disch := omega) only [↓fLt_e, fBd_s, ↓fJn_s, fNn_s, fNu_0, fNu_s, fBo_0, fBo_1, fBo_b, i_lit, i_neg1, nI_add, pk_mul, nI_clamp, i_le, i_lt, i_eq, fIx_n, nI_mI, mI_nI, mI_lt, nI_lt_m, mI_le, nI_le_m, xI_0, xI_s, bI_0, bI_1, bI_t, bI_f, n_31, j_bit, j_one, i_and, i_or, Nat.not_lt_zero, Nat.succ_ne_zero, Nat.add_one_ne_zero, Nat.add_one_sub_one, Nat.zero_le, Nat.or_zero, Nat.zero_or, Bool.not_true, Bool.not_false, Bool.true_and, Bool.false_and, Bool.and_true, Bool.and_false, ↓reduceIte, if_true, if_false, not_true_eq_false, not_false_eq_true, true_and, and_true, false_and, and_false, and_self, true_or, or_true, false_or, or_false, Nat.reduceEqDiff, Nat.reduceLT, Nat.reduceLeDiff, Nat.reduceAdd, Nat.reduceMul, Nat.reduceSub, Nat.add_zero, Nat.zero_add, Nat.mul_zero, Nat.zero_mul, ne_eq, Bool.not_eq_true, Bool.not_eq_false, reduceCtorEq, decide_true, decide_false, decide_eq_true_eq, decide_eq_false_iff_not, Bool.false_eq_true, if_pos, if_neg, hone, h57, hx8]
  rcases ho with ⟨o1, o2, e, o3, o4⟩ | ⟨o1, o2⟩
  · obtain ⟨sc2, sm2, sg2, ⟨W2, k1, k2, hc2, hm2, hl2, ho2⟩, hL⟩ := ih sc1 sm1 sg1 (kp + e) (rBod_e (fun j k => by
      funext p
      exact congrFun (cFr_9 hc1 j k) p) _ _ _ _ _ _ hb) (by rw [cFr_90 hc1]; exact hM) W1 o1 (by omega) o2
    refine ⟨sc2, sm2, sg2, ⟨W2, by omega, k2, cFr_tr hc1 hc2, mFr_tr hm1 hm2, fun p hp => ?_, ?_⟩, fun k3 m hm => ?_⟩
    · rw [hl2 p (by omega), hl1 p (by omega)]
    · rcases ho2 with ⟨v1, v2, e', v3, v4⟩ | ⟨v1, v2⟩
      · refine Or.inl ⟨v1, v2, e' + e, by omega, fun k8 F => ?_⟩
        rw [← Nat.add_assoc, o4, v4]
        congr 2
        omega
      · refine Or.inr ⟨v1, fun k8 F hF => ?_⟩
        have heF : e ≤ F := by omega
        have h3 := o4 k8 (F - e)
        rw [Nat.sub_add_cancel heF] at h3
        rw [h3]
        exact v2 k8 (F - e) (by omega)
    · obtain ⟨m', rfl, hm', h3⟩ := hL2 k3 m hm
      rw [h3]
      exact hL k3 m' hm'
  · refine ⟨sc1, fzz frn to sm1, sg1, ⟨wkR_fzn W1 (fz_fzn _ _ _), g1, g2, hc1, mFr_tr hm1 (mFr_fzn (fz_fzn _ _ _)), fun p hp => hl1 p (by omega), Or.inr ⟨frz_fzn o1 (fz_fzn _ _ _), o2⟩⟩, fun k3 m hm => ?_⟩
    obtain ⟨m', rfl, hm', h3⟩ := hL2 k3 m hm
    rw [h3]
    by_cases hm0 : 1 ≤ m'
    · exact frz_L2 o1 (by omega) (by omega) _ k3 hm0 hm'
    · omega
/-- a when -/
theorem o_when {D n d fr frn a m : Nat} {sc sm : fSt} {sg kp : Nat} (hM2 : M ≤ 60) (hM : gI sc 9 w 0 = nI M) (W : wkR i no G0 q sc sm sg) (hsg : sg < 200) (hk : kp ≤ 202 * sg) (h57 : gI sm 12 0 57 = nI 0) (hS : rStp sc w G0 fr a) (hfr : fr < G0 218) (h225 : G0 (225 + 7 * fr) = frn) (hlt : fr < frn) (hfn : frn ≤ G0 218) (h5 : G0 (219 + 7 * fr) = 5) (ham : a < m) (hmM : m < M)
    (hm30 : gA sc 9 w 1 m = nI 30) (hm4 : gA sc 9 w 4 m = nI a) (ha4 : gA sc 9 w 4 a = nI m) (hb : rBod sc w G0 n d (fr + 1) frn (a + 1) m) (ih : SEG i no G0 q w M n d (fr + 1) frn (a + 1) m D) : stO i no G0 q w (D + 1) sc sm sg kp fr a (m + 1) := by
  obtain ⟨s1, s2, hj30, hcell⟩ := wk_st W
  obtain ⟨b, n29, n30, c1, c2⟩ := stp_when W hS hfr (by omega) hsg h5
  have c2 := c2 (f_X12_doAll (D + 1))
  rw [h225] at c2
  have W1 := wk_inc W
  have hc0 : cFr i no sc (sI sc 10 i 6 (nI (sg + 1))) := cFr_I (Or.inl ⟨rfl, rfl⟩) (cFr_rf i no sc)
  have hm0 : mFr sm (sI sm 12 0 58 (nI (sg + 1))) := mFr_I (by omega) (mFr_rf sm)
  have h570 : gI (sI sm 12 0 58 (nI (sg + 1))) 12 0 57 = nI 0 := by rw [gI_sI, if_neg (by omega)]; exact h57
  have hM1 : gI (sI sc 10 i 6 (nI (sg + 1))) 9 w 0 = nI M := by rw [cFr_90 hc0]; exact hM
  cases b with
  | false =>
    have c1 : f_X10_doStep i 0 w (nI a) sc = some (nI (m + 1), sI sc 10 i 6 (nI (sg + 1))) := by
      rw [c1, ha4]
      simp [nI_add]
    have c2 : f_X12_doOne (f_X12_doAll (D + 1)) (nI fr) sm = some ((), sI sm 12 0 58 (nI (sg + 1))) := c2
    refine ⟨_, _, sg + 1, ⟨W1, by omega, by omega, hc0, hm0, fun p _ => rfl, ?_⟩, c2⟩
    by_cases h200 : sg + 1 = 200
    · refine Or.inr ⟨Or.inr ⟨h570, by rw [gI_same, h200]⟩, fun k8 F hF => ?_⟩
      obtain ⟨F, rfl⟩ : ∃ k, F = k + 1 := ⟨F - 1, by omega⟩
      obtain ⟨F, rfl⟩ : ∃ k, F = k + 1 := ⟨F - 1, by omega⟩
      rw [L36_go hM hM2 (by omega) s1 hsg hk, if_neg n30, c1, fBd_s]
      exact L36_exit hM1 hM2 (by omega) (gI_same _ _ _ _ _) (by omega) (by omega) (Or.inr h200) k8
    · refine Or.inl ⟨by omega, h570, 1, by omega, fun k8 F => ?_⟩
      rw [L36_go hM hM2 (by omega) s1 hsg hk, if_neg n30, c1, fBd_s]
  | true =>
    have c1 : f_X10_doStep i 0 w (nI a) sc = some (nI (a + 1), sI sc 10 i 6 (nI (sg + 1))) := c1
    have c2 : f_X12_doOne (f_X12_doAll (D + 1)) (nI fr) sm = fBd (f_X12_doAll (D + 1) (nI (fr + 1)) (nI frn) (sI sm 12 0 58 (nI (sg + 1)))) fun _ s35 => some ((), s35) := c2
    by_cases h200 : sg + 1 = 200
    · have hfz : frz (sI sm 12 0 58 (nI (sg + 1))) := Or.inr ⟨h570, by rw [gI_same, h200]⟩
      have hall := frz_all (D := D) (fr := fr + 1) (to := frn) hfz (by omega) (by omega)
      rw [hall, fBd_s] at c2
      refine ⟨_, _, sg + 1, ⟨wkR_fzn W1 (fz_fzn _ _ _), by omega, by omega, hc0, mFr_tr hm0 (mFr_fzn (fz_fzn _ _ _)), fun p _ => rfl, Or.inr ⟨frz_fzn hfz (fz_fzn _ _ _), fun k8 F hF => ?_⟩⟩, c2⟩
      obtain ⟨F, rfl⟩ : ∃ k, F = k + 1 := ⟨F - 1, by omega⟩
      obtain ⟨F, rfl⟩ : ∃ k, F = k + 1 := ⟨F - 1, by omega⟩
      rw [L36_go hM hM2 (by omega) s1 hsg hk, if_neg n30, c1, fBd_s]
      exact L36_exit hM1 hM2 (by omega) (gI_same _ _ _ _ _) (by omega) (by omega) (Or.inr h200) k8
    · obtain ⟨sc2, sm2, sg2, ⟨W2, k1, k2, hc2, hm2, hl2, ho2⟩, hL⟩ := ih (sI sc 10 i 6 (nI (sg + 1))) (sI sm 12 0 58 (nI (sg + 1))) (sg + 1) (kp + 1) (rBod_e (sc := sc) (sc' := sI sc 10 i 6 (nI (sg + 1))) (fun j k => rfl) _ _ _ _ _ _ hb) hM1 W1 (by omega) (by omega) h570
      have hall : f_X12_doAll (D + 1) (nI (fr + 1)) (nI frn) (sI sm 12 0 58 (nI (sg + 1))) = some ((), sm2) := hL (fun s2 => some ((), s2)) fF (Nat.lt_of_lt_of_le (fF_lt (show frn < 4000000 by omega)) (Nat.le_add_left _ _))
      rw [hall, fBd_s] at c2
      obtain ⟨t1, t2, -⟩ := wk_st W2
      have hc3 := cFr_tr hc0 hc2
      have n29' : ¬ gA sc2 9 w 1 a = nI 29 := by rw [cFr_9 hc3]; exact n29
      have hm30' : gA sc2 9 w 1 m = nI 30 := by rw [cFr_9 hc3]; exact hm30
      have hm4' : gA sc2 9 w 4 m = nI a := by rw [cFr_9 hc3]; exact hm4
      have hcte := cte_when (i := i) (show m < 60 by omega) (show a < 60 by omega) hm4' n29'
      refine ⟨sc2, sm2, sg2, ⟨W2, by omega, k2, hc3, mFr_tr hm0 hm2, fun p hp => by rw [hl2 p (by omega)]; rfl, ?_⟩, c2⟩
      rcases ho2 with ⟨v1, v2, e', v3, v4⟩ | ⟨v1, v2⟩
      · refine Or.inl ⟨v1, v2, e' + 2, by omega, fun k8 F => ?_⟩
        have h3 := v4 k8 (F + 1)
        rw [show F + (e' + 2) = (F + 1 + e') + 1 by omega, L36_go hM hM2 (by omega) s1 hsg hk, if_neg n30, c1, fBd_s, h3]
        rw [L36_go (by rw [cFr_90 hc3]; exact hM) hM2 hmM t1 v1 (by omega), if_pos hm30', hcte, fBd_s]
        congr 2
        omega
      · refine Or.inr ⟨v1, fun k8 F hF => ?_⟩
        obtain ⟨F, rfl⟩ : ∃ k, F = k + 1 := ⟨F - 1, by omega⟩
        rw [L36_go hM hM2 (by omega) s1 hsg hk, if_neg n30, c1, fBd_s]
        exact v2 k8 F (by omega)
end
