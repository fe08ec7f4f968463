/-! layer 2: the next token on both sides -/
theorem l_sh5 {v : Nat} (h : v < 2 ^ 40) : lN v <<< ((5 : Int32).toInt64 &&& 63) = lN (v * 32) := by
  apply Int64.toBitVec_inj.mp
  apply BitVec.eq_of_toNat_eq
  have e : (((5 : Int32).toInt64 &&& 63).toBitVec.smod 64) = 5#64 := by decide
  show ((lN v).toBitVec <<< (((5 : Int32).toInt64 &&& 63).toBitVec.smod 64)).toNat = _
  rw [e]
  show (BitVec.ofNat 64 v <<< 5#64).toNat = (BitVec.ofNat 64 (v * 32)).toNat
  rw [BitVec.shiftLeft_eq', BitVec.toNat_shiftLeft, BitVec.toNat_ofNat, BitVec.toNat_ofNat, Nat.shiftLeft_eq]
  show v % 2 ^ 64 * 2 ^ 5 % 2 ^ 64 = v * 32 % 2 ^ 64
  rw [Nat.mod_eq_of_lt (show v < 2 ^ 64 by omega)]
theorem l_or5 {v d : Nat} (h : v < 2 ^ 40) (hd : d < 32) : lN (v * 32) ||| lN d = lN (v * 32 + d) := by
  apply Int64.toBitVec_inj.mp
  apply BitVec.eq_of_toNat_eq
  rw [Int64.toBitVec_or]
  show (BitVec.ofNat 64 (v * 32) ||| BitVec.ofNat 64 d).toNat = (BitVec.ofNat 64 (v * 32 + d)).toNat
  rw [BitVec.toNat_or, BitVec.toNat_ofNat, BitVec.toNat_ofNat, BitVec.toNat_ofNat]
  rw [Nat.mod_eq_of_lt (show v * 32 < 2 ^ 64 by omega), Nat.mod_eq_of_lt (show d < 2 ^ 64 by omega), Nat.mod_eq_of_lt (show v * 32 + d < 2 ^ 64 by omega)]
  have := Nat.two_pow_add_eq_or_of_lt (i := 5) (b := d) hd v
  rw [Nat.mul_comm v 32]
  exact this.symm
theorem x_wl {v cc : Nat} (h : v < 2 ^ 40) (h1 : 97 ≤ cc) (h2 : cc ≤ 122) (st : fSt) : f_X5_withLetter (lN v) (nI cc) st = some (lN (v * 32 + (cc - 96)), st) := by
  unfold f_X5_withLetter
  have e1 : nI cc - nI 97 + nI 1 = nI (cc - 96) := by
    rw [nI_sub h1, nI_add]
    congr 1
    omega
  have e2 : ((nI cc - (97 : Int32)) + (1 : Int32)).toInt64 = lN (cc - 96) := by
    have : (nI cc - (97 : Int32)) + (1 : Int32) = nI (cc - 96) := e1
    rw [this, nI_l (by omega)]
  rw [e2, l_sh5 h, l_or5 h (by omega)]
theorem p32 (L : Nat) {v d : Nat} (h : v < 32 ^ L) (hd : d < 32) : v * 32 + d < 32 ^ (L + 1) := by
  rw [Nat.pow_succ]
  have : (v + 1) * 32 ≤ 32 ^ L * 32 := Nat.mul_le_mul_right _ h
  omega
theorem p32_le {L v : Nat} (hL : L ≤ 8) (h : v < 32 ^ L) : v < 2 ^ 40 := by
  have : 32 ^ L ≤ 32 ^ 8 := Nat.pow_le_pow_right (by omega) hL
  have e : 32 ^ 8 = 2 ^ 40 := by decide
  omega
section
variable {sc sm : fSt} {n : Nat} {c : Nat → Nat}
theorem upd_same {A : Nat → Int32} {k : Nat} {v : Int32} (h : A k = v) : upd A k v = A := by
  funext j
  rw [upd_at]
  split
  · rename_i e; rw [e, h]
  · rfl
theorem w_loop (T : tpe sc sm n c) (a : Nat) (nm : Int64) : ∀ r p v (A B : Nat → Int32) (wd : Int64) F1 F2, p + r = n → a ≤ p → r < F1 → r < F2 → A 4 = nI a → A 5 = nI p → B 15 = nI a → B 16 = nI p → v < 32 ^ (min (p - a) 8) → wd = (if p - a ≤ 8 then lN v else -1) →
    ∃ p' v' wd', p ≤ p' ∧ p' ≤ n ∧ v' < 2 ^ 40 ∧ wd' = (if p' - a ≤ 8 then lN v' else -1) ∧ (p < n → 97 ≤ c p ∧ c p ≤ 122 → p < p') ∧ (∀ k4 : Int64 → fSt → Option (Unit × fSt), f_X5_scanWord_L2 k4 F1 (lN v) (xT sc A nm) = k4 (lN v') (xT sc (upd A 5 (nI p')) nm)) ∧ ∀ k44 : fSt → Option (Unit × fSt), f_X12_next_L109 k44 F2 (yT sm B wd) = k44 (yT sm (upd B 16 (nI p')) wd') := by
  have T0 := T
  obtain ⟨t1, t2, t3, t4, t5⟩ := T0
  intro r
  induction r with
  | zero =>
    intro p v A B wd F1 F2 hr hap h1 h2 ha4 ha5 hb5 hb6 hv hwd
    obtain ⟨F1, rfl⟩ : ∃ k, F1 = k + 1 := ⟨F1 - 1, by omega⟩
    obtain ⟨F2, rfl⟩ : ∃ k, F2 = k + 1 := ⟨F2 - 1, by omega⟩
    have x3 : gI (xT sc A nm) 5 0 3 = nI n := by rw [xT_o _ _ _ (by omega)]; exact t2
    have x5 : gI (xT sc A nm) 5 0 5 = nI p := by rw [xT_I _ _ _ (by omega)]; exact ha5
    have m16 : gI (yT sm B wd) 12 0 16 = nI p := by rw [yT_I _ _ _ (by omega)]; exact hb6
    have hlk := m_look (B := B) (wd := wd) T (p := p) (by omega)
    rw [if_pos (show n ≤ p by omega)] at hlk
    have hle := m_isLet (c := 0) (by omega) (yT sm B wd)
    rw [decide_eq_false (by omega)] at hle
    refine ⟨p, v, wd, Nat.le_refl _, by omega, p32_le (Nat.min_le_right _ _) hv, hwd, fun h => absurd h (by omega), ?_, ?_⟩
    · intro k4
      rw [f_X5_scanWord_L2, upd_same ha5, x3, x5, if_pos (by rw [i_le _ _ (by omega) (by omega)]; omega)]
    · intro k44
      rw [f_X12_next_L109, upd_same hb6]
      simp (disch := omega) only [↓fLt_e, fBd_s, ↓fJn_s, fNn_s, fNu_0, fNu_s, fBo_0, fBo_1, fBo_b, i_lit, i_neg1, nI_add, pk_mul, nI_clamp, i_le, i_lt, i_eq, fIx_n, nI_mI, mI_nI, mI_lt, nI_lt_m, mI_le, nI_le_m, xI_0, xI_s, bI_0, bI_1, bI_t, bI_f, n_31, j_bit, j_one, i_and, i_or, Nat.not_lt_zero, Nat.succ_ne_zero, Nat.add_one_ne_zero, Nat.add_one_sub_one, Nat.zero_le, Nat.or_zero, Nat.zero_or, Bool.not_true, Bool.not_false, Bool.true_and, Bool.false_and, Bool.and_true, Bool.and_false, ↓reduceIte, if_true, if_false, not_true_eq_false, not_false_eq_true, true_and, and_true, false_and, and_false, and_self, true_or, or_true, false_or, or_false, Nat.reduceEqDiff, Nat.reduceLT, Nat.reduceLeDiff, Nat.reduceAdd, Nat.reduceMul, Nat.reduceSub, Nat.add_zero, Nat.zero_add, Nat.mul_zero, Nat.zero_mul, ne_eq, Bool.not_eq_true, Bool.not_eq_false, reduceCtorEq, decide_true, decide_false, decide_eq_true_eq, decide_eq_false_iff_not, Bool.false_eq_true, if_pos, if_neg, m16, hlk, hle]
  | succ r ih =>
    intro p v A B wd F1 F2 hr hap h1 h2 ha4 ha5 hb5 hb6 hv hwd
    obtain ⟨F1, rfl⟩ : ∃ k, F1 = k + 1 := ⟨F1 - 1, by omega⟩
    obtain ⟨F2, rfl⟩ : ∃ k, F2 = k + 1 := ⟨F2 - 1, by omega⟩
    have x3 : gI (xT sc A nm) 5 0 3 = nI n := by rw [xT_o _ _ _ (by omega)]; exact t2
    have x4 : gI (xT sc A nm) 5 0 4 = nI a := by rw [xT_I _ _ _ (by omega)]; exact ha4
    have x5 : gI (xT sc A nm) 5 0 5 = nI p := by rw [xT_I _ _ _ (by omega)]; exact ha5
    have m15 : gI (yT sm B wd) 12 0 15 = nI a := by rw [yT_I _ _ _ (by omega)]; exact hb5
    have m16 : gI (yT sm B wd) 12 0 16 = nI p := by rw [yT_I _ _ _ (by omega)]; exact hb6
    obtain ⟨c1, c2, c3⟩ := t5 p (by omega)
    have hlk := m_look (B := B) (wd := wd) T (p := p) (by omega)
    rw [if_neg (show ¬ n ≤ p by omega)] at hlk
    have hxl := x_isLet c2 c1 (xT sc A nm)
    have hml := m_isLet c1 (yT sm B wd)
    have hv40 : v < 2 ^ 40 := p32_le (Nat.min_le_right _ _) hv
    have hpa : nI p - nI a = nI (p - a) := nI_sub hap
    have sxx : ∀ u, sI (xT sc A nm) 5 0 5 u = xT sc (upd A 5 u) nm := fun u => xT_sI _ _ _ (by omega) u
    have syy : ∀ w' u, sI (yT sm B w') 12 0 16 u = yT sm (upd B 16 u) w' := fun w' u => yT_sI _ _ _ (by omega) u
    have m16' : ∀ w', gI (yT sm B w') 12 0 16 = nI p := fun w' => by rw [yT_I _ _ _ (by omega)]; exact hb6
    by_cases hw : 97 ≤ c p ∧ c p ≤ 122
    · rw [decide_eq_true hw] at hxl hml
      have hcc : gA sc 5 0 1 p = nI (c p) := by
        rcases c2 with ⟨-, h⟩ | ⟨h, -⟩
        · exact h
        · omega
      rw [hcc] at hxl
      by_cases hL : 8 ≤ p - a
      · obtain ⟨p', v', wd', g1, g2, g3, g4, -, g5, g6⟩ := ih (p + 1) v (upd A 5 (nI (p + 1))) (upd B 16 (nI (p + 1))) (-1) F1 F2 (by omega) (by omega) (by omega) (by omega) (by rw [upd_at, if_neg (by omega)]; exact ha4) (by rw [upd_at, if_pos rfl]) (by rw [upd_at, if_neg (by omega)]; exact hb5) (by rw [upd_at, if_pos rfl]) (by
          rw [Nat.min_eq_right (by omega)] at hv ⊢
          exact hv) (by rw [if_neg (by omega)])
        rw [upd_up] at g5 g6
        refine ⟨p', v', wd', by omega, g2, g3, g4, fun _ _ => by omega, ?_, ?_⟩
        · intro k4
          rw [← g5 k4, f_X5_scanWord_L2]
          simp (disch := omega) only [↓fLt_e, fBd_s, ↓fJn_s, fNn_s, fNu_0, fNu_s, fBo_0, fBo_1, fBo_b, i_lit, i_neg1, nI_add, pk_mul, nI_clamp, i_le, i_lt, i_eq, fIx_n, nI_mI, mI_nI, mI_lt, nI_lt_m, mI_le, nI_le_m, xI_0, xI_s, bI_0, bI_1, bI_t, bI_f, n_31, j_bit, j_one, i_and, i_or, Nat.not_lt_zero, Nat.succ_ne_zero, Nat.add_one_ne_zero, Nat.add_one_sub_one, Nat.zero_le, Nat.or_zero, Nat.zero_or, Bool.not_true, Bool.not_false, Bool.true_and, Bool.false_and, Bool.and_true, Bool.and_false, ↓reduceIte, if_true, if_false, not_true_eq_false, not_false_eq_true, true_and, and_true, false_and, and_false, and_self, true_or, or_true, false_or, or_false, Nat.reduceEqDiff, Nat.reduceLT, Nat.reduceLeDiff, Nat.reduceAdd, Nat.reduceMul, Nat.reduceSub, Nat.add_zero, Nat.zero_add, Nat.mul_zero, Nat.zero_mul, ne_eq, Bool.not_eq_true, Bool.not_eq_false, reduceCtorEq, decide_true, decide_false, decide_eq_true_eq, decide_eq_false_iff_not, Bool.false_eq_true, if_pos, if_neg, x3, x4, x5, xT_A, hcc, hxl, hpa, hL, sxx]
        · intro k44
          rw [← g6 k44, f_X12_next_L109]
          simp (disch := omega) only [↓fLt_e, fBd_s, ↓fJn_s, fNn_s, fNu_0, fNu_s, fBo_0, fBo_1, fBo_b, i_lit, i_neg1, nI_add, pk_mul, nI_clamp, i_le, i_lt, i_eq, fIx_n, nI_mI, mI_nI, mI_lt, nI_lt_m, mI_le, nI_le_m, xI_0, xI_s, bI_0, bI_1, bI_t, bI_f, n_31, j_bit, j_one, i_and, i_or, Nat.not_lt_zero, Nat.succ_ne_zero, Nat.add_one_ne_zero, Nat.add_one_sub_one, Nat.zero_le, Nat.or_zero, Nat.zero_or, Bool.not_true, Bool.not_false, Bool.true_and, Bool.false_and, Bool.and_true, Bool.and_false, ↓reduceIte, if_true, if_false, not_true_eq_false, not_false_eq_true, true_and, and_true, false_and, and_false, and_self, true_or, or_true, false_or, or_false, Nat.reduceEqDiff, Nat.reduceLT, Nat.reduceLeDiff, Nat.reduceAdd, Nat.reduceMul, Nat.reduceSub, Nat.add_zero, Nat.zero_add, Nat.mul_zero, Nat.zero_mul, ne_eq, Bool.not_eq_true, Bool.not_eq_false, reduceCtorEq, decide_true, decide_false, decide_eq_true_eq, decide_eq_false_iff_not, Bool.false_eq_true, if_pos, if_neg, m15, m16, hlk, hml, hpa, hL, yT_sL, syy, m16']
      · have hx := x_wl hv40 hw.1 hw.2 (xT sc A nm)
        have hwv : wd = lN v := by rw [hwd, if_pos (by omega)]
        subst hwv
        have hLm : min (p - a) 8 = p - a := Nat.min_eq_left (by omega)
        rw [hLm] at hv
        have hv' := p32 (p - a) hv (show c p - 96 < 32 by omega)
        obtain ⟨p', v', wd', g1, g2, g3, g4, -, g5, g6⟩ := ih (p + 1) (v * 32 + (c p - 96)) (upd A 5 (nI (p + 1))) (upd B 16 (nI (p + 1))) (lN (v * 32 + (c p - 96))) F1 F2 (by omega) (by omega) (by omega) (by omega) (by rw [upd_at, if_neg (by omega)]; exact ha4) (by rw [upd_at, if_pos rfl]) (by rw [upd_at, if_neg (by omega)]; exact hb5) (by rw [upd_at, if_pos rfl]) (by
          rw [Nat.min_eq_left (by omega), show p + 1 - a = p - a + 1 by omega]
          exact hv') (by rw [if_pos (by omega)])
        rw [upd_up] at g5 g6
        refine ⟨p', v', wd', by omega, g2, g3, g4, fun _ _ => by omega, ?_, ?_⟩
        · intro k4
          rw [← g5 k4, f_X5_scanWord_L2]
          simp (disch := omega) only [↓fLt_e, fBd_s, ↓fJn_s, fNn_s, fNu_0, fNu_s, fBo_0, fBo_1, fBo_b, i_lit, i_neg1, nI_add, pk_mul, nI_clamp, i_le, i_lt, i_eq, fIx_n, nI_mI, mI_nI, mI_lt, nI_lt_m, mI_le, nI_le_m, xI_0, xI_s, bI_0, bI_1, bI_t, bI_f, n_31, j_bit, j_one, i_and, i_or, Nat.not_lt_zero, Nat.succ_ne_zero, Nat.add_one_ne_zero, Nat.add_one_sub_one, Nat.zero_le, Nat.or_zero, Nat.zero_or, Bool.not_true, Bool.not_false, Bool.true_and, Bool.false_and, Bool.and_true, Bool.and_false, ↓reduceIte, if_true, if_false, not_true_eq_false, not_false_eq_true, true_and, and_true, false_and, and_false, and_self, true_or, or_true, false_or, or_false, Nat.reduceEqDiff, Nat.reduceLT, Nat.reduceLeDiff, Nat.reduceAdd, Nat.reduceMul, Nat.reduceSub, Nat.add_zero, Nat.zero_add, Nat.mul_zero, Nat.zero_mul, ne_eq, Bool.not_eq_true, Bool.not_eq_false, reduceCtorEq, decide_true, decide_false, decide_eq_true_eq, decide_eq_false_iff_not, Bool.false_eq_true, if_pos, if_neg, x3, x4, x5, xT_A, hcc, hxl, hpa, hL, hx, sxx]
        · have hwe : lN v * lN 32 + lN (c p) - lN 96 = lN (v * 32 + (c p - 96)) := by
            rw [lN_mul, lN_add, lN_sub (by omega)]
            congr 1
            omega
          intro k44
          rw [← g6 k44, f_X12_next_L109]
          simp (disch := omega) only [↓fLt_e, fBd_s, ↓fJn_s, fNn_s, fNu_0, fNu_s, fBo_0, fBo_1, fBo_b, i_lit, i_neg1, nI_add, pk_mul, nI_clamp, i_le, i_lt, i_eq, fIx_n, nI_mI, mI_nI, mI_lt, nI_lt_m, mI_le, nI_le_m, xI_0, xI_s, bI_0, bI_1, bI_t, bI_f, n_31, j_bit, j_one, i_and, i_or, Nat.not_lt_zero, Nat.succ_ne_zero, Nat.add_one_ne_zero, Nat.add_one_sub_one, Nat.zero_le, Nat.or_zero, Nat.zero_or, Bool.not_true, Bool.not_false, Bool.true_and, Bool.false_and, Bool.and_true, Bool.and_false, ↓reduceIte, if_true, if_false, not_true_eq_false, not_false_eq_true, true_and, and_true, false_and, and_false, and_self, true_or, or_true, false_or, or_false, Nat.reduceEqDiff, Nat.reduceLT, Nat.reduceLeDiff, Nat.reduceAdd, Nat.reduceMul, Nat.reduceSub, Nat.add_zero, Nat.zero_add, Nat.mul_zero, Nat.zero_mul, ne_eq, Bool.not_eq_true, Bool.not_eq_false, reduceCtorEq, decide_true, decide_false, decide_eq_true_eq, decide_eq_false_iff_not, Bool.false_eq_true, if_pos, if_neg, m15, m16, hlk, hml, hpa, hL, yT_L, nI_l, l_lit, hwe, yT_sL, syy, m16']
    · rw [decide_eq_false hw] at hxl hml
      refine ⟨p, v, wd, Nat.le_refl _, by omega, hv40, hwd, fun _ h => absurd h hw, ?_, ?_⟩
      · intro k4
        rw [f_X5_scanWord_L2, upd_same ha5]
        simp (disch := omega) only [↓fLt_e, fBd_s, ↓fJn_s, fNn_s, fNu_0, fNu_s, fBo_0, fBo_1, fBo_b, i_lit, i_neg1, nI_add, pk_mul, nI_clamp, i_le, i_lt, i_eq, fIx_n, nI_mI, mI_nI, mI_lt, nI_lt_m, mI_le, nI_le_m, xI_0, xI_s, bI_0, bI_1, bI_t, bI_f, n_31, j_bit, j_one, i_and, i_or, Nat.not_lt_zero, Nat.succ_ne_zero, Nat.add_one_ne_zero, Nat.add_one_sub_one, Nat.zero_le, Nat.or_zero, Nat.zero_or, Bool.not_true, Bool.not_false, Bool.true_and, Bool.false_and, Bool.and_true, Bool.and_false, ↓reduceIte, if_true, if_false, not_true_eq_false, not_false_eq_true, true_and, and_true, false_and, and_false, and_self, true_or, or_true, false_or, or_false, Nat.reduceEqDiff, Nat.reduceLT, Nat.reduceLeDiff, Nat.reduceAdd, Nat.reduceMul, Nat.reduceSub, Nat.add_zero, Nat.zero_add, Nat.mul_zero, Nat.zero_mul, ne_eq, Bool.not_eq_true, Bool.not_eq_false, reduceCtorEq, decide_true, decide_false, decide_eq_true_eq, decide_eq_false_iff_not, Bool.false_eq_true, if_pos, if_neg, x3, x5, xT_A, hxl]
      · intro k44
        rw [f_X12_next_L109, upd_same hb6]
        simp (disch := omega) only [↓fLt_e, fBd_s, ↓fJn_s, fNn_s, fNu_0, fNu_s, fBo_0, fBo_1, fBo_b, i_lit, i_neg1, nI_add, pk_mul, nI_clamp, i_le, i_lt, i_eq, fIx_n, nI_mI, mI_nI, mI_lt, nI_lt_m, mI_le, nI_le_m, xI_0, xI_s, bI_0, bI_1, bI_t, bI_f, n_31, j_bit, j_one, i_and, i_or, Nat.not_lt_zero, Nat.succ_ne_zero, Nat.add_one_ne_zero, Nat.add_one_sub_one, Nat.zero_le, Nat.or_zero, Nat.zero_or, Bool.not_true, Bool.not_false, Bool.true_and, Bool.false_and, Bool.and_true, Bool.and_false, ↓reduceIte, if_true, if_false, not_true_eq_false, not_false_eq_true, true_and, and_true, false_and, and_false, and_self, true_or, or_true, false_or, or_false, Nat.reduceEqDiff, Nat.reduceLT, Nat.reduceLeDiff, Nat.reduceAdd, Nat.reduceMul, Nat.reduceSub, Nat.add_zero, Nat.zero_add, Nat.mul_zero, Nat.zero_mul, ne_eq, Bool.not_eq_true, Bool.not_eq_false, reduceCtorEq, decide_true, decide_false, decide_eq_true_eq, decide_eq_false_iff_not, Bool.false_eq_true, if_pos, if_neg, m16, hlk, hml]
theorem p10 (L : Nat) {v d : Nat} (h : v < 10 ^ L) (hd : d < 10) : v * 10 + d < 10 ^ (L + 1) := by
  rw [Nat.pow_succ]
  have : (v + 1) * 10 ≤ 10 ^ L * 10 := Nat.mul_le_mul_right _ h
  omega
theorem p10_le {L v : Nat} (hL : L ≤ 4) (h : v < 10 ^ L) : v ≤ 9999 := by
  have : 10 ^ L ≤ 10 ^ 4 := Nat.pow_le_pow_right (by omega) hL
  omega
theorem n_loop (T : tpe sc sm n c) (a : Nat) (nm wd : Int64) : ∀ r p v (A B : Nat → Int32) F1 F2, p + r = n → a ≤ p → r < F1 → r < F2 → A 4 = nI a → A 5 = nI p → B 15 = nI a → B 16 = nI p → B 17 = nI v → v < 10 ^ (min (p - a) 4) →
    ∃ p' v', p ≤ p' ∧ p' ≤ n ∧ v' ≤ 9999 ∧ (p < n → 48 ≤ c p ∧ c p ≤ 57 → p < p') ∧ (∀ k4 : Int32 → fSt → Option (Unit × fSt), f_X5_scanNumber_L2 k4 F1 (nI v) (xT sc A nm) = k4 (nI v') (xT sc (upd A 5 (nI p')) nm)) ∧ ∀ k24 : fSt → Option (Unit × fSt), f_X12_next_L210 k24 F2 (yT sm B wd) = k24 (yT sm (upd (upd B 17 (nI v')) 16 (nI p')) wd) := by
  have T0 := T
  obtain ⟨t1, t2, t3, t4, t5⟩ := T0
  intro r
  induction r with
  | zero =>
    intro p v A B F1 F2 hr hap h1 h2 ha4 ha5 hb5 hb6 hb7 hv
    obtain ⟨F1, rfl⟩ : ∃ k, F1 = k + 1 := ⟨F1 - 1, by omega⟩
    obtain ⟨F2, rfl⟩ : ∃ k, F2 = k + 1 := ⟨F2 - 1, by omega⟩
    have x3 : gI (xT sc A nm) 5 0 3 = nI n := by rw [xT_o _ _ _ (by omega)]; exact t2
    have x5 : gI (xT sc A nm) 5 0 5 = nI p := by rw [xT_I _ _ _ (by omega)]; exact ha5
    have m16 : gI (yT sm B wd) 12 0 16 = nI p := by rw [yT_I _ _ _ (by omega)]; exact hb6
    have hlk := m_look (B := B) (wd := wd) T (p := p) (by omega)
    rw [if_pos (show n ≤ p by omega)] at hlk
    have hle := m_isDig (c := 0) (by omega) (yT sm B wd)
    rw [decide_eq_false (by omega)] at hle
    refine ⟨p, v, Nat.le_refl _, by omega, p10_le (Nat.min_le_right _ _) hv, fun h => absurd h (by omega), ?_, ?_⟩
    · intro k4
      rw [f_X5_scanNumber_L2, upd_same ha5, x3, x5, if_pos (by rw [i_le _ _ (by omega) (by omega)]; omega)]
    · intro k24
      rw [f_X12_next_L210, upd_same hb7, upd_same hb6]
      simp (disch := omega) only [↓fLt_e, fBd_s, ↓fJn_s, fNn_s, fNu_0, fNu_s, fBo_0, fBo_1, fBo_b, i_lit, i_neg1, nI_add, pk_mul, nI_clamp, i_le, i_lt, i_eq, fIx_n, nI_mI, mI_nI, mI_lt, nI_lt_m, mI_le, nI_le_m, xI_0, xI_s, bI_0, bI_1, bI_t, bI_f, n_31, j_bit, j_one, i_and, i_or, Nat.not_lt_zero, Nat.succ_ne_zero, Nat.add_one_ne_zero, Nat.add_one_sub_one, Nat.zero_le, Nat.or_zero, Nat.zero_or, Bool.not_true, Bool.not_false, Bool.true_and, Bool.false_and, Bool.and_true, Bool.and_false, ↓reduceIte, if_true, if_false, not_true_eq_false, not_false_eq_true, true_and, and_true, false_and, and_false, and_self, true_or, or_true, false_or, or_false, Nat.reduceEqDiff, Nat.reduceLT, Nat.reduceLeDiff, Nat.reduceAdd, Nat.reduceMul, Nat.reduceSub, Nat.add_zero, Nat.zero_add, Nat.mul_zero, Nat.zero_mul, ne_eq, Bool.not_eq_true, Bool.not_eq_false, reduceCtorEq, decide_true, decide_false, decide_eq_true_eq, decide_eq_false_iff_not, Bool.false_eq_true, if_pos, if_neg, m16, hlk, hle]
  | succ r ih =>
    intro p v A B F1 F2 hr hap h1 h2 ha4 ha5 hb5 hb6 hb7 hv
    obtain ⟨F1, rfl⟩ : ∃ k, F1 = k + 1 := ⟨F1 - 1, by omega⟩
    obtain ⟨F2, rfl⟩ : ∃ k, F2 = k + 1 := ⟨F2 - 1, by omega⟩
    have x3 : gI (xT sc A nm) 5 0 3 = nI n := by rw [xT_o _ _ _ (by omega)]; exact t2
    have x4 : gI (xT sc A nm) 5 0 4 = nI a := by rw [xT_I _ _ _ (by omega)]; exact ha4
    have x5 : gI (xT sc A nm) 5 0 5 = nI p := by rw [xT_I _ _ _ (by omega)]; exact ha5
    have m15 : gI (yT sm B wd) 12 0 15 = nI a := by rw [yT_I _ _ _ (by omega)]; exact hb5
    have m16 : gI (yT sm B wd) 12 0 16 = nI p := by rw [yT_I _ _ _ (by omega)]; exact hb6
    have m17 : gI (yT sm B wd) 12 0 17 = nI v := by rw [yT_I _ _ _ (by omega)]; exact hb7
    obtain ⟨c1, c2, c3⟩ := t5 p (by omega)
    have hlk := m_look (B := B) (wd := wd) T (p := p) (by omega)
    rw [if_neg (show ¬ n ≤ p by omega)] at hlk
    have hxl := x_isDig c2 c1 (xT sc A nm)
    have hml := m_isDig c1 (yT sm B wd)
    have hv4 : v ≤ 9999 := p10_le (Nat.min_le_right _ _) hv
    have hpa : nI p - nI a = nI (p - a) := nI_sub hap
    have sxx : ∀ u, sI (xT sc A nm) 5 0 5 u = xT sc (upd A 5 u) nm := fun u => xT_sI _ _ _ (by omega) u
    have syy : ∀ B' u, sI (yT sm B' wd) 12 0 16 u = yT sm (upd B' 16 u) wd := fun B' u => yT_sI _ _ _ (by omega) u
    have s17 : ∀ B' u, sI (yT sm B' wd) 12 0 17 u = yT sm (upd B' 17 u) wd := fun B' u => yT_sI _ _ _ (by omega) u
    by_cases hw : 48 ≤ c p ∧ c p ≤ 57
    · rw [decide_eq_true hw] at hxl hml
      have hcc : gA sc 5 0 1 p = nI (c p) := by
        rcases c2 with ⟨-, h⟩ | ⟨h, -⟩
        · exact h
        · omega
      rw [hcc] at hxl
      by_cases hL : 4 ≤ p - a
      · obtain ⟨p', v', g1, g2, g3, -, g5, g6⟩ := ih (p + 1) v (upd A 5 (nI (p + 1))) (upd B 16 (nI (p + 1))) F1 F2 (by omega) (by omega) (by omega) (by omega) (by rw [upd_at, if_neg (by omega)]; exact ha4) (by rw [upd_at, if_pos rfl]) (by rw [upd_at, if_neg (by omega)]; exact hb5) (by rw [upd_at, if_pos rfl]) (by rw [upd_at, if_neg (by omega)]; exact hb7) (by
          rw [Nat.min_eq_right (by omega)] at hv ⊢
          exact hv)
        rw [upd_up] at g5
        refine ⟨p', v', by omega, g2, g3, fun _ _ => by omega, ?_, ?_⟩
        · intro k4
          rw [← g5 k4, f_X5_scanNumber_L2]
          simp (disch := omega) only [↓fLt_e, fBd_s, ↓fJn_s, fNn_s, fNu_0, fNu_s, fBo_0, fBo_1, fBo_b, i_lit, i_neg1, nI_add, pk_mul, nI_clamp, i_le, i_lt, i_eq, fIx_n, nI_mI, mI_nI, mI_lt, nI_lt_m, mI_le, nI_le_m, xI_0, xI_s, bI_0, bI_1, bI_t, bI_f, n_31, j_bit, j_one, i_and, i_or, Nat.not_lt_zero, Nat.succ_ne_zero, Nat.add_one_ne_zero, Nat.add_one_sub_one, Nat.zero_le, Nat.or_zero, Nat.zero_or, Bool.not_true, Bool.not_false, Bool.true_and, Bool.false_and, Bool.and_true, Bool.and_false, ↓reduceIte, if_true, if_false, not_true_eq_false, not_false_eq_true, true_and, and_true, false_and, and_false, and_self, true_or, or_true, false_or, or_false, Nat.reduceEqDiff, Nat.reduceLT, Nat.reduceLeDiff, Nat.reduceAdd, Nat.reduceMul, Nat.reduceSub, Nat.add_zero, Nat.zero_add, Nat.mul_zero, Nat.zero_mul, ne_eq, Bool.not_eq_true, Bool.not_eq_false, reduceCtorEq, decide_true, decide_false, decide_eq_true_eq, decide_eq_false_iff_not, Bool.false_eq_true, if_pos, if_neg, x3, x4, x5, xT_A, hcc, hxl, hpa, hL, sxx]
        · have hB : upd (upd (upd B 16 (nI (p + 1))) 17 (nI v')) 16 (nI p') = upd (upd B 17 (nI v')) 16 (nI p') := by
            funext j
            simp only [upd_at]
            by_cases h6 : j = 16
            · simp only [h6, if_true]
            · simp only [h6, if_false]
          rw [hB] at g6
          intro k24
          rw [← g6 k24, f_X12_next_L210]
          simp (disch := omega) only [↓fLt_e, fBd_s, ↓fJn_s, fNn_s, fNu_0, fNu_s, fBo_0, fBo_1, fBo_b, i_lit, i_neg1, nI_add, pk_mul, nI_clamp, i_le, i_lt, i_eq, fIx_n, nI_mI, mI_nI, mI_lt, nI_lt_m, mI_le, nI_le_m, xI_0, xI_s, bI_0, bI_1, bI_t, bI_f, n_31, j_bit, j_one, i_and, i_or, Nat.not_lt_zero, Nat.succ_ne_zero, Nat.add_one_ne_zero, Nat.add_one_sub_one, Nat.zero_le, Nat.or_zero, Nat.zero_or, Bool.not_true, Bool.not_false, Bool.true_and, Bool.false_and, Bool.and_true, Bool.and_false, ↓reduceIte, if_true, if_false, not_true_eq_false, not_false_eq_true, true_and, and_true, false_and, and_false, and_self, true_or, or_true, false_or, or_false, Nat.reduceEqDiff, Nat.reduceLT, Nat.reduceLeDiff, Nat.reduceAdd, Nat.reduceMul, Nat.reduceSub, Nat.add_zero, Nat.zero_add, Nat.mul_zero, Nat.zero_mul, ne_eq, Bool.not_eq_true, Bool.not_eq_false, reduceCtorEq, decide_true, decide_false, decide_eq_true_eq, decide_eq_false_iff_not, Bool.false_eq_true, if_pos, if_neg, m15, m16, hlk, hml, hpa, hL, syy]
      · have hLm : min (p - a) 4 = p - a := Nat.min_eq_left (by omega)
        rw [hLm] at hv
        have hv' := p10 (p - a) hv (show c p - 48 < 10 by omega)
        obtain ⟨p', v', g1, g2, g3, -, g5, g6⟩ := ih (p + 1) (v * 10 + (c p - 48)) (upd A 5 (nI (p + 1))) (upd (upd B 17 (nI (v * 10 + (c p - 48)))) 16 (nI (p + 1))) F1 F2 (by omega) (by omega) (by omega) (by omega) (by rw [upd_at, if_neg (by omega)]; exact ha4) (by rw [upd_at, if_pos rfl]) (by rw [upd_at, if_neg (by omega), upd_at, if_neg (by omega)]; exact hb5) (by rw [upd_at, if_pos rfl]) (by rw [upd_at, if_neg (by omega), upd_at, if_pos rfl]) (by
          rw [Nat.min_eq_left (by omega), show p + 1 - a = p - a + 1 by omega]
          exact hv')
        rw [upd_up] at g5
        have e1 : nI v * nI 10 + (nI (c p) - nI 48) = nI (v * 10 + (c p - 48)) := by rw [pk_mul, nI_sub (by omega), nI_add]
        have e2 : nI 10 * nI v + nI (c p) - nI 48 = nI (v * 10 + (c p - 48)) := by
          rw [pk_mul, nI_add, nI_sub (by omega)]
          congr 1
          omega
        refine ⟨p', v', by omega, g2, g3, fun _ _ => by omega, ?_, ?_⟩
        · intro k4
          rw [← g5 k4, f_X5_scanNumber_L2]
          simp (disch := omega) only [↓fLt_e, fBd_s, ↓fJn_s, fNn_s, fNu_0, fNu_s, fBo_0, fBo_1, fBo_b, Nat.not_lt_zero, Nat.succ_ne_zero, Nat.add_one_ne_zero, Nat.add_one_sub_one, Nat.zero_le, Nat.or_zero, Nat.zero_or, Bool.not_true, Bool.not_false, Bool.true_and, Bool.false_and, Bool.and_true, Bool.and_false, ↓reduceIte, if_true, if_false, not_true_eq_false, not_false_eq_true, true_and, and_true, false_and, and_false, and_self, true_or, or_true, false_or, or_false, Nat.reduceEqDiff, Nat.reduceLT, Nat.reduceLeDiff, Nat.reduceAdd, Nat.reduceMul, Nat.reduceSub, Nat.add_zero, Nat.zero_add, Nat.mul_zero, Nat.zero_mul, ne_eq, Bool.not_eq_true, Bool.not_eq_false, reduceCtorEq, decide_true, decide_false, decide_eq_true_eq, decide_eq_false_iff_not, Bool.false_eq_true, i_lit, i_le, nI_clamp, fIx_n, bI_0, x3, x4, x5, xT_A, hcc, hxl, hpa, hL, e1, sxx, nI_add, if_pos, if_neg]
        · have hB : upd (upd (upd (upd B 17 (nI (v * 10 + (c p - 48)))) 16 (nI (p + 1))) 17 (nI v')) 16 (nI p') = upd (upd B 17 (nI v')) 16 (nI p') := by
            funext j
            simp only [upd_at]
            by_cases h6 : j = 16
            · simp only [h6, if_true]
            · by_cases h7 : j = 17
              · simp only [h7, if_true]
              · simp only [h6, h7, if_false]
          rw [hB] at g6
          have h16 : upd B 17 (nI (v * 10 + (c p - 48))) 16 = nI p := by rw [upd_at, if_neg (by omega)]; exact hb6
          have m16'' : gI (yT sm (upd B 17 (nI (v * 10 + (c p - 48)))) wd) 12 0 16 = nI p := by rw [yT_I _ _ _ (by omega)]; exact h16
          intro k24
          rw [← g6 k24, f_X12_next_L210]
          simp (disch := omega) only [↓fLt_e, fBd_s, ↓fJn_s, fNn_s, fNu_0, fNu_s, fBo_0, fBo_1, fBo_b, Nat.not_lt_zero, Nat.succ_ne_zero, Nat.add_one_ne_zero, Nat.add_one_sub_one, Nat.zero_le, Nat.or_zero, Nat.zero_or, Bool.not_true, Bool.not_false, Bool.true_and, Bool.false_and, Bool.and_true, Bool.and_false, ↓reduceIte, if_true, if_false, not_true_eq_false, not_false_eq_true, true_and, and_true, false_and, and_false, and_self, true_or, or_true, false_or, or_false, Nat.reduceEqDiff, Nat.reduceLT, Nat.reduceLeDiff, Nat.reduceAdd, Nat.reduceMul, Nat.reduceSub, Nat.add_zero, Nat.zero_add, Nat.mul_zero, Nat.zero_mul, ne_eq, Bool.not_eq_true, Bool.not_eq_false, reduceCtorEq, decide_true, decide_false, decide_eq_true_eq, decide_eq_false_iff_not, Bool.false_eq_true, i_lit, i_le, bI_0, m15, m16, m17, hlk, hml, hpa, hL, e2, s17, syy, m16'', nI_add, if_pos, if_neg]
    · rw [decide_eq_false hw] at hxl hml
      refine ⟨p, v, Nat.le_refl _, by omega, hv4, fun _ h => absurd h hw, ?_, ?_⟩
      · intro k4
        rw [f_X5_scanNumber_L2, upd_same ha5]
        simp (disch := omega) only [↓fLt_e, fBd_s, ↓fJn_s, fNn_s, fNu_0, fNu_s, fBo_0, fBo_1, fBo_b, i_lit, i_neg1, nI_add, pk_mul, nI_clamp, i_le, i_lt, i_eq, fIx_n, nI_mI, mI_nI, mI_lt, nI_lt_m, mI_le, nI_le_m, xI_0, xI_s, bI_0, bI_1, bI_t, bI_f, n_31, j_bit, j_one, i_and, i_or, Nat.not_lt_zero, Nat.succ_ne_zero, Nat.add_one_ne_zero, Nat.add_one_sub_one, Nat.zero_le, Nat.or_zero, Nat.zero_or, Bool.not_true, Bool.not_false, Bool.true_and, Bool.false_and, Bool.and_true, Bool.and_false, ↓reduceIte, if_true, if_false, not_true_eq_false, not_false_eq_true, true_and, and_true, false_and, and_false, and_self, true_or, or_true, false_or, or_false, Nat.reduceEqDiff, Nat.reduceLT, Nat.reduceLeDiff, Nat.reduceAdd, Nat.reduceMul, Nat.reduceSub, Nat.add_zero, Nat.zero_add, Nat.mul_zero, Nat.zero_mul, ne_eq, Bool.not_eq_true, Bool.not_eq_false, reduceCtorEq, decide_true, decide_false, decide_eq_true_eq, decide_eq_false_iff_not, Bool.false_eq_true, if_pos, if_neg, x3, x5, xT_A, hxl]
      · intro k24
        rw [f_X12_next_L210, upd_same hb7, upd_same hb6]
        simp (disch := omega) only [↓fLt_e, fBd_s, ↓fJn_s, fNn_s, fNu_0, fNu_s, fBo_0, fBo_1, fBo_b, i_lit, i_neg1, nI_add, pk_mul, nI_clamp, i_le, i_lt, i_eq, fIx_n, nI_mI, mI_nI, mI_lt, nI_lt_m, mI_le, nI_le_m, xI_0, xI_s, bI_0, bI_1, bI_t, bI_f, n_31, j_bit, j_one, i_and, i_or, Nat.not_lt_zero, Nat.succ_ne_zero, Nat.add_one_ne_zero, Nat.add_one_sub_one, Nat.zero_le, Nat.or_zero, Nat.zero_or, Bool.not_true, Bool.not_false, Bool.true_and, Bool.false_and, Bool.and_true, Bool.and_false, ↓reduceIte, if_true, if_false, not_true_eq_false, not_false_eq_true, true_and, and_true, false_and, and_false, and_self, true_or, or_true, false_or, or_false, Nat.reduceEqDiff, Nat.reduceLT, Nat.reduceLeDiff, Nat.reduceAdd, Nat.reduceMul, Nat.reduceSub, Nat.add_zero, Nat.zero_add, Nat.mul_zero, Nat.zero_mul, ne_eq, Bool.not_eq_true, Bool.not_eq_false, reduceCtorEq, decide_true, decide_false, decide_eq_true_eq, decide_eq_false_iff_not, Bool.false_eq_true, if_pos, if_neg, m16, hlk, hml]
end
