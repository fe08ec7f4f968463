/-! layer 2: tests of words in any state (also after a fault) -/
theorem an_Role (s : fSt) : ∃ b, f_X12_isRole s = some (bI b, s) := by
  unfold f_X12_isRole
  rw [m_spelled, fBd_s, m_isWord, fBd_s, fBo_b]
  exact ⟨_, rfl⟩
theorem an_Actor (s : fSt) : ∃ b, f_X12_isActor s = some (bI b, s) := by
  unfold f_X12_isActor
  rw [m_spelled, fBd_s, m_isWord, fBd_s, fBo_b]
  exact ⟨_, rfl⟩
theorem an_Pay (s : fSt) : ∃ b, f_X12_isPay s = some (bI b, s) := by
  unfold f_X12_isPay
  rw [m_spelled, fBd_s, m_isWord, fBd_s, fBo_b]
  exact ⟨_, rfl⟩
theorem an_Breath (s : fSt) : ∃ b, f_X12_isBreath s = some (bI b, s) := by
  unfold f_X12_isBreath
  rw [m_spelled, fBd_s, m_isWord, fBd_s, fBo_b]
  exact ⟨_, rfl⟩
theorem an_Not (s : fSt) : ∃ b, f_X12_isNot s = some (bI b, s) := by
  unfold f_X12_isNot
  rw [m_spelled, fBd_s, m_isWord, fBd_s, fBo_b]
  exact ⟨_, rfl⟩
theorem an_Scene (s : fSt) : ∃ b, f_X12_isScene s = some (bI b, s) := by
  unfold f_X12_isScene
  rw [m_spelled, fBd_s, m_isWord, fBd_s, fBo_b]
  exact ⟨_, rfl⟩
theorem an_Lines (s : fSt) : ∃ b, f_X12_isLines s = some (bI b, s) := by
  unfold f_X12_isLines
  rw [m_spelled, fBd_s, m_isWord, fBd_s, fBo_b]
  exact ⟨_, rfl⟩
theorem an_With (s : fSt) : ∃ b, f_X12_isWith s = some (bI b, s) := by
  unfold f_X12_isWith
  rw [m_spelled, fBd_s, m_isWord, fBd_s, fBo_b]
  exact ⟨_, rfl⟩
theorem an_Ends (s : fSt) : ∃ b, f_X12_isEnds s = some (bI b, s) := by
  unfold f_X12_isEnds
  rw [m_spelled, fBd_s, m_isWord, fBd_s, fBo_b]
  exact ⟨_, rfl⟩
theorem an_Then (s : fSt) : ∃ b, f_X12_isThen s = some (bI b, s) := by
  unfold f_X12_isThen
  rw [m_spelled, fBd_s, m_isWord, fBd_s, fBo_b]
  exact ⟨_, rfl⟩
theorem an_Tear (s : fSt) : ∃ b, f_X12_isTear s = some (bI b, s) := by
  unfold f_X12_isTear
  rw [m_spelled, fBd_s, m_isWord, fBd_s, fBo_b]
  exact ⟨_, rfl⟩
theorem an_Laugh (s : fSt) : ∃ b, f_X12_isLaugh s = some (bI b, s) := by
  unfold f_X12_isLaugh
  rw [m_spelled, fBd_s, m_isWord, fBd_s, fBo_b]
  exact ⟨_, rfl⟩
theorem an_Sleep (s : fSt) : ∃ b, f_X12_isSleep s = some (bI b, s) := by
  unfold f_X12_isSleep
  rw [m_spelled, fBd_s, m_isWord, fBd_s, fBo_b]
  exact ⟨_, rfl⟩
theorem an_Kills (s : fSt) : ∃ b, f_X12_isKills s = some (bI b, s) := by
  unfold f_X12_isKills
  rw [m_spelled, fBd_s, m_isWord, fBd_s, fBo_b]
  exact ⟨_, rfl⟩
theorem an_Kind (s : fSt) : ∃ b, f_X12_isKind s = some (bI b, s) := by
  unfold f_X12_isKind
  rw [m_spelled, fBd_s, m_isWord, fBd_s, fBo_b]
  exact ⟨_, rfl⟩
theorem an_Lots (s : fSt) : ∃ b, f_X12_isLots s = some (bI b, s) := by
  unfold f_X12_isLots
  rw [m_spelled, fBd_s, m_isWord, fBd_s, fBo_b]
  exact ⟨_, rfl⟩
theorem an_Tears (s : fSt) : ∃ b, f_X12_isTears s = some (bI b, s) := by
  unfold f_X12_isTears
  rw [m_spelled, fBd_s, m_isWord, fBd_s, fBo_b]
  exact ⟨_, rfl⟩
theorem an_Laughs (s : fSt) : ∃ b, f_X12_isLaughs s = some (bI b, s) := by
  unfold f_X12_isLaughs
  rw [m_spelled, fBd_s, m_isWord, fBd_s, fBo_b]
  exact ⟨_, rfl⟩
theorem an_Sleeps (s : fSt) : ∃ b, f_X12_isSleeps s = some (bI b, s) := by
  unfold f_X12_isSleeps
  rw [m_spelled, fBd_s, m_isWord, fBd_s, fBo_b]
  exact ⟨_, rfl⟩
theorem an_End (s : fSt) : ∃ b, f_X12_isEnd s = some (bI b, s) := by
  unfold f_X12_isEnd
  rw [m_spelled, fBd_s, m_isWord, fBd_s, fBo_b]
  exact ⟨_, rfl⟩
theorem bI_ib {α : Type} (b : Bool) (x y : α) : (if bI b = nI 0 then x else y) = if b = true then y else x := by
  cases b <;> rfl
theorem bI_nb {α : Type} (b : Bool) (x y : α) : (if ¬ bI b = nI 0 then x else y) = if b = true then x else y := by
  cases b <;> rfl
theorem an_step (s : fSt) : ∃ x, f_X12_stepWord s = some (x, s) := by
  unfold f_X12_stepWord
  simp only [m_spelled, fBd_s, m_isWord, i_lit, ↓fJn_s, bI_ib, bI_nb]
  repeat' first | exact ⟨_, rfl⟩ | split
theorem an_test (s : fSt) : ∃ x, f_X12_testWord s = some (x, s) := by
  unfold f_X12_testWord
  simp only [m_spelled, fBd_s, m_isWord, i_lit, ↓fJn_s, bI_ib, bI_nb]
  repeat' first | exact ⟨_, rfl⟩ | split
theorem an_kept (s : fSt) : ∃ b, f_X12_isKept s = some (bI b, s) := by
  obtain ⟨b0, h0⟩ := an_Role s
  obtain ⟨b1, h1⟩ := an_Actor s
  obtain ⟨b2, h2⟩ := an_Pay s
  obtain ⟨b3, h3⟩ := an_Breath s
  obtain ⟨b4, h4⟩ := an_Not s
  obtain ⟨b5, h5⟩ := an_Scene s
  obtain ⟨b6, h6⟩ := an_Lines s
  obtain ⟨b7, h7⟩ := an_With s
  obtain ⟨b8, h8⟩ := an_Ends s
  obtain ⟨b9, h9⟩ := an_Then s
  obtain ⟨b10, h10⟩ := an_Tear s
  obtain ⟨b11, h11⟩ := an_Laugh s
  obtain ⟨b12, h12⟩ := an_Sleep s
  obtain ⟨b13, h13⟩ := an_Kills s
  obtain ⟨b14, h14⟩ := an_Kind s
  obtain ⟨b15, h15⟩ := an_Lots s
  obtain ⟨b16, h16⟩ := an_Tears s
  obtain ⟨b17, h17⟩ := an_Laughs s
  obtain ⟨b18, h18⟩ := an_Sleeps s
  obtain ⟨b19, h19⟩ := an_End s
  obtain ⟨x1, g1⟩ := an_step s
  obtain ⟨x2, g2⟩ := an_test s
  have b1 : fBo (nI 1) (some (nI 1, s)) = some (nI 1, s) := by simp only [fLt_e, fBd_s, fJn_s, fNn_s, fNu_0, fNu_s, fBo_0, fBo_1, fBo_b]
  have b0 : fBo (nI 0) (some (nI 0, s)) = some (nI 0, s) := by simp only [fLt_e, fBd_s, fJn_s, fNn_s, fNu_0, fNu_s, fBo_0, fBo_1, fBo_b]
  unfold f_X12_isKept
  simp only [↓fJn_s, i_lit, fBd_s, bI_ib, bI_nb, h0, h1, h2, h3, h4, h5, h6, h7, h8, h9, h10, h11, h12, h13, h14, h15, h16, h17, h18, h19, g1, g2, b1, b0, if_or2]
  split
  · exact ⟨true, rfl⟩
  · exact ⟨false, rfl⟩
theorem an_name (s : fSt) : ∃ b, f_X12_isName s = some (bI b, s) := by
  obtain ⟨b, h⟩ := an_kept s
  unfold f_X12_isName
  simp only [↓fJn_s, i_lit, fBd_s, h, bI_nb, fBo_0, fBo_1]
  by_cases h1 : gI s 12 0 14 = nI 1
  · rw [if_neg (fun g => g h1)]
    by_cases h2 : nI 8 < gI s 12 0 18
    · rw [if_pos h2]
      exact ⟨false, rfl⟩
    · rw [if_neg h2]
      cases b with
      | true => exact ⟨false, rfl⟩
      | false => exact ⟨true, rfl⟩
  · rw [if_pos h1]
    exact ⟨false, rfl⟩
theorem no_count {sm : fSt} {k : Nat} (hk : 1 ≤ k ∧ k ≤ 7) (h : gI sm 12 0 12 = nI k) (x y : Int32) : f_X12_count x y sm = some (nI 0, sm) := by
  have k0 : ¬ k = 0 := by omega
  unfold f_X12_count
  simp (disch := omega) only [↓fLt_e, fBd_s, ↓fJn_s, fNn_s, fNu_0, fNu_s, fBo_0, fBo_1, fBo_b, i_lit, i_neg1, nI_add, pk_mul, nI_clamp, i_le, i_lt, i_eq, fIx_n, nI_mI, mI_nI, mI_lt, nI_lt_m, mI_le, nI_le_m, xI_0, xI_s, bI_0, bI_1, bI_t, bI_f, n_31, j_bit, j_one, i_and, i_or, Nat.not_lt_zero, Nat.succ_ne_zero, Nat.add_one_ne_zero, Nat.add_one_sub_one, Nat.zero_le, Nat.or_zero, Nat.zero_or, Bool.not_true, Bool.not_false, Bool.true_and, Bool.false_and, Bool.and_true, Bool.and_false, ↓reduceIte, if_true, if_false, not_true_eq_false, not_false_eq_true, true_and, and_true, false_and, and_false, and_self, true_or, or_true, false_or, or_false, Nat.reduceEqDiff, Nat.reduceLT, Nat.reduceLeDiff, Nat.reduceAdd, Nat.reduceMul, Nat.reduceSub, Nat.add_zero, Nat.zero_add, Nat.mul_zero, Nat.zero_mul, ne_eq, Bool.not_eq_true, Bool.not_eq_false, reduceCtorEq, decide_true, decide_false, decide_eq_true_eq, decide_eq_false_iff_not, Bool.false_eq_true, if_pos, if_neg, h, k0]
theorem no_told {sm : fSt} {k : Nat} (hk : 1 ≤ k ∧ k ≤ 7) (h : gI sm 12 0 12 = nI k) (x y z : Int32) : f_X12_readTold x y z sm = some (nI 0, sm) := by
  have k0 : ¬ k = 0 := by omega
  unfold f_X12_readTold
  simp (disch := omega) only [↓fLt_e, fBd_s, ↓fJn_s, fNn_s, fNu_0, fNu_s, fBo_0, fBo_1, fBo_b, i_lit, i_neg1, nI_add, pk_mul, nI_clamp, i_le, i_lt, i_eq, fIx_n, nI_mI, mI_nI, mI_lt, nI_lt_m, mI_le, nI_le_m, xI_0, xI_s, bI_0, bI_1, bI_t, bI_f, n_31, j_bit, j_one, i_and, i_or, Nat.not_lt_zero, Nat.succ_ne_zero, Nat.add_one_ne_zero, Nat.add_one_sub_one, Nat.zero_le, Nat.or_zero, Nat.zero_or, Bool.not_true, Bool.not_false, Bool.true_and, Bool.false_and, Bool.and_true, Bool.and_false, ↓reduceIte, if_true, if_false, not_true_eq_false, not_false_eq_true, true_and, and_true, false_and, and_false, and_self, true_or, or_true, false_or, or_false, Nat.reduceEqDiff, Nat.reduceLT, Nat.reduceLeDiff, Nat.reduceAdd, Nat.reduceMul, Nat.reduceSub, Nat.add_zero, Nat.zero_add, Nat.mul_zero, Nat.zero_mul, ne_eq, Bool.not_eq_true, Bool.not_eq_false, reduceCtorEq, decide_true, decide_false, decide_eq_true_eq, decide_eq_false_iff_not, Bool.false_eq_true, if_pos, if_neg, h, k0, m_must_no hk h]
theorem no_way {sm : fSt} {k : Nat} (hk : 1 ≤ k ∧ k ≤ 7) (h : gI sm 12 0 12 = nI k) (x : Int32) : f_X12_readWay x sm = some (mI, sm) := by
  have k0 : 0 < k := by omega
  unfold f_X12_readWay
  simp (disch := omega) only [↓fLt_e, fBd_s, ↓fJn_s, fNn_s, fNu_0, fNu_s, fBo_0, fBo_1, fBo_b, i_lit, i_neg1, nI_add, pk_mul, nI_clamp, i_le, i_lt, i_eq, fIx_n, nI_mI, mI_nI, mI_lt, nI_lt_m, mI_le, nI_le_m, xI_0, xI_s, bI_0, bI_1, bI_t, bI_f, n_31, j_bit, j_one, i_and, i_or, Nat.not_lt_zero, Nat.succ_ne_zero, Nat.add_one_ne_zero, Nat.add_one_sub_one, Nat.zero_le, Nat.or_zero, Nat.zero_or, Bool.not_true, Bool.not_false, Bool.true_and, Bool.false_and, Bool.and_true, Bool.and_false, ↓reduceIte, if_true, if_false, not_true_eq_false, not_false_eq_true, true_and, and_true, false_and, and_false, and_self, true_or, or_true, false_or, or_false, Nat.reduceEqDiff, Nat.reduceLT, Nat.reduceLeDiff, Nat.reduceAdd, Nat.reduceMul, Nat.reduceSub, Nat.add_zero, Nat.zero_add, Nat.mul_zero, Nat.zero_mul, ne_eq, Bool.not_eq_true, Bool.not_eq_false, reduceCtorEq, decide_true, decide_false, decide_eq_true_eq, decide_eq_false_iff_not, Bool.false_eq_true, if_pos, if_neg, h, k0]
theorem no_wrong {sm : fSt} {k : Nat} (hk : 1 ≤ k ∧ k ≤ 7) (h : gI sm 12 0 12 = nI k) : f_X12_wrong sm = some ((), sm) := by
  unfold f_X12_wrong
  simp only [↓fJn_s, m_fail_no hk h, fBd_s, ite_self]
def pcB (m k : Nat) : Nat := if m.testBit k = true then 1 else 0
def pc6 (m : Nat) : Nat := pcB m 0 + pcB m 1 + pcB m 2 + pcB m 3 + pcB m 4 + pcB m 5
theorem pcB_le (m k : Nat) : pcB m k ≤ 1 := by
  unfold pcB
  split <;> omega
theorem pc6_le (m : Nat) : pc6 m ≤ 6 := by
  unfold pc6
  have h0 := pcB_le m 0
  have h1 := pcB_le m 1
  have h2 := pcB_le m 2
  have h3 := pcB_le m 3
  have h4 := pcB_le m 4
  have h5 := pcB_le m 5
  omega
theorem pcB_or (m v k : Nat) (h : m.testBit v = false) : pcB (m ||| 2 ^ v) k = if k = v then 1 + pcB m k else pcB m k := by
  unfold pcB
  rw [Nat.testBit_or, Nat.testBit_two_pow]
  by_cases g : k = v
  · subst g
    rw [if_pos rfl, h]
    simp
  · rw [if_neg g, decide_eq_false (fun e => g e.symm), Bool.or_false]
theorem pc6_or (m v : Nat) (hv : v < 6) (h : m.testBit v = false) : pc6 (m ||| 2 ^ v) = pc6 m + 1 := by
  unfold pc6
  simp only [pcB_or m v _ h]
  have hc : v = 0 ∨ v = 1 ∨ v = 2 ∨ v = 3 ∨ v = 4 ∨ v = 5 := by omega
  rcases hc with rfl | rfl | rfl | rfl | rfl | rfl <;> simp only [Nat.reduceEqDiff, if_true, if_false, ↓reduceIte] <;> omega
