/-! layer 2: the class's choose -/
def kS (st : fSt) (v : Int32) (t b p s : Nat → Int32) : fSt := sI (sA (sA (sA (sA st 1 0 2 t) 1 0 3 b) 1 0 6 p) 1 0 7 s) 1 0 7 v
theorem kS_v (st : fSt) (v : Int32) (t b p s : Nat → Int32) : gI (kS st v t b p s) 1 0 7 = v := rfl
theorem kS_2 (st : fSt) (v : Int32) (t b p s : Nat → Int32) : gA (kS st v t b p s) 1 0 2 = t := rfl
theorem kS_3 (st : fSt) (v : Int32) (t b p s : Nat → Int32) : gA (kS st v t b p s) 1 0 3 = b := rfl
theorem kS_4 (st : fSt) (v : Int32) (t b p s : Nat → Int32) : gA (kS st v t b p s) 1 0 4 = gA st 1 0 4 := rfl
theorem kS_5 (st : fSt) (v : Int32) (t b p s : Nat → Int32) : gA (kS st v t b p s) 1 0 5 = gA st 1 0 5 := rfl
theorem kS_6 (st : fSt) (v : Int32) (t b p s : Nat → Int32) : gA (kS st v t b p s) 1 0 6 = p := rfl
theorem kS_7 (st : fSt) (v : Int32) (t b p s : Nat → Int32) : gA (kS st v t b p s) 1 0 7 = s := rfl
theorem kS_q (st : fSt) (v : Int32) (t b p s : Nat → Int32) (q k : Nat) : gA (kS st v t b p s) 7 q k = gA st 7 q k := rfl
theorem kS_i (st : fSt) (v : Int32) (t b p s : Nat → Int32) (q k : Nat) : gI (kS st v t b p s) 7 q k = gI st 7 q k := rfl
theorem kS_sv (st : fSt) (v w : Int32) (t b p s : Nat → Int32) : sI (kS st v t b p s) 1 0 7 w = kS st w t b p s := by
  unfold kS
  rw [sI_sI]
theorem kS_s2 (st : fSt) (v : Int32) (t b p s x : Nat → Int32) : sA (kS st v t b p s) 1 0 2 x = kS st v x b p s := by
  apply st_ext
  · intro c i k; rfl
  · intro c i k; rfl
  · intro c i k
    simp only [kS, gA_sA, gA_sI]
    by_cases h : c = 1 ∧ i = 0
    · obtain ⟨rfl, rfl⟩ := h
      by_cases h1 : k = 2
      · subst h1; simp
      · simp [h1]
    · simp only [← and_assoc, h, false_and, if_false]
  · intro c i k; rfl
  · intro c i k; rfl
theorem kS_s3 (st : fSt) (v : Int32) (t b p s x : Nat → Int32) : sA (kS st v t b p s) 1 0 3 x = kS st v t x p s := by
  apply st_ext
  · intro c i k; rfl
  · intro c i k; rfl
  · intro c i k
    simp only [kS, gA_sA, gA_sI]
    by_cases h : c = 1 ∧ i = 0
    · obtain ⟨rfl, rfl⟩ := h
      by_cases h1 : k = 3
      · subst h1; simp
      · simp [h1]
    · simp only [← and_assoc, h, false_and, if_false]
  · intro c i k; rfl
  · intro c i k; rfl
theorem kS_s6 (st : fSt) (v : Int32) (t b p s x : Nat → Int32) : sA (kS st v t b p s) 1 0 6 x = kS st v t b x s := by
  apply st_ext
  · intro c i k; rfl
  · intro c i k; rfl
  · intro c i k
    simp only [kS, gA_sA, gA_sI]
    by_cases h : c = 1 ∧ i = 0
    · obtain ⟨rfl, rfl⟩ := h
      by_cases h1 : k = 6
      · subst h1; simp
      · simp [h1]
    · simp only [← and_assoc, h, false_and, if_false]
  · intro c i k; rfl
  · intro c i k; rfl
theorem kS_s7 (st : fSt) (v : Int32) (t b p s x : Nat → Int32) : sA (kS st v t b p s) 1 0 7 x = kS st v t b p x := by
  apply st_ext
  · intro c i k; rfl
  · intro c i k; rfl
  · intro c i k
    simp only [kS, gA_sA, gA_sI]
    by_cases h : c = 1 ∧ i = 0
    · obtain ⟨rfl, rfl⟩ := h
      by_cases h1 : k = 7
      · subst h1; simp
      · simp [h1]
    · simp only [← and_assoc, h, false_and, if_false]
  · intro c i k; rfl
  · intro c i k; rfl
section
variable {sc : fSt} {q : Nat} {G nb : Nat → Nat}
def tRl (G pl : Nat → Nat) (r : Nat) (t : Nat → Int32) : Prop := (∀ o, o < r → t o = xI (pl o)) ∧ ∀ o, o < 6 → (G 0 ≤ o ∨ bsd G o = 0) → t o = mI
def aRl (G nb pl : Nat → Nat) (r : Nat) (p s : Nat → Int32) : Prop := ∀ a, a < G 1 → p a = nI (msk pl a r) ∧ s a = nI (spn nb pl a r)
theorem x_mayPlay (X : rStg sc q G) (w : gWf G) (hN : ∀ o, o < G 0 → gA sc 1 0 4 o = nI (nb o) ∧ gA sc 1 0 5 o = nI (bsd G o)) (hnb : ∀ o, nb o ≤ 1680) {pl : Nat → Nat} {r a : Nat} (hr : r < G 0) (ha : a < G 1) {v : Int32} {t b p s : Nat → Int32} (hp : aRl G nb pl r p s) : f_X1_mayPlay q (nI a) (nI r) (kS sc v t b p s) = some (bI (ckc G nb r a pl), kS sc v t b p s) := by
  have w1 := w.1
  obtain ⟨g1, g2, g3⟩ := w.2.2.1 a ha
  obtain ⟨b1, b2, b3⟩ := X.2.1 a ha
  obtain ⟨hN4, hN5⟩ := hN r hr
  obtain ⟨hpa, hsa⟩ := hp a ha
  have hbl := bsd_lt w r
  have hsl := spn_le nb pl a hnb r
  have hsl2 : r * 1680 ≤ 6 * 1680 := Nat.mul_le_mul_right _ (by omega)
  have hsr := hnb r
  have hml := msk_lt pl a r
  have hml2 : 2 ^ r ≤ 2 ^ 6 := Nat.pow_le_pow_right (by omega) (by omega)
  have hal : msk pl a r &&& bsd G r < 2 ^ 31 := Nat.lt_of_le_of_lt Nat.and_le_left (by omega)
  unfold f_X1_mayPlay ckc
  cases hb : (G (19 + a)).testBit r with
  | true => simp (disch := omega) only [fLt_e, fBd_s, fJn_s, fNn_s, fNu_0, fNu_s, fBo_0, fBo_1, fBo_b, i_lit, i_neg1, nI_add, pk_mul, nI_clamp, i_le, i_lt, i_eq, fIx_n, nI_mI, mI_nI, mI_lt, nI_lt_m, mI_le, nI_le_m, xI_0, xI_s, bI_0, bI_1, bI_t, bI_f, n_31, j_bit, j_one, i_and, i_or, Nat.not_lt_zero, Nat.succ_ne_zero, Nat.add_one_ne_zero, Nat.add_one_sub_one, Nat.zero_le, Nat.or_zero, Nat.zero_or, Bool.not_true, Bool.not_false, Bool.true_and, Bool.false_and, Bool.and_true, Bool.and_false, ↓reduceIte, if_true, if_false, not_true_eq_false, not_false_eq_true, true_and, and_true, false_and, and_false, and_self, true_or, or_true, false_or, or_false, Nat.reduceEqDiff, Nat.reduceLT, Nat.reduceLeDiff, Nat.reduceAdd, Nat.reduceMul, Nat.reduceSub, Nat.add_zero, Nat.zero_add, Nat.mul_zero, Nat.zero_mul, ne_eq, Bool.not_eq_true, Bool.not_eq_false, reduceCtorEq, decide_true, decide_false, decide_eq_true_eq, decide_eq_false_iff_not, Bool.false_eq_true, if_pos, if_neg, kS_q, b3, hb]
  | false =>
    by_cases hm : msk pl a r &&& bsd G r = 0
    · by_cases hle : spn nb pl a r + nb r ≤ G (13 + a)
      · have hnl : ¬ G (13 + a) < spn nb pl a r + nb r := by omega
        simp (disch := omega) only [fLt_e, fBd_s, fJn_s, fNn_s, fNu_0, fNu_s, fBo_0, fBo_1, fBo_b, i_lit, i_neg1, nI_add, pk_mul, nI_clamp, i_le, i_lt, i_eq, fIx_n, nI_mI, mI_nI, mI_lt, nI_lt_m, mI_le, nI_le_m, xI_0, xI_s, bI_0, bI_1, bI_t, bI_f, n_31, j_bit, j_one, i_and, i_or, Nat.not_lt_zero, Nat.succ_ne_zero, Nat.add_one_ne_zero, Nat.add_one_sub_one, Nat.zero_le, Nat.or_zero, Nat.zero_or, Bool.not_true, Bool.not_false, Bool.true_and, Bool.false_and, Bool.and_true, Bool.and_false, ↓reduceIte, if_true, if_false, not_true_eq_false, not_false_eq_true, true_and, and_true, false_and, and_false, and_self, true_or, or_true, false_or, or_false, Nat.reduceEqDiff, Nat.reduceLT, Nat.reduceLeDiff, Nat.reduceAdd, Nat.reduceMul, Nat.reduceSub, Nat.add_zero, Nat.zero_add, Nat.mul_zero, Nat.zero_mul, ne_eq, Bool.not_eq_true, Bool.not_eq_false, reduceCtorEq, decide_true, decide_false, decide_eq_true_eq, decide_eq_false_iff_not, Bool.false_eq_true, if_pos, if_neg, kS_q, kS_4, kS_5, kS_6, kS_7, b2, b3, hb, hN4, hN5, hpa, hsa, hm, hle, hnl]
      · have hnl : G (13 + a) < spn nb pl a r + nb r := by omega
        simp (disch := omega) only [fLt_e, fBd_s, fJn_s, fNn_s, fNu_0, fNu_s, fBo_0, fBo_1, fBo_b, i_lit, i_neg1, nI_add, pk_mul, nI_clamp, i_le, i_lt, i_eq, fIx_n, nI_mI, mI_nI, mI_lt, nI_lt_m, mI_le, nI_le_m, xI_0, xI_s, bI_0, bI_1, bI_t, bI_f, n_31, j_bit, j_one, i_and, i_or, Nat.not_lt_zero, Nat.succ_ne_zero, Nat.add_one_ne_zero, Nat.add_one_sub_one, Nat.zero_le, Nat.or_zero, Nat.zero_or, Bool.not_true, Bool.not_false, Bool.true_and, Bool.false_and, Bool.and_true, Bool.and_false, ↓reduceIte, if_true, if_false, not_true_eq_false, not_false_eq_true, true_and, and_true, false_and, and_false, and_self, true_or, or_true, false_or, or_false, Nat.reduceEqDiff, Nat.reduceLT, Nat.reduceLeDiff, Nat.reduceAdd, Nat.reduceMul, Nat.reduceSub, Nat.add_zero, Nat.zero_add, Nat.mul_zero, Nat.zero_mul, ne_eq, Bool.not_eq_true, Bool.not_eq_false, reduceCtorEq, decide_true, decide_false, decide_eq_true_eq, decide_eq_false_iff_not, Bool.false_eq_true, if_pos, if_neg, kS_q, kS_4, kS_5, kS_6, kS_7, b2, b3, hb, hN4, hN5, hpa, hsa, hm, hle, hnl]
    · simp (disch := omega) only [fLt_e, fBd_s, fJn_s, fNn_s, fNu_0, fNu_s, fBo_0, fBo_1, fBo_b, i_lit, i_neg1, nI_add, pk_mul, nI_clamp, i_le, i_lt, i_eq, fIx_n, nI_mI, mI_nI, mI_lt, nI_lt_m, mI_le, nI_le_m, xI_0, xI_s, bI_0, bI_1, bI_t, bI_f, n_31, j_bit, j_one, i_and, i_or, Nat.not_lt_zero, Nat.succ_ne_zero, Nat.add_one_ne_zero, Nat.add_one_sub_one, Nat.zero_le, Nat.or_zero, Nat.zero_or, Bool.not_true, Bool.not_false, Bool.true_and, Bool.false_and, Bool.and_true, Bool.and_false, ↓reduceIte, if_true, if_false, not_true_eq_false, not_false_eq_true, true_and, and_true, false_and, and_false, and_self, true_or, or_true, false_or, or_false, Nat.reduceEqDiff, Nat.reduceLT, Nat.reduceLeDiff, Nat.reduceAdd, Nat.reduceMul, Nat.reduceSub, Nat.add_zero, Nat.zero_add, Nat.mul_zero, Nat.zero_mul, ne_eq, Bool.not_eq_true, Bool.not_eq_false, reduceCtorEq, decide_true, decide_false, decide_eq_true_eq, decide_eq_false_iff_not, Bool.false_eq_true, if_pos, if_neg, kS_q, kS_4, kS_5, kS_6, kS_7, b2, b3, hb, hN4, hN5, hpa, hsa, hm]
theorem tRl_u {pl : Nat → Nat} {r : Nat} {t : Nat → Int32} (h : tRl G pl r t) (h0 : r < G 0) (hb : ¬ bsd G r = 0) (v : Nat) : tRl G (upn pl r v) (r + 1) (upd t r (xI v)) := by
  refine ⟨fun o ho => ?_, fun o h6 ho => ?_⟩
  · rw [upd_at]
    by_cases e : o = r
    · subst e
      rw [if_pos rfl, upn_at]
    · rw [if_neg e, upn_lt pl (show o < r by omega)]
      exact h.1 o (by omega)
  · rw [upd_at, if_neg]
    · exact h.2 o h6 ho
    · intro e
      subst e
      rcases ho with ho | ho
      · omega
      · exact hb ho
theorem tRl_0 {pl : Nat → Nat} {r : Nat} {t : Nat → Int32} (h : tRl G pl r t) (h0 : r < 6) (hb : bsd G r = 0) : tRl G (upn pl r 0) (r + 1) t := by
  refine ⟨fun o ho => ?_, h.2⟩
  by_cases e : o = r
  · subst e
    rw [upn_at]
    exact h.2 o h0 (Or.inr hb)
  · rw [upn_lt pl (show o < r by omega)]
    exact h.1 o (by omega)
theorem tRl_b {pl : Nat → Nat} {r v : Nat} {t : Nat → Int32} (h : tRl G (upn pl r v) (r + 1) t) : tRl G pl r t := by
  refine ⟨fun o ho => ?_, h.2⟩
  have := h.1 o (by omega)
  rw [upn_lt pl ho] at this
  exact this
theorem msk_up (pl : Nat → Nat) (a r v : Nat) : msk (upn pl r v) a (r + 1) = if v = a + 1 then msk pl a r ||| 2 ^ r else msk pl a r := by
  rw [msk_s, upn_at, msk_cong a r (fun o ho => upn_lt pl ho)]
theorem spn_up (nb pl : Nat → Nat) (a r v : Nat) : spn nb (upn pl r v) a (r + 1) = if v = a + 1 then spn nb pl a r + nb r else spn nb pl a r := by
  rw [spn_s, upn_at, spn_cong nb a r (fun o ho => upn_lt pl ho)]
theorem msk_rm (pl : Nat → Nat) (a r : Nat) : (msk pl a r ||| 2 ^ r) ^^^ ((msk pl a r ||| 2 ^ r) &&& 2 ^ r) = msk pl a r := by
  apply Nat.eq_of_testBit_eq
  intro i
  rw [Nat.testBit_xor, Nat.testBit_and, Nat.testBit_or, Nat.testBit_two_pow]
  by_cases hi : r = i
  · subst hi
    have : (msk pl a r).testBit r = false := Nat.testBit_lt_two_pow (msk_lt pl a r)
    rw [this]
    simp
  · rw [decide_eq_false hi]
    simp
def chP (sc : fSt) (q : Nat) (G nb : Nat → Nat) (n m : Nat) : Prop := ∀ r pay (pl : Nat → Nat) (b : cB) v t bb p s, r ≤ G 0 → G 0 < r + n → G 0 < r + m → pay ≤ r * 166320 → (∀ o, pl o ≤ 6) → bRC G b v bb → tRl G pl r t → aRl G nb pl r p s →
    ∃ v' t' bb' p' s', f_X1_choose n q (nI r) (nI pay) (kS sc v t bb p s) = some ((), kS sc v' t' bb' p' s') ∧ bRC G (sch G nb m r pay pl b) v' bb' ∧ tRl G pl r t' ∧ aRl G nb pl r p' s'
theorem sch_s (n r pay : Nat) (pl : Nat → Nat) (b : cB) : sch G nb (n + 1) r pay pl b = if prn b pay then b else if G 0 ≤ r then some (pay, pl) else if bsd G r = 0 then sch G nb n (r + 1) pay (upn pl r 0) b else
      (List.range (G 1)).foldl (fun b a => if ckc G nb r a pl then sch G nb n (r + 1) (pay + nb r * G (7 + a)) (upn pl r (a + 1)) b else b) b := rfl
theorem upn_6 {pl : Nat → Nat} (h : ∀ o, pl o ≤ 6) (r : Nat) {v : Nat} (hv : v ≤ 6) : ∀ o, upn pl r v o ≤ 6 := by
  intro o
  unfold upn
  split
  · exact hv
  · exact h o
/-- the class passes over the roles that nobody needs -/
theorem x_chSkip (X : rStg sc q G) (w : gWf G) (hN : ∀ o, o < G 0 → gA sc 1 0 4 o = nI (nb o) ∧ gA sc 1 0 5 o = nI (bsd G o)) {pay : Nat} {b : cB} (hpr : prn b pay = false) (v : Int32) (t bb p s : Nat → Int32) : ∀ d r m (pl : Nat → Nat), r + d = G 0 → G 0 < r + m → (∀ o, pl o ≤ 6) → tRl G pl r t → aRl G nb pl r p s →
    ∃ r' m' pl', r ≤ r' ∧ r' ≤ G 0 ∧ G 0 < r' + m' ∧ (r' < G 0 → ¬ bsd G r' = 0) ∧ (∀ o, pl' o ≤ 6) ∧ sch G nb m r pay pl b = sch G nb m' r' pay pl' b ∧ tRl G pl' r' t ∧ aRl G nb pl' r' p s ∧ (∀ t', tRl G pl' r' t' → tRl G pl r t') ∧ (∀ p' s', aRl G nb pl' r' p' s' → aRl G nb pl r p' s') ∧
      ∀ (k6 : Int32 → fSt → Option (Unit × fSt)) N, d < N → f_X1_choose_L20 q k6 N (nI r) (kS sc v t bb p s) = k6 (nI r') (kS sc v t bb p s) := by
  have w1 := w.1
  have h0 : gI sc 7 q 0 = nI (G 0) := X.1.1
  intro d
  induction d with
  | zero =>
    intro r m pl h1 h2 h3 h4 h5
    refine ⟨r, m, pl, Nat.le_refl _, by omega, h2, fun h => absurd h (by omega), h3, rfl, h4, h5, fun _ h => h, fun _ _ h => h, ?_⟩
    intro k6 N hNd
    obtain ⟨M, rfl⟩ : ∃ k, N = k + 1 := ⟨N - 1, by omega⟩
    have hle : G 0 ≤ r := by omega
    rw [f_X1_choose_L20]
    simp (disch := omega) only [fLt_e, fBd_s, fJn_s, fNn_s, fNu_0, fNu_s, fBo_0, fBo_1, fBo_b, i_lit, i_neg1, nI_add, pk_mul, nI_clamp, i_le, i_lt, i_eq, fIx_n, nI_mI, mI_nI, mI_lt, nI_lt_m, mI_le, nI_le_m, xI_0, xI_s, bI_0, bI_1, bI_t, bI_f, n_31, j_bit, j_one, i_and, i_or, Nat.not_lt_zero, Nat.succ_ne_zero, Nat.add_one_ne_zero, Nat.add_one_sub_one, Nat.zero_le, Nat.or_zero, Nat.zero_or, Bool.not_true, Bool.not_false, Bool.true_and, Bool.false_and, Bool.and_true, Bool.and_false, ↓reduceIte, if_true, if_false, not_true_eq_false, not_false_eq_true, true_and, and_true, false_and, and_false, and_self, true_or, or_true, false_or, or_false, Nat.reduceEqDiff, Nat.reduceLT, Nat.reduceLeDiff, Nat.reduceAdd, Nat.reduceMul, Nat.reduceSub, Nat.add_zero, Nat.zero_add, Nat.mul_zero, Nat.zero_mul, ne_eq, Bool.not_eq_true, Bool.not_eq_false, reduceCtorEq, decide_true, decide_false, decide_eq_true_eq, decide_eq_false_iff_not, Bool.false_eq_true, if_pos, if_neg, kS_i, h0, hle]
  | succ d ih =>
    intro r m pl h1 h2 h3 h4 h5
    have hr : r < G 0 := by omega
    have hnl : ¬ G 0 ≤ r := by omega
    have hn6 : ¬ 6 ≤ r := by omega
    have hN5 := (hN r hr).2
    have hbl := bsd_lt w r
    by_cases hbs : bsd G r = 0
    · obtain ⟨m0, rfl⟩ : ∃ k, m = k + 1 := ⟨m - 1, by omega⟩
      obtain ⟨r', m', pl', a1, a2, a3, a4, a5, a6, a7, a8, a9, a10, a11⟩ := ih (r + 1) m0 (upn pl r 0) (by omega) (by omega) (upn_6 h3 r (by omega)) (tRl_0 h4 (by omega) hbs) (by
        intro a ha
        rw [msk_up, spn_up, if_neg (by omega), if_neg (by omega)]
        exact h5 a ha)
      refine ⟨r', m', pl', by omega, a2, a3, a4, a5, ?_, a7, a8, fun t' h => tRl_b (a9 t' h), ?_, ?_⟩
      · rw [sch_s, hpr, if_neg Bool.false_ne_true, if_neg hnl, if_pos hbs]
        exact a6
      · intro p' s' h a ha
        have := a10 p' s' h a ha
        rw [msk_up, spn_up, if_neg (by omega), if_neg (by omega)] at this
        exact this
      · intro k6 N hNd
        obtain ⟨M, rfl⟩ : ∃ k, N = k + 1 := ⟨N - 1, by omega⟩
        have e := a11 k6 M (by omega)
        rw [hbs] at hN5
        rw [f_X1_choose_L20]
        simp (disch := omega) only [fLt_e, fBd_s, fJn_s, fNn_s, fNu_0, fNu_s, fBo_0, fBo_1, fBo_b, i_lit, i_neg1, nI_add, pk_mul, nI_clamp, i_le, i_lt, i_eq, fIx_n, nI_mI, mI_nI, mI_lt, nI_lt_m, mI_le, nI_le_m, xI_0, xI_s, bI_0, bI_1, bI_t, bI_f, n_31, j_bit, j_one, i_and, i_or, Nat.not_lt_zero, Nat.succ_ne_zero, Nat.add_one_ne_zero, Nat.add_one_sub_one, Nat.zero_le, Nat.or_zero, Nat.zero_or, Bool.not_true, Bool.not_false, Bool.true_and, Bool.false_and, Bool.and_true, Bool.and_false, ↓reduceIte, if_true, if_false, not_true_eq_false, not_false_eq_true, true_and, and_true, false_and, and_false, and_self, true_or, or_true, false_or, or_false, Nat.reduceEqDiff, Nat.reduceLT, Nat.reduceLeDiff, Nat.reduceAdd, Nat.reduceMul, Nat.reduceSub, Nat.add_zero, Nat.zero_add, Nat.mul_zero, Nat.zero_mul, ne_eq, Bool.not_eq_true, Bool.not_eq_false, reduceCtorEq, decide_true, decide_false, decide_eq_true_eq, decide_eq_false_iff_not, Bool.false_eq_true, if_pos, if_neg, kS_i, h0, hnl, hn6, kS_5, hN5, e]
    · refine ⟨r, m, pl, Nat.le_refl _, by omega, h2, fun _ => hbs, h3, rfl, h4, h5, fun _ h => h, fun _ _ h => h, ?_⟩
      intro k6 N hNd
      obtain ⟨M, rfl⟩ : ∃ k, N = k + 1 := ⟨N - 1, by omega⟩
      rw [f_X1_choose_L20]
      simp (disch := omega) only [fLt_e, fBd_s, fJn_s, fNn_s, fNu_0, fNu_s, fBo_0, fBo_1, fBo_b, i_lit, i_neg1, nI_add, pk_mul, nI_clamp, i_le, i_lt, i_eq, fIx_n, nI_mI, mI_nI, mI_lt, nI_lt_m, mI_le, nI_le_m, xI_0, xI_s, bI_0, bI_1, bI_t, bI_f, n_31, j_bit, j_one, i_and, i_or, Nat.not_lt_zero, Nat.succ_ne_zero, Nat.add_one_ne_zero, Nat.add_one_sub_one, Nat.zero_le, Nat.or_zero, Nat.zero_or, Bool.not_true, Bool.not_false, Bool.true_and, Bool.false_and, Bool.and_true, Bool.and_false, ↓reduceIte, if_true, if_false, not_true_eq_false, not_false_eq_true, true_and, and_true, false_and, and_false, and_self, true_or, or_true, false_or, or_false, Nat.reduceEqDiff, Nat.reduceLT, Nat.reduceLeDiff, Nat.reduceAdd, Nat.reduceMul, Nat.reduceSub, Nat.add_zero, Nat.zero_add, Nat.mul_zero, Nat.zero_mul, ne_eq, Bool.not_eq_true, Bool.not_eq_false, reduceCtorEq, decide_true, decide_false, decide_eq_true_eq, decide_eq_false_iff_not, Bool.false_eq_true, if_pos, if_neg, kS_i, h0, hnl, hn6, kS_5, hN5, hbs]
/-- the class tries the actors of one role -/
theorem x_tryActors (X : rStg sc q G) (w : gWf G) (hN : ∀ o, o < G 0 → gA sc 1 0 4 o = nI (nb o) ∧ gA sc 1 0 5 o = nI (bsd G o)) (hnb : ∀ o, nb o ≤ 1680) {n m : Nat} (ih : chP sc q G nb n m) {r pay : Nat} {pl : Nat → Nat} {b : cB} {v : Int32} {t bb p s : Nat → Int32} (hr : r < G 0) (hbs : ¬ bsd G r = 0) (hrn : G 0 < r + 1 + n) (hrm : G 0 < r + 1 + m) (hpay : pay ≤ r * 166320) (hpl : ∀ o, pl o ≤ 6) (hb : bRC G b v bb) (ht : tRl G pl r t) (hp : aRl G nb pl r p s) :
    ∃ v' t' bb' p' s', f_X1_tryActors (f_X1_choose n) q (nI r) (nI pay) (kS sc v t bb p s) = some ((), kS sc v' t' bb' p' s') ∧ bRC G ((List.range (G 1)).foldl (fun b a => if ckc G nb r a pl then sch G nb m (r + 1) (pay + nb r * G (7 + a)) (upn pl r (a + 1)) b else b) b) v' bb' ∧ tRl G pl r t' ∧ aRl G nb pl r p' s' := by
  have w1 := w.1
  have hpb : pay < 1073741824 := by
    have : r * 166320 ≤ 6 * 166320 := Nat.mul_le_mul_right _ (by omega)
    omega
  have h0 : gI sc 7 q 0 = nI (G 0) := X.1.1
  have h1 : gI sc 7 q 1 = nI (G 1) := X.1.2.1
  have hN5 := (hN r hr).2
  have hN4 := (hN r hr).1
  have hbl := bsd_lt w r
  generalize hS : (fun (b : cB) a => if ckc G nb r a pl then sch G nb m (r + 1) (pay + nb r * G (7 + a)) (upn pl r (a + 1)) b else b) = S
  have hSd : ∀ b a, S b a = if ckc G nb r a pl then sch G nb m (r + 1) (pay + nb r * G (7 + a)) (upn pl r (a + 1)) b else b := fun b a => by rw [← hS]
  obtain ⟨s0, m1, ⟨v', t', bb', p', s', hs, q1, q2, q3⟩, e2⟩ := lp_ex (fun m (z : Int32 × fSt) => f_X1_tryActors_L3 (f_X1_choose n) q (nI r) (nI pay) m z.1 z.2)
    (fun a z => ∃ v' t' bb' p' s', z = (nI a, kS sc v' t' bb' p' s') ∧ bRC G ((List.range a).foldl S b) v' bb' ∧ tRl G pl r t' ∧ aRl G nb pl r p' s') (G 1) (by
    rintro a z ha ⟨v', t', bb', p', s', rfl, q1, q2, q3⟩
    rw [List.range_succ, List.foldl_append, List.foldl_cons, List.foldl_nil, hSd]
    generalize (List.range a).foldl S b = b1 at q1 ⊢
    have hct := x_mayPlay X w hN hnb hr ha (v := v') (t := t') (b := bb') q3
    have h5 : gA sc 7 q 5 a = nI (G (7 + a)) := (X.2.1 a ha).1
    have g7 := (w.2.2.1 a ha).1
    have hnr := hnb r
    have hmul : nb r * G (7 + a) ≤ 1680 * 99 := Nat.mul_le_mul hnr g7
    cases hk : ckc G nb r a pl with
    | false =>
      rw [hk] at hct
      refine ⟨(nI (a + 1), kS sc v' t' bb' p' s'), ⟨_, _, _, _, _, rfl, q1, q2, q3⟩, ?_⟩
      intro m
      show f_X1_tryActors_L3 (f_X1_choose n) q (nI r) (nI pay) (m + 1) (nI a) (kS sc v' t' bb' p' s') = _
      rw [f_X1_tryActors_L3]
      simp (disch := omega) only [fLt_e, fBd_s, fJn_s, fNn_s, fNu_0, fNu_s, fBo_0, fBo_1, fBo_b, i_lit, i_neg1, nI_add, pk_mul, nI_clamp, i_le, i_lt, i_eq, fIx_n, nI_mI, mI_nI, mI_lt, nI_lt_m, mI_le, nI_le_m, xI_0, xI_s, bI_0, bI_1, bI_t, bI_f, n_31, j_bit, j_one, i_and, i_or, Nat.not_lt_zero, Nat.succ_ne_zero, Nat.add_one_ne_zero, Nat.add_one_sub_one, Nat.zero_le, Nat.or_zero, Nat.zero_or, Bool.not_true, Bool.not_false, Bool.true_and, Bool.false_and, Bool.and_true, Bool.and_false, ↓reduceIte, if_true, if_false, not_true_eq_false, not_false_eq_true, true_and, and_true, false_and, and_false, and_self, true_or, or_true, false_or, or_false, Nat.reduceEqDiff, Nat.reduceLT, Nat.reduceLeDiff, Nat.reduceAdd, Nat.reduceMul, Nat.reduceSub, Nat.add_zero, Nat.zero_add, Nat.mul_zero, Nat.zero_mul, ne_eq, Bool.not_eq_true, Bool.not_eq_false, reduceCtorEq, decide_true, decide_false, decide_eq_true_eq, decide_eq_false_iff_not, Bool.false_eq_true, if_pos, if_neg, kS_i, h1, hct]
    | true =>
      rw [hk] at hct
      obtain ⟨hpa, hsa⟩ := q3 a ha
      obtain ⟨v2, t2, bb2, p2, s2, e, r1, r2, r3⟩ := ih (r + 1) (pay + nb r * G (7 + a)) (upn pl r (a + 1)) b1 v' (upd t' r (nI a)) bb' (upd p' a (nI (msk pl a r ||| 2 ^ r))) (upd s' a (nI (spn nb pl a r + nb r))) (by omega) (by omega) (by omega) (by omega) (upn_6 hpl r (by omega)) q1 (tRl_u q2 hr hbs (a + 1)) (by
        intro a' ha'
        rw [msk_up, spn_up, upd_at, upd_at]
        by_cases haa : a' = a
        · subst haa
          rw [if_pos rfl, if_pos rfl, if_pos rfl, if_pos rfl]
          exact ⟨rfl, rfl⟩
        · rw [if_neg haa, if_neg haa, if_neg (by omega), if_neg (by omega)]
          exact q3 a' ha')
      obtain ⟨hp2, hs2⟩ := r3 a ha
      rw [msk_up, if_pos rfl] at hp2
      rw [spn_up, if_pos rfl] at hs2
      have hm2 := msk_rm pl a r
      have hsb : nI (spn nb pl a r + nb r) - nI (nb r) = nI (spn nb pl a r) := by rw [nI_sub (by omega), Nat.add_sub_cancel]
      refine ⟨(nI (a + 1), kS sc v2 t2 bb2 (upd p2 a (nI (msk pl a r))) (upd s2 a (nI (spn nb pl a r)))), ⟨_, _, _, _, _, rfl, r1, tRl_b r2, ?_⟩, ?_⟩
      · intro a' ha'
        rw [upd_at, upd_at]
        by_cases haa : a' = a
        · subst haa
          rw [if_pos rfl, if_pos rfl]
          exact ⟨rfl, rfl⟩
        · rw [if_neg haa, if_neg haa]
          have := r3 a' ha'
          rw [msk_up, spn_up, if_neg (by omega), if_neg (by omega)] at this
          exact this
      · intro m
        show f_X1_tryActors_L3 (f_X1_choose n) q (nI r) (nI pay) (m + 1) (nI a) (kS sc v' t' bb' p' s') = _
        rw [f_X1_tryActors_L3]
        simp (disch := omega) only [fLt_e, fBd_s, fJn_s, fNn_s, fNu_0, fNu_s, fBo_0, fBo_1, fBo_b, i_lit, i_neg1, nI_add, pk_mul, nI_clamp, i_le, i_lt, i_eq, fIx_n, nI_mI, mI_nI, mI_lt, nI_lt_m, mI_le, nI_le_m, xI_0, xI_s, bI_0, bI_1, bI_t, bI_f, n_31, j_bit, j_one, i_and, i_or, Nat.not_lt_zero, Nat.succ_ne_zero, Nat.add_one_ne_zero, Nat.add_one_sub_one, Nat.zero_le, Nat.or_zero, Nat.zero_or, Bool.not_true, Bool.not_false, Bool.true_and, Bool.false_and, Bool.and_true, Bool.and_false, ↓reduceIte, if_true, if_false, not_true_eq_false, not_false_eq_true, true_and, and_true, false_and, and_false, and_self, true_or, or_true, false_or, or_false, Nat.reduceEqDiff, Nat.reduceLT, Nat.reduceLeDiff, Nat.reduceAdd, Nat.reduceMul, Nat.reduceSub, Nat.add_zero, Nat.zero_add, Nat.mul_zero, Nat.zero_mul, ne_eq, Bool.not_eq_true, Bool.not_eq_false, reduceCtorEq, decide_true, decide_false, decide_eq_true_eq, decide_eq_false_iff_not, Bool.false_eq_true, if_pos, if_neg, kS_i, h1, hct, kS_2, kS_4, kS_6, kS_7, kS_q, kS_s2, kS_s6, kS_s7, hpa, hsa, hN4, h5, e, hp2, hs2, i_andn, hm2, hsb]) (fF_lt (by omega)) (s := (nI 0, kS sc v t bb p s)) ⟨v, t, bb, p, s, rfl, hb, ht, hp⟩
  refine ⟨v', t', bb', p', s', ?_, q1, q2, q3⟩
  rw [hs] at e2
  have e2 : f_X1_tryActors_L3 (f_X1_choose n) q (nI r) (nI pay) fF (nI 0) (kS sc v t bb p s) = f_X1_tryActors_L3 (f_X1_choose n) q (nI r) (nI pay) (m1 + 1) (nI (G 1)) (kS sc v' t' bb' p' s') := e2
  rw [f_X1_tryActors_L3] at e2
  simp (disch := omega) only [fLt_e, fBd_s, fJn_s, fNn_s, fNu_0, fNu_s, fBo_0, fBo_1, fBo_b, i_lit, i_neg1, nI_add, pk_mul, nI_clamp, i_le, i_lt, i_eq, fIx_n, nI_mI, mI_nI, mI_lt, nI_lt_m, mI_le, nI_le_m, xI_0, xI_s, bI_0, bI_1, bI_t, bI_f, n_31, j_bit, j_one, i_and, i_or, Nat.not_lt_zero, Nat.succ_ne_zero, Nat.add_one_ne_zero, Nat.add_one_sub_one, Nat.zero_le, Nat.or_zero, Nat.zero_or, Bool.not_true, Bool.not_false, Bool.true_and, Bool.false_and, Bool.and_true, Bool.and_false, ↓reduceIte, if_true, if_false, not_true_eq_false, not_false_eq_true, true_and, and_true, false_and, and_false, and_self, true_or, or_true, false_or, or_false, Nat.reduceEqDiff, Nat.reduceLT, Nat.reduceLeDiff, Nat.reduceAdd, Nat.reduceMul, Nat.reduceSub, Nat.add_zero, Nat.zero_add, Nat.mul_zero, Nat.zero_mul, ne_eq, Bool.not_eq_true, Bool.not_eq_false, reduceCtorEq, decide_true, decide_false, decide_eq_true_eq, decide_eq_false_iff_not, Bool.false_eq_true, if_pos, if_neg, kS_i, h1] at e2
  exact e2
/-- what choose does behind its loop -/
noncomputable def chG (rec : Nat → Int32 → Int32 → fSt → Option (Unit × fSt)) (i1 : Nat) (a3 : Int32) (x4 : Int32) (s5 : fSt) : Option (Unit × fSt) :=
  fJn (fun (s7 : fSt) =>
    (fLt (sI s7 1 0 7 a3) fun s9 =>
    fCp ((0 : Int32)) ((0 : Int32)) ((6 : Int32)) 6 6 <|
    fLt (sA s9 1 0 3 (va_cpy (gA s9 1 0 2) (gA s9 1 0 3) ((0 : Int32)).toNatClampNeg ((0 : Int32)).toNatClampNeg ((6 : Int32)).toNatClampNeg)) fun s10 =>
    some ((), s10))) fun (j8 : fSt → Option (Unit × fSt)) =>
  if (gI s5 7 i1 0) ≤ x4 then
    (j8 s5)
  else
    (if x4 < ((6 : Int32)) then
      (fBd (f_X1_tryActors rec i1 x4 a3 s5) fun _ s11 =>
      some ((), s11))
    else
      (j8 s5))
theorem chB (rec : Nat → Int32 → Int32 → fSt → Option (Unit × fSt)) (i1 : Nat) (a2 a3 : Int32) (st : fSt) : f_X1_choose_b rec i1 a2 a3 st = if gI st 1 0 7 = mI then f_X1_choose_L20 i1 (chG rec i1 a3) fF a2 st else if a3 < gI st 1 0 7 then f_X1_choose_L20 i1 (chG rec i1 a3) fF a2 st else some ((), st) := rfl
theorem x_chooses (X : rStg sc q G) (w : gWf G) (hN : ∀ o, o < G 0 → gA sc 1 0 4 o = nI (nb o) ∧ gA sc 1 0 5 o = nI (bsd G o)) (hnb : ∀ o, nb o ≤ 1680) : ∀ n m, chP sc q G nb n m := by
  intro n
  induction n with
  | zero => intro m r pay pl b v t bb p s h1 h2; omega
  | succ n ih =>
    intro m r pay pl b v t bb p s hr hrn hrm hpay hpl hb ht hp
    have w1 := w.1
    have hpb : pay < 1073741824 := by
      have : r * 166320 ≤ 6 * 166320 := Nat.mul_le_mul_right _ (by omega)
      omega
    have h0 : gI sc 7 q 0 = nI (G 0) := X.1.1
    show ∃ v' t' bb' p' s', f_X1_choose_b (f_X1_choose n) q (nI r) (nI pay) (kS sc v t bb p s) = some ((), kS sc v' t' bb' p' s') ∧ bRC G (sch G nb m r pay pl b) v' bb' ∧ tRl G pl r t' ∧ aRl G nb pl r p' s'
    have hgo : prn b pay = false → ∃ v' t' bb' p' s', f_X1_choose_L20 q (chG (f_X1_choose n) q (nI pay)) fF (nI r) (kS sc v t bb p s) = some ((), kS sc v' t' bb' p' s') ∧ bRC G (sch G nb m r pay pl b) v' bb' ∧ tRl G pl r t' ∧ aRl G nb pl r p' s' := by
      intro hpr
      obtain ⟨r', m', pl', a1, a2, a3, a4, a5, a6, a7, a8, a9, a10, a11⟩ := x_chSkip X w hN hpr v t bb p s (G 0 - r) r m pl (by omega) hrm hpl ht hp
      have e1 := a11 (chG (f_X1_choose n) q (nI pay)) fF (fF_lt (by omega))
      obtain ⟨m2, rfl⟩ : ∃ k, m' = k + 1 := ⟨m' - 1, by omega⟩
      rw [e1, a6, sch_s, hpr, if_neg Bool.false_ne_true]
      by_cases hr0 : G 0 ≤ r'
      · have hr0' : r' = G 0 := by omega
        rw [if_pos hr0]
        refine ⟨nI pay, t, va_cpy t bb 0 0 6, p, s, ?_, ⟨rfl, hpb, a5, ?_⟩, ht, hp⟩
        · have c0 : (0 : Int32).toNatClampNeg = 0 := rfl
          have c6 : (6 : Int32).toNatClampNeg = 6 := rfl
          have hcp : ∀ K : Option (Unit × fSt), fCp 0 0 6 6 6 K = K := fun K => fCp_n (sp := 0) (dp := 0) (n := 6) (by omega) (by omega) (by omega) (by omega)
          have hle : nI (G 0) ≤ nI r' := by rw [i_le _ _ (by omega) (by omega)]; omega
          unfold chG
          simp only [fJn_s, fLt_e, kS_i, h0, c0, c6, hcp]
          rw [if_pos hle, kS_sv, kS_2, kS_3, kS_s3]
        · intro k hk
          unfold va_cpy
          rw [if_pos (by omega), Nat.zero_add, Nat.sub_zero]
          by_cases hkr : k < r'
          · rw [if_pos (show k < G 0 by omega)]
            exact a7.1 k hkr
          · rw [if_neg (show ¬ k < G 0 by omega)]
            exact a7.2 k hk (Or.inl (by omega))
      · rw [if_neg hr0]
        have hbs := a4 (by omega)
        rw [if_neg hbs]
        have hr6 : r' < 6 := by omega
        obtain ⟨v', t', bb', p', s', e, q1, q2, q3⟩ := x_tryActors X w hN hnb (ih m2) (show r' < G 0 by omega) hbs (show G 0 < r' + 1 + n by omega) (show G 0 < r' + 1 + m2 by omega) (Nat.le_trans hpay (Nat.mul_le_mul_right _ a1)) a5 hb a7 a8
        refine ⟨v', t', bb', p', s', ?_, q1, a9 t' q2, a10 p' s' q3⟩
        unfold chG
        simp (disch := omega) only [fLt_e, fBd_s, fJn_s, fNn_s, fNu_0, fNu_s, fBo_0, fBo_1, fBo_b, i_lit, i_neg1, nI_add, pk_mul, nI_clamp, i_le, i_lt, i_eq, fIx_n, nI_mI, mI_nI, mI_lt, nI_lt_m, mI_le, nI_le_m, xI_0, xI_s, bI_0, bI_1, bI_t, bI_f, n_31, j_bit, j_one, i_and, i_or, Nat.not_lt_zero, Nat.succ_ne_zero, Nat.add_one_ne_zero, Nat.add_one_sub_one, Nat.zero_le, Nat.or_zero, Nat.zero_or, Bool.not_true, Bool.not_false, Bool.true_and, Bool.false_and, Bool.and_true, Bool.and_false, ↓reduceIte, if_true, if_false, not_true_eq_false, not_false_eq_true, true_and, and_true, false_and, and_false, and_self, true_or, or_true, false_or, or_false, Nat.reduceEqDiff, Nat.reduceLT, Nat.reduceLeDiff, Nat.reduceAdd, Nat.reduceMul, Nat.reduceSub, Nat.add_zero, Nat.zero_add, Nat.mul_zero, Nat.zero_mul, ne_eq, Bool.not_eq_true, Bool.not_eq_false, reduceCtorEq, decide_true, decide_false, decide_eq_true_eq, decide_eq_false_iff_not, Bool.false_eq_true, if_pos, if_neg, kS_i, h0, hr0, hr6, e]
    rw [chB]
    cases b with
    | none =>
      obtain ⟨v1, t1, bb1, p1, s1, e1, r1, r2, r3⟩ := hgo rfl
      have hv : v = mI := hb
      exact ⟨v1, t1, bb1, p1, s1, Eq.trans (if_pos hv) e1, r1, r2, r3⟩
    | some d =>
      obtain ⟨hv, hd, hb3, hb4⟩ := hb
      have hn0 : ¬ v = mI := by
        rw [hv, nI_mI (by omega)]
        exact fun h => h
      by_cases hle : d.1 ≤ pay
      · have hpr : prn (some d) pay = true := decide_eq_true hle
        obtain ⟨m2, rfl⟩ : ∃ k, m = k + 1 := ⟨m - 1, by omega⟩
        rw [sch_s, hpr, if_pos rfl]
        refine ⟨v, t, bb, p, s, Eq.trans (if_neg hn0) (if_neg ?_), ⟨hv, hd, hb3, hb4⟩, ht, hp⟩
        show ¬ nI pay < v
        rw [hv, i_lt _ _ (by omega) (by omega)]
        omega
      · obtain ⟨v1, t1, bb1, p1, s1, e1, r1, r2, r3⟩ := hgo (decide_eq_false hle)
        refine ⟨v1, t1, bb1, p1, s1, Eq.trans (if_neg hn0) (Eq.trans (if_pos ?_) e1), r1, r2, r3⟩
        show nI pay < v
        rw [hv, i_lt _ _ (by omega) (by omega)]
        omega
theorem x_choose (X : rStg sc q G) (w : gWf G) (hN : ∀ o, o < G 0 → gA sc 1 0 4 o = nI (nb o) ∧ gA sc 1 0 5 o = nI (bsd G o)) (hnb : ∀ o, nb o ≤ 1680) (n r pay : Nat) (pl : Nat → Nat) (b : cB) (v : Int32) (t bb p s : Nat → Int32) (h1 : r ≤ G 0) (h2 : G 0 < r + n) (h3 : pay ≤ r * 166320) (h4 : ∀ o, pl o ≤ 6) (h5 : bRC G b v bb) (h6 : tRl G pl r t) (h7 : aRl G nb pl r p s) :
    ∃ v' t' bb' p' s', f_X1_choose n q (nI r) (nI pay) (kS sc v t bb p s) = some ((), kS sc v' t' bb' p' s') ∧ bRC G (sch G nb n r pay pl b) v' bb' ∧ tRl G pl r t' ∧ aRl G nb pl r p' s' := x_chooses X w hN hnb n n r pay pl b v t bb p s h1 h2 h2 h3 h4 h5 h6 h7
end
