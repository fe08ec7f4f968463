/-! layer 2: the reference's casts -/
def kM (st : fSt) (v : Int32) (p c : Nat → Int32) : fSt := sI (sA (sA st 12 0 18 p) 12 0 19 c) 12 0 53 v
theorem kM_v (st : fSt) (v : Int32) (p c : Nat → Int32) : gI (kM st v p c) 12 0 53 = v := rfl
theorem kM_p (st : fSt) (v : Int32) (p c : Nat → Int32) : gA (kM st v p c) 12 0 18 = p := rfl
theorem kM_c (st : fSt) (v : Int32) (p c : Nat → Int32) : gA (kM st v p c) 12 0 19 = c := rfl
theorem kM_21 (st : fSt) (v : Int32) (p c : Nat → Int32) : gA (kM st v p c) 12 0 21 = gA st 12 0 21 := rfl
theorem kM_5 (st : fSt) (v : Int32) (p c : Nat → Int32) : gA (kM st v p c) 12 0 5 = gA st 12 0 5 := rfl
theorem kM_sv (st : fSt) (v w : Int32) (p c : Nat → Int32) : sI (kM st v p c) 12 0 53 w = kM st w p c := by
  unfold kM
  rw [sI_sI]
theorem kM_sp (st : fSt) (v : Int32) (p c b : Nat → Int32) : sA (kM st v p c) 12 0 18 b = kM st v b c := by
  apply st_ext
  · intro c i k; rfl
  · intro c i k; rfl
  · intro c i k
    simp only [kM, gA_sA, gA_sI]
    by_cases h : c = 12 ∧ i = 0
    · obtain ⟨rfl, rfl⟩ := h
      by_cases h1 : k = 18
      · subst h1; simp
      · simp [h1]
    · simp only [← and_assoc, h, false_and, if_false]
  · intro c i k; rfl
  · intro c i k; rfl
theorem kM_sc (st : fSt) (v : Int32) (p c b : Nat → Int32) : sA (kM st v p c) 12 0 19 b = kM st v p b := by
  apply st_ext
  · intro c i k; rfl
  · intro c i k; rfl
  · intro c i k
    simp only [kM, gA_sA, gA_sI]
    by_cases h : c = 12 ∧ i = 0
    · obtain ⟨rfl, rfl⟩ := h
      by_cases h1 : k = 19
      · subst h1; simp
      · simp [h1]
    · simp only [← and_assoc, h, false_and, if_false]
  · intro c i k; rfl
  · intro c i k; rfl
section
variable {sm : fSt} {G nb : Nat → Nat}
def pRl (pl : Nat → Nat) (r : Nat) (p : Nat → Int32) : Prop := ∀ o, o < r → p o = xI (pl o)
theorem pRl_u {pl : Nat → Nat} {r : Nat} {p : Nat → Int32} (h : pRl pl r p) (v : Nat) : pRl (upn pl r v) (r + 1) (upd p r (xI v)) := by
  intro o ho
  rw [upd_at]
  by_cases e : o = r
  · subst e
    rw [if_pos rfl, upn_at]
  · rw [if_neg e, upn_lt pl (show o < r by omega)]
    exact h o (by omega)
theorem pRl_k {pl : Nat → Nat} {r : Nat} {p : Nat → Int32} (h : pRl pl r p) (v : Int32) : pRl pl r (upd p r v) := by
  intro o ho
  rw [upd_at, if_neg (by omega)]
  exact h o ho
theorem pRl_b {pl : Nat → Nat} {r v : Nat} {p : Nat → Int32} (h : pRl (upn pl r v) (r + 1) p) : pRl pl r p := by
  intro o ho
  have := h o (by omega)
  rw [upn_lt pl ho] at this
  exact this
theorem m_canTake (B : rBlk (gA sm 12 0 5) G) (w : gWf G) (hN : ∀ o, o < G 0 → gA sm 12 0 21 o = nI (nb o)) (hnb : ∀ o, nb o ≤ 1680) {pl : Nat → Nat} (hpl : ∀ o, pl o ≤ 6) {r a : Nat} (hr : r < G 0) (ha : a < G 1) {v : Int32} {p c : Nat → Int32} (hp : pRl pl r p) : f_X12_canTake (nI a) (nI r) (kM sm v p c) = some (bI (ckc G nb r a pl), kM sm v p c) := by
  have w1 := w.1
  obtain ⟨g1, g2, g3⟩ := w.2.2.1 a ha
  obtain ⟨b1, b2, b3⟩ := B.2.1 a ha
  have BK : rBlk (gA (kM sm v p c) 12 0 5) G := B
  have key : ∀ k7 d o F, o + d = r → d < F → (∀ o', o' < o → pl o' = a + 1 → tog G o' r = false) → f_X12_canTake_L28 (nI a) (nI r) k7 F (nI (nb r + spn nb pl a o)) (nI o) (kM sm v p c) = if decide (msk pl a r &&& bsd G r = 0) then k7 (nI (nb r + spn nb pl a r)) (kM sm v p c) else some (nI 0, kM sm v p c) := by
    intro k7 d
    induction d with
    | zero =>
      intro o F ho hF hc
      obtain ⟨F, rfl⟩ : ∃ k, F = k + 1 := ⟨F - 1, by omega⟩
      have ho : o = r := by omega
      subst ho
      rw [decide_eq_true ((msk_bsd G pl a o).mpr hc), f_X12_canTake_L28]
      simp (disch := omega) only [fLt_e, fBd_s, fJn_s, fNn_s, fNu_0, fNu_s, fBo_0, fBo_1, fBo_b, i_lit, i_neg1, nI_add, pk_mul, nI_clamp, i_le, i_lt, i_eq, fIx_n, nI_mI, mI_nI, mI_lt, nI_lt_m, mI_le, nI_le_m, xI_0, xI_s, bI_0, bI_1, bI_t, bI_f, n_31, j_bit, j_one, i_and, i_or, Nat.not_lt_zero, Nat.succ_ne_zero, Nat.add_one_ne_zero, Nat.add_one_sub_one, Nat.zero_le, Nat.or_zero, Nat.zero_or, Bool.not_true, Bool.not_false, Bool.true_and, Bool.false_and, Bool.and_true, Bool.and_false, ↓reduceIte, if_true, if_false, not_true_eq_false, not_false_eq_true, true_and, and_true, false_and, and_false, and_self, true_or, or_true, false_or, or_false, Nat.reduceEqDiff, Nat.reduceLT, Nat.reduceLeDiff, Nat.reduceAdd, Nat.reduceMul, Nat.reduceSub, Nat.add_zero, Nat.zero_add, Nat.mul_zero, Nat.zero_mul, ne_eq, Bool.not_eq_true, Bool.not_eq_false, reduceCtorEq, decide_true, decide_false, decide_eq_true_eq, decide_eq_false_iff_not, Bool.false_eq_true, if_pos, if_neg]
    | succ d ih =>
      intro o F ho hF hc
      obtain ⟨F, rfl⟩ : ∃ k, F = k + 1 := ⟨F - 1, by omega⟩
      have hor : o < r := by omega
      have hpo := hp o hor
      have hlo := hpl o
      have hta := m_areTogether (o := o) (r := r) BK w (by omega) (by omega)
      have hsl := spn_le nb pl a hnb o
      have hso := hnb o
      have hsr := hnb r
      have hNo := hN o (by omega)
      rw [f_X12_canTake_L28]
      by_cases he : pl o = a + 1
      · have hx : xI (pl o) = nI a := by rw [he]; rfl
        cases ht : tog G o r with
        | true =>
          rw [ht] at hta
          rw [decide_eq_false (fun h => by
            have := (msk_bsd G pl a r).mp h o hor he
            rw [ht] at this
            exact absurd this (by decide))]
          simp (disch := omega) only [fLt_e, fBd_s, fJn_s, fNn_s, fNu_0, fNu_s, fBo_0, fBo_1, fBo_b, i_lit, i_neg1, nI_add, pk_mul, nI_clamp, i_le, i_lt, i_eq, fIx_n, nI_mI, mI_nI, mI_lt, nI_lt_m, mI_le, nI_le_m, xI_0, xI_s, bI_0, bI_1, bI_t, bI_f, n_31, j_bit, j_one, i_and, i_or, Nat.not_lt_zero, Nat.succ_ne_zero, Nat.add_one_ne_zero, Nat.add_one_sub_one, Nat.zero_le, Nat.or_zero, Nat.zero_or, Bool.not_true, Bool.not_false, Bool.true_and, Bool.false_and, Bool.and_true, Bool.and_false, ↓reduceIte, if_true, if_false, not_true_eq_false, not_false_eq_true, true_and, and_true, false_and, and_false, and_self, true_or, or_true, false_or, or_false, Nat.reduceEqDiff, Nat.reduceLT, Nat.reduceLeDiff, Nat.reduceAdd, Nat.reduceMul, Nat.reduceSub, Nat.add_zero, Nat.zero_add, Nat.mul_zero, Nat.zero_mul, ne_eq, Bool.not_eq_true, Bool.not_eq_false, reduceCtorEq, decide_true, decide_false, decide_eq_true_eq, decide_eq_false_iff_not, Bool.false_eq_true, if_pos, if_neg, kM_p, hpo, hx, hta]
        | false =>
          rw [ht] at hta
          have ih := ih (o + 1) F (by omega) (by omega) (fun o' h1 h2 => by
            by_cases h3 : o' = o
            · subst h3; exact ht
            · exact hc o' (by omega) h2)
          rw [spn_s, if_pos he, ← Nat.add_assoc] at ih
          rw [← ih]
          simp (disch := omega) only [fLt_e, fBd_s, fJn_s, fNn_s, fNu_0, fNu_s, fBo_0, fBo_1, fBo_b, i_lit, i_neg1, nI_add, pk_mul, nI_clamp, i_le, i_lt, i_eq, fIx_n, nI_mI, mI_nI, mI_lt, nI_lt_m, mI_le, nI_le_m, xI_0, xI_s, bI_0, bI_1, bI_t, bI_f, n_31, j_bit, j_one, i_and, i_or, Nat.not_lt_zero, Nat.succ_ne_zero, Nat.add_one_ne_zero, Nat.add_one_sub_one, Nat.zero_le, Nat.or_zero, Nat.zero_or, Bool.not_true, Bool.not_false, Bool.true_and, Bool.false_and, Bool.and_true, Bool.and_false, ↓reduceIte, if_true, if_false, not_true_eq_false, not_false_eq_true, true_and, and_true, false_and, and_false, and_self, true_or, or_true, false_or, or_false, Nat.reduceEqDiff, Nat.reduceLT, Nat.reduceLeDiff, Nat.reduceAdd, Nat.reduceMul, Nat.reduceSub, Nat.add_zero, Nat.zero_add, Nat.mul_zero, Nat.zero_mul, ne_eq, Bool.not_eq_true, Bool.not_eq_false, reduceCtorEq, decide_true, decide_false, decide_eq_true_eq, decide_eq_false_iff_not, Bool.false_eq_true, if_pos, if_neg, kM_p, kM_21, hpo, hx, hta, hNo]
      · have hx : ¬ xI (pl o) = nI a := by
          intro h
          have h : xI (pl o) = xI (a + 1) := h
          rw [xI_eq (by omega) (by omega)] at h
          exact he h
        have ih := ih (o + 1) F (by omega) (by omega) (fun o' h1 h2 => by
          by_cases h3 : o' = o
          · subst h3; exact absurd h2 he
          · exact hc o' (by omega) h2)
        rw [spn_s, if_neg he] at ih
        rw [← ih]
        simp (disch := omega) only [fLt_e, fBd_s, fJn_s, fNn_s, fNu_0, fNu_s, fBo_0, fBo_1, fBo_b, i_lit, i_neg1, nI_add, pk_mul, nI_clamp, i_le, i_lt, i_eq, fIx_n, nI_mI, mI_nI, mI_lt, nI_lt_m, mI_le, nI_le_m, xI_0, xI_s, bI_0, bI_1, bI_t, bI_f, n_31, j_bit, j_one, i_and, i_or, Nat.not_lt_zero, Nat.succ_ne_zero, Nat.add_one_ne_zero, Nat.add_one_sub_one, Nat.zero_le, Nat.or_zero, Nat.zero_or, Bool.not_true, Bool.not_false, Bool.true_and, Bool.false_and, Bool.and_true, Bool.and_false, ↓reduceIte, if_true, if_false, not_true_eq_false, not_false_eq_true, true_and, and_true, false_and, and_false, and_self, true_or, or_true, false_or, or_false, Nat.reduceEqDiff, Nat.reduceLT, Nat.reduceLeDiff, Nat.reduceAdd, Nat.reduceMul, Nat.reduceSub, Nat.add_zero, Nat.zero_add, Nat.mul_zero, Nat.zero_mul, ne_eq, Bool.not_eq_true, Bool.not_eq_false, reduceCtorEq, decide_true, decide_false, decide_eq_true_eq, decide_eq_false_iff_not, Bool.false_eq_true, if_pos, if_neg, kM_p, hpo, hx]
  have key := fun k7 => key k7 r 0 fF (by omega) (fF_lt (by omega)) (fun o' h => absurd h (Nat.not_lt_zero o'))
  have hs0 : nb r + spn nb pl a 0 = nb r := rfl
  rw [hs0] at key
  have hNr := hN r hr
  have hsl := spn_le nb pl a hnb r
  have hsl2 : r * 1680 ≤ 6 * 1680 := Nat.mul_le_mul_right _ (by omega)
  have hsr := hnb r
  have h19 : gA (kM sm v p c) 12 0 5 (19 + a) = nI (G (19 + a)) := b3
  have h13 : gA (kM sm v p c) 12 0 5 (13 + a) = nI (G (13 + a)) := b2
  unfold f_X12_canTake ckc
  cases hb : (G (19 + a)).testBit r with
  | true => simp (disch := omega) only [fLt_e, fBd_s, fJn_s, fNn_s, fNu_0, fNu_s, fBo_0, fBo_1, fBo_b, i_lit, i_neg1, nI_add, pk_mul, nI_clamp, i_le, i_lt, i_eq, fIx_n, nI_mI, mI_nI, mI_lt, nI_lt_m, mI_le, nI_le_m, xI_0, xI_s, bI_0, bI_1, bI_t, bI_f, n_31, j_bit, j_one, i_and, i_or, Nat.not_lt_zero, Nat.succ_ne_zero, Nat.add_one_ne_zero, Nat.add_one_sub_one, Nat.zero_le, Nat.or_zero, Nat.zero_or, Bool.not_true, Bool.not_false, Bool.true_and, Bool.false_and, Bool.and_true, Bool.and_false, ↓reduceIte, if_true, if_false, not_true_eq_false, not_false_eq_true, true_and, and_true, false_and, and_false, and_self, true_or, or_true, false_or, or_false, Nat.reduceEqDiff, Nat.reduceLT, Nat.reduceLeDiff, Nat.reduceAdd, Nat.reduceMul, Nat.reduceSub, Nat.add_zero, Nat.zero_add, Nat.mul_zero, Nat.zero_mul, ne_eq, Bool.not_eq_true, Bool.not_eq_false, reduceCtorEq, decide_true, decide_false, decide_eq_true_eq, decide_eq_false_iff_not, Bool.false_eq_true, if_pos, if_neg, h19, m_has, hb]
  | false =>
    by_cases hm : msk pl a r &&& bsd G r = 0
    · rw [decide_eq_true hm] at key ⊢
      by_cases hle : spn nb pl a r + nb r ≤ G (13 + a)
      · have hnl : ¬ G (13 + a) < nb r + spn nb pl a r := by omega
        simp (disch := omega) only [fLt_e, fBd_s, fJn_s, fNn_s, fNu_0, fNu_s, fBo_0, fBo_1, fBo_b, i_lit, i_neg1, nI_add, pk_mul, nI_clamp, i_le, i_lt, i_eq, fIx_n, nI_mI, mI_nI, mI_lt, nI_lt_m, mI_le, nI_le_m, xI_0, xI_s, bI_0, bI_1, bI_t, bI_f, n_31, j_bit, j_one, i_and, i_or, Nat.not_lt_zero, Nat.succ_ne_zero, Nat.add_one_ne_zero, Nat.add_one_sub_one, Nat.zero_le, Nat.or_zero, Nat.zero_or, Bool.not_true, Bool.not_false, Bool.true_and, Bool.false_and, Bool.and_true, Bool.and_false, ↓reduceIte, if_true, if_false, not_true_eq_false, not_false_eq_true, true_and, and_true, false_and, and_false, and_self, true_or, or_true, false_or, or_false, Nat.reduceEqDiff, Nat.reduceLT, Nat.reduceLeDiff, Nat.reduceAdd, Nat.reduceMul, Nat.reduceSub, Nat.add_zero, Nat.zero_add, Nat.mul_zero, Nat.zero_mul, ne_eq, Bool.not_eq_true, Bool.not_eq_false, reduceCtorEq, decide_true, decide_false, decide_eq_true_eq, decide_eq_false_iff_not, Bool.false_eq_true, if_pos, if_neg, h19, h13, m_has, hb, kM_21, hNr, key, hle, hnl]
      · have hnl : G (13 + a) < nb r + spn nb pl a r := by omega
        simp (disch := omega) only [fLt_e, fBd_s, fJn_s, fNn_s, fNu_0, fNu_s, fBo_0, fBo_1, fBo_b, i_lit, i_neg1, nI_add, pk_mul, nI_clamp, i_le, i_lt, i_eq, fIx_n, nI_mI, mI_nI, mI_lt, nI_lt_m, mI_le, nI_le_m, xI_0, xI_s, bI_0, bI_1, bI_t, bI_f, n_31, j_bit, j_one, i_and, i_or, Nat.not_lt_zero, Nat.succ_ne_zero, Nat.add_one_ne_zero, Nat.add_one_sub_one, Nat.zero_le, Nat.or_zero, Nat.zero_or, Bool.not_true, Bool.not_false, Bool.true_and, Bool.false_and, Bool.and_true, Bool.and_false, ↓reduceIte, if_true, if_false, not_true_eq_false, not_false_eq_true, true_and, and_true, false_and, and_false, and_self, true_or, or_true, false_or, or_false, Nat.reduceEqDiff, Nat.reduceLT, Nat.reduceLeDiff, Nat.reduceAdd, Nat.reduceMul, Nat.reduceSub, Nat.add_zero, Nat.zero_add, Nat.mul_zero, Nat.zero_mul, ne_eq, Bool.not_eq_true, Bool.not_eq_false, reduceCtorEq, decide_true, decide_false, decide_eq_true_eq, decide_eq_false_iff_not, Bool.false_eq_true, if_pos, if_neg, h19, h13, m_has, hb, kM_21, hNr, key, hle, hnl]
    · rw [decide_eq_false hm] at key ⊢
      simp (disch := omega) only [fLt_e, fBd_s, fJn_s, fNn_s, fNu_0, fNu_s, fBo_0, fBo_1, fBo_b, i_lit, i_neg1, nI_add, pk_mul, nI_clamp, i_le, i_lt, i_eq, fIx_n, nI_mI, mI_nI, mI_lt, nI_lt_m, mI_le, nI_le_m, xI_0, xI_s, bI_0, bI_1, bI_t, bI_f, n_31, j_bit, j_one, i_and, i_or, Nat.not_lt_zero, Nat.succ_ne_zero, Nat.add_one_ne_zero, Nat.add_one_sub_one, Nat.zero_le, Nat.or_zero, Nat.zero_or, Bool.not_true, Bool.not_false, Bool.true_and, Bool.false_and, Bool.and_true, Bool.and_false, ↓reduceIte, if_true, if_false, not_true_eq_false, not_false_eq_true, true_and, and_true, false_and, and_false, and_self, true_or, or_true, false_or, or_false, Nat.reduceEqDiff, Nat.reduceLT, Nat.reduceLeDiff, Nat.reduceAdd, Nat.reduceMul, Nat.reduceSub, Nat.add_zero, Nat.zero_add, Nat.mul_zero, Nat.zero_mul, ne_eq, Bool.not_eq_true, Bool.not_eq_false, reduceCtorEq, decide_true, decide_false, decide_eq_true_eq, decide_eq_false_iff_not, Bool.false_eq_true, if_pos, if_neg, h19, m_has, hb, kM_21, hNr, key]
theorem m_casL33 {v : Int32} {p c : Nat → Int32} {r : Nat} (hr : r ≤ 6) : f_X12_casts_L33 (nI r) fF (nI 0) (kM sm v p c) = some ((), kM sm v p (fun k => if k < 6 then (if k < r then p k else mI) else c k)) := by
  obtain ⟨m, e⟩ := lp_run (fun m (z : Int32 × fSt) => f_X12_casts_L33 (nI r) m z.1 z.2) (fun i => (nI i, kM sm v p (fun k => if k < i then (if k < r then p k else mI) else c k))) 6 (fun m i hi => by
    show f_X12_casts_L33 (nI r) (m + 1) (nI i) (kM sm v p (fun k => if k < i then (if k < r then p k else mI) else c k)) = f_X12_casts_L33 (nI r) m (nI (i + 1)) (kM sm v p (fun k => if k < i + 1 then (if k < r then p k else mI) else c k))
    have hup : ∀ y, (if i < r then p i else mI) = y → upd (fun k => if k < i then (if k < r then p k else mI) else c k) i y = fun k => if k < i + 1 then (if k < r then p k else mI) else c k := by
      intro y hy
      funext k
      rw [upd_at]
      by_cases h : k = i
      · have h3 : k < i + 1 := by omega
        rw [if_pos h, if_pos h3, h, hy]
      · rw [if_neg h]
        by_cases h2 : k < i
        · have h3 : k < i + 1 := by omega
          rw [if_pos h2, if_pos h3]
        · have h3 : ¬ k < i + 1 := by omega
          rw [if_neg h2, if_neg h3]
    rw [f_X12_casts_L33]
    by_cases hir : i < r
    · rw [← hup (p i) (if_pos hir)]
      simp (disch := omega) only [fLt_e, fBd_s, fJn_s, fNn_s, fNu_0, fNu_s, fBo_0, fBo_1, fBo_b, i_lit, i_neg1, nI_add, pk_mul, nI_clamp, i_le, i_lt, i_eq, fIx_n, nI_mI, mI_nI, mI_lt, nI_lt_m, mI_le, nI_le_m, xI_0, xI_s, bI_0, bI_1, bI_t, bI_f, n_31, j_bit, j_one, i_and, i_or, Nat.not_lt_zero, Nat.succ_ne_zero, Nat.add_one_ne_zero, Nat.add_one_sub_one, Nat.zero_le, Nat.or_zero, Nat.zero_or, Bool.not_true, Bool.not_false, Bool.true_and, Bool.false_and, Bool.and_true, Bool.and_false, ↓reduceIte, if_true, if_false, not_true_eq_false, not_false_eq_true, true_and, and_true, false_and, and_false, and_self, true_or, or_true, false_or, or_false, Nat.reduceEqDiff, Nat.reduceLT, Nat.reduceLeDiff, Nat.reduceAdd, Nat.reduceMul, Nat.reduceSub, Nat.add_zero, Nat.zero_add, Nat.mul_zero, Nat.zero_mul, ne_eq, Bool.not_eq_true, Bool.not_eq_false, reduceCtorEq, decide_true, decide_false, decide_eq_true_eq, decide_eq_false_iff_not, Bool.false_eq_true, if_pos, if_neg, kM_p, kM_c, kM_sc, hir]
    · rw [← hup mI (if_neg hir)]
      simp (disch := omega) only [fLt_e, fBd_s, fJn_s, fNn_s, fNu_0, fNu_s, fBo_0, fBo_1, fBo_b, i_lit, i_neg1, nI_add, pk_mul, nI_clamp, i_le, i_lt, i_eq, fIx_n, nI_mI, mI_nI, mI_lt, nI_lt_m, mI_le, nI_le_m, xI_0, xI_s, bI_0, bI_1, bI_t, bI_f, n_31, j_bit, j_one, i_and, i_or, Nat.not_lt_zero, Nat.succ_ne_zero, Nat.add_one_ne_zero, Nat.add_one_sub_one, Nat.zero_le, Nat.or_zero, Nat.zero_or, Bool.not_true, Bool.not_false, Bool.true_and, Bool.false_and, Bool.and_true, Bool.and_false, ↓reduceIte, if_true, if_false, not_true_eq_false, not_false_eq_true, true_and, and_true, false_and, and_false, and_self, true_or, or_true, false_or, or_false, Nat.reduceEqDiff, Nat.reduceLT, Nat.reduceLeDiff, Nat.reduceAdd, Nat.reduceMul, Nat.reduceSub, Nat.add_zero, Nat.zero_add, Nat.mul_zero, Nat.zero_mul, ne_eq, Bool.not_eq_true, Bool.not_eq_false, reduceCtorEq, decide_true, decide_false, decide_eq_true_eq, decide_eq_false_iff_not, Bool.false_eq_true, if_pos, if_neg, kM_p, kM_c, kM_sc, hir]) (fF_lt (by omega))
  refine Eq.trans ?_ (Eq.trans e ?_)
  · have : (fun k => if k < 0 then (if k < r then p k else mI) else c k) = c := by
      funext k
      rw [if_neg (Nat.not_lt_zero k)]
    show f_X12_casts_L33 (nI r) fF (nI 0) (kM sm v p c) = f_X12_casts_L33 (nI r) fF (nI 0) (kM sm v p (fun k => if k < 0 then (if k < r then p k else mI) else c k))
    rw [this]
  · show f_X12_casts_L33 (nI r) (m + 1) (nI 6) (kM sm v p (fun k => if k < 6 then (if k < r then p k else mI) else c k)) = _
    rw [f_X12_casts_L33]
    simp (disch := omega) only [fLt_e, fBd_s, fJn_s, fNn_s, fNu_0, fNu_s, fBo_0, fBo_1, fBo_b, i_lit, i_neg1, nI_add, pk_mul, nI_clamp, i_le, i_lt, i_eq, fIx_n, nI_mI, mI_nI, mI_lt, nI_lt_m, mI_le, nI_le_m, xI_0, xI_s, bI_0, bI_1, bI_t, bI_f, n_31, j_bit, j_one, i_and, i_or, Nat.not_lt_zero, Nat.succ_ne_zero, Nat.add_one_ne_zero, Nat.add_one_sub_one, Nat.zero_le, Nat.or_zero, Nat.zero_or, Bool.not_true, Bool.not_false, Bool.true_and, Bool.false_and, Bool.and_true, Bool.and_false, ↓reduceIte, if_true, if_false, not_true_eq_false, not_false_eq_true, true_and, and_true, false_and, and_false, and_self, true_or, or_true, false_or, or_false, Nat.reduceEqDiff, Nat.reduceLT, Nat.reduceLeDiff, Nat.reduceAdd, Nat.reduceMul, Nat.reduceSub, Nat.add_zero, Nat.zero_add, Nat.mul_zero, Nat.zero_mul, ne_eq, Bool.not_eq_true, Bool.not_eq_false, reduceCtorEq, decide_true, decide_false, decide_eq_true_eq, decide_eq_false_iff_not, Bool.false_eq_true, if_pos, if_neg]
theorem m_casts (B : rBlk (gA sm 12 0 5) G) (w : gWf G) (hN : ∀ o, o < G 0 → gA sm 12 0 21 o = nI (nb o)) (hnb : ∀ o, nb o ≤ 1680) : ∀ n r pay (pl : Nat → Nat) (b : cB) v p c, r ≤ G 0 → G 0 < r + n → pay ≤ r * 166320 → (∀ o, pl o ≤ 6) → bRC G b v c → pRl pl r p →
    ∃ v' p' c', f_X12_casts n (nI r) (nI pay) (kM sm v p c) = some ((), kM sm v' p' c') ∧ bRC G (sch G nb n r pay pl b) v' c' ∧ pRl pl r p' := by
  intro n
  induction n with
  | zero => intro r pay pl b v p c h1 h2; omega
  | succ n ih =>
    intro r pay pl b v p c hr hrn hpay hpl hb hp
    have w1 := w.1
    have hpb : pay < 1073741824 := by
      have : r * 166320 ≤ 6 * 166320 := Nat.mul_le_mul_right _ (by omega)
      omega
    have h0 : ∀ v p c, gA (kM sm v p c) 12 0 5 0 = nI (G 0) := fun _ _ _ => B.1.1
    have h1 : ∀ v p c, gA (kM sm v p c) 12 0 5 1 = nI (G 1) := fun _ _ _ => B.1.2.1
    show ∃ v' p' c', f_X12_casts_b (f_X12_casts n) (nI r) (nI pay) (kM sm v p c) = some ((), kM sm v' p' c') ∧ bRC G (sch G nb (n + 1) r pay pl b) v' c' ∧ pRl pl r p'
    have hsch : sch G nb (n + 1) r pay pl b = if prn b pay then b else if G 0 ≤ r then some (pay, pl) else if bsd G r = 0 then sch G nb n (r + 1) pay (upn pl r 0) b else
      (List.range (G 1)).foldl (fun b a => if ckc G nb r a pl then sch G nb n (r + 1) (pay + nb r * G (7 + a)) (upn pl r (a + 1)) b else b) b := rfl
    rw [hsch]
    -- behind the test of the pay
    have hgo : ∃ v' p' c', (∀ k, k = (fun (s1 : fSt) =>
      (fIx ((0 : Int32)) 2150 <|
      if ¬ nI r = (gA s1 12 0 5 ((0 : Int32)).toNatClampNeg) then
        (fIx (nI r) 6 <|
        fLt (sA s1 12 0 18 (upd (gA s1 12 0 18) (nI r).toNatClampNeg ((-1 : Int32)))) fun s3 =>
        fBd (f_X12_isInScene (nI r) s3) fun x4 s5 =>
        if ¬ x4 = 0 then
          (fLt ((0 : Int32)) fun (x6 : Int32) =>
          f_X12_casts_L93 (f_X12_casts n) (nI r) (nI pay) fF x6 s5)
        else
          (fBd (f_X12_casts n (nI r + ((1 : Int32))) (nI pay) s5) fun _ s19 =>
          some ((), s19)))
      else
        (fLt (sI s1 12 0 53 (nI pay)) fun s20 =>
        fLt ((0 : Int32)) fun (x21 : Int32) =>
        f_X12_casts_L33 (nI r) fF x21 s20))) → k (kM sm v p c) = some ((), kM sm v' p' c')) ∧ bRC G (if G 0 ≤ r then some (pay, pl) else if bsd G r = 0 then sch G nb n (r + 1) pay (upn pl r 0) b else
      (List.range (G 1)).foldl (fun b a => if ckc G nb r a pl then sch G nb n (r + 1) (pay + nb r * G (7 + a)) (upn pl r (a + 1)) b else b) b) v' c' ∧ pRl pl r p' := by
      by_cases hr0 : G 0 ≤ r
      · have hr0' : r = G 0 := by omega
        rw [if_pos hr0]
        refine ⟨nI pay, p, fun k => if k < 6 then (if k < r then p k else mI) else c k, ?_, ⟨rfl, hpb, hpl, ?_⟩, hp⟩
        · rintro k rfl
          have h33 := m_casL33 (sm := sm) (v := nI pay) (p := p) (c := c) (show r ≤ 6 by omega)
          have hre : (nI r = nI (G 0)) = True := by rw [hr0']; simp
          simp (disch := omega) only [fLt_e, fBd_s, fJn_s, fNn_s, fNu_0, fNu_s, fBo_0, fBo_1, fBo_b, i_lit, i_neg1, nI_add, pk_mul, nI_clamp, i_le, i_lt, i_eq, fIx_n, nI_mI, mI_nI, mI_lt, nI_lt_m, mI_le, nI_le_m, xI_0, xI_s, bI_0, bI_1, bI_t, bI_f, n_31, j_bit, j_one, i_and, i_or, Nat.not_lt_zero, Nat.succ_ne_zero, Nat.add_one_ne_zero, Nat.add_one_sub_one, Nat.zero_le, Nat.or_zero, Nat.zero_or, Bool.not_true, Bool.not_false, Bool.true_and, Bool.false_and, Bool.and_true, Bool.and_false, ↓reduceIte, if_true, if_false, not_true_eq_false, not_false_eq_true, true_and, and_true, false_and, and_false, and_self, true_or, or_true, false_or, or_false, Nat.reduceEqDiff, Nat.reduceLT, Nat.reduceLeDiff, Nat.reduceAdd, Nat.reduceMul, Nat.reduceSub, Nat.add_zero, Nat.zero_add, Nat.mul_zero, Nat.zero_mul, ne_eq, Bool.not_eq_true, Bool.not_eq_false, reduceCtorEq, decide_true, decide_false, decide_eq_true_eq, decide_eq_false_iff_not, Bool.false_eq_true, if_pos, if_neg, h0, hre, kM_sv, h33]
        · intro k hk
          show (if k < 6 then (if k < r then p k else mI) else c k) = xI (if k < G 0 then pl k else 0)
          rw [if_pos hk]
          by_cases hkr : k < r
          · rw [if_pos hkr, if_pos (show k < G 0 by omega)]
            exact hp k hkr
          · rw [if_neg hkr, if_neg (show ¬ k < G 0 by omega)]
            rfl
      · rw [if_neg hr0]
        have hrne : ¬ r = G 0 := by omega
        have hin : ∀ v p c, f_X12_isInScene (nI r) (kM sm v p c) = some (bI (insc G r), kM sm v p c) := fun v p c => m_isInScene (sm := kM sm v p c) B w (by omega)
        by_cases hbs : bsd G r = 0
        · rw [if_pos hbs]
          have hif : insc G r = false := by
            cases h : insc G r with
            | false => rfl
            | true => exact absurd hbs ((bsd_in r).mp h)
          obtain ⟨v', p', c', e, q1, q2⟩ := ih (r + 1) pay (upn pl r 0) b v (upd p r mI) c (by omega) (by omega) (Nat.le_trans hpay (Nat.mul_le_mul_right _ (Nat.le_succ r))) (by
            intro o
            unfold upn
            split
            · omega
            · exact hpl o) hb (pRl_u hp 0)
          refine ⟨v', p', c', ?_, q1, pRl_b q2⟩
          rintro k rfl
          simp (disch := omega) only [fLt_e, fBd_s, fJn_s, fNn_s, fNu_0, fNu_s, fBo_0, fBo_1, fBo_b, i_lit, i_neg1, nI_add, pk_mul, nI_clamp, i_le, i_lt, i_eq, fIx_n, nI_mI, mI_nI, mI_lt, nI_lt_m, mI_le, nI_le_m, xI_0, xI_s, bI_0, bI_1, bI_t, bI_f, n_31, j_bit, j_one, i_and, i_or, Nat.not_lt_zero, Nat.succ_ne_zero, Nat.add_one_ne_zero, Nat.add_one_sub_one, Nat.zero_le, Nat.or_zero, Nat.zero_or, Bool.not_true, Bool.not_false, Bool.true_and, Bool.false_and, Bool.and_true, Bool.and_false, ↓reduceIte, if_true, if_false, not_true_eq_false, not_false_eq_true, true_and, and_true, false_and, and_false, and_self, true_or, or_true, false_or, or_false, Nat.reduceEqDiff, Nat.reduceLT, Nat.reduceLeDiff, Nat.reduceAdd, Nat.reduceMul, Nat.reduceSub, Nat.add_zero, Nat.zero_add, Nat.mul_zero, Nat.zero_mul, ne_eq, Bool.not_eq_true, Bool.not_eq_false, reduceCtorEq, decide_true, decide_false, decide_eq_true_eq, decide_eq_false_iff_not, Bool.false_eq_true, if_pos, if_neg, h0, hrne, kM_p, kM_sp, hin, hif, e]
        · rw [if_neg hbs]
          have hit : insc G r = true := (bsd_in r).mpr hbs
          generalize hS : (fun (b : cB) a => if ckc G nb r a pl then sch G nb n (r + 1) (pay + nb r * G (7 + a)) (upn pl r (a + 1)) b else b) = S
          have hSd : ∀ b a, S b a = if ckc G nb r a pl then sch G nb n (r + 1) (pay + nb r * G (7 + a)) (upn pl r (a + 1)) b else b := fun b a => by rw [← hS]
          obtain ⟨s', m, ⟨v', p', c', hs, q1, q2⟩, e2⟩ := lp_ex (fun m (z : Int32 × fSt) => f_X12_casts_L93 (f_X12_casts n) (nI r) (nI pay) m z.1 z.2)
            (fun a z => ∃ v' p' c', z = (nI a, kM sm v' p' c') ∧ bRC G ((List.range a).foldl S b) v' c' ∧ pRl pl r p') (G 1) (by
            rintro a z ha ⟨v', p', c', rfl, q1, q2⟩
            rw [List.range_succ, List.foldl_append, List.foldl_cons, List.foldl_nil, hSd]
            generalize (List.range a).foldl S b = b1 at q1 ⊢
            have hct := m_canTake B w hN hnb hpl (show r < G 0 by omega) ha (v := v') (c := c') (pRl_k q2 mI)
            have hNr : gA sm 12 0 21 r = nI (nb r) := hN r (by omega)
            have h7 : gA sm 12 0 5 (7 + a) = nI (G (7 + a)) := (B.2.1 a ha).1
            have g7 := (w.2.2.1 a ha).1
            have hnr := hnb r
            have hmul : nb r * G (7 + a) ≤ 1680 * 99 := Nat.mul_le_mul hnr g7
            cases hk : ckc G nb r a pl with
            | false =>
              rw [hk] at hct
              refine ⟨(nI (a + 1), kM sm v' (upd p' r mI) c'), ⟨_, _, _, rfl, q1, pRl_k q2 mI⟩, ?_⟩
              intro m
              show f_X12_casts_L93 (f_X12_casts n) (nI r) (nI pay) (m + 1) (nI a) (kM sm v' p' c') = _
              rw [f_X12_casts_L93]
              simp (disch := omega) only [fLt_e, fBd_s, fJn_s, fNn_s, fNu_0, fNu_s, fBo_0, fBo_1, fBo_b, i_lit, i_neg1, nI_add, pk_mul, nI_clamp, i_le, i_lt, i_eq, fIx_n, nI_mI, mI_nI, mI_lt, nI_lt_m, mI_le, nI_le_m, xI_0, xI_s, bI_0, bI_1, bI_t, bI_f, n_31, j_bit, j_one, i_and, i_or, Nat.not_lt_zero, Nat.succ_ne_zero, Nat.add_one_ne_zero, Nat.add_one_sub_one, Nat.zero_le, Nat.or_zero, Nat.zero_or, Bool.not_true, Bool.not_false, Bool.true_and, Bool.false_and, Bool.and_true, Bool.and_false, ↓reduceIte, if_true, if_false, not_true_eq_false, not_false_eq_true, true_and, and_true, false_and, and_false, and_self, true_or, or_true, false_or, or_false, Nat.reduceEqDiff, Nat.reduceLT, Nat.reduceLeDiff, Nat.reduceAdd, Nat.reduceMul, Nat.reduceSub, Nat.add_zero, Nat.zero_add, Nat.mul_zero, Nat.zero_mul, ne_eq, Bool.not_eq_true, Bool.not_eq_false, reduceCtorEq, decide_true, decide_false, decide_eq_true_eq, decide_eq_false_iff_not, Bool.false_eq_true, if_pos, if_neg, h1, kM_p, kM_sp, hct]
            | true =>
              rw [hk] at hct
              obtain ⟨v2, p2, c2, e, r1, r2⟩ := ih (r + 1) (pay + nb r * G (7 + a)) (upn pl r (a + 1)) b1 v' (upd (upd p' r mI) r (nI a)) c' (by omega) (by omega) (by omega) (by
                intro o
                unfold upn
                split
                · omega
                · exact hpl o) q1 (pRl_u (pRl_k q2 mI) (a + 1))
              refine ⟨(nI (a + 1), kM sm v2 p2 c2), ⟨_, _, _, rfl, r1, pRl_b r2⟩, ?_⟩
              intro m
              show f_X12_casts_L93 (f_X12_casts n) (nI r) (nI pay) (m + 1) (nI a) (kM sm v' p' c') = _
              rw [f_X12_casts_L93]
              simp (disch := omega) only [fLt_e, fBd_s, fJn_s, fNn_s, fNu_0, fNu_s, fBo_0, fBo_1, fBo_b, i_lit, i_neg1, nI_add, pk_mul, nI_clamp, i_le, i_lt, i_eq, fIx_n, nI_mI, mI_nI, mI_lt, nI_lt_m, mI_le, nI_le_m, xI_0, xI_s, bI_0, bI_1, bI_t, bI_f, n_31, j_bit, j_one, i_and, i_or, Nat.not_lt_zero, Nat.succ_ne_zero, Nat.add_one_ne_zero, Nat.add_one_sub_one, Nat.zero_le, Nat.or_zero, Nat.zero_or, Bool.not_true, Bool.not_false, Bool.true_and, Bool.false_and, Bool.and_true, Bool.and_false, ↓reduceIte, if_true, if_false, not_true_eq_false, not_false_eq_true, true_and, and_true, false_and, and_false, and_self, true_or, or_true, false_or, or_false, Nat.reduceEqDiff, Nat.reduceLT, Nat.reduceLeDiff, Nat.reduceAdd, Nat.reduceMul, Nat.reduceSub, Nat.add_zero, Nat.zero_add, Nat.mul_zero, Nat.zero_mul, ne_eq, Bool.not_eq_true, Bool.not_eq_false, reduceCtorEq, decide_true, decide_false, decide_eq_true_eq, decide_eq_false_iff_not, Bool.false_eq_true, if_pos, if_neg, h1, kM_p, kM_sp, kM_21, kM_5, hct, hNr, h7, e]) (fF_lt (by omega)) (s := (nI 0, kM sm v (upd p r mI) c)) ⟨v, _, c, rfl, hb, pRl_k hp mI⟩
          refine ⟨v', upd p' r mI, c', ?_, q1, pRl_k q2 mI⟩
          rintro k rfl
          rw [hs] at e2
          have e2 : f_X12_casts_L93 (f_X12_casts n) (nI r) (nI pay) fF (nI 0) (kM sm v (upd p r mI) c) = f_X12_casts_L93 (f_X12_casts n) (nI r) (nI pay) (m + 1) (nI (G 1)) (kM sm v' p' c') := e2
          rw [f_X12_casts_L93] at e2
          simp (disch := omega) only [fLt_e, fBd_s, fJn_s, fNn_s, fNu_0, fNu_s, fBo_0, fBo_1, fBo_b, i_lit, i_neg1, nI_add, pk_mul, nI_clamp, i_le, i_lt, i_eq, fIx_n, nI_mI, mI_nI, mI_lt, nI_lt_m, mI_le, nI_le_m, xI_0, xI_s, bI_0, bI_1, bI_t, bI_f, n_31, j_bit, j_one, i_and, i_or, Nat.not_lt_zero, Nat.succ_ne_zero, Nat.add_one_ne_zero, Nat.add_one_sub_one, Nat.zero_le, Nat.or_zero, Nat.zero_or, Bool.not_true, Bool.not_false, Bool.true_and, Bool.false_and, Bool.and_true, Bool.and_false, ↓reduceIte, if_true, if_false, not_true_eq_false, not_false_eq_true, true_and, and_true, false_and, and_false, and_self, true_or, or_true, false_or, or_false, Nat.reduceEqDiff, Nat.reduceLT, Nat.reduceLeDiff, Nat.reduceAdd, Nat.reduceMul, Nat.reduceSub, Nat.add_zero, Nat.zero_add, Nat.mul_zero, Nat.zero_mul, ne_eq, Bool.not_eq_true, Bool.not_eq_false, reduceCtorEq, decide_true, decide_false, decide_eq_true_eq, decide_eq_false_iff_not, Bool.false_eq_true, if_pos, if_neg, h1, kM_p, kM_sp] at e2
          simp (disch := omega) only [fLt_e, fBd_s, fJn_s, fNn_s, fNu_0, fNu_s, fBo_0, fBo_1, fBo_b, i_lit, i_neg1, nI_add, pk_mul, nI_clamp, i_le, i_lt, i_eq, fIx_n, nI_mI, mI_nI, mI_lt, nI_lt_m, mI_le, nI_le_m, xI_0, xI_s, bI_0, bI_1, bI_t, bI_f, n_31, j_bit, j_one, i_and, i_or, Nat.not_lt_zero, Nat.succ_ne_zero, Nat.add_one_ne_zero, Nat.add_one_sub_one, Nat.zero_le, Nat.or_zero, Nat.zero_or, Bool.not_true, Bool.not_false, Bool.true_and, Bool.false_and, Bool.and_true, Bool.and_false, ↓reduceIte, if_true, if_false, not_true_eq_false, not_false_eq_true, true_and, and_true, false_and, and_false, and_self, true_or, or_true, false_or, or_false, Nat.reduceEqDiff, Nat.reduceLT, Nat.reduceLeDiff, Nat.reduceAdd, Nat.reduceMul, Nat.reduceSub, Nat.add_zero, Nat.zero_add, Nat.mul_zero, Nat.zero_mul, ne_eq, Bool.not_eq_true, Bool.not_eq_false, reduceCtorEq, decide_true, decide_false, decide_eq_true_eq, decide_eq_false_iff_not, Bool.false_eq_true, if_pos, if_neg, h0, hrne, kM_p, kM_sp, hin, hit, e2]
    obtain ⟨v1, p1, c1, e1, r1, r2⟩ := hgo
    have e1 := e1 _ rfl
    unfold f_X12_casts_b
    cases b with
    | none =>
      have hv : v = mI := hb
      refine ⟨v1, p1, c1, Eq.trans (if_pos ?_) e1, r1, r2⟩
      show v < nI 0
      rw [hv]
      decide
    | some d =>
      obtain ⟨hv, hd, hb3, hb4⟩ := hb
      have hn0 : ¬ v < nI 0 := by
        rw [hv, i_lt _ _ (by omega) (by omega)]
        omega
      by_cases hle : d.1 ≤ pay
      · have hpr : prn (some d) pay = true := decide_eq_true hle
        rw [hpr]
        refine ⟨v, p, c, Eq.trans (if_neg hn0) (if_neg ?_), ⟨hv, hd, hb3, hb4⟩, hp⟩
        show ¬ nI pay < v
        rw [hv, i_lt _ _ (by omega) (by omega)]
        omega
      · have hpr : prn (some d) pay = false := decide_eq_false hle
        rw [hpr]
        refine ⟨v1, p1, c1, Eq.trans (if_neg hn0) (Eq.trans (if_pos ?_) e1), r1, r2⟩
        show nI pay < v
        rw [hv, i_lt _ _ (by omega) (by omega)]
        omega
end
