/-! layer 2: the class's fewestForAll -/
def lwS (st : fSt) (n : Int32) (f L : Nat → Int32) : fSt := rwS (sA st 6 0 2 L) n f
theorem lwS_n (st : fSt) (n : Int32) (f L : Nat → Int32) : gI (lwS st n f L) 6 0 2 = n := rfl
theorem lwS_f (st : fSt) (n : Int32) (f L : Nat → Int32) : gA (lwS st n f L) 6 0 1 = f := rfl
theorem lwS_L (st : fSt) (n : Int32) (f L : Nat → Int32) : gA (lwS st n f L) 6 0 2 = L := rfl
theorem lwS_s (st : fSt) (n : Int32) (f L L' : Nat → Int32) : sA (lwS st n f L) 6 0 2 L' = lwS st n f L' := by
  apply st_ext
  · intro c i k; rfl
  · intro c i k; rfl
  · intro c i k
    simp only [lwS, rwS, gA_sA, gA_sI]
    by_cases h : c = 6 ∧ i = 0
    · obtain ⟨rfl, rfl⟩ := h
      by_cases h1 : k = 1
      · subst h1; simp
      · by_cases h2 : k = 2
        · subst h2; simp
        · simp [h1, h2]
    · simp only [← and_assoc, h, false_and, if_false]
  · intro c i k; rfl
  · intro c i k; rfl
theorem lwS_of (st : fSt) (n : Int32) (f L : Nat → Int32) : sA (rwS st n f) 6 0 2 L = lwS st n f L := by
  have e : rwS st n f = lwS st n f (gA st 6 0 2) := by
    unfold lwS
    congr 1
    apply st_ext
    · intro c i k; rfl
    · intro c i k; rfl
    · intro c i k
      simp only [gA_sA]
      split
      · rename_i h; rw [h.1, h.2.1, h.2.2]
      · rfl
    · intro c i k; rfl
    · intro c i k; rfl
  rw [e, lwS_s]
section
variable {sc : fSt} {G : Nat → Nat} {Q : List nT} {f : Nat → Int32}
def ovP (G : Nat → Nat) (Q : List nT) (x : Nat) : Prop := ∃ y, y ∈ Q ∧ ovr G y = true ∧ y.2.1 = x
theorem dif_fwd {left : Nat} (hl : left < 4096) {x : nT} (ho : ovr G x = true) : left ^^^ (left &&& fwd G x) = dif left x.2.1 := by
  unfold dif
  rw [Nat.and_comm left, fwd_and ho hl, Nat.and_comm]
theorem x_smL19 (R : rwk G Q f) {left b nt : Nat} (hl : left < 2048) (hb : b < 12) (hnt : nt ≤ 13) {L : Nat → Int32} {l : Nat → Nat} (hL : lrel 2048 L l) (hle : ∀ k, l k ≤ 12) :
    ∃ L' l', f_X6_showMore_L19 (nI left) (nI (2 ^ b)) (nI nt) fF (nI 0) (lwS sc (nI Q.length) f L) = some ((), lwS sc (nI Q.length) f L') ∧ lrel 2048 L' l' ∧ (∀ k, l' k ≤ l k) ∧ (∀ k, l' k = l k ∨ (l' k = nt ∧ ∃ x, ovP G Q x ∧ k = dif left x)) ∧ (∀ y, y ∈ Q → ovr G y = true → y.2.1.testBit b = true → l' (dif left y.2.1) ≤ nt) := by
  have hQ := R.1
  have h2b : 2 ^ b < 2 ^ 12 := Nat.pow_lt_pow_right (by omega) hb
  obtain ⟨s', m, ⟨L', l', hs, p1, p2, p3, p4⟩, e⟩ := lp_ex (fun m (z : Int32 × fSt) => f_X6_showMore_L19 (nI left) (nI (2 ^ b)) (nI nt) m z.1 z.2)
    (fun t z => ∃ L' l', z = (nI t, lwS sc (nI Q.length) f L') ∧ lrel 2048 L' l' ∧ (∀ k, l' k ≤ l k) ∧ (∀ k, l' k = l k ∨ (l' k = nt ∧ ∃ x, ovP G Q x ∧ k = dif left x)) ∧ (∀ i y, i < t → Q[i]? = some y → ovr G y = true → y.2.1.testBit b = true → l' (dif left y.2.1) ≤ nt)) Q.length (by
    rintro t z ht ⟨L', l', rfl, p1, p2, p3, p4⟩
    obtain ⟨x, hx⟩ := get_x ht
    obtain ⟨hok, hf⟩ := R.2 t x hx
    have ho := x_isOver (sc := sA sc 6 0 2 L') R hx (nI Q.length)
    have ho : f_X6_isOver (nI t) (lwS sc (nI Q.length) f L') = some (bI (ovr G x), lwS sc (nI Q.length) f L') := ho
    by_cases hv : ovr G x = true ∧ x.2.1.testBit b = true
    · obtain ⟨hv, hbit⟩ := hv
      rw [hv] at ho
      have ha := fwd_and (G := G) hv h2b
      have hz : ¬ x.2.1 &&& 2 ^ b = 0 := by
        intro h
        have : (x.2.1 &&& 2 ^ b).testBit b = true := by rw [Nat.testBit_and, hbit, Nat.testBit_two_pow]; simp
        rw [h, Nat.zero_testBit] at this
        exact absurd this (by decide)
      have hd := dif_le left x.2.1
      have hdl : dif left x.2.1 < 2048 := by omega
      have hlt : x.2.1 &&& 2 ^ b < 2 ^ 31 := Nat.lt_of_le_of_lt Nat.and_le_right (by omega)
      have hdf := dif_fwd (G := G) (show left < 4096 by omega) hv
      have hld := p1 _ hdl
      have hlb : l' (dif left x.2.1) ≤ 12 := Nat.le_trans (p2 _) (hle _)
      by_cases hlt2 : nt < l' (dif left x.2.1)
      · refine ⟨(nI (t + 1), lwS sc (nI Q.length) f (upd L' (dif left x.2.1) (nI nt))), ⟨upd L' (dif left x.2.1) (nI nt), fun k => if k = dif left x.2.1 then nt else l' k, rfl, lrel_u p1 _ _, ?_, ?_, ?_⟩, ?_⟩
        · intro k
          dsimp only
          split
          · rename_i h; rw [h]; have := p2 (dif left x.2.1); omega
          · exact p2 k
        · intro k
          dsimp only
          split
          · rename_i h
            exact Or.inr ⟨rfl, x.2.1, ⟨x, List.mem_of_getElem? hx, hv, rfl⟩, h⟩
          · exact p3 k
        · intro i y hi hy h1 h2
          dsimp only
          split
          · exact Nat.le_refl _
          · rename_i h
            by_cases hit : i = t
            · subst hit
              rw [hx] at hy
              cases hy
              exact absurd rfl h
            · exact p4 i y (by omega) hy h1 h2
        · intro m
          show f_X6_showMore_L19 (nI left) (nI (2 ^ b)) (nI nt) (m + 1) (nI t) (lwS sc (nI Q.length) f L') = _
          rw [f_X6_showMore_L19]
          simp (disch := omega) only [fLt_e, fBd_s, fJn_s, fNn_s, fNu_0, fNu_s, fBo_0, fBo_1, fBo_b, i_lit, i_neg1, nI_add, pk_mul, nI_clamp, i_le, i_lt, i_eq, fIx_n, nI_mI, mI_nI, mI_lt, nI_lt_m, mI_le, nI_le_m, xI_0, xI_s, bI_0, bI_1, bI_t, bI_f, n_31, j_bit, j_one, i_and, i_or, Nat.not_lt_zero, Nat.succ_ne_zero, Nat.add_one_ne_zero, Nat.add_one_sub_one, Nat.zero_le, Nat.or_zero, Nat.zero_or, Bool.not_true, Bool.not_false, Bool.true_and, Bool.false_and, Bool.and_true, Bool.and_false, ↓reduceIte, if_true, if_false, not_true_eq_false, not_false_eq_true, true_and, and_true, false_and, and_false, and_self, true_or, or_true, false_or, or_false, Nat.reduceEqDiff, Nat.reduceLT, Nat.reduceLeDiff, Nat.reduceAdd, Nat.reduceMul, Nat.reduceSub, Nat.add_zero, Nat.zero_add, Nat.mul_zero, Nat.zero_mul, ne_eq, Bool.not_eq_true, Bool.not_eq_false, reduceCtorEq, decide_true, decide_false, decide_eq_true_eq, decide_eq_false_iff_not, Bool.false_eq_true, if_pos, if_neg, lwS_n, lwS_f, lwS_L, lwS_s, ho, hf, ha, hz, i_andn, hdf, hld, hlt2]
      · refine ⟨(nI (t + 1), lwS sc (nI Q.length) f (upd L' (dif left x.2.1) (nI (l' (dif left x.2.1))))), ⟨upd L' (dif left x.2.1) (nI (l' (dif left x.2.1))), l', rfl, ?_, p2, p3, ?_⟩, ?_⟩
        · intro k hk
          rw [upd_at]
          split
          · rename_i h; rw [h]
          · exact p1 k hk
        · intro i y hi hy h1 h2
          by_cases hit : i = t
          · subst hit
            rw [hx] at hy
            cases hy
            omega
          · exact p4 i y (by omega) hy h1 h2
        · intro m
          show f_X6_showMore_L19 (nI left) (nI (2 ^ b)) (nI nt) (m + 1) (nI t) (lwS sc (nI Q.length) f L') = _
          rw [f_X6_showMore_L19]
          simp (disch := omega) only [fLt_e, fBd_s, fJn_s, fNn_s, fNu_0, fNu_s, fBo_0, fBo_1, fBo_b, i_lit, i_neg1, nI_add, pk_mul, nI_clamp, i_le, i_lt, i_eq, fIx_n, nI_mI, mI_nI, mI_lt, nI_lt_m, mI_le, nI_le_m, xI_0, xI_s, bI_0, bI_1, bI_t, bI_f, n_31, j_bit, j_one, i_and, i_or, Nat.not_lt_zero, Nat.succ_ne_zero, Nat.add_one_ne_zero, Nat.add_one_sub_one, Nat.zero_le, Nat.or_zero, Nat.zero_or, Bool.not_true, Bool.not_false, Bool.true_and, Bool.false_and, Bool.and_true, Bool.and_false, ↓reduceIte, if_true, if_false, not_true_eq_false, not_false_eq_true, true_and, and_true, false_and, and_false, and_self, true_or, or_true, false_or, or_false, Nat.reduceEqDiff, Nat.reduceLT, Nat.reduceLeDiff, Nat.reduceAdd, Nat.reduceMul, Nat.reduceSub, Nat.add_zero, Nat.zero_add, Nat.mul_zero, Nat.zero_mul, ne_eq, Bool.not_eq_true, Bool.not_eq_false, reduceCtorEq, decide_true, decide_false, decide_eq_true_eq, decide_eq_false_iff_not, Bool.false_eq_true, if_pos, if_neg, lwS_n, lwS_f, lwS_L, lwS_s, ho, hf, ha, hz, i_andn, hdf, hld, hlt2]
    · refine ⟨(nI (t + 1), lwS sc (nI Q.length) f L'), ⟨L', l', rfl, p1, p2, p3, ?_⟩, ?_⟩
      · intro i y hi hy h1 h2
        by_cases hit : i = t
        · subst hit
          rw [hx] at hy
          cases hy
          exact absurd ⟨h1, h2⟩ hv
        · exact p4 i y (by omega) hy h1 h2
      · intro m
        show f_X6_showMore_L19 (nI left) (nI (2 ^ b)) (nI nt) (m + 1) (nI t) (lwS sc (nI Q.length) f L') = _
        rw [f_X6_showMore_L19]
        cases hov : ovr G x with
        | false =>
          rw [hov] at ho
          simp (disch := omega) only [fLt_e, fBd_s, fJn_s, fNn_s, fNu_0, fNu_s, fBo_0, fBo_1, fBo_b, i_lit, i_neg1, nI_add, pk_mul, nI_clamp, i_le, i_lt, i_eq, fIx_n, nI_mI, mI_nI, mI_lt, nI_lt_m, mI_le, nI_le_m, xI_0, xI_s, bI_0, bI_1, bI_t, bI_f, n_31, j_bit, j_one, i_and, i_or, Nat.not_lt_zero, Nat.succ_ne_zero, Nat.add_one_ne_zero, Nat.add_one_sub_one, Nat.zero_le, Nat.or_zero, Nat.zero_or, Bool.not_true, Bool.not_false, Bool.true_and, Bool.false_and, Bool.and_true, Bool.and_false, ↓reduceIte, if_true, if_false, not_true_eq_false, not_false_eq_true, true_and, and_true, false_and, and_false, and_self, true_or, or_true, false_or, or_false, Nat.reduceEqDiff, Nat.reduceLT, Nat.reduceLeDiff, Nat.reduceAdd, Nat.reduceMul, Nat.reduceSub, Nat.add_zero, Nat.zero_add, Nat.mul_zero, Nat.zero_mul, ne_eq, Bool.not_eq_true, Bool.not_eq_false, reduceCtorEq, decide_true, decide_false, decide_eq_true_eq, decide_eq_false_iff_not, Bool.false_eq_true, if_pos, if_neg, lwS_n, ho]
        | true =>
          rw [hov] at ho
          have ha := fwd_and (G := G) hov h2b
          have hz : x.2.1 &&& 2 ^ b = 0 := by
            apply Nat.eq_of_testBit_eq
            intro i
            rw [Nat.zero_testBit, Nat.testBit_and, Nat.testBit_two_pow]
            by_cases hi : b = i
            · subst hi
              cases h : x.2.1.testBit b with
              | false => rfl
              | true => exact absurd ⟨hov, h⟩ hv
            · rw [decide_eq_false hi, Bool.and_false]
          rw [hz] at ha
          simp (disch := omega) only [fLt_e, fBd_s, fJn_s, fNn_s, fNu_0, fNu_s, fBo_0, fBo_1, fBo_b, i_lit, i_neg1, nI_add, pk_mul, nI_clamp, i_le, i_lt, i_eq, fIx_n, nI_mI, mI_nI, mI_lt, nI_lt_m, mI_le, nI_le_m, xI_0, xI_s, bI_0, bI_1, bI_t, bI_f, n_31, j_bit, j_one, i_and, i_or, Nat.not_lt_zero, Nat.succ_ne_zero, Nat.add_one_ne_zero, Nat.add_one_sub_one, Nat.zero_le, Nat.or_zero, Nat.zero_or, Bool.not_true, Bool.not_false, Bool.true_and, Bool.false_and, Bool.and_true, Bool.and_false, ↓reduceIte, if_true, if_false, not_true_eq_false, not_false_eq_true, true_and, and_true, false_and, and_false, and_self, true_or, or_true, false_or, or_false, Nat.reduceEqDiff, Nat.reduceLT, Nat.reduceLeDiff, Nat.reduceAdd, Nat.reduceMul, Nat.reduceSub, Nat.add_zero, Nat.zero_add, Nat.mul_zero, Nat.zero_mul, ne_eq, Bool.not_eq_true, Bool.not_eq_false, reduceCtorEq, decide_true, decide_false, decide_eq_true_eq, decide_eq_false_iff_not, Bool.false_eq_true, if_pos, if_neg, lwS_n, lwS_f, ho, hf, ha]) (fF_lt (by omega)) (s := (nI 0, lwS sc (nI Q.length) f L)) ⟨L, l, rfl, hL, fun k => Nat.le_refl _, fun k => Or.inl rfl, fun i y h => absurd h (Nat.not_lt_zero i)⟩
  refine ⟨L', l', ?_, p1, p2, p3, ?_⟩
  · refine Eq.trans e ?_
    rw [hs]
    show f_X6_showMore_L19 (nI left) (nI (2 ^ b)) (nI nt) (m + 1) (nI Q.length) (lwS sc (nI Q.length) f L') = _
    rw [f_X6_showMore_L19]
    simp (disch := omega) only [fLt_e, fBd_s, fJn_s, fNn_s, fNu_0, fNu_s, fBo_0, fBo_1, fBo_b, i_lit, i_neg1, nI_add, pk_mul, nI_clamp, i_le, i_lt, i_eq, fIx_n, nI_mI, mI_nI, mI_lt, nI_lt_m, mI_le, nI_le_m, xI_0, xI_s, bI_0, bI_1, bI_t, bI_f, n_31, j_bit, j_one, i_and, i_or, Nat.not_lt_zero, Nat.succ_ne_zero, Nat.add_one_ne_zero, Nat.add_one_sub_one, Nat.zero_le, Nat.or_zero, Nat.zero_or, Bool.not_true, Bool.not_false, Bool.true_and, Bool.false_and, Bool.and_true, Bool.and_false, ↓reduceIte, if_true, if_false, not_true_eq_false, not_false_eq_true, true_and, and_true, false_and, and_false, and_self, true_or, or_true, false_or, or_false, Nat.reduceEqDiff, Nat.reduceLT, Nat.reduceLeDiff, Nat.reduceAdd, Nat.reduceMul, Nat.reduceSub, Nat.add_zero, Nat.zero_add, Nat.mul_zero, Nat.zero_mul, ne_eq, Bool.not_eq_true, Bool.not_eq_false, reduceCtorEq, decide_true, decide_false, decide_eq_true_eq, decide_eq_false_iff_not, Bool.false_eq_true, if_pos, if_neg, lwS_n]
  · intro y hy h1 h2
    obtain ⟨i, hi, rfl⟩ := List.mem_iff_getElem.mp hy
    exact p4 i _ hi (List.getElem?_eq_getElem hi) h1 h2
theorem x_fewL36 (R : rwk G Q f) {all : Nat} {C : Nat → Prop} (hall : all < 2048) : ∀ left n (L : Nat → Int32) (l : Nat → Nat), left < n → left < 2048 → lrel 2048 L l → (∀ k, l k ≤ 12) → (∀ u, l u < 12 → ∃ v, un (ovP G Q) (l u) v ∧ u = dif all v) →
    (∀ n0, C n0 → ∃ u j w, u ≤ left ∧ un (ovP G Q) j w ∧ (∀ i, u.testBit i = true → w.testBit i = true) ∧ l u + j ≤ n0) →
    ∃ L' r, f_X6_fewestForAll_L36 n (nI left) (lwS sc (nI Q.length) f L) = some (nI r, lwS sc (nI Q.length) f L') ∧ (∀ n0, C n0 → r ≤ n0) ∧ (r < 12 → ∃ v, un (ovP G Q) r v ∧ 0 = dif all v) := by
  intro left
  induction left with
  | zero =>
    intro n L l hn _ hL hle hC hJ
    obtain ⟨n, rfl⟩ : ∃ m, n = m + 1 := ⟨n - 1, by omega⟩
    refine ⟨L, l 0, ?_, fun n0 hn0 => ?_, fun h => hC 0 h⟩
    rotate_left
    · obtain ⟨u, j, w, h1, h2, h3, h4⟩ := hJ n0 hn0
      have hu : u = 0 := by omega
      subst hu
      omega
    have h0 := hL 0 (by omega)
    rw [f_X6_fewestForAll_L36]
    simp (disch := omega) only [fLt_e, fBd_s, fJn_s, fNn_s, fNu_0, fNu_s, fBo_0, fBo_1, fBo_b, i_lit, i_neg1, nI_add, pk_mul, nI_clamp, i_le, i_lt, i_eq, fIx_n, nI_mI, mI_nI, mI_lt, nI_lt_m, mI_le, nI_le_m, xI_0, xI_s, bI_0, bI_1, bI_t, bI_f, n_31, j_bit, j_one, i_and, i_or, Nat.not_lt_zero, Nat.succ_ne_zero, Nat.add_one_ne_zero, Nat.add_one_sub_one, Nat.zero_le, Nat.or_zero, Nat.zero_or, Bool.not_true, Bool.not_false, Bool.true_and, Bool.false_and, Bool.and_true, Bool.and_false, ↓reduceIte, if_true, if_false, not_true_eq_false, not_false_eq_true, true_and, and_true, false_and, and_false, and_self, true_or, or_true, false_or, or_false, Nat.reduceEqDiff, Nat.reduceLT, Nat.reduceLeDiff, Nat.reduceAdd, Nat.reduceMul, Nat.reduceSub, Nat.add_zero, Nat.zero_add, Nat.mul_zero, Nat.zero_mul, ne_eq, Bool.not_eq_true, Bool.not_eq_false, reduceCtorEq, decide_true, decide_false, decide_eq_true_eq, decide_eq_false_iff_not, Bool.false_eq_true, if_pos, if_neg, lwS_L, h0]
  | succ left ih =>
    intro n L l hn hlt hL hle hC hJ
    obtain ⟨n, rfl⟩ : ∃ m, n = m + 1 := ⟨n - 1, by omega⟩
    have h0 := hL 0 (by omega)
    have h1 := hL (left + 1) hlt
    have b0 := hle 0
    have b1 := hle (left + 1)
    have hdc : nI (left + 1) + mI = nI left := nI_dec (by omega)
    by_cases hc : l 0 ≤ l (left + 1) + 1
    · obtain ⟨L', r, e, r1, r2⟩ := ih n L l (by omega) (by omega) hL hle hC (by
        intro n0 hn0
        obtain ⟨u, j, w, g1, g2, g3, g4⟩ := hJ n0 hn0
        by_cases hu : u = left + 1
        · refine ⟨0, 0, 0, Nat.zero_le _, rfl, fun i hi => hi, ?_⟩
          subst hu
          cases j with
          | zero =>
            have hw : w = 0 := g2
            obtain ⟨s, s1, s2⟩ := low_ex _ (left + 1) (Nat.lt_succ_self _) (by omega)
            have := g3 s s1
            rw [hw, Nat.zero_testBit] at this
            exact absurd this (by decide)
          | succ j => omega
        · exact ⟨u, j, w, by omega, g2, g3, g4⟩)
      refine ⟨L', r, ?_, r1, r2⟩
      rw [f_X6_fewestForAll_L36]
      simp (disch := omega) only [fLt_e, fBd_s, fJn_s, fNn_s, fNu_0, fNu_s, fBo_0, fBo_1, fBo_b, i_lit, i_neg1, nI_add, pk_mul, nI_clamp, i_le, i_lt, i_eq, fIx_n, nI_mI, mI_nI, mI_lt, nI_lt_m, mI_le, nI_le_m, xI_0, xI_s, bI_0, bI_1, bI_t, bI_f, n_31, j_bit, j_one, i_and, i_or, Nat.not_lt_zero, Nat.succ_ne_zero, Nat.add_one_ne_zero, Nat.add_one_sub_one, Nat.zero_le, Nat.or_zero, Nat.zero_or, Bool.not_true, Bool.not_false, Bool.true_and, Bool.false_and, Bool.and_true, Bool.and_false, ↓reduceIte, if_true, if_false, not_true_eq_false, not_false_eq_true, true_and, and_true, false_and, and_false, and_self, true_or, or_true, false_or, or_false, Nat.reduceEqDiff, Nat.reduceLT, Nat.reduceLeDiff, Nat.reduceAdd, Nat.reduceMul, Nat.reduceSub, Nat.add_zero, Nat.zero_add, Nat.mul_zero, Nat.zero_mul, ne_eq, Bool.not_eq_true, Bool.not_eq_false, reduceCtorEq, decide_true, decide_false, decide_eq_true_eq, decide_eq_false_iff_not, Bool.false_eq_true, if_pos, if_neg, lwS_L, h0, h1, hdc]
      exact e
    · obtain ⟨b, s1, s2⟩ := low_ex _ (left + 1) (Nat.lt_succ_self _) (by omega)
      have hb11 : b < 11 := bit_lt (show left + 1 < 2 ^ 11 by omega) s1
      have hla : ∀ st, f_X6_lastOf (nI (left + 1)) st = some (nI b, st) := fun st => x_lastOf (show b < 24 by omega) s1 s2 st
      obtain ⟨L1, l1, e1, q1, q2, q3, q4⟩ := x_smL19 (sc := sc) R hlt (show b < 12 by omega) (show l (left + 1) + 1 ≤ 13 by omega) hL hle
      have hsm : f_X6_showMore (nI (left + 1)) (lwS sc (nI Q.length) f L) = some ((), lwS sc (nI Q.length) f L1) := by
        unfold f_X6_showMore
        simp (disch := omega) only [fLt_e, fBd_s, fJn_s, fNn_s, fNu_0, fNu_s, fBo_0, fBo_1, fBo_b, i_lit, i_neg1, nI_add, pk_mul, nI_clamp, i_le, i_lt, i_eq, fIx_n, nI_mI, mI_nI, mI_lt, nI_lt_m, mI_le, nI_le_m, xI_0, xI_s, bI_0, bI_1, bI_t, bI_f, n_31, j_bit, j_one, i_and, i_or, Nat.not_lt_zero, Nat.succ_ne_zero, Nat.add_one_ne_zero, Nat.add_one_sub_one, Nat.zero_le, Nat.or_zero, Nat.zero_or, Bool.not_true, Bool.not_false, Bool.true_and, Bool.false_and, Bool.and_true, Bool.and_false, ↓reduceIte, if_true, if_false, not_true_eq_false, not_false_eq_true, true_and, and_true, false_and, and_false, and_self, true_or, or_true, false_or, or_false, Nat.reduceEqDiff, Nat.reduceLT, Nat.reduceLeDiff, Nat.reduceAdd, Nat.reduceMul, Nat.reduceSub, Nat.add_zero, Nat.zero_add, Nat.mul_zero, Nat.zero_mul, ne_eq, Bool.not_eq_true, Bool.not_eq_false, reduceCtorEq, decide_true, decide_false, decide_eq_true_eq, decide_eq_false_iff_not, Bool.false_eq_true, if_pos, if_neg, lwS_L, hla, h1]
        exact e1
      obtain ⟨L', r, e, r1, r2⟩ := ih n L1 l1 (by omega) (by omega) q1 (fun k => Nat.le_trans (q2 k) (hle k)) (by
        intro u hu
        rcases q3 u with h | ⟨h, x, x1, x2⟩
        · rw [h] at hu ⊢
          exact hC u hu
        · obtain ⟨v, v1, v2⟩ := hC (left + 1) (by omega)
          refine ⟨v ||| x, ?_, ?_⟩
          · rw [h]
            exact ⟨v, x, v1, x1, rfl⟩
          · rw [x2, v2]
            apply Nat.eq_of_testBit_eq
            intro i
            rw [dif_bit, dif_bit, dif_bit, Nat.testBit_or]
            cases all.testBit i <;> cases v.testBit i <;> cases x.testBit i <;> rfl) (by
        intro n0 hn0
        obtain ⟨u, j, w, g1, g2, g3, g4⟩ := hJ n0 hn0
        by_cases hu : u = left + 1
        · subst hu
          obtain ⟨m, x, w', t1, t2, t3, t4, t5⟩ := un_split _ j w b g2 (g3 b s1)
          obtain ⟨y, y1, y2, y3⟩ := t2
          subst y3
          have k4 := q4 y y1 y2 t3
          have k5 := dif_lt s1 t3
          refine ⟨dif (left + 1) y.2.1, m, w', by omega, t4, fun i hi => ?_, by omega⟩
          rw [dif_bit, Bool.and_eq_true] at hi
          have := g3 i hi.1
          rw [t5, Nat.testBit_or] at this
          cases hy : y.2.1.testBit i with
          | true => rw [hy] at hi; exact absurd hi.2 (by decide)
          | false => rw [hy, Bool.or_false] at this; exact this
        · refine ⟨u, j, w, by omega, g2, g3, ?_⟩
          have := q2 u
          omega)
      refine ⟨L', r, ?_, r1, r2⟩
      rw [f_X6_fewestForAll_L36]
      simp (disch := omega) only [fLt_e, fBd_s, fJn_s, fNn_s, fNu_0, fNu_s, fBo_0, fBo_1, fBo_b, i_lit, i_neg1, nI_add, pk_mul, nI_clamp, i_le, i_lt, i_eq, fIx_n, nI_mI, mI_nI, mI_lt, nI_lt_m, mI_le, nI_le_m, xI_0, xI_s, bI_0, bI_1, bI_t, bI_f, n_31, j_bit, j_one, i_and, i_or, Nat.not_lt_zero, Nat.succ_ne_zero, Nat.add_one_ne_zero, Nat.add_one_sub_one, Nat.zero_le, Nat.or_zero, Nat.zero_or, Bool.not_true, Bool.not_false, Bool.true_and, Bool.false_and, Bool.and_true, Bool.and_false, ↓reduceIte, if_true, if_false, not_true_eq_false, not_false_eq_true, true_and, and_true, false_and, and_false, and_self, true_or, or_true, false_or, or_false, Nat.reduceEqDiff, Nat.reduceLT, Nat.reduceLeDiff, Nat.reduceAdd, Nat.reduceMul, Nat.reduceSub, Nat.add_zero, Nat.zero_add, Nat.mul_zero, Nat.zero_mul, ne_eq, Bool.not_eq_true, Bool.not_eq_false, reduceCtorEq, decide_true, decide_false, decide_eq_true_eq, decide_eq_false_iff_not, Bool.false_eq_true, if_pos, if_neg, lwS_L, h0, h1, hdc, hsm]
      exact e
end
