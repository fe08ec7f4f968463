/-! layer 2: the call steer -/
section
variable {sc : fSt} {q : Nat} {G : Nat → Nat} {Q : List nT} {f : Nat → Int32}
def lenB (L : Nat) (u : List Nat) : Bool := u.length == L
theorem lenB_iff (L : Nat) (u : List Nat) : lenB L u = true ↔ u.length = L := by
  unfold lenB
  rw [beq_iff_eq]
/-- the words by one deed -/
def wdd (G : Nat → Nat) (e n : Nat) (x : nT) (p : List Nat) (d : Nat) : List (List Nat) := if tsn G x d = 0 then (if gsl G x.1 = e then [p ++ [d]] else []) else wds G e n (kidn G x (tsn G x d)) (p ++ [d])
theorem first_d {α : Type} (F : Nat → List α) (B : α → Bool) (u : α) : ∀ n, ((List.range n).flatMap F).find? B = some u → ∃ d, d < n ∧ (F d).find? B = some u ∧ ∀ o, o < d → (F o).find? B = none := by
  intro n
  induction n with
  | zero => intro h; exact absurd h (by simp)
  | succ n ih =>
    intro h
    have hfl : List.flatMap F [n] = F n := by simp
    rw [List.range_succ, List.flatMap_append, hfl, List.find?_append] at h
    cases hc : ((List.range n).flatMap F).find? B with
    | some v =>
      rw [hc] at h
      have hv : v = u := by simpa using h
      rw [hv] at hc
      obtain ⟨d, d1, d2, d3⟩ := ih hc
      exact ⟨d, by omega, d2, d3⟩
    | none =>
      rw [hc] at h
      refine ⟨n, by omega, by simpa using h, fun o ho => ?_⟩
      rw [List.find?_eq_none] at hc ⊢
      intro z hz
      exact hc z (List.mem_flatMap.mpr ⟨o, List.mem_range.mpr ho, hz⟩)
theorem x_st53 (X : rHou sc 0 q G) (w : gWf G) (R : rwk G Q f) (h : Q.Perm (allR G)) {e L n : Nat} (he : e ≤ 9) (hL : L ≤ 12) {x : nT} (hx : x ∈ allR G) (hn : x.1 < n + 1) {p u : List Nat} (hp : p.length + 1 = pcn x.2.1) (hpL : p.length < L) {d : Nat} (hd : d < 4) (hdu : (wdd G e n x p d).find? (lenB L) = some u) (hdo : ∀ o, o < d → (wdd G e n x p o).find? (lenB L) = none)
    (k21 : Int32 → fSt → Option (Unit × fSt)) (k26 : Int32 → Int32 → fSt → Option (Unit × fSt)) :
    f_X6_steerTo_L53 0 (nI e) (nI L) (nI x.2.1) (nI p.length) (nI x.1) (nI x.2.2) k21 k26 fF (nI 0) (rwS sc (nI Q.length) f) = k26 (nI d) (xI (tsn G x d)) (rwS sc (nI Q.length) f) := by
  have w1 := w.1
  have hok := allR_ok w x hx
  have hx1 := hok.1
  have hx2 := hok.2.1
  have hon : ∀ o, o < 4 → f_X2_onward 0 (nI x.1) (nI o) (nI x.2.2) (rwS sc (nI Q.length) f) = some (xI (tsn G x o), rwS sc (nI Q.length) f) := fun o ho => x_onward (sc := rwS sc (nI Q.length) f) X w hx1 ho hok.2.2.2.2
  have hgp : gP (rwS sc (nI Q.length) f) 2 0 0 = q + 1 := X.1
  -- whether some word of this length goes by a deed
  have hany : ∀ o, o < 4 → ¬ tsn G x o = 0 → ∃ b, f_X6_someGoesBy q (nI (x.2.1 ||| 2 ^ (tsn G x o - 1))) (nI e) (nI L) (rwS sc (nI Q.length) f) = some (bI b, rwS sc (nI Q.length) f) ∧ (b = true ↔ ∃ v, v ∈ wds G e n (kidn G x (tsn G x o)) (p ++ [o]) ∧ v.length = L) := by
    intro o ho h0
    obtain ⟨k1, k2, k3⟩ := tsn_kid w hok ho h0
    have hkA : kidn G x (tsn G x o) ∈ allR G := by
      unfold allR at hx ⊢
      split at hx
      · exact absurd hx (by simp)
      · rename_i hz
        rw [if_neg hz]
        have hm : kidn G x (tsn G x o) ∈ sub G 2 x := by
          unfold sub
          refine List.mem_cons_of_mem _ (List.mem_flatMap.mpr ⟨kidn G x (tsn G x o), ?_, ?_⟩)
          · unfold chd
            exact List.mem_map.mpr ⟨_, (cht_iff (tsn G x) _ h0 4).mpr ⟨o, ho, rfl⟩, rfl⟩
          · unfold sub
            simp
        obtain ⟨k, hk⟩ := sub_tr 13 _ x hx 2 _ hm
        exact sub_up w k _ (rtn_ok w (gpl_pos hz)) (show G 2 - 1 < 13 by omega) _ hk
    have hpc : (p ++ [o]).length + 1 = pcn (kidn G x (tsn G x o)).2.1 := by
      have : pcn (kidn G x (tsn G x o)).2.1 = pcn x.2.1 + 1 := pcn_add (by omega) (hok.2.2.2.1 _ (by omega))
      rw [this, List.length_append, List.length_singleton]
      omega
    have hs := x_sgb X w R k1 he hL
    have hk2 : (kidn G x (tsn G x o)).2.1 = x.2.1 ||| 2 ^ (tsn G x o - 1) := rfl
    rw [hk2] at hs
    exact ⟨_, hs, sgc_iff w h hkA (by omega) hpc⟩
  have hnone : ∀ o, (wdd G e n x p o).find? (lenB L) = none → ¬ ∃ v, v ∈ wdd G e n x p o ∧ v.length = L := by
    rintro o ho ⟨v, v1, v2⟩
    rw [List.find?_eq_none] at ho
    exact ho v v1 ((lenB_iff L v).mpr v2)
  have humem : u ∈ wdd G e n x p d ∧ u.length = L := ⟨List.mem_of_find?_eq_some hdu, (lenB_iff L u).mp (List.find?_some hdu)⟩
  have hsl : p.length + 1 = L → gsl G x.1 = e := by
    intro hl
    obtain ⟨u1, u2⟩ := humem
    unfold wdd at u1
    split at u1
    · split at u1
      · assumption
      · exact absurd u1 (by simp)
    · rename_i h0
      obtain ⟨k1, -, -⟩ := tsn_kid w hok hd h0
      have := (wds_len w e n _ _ k1 u u1).1
      rw [List.length_append, List.length_singleton] at this
      omega
  obtain ⟨m, e2⟩ := lp_run (fun m (z : Int32) => f_X6_steerTo_L53 0 (nI e) (nI L) (nI x.2.1) (nI p.length) (nI x.1) (nI x.2.2) k21 k26 m z (rwS sc (nI Q.length) f)) (fun o => nI o) d (fun m o ho => by
    show f_X6_steerTo_L53 0 (nI e) (nI L) (nI x.2.1) (nI p.length) (nI x.1) (nI x.2.2) k21 k26 (m + 1) (nI o) (rwS sc (nI Q.length) f) = f_X6_steerTo_L53 0 (nI e) (nI L) (nI x.2.1) (nI p.length) (nI x.1) (nI x.2.2) k21 k26 m (nI (o + 1)) (rwS sc (nI Q.length) f)
    have hono := hon o (by omega)
    have hno := hnone o (hdo o ho)
    rw [f_X6_steerTo_L53]
    by_cases h0 : tsn G x o = 0
    · rw [h0] at hono
      by_cases hl : p.length + 1 = L
      · exfalso
        refine hno ⟨p ++ [o], ?_, by rw [List.length_append, List.length_singleton]; exact hl⟩
        unfold wdd
        rw [if_pos h0, if_pos (hsl hl)]
        simp
      · simp (disch := omega) only [fLt_e, fBd_s, fJn_s, fNn_s, fNu_0, fNu_s, fBo_0, fBo_1, fBo_b, i_lit, i_neg1, nI_add, pk_mul, nI_clamp, i_le, i_lt, i_eq, fIx_n, nI_mI, mI_nI, mI_lt, nI_lt_m, mI_le, nI_le_m, xI_0, xI_s, bI_0, bI_1, bI_t, bI_f, n_31, j_bit, j_one, i_and, i_or, Nat.not_lt_zero, Nat.succ_ne_zero, Nat.add_one_ne_zero, Nat.add_one_sub_one, Nat.zero_le, Nat.or_zero, Nat.zero_or, Bool.not_true, Bool.not_false, Bool.true_and, Bool.false_and, Bool.and_true, Bool.and_false, ↓reduceIte, if_true, if_false, not_true_eq_false, not_false_eq_true, true_and, and_true, false_and, and_false, and_self, true_or, or_true, false_or, or_false, Nat.reduceEqDiff, Nat.reduceLT, Nat.reduceLeDiff, Nat.reduceAdd, Nat.reduceMul, Nat.reduceSub, Nat.add_zero, Nat.zero_add, Nat.mul_zero, Nat.zero_mul, ne_eq, Bool.not_eq_true, Bool.not_eq_false, reduceCtorEq, decide_true, decide_false, decide_eq_true_eq, decide_eq_false_iff_not, Bool.false_eq_true, if_pos, if_neg, hono, hl]
    · obtain ⟨b, b1, b2⟩ := hany o (by omega) h0
      have hbf : ¬ p.length + 1 = L → b = false := by
        intro hl
        cases b with
        | false => rfl
        | true =>
          exfalso
          obtain ⟨v, v1, v2⟩ := b2.mp rfl
          refine hno ⟨v, ?_, v2⟩
          unfold wdd
          rw [if_neg h0]
          exact v1
      obtain ⟨tv, htv⟩ : ∃ tv, tsn G x o = tv + 1 := ⟨tsn G x o - 1, (Nat.sub_add_cancel (Nat.pos_of_ne_zero h0)).symm⟩
      have htl := (tsn_kid w hok (show o < 4 by omega) h0).2.2
      rw [htv] at hono b1 htl
      rw [Nat.add_sub_cancel] at b1
      by_cases hl : p.length + 1 = L
      · simp (disch := omega) only [fLt_e, fBd_s, fJn_s, fNn_s, fNu_0, fNu_s, fBo_0, fBo_1, fBo_b, i_lit, i_neg1, nI_add, pk_mul, nI_clamp, i_le, i_lt, i_eq, fIx_n, nI_mI, mI_nI, mI_lt, nI_lt_m, mI_le, nI_le_m, xI_0, xI_s, bI_0, bI_1, bI_t, bI_f, n_31, j_bit, j_one, i_and, i_or, Nat.not_lt_zero, Nat.succ_ne_zero, Nat.add_one_ne_zero, Nat.add_one_sub_one, Nat.zero_le, Nat.or_zero, Nat.zero_or, Bool.not_true, Bool.not_false, Bool.true_and, Bool.false_and, Bool.and_true, Bool.and_false, ↓reduceIte, if_true, if_false, not_true_eq_false, not_false_eq_true, true_and, and_true, false_and, and_false, and_self, true_or, or_true, false_or, or_false, Nat.reduceEqDiff, Nat.reduceLT, Nat.reduceLeDiff, Nat.reduceAdd, Nat.reduceMul, Nat.reduceSub, Nat.add_zero, Nat.zero_add, Nat.mul_zero, Nat.zero_mul, ne_eq, Bool.not_eq_true, Bool.not_eq_false, reduceCtorEq, decide_true, decide_false, decide_eq_true_eq, decide_eq_false_iff_not, Bool.false_eq_true, if_pos, if_neg, hono, hl]
      · rw [hbf hl] at b1
        simp (disch := omega) only [fLt_e, fBd_s, fJn_s, fNn_s, fNu_0, fNu_s, fBo_0, fBo_1, fBo_b, i_lit, i_neg1, nI_add, pk_mul, nI_clamp, i_le, i_lt, i_eq, fIx_n, nI_mI, mI_nI, mI_lt, nI_lt_m, mI_le, nI_le_m, xI_0, xI_s, bI_0, bI_1, bI_t, bI_f, n_31, j_bit, j_one, i_and, i_or, Nat.not_lt_zero, Nat.succ_ne_zero, Nat.add_one_ne_zero, Nat.add_one_sub_one, Nat.zero_le, Nat.or_zero, Nat.zero_or, Bool.not_true, Bool.not_false, Bool.true_and, Bool.false_and, Bool.and_true, Bool.and_false, ↓reduceIte, if_true, if_false, not_true_eq_false, not_false_eq_true, true_and, and_true, false_and, and_false, and_self, true_or, or_true, false_or, or_false, Nat.reduceEqDiff, Nat.reduceLT, Nat.reduceLeDiff, Nat.reduceAdd, Nat.reduceMul, Nat.reduceSub, Nat.add_zero, Nat.zero_add, Nat.mul_zero, Nat.zero_mul, ne_eq, Bool.not_eq_true, Bool.not_eq_false, reduceCtorEq, decide_true, decide_false, decide_eq_true_eq, decide_eq_false_iff_not, Bool.false_eq_true, if_pos, if_neg, hono, hl, hgp, b1]) (fF_lt (by omega))
  refine Eq.trans e2 ?_
  show f_X6_steerTo_L53 0 (nI e) (nI L) (nI x.2.1) (nI p.length) (nI x.1) (nI x.2.2) k21 k26 (m + 1) (nI d) (rwS sc (nI Q.length) f) = _
  have hono := hon d hd
  obtain ⟨u1, u2⟩ := humem
  rw [f_X6_steerTo_L53]
  by_cases h0 : tsn G x d = 0
  · rw [h0] at hono ⊢
    have hl : p.length + 1 = L := by
      unfold wdd at u1
      rw [if_pos h0] at u1
      split at u1
      · rw [List.mem_singleton] at u1
        rw [u1, List.length_append, List.length_singleton] at u2
        exact u2
      · exact absurd u1 (by simp)
    simp (disch := omega) only [fLt_e, fBd_s, fJn_s, fNn_s, fNu_0, fNu_s, fBo_0, fBo_1, fBo_b, i_lit, i_neg1, nI_add, pk_mul, nI_clamp, i_le, i_lt, i_eq, fIx_n, nI_mI, mI_nI, mI_lt, nI_lt_m, mI_le, nI_le_m, xI_0, xI_s, bI_0, bI_1, bI_t, bI_f, n_31, j_bit, j_one, i_and, i_or, Nat.not_lt_zero, Nat.succ_ne_zero, Nat.add_one_ne_zero, Nat.add_one_sub_one, Nat.zero_le, Nat.or_zero, Nat.zero_or, Bool.not_true, Bool.not_false, Bool.true_and, Bool.false_and, Bool.and_true, Bool.and_false, ↓reduceIte, if_true, if_false, not_true_eq_false, not_false_eq_true, true_and, and_true, false_and, and_false, and_self, true_or, or_true, false_or, or_false, Nat.reduceEqDiff, Nat.reduceLT, Nat.reduceLeDiff, Nat.reduceAdd, Nat.reduceMul, Nat.reduceSub, Nat.add_zero, Nat.zero_add, Nat.mul_zero, Nat.zero_mul, ne_eq, Bool.not_eq_true, Bool.not_eq_false, reduceCtorEq, decide_true, decide_false, decide_eq_true_eq, decide_eq_false_iff_not, Bool.false_eq_true, if_pos, if_neg, hono, hl]
  · obtain ⟨b, b1, b2⟩ := hany d hd h0
    unfold wdd at u1
    rw [if_neg h0] at u1
    have hb : b = true := b2.mpr ⟨u, u1, u2⟩
    obtain ⟨k1, -, htl⟩ := tsn_kid w hok hd h0
    have hlen := (wds_len w e n _ _ k1 u u1).1
    rw [List.length_append, List.length_singleton] at hlen
    have hl : ¬ p.length + 1 = L := by omega
    obtain ⟨tv, htv⟩ : ∃ tv, tsn G x d = tv + 1 := ⟨tsn G x d - 1, (Nat.sub_add_cancel (Nat.pos_of_ne_zero h0)).symm⟩
    rw [htv] at hono b1 htl ⊢
    rw [Nat.add_sub_cancel] at b1
    rw [hb] at b1
    simp (disch := omega) only [fLt_e, fBd_s, fJn_s, fNn_s, fNu_0, fNu_s, fBo_0, fBo_1, fBo_b, i_lit, i_neg1, nI_add, pk_mul, nI_clamp, i_le, i_lt, i_eq, fIx_n, nI_mI, mI_nI, mI_lt, nI_lt_m, mI_le, nI_le_m, xI_0, xI_s, bI_0, bI_1, bI_t, bI_f, n_31, j_bit, j_one, i_and, i_or, Nat.not_lt_zero, Nat.succ_ne_zero, Nat.add_one_ne_zero, Nat.add_one_sub_one, Nat.zero_le, Nat.or_zero, Nat.zero_or, Bool.not_true, Bool.not_false, Bool.true_and, Bool.false_and, Bool.and_true, Bool.and_false, ↓reduceIte, if_true, if_false, not_true_eq_false, not_false_eq_true, true_and, and_true, false_and, and_false, and_self, true_or, or_true, false_or, or_false, Nat.reduceEqDiff, Nat.reduceLT, Nat.reduceLeDiff, Nat.reduceAdd, Nat.reduceMul, Nat.reduceSub, Nat.add_zero, Nat.zero_add, Nat.mul_zero, Nat.zero_mul, ne_eq, Bool.not_eq_true, Bool.not_eq_false, reduceCtorEq, decide_true, decide_false, decide_eq_true_eq, decide_eq_false_iff_not, Bool.false_eq_true, if_pos, if_neg, hono, hl, hgp, b1]
theorem x_st15 (X : rHou sc 0 q G) (w : gWf G) (R : rwk G Q f) (h : Q.Perm (allR G)) {e L : Nat} (he : e ≤ 9) (hL : L ≤ 12) {u : List Nat} (hu : u.length = L) (k5 : fSt → Option (Unit × fSt)) : ∀ r n m (x : nT) (p : List Nat) (g0 : Nat) (gs : Nat → Int32), p.length + r = L → r < m → x ∈ allR G → (0 < r → x.1 < n) → g0 < 64 → gkil G x.1 g0 = x.2.2 → (p.length < L → p.length + 1 = pcn x.2.1) → (r = 0 → p = u) → (0 < r → (wds G e n x p).find? (lenB L) = some u) → pRel p gs →
    ∃ gs', f_X6_steerTo_L15 0 (nI e) (nI L) k5 m (nI x.2.1) (nI g0) (nI p.length) (tS sc (nI Q.length) f gs) = k5 (tS sc (nI Q.length) f gs') ∧ pRel u gs' := by
  intro r
  induction r with
  | zero =>
    intro n m x p g0 gs hr hm hx hn hg0 hgk hpc hpu _ hpr
    obtain ⟨m, rfl⟩ : ∃ k, m = k + 1 := ⟨m - 1, by omega⟩
    refine ⟨gs, ?_, by rw [← hpu rfl]; exact hpr⟩
    have hpl : p.length = L := by omega
    rw [f_X6_steerTo_L15, hpl]
    simp (disch := omega) only [fLt_e, fBd_s, fJn_s, fNn_s, fNu_0, fNu_s, fBo_0, fBo_1, fBo_b, i_lit, i_neg1, nI_add, pk_mul, nI_clamp, i_le, i_lt, i_eq, fIx_n, nI_mI, mI_nI, mI_lt, nI_lt_m, mI_le, nI_le_m, xI_0, xI_s, bI_0, bI_1, bI_t, bI_f, n_31, j_bit, j_one, i_and, i_or, Nat.not_lt_zero, Nat.succ_ne_zero, Nat.add_one_ne_zero, Nat.add_one_sub_one, Nat.zero_le, Nat.or_zero, Nat.zero_or, Bool.not_true, Bool.not_false, Bool.true_and, Bool.false_and, Bool.and_true, Bool.and_false, ↓reduceIte, if_true, if_false, not_true_eq_false, not_false_eq_true, true_and, and_true, false_and, and_false, and_self, true_or, or_true, false_or, or_false, Nat.reduceEqDiff, Nat.reduceLT, Nat.reduceLeDiff, Nat.reduceAdd, Nat.reduceMul, Nat.reduceSub, Nat.add_zero, Nat.zero_add, Nat.mul_zero, Nat.zero_mul, ne_eq, Bool.not_eq_true, Bool.not_eq_false, reduceCtorEq, decide_true, decide_false, decide_eq_true_eq, decide_eq_false_iff_not, Bool.false_eq_true, if_pos, if_neg]
  | succ r ih =>
    intro n m x p g0 gs hr hm hx hn hg0 hgk hpc _ hfu hpr
    obtain ⟨m, rfl⟩ : ∃ k, m = k + 1 := ⟨m - 1, by omega⟩
    have hn := hn (by omega)
    obtain ⟨n, rfl⟩ : ∃ k, n = k + 1 := ⟨n - 1, by omega⟩
    have w1 := w.1
    have hok := allR_ok w x hx
    have hx1 := hok.1
    have hx2 := hok.2.1
    have hpl : p.length < L := by omega
    have hf := hfu (by omega)
    have hwd : wds G e (n + 1) x p = (List.range 4).flatMap (wdd G e n x p) := rfl
    rw [hwd] at hf
    obtain ⟨d, hd, hdu, hdo⟩ := first_d _ _ _ _ hf
    have h53 := x_st53 (sc := sA sc 11 0 3 gs) X w R h he hL hx hn (hpc hpl) hpl hd hdu hdo
    have h53 : ∀ k21 k26, f_X6_steerTo_L53 0 (nI e) (nI L) (nI x.2.1) (nI p.length) (nI x.1) (nI x.2.2) k21 k26 fF (nI 0) (tS sc (nI Q.length) f gs) = k26 (nI d) (xI (tsn G x d)) (tS sc (nI Q.length) f gs) := h53
    have hla : f_X6_lastOf (nI x.2.1) (tS sc (nI Q.length) f gs) = some (nI x.1, tS sc (nI Q.length) f gs) := x_lastOf (by omega) hok.2.2.1 hok.2.2.2.1 _
    have hki : f_X7_killedIn q (nI x.1) (tS sc (nI Q.length) f gs) = some (nI (gkv G x.1), tS sc (nI Q.length) f gs) := x_killed (sc := tS sc (nI Q.length) f gs) X.2.1 w hx1
    have hgv : g0 ||| gkv G x.1 = x.2.2 := by rw [← hgk, gkil_v]
    have hgp : gP (tS sc (nI Q.length) f gs) 2 0 0 = q + 1 := X.1
    have hpa := pRel_add hpr d
    have hpl1 : (p ++ [d]).length = p.length + 1 := by rw [List.length_append, List.length_singleton]
    by_cases h0 : tsn G x d = 0
    · have hlu : p ++ [d] = u ∧ p.length + 1 = L := by
        have hm := List.mem_of_find?_eq_some hdu
        have hm2 := (lenB_iff L u).mp (List.find?_some hdu)
        unfold wdd at hm
        rw [if_pos h0] at hm
        split at hm
        · rw [List.mem_singleton] at hm
          refine ⟨hm.symm, ?_⟩
          rw [hm, hpl1] at hm2
          exact hm2
        · exact absurd hm (by simp)
      obtain ⟨gs', e3, q3⟩ := ih n m x (p ++ [d]) x.2.2 (upd gs p.length (nI d)) (by rw [hpl1]; omega) (by omega) hx (by
        have := hlu.2
        intro hh
        omega) hok.2.2.2.2 (by
        rw [← hgk, gkil_v, gkil_v, Nat.or_assoc, Nat.or_self]) (by rw [hpl1]; intro hh; omega) (fun _ => hlu.1) (by intro hh; omega) hpa
      refine ⟨gs', ?_, q3⟩
      rw [hpl1] at e3
      rw [f_X6_steerTo_L15]
      simp (disch := omega) only [fLt_e, fBd_s, fJn_s, fNn_s, fNu_0, fNu_s, fBo_0, fBo_1, fBo_b, i_lit, i_neg1, nI_add, pk_mul, nI_clamp, i_le, i_lt, i_eq, fIx_n, nI_mI, mI_nI, mI_lt, nI_lt_m, mI_le, nI_le_m, xI_0, xI_s, bI_0, bI_1, bI_t, bI_f, n_31, j_bit, j_one, i_and, i_or, Nat.not_lt_zero, Nat.succ_ne_zero, Nat.add_one_ne_zero, Nat.add_one_sub_one, Nat.zero_le, Nat.or_zero, Nat.zero_or, Bool.not_true, Bool.not_false, Bool.true_and, Bool.false_and, Bool.and_true, Bool.and_false, ↓reduceIte, if_true, if_false, not_true_eq_false, not_false_eq_true, true_and, and_true, false_and, and_false, and_self, true_or, or_true, false_or, or_false, Nat.reduceEqDiff, Nat.reduceLT, Nat.reduceLeDiff, Nat.reduceAdd, Nat.reduceMul, Nat.reduceSub, Nat.add_zero, Nat.zero_add, Nat.mul_zero, Nat.zero_mul, ne_eq, Bool.not_eq_true, Bool.not_eq_false, reduceCtorEq, decide_true, decide_false, decide_eq_true_eq, decide_eq_false_iff_not, Bool.false_eq_true, if_pos, if_neg, hla, hgp, hki, hgv, h53, h0, tS_g, tS_s]
      exact e3
    · obtain ⟨k1, k2, htl⟩ := tsn_kid w hok hd h0
      have hfk : (wds G e n (kidn G x (tsn G x d)) (p ++ [d])).find? (lenB L) = some u := by
        have := hdu
        unfold wdd at this
        rw [if_neg h0] at this
        exact this
      have hkA : kidn G x (tsn G x d) ∈ allR G := by
        unfold allR at hx ⊢
        split at hx
        · exact absurd hx (by simp)
        · rename_i hz
          rw [if_neg hz]
          have hm : kidn G x (tsn G x d) ∈ sub G 2 x := by
            unfold sub
            refine List.mem_cons_of_mem _ (List.mem_flatMap.mpr ⟨kidn G x (tsn G x d), ?_, ?_⟩)
            · unfold chd
              exact List.mem_map.mpr ⟨_, (cht_iff (tsn G x) _ h0 4).mpr ⟨d, hd, rfl⟩, rfl⟩
            · unfold sub
              simp
          obtain ⟨k, hk⟩ := sub_tr 13 _ x hx 2 _ hm
          exact sub_up w k _ (rtn_ok w (gpl_pos hz)) (show G 2 - 1 < 13 by omega) _ hk
      have hrp : 0 < r := by
        have hm := List.mem_of_find?_eq_some hfk
        have hm2 := (lenB_iff L u).mp (List.find?_some hfk)
        have := (wds_len w e n _ _ k1 u hm).1
        rw [hpl1] at this
        omega
      obtain ⟨tv, htv⟩ : ∃ tv, tsn G x d = tv + 1 := ⟨tsn G x d - 1, (Nat.sub_add_cancel (Nat.pos_of_ne_zero h0)).symm⟩
      rw [htv] at k1 k2 hkA hfk h53 htl
      have hk1 : (kidn G x (tv + 1)).1 = tv := rfl
      have hk2 : (kidn G x (tv + 1)).2.1 = x.2.1 ||| 2 ^ tv := rfl
      have hpk : pcn (x.2.1 ||| 2 ^ tv) = pcn x.2.1 + 1 := pcn_add (by omega) (hok.2.2.2.1 _ (by omega))
      obtain ⟨gs', e3, q3⟩ := ih n m (kidn G x (tv + 1)) (p ++ [d]) x.2.2 (upd gs p.length (nI d)) (by rw [hpl1]; omega) (by omega) hkA (by intro _; rw [hk1]; omega) hok.2.2.2.2 rfl (by
        intro _
        rw [hpl1, hk2, hpk]
        have := hpc hpl
        omega) (by intro hh; omega) (fun _ => hfk) hpa
      refine ⟨gs', ?_, q3⟩
      rw [hpl1, hk2] at e3
      rw [f_X6_steerTo_L15]
      simp (disch := omega) only [fLt_e, fBd_s, fJn_s, fNn_s, fNu_0, fNu_s, fBo_0, fBo_1, fBo_b, i_lit, i_neg1, nI_add, pk_mul, nI_clamp, i_le, i_lt, i_eq, fIx_n, nI_mI, mI_nI, mI_lt, nI_lt_m, mI_le, nI_le_m, xI_0, xI_s, bI_0, bI_1, bI_t, bI_f, n_31, j_bit, j_one, i_and, i_or, Nat.not_lt_zero, Nat.succ_ne_zero, Nat.add_one_ne_zero, Nat.add_one_sub_one, Nat.zero_le, Nat.or_zero, Nat.zero_or, Bool.not_true, Bool.not_false, Bool.true_and, Bool.false_and, Bool.and_true, Bool.and_false, ↓reduceIte, if_true, if_false, not_true_eq_false, not_false_eq_true, true_and, and_true, false_and, and_false, and_self, true_or, or_true, false_or, or_false, Nat.reduceEqDiff, Nat.reduceLT, Nat.reduceLeDiff, Nat.reduceAdd, Nat.reduceMul, Nat.reduceSub, Nat.add_zero, Nat.zero_add, Nat.mul_zero, Nat.zero_mul, ne_eq, Bool.not_eq_true, Bool.not_eq_false, reduceCtorEq, decide_true, decide_false, decide_eq_true_eq, decide_eq_false_iff_not, Bool.false_eq_true, if_pos, if_neg, hla, hgp, hki, hgv, h53, tS_g, tS_s]
      exact e3
end
theorem m_stL79 {st : fSt} {L : Nat} (hL : L ≤ 12) (h47 : gI st 12 0 47 = nI L) : f_X12_steer_L79 fF (nI 0) st = some (nI L, sA st 12 0 16 (fun k => if k < L then gA st 12 0 17 k else gA st 12 0 16 k)) := by
  obtain ⟨m, e⟩ := lp_run (fun m (z : Int32 × fSt) => f_X12_steer_L79 m z.1 z.2) (fun i => (nI i, sA st 12 0 16 (fun k => if k < i then gA st 12 0 17 k else gA st 12 0 16 k))) L (fun m i hi => by
    show f_X12_steer_L79 (m + 1) (nI i) (sA st 12 0 16 (fun k => if k < i then gA st 12 0 17 k else gA st 12 0 16 k)) = f_X12_steer_L79 m (nI (i + 1)) (sA st 12 0 16 (fun k => if k < i + 1 then gA st 12 0 17 k else gA st 12 0 16 k))
    have hup : upd (fun k => if k < i then gA st 12 0 17 k else gA st 12 0 16 k) i (gA st 12 0 17 i) = fun k => if k < i + 1 then gA st 12 0 17 k else gA st 12 0 16 k := by
      funext k
      rw [upd_at]
      by_cases h : k = i
      · have h3 : k < i + 1 := by omega
        rw [if_pos h, if_pos h3, h]
      · rw [if_neg h]
        by_cases h2 : k < i
        · have h3 : k < i + 1 := by omega
          rw [if_pos h2, if_pos h3]
        · have h3 : ¬ k < i + 1 := by omega
          rw [if_neg h2, if_neg h3]
    have r1 : ∀ F, gI (sA st 12 0 16 F) 12 0 47 = nI L := fun F => h47
    have r2 : ∀ F, gA (sA st 12 0 16 F) 12 0 17 = gA st 12 0 17 := fun F => rfl
    have r3 : ∀ F, gA (sA st 12 0 16 F) 12 0 16 = F := fun F => rfl
    rw [f_X12_steer_L79]
    simp (disch := omega) only [fLt_e, fBd_s, fJn_s, fNn_s, fNu_0, fNu_s, fBo_0, fBo_1, fBo_b, i_lit, i_neg1, nI_add, pk_mul, nI_clamp, i_le, i_lt, i_eq, fIx_n, nI_mI, mI_nI, mI_lt, nI_lt_m, mI_le, nI_le_m, xI_0, xI_s, bI_0, bI_1, bI_t, bI_f, n_31, j_bit, j_one, i_and, i_or, Nat.not_lt_zero, Nat.succ_ne_zero, Nat.add_one_ne_zero, Nat.add_one_sub_one, Nat.zero_le, Nat.or_zero, Nat.zero_or, Bool.not_true, Bool.not_false, Bool.true_and, Bool.false_and, Bool.and_true, Bool.and_false, ↓reduceIte, if_true, if_false, not_true_eq_false, not_false_eq_true, true_and, and_true, false_and, and_false, and_self, true_or, or_true, false_or, or_false, Nat.reduceEqDiff, Nat.reduceLT, Nat.reduceLeDiff, Nat.reduceAdd, Nat.reduceMul, Nat.reduceSub, Nat.add_zero, Nat.zero_add, Nat.mul_zero, Nat.zero_mul, ne_eq, Bool.not_eq_true, Bool.not_eq_false, reduceCtorEq, decide_true, decide_false, decide_eq_true_eq, decide_eq_false_iff_not, Bool.false_eq_true, if_pos, if_neg, r1, r2, r3, sA_sA, hup]) (fF_lt (by omega))
  refine Eq.trans ?_ (Eq.trans e ?_)
  · have : (fun k => if k < 0 then gA st 12 0 17 k else gA st 12 0 16 k) = gA st 12 0 16 := by
      funext k
      rw [if_neg (Nat.not_lt_zero k)]
    show f_X12_steer_L79 fF (nI 0) st = f_X12_steer_L79 fF (nI 0) (sA st 12 0 16 (fun k => if k < 0 then gA st 12 0 17 k else gA st 12 0 16 k))
    rw [this, sA_self]
  · have r1 : ∀ F, gI (sA st 12 0 16 F) 12 0 47 = nI L := fun F => h47
    show f_X12_steer_L79 (m + 1) (nI L) (sA st 12 0 16 (fun k => if k < L then gA st 12 0 17 k else gA st 12 0 16 k)) = _
    rw [f_X12_steer_L79]
    simp (disch := omega) only [fLt_e, fBd_s, fJn_s, fNn_s, fNu_0, fNu_s, fBo_0, fBo_1, fBo_b, i_lit, i_neg1, nI_add, pk_mul, nI_clamp, i_le, i_lt, i_eq, fIx_n, nI_mI, mI_nI, mI_lt, nI_lt_m, mI_le, nI_le_m, xI_0, xI_s, bI_0, bI_1, bI_t, bI_f, n_31, j_bit, j_one, i_and, i_or, Nat.not_lt_zero, Nat.succ_ne_zero, Nat.add_one_ne_zero, Nat.add_one_sub_one, Nat.zero_le, Nat.or_zero, Nat.zero_or, Bool.not_true, Bool.not_false, Bool.true_and, Bool.false_and, Bool.and_true, Bool.and_false, ↓reduceIte, if_true, if_false, not_true_eq_false, not_false_eq_true, true_and, and_true, false_and, and_false, and_self, true_or, or_true, false_or, or_false, Nat.reduceEqDiff, Nat.reduceLT, Nat.reduceLeDiff, Nat.reduceAdd, Nat.reduceMul, Nat.reduceSub, Nat.add_zero, Nat.zero_add, Nat.mul_zero, Nat.zero_mul, ne_eq, Bool.not_eq_true, Bool.not_eq_false, reduceCtorEq, decide_true, decide_false, decide_eq_true_eq, decide_eq_false_iff_not, Bool.false_eq_true, if_pos, if_neg, r1]
theorem mEq_mT (st : fSt) (v : Int32) (a t : Nat → Int32) : mEq st (mT st v a t) := ⟨⟨rfl, rfl, rfl, rfl, rfl, rfl, rfl⟩, ⟨rfl, rfl⟩, ⟨rfl, rfl, rfl, rfl, rfl, rfl, rfl⟩, rfl, rfl⟩
theorem call_steer (a : Int32) : CALL (f_X11_steer a) (f_X12_steer a) := by
  intro sc sm ⟨hA, H⟩
  have H := pro_x H
  have z := pro_0 sm
  unfold f_X11_steer f_X12_steer
  simp only [fLt_e, pro_eq]
  generalize pro sm = s2 at *
  obtain ⟨q, G, w, X, B, -⟩ := RX_cur H
  have w1 := w.1
  have w2 := w.2.1
  have i3 : ∀ st, f_X11_isIn a (nI 0) (nI 9) st = some (bI (inB a.toInt 0 9), st) := fun st => x_isIn a 0 9 st
  have i4 : ∀ st, f_X12_isIn a.toInt64 0 9 st = some (bI (inB a.toInt 0 9), st) := fun st => m_isIn_c a 0 9 st
  by_cases ha : 0 ≤ a.toInt ∧ a.toInt < 10
  · rw [inB_t.mpr (by omega)] at i3 i4
    obtain ⟨e, he, rfl, -⟩ := nI_ofInt (n := 10) ha.1 (by omega)
    obtain ⟨Q, f, ef, q1, q2⟩ := x_findAll X w
    have R := rwk_of w q1 q2
    have hX : rHou (sI sc 6 0 3 (nI (opn G))) 0 q G := X
    have hst := x_shortestTo hX w R (show e ≤ 9 by omega)
    have hgp : gP (rwS (sI sc 6 0 3 (nI (opn G))) (nI Q.length) f) 2 0 0 = q + 1 := X.1
    -- the reference
    have hm0 : sI s2 12 0 47 mI = mT s2 mI (gA s2 12 0 15) (gA s2 12 0 17) := by
      unfold mT
      have e1 : sA (sA s2 12 0 15 (gA s2 12 0 15)) 12 0 17 (gA s2 12 0 17) = s2 := by rw [sA_self, sA_self]
      rw [e1]
    have BT : ∀ v a t, rBlk (gA (mT s2 v a t) 12 0 5) G := fun _ _ _ => B
    have mdk : ∀ v a t, f_X12_isDark (mT s2 v a t) = some (bI (decide (gpl G (G 2) (G 5) = 0)), mT s2 v a t) := fun v a t => m_isDark (BT v a t) w
    have hAp : ∀ y ∈ Q, 0 < pcn y.2.1 := by
      intro y hy
      have hok := allR_ok w y (q1.mem_iff.mp hy)
      have hlt : y.1 < 12 := bit_lt hok.2.1 hok.2.2.1
      have e1 : y.2.1 = dif y.2.1 (2 ^ y.1) ||| 2 ^ y.1 := by
        apply Nat.eq_of_testBit_eq
        intro i
        rw [Nat.testBit_or, dif_bit, Nat.testBit_two_pow]
        by_cases hi : y.1 = i
        · subst hi
          rw [hok.2.2.1]
          simp
        · rw [decide_eq_false hi]
          simp
      rw [e1, pcn_add hlt (by rw [dif_bit, Nat.testBit_two_pow]; simp)]
      omega
    obtain ⟨s1, s3, -⟩ := sto_spec (G := G) e Q 0 hAp
    by_cases h0 : gpl G (G 2) (G 5) = 0
    · have hQ0 : Q = [] := by
        have hA0 : allR G = [] := if_pos h0
        rw [hA0] at q1
        exact q1.eq_nil
      have hz0 : Q.foldl (sto G e) 0 = 0 := by rw [hQ0]; rfl
      rw [hz0] at hst
      have mdk' : ∀ v a t, f_X12_isDark (mT s2 v a t) = some (bI true, mT s2 v a t) := fun v a t => by rw [mdk, decide_eq_true h0]
      simp (disch := omega) only [fLt_e, fBd_s, fJn_s, fNn_s, fNu_0, fNu_s, fBo_0, fBo_1, fBo_b, i_lit, i_neg1, nI_add, pk_mul, nI_clamp, i_le, i_lt, i_eq, fIx_n, nI_mI, mI_nI, mI_lt, nI_lt_m, mI_le, nI_le_m, xI_0, xI_s, bI_0, bI_1, bI_t, bI_f, n_31, j_bit, j_one, i_and, i_or, Nat.not_lt_zero, Nat.succ_ne_zero, Nat.add_one_ne_zero, Nat.add_one_sub_one, Nat.zero_le, Nat.or_zero, Nat.zero_or, Bool.not_true, Bool.not_false, Bool.true_and, Bool.false_and, Bool.and_true, Bool.and_false, ↓reduceIte, if_true, if_false, not_true_eq_false, not_false_eq_true, true_and, and_true, false_and, and_false, and_self, true_or, or_true, false_or, or_false, Nat.reduceEqDiff, Nat.reduceLT, Nat.reduceLeDiff, Nat.reduceAdd, Nat.reduceMul, Nat.reduceSub, Nat.add_zero, Nat.zero_add, Nat.mul_zero, Nat.zero_mul, ne_eq, Bool.not_eq_true, Bool.not_eq_false, reduceCtorEq, decide_true, decide_false, decide_eq_true_eq, decide_eq_false_iff_not, Bool.false_eq_true, if_pos, if_neg, i3, i4, ef, hgp, hst, hm0, mdk', mT_v, f_X11_fail, f_X12_refuse]
      exact ⟨_, _, _, rfl, rfl, fin_st (RX_e (cEq_rw sc _ _ _) (mEq_mT s2 _ _ _) H) _⟩
    · have mdk' : ∀ v a t, f_X12_isDark (mT s2 v a t) = some (bI false, mT s2 v a t) := fun v a t => by rw [mdk, decide_eq_false h0]
      have hpos := gpl_pos h0
      have hro := rtn_ok w hpos
      have hAl : allR G = sub G 13 (rtn G) := if_neg h0
      have hrA : rtn G ∈ allR G := by rw [hAl]; unfold sub; simp
      have hr2 : pcn (rtn G).2.1 = 1 := by
        have e1 : (rtn G).2.1 = 0 ||| 2 ^ (G 2 - 1) := by rw [Nat.zero_or]; rfl
        rw [e1, pcn_add (by omega) (Nat.zero_testBit _)]
        rfl
      have hsf := m_steerFrom (sm := s2) B w (e := e) (by omega) 14 (rtn G) 0 [] none mI (gA s2 12 0 15) (gA s2 12 0 17) hro (show G 2 - 1 < 14 by omega) (by omega) (by rw [Nat.or_zero]; rfl) (show 0 + (G 2 - 1) < 12 by omega) rfl (fun k hk => absurd hk (Nat.not_lt_zero k))
      obtain ⟨v', a', t', e1, b1, -⟩ := hsf
      have e1 : f_X12_steerFrom 14 (nI (G 2 - 1)) (nI 0) (nI 0) (nI e) (mT s2 mI (gA s2 12 0 15) (gA s2 12 0 17)) = some ((), mT s2 v' a' t') := e1
      have hg2 : gA (mT s2 mI (gA s2 12 0 15) (gA s2 12 0 17)) 12 0 5 2 = nI (G 2) := B.1.2.2.1
      have hsb : nI (G 2) - nI 1 = nI (G 2 - 1) := nI_sub (by omega)
      have hsub : ∀ L, (∃ u, u ∈ wds G e 14 (rtn G) [] ∧ u.length = L) ↔ ∃ y, y ∈ Q ∧ ovr G y = true ∧ gsl G y.1 = e ∧ pcn y.2.1 = L := by
        intro L
        rw [wds_sub w e 14 (rtn G) [] L hro, hr2, sub_fuel w 14 13 (rtn G) hro (show G 2 - 1 < 14 by omega) (show G 2 - 1 < 13 by omega), ← hAl]
        constructor
        · rintro ⟨y, y1, y2, y3, y4⟩
          rw [List.length_nil] at y4
          exact ⟨y, q1.mem_iff.mpr y1, y2, y3, by omega⟩
        · rintro ⟨y, y1, y2, y3, y4⟩
          exact ⟨y, q1.mem_iff.mp y1, y2, y3, by rw [List.length_nil]; omega⟩
      rcases upB_none (wds G e 14 (rtn G) []) with ⟨hn, hb⟩ | ⟨u, hb, hu1, hu2, hu3⟩
      · rw [hb] at b1
        have b1 : v' = mI := b1
        have hz0 : Q.foldl (sto G e) 0 = 0 := by
          rcases s1 with h | ⟨y, y1, y2, y3, y4⟩
          · exact h
          · obtain ⟨u, u1, -⟩ := (hsub _).mpr ⟨y, y1, y2, y3, rfl⟩
            rw [hn] at u1
            exact absurd u1 (by simp)
        rw [hz0] at hst
        rw [b1] at e1
        simp (disch := omega) only [fLt_e, fBd_s, fJn_s, fNn_s, fNu_0, fNu_s, fBo_0, fBo_1, fBo_b, i_lit, i_neg1, nI_add, pk_mul, nI_clamp, i_le, i_lt, i_eq, fIx_n, nI_mI, mI_nI, mI_lt, nI_lt_m, mI_le, nI_le_m, xI_0, xI_s, bI_0, bI_1, bI_t, bI_f, n_31, j_bit, j_one, i_and, i_or, Nat.not_lt_zero, Nat.succ_ne_zero, Nat.add_one_ne_zero, Nat.add_one_sub_one, Nat.zero_le, Nat.or_zero, Nat.zero_or, Bool.not_true, Bool.not_false, Bool.true_and, Bool.false_and, Bool.and_true, Bool.and_false, ↓reduceIte, if_true, if_false, not_true_eq_false, not_false_eq_true, true_and, and_true, false_and, and_false, and_self, true_or, or_true, false_or, or_false, Nat.reduceEqDiff, Nat.reduceLT, Nat.reduceLeDiff, Nat.reduceAdd, Nat.reduceMul, Nat.reduceSub, Nat.add_zero, Nat.zero_add, Nat.mul_zero, Nat.zero_mul, ne_eq, Bool.not_eq_true, Bool.not_eq_false, reduceCtorEq, decide_true, decide_false, decide_eq_true_eq, decide_eq_false_iff_not, Bool.false_eq_true, if_pos, if_neg, i3, i4, ef, hgp, hst, hm0, mdk', hg2, hsb, e1, mT_v, f_X11_fail, f_X12_refuse]
        exact ⟨_, _, _, rfl, rfl, fin_st (RX_e (cEq_rw sc _ _ _) (mEq_mT s2 _ _ _) H) _⟩
      · rw [hb] at b1
        obtain ⟨b1, b2, b3⟩ := b1
        have hL0 : 1 ≤ u.length := (wds_len w e 14 (rtn G) [] hro u hu1).1
        have hm : Q.foldl (sto G e) 0 = u.length := by
          obtain ⟨y, y1, y2, y3, y4⟩ := (hsub u.length).mp ⟨u, hu1, rfl⟩
          have h1 := s3 y y1 y2 y3
          rcases s1 with h | ⟨z', z1, z2, z3, z4⟩
          · omega
          · obtain ⟨v, v1, v2⟩ := (hsub _).mpr ⟨z', z1, z2, z3, rfl⟩
            have := hu2 v v1
            omega
        rw [hm] at hst
        have hX2 : rHou (sI sc 6 0 3 (nI (opn G))) 0 q G := X
        obtain ⟨gs', e2, b4⟩ := x_st15 hX2 w R q1 (e := e) (L := u.length) (by omega) b2 rfl (fun s4 => some ((), s4)) u.length 14 fF (rtn G) [] (G 5) (gA (sI sc 6 0 3 (nI (opn G))) 11 0 3) (by simp) (fF_lt (by omega)) hrA (fun _ => show G 2 - 1 < 14 by omega) w2.2.1 rfl (fun _ => by rw [hr2]; rfl) (fun hh => by omega) (fun _ => hu3) (fun k hk => absurd hk (Nat.not_lt_zero k))
        rw [← tS_of] at e2
        have hop : opn G = 2 ^ (G 2 - 1) := if_neg h0
        have hsT : f_X6_steerTo 0 (nI e) (nI u.length) (rwS (sI sc 6 0 3 (nI (opn G))) (nI Q.length) f) = some ((), tS (sI sc 6 0 3 (nI (opn G))) (nI Q.length) f gs') := by
          have k1 : gI (rwS (sI sc 6 0 3 (nI (opn G))) (nI Q.length) f) 6 0 3 = nI (rtn G).2.1 := by
            show nI (opn G) = nI (2 ^ (G 2 - 1))
            rw [hop]
          have k2 : gI (rwS (sI sc 6 0 3 (nI (opn G))) (nI Q.length) f) 2 0 3 = nI (G 5) := X.2.2.1.2
          unfold f_X6_steerTo
          simp only [fLt_e, fBd_s, fJn_s, fNn_s, fNu_0, fNu_s, fBo_0, fBo_1, fBo_b, i_lit, k1, k2]
          exact e2
        rw [b1] at e1
        have h79 := m_stL79 (st := sI (mT s2 (nI u.length) a' t') 12 0 46 (nI u.length)) b2 rfl
        have hne : ¬ u.length = 0 := by omega
        simp (disch := omega) only [fLt_e, fBd_s, fJn_s, fNn_s, fNu_0, fNu_s, fBo_0, fBo_1, fBo_b, i_lit, i_neg1, nI_add, pk_mul, nI_clamp, i_le, i_lt, i_eq, fIx_n, nI_mI, mI_nI, mI_lt, nI_lt_m, mI_le, nI_le_m, xI_0, xI_s, bI_0, bI_1, bI_t, bI_f, n_31, j_bit, j_one, i_and, i_or, Nat.not_lt_zero, Nat.succ_ne_zero, Nat.add_one_ne_zero, Nat.add_one_sub_one, Nat.zero_le, Nat.or_zero, Nat.zero_or, Bool.not_true, Bool.not_false, Bool.true_and, Bool.false_and, Bool.and_true, Bool.and_false, ↓reduceIte, if_true, if_false, not_true_eq_false, not_false_eq_true, true_and, and_true, false_and, and_false, and_self, true_or, or_true, false_or, or_false, Nat.reduceEqDiff, Nat.reduceLT, Nat.reduceLeDiff, Nat.reduceAdd, Nat.reduceMul, Nat.reduceSub, Nat.add_zero, Nat.zero_add, Nat.mul_zero, Nat.zero_mul, ne_eq, Bool.not_eq_true, Bool.not_eq_false, reduceCtorEq, decide_true, decide_false, decide_eq_true_eq, decide_eq_false_iff_not, Bool.false_eq_true, if_pos, if_neg, i3, i4, ef, hgp, hst, hm0, mdk', hg2, hsb, e1, mT_v, hsT, hne, h79, f_X11_answer]
        refine ⟨_, _, _, rfl, rfl, fin_0 (RX_mk (sc := sc) (sm := s2) ?_ rfl ⟨rfl, rfl, rfl, rfl, rfl, rfl⟩ H H.1 H.2.1 H.2.2.2.1 ?_ H.2.2.2.2.2.1 H.2.2.2.2.2.2.1 H.2.2.2.2.2.2.2.1) z⟩
        · intro c hc i k
          rcases hc with rfl | rfl | rfl | rfl | rfl <;> exact ⟨rfl, rfl, rfl, rfl, rfl⟩
        · refine ⟨u.length, b2, rfl, rfl, fun k hk => ?_⟩
          show gs' k = (if k < u.length then t' k else _)
          rw [if_pos hk, b3 k hk, b4 k hk]
  · rw [inB_f.mpr (by omega)] at i3 i4
    simp (disch := omega) only [fLt_e, fBd_s, fJn_s, fNn_s, fNu_0, fNu_s, fBo_0, fBo_1, fBo_b, i_lit, i_neg1, nI_add, pk_mul, nI_clamp, i_le, i_lt, i_eq, fIx_n, nI_mI, mI_nI, mI_lt, nI_lt_m, mI_le, nI_le_m, xI_0, xI_s, bI_0, bI_1, bI_t, bI_f, n_31, j_bit, j_one, i_and, i_or, Nat.not_lt_zero, Nat.succ_ne_zero, Nat.add_one_ne_zero, Nat.add_one_sub_one, Nat.zero_le, Nat.or_zero, Nat.zero_or, Bool.not_true, Bool.not_false, Bool.true_and, Bool.false_and, Bool.and_true, Bool.and_false, ↓reduceIte, if_true, if_false, not_true_eq_false, not_false_eq_true, true_and, and_true, false_and, and_false, and_self, true_or, or_true, false_or, or_false, Nat.reduceEqDiff, Nat.reduceLT, Nat.reduceLeDiff, Nat.reduceAdd, Nat.reduceMul, Nat.reduceSub, Nat.add_zero, Nat.zero_add, Nat.mul_zero, Nat.zero_mul, ne_eq, Bool.not_eq_true, Bool.not_eq_false, reduceCtorEq, decide_true, decide_false, decide_eq_true_eq, decide_eq_false_iff_not, Bool.false_eq_true, if_pos, if_neg, i3, i4, f_X11_fail, f_X12_refuse]
    exact ⟨_, _, _, rfl, rfl, fin_st H _⟩
