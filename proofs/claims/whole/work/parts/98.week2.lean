/-! layer 2: the rest of a step, both sides -/
def okW (G : Nat → Nat) (wd K T A : Nat) : Prop := (wd = 19 ∧ K = 0 ∧ A ≤ G 3) ∨ (wd = 20 ∧ K = 1 ∧ 0 < A ∧ A ≤ G 2) ∨ (wd = 21 ∧ K = 2 ∧ 0 < A ∧ A ≤ G 2) ∨ (wd = 22 ∧ K = 3 ∧ 0 < A ∧ A ≤ G 0) ∨ (wd = 23 ∧ K = 4 ∧ 0 < A ∧ A ≤ G 0) ∨ (wd = 29 ∧ K = 6 ∧ 1 < A ∧ A ≤ 100) ∨ (wd = 31 ∧ K = 7) ∨
  (wd = 25 ∧ K = 5 ∧ T = 0 ∧ 0 < A ∧ A ≤ G 2) ∨ (wd = 26 ∧ K = 5 ∧ T = 1 ∧ 0 < A ∧ A ≤ G 0) ∨ (wd = 28 ∧ K = 5 ∧ T = 2 ∧ 0 < A ∧ A ≤ 10)
-- what a step's rest tells
def FF (G : Nat → Nat) (w i x wd K : Nat) (s t : fSt) : Prop := ∃ A T C N, (gA t 12 0 5 x = nI K ∧ gA t 12 0 5 (x + 1) = xI A ∧ (K = 5 → gA t 12 0 5 (x + 2) = nI T ∧ (T = 3 → gA t 12 0 5 (x + 3) = nI C ∧ gA t 12 0 5 (x + 4) = nI N))) ∧ ((gI s 5 0 9 = xI A ∧ okW G wd K T A) ∨ (wd = 27 ∧ K = 5 ∧ T = 3 ∧ gI s 5 0 9 = nI N ∧ gA s 9 w 3 i = nI C ∧ N ≤ 99 ∧ C < 128))
def rsE (x m : Nat) : Prop := x < m ∧ m < x + 6
def rsD (i k m : Nat) : Prop := k = 3 ∧ m = i
-- the rest and the sign after it
def rsO (n : Nat) (c : Nat → Nat) (G : Nat → Nat) (w q i x wd K p : Nat) (R : fSt → Option (Unit × fSt)) (s t : fSt) : Prop := ∃ s' t', xV w (fun _ => False) (rsD i) s s' ∧ yV (rsE x) t t' ∧ (fBd (R t) fun _ s => mTail s) = some ((), t') ∧ gI t' 12 0 24 = gI t 12 0 24 ∧ ((kRS w q s = some (nI 1, s') ∧ FF G w i x wd K s' t' ∧ ∃ a' p' so', psR s' t' n c a' p' so' ∧ (p ≤ a' ∧ (¬ so' = 35 → p < p'))) ∨ (kRS w q s = some (nI 0, s') ∧ ∃ d e, flR s' t' d e))
section
variable {n : Nat} {c : Nat → Nat} {G : Nat → Nat} {w q i x wd K p0 : Nat} {R : fSt → Option (Unit × fSt)} {s t s1 t1 : fSt} {a p so : Nat}
theorem rs_ok (h1 : f_X9_readRest w q s = some (nI 1, s1)) (h2 : R t = some ((), t1)) (P : psR s1 t1 n c a p so) (hp : p0 ≤ p) (f : xV w (fun _ => False) (rsD i) s s1) (g : yV (rsE x) t t1) (h24 : gI t1 12 0 24 = gI t 12 0 24) (F : FF G w i x wd K s1 t1) : rsO n c G w q i x wd K p0 R s t := by
  have hpp := P.2.2.1.2.2.2.2
  obtain ⟨s2, t2, e2, f2, g2, h⟩ := ps_tail9 P
  refine ⟨s2, t2, xV_tr f (xV_x f2), yV_tr g (yV_y g2), by rw [h2, fBd_s, e2], (g2.1 _ _ _ (by omega)).trans h24, ?_⟩
  rcases h with ⟨d2, h9, a2, p2, o2, P2, m1, m2⟩ | ⟨d2, d, e, F2⟩
  · have hpp2 := P2.2.2.1.2.2.2.2
    refine Or.inl ⟨?_, ?_, a2, p2, o2, P2, by omega, fun h => ?_⟩
    · unfold kRS
      rw [h1, fBd_s, if_neg (by decide)]
      exact d2
    · unfold FF at *
      rw [h9, f2.2.2.1, g2.2.2.1]
      exact F
    · have := m2 h
      omega
  · refine Or.inr ⟨?_, d, e, F2⟩
    unfold kRS
    rw [h1, fBd_s, if_neg (by decide)]
    exact d2
theorem rs_no {d e : Nat} (h1 : f_X9_readRest w q s = some (nI 0, s1)) (h2 : R t = some ((), t1)) (F : flR s1 t1 d e) (f : xV w (fun _ => False) (rsD i) s s1) (g : yV (rsE x) t t1) (h24 : gI t1 12 0 24 = gI t 12 0 24) : rsO n c G w q i x wd K p0 R s t := by
  refine ⟨s1, t1, f, g, by rw [h2, fBd_s, mTail_no ⟨F.1, F.2.1⟩ F.2.2.2.1], h24, Or.inr ⟨?_, d, e, F⟩⟩
  unfold kRS
  rw [h1, fBd_s, if_pos (by decide)]
  rfl
end
-- the reference's rest by the kind of step
theorem wA_ne {s : fSt} {k m : Nat} (v : Int32) (h : m ≠ k) : gA (wA s k v) 12 0 5 m = gA s 12 0 5 m := by
  unfold wA
  rw [gA_sA, if_pos ⟨rfl, rfl, rfl⟩, upd_at, if_neg h]
section
variable {x K : Nat} {t : fSt}
theorem mr_sc (hx : 1939 ≤ x ∧ x < 2144) (hK : gA t 12 0 5 x = nI K) (h : K = 1 ∨ K = 2) : f_X12_readRest (nI x) t = fBd (f_X12_readTold (nI 0) (nI 12) (gA (wA t (x + 1) mI) 12 0 5 2) (wA t (x + 1) mI)) fun r s => some ((), wA s (x + 1) r) := by
  unfold f_X12_readRest f_X12_readScene2 wA
  rcases h with rfl | rfl
  · simp (disch := omega) only [↓fLt_e, fBd_s, ↓fJn_s, fNn_s, fNu_0, fNu_s, fBo_0, fBo_1, fBo_b, i_lit, i_neg1, nI_add, pk_mul, nI_clamp, i_le, i_lt, i_eq, fIx_n, nI_mI, mI_nI, mI_lt, nI_lt_m, mI_le, nI_le_m, xI_0, xI_s, bI_0, bI_1, bI_t, bI_f, n_31, j_bit, j_one, i_and, i_or, Nat.not_lt_zero, Nat.succ_ne_zero, Nat.add_one_ne_zero, Nat.add_one_sub_one, Nat.zero_le, Nat.or_zero, Nat.zero_or, Bool.not_true, Bool.not_false, Bool.true_and, Bool.false_and, Bool.and_true, Bool.and_false, ↓reduceIte, if_true, if_false, not_true_eq_false, not_false_eq_true, true_and, and_true, false_and, and_false, and_self, true_or, or_true, false_or, or_false, Nat.reduceEqDiff, Nat.reduceLT, Nat.reduceLeDiff, Nat.reduceAdd, Nat.reduceMul, Nat.reduceSub, Nat.add_zero, Nat.zero_add, Nat.mul_zero, Nat.zero_mul, ne_eq, Bool.not_eq_true, Bool.not_eq_false, reduceCtorEq, decide_true, decide_false, decide_eq_true_eq, decide_eq_false_iff_not, Bool.false_eq_true, if_pos, if_neg, hK]
    rw [fBd_as]
    rfl
  · simp (disch := omega) only [↓fLt_e, fBd_s, ↓fJn_s, fNn_s, fNu_0, fNu_s, fBo_0, fBo_1, fBo_b, i_lit, i_neg1, nI_add, pk_mul, nI_clamp, i_le, i_lt, i_eq, fIx_n, nI_mI, mI_nI, mI_lt, nI_lt_m, mI_le, nI_le_m, xI_0, xI_s, bI_0, bI_1, bI_t, bI_f, n_31, j_bit, j_one, i_and, i_or, Nat.not_lt_zero, Nat.succ_ne_zero, Nat.add_one_ne_zero, Nat.add_one_sub_one, Nat.zero_le, Nat.or_zero, Nat.zero_or, Bool.not_true, Bool.not_false, Bool.true_and, Bool.false_and, Bool.and_true, Bool.and_false, ↓reduceIte, if_true, if_false, not_true_eq_false, not_false_eq_true, true_and, and_true, false_and, and_false, and_self, true_or, or_true, false_or, or_false, Nat.reduceEqDiff, Nat.reduceLT, Nat.reduceLeDiff, Nat.reduceAdd, Nat.reduceMul, Nat.reduceSub, Nat.add_zero, Nat.zero_add, Nat.mul_zero, Nat.zero_mul, ne_eq, Bool.not_eq_true, Bool.not_eq_false, reduceCtorEq, decide_true, decide_false, decide_eq_true_eq, decide_eq_false_iff_not, Bool.false_eq_true, if_pos, if_neg, hK]
    rw [fBd_as]
    rfl
theorem mr_ro (hx : 1939 ≤ x ∧ x < 2144) (hK : gA t 12 0 5 x = nI K) (h : K = 3 ∨ K = 4) : f_X12_readRest (nI x) t = fBd (f_X12_readTold (nI 0) (nI 0) (gA (wA t (x + 1) mI) 12 0 5 0) (wA t (x + 1) mI)) fun r s => some ((), wA s (x + 1) r) := by
  unfold f_X12_readRest f_X12_readRole2 wA
  rcases h with rfl | rfl
  · simp (disch := omega) only [↓fLt_e, fBd_s, ↓fJn_s, fNn_s, fNu_0, fNu_s, fBo_0, fBo_1, fBo_b, i_lit, i_neg1, nI_add, pk_mul, nI_clamp, i_le, i_lt, i_eq, fIx_n, nI_mI, mI_nI, mI_lt, nI_lt_m, mI_le, nI_le_m, xI_0, xI_s, bI_0, bI_1, bI_t, bI_f, n_31, j_bit, j_one, i_and, i_or, Nat.not_lt_zero, Nat.succ_ne_zero, Nat.add_one_ne_zero, Nat.add_one_sub_one, Nat.zero_le, Nat.or_zero, Nat.zero_or, Bool.not_true, Bool.not_false, Bool.true_and, Bool.false_and, Bool.and_true, Bool.and_false, ↓reduceIte, if_true, if_false, not_true_eq_false, not_false_eq_true, true_and, and_true, false_and, and_false, and_self, true_or, or_true, false_or, or_false, Nat.reduceEqDiff, Nat.reduceLT, Nat.reduceLeDiff, Nat.reduceAdd, Nat.reduceMul, Nat.reduceSub, Nat.add_zero, Nat.zero_add, Nat.mul_zero, Nat.zero_mul, ne_eq, Bool.not_eq_true, Bool.not_eq_false, reduceCtorEq, decide_true, decide_false, decide_eq_true_eq, decide_eq_false_iff_not, Bool.false_eq_true, if_pos, if_neg, hK]
    rw [fBd_as]
    rfl
  · simp (disch := omega) only [↓fLt_e, fBd_s, ↓fJn_s, fNn_s, fNu_0, fNu_s, fBo_0, fBo_1, fBo_b, i_lit, i_neg1, nI_add, pk_mul, nI_clamp, i_le, i_lt, i_eq, fIx_n, nI_mI, mI_nI, mI_lt, nI_lt_m, mI_le, nI_le_m, xI_0, xI_s, bI_0, bI_1, bI_t, bI_f, n_31, j_bit, j_one, i_and, i_or, Nat.not_lt_zero, Nat.succ_ne_zero, Nat.add_one_ne_zero, Nat.add_one_sub_one, Nat.zero_le, Nat.or_zero, Nat.zero_or, Bool.not_true, Bool.not_false, Bool.true_and, Bool.false_and, Bool.and_true, Bool.and_false, ↓reduceIte, if_true, if_false, not_true_eq_false, not_false_eq_true, true_and, and_true, false_and, and_false, and_self, true_or, or_true, false_or, or_false, Nat.reduceEqDiff, Nat.reduceLT, Nat.reduceLeDiff, Nat.reduceAdd, Nat.reduceMul, Nat.reduceSub, Nat.add_zero, Nat.zero_add, Nat.mul_zero, Nat.zero_mul, ne_eq, Bool.not_eq_true, Bool.not_eq_false, reduceCtorEq, decide_true, decide_false, decide_eq_true_eq, decide_eq_false_iff_not, Bool.false_eq_true, if_pos, if_neg, hK]
    rw [fBd_as]
    rfl
theorem mr_6 (hx : 1939 ≤ x ∧ x < 2144) (hK : gA t 12 0 5 x = nI 6) : f_X12_readRest (nI x) t = fBd (f_X12_count (nI 1) (nI 99) (wA t (x + 1) mI)) fun r s => some ((), wA s (x + 1) r) := by
  unfold f_X12_readRest wA
  simp (disch := omega) only [↓fLt_e, fBd_s, ↓fJn_s, fNn_s, fNu_0, fNu_s, fBo_0, fBo_1, fBo_b, i_lit, i_neg1, nI_add, pk_mul, nI_clamp, i_le, i_lt, i_eq, fIx_n, nI_mI, mI_nI, mI_lt, nI_lt_m, mI_le, nI_le_m, xI_0, xI_s, bI_0, bI_1, bI_t, bI_f, n_31, j_bit, j_one, i_and, i_or, Nat.not_lt_zero, Nat.succ_ne_zero, Nat.add_one_ne_zero, Nat.add_one_sub_one, Nat.zero_le, Nat.or_zero, Nat.zero_or, Bool.not_true, Bool.not_false, Bool.true_and, Bool.false_and, Bool.and_true, Bool.and_false, ↓reduceIte, if_true, if_false, not_true_eq_false, not_false_eq_true, true_and, and_true, false_and, and_false, and_self, true_or, or_true, false_or, or_false, Nat.reduceEqDiff, Nat.reduceLT, Nat.reduceLeDiff, Nat.reduceAdd, Nat.reduceMul, Nat.reduceSub, Nat.add_zero, Nat.zero_add, Nat.mul_zero, Nat.zero_mul, ne_eq, Bool.not_eq_true, Bool.not_eq_false, reduceCtorEq, decide_true, decide_false, decide_eq_true_eq, decide_eq_false_iff_not, Bool.false_eq_true, if_pos, if_neg, hK]
theorem mr_7 (hx : 1939 ≤ x ∧ x < 2144) (hK : gA t 12 0 5 x = nI 7) : f_X12_readRest (nI x) t = some ((), wA t (x + 1) mI) := by
  unfold f_X12_readRest wA
  simp (disch := omega) only [↓fLt_e, fBd_s, ↓fJn_s, fNn_s, fNu_0, fNu_s, fBo_0, fBo_1, fBo_b, i_lit, i_neg1, nI_add, pk_mul, nI_clamp, i_le, i_lt, i_eq, fIx_n, nI_mI, mI_nI, mI_lt, nI_lt_m, mI_le, nI_le_m, xI_0, xI_s, bI_0, bI_1, bI_t, bI_f, n_31, j_bit, j_one, i_and, i_or, Nat.not_lt_zero, Nat.succ_ne_zero, Nat.add_one_ne_zero, Nat.add_one_sub_one, Nat.zero_le, Nat.or_zero, Nat.zero_or, Bool.not_true, Bool.not_false, Bool.true_and, Bool.false_and, Bool.and_true, Bool.and_false, ↓reduceIte, if_true, if_false, not_true_eq_false, not_false_eq_true, true_and, and_true, false_and, and_false, and_self, true_or, or_true, false_or, or_false, Nat.reduceEqDiff, Nat.reduceLT, Nat.reduceLeDiff, Nat.reduceAdd, Nat.reduceMul, Nat.reduceSub, Nat.add_zero, Nat.zero_add, Nat.mul_zero, Nat.zero_mul, ne_eq, Bool.not_eq_true, Bool.not_eq_false, reduceCtorEq, decide_true, decide_false, decide_eq_true_eq, decide_eq_false_iff_not, Bool.false_eq_true, if_pos, if_neg, hK]
theorem mr_0 (hx : 1939 ≤ x ∧ x < 2144) (hK : gA t 12 0 5 x = nI 0) : f_X12_readRest (nI x) t = if ¬ gI t 12 0 14 = nI 1 then some ((), wA t (x + 1) mI) else fBd (f_X12_readTold (nI 0) (nI 24) (gA (wA t (x + 1) mI) 12 0 5 3) (wA t (x + 1) mI)) fun r s => some ((), wA s (x + 1) r) := by
  unfold f_X12_readRest wA
  simp (disch := omega) only [↓fLt_e, fBd_s, ↓fJn_s, fNn_s, fNu_0, fNu_s, fBo_0, fBo_1, fBo_b, i_lit, i_neg1, nI_add, pk_mul, nI_clamp, i_le, i_lt, i_eq, fIx_n, nI_mI, mI_nI, mI_lt, nI_lt_m, mI_le, nI_le_m, xI_0, xI_s, bI_0, bI_1, bI_t, bI_f, n_31, j_bit, j_one, i_and, i_or, Nat.not_lt_zero, Nat.succ_ne_zero, Nat.add_one_ne_zero, Nat.add_one_sub_one, Nat.zero_le, Nat.or_zero, Nat.zero_or, Bool.not_true, Bool.not_false, Bool.true_and, Bool.false_and, Bool.and_true, Bool.and_false, ↓reduceIte, if_true, if_false, not_true_eq_false, not_false_eq_true, true_and, and_true, false_and, and_false, and_self, true_or, or_true, false_or, or_false, Nat.reduceEqDiff, Nat.reduceLT, Nat.reduceLeDiff, Nat.reduceAdd, Nat.reduceMul, Nat.reduceSub, Nat.add_zero, Nat.zero_add, Nat.mul_zero, Nat.zero_mul, ne_eq, Bool.not_eq_true, Bool.not_eq_false, reduceCtorEq, decide_true, decide_false, decide_eq_true_eq, decide_eq_false_iff_not, Bool.false_eq_true, if_pos, if_neg, hK, gI_sA]
theorem mr_5 (hx : 1939 ≤ x ∧ x < 2144) (hK : gA t 12 0 5 x = nI 5) : f_X12_readRest (nI x) t = f_X12_readTest (nI x) (wA t (x + 1) mI) := by
  unfold f_X12_readRest wA
  simp (disch := omega) only [↓fLt_e, fBd_s, ↓fJn_s, fNn_s, fNu_0, fNu_s, fBo_0, fBo_1, fBo_b, i_lit, i_neg1, nI_add, pk_mul, nI_clamp, i_le, i_lt, i_eq, fIx_n, nI_mI, mI_nI, mI_lt, nI_lt_m, mI_le, nI_le_m, xI_0, xI_s, bI_0, bI_1, bI_t, bI_f, n_31, j_bit, j_one, i_and, i_or, Nat.not_lt_zero, Nat.succ_ne_zero, Nat.add_one_ne_zero, Nat.add_one_sub_one, Nat.zero_le, Nat.or_zero, Nat.zero_or, Bool.not_true, Bool.not_false, Bool.true_and, Bool.false_and, Bool.and_true, Bool.and_false, ↓reduceIte, if_true, if_false, not_true_eq_false, not_false_eq_true, true_and, and_true, false_and, and_false, and_self, true_or, or_true, false_or, or_false, Nat.reduceEqDiff, Nat.reduceLT, Nat.reduceLeDiff, Nat.reduceAdd, Nat.reduceMul, Nat.reduceSub, Nat.add_zero, Nat.zero_add, Nat.mul_zero, Nat.zero_mul, ne_eq, Bool.not_eq_true, Bool.not_eq_false, reduceCtorEq, decide_true, decide_false, decide_eq_true_eq, decide_eq_false_iff_not, Bool.false_eq_true, if_pos, if_neg, hK]
  generalize f_X12_readTest (nI x) _ = o
  cases o <;> rfl
-- a test: after its word
noncomputable def mQ (a1 x3 : Int32) (s7 : fSt) : Option (Unit × fSt) :=
    fIx (a1 + ((2 : Int32))) 2150 <|
    fLt (sA s7 12 0 5 (upd (gA s7 12 0 5) (a1 + ((2 : Int32))).toNatClampNeg x3)) fun s8 =>
    if ¬ x3 = 0 then
      (if ¬ x3 = ((1 : Int32)) then
        (if ¬ x3 = ((2 : Int32)) then
          (if ¬ x3 = ((3 : Int32)) then some ((), s8)
          else
            (fJn (fun (x11 : Int32) (s12 : fSt) =>
              (fIx (a1 + ((3 : Int32))) 2150 <|
              fLt (sA s12 12 0 5 (upd (gA s12 12 0 5) (a1 + ((3 : Int32))).toNatClampNeg x11)) fun s14 =>
              fBd (f_X12_isSign ((60 : Int32)) s14) fun x15 s16 =>
              fJn (fun (x17 : Int32) (s18 : fSt) =>
                (fBd (f_X12_must x17 s18) fun _ s20 =>
                fBd (f_X12_count ((0 : Int32)) ((99 : Int32)) s20) fun x21 s22 =>
                fIx (a1 + ((4 : Int32))) 2150 <|
                fLt (sA s22 12 0 5 (upd (gA s22 12 0 5) (a1 + ((4 : Int32))).toNatClampNeg x21)) fun s23 =>
                some ((), s23))) fun (j19 : Int32 → fSt → Option (Unit × fSt)) =>
              if ¬ x15 = 0 then j19 ((1 : Int32)) s16
              else
                (fBd (f_X12_isSign ((62 : Int32)) s16) fun x26 s27 =>
                if ¬ x26 = 0 then j19 ((1 : Int32)) s27
                else
                  (fBd (f_X12_isSign ((61 : Int32)) s27) fun x28 s29 =>
                  if x28 = 0 then
                    (j19 ((0 : Int32)) s29)
                  else j19 ((1 : Int32)) s29)))) fun (j13 : Int32 → fSt → Option (Unit × fSt)) =>
            if ¬ (gI s8 12 0 14) = ((3 : Int32)) then
              (j13 ((0 : Int32)) s8)
            else
              (j13 (gI s8 12 0 17) s8)))
        else
          (fBd (f_X12_count ((0 : Int32)) ((9 : Int32)) s8) fun x30 s31 =>
          fIx (a1 + ((1 : Int32))) 2150 <|
          fLt (sA s31 12 0 5 (upd (gA s31 12 0 5) (a1 + ((1 : Int32))).toNatClampNeg x30)) fun s32 =>
          some ((), s32)))
      else
        (fBd (f_X12_readRole2  s8) fun x33 s34 =>
        fIx (a1 + ((1 : Int32))) 2150 <|
        fLt (sA s34 12 0 5 (upd (gA s34 12 0 5) (a1 + ((1 : Int32))).toNatClampNeg x33)) fun s35 =>
        some ((), s35)))
    else
      (fBd (f_X12_readScene2  s8) fun x36 s37 =>
      fIx (a1 + ((1 : Int32))) 2150 <|
      fLt (sA s37 12 0 5 (upd (gA s37 12 0 5) (a1 + ((1 : Int32))).toNatClampNeg x36)) fun s38 =>
      some ((), s38))
theorem mQ_eq (a1 : Int32) (st : fSt) : f_X12_readTest a1 st = fBd (f_X12_testWord st) fun x3 s2 => if x3 < 0 then (fBd (f_X12_must ((0 : Int32)) s2) fun _ s7 => mQ a1 x3 s7) else (fBd (f_X12_must ((1 : Int32)) s2) fun _ s7 => mQ a1 x3 s7) := rfl
theorem mq_no (hx : 1939 ≤ x ∧ x < 2144) : mQ (nI x) mI t = some ((), wA t (x + 2) mI) := by
  unfold mQ wA
  simp (disch := omega) only [↓fLt_e, fBd_s, ↓fJn_s, fNn_s, fNu_0, fNu_s, fBo_0, fBo_1, fBo_b, i_lit, i_neg1, nI_add, pk_mul, nI_clamp, i_le, i_lt, i_eq, fIx_n, nI_mI, mI_nI, mI_lt, nI_lt_m, mI_le, nI_le_m, xI_0, xI_s, bI_0, bI_1, bI_t, bI_f, n_31, j_bit, j_one, i_and, i_or, Nat.not_lt_zero, Nat.succ_ne_zero, Nat.add_one_ne_zero, Nat.add_one_sub_one, Nat.zero_le, Nat.or_zero, Nat.zero_or, Bool.not_true, Bool.not_false, Bool.true_and, Bool.false_and, Bool.and_true, Bool.and_false, ↓reduceIte, if_true, if_false, not_true_eq_false, not_false_eq_true, true_and, and_true, false_and, and_false, and_self, true_or, or_true, false_or, or_false, Nat.reduceEqDiff, Nat.reduceLT, Nat.reduceLeDiff, Nat.reduceAdd, Nat.reduceMul, Nat.reduceSub, Nat.add_zero, Nat.zero_add, Nat.mul_zero, Nat.zero_mul, ne_eq, Bool.not_eq_true, Bool.not_eq_false, reduceCtorEq, decide_true, decide_false, decide_eq_true_eq, decide_eq_false_iff_not, Bool.false_eq_true, if_pos, if_neg]
theorem mq_0 (hx : 1939 ≤ x ∧ x < 2144) : mQ (nI x) (nI 0) t = fBd (f_X12_readTold (nI 0) (nI 12) (gA (wA t (x + 2) (nI 0)) 12 0 5 2) (wA t (x + 2) (nI 0))) fun r s => some ((), wA s (x + 1) r) := by
  unfold mQ f_X12_readScene2 wA
  simp (disch := omega) only [↓fLt_e, fBd_s, ↓fJn_s, fNn_s, fNu_0, fNu_s, fBo_0, fBo_1, fBo_b, i_lit, i_neg1, nI_add, pk_mul, nI_clamp, i_le, i_lt, i_eq, fIx_n, nI_mI, mI_nI, mI_lt, nI_lt_m, mI_le, nI_le_m, xI_0, xI_s, bI_0, bI_1, bI_t, bI_f, n_31, j_bit, j_one, i_and, i_or, Nat.not_lt_zero, Nat.succ_ne_zero, Nat.add_one_ne_zero, Nat.add_one_sub_one, Nat.zero_le, Nat.or_zero, Nat.zero_or, Bool.not_true, Bool.not_false, Bool.true_and, Bool.false_and, Bool.and_true, Bool.and_false, ↓reduceIte, if_true, if_false, not_true_eq_false, not_false_eq_true, true_and, and_true, false_and, and_false, and_self, true_or, or_true, false_or, or_false, Nat.reduceEqDiff, Nat.reduceLT, Nat.reduceLeDiff, Nat.reduceAdd, Nat.reduceMul, Nat.reduceSub, Nat.add_zero, Nat.zero_add, Nat.mul_zero, Nat.zero_mul, ne_eq, Bool.not_eq_true, Bool.not_eq_false, reduceCtorEq, decide_true, decide_false, decide_eq_true_eq, decide_eq_false_iff_not, Bool.false_eq_true, if_pos, if_neg]
  rw [fBd_as]
  rfl
theorem mq_1 (hx : 1939 ≤ x ∧ x < 2144) : mQ (nI x) (nI 1) t = fBd (f_X12_readTold (nI 0) (nI 0) (gA (wA t (x + 2) (nI 1)) 12 0 5 0) (wA t (x + 2) (nI 1))) fun r s => some ((), wA s (x + 1) r) := by
  unfold mQ f_X12_readRole2 wA
  simp (disch := omega) only [↓fLt_e, fBd_s, ↓fJn_s, fNn_s, fNu_0, fNu_s, fBo_0, fBo_1, fBo_b, i_lit, i_neg1, nI_add, pk_mul, nI_clamp, i_le, i_lt, i_eq, fIx_n, nI_mI, mI_nI, mI_lt, nI_lt_m, mI_le, nI_le_m, xI_0, xI_s, bI_0, bI_1, bI_t, bI_f, n_31, j_bit, j_one, i_and, i_or, Nat.not_lt_zero, Nat.succ_ne_zero, Nat.add_one_ne_zero, Nat.add_one_sub_one, Nat.zero_le, Nat.or_zero, Nat.zero_or, Bool.not_true, Bool.not_false, Bool.true_and, Bool.false_and, Bool.and_true, Bool.and_false, ↓reduceIte, if_true, if_false, not_true_eq_false, not_false_eq_true, true_and, and_true, false_and, and_false, and_self, true_or, or_true, false_or, or_false, Nat.reduceEqDiff, Nat.reduceLT, Nat.reduceLeDiff, Nat.reduceAdd, Nat.reduceMul, Nat.reduceSub, Nat.add_zero, Nat.zero_add, Nat.mul_zero, Nat.zero_mul, ne_eq, Bool.not_eq_true, Bool.not_eq_false, reduceCtorEq, decide_true, decide_false, decide_eq_true_eq, decide_eq_false_iff_not, Bool.false_eq_true, if_pos, if_neg]
  rw [fBd_as]
  rfl
theorem mq_2 (hx : 1939 ≤ x ∧ x < 2144) : mQ (nI x) (nI 2) t = fBd (f_X12_count (nI 0) (nI 9) (wA t (x + 2) (nI 2))) fun r s => some ((), wA s (x + 1) r) := by
  unfold mQ wA
  simp (disch := omega) only [↓fLt_e, fBd_s, ↓fJn_s, fNn_s, fNu_0, fNu_s, fBo_0, fBo_1, fBo_b, i_lit, i_neg1, nI_add, pk_mul, nI_clamp, i_le, i_lt, i_eq, fIx_n, nI_mI, mI_nI, mI_lt, nI_lt_m, mI_le, nI_le_m, xI_0, xI_s, bI_0, bI_1, bI_t, bI_f, n_31, j_bit, j_one, i_and, i_or, Nat.not_lt_zero, Nat.succ_ne_zero, Nat.add_one_ne_zero, Nat.add_one_sub_one, Nat.zero_le, Nat.or_zero, Nat.zero_or, Bool.not_true, Bool.not_false, Bool.true_and, Bool.false_and, Bool.and_true, Bool.and_false, ↓reduceIte, if_true, if_false, not_true_eq_false, not_false_eq_true, true_and, and_true, false_and, and_false, and_self, true_or, or_true, false_or, or_false, Nat.reduceEqDiff, Nat.reduceLT, Nat.reduceLeDiff, Nat.reduceAdd, Nat.reduceMul, Nat.reduceSub, Nat.add_zero, Nat.zero_add, Nat.mul_zero, Nat.zero_mul, ne_eq, Bool.not_eq_true, Bool.not_eq_false, reduceCtorEq, decide_true, decide_false, decide_eq_true_eq, decide_eq_false_iff_not, Bool.false_eq_true, if_pos, if_neg]
-- nights: after the comparison
noncomputable def mQ3 (x : Nat) (b : Int32) (s : fSt) : Option (Unit × fSt) := fBd (f_X12_must b s) fun _ s20 => fBd (f_X12_count (nI 0) (nI 99) s20) fun x21 s22 => some ((), wA s22 (x + 4) x21)
theorem mq_3 (hx : 1939 ≤ x ∧ x < 2144) {b0 b1 b2 : Bool} {v : Int32} (hv : v = if gI t 12 0 14 = nI 3 then gI t 12 0 17 else nI 0) (e0 : ∀ s, gI s = gI t → f_X12_isSign (nI 60) s = some (bI b0, s)) (e1 : ∀ s, gI s = gI t → f_X12_isSign (nI 62) s = some (bI b1, s)) (e2 : ∀ s, gI s = gI t → f_X12_isSign (nI 61) s = some (bI b2, s)) : mQ (nI x) (nI 3) t = mQ3 x (bI (b0 || b1 || b2)) (wA (wA t (x + 2) (nI 3)) (x + 3) v) := by
  have q0 := e0 (wA (wA t (x + 2) (nI 3)) (x + 3) v) rfl
  have q1 := e1 (wA (wA t (x + 2) (nI 3)) (x + 3) v) rfl
  have q2 := e2 (wA (wA t (x + 2) (nI 3)) (x + 3) v) rfl
  unfold wA at q0 q1 q2
  unfold mQ mQ3 wA
  by_cases h : gI t 12 0 14 = nI 3
  · rw [if_pos h] at hv
    subst hv
    simp (disch := omega) only [↓fLt_e, fBd_s, ↓fJn_s, fNn_s, fNu_0, fNu_s, fBo_0, fBo_1, fBo_b, i_lit, i_neg1, nI_add, pk_mul, nI_clamp, i_le, i_lt, i_eq, fIx_n, nI_mI, mI_nI, mI_lt, nI_lt_m, mI_le, nI_le_m, xI_0, xI_s, bI_0, bI_1, bI_t, bI_f, n_31, j_bit, j_one, i_and, i_or, Nat.not_lt_zero, Nat.succ_ne_zero, Nat.add_one_ne_zero, Nat.add_one_sub_one, Nat.zero_le, Nat.or_zero, Nat.zero_or, Bool.not_true, Bool.not_false, Bool.true_and, Bool.false_and, Bool.and_true, Bool.and_false, ↓reduceIte, if_true, if_false, not_true_eq_false, not_false_eq_true, true_and, and_true, false_and, and_false, and_self, true_or, or_true, false_or, or_false, Nat.reduceEqDiff, Nat.reduceLT, Nat.reduceLeDiff, Nat.reduceAdd, Nat.reduceMul, Nat.reduceSub, Nat.add_zero, Nat.zero_add, Nat.mul_zero, Nat.zero_mul, ne_eq, Bool.not_eq_true, Bool.not_eq_false, reduceCtorEq, decide_true, decide_false, decide_eq_true_eq, decide_eq_false_iff_not, Bool.false_eq_true, if_pos, if_neg, gI_sA, h, q0, q1, q2, bI_nb, bI_ib]
    cases b0 <;> cases b1 <;> cases b2 <;> rfl
  · rw [if_neg h] at hv
    subst hv
    simp (disch := omega) only [↓fLt_e, fBd_s, ↓fJn_s, fNn_s, fNu_0, fNu_s, fBo_0, fBo_1, fBo_b, i_lit, i_neg1, nI_add, pk_mul, nI_clamp, i_le, i_lt, i_eq, fIx_n, nI_mI, mI_nI, mI_lt, nI_lt_m, mI_le, nI_le_m, xI_0, xI_s, bI_0, bI_1, bI_t, bI_f, n_31, j_bit, j_one, i_and, i_or, Nat.not_lt_zero, Nat.succ_ne_zero, Nat.add_one_ne_zero, Nat.add_one_sub_one, Nat.zero_le, Nat.or_zero, Nat.zero_or, Bool.not_true, Bool.not_false, Bool.true_and, Bool.false_and, Bool.and_true, Bool.and_false, ↓reduceIte, if_true, if_false, not_true_eq_false, not_false_eq_true, true_and, and_true, false_and, and_false, and_self, true_or, or_true, false_or, or_false, Nat.reduceEqDiff, Nat.reduceLT, Nat.reduceLeDiff, Nat.reduceAdd, Nat.reduceMul, Nat.reduceSub, Nat.add_zero, Nat.zero_add, Nat.mul_zero, Nat.zero_mul, ne_eq, Bool.not_eq_true, Bool.not_eq_false, reduceCtorEq, decide_true, decide_false, decide_eq_true_eq, decide_eq_false_iff_not, Bool.false_eq_true, if_pos, if_neg, gI_sA, h, q0, q1, q2, bI_nb, bI_ib]
    cases b0 <;> cases b1 <;> cases b2 <;> rfl
end
-- the class's rest by its word
section
variable {w q i : Nat} {s : fSt}
theorem kx_sc {wd : Nat} (hi : i < 60) (h0 : gI s 9 w 0 = nI i) (hA : gA s 9 w 1 i = nI wd) (h : wd = 20 ∨ wd = 21 ∨ wd = 25) : f_X9_readRest w q s = fBd (f_X5_takeName 7 q 3 12 (gI s 7 q 2) s) fun x s => fBo x (some (x, s)) := by
  unfold f_X9_readRest
  rcases h with rfl | rfl | rfl <;> simp (disch := omega) only [h0, hA, nI_clamp, fIx_n, i_lit, i_eq, Nat.reduceEqDiff, if_true, if_false]
theorem kx_ro {wd : Nat} (hi : i < 60) (h0 : gI s 9 w 0 = nI i) (hA : gA s 9 w 1 i = nI wd) (h : wd = 22 ∨ wd = 23 ∨ wd = 26) : f_X9_readRest w q s = fBd (f_X5_takeName 7 q 1 6 (gI s 7 q 0) s) fun x s => fBo x (some (x, s)) := by
  unfold f_X9_readRest
  rcases h with rfl | rfl | rfl <;> simp (disch := omega) only [h0, hA, nI_clamp, fIx_n, i_lit, i_eq, Nat.reduceEqDiff, if_true, if_false]
theorem kx_29 (hi : i < 60) (h0 : gI s 9 w 0 = nI i) (hA : gA s 9 w 1 i = nI 29) : f_X9_readRest w q s = fBd (f_X5_takeNumber (nI 1) (nI 99) s) fun x s => fBo x (some (x, s)) := by
  unfold f_X9_readRest
  simp (disch := omega) only [h0, hA, nI_clamp, fIx_n, i_lit, i_eq, Nat.reduceEqDiff, if_true, if_false]
theorem kx_28 (hi : i < 60) (h0 : gI s 9 w 0 = nI i) (hA : gA s 9 w 1 i = nI 28) : f_X9_readRest w q s = fBd (f_X5_takeNumber (nI 0) (nI 9) s) fun x s => fBo x (some (x, s)) := by
  unfold f_X9_readRest
  simp (disch := omega) only [h0, hA, nI_clamp, fIx_n, i_lit, i_eq, Nat.reduceEqDiff, if_true, if_false]
theorem kx_31 (hi : i < 60) (h0 : gI s 9 w 0 = nI i) (hA : gA s 9 w 1 i = nI 31) : f_X9_readRest w q s = some (nI 1, s) := by
  unfold f_X9_readRest
  simp (disch := omega) only [h0, hA, nI_clamp, fIx_n, i_lit, i_eq, Nat.reduceEqDiff, if_true, if_false]
theorem kx_19 (hi : i < 60) (h0 : gI s 9 w 0 = nI i) (hA : gA s 9 w 1 i = nI 19) : f_X9_readRest w q s = if gI s 5 0 6 = nI 59 then some (nI 1, s) else fBd (f_X5_takeName 7 q 4 4 (gI s 7 q 3) s) fun x s => if x = nI 0 then some (nI 0, s) else some (nI 1, s) := by
  unfold f_X9_readRest
  simp (disch := omega) only [↓fLt_e, fBd_s, ↓fJn_s, fNn_s, fNu_0, fNu_s, fBo_0, fBo_1, fBo_b, i_lit, i_neg1, nI_add, pk_mul, nI_clamp, i_le, i_lt, i_eq, fIx_n, nI_mI, mI_nI, mI_lt, nI_lt_m, mI_le, nI_le_m, xI_0, xI_s, bI_0, bI_1, bI_t, bI_f, n_31, j_bit, j_one, i_and, i_or, Nat.not_lt_zero, Nat.succ_ne_zero, Nat.add_one_ne_zero, Nat.add_one_sub_one, Nat.zero_le, Nat.or_zero, Nat.zero_or, Bool.not_true, Bool.not_false, Bool.true_and, Bool.false_and, Bool.and_true, Bool.and_false, ↓reduceIte, if_true, if_false, not_true_eq_false, not_false_eq_true, true_and, and_true, false_and, and_false, and_self, true_or, or_true, false_or, or_false, Nat.reduceEqDiff, Nat.reduceLT, Nat.reduceLeDiff, Nat.reduceAdd, Nat.reduceMul, Nat.reduceSub, Nat.add_zero, Nat.zero_add, Nat.mul_zero, Nat.zero_mul, ne_eq, Bool.not_eq_true, Bool.not_eq_false, reduceCtorEq, decide_true, decide_false, decide_eq_true_eq, decide_eq_false_iff_not, Bool.false_eq_true, if_pos, if_neg, h0, hA]
theorem kx_27 (hi : i < 60) (h0 : gI s 9 w 0 = nI i) (hA : gA s 9 w 1 i = nI 27) : f_X9_readRest w q s = fBd (f_X9_readCompare w s) fun x s => if x = nI 0 then some (nI 0, s) else fBd (f_X5_takeNumber (nI 0) (nI 99) s) fun x s => if x = nI 0 then some (nI 0, s) else some (nI 1, s) := by
  unfold f_X9_readRest
  simp (disch := omega) only [↓fLt_e, fBd_s, ↓fJn_s, fNn_s, fNu_0, fNu_s, fBo_0, fBo_1, fBo_b, i_lit, i_neg1, nI_add, pk_mul, nI_clamp, i_le, i_lt, i_eq, fIx_n, nI_mI, mI_nI, mI_lt, nI_lt_m, mI_le, nI_le_m, xI_0, xI_s, bI_0, bI_1, bI_t, bI_f, n_31, j_bit, j_one, i_and, i_or, Nat.not_lt_zero, Nat.succ_ne_zero, Nat.add_one_ne_zero, Nat.add_one_sub_one, Nat.zero_le, Nat.or_zero, Nat.zero_or, Bool.not_true, Bool.not_false, Bool.true_and, Bool.false_and, Bool.and_true, Bool.and_false, ↓reduceIte, if_true, if_false, not_true_eq_false, not_false_eq_true, true_and, and_true, false_and, and_false, and_self, true_or, or_true, false_or, or_false, Nat.reduceEqDiff, Nat.reduceLT, Nat.reduceLeDiff, Nat.reduceAdd, Nat.reduceMul, Nat.reduceSub, Nat.add_zero, Nat.zero_add, Nat.mul_zero, Nat.zero_mul, ne_eq, Bool.not_eq_true, Bool.not_eq_false, reduceCtorEq, decide_true, decide_false, decide_eq_true_eq, decide_eq_false_iff_not, Bool.false_eq_true, if_pos, if_neg, h0, hA]
theorem fBo_no {s : fSt} : fBo (nI 0) (some (nI 0, s)) = some (nI 0, s) := by rw [fBo_0]
theorem fBo_ye {s : fSt} : fBo (nI 1) (some (nI 1, s)) = some (nI 1, s) := by rw [fBo_1]
end
