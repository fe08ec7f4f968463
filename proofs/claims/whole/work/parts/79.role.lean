/-! layer 2: a stage under reading; a role -/
def sgR (sc sm : fSt) (q : Nat) (G : Nat → Nat) : Prop := gWf G ∧ rBlk (fun k => gA sm 12 0 5 (1720 + k)) G ∧ rStg sc q G ∧ rNam sc q G (fun k => gB sm 12 0 7 (112 + k)) ∧ (G 4 = 0 ∧ G 5 = 0 ∧ G 6 = 0 ∧ G 217 = 0 ∧ G 218 = 0)
theorem nmR_of {sc sm : fSt} {q : Nat} {G : Nat → Nat} (S : sgR sc sm q G) : nmR sc sm q G := by
  obtain ⟨W, B, T, N, -⟩ := S
  exact ⟨W.1, T.1, ⟨B.1.1, B.1.2.1, B.1.2.2.1, B.1.2.2.2.1⟩, N⟩
-- what the reading of a stage may change
def xQ (q : Nat) (s t : fSt) : Prop := (∀ c j k, ¬ (c = 5 ∧ j = 0 ∧ 4 ≤ k) → ¬ (c = 7 ∧ j = q) → gI t c j k = gI s c j k) ∧ (∀ c j k, ¬ (c = 5 ∧ j = 0 ∧ k = 7) → gL t c j k = gL s c j k) ∧ (∀ c j k, ¬ (c = 7 ∧ j = q) → gA t c j k = gA s c j k) ∧ (∀ c j k, ¬ (c = 7 ∧ j = q) → gB t c j k = gB s c j k) ∧ gP t = gP s
def yQ (s t : fSt) : Prop := (∀ c j k, ¬ (c = 12 ∧ j = 0 ∧ 12 ≤ k ∧ k < 19) → gI t c j k = gI s c j k) ∧ (∀ c j k, ¬ (c = 12 ∧ j = 0 ∧ k = 19) → gL t c j k = gL s c j k) ∧ (∀ c j k, ¬ (c = 12 ∧ j = 0 ∧ k = 5) → gA t c j k = gA s c j k) ∧ (∀ m, m < 1720 → gA t 12 0 5 m = gA s 12 0 5 m) ∧ (∀ c j k, ¬ (c = 12 ∧ j = 0 ∧ k = 7) → gB t c j k = gB s c j k) ∧ (∀ m, m < 112 → gB t 12 0 7 m = gB s 12 0 7 m) ∧ gP t = gP s
theorem xQ_rf (q : Nat) (s : fSt) : xQ q s s := ⟨fun _ _ _ _ _ => rfl, fun _ _ _ _ => rfl, fun _ _ _ _ => rfl, fun _ _ _ _ => rfl, rfl⟩
theorem yQ_rf (s : fSt) : yQ s s := ⟨fun _ _ _ _ => rfl, fun _ _ _ _ => rfl, fun _ _ _ _ => rfl, fun _ _ => rfl, fun _ _ _ _ => rfl, fun _ _ => rfl, rfl⟩
theorem xQ_tr {q : Nat} {s t u : fSt} (h : xQ q s t) (g : xQ q t u) : xQ q s u := ⟨fun c j k h1 h2 => (g.1 c j k h1 h2).trans (h.1 c j k h1 h2), fun c j k h1 => (g.2.1 c j k h1).trans (h.2.1 c j k h1), fun c j k h1 => (g.2.2.1 c j k h1).trans (h.2.2.1 c j k h1), fun c j k h1 => (g.2.2.2.1 c j k h1).trans (h.2.2.2.1 c j k h1), g.2.2.2.2.trans h.2.2.2.2⟩
theorem yQ_tr {s t u : fSt} (h : yQ s t) (g : yQ t u) : yQ s u := ⟨fun c j k h1 => (g.1 c j k h1).trans (h.1 c j k h1), fun c j k h1 => (g.2.1 c j k h1).trans (h.2.1 c j k h1), fun c j k h1 => (g.2.2.1 c j k h1).trans (h.2.2.1 c j k h1), fun m h1 => (g.2.2.2.1 m h1).trans (h.2.2.2.1 m h1), fun c j k h1 => (g.2.2.2.2.1 c j k h1).trans (h.2.2.2.2.1 c j k h1), fun m h1 => (g.2.2.2.2.2.1 m h1).trans (h.2.2.2.2.2.1 m h1), g.2.2.2.2.2.2.trans h.2.2.2.2.2.2⟩
theorem xQ_x {q : Nat} {s t : fSt} (h : xFr s t) : xQ q s t := by
  refine ⟨fun c j k h1 _ => h.1 c j k h1, h.2.1, fun c j k _ => ?_, fun c j k _ => ?_, h.2.2.2.2⟩
  · rw [h.2.2.1]
  · rw [h.2.2.2.1]
theorem yQ_y {s t : fSt} (h : yFr s t) : yQ s t := by
  refine ⟨h.1, h.2.1, fun c j k _ => ?_, fun m _ => ?_, fun c j k _ => ?_, fun m _ => ?_, h.2.2.2.2⟩
  · rw [h.2.2.1]
  · rw [h.2.2.1]
  · rw [h.2.2.2.1]
  · rw [h.2.2.2.1]
theorem xQ_b {q jj cnt : Nat} {w : Int64} {s t : fSt} (h : xFb s t q jj cnt w) : xQ q s t := by
  refine ⟨fun c j k h1 _ => h.1 c j k h1, h.2.1, fun c j k _ => ?_, fun c j k h1 => funext fun m => ?_, h.2.2.2.2⟩
  · rw [h.2.2.1]
  · rw [h.2.2.2.1, if_neg (fun e => h1 ⟨e.1, e.2.1⟩)]
theorem yQ_b {m : Nat} {w : Int64} {s t : fSt} (hm : 112 ≤ m) (h : yFb s t m w) : yQ s t := by
  refine ⟨h.1, h.2.1, fun c j k _ => ?_, fun m _ => ?_, fun c j k h1 => funext fun i => ?_, fun i hi => ?_, h.2.2.2.2⟩
  · rw [h.2.2.1]
  · rw [h.2.2.1]
  · rw [h.2.2.2.1, if_neg (fun e => h1 ⟨e.1, e.2.1, e.2.2.1⟩)]
  · rw [h.2.2.2.1, if_neg (by omega)]
theorem xQ_I {q k : Nat} {v : Int32} (s : fSt) : xQ q s (sI s 7 q k v) := by
  refine ⟨fun c j i _ h2 => ?_, fun _ _ _ _ => rfl, fun _ _ _ _ => rfl, fun _ _ _ _ => rfl, rfl⟩
  rw [gI_sI, if_neg (fun e => h2 ⟨e.1, e.2.1⟩)]
theorem yQ_A {m : Nat} {v : Int32} (s : fSt) (hm : 1720 ≤ m) : yQ s (sA s 12 0 5 (upd (gA s 12 0 5) m v)) := by
  refine ⟨fun _ _ _ _ => rfl, fun _ _ _ _ => rfl, fun c j k h1 => ?_, fun i hi => ?_, fun _ _ _ _ => rfl, fun _ _ => rfl, rfl⟩
  · rw [gA_sA, if_neg h1]
  · rw [gA_sA, if_pos ⟨rfl, rfl, rfl⟩, upd_at, if_neg (by omega)]
theorem m_sign_any (a : Int32) (s : fSt) : ∃ x, f_X12_isSign a s = some (x, s) := by
  unfold f_X12_isSign
  simp only [↓fJn_s, i_lit]
  by_cases h : gI s 12 0 14 = nI 3
  · by_cases g : gI s 12 0 17 = a
    · refine ⟨nI 1, ?_⟩
      simp (disch := omega) only [↓fLt_e, fBd_s, ↓fJn_s, fNn_s, fNu_0, fNu_s, fBo_0, fBo_1, fBo_b, i_lit, i_neg1, nI_add, pk_mul, nI_clamp, i_le, i_lt, i_eq, fIx_n, nI_mI, mI_nI, mI_lt, nI_lt_m, mI_le, nI_le_m, xI_0, xI_s, bI_0, bI_1, bI_t, bI_f, n_31, j_bit, j_one, i_and, i_or, Nat.not_lt_zero, Nat.succ_ne_zero, Nat.add_one_ne_zero, Nat.add_one_sub_one, Nat.zero_le, Nat.or_zero, Nat.zero_or, Bool.not_true, Bool.not_false, Bool.true_and, Bool.false_and, Bool.and_true, Bool.and_false, ↓reduceIte, if_true, if_false, not_true_eq_false, not_false_eq_true, true_and, and_true, false_and, and_false, and_self, true_or, or_true, false_or, or_false, Nat.reduceEqDiff, Nat.reduceLT, Nat.reduceLeDiff, Nat.reduceAdd, Nat.reduceMul, Nat.reduceSub, Nat.add_zero, Nat.zero_add, Nat.mul_zero, Nat.zero_mul, ne_eq, Bool.not_eq_true, Bool.not_eq_false, reduceCtorEq, decide_true, decide_false, decide_eq_true_eq, decide_eq_false_iff_not, Bool.false_eq_true, if_pos, if_neg, h, g]
    · refine ⟨nI 0, ?_⟩
      simp (disch := omega) only [↓fLt_e, fBd_s, ↓fJn_s, fNn_s, fNu_0, fNu_s, fBo_0, fBo_1, fBo_b, i_lit, i_neg1, nI_add, pk_mul, nI_clamp, i_le, i_lt, i_eq, fIx_n, nI_mI, mI_nI, mI_lt, nI_lt_m, mI_le, nI_le_m, xI_0, xI_s, bI_0, bI_1, bI_t, bI_f, n_31, j_bit, j_one, i_and, i_or, Nat.not_lt_zero, Nat.succ_ne_zero, Nat.add_one_ne_zero, Nat.add_one_sub_one, Nat.zero_le, Nat.or_zero, Nat.zero_or, Bool.not_true, Bool.not_false, Bool.true_and, Bool.false_and, Bool.and_true, Bool.and_false, ↓reduceIte, if_true, if_false, not_true_eq_false, not_false_eq_true, true_and, and_true, false_and, and_false, and_self, true_or, or_true, false_or, or_false, Nat.reduceEqDiff, Nat.reduceLT, Nat.reduceLeDiff, Nat.reduceAdd, Nat.reduceMul, Nat.reduceSub, Nat.add_zero, Nat.zero_add, Nat.mul_zero, Nat.zero_mul, ne_eq, Bool.not_eq_true, Bool.not_eq_false, reduceCtorEq, decide_true, decide_false, decide_eq_true_eq, decide_eq_false_iff_not, Bool.false_eq_true, if_pos, if_neg, h, g]
  · refine ⟨nI 0, ?_⟩
    simp (disch := omega) only [↓fLt_e, fBd_s, ↓fJn_s, fNn_s, fNu_0, fNu_s, fBo_0, fBo_1, fBo_b, i_lit, i_neg1, nI_add, pk_mul, nI_clamp, i_le, i_lt, i_eq, fIx_n, nI_mI, mI_nI, mI_lt, nI_lt_m, mI_le, nI_le_m, xI_0, xI_s, bI_0, bI_1, bI_t, bI_f, n_31, j_bit, j_one, i_and, i_or, Nat.not_lt_zero, Nat.succ_ne_zero, Nat.add_one_ne_zero, Nat.add_one_sub_one, Nat.zero_le, Nat.or_zero, Nat.zero_or, Bool.not_true, Bool.not_false, Bool.true_and, Bool.false_and, Bool.and_true, Bool.and_false, ↓reduceIte, if_true, if_false, not_true_eq_false, not_false_eq_true, true_and, and_true, false_and, and_false, and_self, true_or, or_true, false_or, or_false, Nat.reduceEqDiff, Nat.reduceLT, Nat.reduceLeDiff, Nat.reduceAdd, Nat.reduceMul, Nat.reduceSub, Nat.add_zero, Nat.zero_add, Nat.mul_zero, Nat.zero_mul, ne_eq, Bool.not_eq_true, Bool.not_eq_false, reduceCtorEq, decide_true, decide_false, decide_eq_true_eq, decide_eq_false_iff_not, Bool.false_eq_true, if_pos, if_neg, h]
section
variable {sc sm : fSt} {n : Nat} {c : Nat → Nat} {a p so : Nat}
theorem ps_A (P : psR sc sm n c a p so) (m : Nat) (v : Int32) : psR sc (sA sm 12 0 5 (upd (gA sm 12 0 5) m v)) n c a p so := by
  obtain ⟨T, q0, ⟨q1, q2, q3, q4, q5, q6⟩, q7, q8, q9⟩ := P
  refine ⟨tpe_e T rfl rfl rfl rfl ?_, q0, ⟨q1, q2, q3, q4, q5, q6⟩, q7, q8, q9⟩
  rw [gA_sA, if_neg (by omega)]
theorem ps_I7 (P : psR sc sm n c a p so) (q k : Nat) (v : Int32) : psR (sI sc 7 q k v) sm n c a p so := by
  obtain ⟨T, q0, ⟨q1, q2, q3, q4, q5, q6⟩, q7, q8, q9⟩ := P
  have e : ∀ i, gI (sI sc 7 q k v) 5 0 i = gI sc 5 0 i := fun i => by rw [gI_sI, if_neg (by omega)]
  exact ⟨tpe_e T (e 3) rfl rfl rfl rfl, tok_e q0 ⟨e 6, e 8⟩ rfl ⟨rfl, rfl, rfl⟩ rfl, ⟨(e 4).trans q1, (e 5).trans q2, q3, q4, q5, q6⟩, q7, (e 10).trans q8, (e 11).trans q9⟩
/-- the sign after an item -/
noncomputable def mTail (s : fSt) : Option (Unit × fSt) := fBd (f_X12_isSign (nI 59) s) fun x s1 => f_X12_must x s1
theorem mTail_no {k : Nat} (hk : 1 ≤ k ∧ k ≤ 7) (h : gI sm 12 0 12 = nI k) : mTail sm = some ((), sm) := by
  obtain ⟨x, hx⟩ := m_sign_any (nI 59) sm
  unfold mTail
  rw [hx, fBd_s, m_must_no hk h]
theorem ps_tail (P : psR sc sm n c a p so) : ∃ sc' sm', mTail sm = some ((), sm') ∧ xFr sc sc' ∧ yFr sm sm' ∧ ((f_X5_take (nI 59) sc = some (nI 1, sc') ∧ ∃ a' p' so', psR sc' sm' n c a' p' so' ∧ (p ≤ a' ∧ (¬ so' = 35 → p < p'))) ∨ (f_X5_take (nI 59) sc = some (nI 0, sc') ∧ ∃ d e, flR sc' sm' d e)) := by
  obtain ⟨s1, t1, e1, f1, g1, h⟩ := ps_take P (k := 59) (by omega)
  refine ⟨s1, t1, ?_, f1, g1, ?_⟩
  · unfold mTail
    rw [ps_sign P (by omega), fBd_s, e1]
  · rcases h with ⟨-, h, a', p', o', P', m, -⟩ | ⟨-, h, d, F⟩
    · exact Or.inl ⟨h, a', p', o', P', m⟩
    · exact Or.inr ⟨h, d, a, F⟩
end
theorem stR_role {sc sm sc' sm' : fSt} {q : Nat} {G G' : Nat → Nat} {w : Int64} (S : sgR sc sm q G) (h0 : G' 0 = G 0 + 1) (hG : ∀ k, 1 ≤ k → G' k = G k) (hlt : G 0 < 6)
    (x0 : gI sc' 7 q 0 = nI (G 0 + 1)) (x1 : ∀ k, 1 ≤ k → gI sc' 7 q k = gI sc 7 q k) (x2 : ∀ k, gA sc' 7 q k = gA sc 7 q k) (x3 : ∀ j k, gB sc' 7 q j k = if j = 1 ∧ k = G 0 then w else gB sc 7 q j k)
    (y0 : gA sm' 12 0 5 1720 = nI (G 0 + 1)) (y1 : ∀ k, 1 ≤ k → gA sm' 12 0 5 (1720 + k) = gA sm 12 0 5 (1720 + k)) (y2 : ∀ k, gB sm' 12 0 7 k = if k = 112 + G 0 then w else gB sm 12 0 7 k) : sgR sc' sm' q G' := by
  obtain ⟨⟨⟨w0, w1, w2, w3⟩, w4, w5, w6, w7, w8⟩, ⟨⟨-, c1, c2, c3, c4, c5, c6⟩, c7, c8, c9, c10, c11, c12⟩, ⟨⟨-, t1, t2, t3⟩, t4, t5, t6⟩, ⟨n0, n1, n2, n3⟩, z4, z5, z6, z7, z8⟩ := S
  have e1 := hG 1 (by omega)
  have e2 := hG 2 (by omega)
  have e3 := hG 3 (by omega)
  have e6 := hG 6 (by omega)
  have e17 := hG 217 (by omega)
  have e18 := hG 218 (by omega)
  refine ⟨⟨⟨by omega, by omega, by omega, by omega⟩, ?_, fun a ha => ?_, fun s hs => ?_, fun k hk => ?_, fun i hi => ?_⟩, ⟨⟨?_, ?_, ?_, ?_, ?_, ?_, ?_⟩, fun a ha => ?_, fun s hs => ?_, fun k hk => ?_, fun i hi => ?_, ?_, fun j hj => ?_⟩, ⟨⟨?_, ?_, ?_, ?_⟩, fun a ha => ?_, fun s hs => ?_, fun k hk => ?_⟩, ⟨fun k hk => ?_, fun k hk => ?_, fun k hk => ?_, fun k hk => ?_⟩, ?_, ?_, ?_, ?_, ?_⟩
  · rw [hG 4 (by omega), hG 5 (by omega), e6]; exact w4
  · rw [hG (7 + a) (by omega), hG (13 + a) (by omega), hG (19 + a) (by omega)]; exact w5 a (by omega)
  · have h := w6 s (by omega)
    rw [hG (25 + s) (by omega), hG (37 + s) (by omega), hG (49 + s) (by omega), hG (61 + s) (by omega), hG (73 + s) (by omega), hG (85 + s) (by omega), hG (97 + s) (by omega), hG (109 + s) (by omega), h0]
    exact ⟨h.1, Nat.lt_of_lt_of_le h.2.1 (Nat.pow_le_pow_right (by omega) (by omega)), h.2.2⟩
  · rw [hG (121 + k) (by omega), hG (125 + k) (by omega), hG (129 + k) (by omega), hG (133 + k) (by omega)]; exact w7 k (by omega)
  · omega
  · rw [h0]; exact y0
  · rw [e1]; exact (y1 1 (by omega)).trans c1
  · rw [e2]; exact (y1 2 (by omega)).trans c2
  · rw [e3]; exact (y1 3 (by omega)).trans c3
  · rw [hG 4 (by omega)]; exact (y1 4 (by omega)).trans c4
  · rw [hG 5 (by omega)]; exact (y1 5 (by omega)).trans c5
  · rw [e6]; exact (y1 6 (by omega)).trans c6
  · have h := c7 a (by omega)
    rw [hG (7 + a) (by omega), hG (13 + a) (by omega), hG (19 + a) (by omega)]
    exact ⟨(y1 _ (by omega)).trans h.1, (y1 _ (by omega)).trans h.2.1, (y1 _ (by omega)).trans h.2.2⟩
  · have h := c8 s (by omega)
    rw [hG (25 + s) (by omega), hG (37 + s) (by omega), hG (49 + s) (by omega), hG (61 + s) (by omega), hG (73 + s) (by omega), hG (85 + s) (by omega), hG (97 + s) (by omega), hG (109 + s) (by omega)]
    exact ⟨(y1 _ (by omega)).trans h.1, (y1 _ (by omega)).trans h.2.1, (y1 _ (by omega)).trans h.2.2.1, (y1 _ (by omega)).trans h.2.2.2.1, (y1 _ (by omega)).trans h.2.2.2.2.1, (y1 _ (by omega)).trans h.2.2.2.2.2.1, (y1 _ (by omega)).trans h.2.2.2.2.2.2.1, (y1 _ (by omega)).trans h.2.2.2.2.2.2.2⟩
  · have h := c9 k (by omega)
    rw [hG (121 + k) (by omega), hG (125 + k) (by omega), hG (129 + k) (by omega), hG (133 + k) (by omega)]
    exact ⟨(y1 _ (by omega)).trans h.1, (y1 _ (by omega)).trans h.2.1, (y1 _ (by omega)).trans h.2.2.1, (y1 _ (by omega)).trans h.2.2.2⟩
  · omega
  · rw [e17, e18]
    exact ⟨(y1 217 (by omega)).trans c11.1, (y1 218 (by omega)).trans c11.2.1, c11.2.2⟩
  · omega
  · rw [h0]; exact x0
  · rw [e1, x1 1 (by omega)]; exact t1
  · rw [e2, x1 2 (by omega)]; exact t2
  · rw [e3, x1 3 (by omega)]; exact t3
  · rw [hG (7 + a) (by omega), hG (13 + a) (by omega), hG (19 + a) (by omega), x2, x2, x2]; exact t4 a (by omega)
  · rw [hG (25 + s) (by omega), hG (37 + s) (by omega), hG (49 + s) (by omega), hG (61 + s) (by omega), hG (73 + s) (by omega), hG (85 + s) (by omega), hG (97 + s) (by omega), hG (109 + s) (by omega)]
    simp only [x2]
    exact t5 s (by omega)
  · rw [hG (121 + k) (by omega), hG (125 + k) (by omega), hG (129 + k) (by omega), hG (133 + k) (by omega)]
    simp only [x2]
    exact t6 k (by omega)
  · show gB sc' 7 q 1 k = gB sm' 12 0 7 (112 + k)
    rw [x3, y2]
    by_cases g : k = G 0
    · rw [if_pos ⟨rfl, g⟩, if_pos (by omega)]
    · rw [if_neg (fun e => g e.2), if_neg (by omega)]
      exact n0 k (by omega)
  · show gB sc' 7 q 2 k = gB sm' 12 0 7 (112 + (6 + k))
    rw [x3, y2, if_neg (by omega), if_neg (by omega)]
    exact n1 k (by omega)
  · show gB sc' 7 q 3 k = gB sm' 12 0 7 (112 + (12 + k))
    rw [x3, y2, if_neg (by omega), if_neg (by omega)]
    exact n2 k (by omega)
  · show gB sc' 7 q 4 k = gB sm' 12 0 7 (112 + (24 + k))
    rw [x3, y2, if_neg (by omega), if_neg (by omega)]
    exact n3 k (by omega)
  · rw [hG 4 (by omega)]; exact z4
  · rw [hG 5 (by omega)]; exact z5
  · rw [e6]; exact z6
  · rw [e17]; exact z7
  · rw [e18]; exact z8
