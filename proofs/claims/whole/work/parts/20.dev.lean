/-! layer 2: the present theatre changes -/
theorem rStg_G {sc : fSt} {q : Nat} {G G' : Nat → Nat} (w : gWf G) (h : ∀ k, k < 4 ∨ (7 ≤ k ∧ k < 137) ∨ 217 ≤ k → G' k = G k) (H : rStg sc q G) : rStg sc q G' := by
  have w := w.1
  obtain ⟨h1, h2, h3, h4⟩ := H
  have e0 := h 0 (by omega)
  have e1 := h 1 (by omega)
  have e2 := h 2 (by omega)
  have e3 := h 3 (by omega)
  unfold rStg
  rw [e0, e1, e2, e3]
  refine ⟨h1, fun a ha => ?_, fun s hs => ?_, fun k hk => ?_⟩
  · simp (disch := omega) only [h]; exact h2 a ha
  · simp (disch := omega) only [h]; exact h3 s hs
  · simp (disch := omega) only [h]; exact h4 k hk
theorem rStp_G {sc : fSt} {x : Nat} {G G' : Nat → Nat} (h : ∀ k, k < 4 ∨ (7 ≤ k ∧ k < 137) ∨ 217 ≤ k → G' k = G k) {j i : Nat} (H : rStp sc x G j i) : rStp sc x G' j i := by
  unfold rStp at *
  simp (disch := omega) only [h]
  exact H
theorem rBod_G {sc : fSt} {x : Nat} {G G' : Nat → Nat} (h : ∀ k, k < 4 ∨ (7 ≤ k ∧ k < 137) ∨ 217 ≤ k → G' k = G k) : ∀ n a b i i', rBod sc x G n a b i i' → rBod sc x G' n a b i i' := by
  intro n
  induction n with
  | zero => intro a b i i' H; exact H
  | succ n ih =>
    intro a b i i' H
    have e1 := h (219 + 7 * a) (by omega)
    have e2 := h (225 + 7 * a) (by omega)
    rcases H with H | ⟨h1, h2, H⟩
    · exact Or.inl H
    · refine Or.inr ⟨h1, rStp_G h h2, ?_⟩
      rw [e1, e2]
      rcases H with ⟨a1, a2, a3, a4⟩ | ⟨a1, a2, a3, m, b1, b2, b3, b4, b5, b6⟩
      · exact Or.inl ⟨a1, a2, a3, ih _ _ _ _ a4⟩
      · exact Or.inr ⟨a1, a2, a3, m, ih _ _ _ _ b1, b2, b3, b4, b5, ih _ _ _ _ b6⟩
/-- all but what is barred, dead and the book of the present house -/
def cEq0 (s t : fSt) : Prop := (∀ c, (c = 7 ∨ c = 8 ∨ c = 9) → ∀ i k, gI t c i k = gI s c i k ∧ gL t c i k = gL s c i k ∧ gA t c i k = gA s c i k ∧ gB t c i k = gB s c i k ∧ gP t c i k = gP s c i k) ∧
  (∀ i k, ¬ (i = 0 ∧ (k = 2 ∨ k = 3)) → gI t 2 i k = gI s 2 i k) ∧ (∀ i k, gP t 2 i k = gP s 2 i k) ∧ (∀ i, i ≠ 0 → gI t 0 i 0 = gI s 0 i 0 ∧ gA t 0 i 1 = gA s 0 i 1) ∧
  gA t 1 0 1 = gA s 1 0 1 ∧ gB t 4 0 1 = gB s 4 0 1 ∧ (gI t 5 0 2 = gI s 5 0 2 ∧ gA t 5 0 1 = gA s 5 0 1 ∧ gB t 5 0 2 = gB s 5 0 2) ∧
  (gI t 10 0 3 = gI s 10 0 3 ∧ gI t 10 0 5 = gI s 10 0 5 ∧ gI t 10 0 6 = gI s 10 0 6 ∧ gI t 10 0 7 = gI s 10 0 7 ∧ gI t 10 0 8 = gI s 10 0 8 ∧ gI t 10 0 9 = gI s 10 0 9) ∧
  (gI t 11 0 5 = gI s 11 0 5 ∧ gI t 11 0 6 = gI s 11 0 6 ∧ gI t 11 0 9 = gI s 11 0 9 ∧ gI t 11 0 17 = gI s 11 0 17 ∧ gL t 11 0 3 = gL s 11 0 3 ∧ gL t 11 0 4 = gL s 11 0 4 ∧ gA t 11 0 3 = gA s 11 0 3)
def mEq0 (s t : fSt) : Prop := (gI t 12 0 8 = gI s 12 0 8 ∧ gI t 12 0 10 = gI s 12 0 10 ∧ gI t 12 0 11 = gI s 12 0 11 ∧ gI t 12 0 23 = gI s 12 0 23 ∧ gI t 12 0 46 = gI s 12 0 46 ∧ gI t 12 0 54 = gI s 12 0 54 ∧ gI t 12 0 56 = gI s 12 0 56) ∧
  (gL t 12 0 2 = gL s 12 0 2 ∧ gL t 12 0 3 = gL s 12 0 3) ∧
  (gA t 12 0 1 = gA s 12 0 1 ∧ gA t 12 0 2 = gA s 12 0 2 ∧ gA t 12 0 4 = gA s 12 0 4 ∧ (∀ k, k < 4 ∨ (7 ≤ k ∧ k < 137) ∨ 217 ≤ k → gA t 12 0 5 k = gA s 12 0 5 k) ∧ gA t 12 0 16 = gA s 12 0 16 ∧ gA t 12 0 20 = gA s 12 0 20 ∧ gA t 12 0 22 = gA s 12 0 22) ∧
  (gB t 12 0 3 = gB s 12 0 3 ∧ gB t 12 0 7 = gB s 12 0 7)
theorem cEq0_rf (s : fSt) : cEq0 s s := ⟨fun _ _ _ _ => ⟨rfl, rfl, rfl, rfl, rfl⟩, fun _ _ _ => rfl, fun _ _ => rfl, fun _ _ => ⟨rfl, rfl⟩, rfl, rfl, ⟨rfl, rfl, rfl⟩, ⟨rfl, rfl, rfl, rfl, rfl, rfl⟩, rfl, rfl, rfl, rfl, rfl, rfl, rfl⟩
theorem rOne_h {sc sc' sm sm' : fSt} (h : cEq0 sc sc') (g : mEq0 sm sm') {k q : Nat} {G : Nat → Nat} (hk : k ≠ 0) (H : rOne sc sm k q G) : rOne sc' sm' k q G := by
  obtain ⟨h1, h2, h3, h4, h5⟩ := H
  obtain ⟨c1, c2, c3, c4, -⟩ := h
  have e7 := fun i k => (c1 7 (by decide) i k).1
  have e7a := fun i k => (c1 7 (by decide) i k).2.2.1
  have e7b := fun i k => (c1 7 (by decide) i k).2.2.2.1
  have e9 := fun i k => (c1 9 (by decide) i k).1
  have e9a := fun i k => (c1 9 (by decide) i k).2.2.1
  have e2 := fun j => c2 k j (fun z => hk z.1)
  obtain ⟨-, -, ⟨-, -, -, ga, -⟩, -, gb⟩ := g
  refine ⟨h1, ?_, ?_, ?_, ?_⟩
  · unfold rHou rStg rBok at *
    simp only [e2, c3, (c4 k hk).1, (c4 k hk).2, e7, e7a]
    exact h2
  · have : (fun j => gA sm' 12 0 5 (430 * k + j)) = fun j => gA sm 12 0 5 (430 * k + j) := funext fun j => ga _ (by omega)
    rw [this]
    exact h3
  · unfold rNam at *
    simp only [e7b, gb]
    exact h4
  · unfold rWk at *
    simp only [c3, e9]
    rcases h5 with h5 | ⟨a, w, m, b1, b2, b3, b4, b5⟩
    · exact Or.inl h5
    · exact Or.inr ⟨a, w, m, b1, b2, b3, b4, rBod_e e9a _ _ _ _ _ b5⟩
theorem up0 {sc sc' sm sm' : fSt} (H : RX sc sm) (h : cEq0 sc sc') (g : mEq0 sm sm')
    (hG : ∀ q G, gWf G → rHou sc 0 q G → rBlk (gA sm 12 0 5) G → ∃ G', (∀ k, k < 4 ∨ (7 ≤ k ∧ k < 137) ∨ 217 ≤ k → G' k = G k) ∧ gWf G' ∧ (gI sc' 2 0 2 = nI (G' 4) ∧ gI sc' 2 0 3 = nI (G' 5)) ∧ rBok sc' 0 G' ∧
      (gA sm' 12 0 5 4 = nI (G' 4) ∧ gA sm' 12 0 5 5 = nI (G' 5) ∧ gA sm' 12 0 5 6 = nI (G' 6)) ∧
      (∀ i, i < G' 6 → gA sm' 12 0 5 (137 + 4 * i) = nI (G' (137 + 4 * i)) ∧ gA sm' 12 0 5 (138 + 4 * i) = xI (G' (138 + 4 * i)) ∧ gA sm' 12 0 5 (139 + 4 * i) = xI (G' (139 + 4 * i)) ∧ gA sm' 12 0 5 (140 + 4 * i) = nI (G' (140 + 4 * i)))) : RX sc' sm' := by
  have h0 := h
  have g0 := g
  obtain ⟨c1, c2, c3, c4, d1, d2, ⟨d3, d4, d5⟩, ⟨d6, d7, d8, d9, d10, d11⟩, x1, x2, x3, x4, x5, x6, x7⟩ := h
  obtain ⟨⟨m1, m2, m3, m4, m5, m6, m7⟩, ⟨n1, n2⟩, ⟨p1, p2, p3, p4, p5, p6, p7⟩, q1, q2⟩ := g
  obtain ⟨r1, r2, r3, r4, r5, r6, r7, r8, n, qq, GG, s1, s2, s3, s4⟩ := H
  refine ⟨?_, ?_, ?_, ?_, ?_, ?_, ?_, ?_, ?_⟩
  · unfold rF at *; rw [x5, x6, n1, n2]; exact r1
  · unfold rQ at *; rw [x1, x2, m2, m3]; exact r2
  · unfold rT at *
    have e8 := fun i k => (c1 8 (by decide) i k).1
    have e8b := fun i k => (c1 8 (by decide) i k).2.2.2.1
    simp only [e8, e8b, p1, p2, q1]
    exact r3
  · unfold rP at *; rw [d3, d4, d5, m1, p3]; exact r4
  · unfold rS at *; rw [x4, x7, m5, p5]; exact r5
  · unfold rC at *; rw [d1, m6, p6]; exact r6
  · unfold rW at *; rw [d6, d7, d8, d9, d10, d11, m7, p7]; exact r7
  · unfold rO at *; rw [d2]; exact r8
  · obtain ⟨w, X, B, N, K⟩ := s4 0 (Nat.zero_le _)
    have B' := B
    simp only [Nat.mul_zero, Nat.zero_add] at B'
    obtain ⟨G', e, w', f1, f2, f3, f4⟩ := hG (qq 0) (GG 0) w X B'
    have e7 := fun i k => (c1 7 (by decide) i k).1
    have e7a := fun i k => (c1 7 (by decide) i k).2.2.1
    have e7b := fun i k => (c1 7 (by decide) i k).2.2.2.1
    have e9 := fun i k => (c1 9 (by decide) i k).1
    have e9a := fun i k => (c1 9 (by decide) i k).2.2.1
    have i0 := e 0 (by omega)
    have i1 := e 1 (by omega)
    have i2 := e 2 (by omega)
    have i3 := e 3 (by omega)
    have w0 := w.1
    refine ⟨n, qq, fun h => if h = 0 then G' else GG h, s1, by rw [x3]; exact s2, by rw [m4]; exact s3, fun k hk => ?_⟩
    by_cases hz : k = 0
    · subst hz
      simp only [if_true]
      refine ⟨w', ⟨?_, ?_, f1, f2⟩, ?_, ?_, ?_⟩
      · rw [c3]; exact X.1
      · have := rStg_G w e X.2.1
        unfold rStg at *
        simp only [e7, e7a]
        exact this
      · simp only [Nat.mul_zero, Nat.zero_add]
        obtain ⟨b1, b2, b3, b4, b5, b6, b7⟩ := B'
        refine ⟨?_, fun a ha => ?_, fun s hs => ?_, fun j hj => ?_, f4, ?_, fun j hj => ?_⟩
        · rw [p4 0 (by omega), p4 1 (by omega), p4 2 (by omega), p4 3 (by omega), i0, i1, i2, i3]
          exact ⟨b1.1, b1.2.1, b1.2.2.1, b1.2.2.2.1, f3⟩
        · rw [i1] at ha
          simp (disch := omega) only [p4, e]
          exact b2 a ha
        · rw [i2] at hs
          simp (disch := omega) only [p4, e]
          exact b3 s hs
        · rw [i3] at hj
          simp (disch := omega) only [p4, e]
          exact b4 j hj
        · rw [p4 217 (by omega), p4 218 (by omega), e 217 (by omega), e 218 (by omega)]
          exact b6
        · rw [e 218 (by omega)] at hj
          simp (disch := omega) only [p4, e]
          exact b7 j hj
      · unfold rNam at *
        simp only [e7b, q2, i0, i1, i2, i3]
        exact N
      · unfold rWk at *
        simp only [c3, e9, e 217 (by omega), e 218 (by omega)]
        rcases K with K | ⟨a, w, m, b1, b2, b3, b4, b5⟩
        · exact Or.inl K
        · exact Or.inr ⟨a, w, m, b1, b2, b3, b4, rBod_G e _ _ _ _ _ (rBod_e e9a _ _ _ _ _ b5)⟩
    · rw [if_neg hz]
      exact rOne_h h0 g0 hz (s4 k hk)
theorem pro_eq (sm : fSt) : sI (sI sm 12 0 1 0) 12 0 0 0 = pro sm := rfl
/-! layer 2: the calls that read and write -/
theorem call_status : CALL f_X11_status f_X12_status := by
  intro sc sm ⟨hA, H⟩
  have hA' : gI sc 11 0 2 = gI sm 12 0 0 := hA
  refine ⟨gI sm 12 0 0, sc, sI sm 12 0 1 0, ?_, rfl, RR_of (RX_e (cEq_rf _) (mEq_th _ _) H) hA⟩
  unfold f_X11_status
  rw [hA']
theorem call_top : CALL f_X11_top f_X12_top := by
  intro sc sm ⟨hA, H⟩
  have h : gL sc 11 0 3 = gL sm 12 0 2 := H.1.1
  refine ⟨gL sm 12 0 2, sc, sI sm 12 0 1 0, ?_, rfl, RR_of (RX_e (cEq_rf _) (mEq_th _ _) H) hA⟩
  unfold f_X11_top
  rw [h]
theorem call_bottom : CALL f_X11_bottom f_X12_bottom := by
  intro sc sm ⟨hA, H⟩
  have h : gL sc 11 0 4 = gL sm 12 0 3 := H.1.2
  refine ⟨gL sm 12 0 3, sc, sI sm 12 0 1 0, ?_, rfl, RR_of (RX_e (cEq_rf _) (mEq_th _ _) H) hA⟩
  unfold f_X11_bottom
  rw [h]
theorem call_fault (a : Int32) : CALL (f_X11_fault a) (f_X12_fault a) := by
  intro sc sm ⟨hA, H⟩
  obtain ⟨h1, h2⟩ : gI sc 11 0 5 = gI sm 12 0 10 ∧ gI sc 11 0 6 = gI sm 12 0 11 := H.2.1
  have R : RR sc (sI sm 12 0 1 0) := RR_of (RX_e (cEq_rf _) (mEq_th _ _) H) hA
  unfold f_X11_fault f_X12_fault
  simp only [fLt_e, fJn_s, h1, h2, gI_sI]
  by_cases h0 : a = 0
  · subst h0
    exact ⟨_, _, _, rfl, rfl, R⟩
  · by_cases h1 : a = 1
    · subst h1
      exact ⟨_, _, _, rfl, rfl, R⟩
    · rw [if_pos h0, if_pos h1, if_pos h0, if_pos h1]
      exact ⟨_, _, _, rfl, rfl, R⟩
def gbit (b : Bool) (x k : Nat) : Nat := if b then x ||| 2 ^ k else x ^^^ (x &&& 2 ^ k)
theorem gbit_lt {b : Bool} {x k n : Nat} (hx : x < 2 ^ n) (hk : k < n) : gbit b x k < 2 ^ n := by
  unfold gbit
  have h2 : 2 ^ k < 2 ^ n := Nat.pow_lt_pow_right (by omega) hk
  split
  · exact Nat.or_lt_two_pow hx h2
  · exact Nat.xor_lt_two_pow hx (Nat.and_lt_two_pow _ h2)
theorem x_setBarred {sc : fSt} {x s : Nat} (a : Int32) (hs : s < 31) (h : gI sc 2 0 2 = nI x) : f_X2_setBarred 0 (nI s) a sc = some ((), sI sc 2 0 2 (nI (gbit (decide (¬ a = 0)) x s))) := by
  unfold f_X2_setBarred gbit
  have e0 : (a = nI 0) = (a = 0) := rfl
  by_cases ha : a = 0
  · simp (disch := omega) only [fLt_e, fBd_s, fJn_s, fNn_s, fNu_0, fNu_s, fBo_0, fBo_1, fBo_b, i_lit, i_neg1, nI_add, pk_mul, nI_clamp, i_le, i_lt, i_eq, fIx_n, nI_mI, mI_nI, mI_lt, nI_lt_m, mI_le, nI_le_m, xI_0, xI_s, bI_0, bI_1, bI_t, bI_f, n_31, j_bit, j_one, i_and, i_or, Nat.not_lt_zero, Nat.succ_ne_zero, Nat.add_one_ne_zero, Nat.add_one_sub_one, Nat.zero_le, Nat.or_zero, Nat.zero_or, Bool.not_true, Bool.not_false, Bool.true_and, Bool.false_and, Bool.and_true, Bool.and_false, ↓reduceIte, if_true, if_false, not_true_eq_false, not_false_eq_true, true_and, and_true, false_and, and_false, and_self, true_or, or_true, false_or, or_false, Nat.reduceEqDiff, Nat.reduceLT, Nat.reduceLeDiff, Nat.reduceAdd, Nat.reduceMul, Nat.reduceSub, Nat.add_zero, Nat.zero_add, Nat.mul_zero, Nat.zero_mul, ne_eq, Bool.not_eq_true, Bool.not_eq_false, reduceCtorEq, decide_true, decide_false, decide_eq_true_eq, decide_eq_false_iff_not, Bool.false_eq_true, if_pos, if_neg, h, i_andn, e0, ha]
  · simp (disch := omega) only [fLt_e, fBd_s, fJn_s, fNn_s, fNu_0, fNu_s, fBo_0, fBo_1, fBo_b, i_lit, i_neg1, nI_add, pk_mul, nI_clamp, i_le, i_lt, i_eq, fIx_n, nI_mI, mI_nI, mI_lt, nI_lt_m, mI_le, nI_le_m, xI_0, xI_s, bI_0, bI_1, bI_t, bI_f, n_31, j_bit, j_one, i_and, i_or, Nat.not_lt_zero, Nat.succ_ne_zero, Nat.add_one_ne_zero, Nat.add_one_sub_one, Nat.zero_le, Nat.or_zero, Nat.zero_or, Bool.not_true, Bool.not_false, Bool.true_and, Bool.false_and, Bool.and_true, Bool.and_false, ↓reduceIte, if_true, if_false, not_true_eq_false, not_false_eq_true, true_and, and_true, false_and, and_false, and_self, true_or, or_true, false_or, or_false, Nat.reduceEqDiff, Nat.reduceLT, Nat.reduceLeDiff, Nat.reduceAdd, Nat.reduceMul, Nat.reduceSub, Nat.add_zero, Nat.zero_add, Nat.mul_zero, Nat.zero_mul, ne_eq, Bool.not_eq_true, Bool.not_eq_false, reduceCtorEq, decide_true, decide_false, decide_eq_true_eq, decide_eq_false_iff_not, Bool.false_eq_true, if_pos, if_neg, h, i_andn, e0, ha]
theorem x_setDead {sc : fSt} {x s : Nat} (a : Int32) (hs : s < 31) (h : gI sc 2 0 3 = nI x) : f_X2_setDead 0 (nI s) a sc = some ((), sI sc 2 0 3 (nI (gbit (decide (¬ a = 0)) x s))) := by
  unfold f_X2_setDead gbit
  have e0 : (a = nI 0) = (a = 0) := rfl
  by_cases ha : a = 0
  · simp (disch := omega) only [fLt_e, fBd_s, fJn_s, fNn_s, fNu_0, fNu_s, fBo_0, fBo_1, fBo_b, i_lit, i_neg1, nI_add, pk_mul, nI_clamp, i_le, i_lt, i_eq, fIx_n, nI_mI, mI_nI, mI_lt, nI_lt_m, mI_le, nI_le_m, xI_0, xI_s, bI_0, bI_1, bI_t, bI_f, n_31, j_bit, j_one, i_and, i_or, Nat.not_lt_zero, Nat.succ_ne_zero, Nat.add_one_ne_zero, Nat.add_one_sub_one, Nat.zero_le, Nat.or_zero, Nat.zero_or, Bool.not_true, Bool.not_false, Bool.true_and, Bool.false_and, Bool.and_true, Bool.and_false, ↓reduceIte, if_true, if_false, not_true_eq_false, not_false_eq_true, true_and, and_true, false_and, and_false, and_self, true_or, or_true, false_or, or_false, Nat.reduceEqDiff, Nat.reduceLT, Nat.reduceLeDiff, Nat.reduceAdd, Nat.reduceMul, Nat.reduceSub, Nat.add_zero, Nat.zero_add, Nat.mul_zero, Nat.zero_mul, ne_eq, Bool.not_eq_true, Bool.not_eq_false, reduceCtorEq, decide_true, decide_false, decide_eq_true_eq, decide_eq_false_iff_not, Bool.false_eq_true, if_pos, if_neg, h, i_andn, e0, ha]
  · simp (disch := omega) only [fLt_e, fBd_s, fJn_s, fNn_s, fNu_0, fNu_s, fBo_0, fBo_1, fBo_b, i_lit, i_neg1, nI_add, pk_mul, nI_clamp, i_le, i_lt, i_eq, fIx_n, nI_mI, mI_nI, mI_lt, nI_lt_m, mI_le, nI_le_m, xI_0, xI_s, bI_0, bI_1, bI_t, bI_f, n_31, j_bit, j_one, i_and, i_or, Nat.not_lt_zero, Nat.succ_ne_zero, Nat.add_one_ne_zero, Nat.add_one_sub_one, Nat.zero_le, Nat.or_zero, Nat.zero_or, Bool.not_true, Bool.not_false, Bool.true_and, Bool.false_and, Bool.and_true, Bool.and_false, ↓reduceIte, if_true, if_false, not_true_eq_false, not_false_eq_true, true_and, and_true, false_and, and_false, and_self, true_or, or_true, false_or, or_false, Nat.reduceEqDiff, Nat.reduceLT, Nat.reduceLeDiff, Nat.reduceAdd, Nat.reduceMul, Nat.reduceSub, Nat.add_zero, Nat.zero_add, Nat.mul_zero, Nat.zero_mul, ne_eq, Bool.not_eq_true, Bool.not_eq_false, reduceCtorEq, decide_true, decide_false, decide_eq_true_eq, decide_eq_false_iff_not, Bool.false_eq_true, if_pos, if_neg, h, i_andn, e0, ha]
theorem m_with {x s : Nat} (a : Int32) (hs : s < 31) (sm : fSt) : f_X12_with (nI x) (nI s) a sm = some (nI (gbit (decide (¬ a = 0)) x s), sm) := by
  unfold f_X12_with gbit
  have e0 : (a = nI 0) = (a = 0) := rfl
  by_cases ha : a = 0
  · simp (disch := omega) only [fLt_e, fBd_s, fJn_s, fNn_s, fNu_0, fNu_s, fBo_0, fBo_1, fBo_b, i_lit, i_neg1, nI_add, pk_mul, nI_clamp, i_le, i_lt, i_eq, fIx_n, nI_mI, mI_nI, mI_lt, nI_lt_m, mI_le, nI_le_m, xI_0, xI_s, bI_0, bI_1, bI_t, bI_f, n_31, j_bit, j_one, i_and, i_or, Nat.not_lt_zero, Nat.succ_ne_zero, Nat.add_one_ne_zero, Nat.add_one_sub_one, Nat.zero_le, Nat.or_zero, Nat.zero_or, Bool.not_true, Bool.not_false, Bool.true_and, Bool.false_and, Bool.and_true, Bool.and_false, ↓reduceIte, if_true, if_false, not_true_eq_false, not_false_eq_true, true_and, and_true, false_and, and_false, and_self, true_or, or_true, false_or, or_false, Nat.reduceEqDiff, Nat.reduceLT, Nat.reduceLeDiff, Nat.reduceAdd, Nat.reduceMul, Nat.reduceSub, Nat.add_zero, Nat.zero_add, Nat.mul_zero, Nat.zero_mul, ne_eq, Bool.not_eq_true, Bool.not_eq_false, reduceCtorEq, decide_true, decide_false, decide_eq_true_eq, decide_eq_false_iff_not, Bool.false_eq_true, if_pos, if_neg, i_andn, e0, ha]
  · simp (disch := omega) only [fLt_e, fBd_s, fJn_s, fNn_s, fNu_0, fNu_s, fBo_0, fBo_1, fBo_b, i_lit, i_neg1, nI_add, pk_mul, nI_clamp, i_le, i_lt, i_eq, fIx_n, nI_mI, mI_nI, mI_lt, nI_lt_m, mI_le, nI_le_m, xI_0, xI_s, bI_0, bI_1, bI_t, bI_f, n_31, j_bit, j_one, i_and, i_or, Nat.not_lt_zero, Nat.succ_ne_zero, Nat.add_one_ne_zero, Nat.add_one_sub_one, Nat.zero_le, Nat.or_zero, Nat.zero_or, Bool.not_true, Bool.not_false, Bool.true_and, Bool.false_and, Bool.and_true, Bool.and_false, ↓reduceIte, if_true, if_false, not_true_eq_false, not_false_eq_true, true_and, and_true, false_and, and_false, and_self, true_or, or_true, false_or, or_false, Nat.reduceEqDiff, Nat.reduceLT, Nat.reduceLeDiff, Nat.reduceAdd, Nat.reduceMul, Nat.reduceSub, Nat.add_zero, Nat.zero_add, Nat.mul_zero, Nat.zero_mul, ne_eq, Bool.not_eq_true, Bool.not_eq_false, reduceCtorEq, decide_true, decide_false, decide_eq_true_eq, decide_eq_false_iff_not, Bool.false_eq_true, if_pos, if_neg, i_andn, e0, ha]
theorem gWf_4 {G : Nat → Nat} (w : gWf G) {v : Nat} (h : v < 4096) : gWf (fun k => if k = 4 then v else G k) := by
  obtain ⟨w1, ⟨w2, w3, w4⟩, w5, w6, w7, w8⟩ := w
  refine ⟨w1, ⟨h, w3, w4⟩, fun a ha => ?_, fun s hs => ?_, fun k hk => ?_, fun i hi => ?_⟩
  · simp (disch := omega) only [if_neg]; exact w5 a ha
  · simp (disch := omega) only [if_neg]; exact w6 s hs
  · simp (disch := omega) only [if_neg]; exact w7 k hk
  · simp (disch := omega) only [if_neg]; exact w8 i hi
theorem gWf_5 {G : Nat → Nat} (w : gWf G) {v : Nat} (h : v < 64) : gWf (fun k => if k = 5 then v else G k) := by
  obtain ⟨w1, ⟨w2, w3, w4⟩, w5, w6, w7, w8⟩ := w
  refine ⟨w1, ⟨w2, h, w4⟩, fun a ha => ?_, fun s hs => ?_, fun k hk => ?_, fun i hi => ?_⟩
  · simp (disch := omega) only [if_neg]; exact w5 a ha
  · simp (disch := omega) only [if_neg]; exact w6 s hs
  · simp (disch := omega) only [if_neg]; exact w7 k hk
  · simp (disch := omega) only [if_neg]; exact w8 i hi
/-- the present barred (k = 2, 4) or dead (3, 5) set is another one -/
theorem up_bar {sc sm : fSt} (H : RX sc sm) {v : Nat} (hv : v < 4096) : RX (sI sc 2 0 2 (nI v)) (sA sm 12 0 5 (upd (gA sm 12 0 5) 4 (nI v))) := by
  refine up0 H ⟨fun c hc i k => by rcases hc with rfl | rfl | rfl <;> exact ⟨rfl, rfl, rfl, rfl, rfl⟩, fun i k hk => ?_, fun i k => rfl, fun i hi => ⟨rfl, rfl⟩, rfl, rfl, ⟨rfl, rfl, rfl⟩, ⟨rfl, rfl, rfl, rfl, rfl, rfl⟩, rfl, rfl, rfl, rfl, rfl, rfl, rfl⟩
    ⟨⟨rfl, rfl, rfl, rfl, rfl, rfl, rfl⟩, ⟨rfl, rfl⟩, ⟨rfl, rfl, rfl, fun k hk => ?_, rfl, rfl, rfl⟩, rfl, rfl⟩ ?_
  · rw [gI_sI, if_neg (by omega)]
  · rw [gA_same, upd_at, if_neg (by omega)]
  · intro q G w X B
    refine ⟨fun k => if k = 4 then v else G k, fun k hk => if_neg (by omega), gWf_4 w hv, ⟨gI_same _ _ _ _ _, ?_⟩, ?_, ⟨?_, ?_, ?_⟩, fun i hi => ?_⟩
    · exact X.2.2.1.2
    · refine ⟨X.2.2.2.1, fun i hi => ?_⟩
      simp (disch := omega) only [if_neg]
      exact X.2.2.2.2 i hi
    · rw [gA_same]; rfl
    · rw [gA_same]; exact B.1.2.2.2.2.2.1
    · rw [gA_same]; exact B.1.2.2.2.2.2.2
    · simp (disch := omega) only [gA_same, upd_at, if_neg]
      exact B.2.2.2.2.1 i hi
theorem up_dead {sc sm : fSt} (H : RX sc sm) {v : Nat} (hv : v < 64) : RX (sI sc 2 0 3 (nI v)) (sA sm 12 0 5 (upd (gA sm 12 0 5) 5 (nI v))) := by
  refine up0 H ⟨fun c hc i k => by rcases hc with rfl | rfl | rfl <;> exact ⟨rfl, rfl, rfl, rfl, rfl⟩, fun i k hk => ?_, fun i k => rfl, fun i hi => ⟨rfl, rfl⟩, rfl, rfl, ⟨rfl, rfl, rfl⟩, ⟨rfl, rfl, rfl, rfl, rfl, rfl⟩, rfl, rfl, rfl, rfl, rfl, rfl, rfl⟩
    ⟨⟨rfl, rfl, rfl, rfl, rfl, rfl, rfl⟩, ⟨rfl, rfl⟩, ⟨rfl, rfl, rfl, fun k hk => ?_, rfl, rfl, rfl⟩, rfl, rfl⟩ ?_
  · rw [gI_sI, if_neg (by omega)]
  · rw [gA_same, upd_at, if_neg (by omega)]
  · intro q G w X B
    refine ⟨fun k => if k = 5 then v else G k, fun k hk => if_neg (by omega), gWf_5 w hv, ⟨?_, gI_same _ _ _ _ _⟩, ?_, ⟨?_, ?_, ?_⟩, fun i hi => ?_⟩
    · exact X.2.2.1.1
    · refine ⟨X.2.2.2.1, fun i hi => ?_⟩
      simp (disch := omega) only [if_neg]
      exact X.2.2.2.2 i hi
    · rw [gA_same]; exact B.1.2.2.2.2.1
    · rw [gA_same]; rfl
    · rw [gA_same]; exact B.1.2.2.2.2.2.2
    · simp (disch := omega) only [gA_same, upd_at, if_neg]
      exact B.2.2.2.2.1 i hi
theorem call_bar (a b : Int32) : CALL (f_X11_bar a b) (f_X12_bar a b) := by
  intro sc sm ⟨hA, H⟩
  have H := pro_x H
  have z := pro_0 sm
  unfold f_X11_bar f_X12_bar
  simp only [fLt_e, pro_eq]
  generalize pro sm = s2 at *
  obtain ⟨q, G, w, X, B, -⟩ := RX_cur H
  rw [x_hasScene X w, m_isSceneAt B w]
  cases hb : inB a.toInt 0 (G 2 - 1)
  · simp only [fLt_e, fBd_s, fJn_s, fNn_s, fNu_0, fNu_s, fBo_0, fBo_1, fBo_b, i_lit, i_neg1, nI_add, pk_mul, nI_clamp, i_le, i_lt, i_eq, fIx_n, nI_mI, mI_nI, mI_lt, nI_lt_m, mI_le, nI_le_m, xI_0, xI_s, bI_0, bI_1, bI_t, bI_f, n_31, j_bit, j_one, i_and, i_or, Nat.not_lt_zero, Nat.succ_ne_zero, Nat.add_one_ne_zero, Nat.add_one_sub_one, Nat.zero_le, Nat.or_zero, Nat.zero_or, Bool.not_true, Bool.not_false, Bool.true_and, Bool.false_and, Bool.and_true, Bool.and_false, ↓reduceIte, if_true, if_false, not_true_eq_false, not_false_eq_true, true_and, and_true, false_and, and_false, and_self, true_or, or_true, false_or, or_false, Nat.reduceEqDiff, Nat.reduceLT, Nat.reduceLeDiff, Nat.reduceAdd, Nat.reduceMul, Nat.reduceSub, Nat.add_zero, Nat.zero_add, Nat.mul_zero, Nat.zero_mul, ne_eq, Bool.not_eq_true, Bool.not_eq_false, reduceCtorEq, decide_true, decide_false, decide_eq_true_eq, decide_eq_false_iff_not, Bool.false_eq_true, if_pos, if_neg, f_X11_refuse, f_X12_no]
    exact ⟨_, _, _, rfl, rfl, fin_st H _⟩
  · have hb := inB_t.mp hb
    obtain ⟨s, hs, rfl, -⟩ := nI_ofInt (n := G 2) hb.1 (by omega)
    have w1 := w.1
    have w2 := w.2.1
    have hv := gbit_lt (b := decide (¬ b = 0)) (show G 4 < 2 ^ 12 from w2.1) (show s < 12 by omega)
    simp (disch := omega) only [fLt_e, fBd_s, fJn_s, fNn_s, fNu_0, fNu_s, fBo_0, fBo_1, fBo_b, i_lit, i_neg1, nI_add, pk_mul, nI_clamp, i_le, i_lt, i_eq, fIx_n, nI_mI, mI_nI, mI_lt, nI_lt_m, mI_le, nI_le_m, xI_0, xI_s, bI_0, bI_1, bI_t, bI_f, n_31, j_bit, j_one, i_and, i_or, Nat.not_lt_zero, Nat.succ_ne_zero, Nat.add_one_ne_zero, Nat.add_one_sub_one, Nat.zero_le, Nat.or_zero, Nat.zero_or, Bool.not_true, Bool.not_false, Bool.true_and, Bool.false_and, Bool.and_true, Bool.and_false, ↓reduceIte, if_true, if_false, not_true_eq_false, not_false_eq_true, true_and, and_true, false_and, and_false, and_self, true_or, or_true, false_or, or_false, Nat.reduceEqDiff, Nat.reduceLT, Nat.reduceLeDiff, Nat.reduceAdd, Nat.reduceMul, Nat.reduceSub, Nat.add_zero, Nat.zero_add, Nat.mul_zero, Nat.zero_mul, ne_eq, Bool.not_eq_true, Bool.not_eq_false, reduceCtorEq, decide_true, decide_false, decide_eq_true_eq, decide_eq_false_iff_not, Bool.false_eq_true, if_pos, if_neg, x_setBarred b (show s < 31 by omega) X.2.2.1.1, B.1.2.2.2.2.1, m_with b (show s < 31 by omega), f_X11_agree]
    exact ⟨_, _, _, rfl, rfl, fin_0 (up_bar H hv) z⟩
theorem call_kill (a b : Int32) : CALL (f_X11_kill a b) (f_X12_kill a b) := by
  intro sc sm ⟨hA, H⟩
  have H := pro_x H
  have z := pro_0 sm
  unfold f_X11_kill f_X12_kill
  simp only [fLt_e, pro_eq]
  generalize pro sm = s2 at *
  obtain ⟨q, G, w, X, B, -⟩ := RX_cur H
  rw [x_hasRole X w, m_isRoleAt B w]
  cases hb : inB a.toInt 0 (G 0 - 1)
  · simp only [fLt_e, fBd_s, fJn_s, fNn_s, fNu_0, fNu_s, fBo_0, fBo_1, fBo_b, i_lit, i_neg1, nI_add, pk_mul, nI_clamp, i_le, i_lt, i_eq, fIx_n, nI_mI, mI_nI, mI_lt, nI_lt_m, mI_le, nI_le_m, xI_0, xI_s, bI_0, bI_1, bI_t, bI_f, n_31, j_bit, j_one, i_and, i_or, Nat.not_lt_zero, Nat.succ_ne_zero, Nat.add_one_ne_zero, Nat.add_one_sub_one, Nat.zero_le, Nat.or_zero, Nat.zero_or, Bool.not_true, Bool.not_false, Bool.true_and, Bool.false_and, Bool.and_true, Bool.and_false, ↓reduceIte, if_true, if_false, not_true_eq_false, not_false_eq_true, true_and, and_true, false_and, and_false, and_self, true_or, or_true, false_or, or_false, Nat.reduceEqDiff, Nat.reduceLT, Nat.reduceLeDiff, Nat.reduceAdd, Nat.reduceMul, Nat.reduceSub, Nat.add_zero, Nat.zero_add, Nat.mul_zero, Nat.zero_mul, ne_eq, Bool.not_eq_true, Bool.not_eq_false, reduceCtorEq, decide_true, decide_false, decide_eq_true_eq, decide_eq_false_iff_not, Bool.false_eq_true, if_pos, if_neg, f_X11_refuse, f_X12_no]
    exact ⟨_, _, _, rfl, rfl, fin_st H _⟩
  · have hb := inB_t.mp hb
    obtain ⟨s, hs, rfl, -⟩ := nI_ofInt (n := G 0) hb.1 (by omega)
    have w1 := w.1
    have w2 := w.2.1
    have hv := gbit_lt (b := decide (¬ b = 0)) (show G 5 < 2 ^ 6 from w2.2.1) (show s < 6 by omega)
    simp (disch := omega) only [fLt_e, fBd_s, fJn_s, fNn_s, fNu_0, fNu_s, fBo_0, fBo_1, fBo_b, i_lit, i_neg1, nI_add, pk_mul, nI_clamp, i_le, i_lt, i_eq, fIx_n, nI_mI, mI_nI, mI_lt, nI_lt_m, mI_le, nI_le_m, xI_0, xI_s, bI_0, bI_1, bI_t, bI_f, n_31, j_bit, j_one, i_and, i_or, Nat.not_lt_zero, Nat.succ_ne_zero, Nat.add_one_ne_zero, Nat.add_one_sub_one, Nat.zero_le, Nat.or_zero, Nat.zero_or, Bool.not_true, Bool.not_false, Bool.true_and, Bool.false_and, Bool.and_true, Bool.and_false, ↓reduceIte, if_true, if_false, not_true_eq_false, not_false_eq_true, true_and, and_true, false_and, and_false, and_self, true_or, or_true, false_or, or_false, Nat.reduceEqDiff, Nat.reduceLT, Nat.reduceLeDiff, Nat.reduceAdd, Nat.reduceMul, Nat.reduceSub, Nat.add_zero, Nat.zero_add, Nat.mul_zero, Nat.zero_mul, ne_eq, Bool.not_eq_true, Bool.not_eq_false, reduceCtorEq, decide_true, decide_false, decide_eq_true_eq, decide_eq_false_iff_not, Bool.false_eq_true, if_pos, if_neg, x_setDead b (show s < 31 by omega) X.2.2.1.2, B.1.2.2.2.2.2.1, m_with b (show s < 31 by omega), f_X11_agree]
    exact ⟨_, _, _, rfl, rfl, fin_0 (up_dead H hv) z⟩
theorem x_linesInAll {sc : fSt} {q : Nat} {G : Nat → Nat} (H : rStg sc q G) (w : gWf G) : f_X7_linesInAll q sc = some (nI (zs (fun s => G (25 + s)) (G 2)), sc) := by
  have h := w.1
  unfold f_X7_linesInAll
  obtain ⟨m, e⟩ := lp_run (fun m (t : Int32 × Int32) => f_X7_linesInAll_L4 q m t.1 t.2 sc) (fun t => (nI (zs (fun s => G (25 + s)) t), nI t)) (G 2) (fun m t ht => by
    show f_X7_linesInAll_L4 q (m + 1) (nI (zs (fun s => G (25 + s)) t)) (nI t) sc = f_X7_linesInAll_L4 q m (nI (zs (fun s => G (25 + s)) (t + 1))) (nI (t + 1)) sc
    rw [f_X7_linesInAll_L4]
    simp (disch := omega) only [fLt_e, fBd_s, fJn_s, fNn_s, fNu_0, fNu_s, fBo_0, fBo_1, fBo_b, i_lit, i_neg1, nI_add, pk_mul, nI_clamp, i_le, i_lt, i_eq, fIx_n, nI_mI, mI_nI, mI_lt, nI_lt_m, mI_le, nI_le_m, xI_0, xI_s, bI_0, bI_1, bI_t, bI_f, n_31, j_bit, j_one, i_and, i_or, Nat.not_lt_zero, Nat.succ_ne_zero, Nat.add_one_ne_zero, Nat.add_one_sub_one, Nat.zero_le, Nat.or_zero, Nat.zero_or, Bool.not_true, Bool.not_false, Bool.true_and, Bool.false_and, Bool.and_true, Bool.and_false, ↓reduceIte, if_true, if_false, not_true_eq_false, not_false_eq_true, true_and, and_true, false_and, and_false, and_self, true_or, or_true, false_or, or_false, Nat.reduceEqDiff, Nat.reduceLT, Nat.reduceLeDiff, Nat.reduceAdd, Nat.reduceMul, Nat.reduceSub, Nat.add_zero, Nat.zero_add, Nat.mul_zero, Nat.zero_mul, ne_eq, Bool.not_eq_true, Bool.not_eq_false, reduceCtorEq, decide_true, decide_false, decide_eq_true_eq, decide_eq_false_iff_not, Bool.false_eq_true, if_pos, if_neg, H.1.2.2.1, (H.2.2.1 t ht).1, zs_s]) (fF_lt (by omega))
  refine Eq.trans e ?_
  show f_X7_linesInAll_L4 q (m + 1) (nI (zs (fun s => G (25 + s)) (G 2))) (nI (G 2)) sc = _
  rw [f_X7_linesInAll_L4]
  simp (disch := omega) only [fLt_e, fBd_s, fJn_s, fNn_s, fNu_0, fNu_s, fBo_0, fBo_1, fBo_b, i_lit, i_neg1, nI_add, pk_mul, nI_clamp, i_le, i_lt, i_eq, fIx_n, nI_mI, mI_nI, mI_lt, nI_lt_m, mI_le, nI_le_m, xI_0, xI_s, bI_0, bI_1, bI_t, bI_f, n_31, j_bit, j_one, i_and, i_or, Nat.not_lt_zero, Nat.succ_ne_zero, Nat.add_one_ne_zero, Nat.add_one_sub_one, Nat.zero_le, Nat.or_zero, Nat.zero_or, Bool.not_true, Bool.not_false, Bool.true_and, Bool.false_and, Bool.and_true, Bool.and_false, ↓reduceIte, if_true, if_false, not_true_eq_false, not_false_eq_true, true_and, and_true, false_and, and_false, and_self, true_or, or_true, false_or, or_false, Nat.reduceEqDiff, Nat.reduceLT, Nat.reduceLeDiff, Nat.reduceAdd, Nat.reduceMul, Nat.reduceSub, Nat.add_zero, Nat.zero_add, Nat.mul_zero, Nat.zero_mul, ne_eq, Bool.not_eq_true, Bool.not_eq_false, reduceCtorEq, decide_true, decide_false, decide_eq_true_eq, decide_eq_false_iff_not, Bool.false_eq_true, if_pos, if_neg, H.1.2.2.1]
theorem m_allLines {sm : fSt} {G : Nat → Nat} (B : rBlk (gA sm 12 0 5) G) (w : gWf G) : f_X12_allLines sm = some (nI (zs (fun s => G (25 + s)) (G 2)), sm) := by
  have h := w.1
  unfold f_X12_allLines
  obtain ⟨m, e⟩ := lp_run (fun m (t : Int32 × Int32) => f_X12_allLines_L4 m t.1 t.2 sm) (fun t => (nI (zs (fun s => G (25 + s)) t), nI t)) (G 2) (fun m t ht => by
    show f_X12_allLines_L4 (m + 1) (nI (zs (fun s => G (25 + s)) t)) (nI t) sm = f_X12_allLines_L4 m (nI (zs (fun s => G (25 + s)) (t + 1))) (nI (t + 1)) sm
    rw [f_X12_allLines_L4]
    simp (disch := omega) only [fLt_e, fBd_s, fJn_s, fNn_s, fNu_0, fNu_s, fBo_0, fBo_1, fBo_b, i_lit, i_neg1, nI_add, pk_mul, nI_clamp, i_le, i_lt, i_eq, fIx_n, nI_mI, mI_nI, mI_lt, nI_lt_m, mI_le, nI_le_m, xI_0, xI_s, bI_0, bI_1, bI_t, bI_f, n_31, j_bit, j_one, i_and, i_or, Nat.not_lt_zero, Nat.succ_ne_zero, Nat.add_one_ne_zero, Nat.add_one_sub_one, Nat.zero_le, Nat.or_zero, Nat.zero_or, Bool.not_true, Bool.not_false, Bool.true_and, Bool.false_and, Bool.and_true, Bool.and_false, ↓reduceIte, if_true, if_false, not_true_eq_false, not_false_eq_true, true_and, and_true, false_and, and_false, and_self, true_or, or_true, false_or, or_false, Nat.reduceEqDiff, Nat.reduceLT, Nat.reduceLeDiff, Nat.reduceAdd, Nat.reduceMul, Nat.reduceSub, Nat.add_zero, Nat.zero_add, Nat.mul_zero, Nat.zero_mul, ne_eq, Bool.not_eq_true, Bool.not_eq_false, reduceCtorEq, decide_true, decide_false, decide_eq_true_eq, decide_eq_false_iff_not, Bool.false_eq_true, if_pos, if_neg, B.1.2.2.1, (B.2.2.1 t ht).1, zs_s]) (fF_lt (by omega))
  refine Eq.trans e ?_
  show f_X12_allLines_L4 (m + 1) (nI (zs (fun s => G (25 + s)) (G 2))) (nI (G 2)) sm = _
  rw [f_X12_allLines_L4]
  simp (disch := omega) only [fLt_e, fBd_s, fJn_s, fNn_s, fNu_0, fNu_s, fBo_0, fBo_1, fBo_b, i_lit, i_neg1, nI_add, pk_mul, nI_clamp, i_le, i_lt, i_eq, fIx_n, nI_mI, mI_nI, mI_lt, nI_lt_m, mI_le, nI_le_m, xI_0, xI_s, bI_0, bI_1, bI_t, bI_f, n_31, j_bit, j_one, i_and, i_or, Nat.not_lt_zero, Nat.succ_ne_zero, Nat.add_one_ne_zero, Nat.add_one_sub_one, Nat.zero_le, Nat.or_zero, Nat.zero_or, Bool.not_true, Bool.not_false, Bool.true_and, Bool.false_and, Bool.and_true, Bool.and_false, ↓reduceIte, if_true, if_false, not_true_eq_false, not_false_eq_true, true_and, and_true, false_and, and_false, and_self, true_or, or_true, false_or, or_false, Nat.reduceEqDiff, Nat.reduceLT, Nat.reduceLeDiff, Nat.reduceAdd, Nat.reduceMul, Nat.reduceSub, Nat.add_zero, Nat.zero_add, Nat.mul_zero, Nat.zero_mul, ne_eq, Bool.not_eq_true, Bool.not_eq_false, reduceCtorEq, decide_true, decide_false, decide_eq_true_eq, decide_eq_false_iff_not, Bool.false_eq_true, if_pos, if_neg, B.1.2.2.1]
theorem call_many (a : Int32) : CALL (f_X11_many a) (f_X12_many a) := by
  intro sc sm ⟨hA, H⟩
  have H := pro_x H
  have z := pro_0 sm
  unfold f_X11_many f_X12_many
  simp only [fLt_e, pro_eq]
  generalize pro sm = s2 at *
  obtain ⟨q, G, w, X, B, -⟩ := RX_cur H
  have w1 := w.1
  have w2 := w.2.1
  obtain ⟨b0, b1, b2, b3, b4, b5, b6⟩ := B.1
  obtain ⟨c0, c1, c2, c3⟩ := X.2.1.1
  have F := fin_0 H z
  simp (disch := omega) only [fLt_e, fBd_s, fJn_s, fNn_s, fNu_0, fNu_s, fBo_0, fBo_1, fBo_b, i_lit, i_neg1, nI_add, pk_mul, nI_clamp, i_le, i_lt, i_eq, fIx_n, nI_mI, mI_nI, mI_lt, nI_lt_m, mI_le, nI_le_m, xI_0, xI_s, bI_0, bI_1, bI_t, bI_f, n_31, j_bit, j_one, i_and, i_or, Nat.not_lt_zero, Nat.succ_ne_zero, Nat.add_one_ne_zero, Nat.add_one_sub_one, Nat.zero_le, Nat.or_zero, Nat.zero_or, Bool.not_true, Bool.not_false, Bool.true_and, Bool.false_and, Bool.and_true, Bool.and_false, ↓reduceIte, if_true, if_false, not_true_eq_false, not_false_eq_true, true_and, and_true, false_and, and_false, and_self, true_or, or_true, false_or, or_false, Nat.reduceEqDiff, Nat.reduceLT, Nat.reduceLeDiff, Nat.reduceAdd, Nat.reduceMul, Nat.reduceSub, Nat.add_zero, Nat.zero_add, Nat.mul_zero, Nat.zero_mul, ne_eq, Bool.not_eq_true, Bool.not_eq_false, reduceCtorEq, decide_true, decide_false, decide_eq_true_eq, decide_eq_false_iff_not, Bool.false_eq_true, if_pos, if_neg, X.1, b0, b1, b2, b3, b4, b5, b6, c0, c1, c2, c3, X.2.2.1.1, X.2.2.1.2, X.2.2.2.1, f_X11_answer, f_X11_fail, f_X12_refuse, x_linesInAll X.2.1 w, m_allLines B w]
  repeat' split
  all_goals first | exact ⟨_, _, _, rfl, rfl, F⟩ | exact ⟨_, _, _, rfl, rfl, fin_st H _⟩
theorem call_actor (a b : Int32) : CALL (f_X11_actor a b) (f_X12_actor a b) := by
  intro sc sm ⟨hA, H⟩
  have H := pro_x H
  have z := pro_0 sm
  unfold f_X11_actor f_X12_actor
  simp only [fLt_e, pro_eq]
  generalize pro sm = s2 at *
  obtain ⟨q, G, w, X, B, -⟩ := RX_cur H
  have w1 := w.1
  rw [X.1, fNn_s, X.2.1.1.2.1, x_isBelow _ _ (by omega), m_isActorAt B w]
  cases hb : inB a.toInt 0 (G 1 - 1)
  · simp only [fLt_e, fBd_s, fJn_s, fNn_s, fNu_0, fNu_s, fBo_0, fBo_1, fBo_b, i_lit, i_neg1, nI_add, pk_mul, nI_clamp, i_le, i_lt, i_eq, fIx_n, nI_mI, mI_nI, mI_lt, nI_lt_m, mI_le, nI_le_m, xI_0, xI_s, bI_0, bI_1, bI_t, bI_f, n_31, j_bit, j_one, i_and, i_or, Nat.not_lt_zero, Nat.succ_ne_zero, Nat.add_one_ne_zero, Nat.add_one_sub_one, Nat.zero_le, Nat.or_zero, Nat.zero_or, Bool.not_true, Bool.not_false, Bool.true_and, Bool.false_and, Bool.and_true, Bool.and_false, ↓reduceIte, if_true, if_false, not_true_eq_false, not_false_eq_true, true_and, and_true, false_and, and_false, and_self, true_or, or_true, false_or, or_false, Nat.reduceEqDiff, Nat.reduceLT, Nat.reduceLeDiff, Nat.reduceAdd, Nat.reduceMul, Nat.reduceSub, Nat.add_zero, Nat.zero_add, Nat.mul_zero, Nat.zero_mul, ne_eq, Bool.not_eq_true, Bool.not_eq_false, reduceCtorEq, decide_true, decide_false, decide_eq_true_eq, decide_eq_false_iff_not, Bool.false_eq_true, if_pos, if_neg, f_X11_fail, f_X12_refuse]
    exact ⟨_, _, _, rfl, rfl, fin_st H _⟩
  · have hb := inB_t.mp hb
    obtain ⟨s, hs, rfl, -⟩ := nI_ofInt (n := G 1) hb.1 (by omega)
    have F := fin_0 H z
    obtain ⟨b0, b1, b2⟩ := B.2.1 s hs
    obtain ⟨c0, c1, c2⟩ := X.2.1.2.1 s hs
    simp (disch := omega) only [fLt_e, fBd_s, fJn_s, fNn_s, fNu_0, fNu_s, fBo_0, fBo_1, fBo_b, i_lit, i_neg1, nI_add, pk_mul, nI_clamp, i_le, i_lt, i_eq, fIx_n, nI_mI, mI_nI, mI_lt, nI_lt_m, mI_le, nI_le_m, xI_0, xI_s, bI_0, bI_1, bI_t, bI_f, n_31, j_bit, j_one, i_and, i_or, Nat.not_lt_zero, Nat.succ_ne_zero, Nat.add_one_ne_zero, Nat.add_one_sub_one, Nat.zero_le, Nat.or_zero, Nat.zero_or, Bool.not_true, Bool.not_false, Bool.true_and, Bool.false_and, Bool.and_true, Bool.and_false, ↓reduceIte, if_true, if_false, not_true_eq_false, not_false_eq_true, true_and, and_true, false_and, and_false, and_self, true_or, or_true, false_or, or_false, Nat.reduceEqDiff, Nat.reduceLT, Nat.reduceLeDiff, Nat.reduceAdd, Nat.reduceMul, Nat.reduceSub, Nat.add_zero, Nat.zero_add, Nat.mul_zero, Nat.zero_mul, ne_eq, Bool.not_eq_true, Bool.not_eq_false, reduceCtorEq, decide_true, decide_false, decide_eq_true_eq, decide_eq_false_iff_not, Bool.false_eq_true, if_pos, if_neg, X.1, b0, b1, b2, c0, c1, c2, f_X11_answer, f_X11_fail, f_X12_refuse]
    repeat' split
    all_goals first | exact ⟨_, _, _, rfl, rfl, F⟩ | exact ⟨_, _, _, rfl, rfl, fin_st H _⟩
/-! layer 2: trays, tape, scenes, kinds, what was told -/
theorem rOne_w {sc sc' sm sm' : fSt} (h : ∀ c, (c = 0 ∨ c = 2 ∨ c = 7 ∨ c = 9) → ∀ i k, gI sc' c i k = gI sc c i k ∧ gA sc' c i k = gA sc c i k ∧ gB sc' c i k = gB sc c i k ∧ gP sc' c i k = gP sc c i k) (ea : gA sm' 12 0 5 = gA sm 12 0 5) (eb : gB sm' 12 0 7 = gB sm 12 0 7) {k q : Nat} {G : Nat → Nat} (H : rOne sc sm k q G) : rOne sc' sm' k q G := by
  have e2 := fun i k => (h 2 (by decide) i k).1
  have e2p := fun i k => (h 2 (by decide) i k).2.2.2
  have e0 := fun i k => (h 0 (by decide) i k).1
  have e0a := fun i k => (h 0 (by decide) i k).2.1
  have e7 := fun i k => (h 7 (by decide) i k).1
  have e7a := fun i k => (h 7 (by decide) i k).2.1
  have e7b := fun i k => (h 7 (by decide) i k).2.2.1
  have e9 := fun i k => (h 9 (by decide) i k).1
  have e9a := fun i k => (h 9 (by decide) i k).2.1
  obtain ⟨h1, h2, h3, h4, h5⟩ := H
  refine ⟨h1, ?_, ?_, ?_, ?_⟩
  · unfold rHou rStg rBok at *
    simp only [e2, e2p, e0, e0a, e7, e7a]
    exact h2
  · simp only [ea]
    exact h3
  · unfold rNam at *
    simp only [e7b, eb]
    exact h4
  · unfold rWk at *
    simp only [e2p, e9]
    rcases h5 with h5 | ⟨a, w, m, b1, b2, b3, b4, b5⟩
    · exact Or.inl h5
    · exact Or.inr ⟨a, w, m, b1, b2, b3, b4, rBod_e e9a _ _ _ _ _ b5⟩
theorem rH_w {sc sc' sm sm' : fSt} (h : ∀ c, (c = 0 ∨ c = 2 ∨ c = 7 ∨ c = 9) → ∀ i k, gI sc' c i k = gI sc c i k ∧ gA sc' c i k = gA sc c i k ∧ gB sc' c i k = gB sc c i k ∧ gP sc' c i k = gP sc c i k) (e1 : gI sc' 11 0 9 = gI sc 11 0 9) (e2 : gI sm' 12 0 23 = gI sm 12 0 23) (ea : gA sm' 12 0 5 = gA sm 12 0 5) (eb : gB sm' 12 0 7 = gB sm 12 0 7) (H : rH sc sm) : rH sc' sm' := by
  obtain ⟨n, qq, GG, h10, h11, h12, h13⟩ := H
  exact ⟨n, qq, GG, h10, by rw [e1]; exact h11, by rw [e2]; exact h12, fun k hk => rOne_w h ea eb (h13 k hk)⟩
-- trays
theorem m_tray_L {t so ma : Nat} (ht : t < 4) (hm : ma ≤ 60) (st : fSt) : ∃ g, f_X12_tray_L74 (nI t) (nI ma) fF 0 st = some (nI 1, sB st 12 0 3 g) ∧ (∀ k, k < ma → g (60 * t + k) = 0) ∧ ∀ k, k < 60 * t ∨ 60 * t + ma ≤ k → g k = gB st 12 0 3 k := by
  obtain ⟨⟨x, s⟩, m, ⟨hx, g, hs, h1, h2⟩, e⟩ := lp_ex (fun m (z : Int32 × fSt) => f_X12_tray_L74 (nI t) (nI ma) m z.1 z.2) (fun k z => z.1 = nI k ∧ ∃ g, z.2 = sB st 12 0 3 g ∧ (∀ j, j < k → g (60 * t + j) = 0) ∧ ∀ j, j < 60 * t ∨ 60 * t + k ≤ j → g j = gB st 12 0 3 j) ma (fun k z hk hz => by
    obtain ⟨x, s⟩ := z
    obtain ⟨hx, g, hs, h1, h2⟩ := hz
    simp only at hx hs
    subst hx
    subst hs
    refine ⟨(nI (k + 1), sB st 12 0 3 (vp_updL g (60 * t + k) 0)), ⟨rfl, _, rfl, fun j hj => ?_, fun j hj => ?_⟩, fun m => ?_⟩
    · rw [updL_at]
      by_cases hj2 : j = k
      · rw [hj2, if_pos rfl]
      · rw [if_neg (by omega)]; exact h1 j (by omega)
    · rw [updL_at, if_neg (by omega)]
      exact h2 j (by omega)
    · simp only
      rw [f_X12_tray_L74]
      simp (disch := omega) only [fLt_e, fBd_s, fJn_s, fNn_s, fNu_0, fNu_s, fBo_0, fBo_1, fBo_b, i_lit, i_neg1, nI_add, pk_mul, nI_clamp, i_le, i_lt, i_eq, fIx_n, nI_mI, mI_nI, mI_lt, nI_lt_m, mI_le, nI_le_m, xI_0, xI_s, bI_0, bI_1, bI_t, bI_f, n_31, j_bit, j_one, i_and, i_or, Nat.not_lt_zero, Nat.succ_ne_zero, Nat.add_one_ne_zero, Nat.add_one_sub_one, Nat.zero_le, Nat.or_zero, Nat.zero_or, Bool.not_true, Bool.not_false, Bool.true_and, Bool.false_and, Bool.and_true, Bool.and_false, ↓reduceIte, if_true, if_false, not_true_eq_false, not_false_eq_true, true_and, and_true, false_and, and_false, and_self, true_or, or_true, false_or, or_false, Nat.reduceEqDiff, Nat.reduceLT, Nat.reduceLeDiff, Nat.reduceAdd, Nat.reduceMul, Nat.reduceSub, Nat.add_zero, Nat.zero_add, Nat.mul_zero, Nat.zero_mul, ne_eq, Bool.not_eq_true, Bool.not_eq_false, reduceCtorEq, decide_true, decide_false, decide_eq_true_eq, decide_eq_false_iff_not, Bool.false_eq_true, if_pos, if_neg, gB_same, sB_sB, l_lit]
      rfl) (fF_lt (by omega)) (s := ((0 : Int32), st)) ⟨rfl, gB st 12 0 3, (sB_self st 12 0 3).symm, fun j hj => absurd hj (Nat.not_lt_zero j), fun j _ => rfl⟩
  simp only at hx hs e
  subst hx
  subst hs
  refine ⟨g, ?_, h1, h2⟩
  rw [e, f_X12_tray_L74]
  simp (disch := omega) only [fLt_e, fBd_s, fJn_s, fNn_s, fNu_0, fNu_s, fBo_0, fBo_1, fBo_b, i_lit, i_neg1, nI_add, pk_mul, nI_clamp, i_le, i_lt, i_eq, fIx_n, nI_mI, mI_nI, mI_lt, nI_lt_m, mI_le, nI_le_m, xI_0, xI_s, bI_0, bI_1, bI_t, bI_f, n_31, j_bit, j_one, i_and, i_or, Nat.not_lt_zero, Nat.succ_ne_zero, Nat.add_one_ne_zero, Nat.add_one_sub_one, Nat.zero_le, Nat.or_zero, Nat.zero_or, Bool.not_true, Bool.not_false, Bool.true_and, Bool.false_and, Bool.and_true, Bool.and_false, ↓reduceIte, if_true, if_false, not_true_eq_false, not_false_eq_true, true_and, and_true, false_and, and_false, and_self, true_or, or_true, false_or, or_false, Nat.reduceEqDiff, Nat.reduceLT, Nat.reduceLeDiff, Nat.reduceAdd, Nat.reduceMul, Nat.reduceSub, Nat.add_zero, Nat.zero_add, Nat.mul_zero, Nat.zero_mul, ne_eq, Bool.not_eq_true, Bool.not_eq_false, reduceCtorEq, decide_true, decide_false, decide_eq_true_eq, decide_eq_false_iff_not, Bool.false_eq_true, if_pos, if_neg]
theorem call_tray (a b c : Int32) : CALL (f_X11_tray a b c) (f_X12_tray a b c) := by
  intro sc sm ⟨hA, H⟩
  have H := pro_x H
  have z := pro_0 sm
  unfold f_X11_tray f_X12_tray
  simp only [fLt_e, pro_eq]
  generalize pro sm = s2 at *
  have i0 : (0 : Int32).toInt = 0 := rfl
  have i3 : (3 : Int32).toInt = 3 := rfl
  rw [show (4 : Int32) = nI 4 from rfl, x_isBelow _ _ (by omega)]
  simp only [fBd_s, fJn_s, x_isIn, i0, i3]
  have F := fun v => fin_st H v
  by_cases ha : 0 ≤ a.toInt ∧ a.toInt < 4
  · obtain ⟨t, ht, rfl, -⟩ := nI_ofInt (n := 4) ha.1 (by omega)
    rw [inB_t.mpr (show 0 ≤ (nI t).toInt ∧ (nI t).toInt ≤ ((4 : Nat) : Int) - 1 by omega)]
    by_cases hb : 0 ≤ b.toInt ∧ b.toInt ≤ 3
    · obtain ⟨so, hso, rfl, -⟩ := nI_ofInt (n := 4) hb.1 (by omega)
      rw [inB_t.mpr hb]
      by_cases hc : c.toInt ≤ 60
      · by_cases hc0 : 0 ≤ c.toInt
        · obtain ⟨ma, hma, rfl, -⟩ := nI_ofInt (n := 61) hc0 (by omega)
          obtain ⟨g, e, g1, g2⟩ := m_tray_L ht (show ma ≤ 60 by omega) (sA (sA s2 12 0 1 (upd (gA s2 12 0 1) t (nI so))) 12 0 2 (upd (gA s2 12 0 2) t (nI ma)))
          rw [show (0 : Int32) = nI 0 from rfl] at e
          simp (disch := omega) only [fLt_e, fBd_s, fJn_s, fNn_s, fNu_0, fNu_s, fBo_0, fBo_1, fBo_b, i_lit, i_neg1, nI_add, pk_mul, nI_clamp, i_le, i_lt, i_eq, fIx_n, nI_mI, mI_nI, mI_lt, nI_lt_m, mI_le, nI_le_m, xI_0, xI_s, bI_0, bI_1, bI_t, bI_f, n_31, j_bit, j_one, i_and, i_or, Nat.not_lt_zero, Nat.succ_ne_zero, Nat.add_one_ne_zero, Nat.add_one_sub_one, Nat.zero_le, Nat.or_zero, Nat.zero_or, Bool.not_true, Bool.not_false, Bool.true_and, Bool.false_and, Bool.and_true, Bool.and_false, ↓reduceIte, if_true, if_false, not_true_eq_false, not_false_eq_true, true_and, and_true, false_and, and_false, and_self, true_or, or_true, false_or, or_false, Nat.reduceEqDiff, Nat.reduceLT, Nat.reduceLeDiff, Nat.reduceAdd, Nat.reduceMul, Nat.reduceSub, Nat.add_zero, Nat.zero_add, Nat.mul_zero, Nat.zero_mul, ne_eq, Bool.not_eq_true, Bool.not_eq_false, reduceCtorEq, decide_true, decide_false, decide_eq_true_eq, decide_eq_false_iff_not, Bool.false_eq_true, if_pos, if_neg, f_X8_layOut, p_fillL, l_lit, gA_sA, e, f_X11_agree]
          refine ⟨_, _, _, rfl, rfl, ?_⟩
          obtain ⟨h2, h3, h4, h5, h6, h7, h8, h9, h10⟩ := H
          refine RR_of ⟨h2, h3, ?_, h5, h6, h7, h8, h9, ?_⟩ z.symm
          · intro t' ht'
            by_cases htt : t' = t
            · subst htt
              refine Or.inr ⟨?_, so, ma, by omega, by omega, ?_, ?_, ?_, ?_, fun k hk => ?_⟩
              · simp [gI_sI, gI_sB]
              · simp [gI_sI, gI_sB]
              · simp [gA_sA, gA_sB, upd_at]
              · simp [gI_sI, gI_sB]
              · simp [gA_sA, gA_sB, upd_at]
              · rw [gB_same, g1 k hk]
                simp only [gB_sI, gB_same]
                rw [if_pos (by omega)]
                rfl
            · have hT := h4 t' ht'
              simp only [gI_sI, gI_sB, gB_sI, gB_sB, gA_sB, gA_sA, upd_at, htt, false_and, and_false, if_false, Nat.reduceEqDiff, true_and, and_self, if_true]
              rcases hT with hT | ⟨b1, so', ma', b2, b3, b4, b5, b6, b7, b8⟩
              · exact Or.inl hT
              · refine Or.inr ⟨b1, so', ma', b2, b3, b4, b5, b6, b7, fun k hk => ?_⟩
                rw [g2 _ (by omega)]
                exact b8 k hk
          · exact rH_w (fun c hc i k => by rcases hc with rfl | rfl | rfl | rfl <;> exact ⟨rfl, rfl, rfl, rfl⟩) rfl rfl rfl rfl h10
        · simp (disch := omega) only [fLt_e, fBd_s, fJn_s, fNn_s, fNu_0, fNu_s, fBo_0, fBo_1, fBo_b, i_lit, i_neg1, nI_add, pk_mul, nI_clamp, fIx_n, Int32.lt_iff_toInt_lt, Int32.le_iff_toInt_le, ← Int32.toInt_inj, nI_toInt, mI_toInt, xI_0, xI_s, bI_t, bI_f, Nat.cast_ofNat, Int.ofNat_lt, Int.ofNat_le, Int.natCast_inj, Nat.not_lt_zero, Nat.succ_ne_zero, Nat.add_one_ne_zero, Nat.add_one_sub_one, Nat.zero_le, Nat.or_zero, Nat.zero_or, Bool.not_true, Bool.not_false, Bool.true_and, Bool.false_and, Bool.and_true, Bool.and_false, ↓reduceIte, if_true, if_false, not_true_eq_false, not_false_eq_true, true_and, and_true, false_and, and_false, and_self, true_or, or_true, false_or, or_false, Nat.reduceEqDiff, Nat.reduceLT, Nat.reduceLeDiff, Nat.reduceAdd, Nat.reduceMul, Nat.reduceSub, Nat.add_zero, Nat.zero_add, Nat.mul_zero, Nat.zero_mul, ne_eq, Bool.not_eq_true, Bool.not_eq_false, reduceCtorEq, decide_true, decide_false, decide_eq_true_eq, decide_eq_false_iff_not, Bool.false_eq_true, if_pos, if_neg, f_X11_refuse, f_X12_no]
          exact ⟨_, _, _, rfl, rfl, F _⟩
      · simp (disch := omega) only [fLt_e, fBd_s, fJn_s, fNn_s, fNu_0, fNu_s, fBo_0, fBo_1, fBo_b, i_lit, i_neg1, nI_add, pk_mul, nI_clamp, fIx_n, Int32.lt_iff_toInt_lt, Int32.le_iff_toInt_le, ← Int32.toInt_inj, nI_toInt, mI_toInt, xI_0, xI_s, bI_t, bI_f, Nat.cast_ofNat, Int.ofNat_lt, Int.ofNat_le, Int.natCast_inj, Nat.not_lt_zero, Nat.succ_ne_zero, Nat.add_one_ne_zero, Nat.add_one_sub_one, Nat.zero_le, Nat.or_zero, Nat.zero_or, Bool.not_true, Bool.not_false, Bool.true_and, Bool.false_and, Bool.and_true, Bool.and_false, ↓reduceIte, if_true, if_false, not_true_eq_false, not_false_eq_true, true_and, and_true, false_and, and_false, and_self, true_or, or_true, false_or, or_false, Nat.reduceEqDiff, Nat.reduceLT, Nat.reduceLeDiff, Nat.reduceAdd, Nat.reduceMul, Nat.reduceSub, Nat.add_zero, Nat.zero_add, Nat.mul_zero, Nat.zero_mul, ne_eq, Bool.not_eq_true, Bool.not_eq_false, reduceCtorEq, decide_true, decide_false, decide_eq_true_eq, decide_eq_false_iff_not, Bool.false_eq_true, if_pos, if_neg, f_X11_refuse, f_X12_no]
        exact ⟨_, _, _, rfl, rfl, F _⟩
    · rw [inB_f.mpr hb]
      by_cases hb0 : b.toInt < 0
      · simp (disch := omega) only [fLt_e, fBd_s, fJn_s, fNn_s, fNu_0, fNu_s, fBo_0, fBo_1, fBo_b, i_lit, i_neg1, nI_add, pk_mul, nI_clamp, fIx_n, Int32.lt_iff_toInt_lt, Int32.le_iff_toInt_le, ← Int32.toInt_inj, nI_toInt, mI_toInt, xI_0, xI_s, bI_t, bI_f, Nat.cast_ofNat, Int.ofNat_lt, Int.ofNat_le, Int.natCast_inj, Nat.not_lt_zero, Nat.succ_ne_zero, Nat.add_one_ne_zero, Nat.add_one_sub_one, Nat.zero_le, Nat.or_zero, Nat.zero_or, Bool.not_true, Bool.not_false, Bool.true_and, Bool.false_and, Bool.and_true, Bool.and_false, ↓reduceIte, if_true, if_false, not_true_eq_false, not_false_eq_true, true_and, and_true, false_and, and_false, and_self, true_or, or_true, false_or, or_false, Nat.reduceEqDiff, Nat.reduceLT, Nat.reduceLeDiff, Nat.reduceAdd, Nat.reduceMul, Nat.reduceSub, Nat.add_zero, Nat.zero_add, Nat.mul_zero, Nat.zero_mul, ne_eq, Bool.not_eq_true, Bool.not_eq_false, reduceCtorEq, decide_true, decide_false, decide_eq_true_eq, decide_eq_false_iff_not, Bool.false_eq_true, if_pos, if_neg, f_X11_refuse, f_X12_no]
        exact ⟨_, _, _, rfl, rfl, F _⟩
      · simp (disch := omega) only [fLt_e, fBd_s, fJn_s, fNn_s, fNu_0, fNu_s, fBo_0, fBo_1, fBo_b, i_lit, i_neg1, nI_add, pk_mul, nI_clamp, fIx_n, Int32.lt_iff_toInt_lt, Int32.le_iff_toInt_le, ← Int32.toInt_inj, nI_toInt, mI_toInt, xI_0, xI_s, bI_t, bI_f, Nat.cast_ofNat, Int.ofNat_lt, Int.ofNat_le, Int.natCast_inj, Nat.not_lt_zero, Nat.succ_ne_zero, Nat.add_one_ne_zero, Nat.add_one_sub_one, Nat.zero_le, Nat.or_zero, Nat.zero_or, Bool.not_true, Bool.not_false, Bool.true_and, Bool.false_and, Bool.and_true, Bool.and_false, ↓reduceIte, if_true, if_false, not_true_eq_false, not_false_eq_true, true_and, and_true, false_and, and_false, and_self, true_or, or_true, false_or, or_false, Nat.reduceEqDiff, Nat.reduceLT, Nat.reduceLeDiff, Nat.reduceAdd, Nat.reduceMul, Nat.reduceSub, Nat.add_zero, Nat.zero_add, Nat.mul_zero, Nat.zero_mul, ne_eq, Bool.not_eq_true, Bool.not_eq_false, reduceCtorEq, decide_true, decide_false, decide_eq_true_eq, decide_eq_false_iff_not, Bool.false_eq_true, if_pos, if_neg, f_X11_refuse, f_X12_no]
        exact ⟨_, _, _, rfl, rfl, F _⟩
  · rw [inB_f.mpr (show ¬ (0 ≤ a.toInt ∧ a.toInt ≤ ((4 : Nat) : Int) - 1) by omega)]
    by_cases ha0 : a.toInt < 0
    · simp (disch := omega) only [fLt_e, fBd_s, fJn_s, fNn_s, fNu_0, fNu_s, fBo_0, fBo_1, fBo_b, i_lit, i_neg1, nI_add, pk_mul, nI_clamp, fIx_n, Int32.lt_iff_toInt_lt, Int32.le_iff_toInt_le, ← Int32.toInt_inj, nI_toInt, mI_toInt, xI_0, xI_s, bI_t, bI_f, Nat.cast_ofNat, Int.ofNat_lt, Int.ofNat_le, Int.natCast_inj, Nat.not_lt_zero, Nat.succ_ne_zero, Nat.add_one_ne_zero, Nat.add_one_sub_one, Nat.zero_le, Nat.or_zero, Nat.zero_or, Bool.not_true, Bool.not_false, Bool.true_and, Bool.false_and, Bool.and_true, Bool.and_false, ↓reduceIte, if_true, if_false, not_true_eq_false, not_false_eq_true, true_and, and_true, false_and, and_false, and_self, true_or, or_true, false_or, or_false, Nat.reduceEqDiff, Nat.reduceLT, Nat.reduceLeDiff, Nat.reduceAdd, Nat.reduceMul, Nat.reduceSub, Nat.add_zero, Nat.zero_add, Nat.mul_zero, Nat.zero_mul, ne_eq, Bool.not_eq_true, Bool.not_eq_false, reduceCtorEq, decide_true, decide_false, decide_eq_true_eq, decide_eq_false_iff_not, Bool.false_eq_true, if_pos, if_neg, f_X11_refuse, f_X12_no]
      exact ⟨_, _, _, rfl, rfl, F _⟩
    · simp (disch := omega) only [fLt_e, fBd_s, fJn_s, fNn_s, fNu_0, fNu_s, fBo_0, fBo_1, fBo_b, i_lit, i_neg1, nI_add, pk_mul, nI_clamp, fIx_n, Int32.lt_iff_toInt_lt, Int32.le_iff_toInt_le, ← Int32.toInt_inj, nI_toInt, mI_toInt, xI_0, xI_s, bI_t, bI_f, Nat.cast_ofNat, Int.ofNat_lt, Int.ofNat_le, Int.natCast_inj, Nat.not_lt_zero, Nat.succ_ne_zero, Nat.add_one_ne_zero, Nat.add_one_sub_one, Nat.zero_le, Nat.or_zero, Nat.zero_or, Bool.not_true, Bool.not_false, Bool.true_and, Bool.false_and, Bool.and_true, Bool.and_false, ↓reduceIte, if_true, if_false, not_true_eq_false, not_false_eq_true, true_and, and_true, false_and, and_false, and_self, true_or, or_true, false_or, or_false, Nat.reduceEqDiff, Nat.reduceLT, Nat.reduceLeDiff, Nat.reduceAdd, Nat.reduceMul, Nat.reduceSub, Nat.add_zero, Nat.zero_add, Nat.mul_zero, Nat.zero_mul, ne_eq, Bool.not_eq_true, Bool.not_eq_false, reduceCtorEq, decide_true, decide_false, decide_eq_true_eq, decide_eq_false_iff_not, Bool.false_eq_true, if_pos, if_neg, f_X11_refuse, f_X12_no]
      exact ⟨_, _, _, rfl, rfl, F _⟩
-- where a number lies
/-- why there is no such place: as both sides tell it -/
theorem why_place {sc sm : fSt} (hT : rT sc sm) (a b : Int32) : ∃ v, f_X11_whyNoPlace a b sc = some (nI v, sc) ∧ f_X12_placed a b sm = some (nI v, sm) ∧ v ≤ 4 ∧ (v = 0 → ∃ t p so ma, t < 4 ∧ a = nI t ∧ p < ma ∧ b = nI p ∧ so ≤ 3 ∧ ma ≤ 60 ∧ gI sc 8 t 1 = nI 1 ∧ gI sc 8 t 2 = nI so ∧ gA sm 12 0 1 t = nI so ∧ gI sc 8 t 3 = nI ma ∧ gA sm 12 0 2 t = nI ma ∧ ∀ k, k < ma → gB sc 8 t 1 k = gB sm 12 0 3 (60 * t + k)) := by
  unfold f_X11_whyNoPlace f_X12_placed f_X12_trayed
  rw [show (4 : Int32) = nI 4 from rfl, x_isBelow _ _ (by omega)]
  by_cases ha : 0 ≤ a.toInt ∧ a.toInt < 4
  · obtain ⟨t, ht, rfl, -⟩ := nI_ofInt (n := 4) ha.1 (by omega)
    rw [inB_t.mpr (show 0 ≤ (nI t).toInt ∧ (nI t).toInt ≤ ((4 : Nat) : Int) - 1 by omega)]
    rcases hT t ht with ⟨c1, c2⟩ | ⟨c1, so, ma, c2, c3, c4, c5, c6, c7, c8⟩
    · refine ⟨3, ?_, ?_, by omega, by omega⟩
      · simp (disch := omega) only [fLt_e, fBd_s, fJn_s, fNn_s, fNu_0, fNu_s, fBo_0, fBo_1, fBo_b, i_lit, i_neg1, nI_add, pk_mul, nI_clamp, i_le, i_lt, i_eq, fIx_n, nI_mI, mI_nI, mI_lt, nI_lt_m, mI_le, nI_le_m, xI_0, xI_s, bI_0, bI_1, bI_t, bI_f, n_31, j_bit, j_one, i_and, i_or, Nat.not_lt_zero, Nat.succ_ne_zero, Nat.add_one_ne_zero, Nat.add_one_sub_one, Nat.zero_le, Nat.or_zero, Nat.zero_or, Bool.not_true, Bool.not_false, Bool.true_and, Bool.false_and, Bool.and_true, Bool.and_false, ↓reduceIte, if_true, if_false, not_true_eq_false, not_false_eq_true, true_and, and_true, false_and, and_false, and_self, true_or, or_true, false_or, or_false, Nat.reduceEqDiff, Nat.reduceLT, Nat.reduceLeDiff, Nat.reduceAdd, Nat.reduceMul, Nat.reduceSub, Nat.add_zero, Nat.zero_add, Nat.mul_zero, Nat.zero_mul, ne_eq, Bool.not_eq_true, Bool.not_eq_false, reduceCtorEq, decide_true, decide_false, decide_eq_true_eq, decide_eq_false_iff_not, Bool.false_eq_true, if_pos, if_neg, c1]
      · simp (disch := omega) only [fLt_e, fBd_s, fJn_s, fNn_s, fNu_0, fNu_s, fBo_0, fBo_1, fBo_b, i_lit, i_neg1, nI_add, pk_mul, nI_clamp, i_le, i_lt, i_eq, fIx_n, nI_mI, mI_nI, mI_lt, nI_lt_m, mI_le, nI_le_m, xI_0, xI_s, bI_0, bI_1, bI_t, bI_f, n_31, j_bit, j_one, i_and, i_or, Nat.not_lt_zero, Nat.succ_ne_zero, Nat.add_one_ne_zero, Nat.add_one_sub_one, Nat.zero_le, Nat.or_zero, Nat.zero_or, Bool.not_true, Bool.not_false, Bool.true_and, Bool.false_and, Bool.and_true, Bool.and_false, ↓reduceIte, if_true, if_false, not_true_eq_false, not_false_eq_true, true_and, and_true, false_and, and_false, and_self, true_or, or_true, false_or, or_false, Nat.reduceEqDiff, Nat.reduceLT, Nat.reduceLeDiff, Nat.reduceAdd, Nat.reduceMul, Nat.reduceSub, Nat.add_zero, Nat.zero_add, Nat.mul_zero, Nat.zero_mul, ne_eq, Bool.not_eq_true, Bool.not_eq_false, reduceCtorEq, decide_true, decide_false, decide_eq_true_eq, decide_eq_false_iff_not, Bool.false_eq_true, if_pos, if_neg, c2]
    · by_cases hb : 0 ≤ b.toInt ∧ b.toInt < ma
      · obtain ⟨p, hp, rfl, -⟩ := nI_ofInt (n := ma) hb.1 (by omega)
        refine ⟨0, ?_, ?_, by omega, fun _ => ⟨t, p, so, ma, ht, rfl, hp, rfl, c2, c3, c1, c4, c5, c6, c7, c8⟩⟩
        · simp (disch := omega) only [fLt_e, fBd_s, fJn_s, fNn_s, fNu_0, fNu_s, fBo_0, fBo_1, fBo_b, i_lit, i_neg1, nI_add, pk_mul, nI_clamp, i_le, i_lt, i_eq, fIx_n, nI_mI, mI_nI, mI_lt, nI_lt_m, mI_le, nI_le_m, xI_0, xI_s, bI_0, bI_1, bI_t, bI_f, n_31, j_bit, j_one, i_and, i_or, Nat.not_lt_zero, Nat.succ_ne_zero, Nat.add_one_ne_zero, Nat.add_one_sub_one, Nat.zero_le, Nat.or_zero, Nat.zero_or, Bool.not_true, Bool.not_false, Bool.true_and, Bool.false_and, Bool.and_true, Bool.and_false, ↓reduceIte, if_true, if_false, not_true_eq_false, not_false_eq_true, true_and, and_true, false_and, and_false, and_self, true_or, or_true, false_or, or_false, Nat.reduceEqDiff, Nat.reduceLT, Nat.reduceLeDiff, Nat.reduceAdd, Nat.reduceMul, Nat.reduceSub, Nat.add_zero, Nat.zero_add, Nat.mul_zero, Nat.zero_mul, ne_eq, Bool.not_eq_true, Bool.not_eq_false, reduceCtorEq, decide_true, decide_false, decide_eq_true_eq, decide_eq_false_iff_not, Bool.false_eq_true, if_pos, if_neg, c1, c6, x_isBelow, inB_t.mpr (show 0 ≤ (nI p).toInt ∧ (nI p).toInt ≤ ((ma : Nat) : Int) - 1 by omega)]
        · simp (disch := omega) only [fLt_e, fBd_s, fJn_s, fNn_s, fNu_0, fNu_s, fBo_0, fBo_1, fBo_b, i_lit, i_neg1, nI_add, pk_mul, nI_clamp, i_le, i_lt, i_eq, fIx_n, nI_mI, mI_nI, mI_lt, nI_lt_m, mI_le, nI_le_m, xI_0, xI_s, bI_0, bI_1, bI_t, bI_f, n_31, j_bit, j_one, i_and, i_or, Nat.not_lt_zero, Nat.succ_ne_zero, Nat.add_one_ne_zero, Nat.add_one_sub_one, Nat.zero_le, Nat.or_zero, Nat.zero_or, Bool.not_true, Bool.not_false, Bool.true_and, Bool.false_and, Bool.and_true, Bool.and_false, ↓reduceIte, if_true, if_false, not_true_eq_false, not_false_eq_true, true_and, and_true, false_and, and_false, and_self, true_or, or_true, false_or, or_false, Nat.reduceEqDiff, Nat.reduceLT, Nat.reduceLeDiff, Nat.reduceAdd, Nat.reduceMul, Nat.reduceSub, Nat.add_zero, Nat.zero_add, Nat.mul_zero, Nat.zero_mul, ne_eq, Bool.not_eq_true, Bool.not_eq_false, reduceCtorEq, decide_true, decide_false, decide_eq_true_eq, decide_eq_false_iff_not, Bool.false_eq_true, if_pos, if_neg, c7]
      · refine ⟨4, ?_, ?_, by omega, by omega⟩
        · simp (disch := omega) only [fLt_e, fBd_s, fJn_s, fNn_s, fNu_0, fNu_s, fBo_0, fBo_1, fBo_b, i_lit, i_neg1, nI_add, pk_mul, nI_clamp, i_le, i_lt, i_eq, fIx_n, nI_mI, mI_nI, mI_lt, nI_lt_m, mI_le, nI_le_m, xI_0, xI_s, bI_0, bI_1, bI_t, bI_f, n_31, j_bit, j_one, i_and, i_or, Nat.not_lt_zero, Nat.succ_ne_zero, Nat.add_one_ne_zero, Nat.add_one_sub_one, Nat.zero_le, Nat.or_zero, Nat.zero_or, Bool.not_true, Bool.not_false, Bool.true_and, Bool.false_and, Bool.and_true, Bool.and_false, ↓reduceIte, if_true, if_false, not_true_eq_false, not_false_eq_true, true_and, and_true, false_and, and_false, and_self, true_or, or_true, false_or, or_false, Nat.reduceEqDiff, Nat.reduceLT, Nat.reduceLeDiff, Nat.reduceAdd, Nat.reduceMul, Nat.reduceSub, Nat.add_zero, Nat.zero_add, Nat.mul_zero, Nat.zero_mul, ne_eq, Bool.not_eq_true, Bool.not_eq_false, reduceCtorEq, decide_true, decide_false, decide_eq_true_eq, decide_eq_false_iff_not, Bool.false_eq_true, if_pos, if_neg, c1, c6, x_isBelow, inB_f.mpr (show ¬ (0 ≤ b.toInt ∧ b.toInt ≤ ((ma : Nat) : Int) - 1) by omega)]
        · by_cases hb0 : b.toInt < 0
          · simp (disch := omega) only [fLt_e, fBd_s, fJn_s, fNn_s, fNu_0, fNu_s, fBo_0, fBo_1, fBo_b, i_lit, i_neg1, nI_add, pk_mul, nI_clamp, fIx_n, Int32.lt_iff_toInt_lt, Int32.le_iff_toInt_le, ← Int32.toInt_inj, nI_toInt, mI_toInt, xI_0, xI_s, bI_t, bI_f, Nat.cast_ofNat, Int.ofNat_lt, Int.ofNat_le, Int.natCast_inj, Nat.not_lt_zero, Nat.succ_ne_zero, Nat.add_one_ne_zero, Nat.add_one_sub_one, Nat.zero_le, Nat.or_zero, Nat.zero_or, Bool.not_true, Bool.not_false, Bool.true_and, Bool.false_and, Bool.and_true, Bool.and_false, ↓reduceIte, if_true, if_false, not_true_eq_false, not_false_eq_true, true_and, and_true, false_and, and_false, and_self, true_or, or_true, false_or, or_false, Nat.reduceEqDiff, Nat.reduceLT, Nat.reduceLeDiff, Nat.reduceAdd, Nat.reduceMul, Nat.reduceSub, Nat.add_zero, Nat.zero_add, Nat.mul_zero, Nat.zero_mul, ne_eq, Bool.not_eq_true, Bool.not_eq_false, reduceCtorEq, decide_true, decide_false, decide_eq_true_eq, decide_eq_false_iff_not, Bool.false_eq_true, if_pos, if_neg, c7]
          · simp (disch := omega) only [fLt_e, fBd_s, fJn_s, fNn_s, fNu_0, fNu_s, fBo_0, fBo_1, fBo_b, i_lit, i_neg1, nI_add, pk_mul, nI_clamp, fIx_n, Int32.lt_iff_toInt_lt, Int32.le_iff_toInt_le, ← Int32.toInt_inj, nI_toInt, mI_toInt, xI_0, xI_s, bI_t, bI_f, Nat.cast_ofNat, Int.ofNat_lt, Int.ofNat_le, Int.natCast_inj, Nat.not_lt_zero, Nat.succ_ne_zero, Nat.add_one_ne_zero, Nat.add_one_sub_one, Nat.zero_le, Nat.or_zero, Nat.zero_or, Bool.not_true, Bool.not_false, Bool.true_and, Bool.false_and, Bool.and_true, Bool.and_false, ↓reduceIte, if_true, if_false, not_true_eq_false, not_false_eq_true, true_and, and_true, false_and, and_false, and_self, true_or, or_true, false_or, or_false, Nat.reduceEqDiff, Nat.reduceLT, Nat.reduceLeDiff, Nat.reduceAdd, Nat.reduceMul, Nat.reduceSub, Nat.add_zero, Nat.zero_add, Nat.mul_zero, Nat.zero_mul, ne_eq, Bool.not_eq_true, Bool.not_eq_false, reduceCtorEq, decide_true, decide_false, decide_eq_true_eq, decide_eq_false_iff_not, Bool.false_eq_true, if_pos, if_neg, c7]
  · rw [inB_f.mpr (show ¬ (0 ≤ a.toInt ∧ a.toInt ≤ ((4 : Nat) : Int) - 1) by omega)]
    refine ⟨1, ?_, ?_, by omega, by omega⟩
    · simp only [fLt_e, fBd_s, fJn_s, fNn_s, fNu_0, fNu_s, fBo_0, fBo_1, fBo_b, i_lit, i_neg1, nI_add, pk_mul, nI_clamp, i_le, i_lt, i_eq, fIx_n, nI_mI, mI_nI, mI_lt, nI_lt_m, mI_le, nI_le_m, xI_0, xI_s, bI_0, bI_1, bI_t, bI_f, n_31, j_bit, j_one, i_and, i_or, Nat.not_lt_zero, Nat.succ_ne_zero, Nat.add_one_ne_zero, Nat.add_one_sub_one, Nat.zero_le, Nat.or_zero, Nat.zero_or, Bool.not_true, Bool.not_false, Bool.true_and, Bool.false_and, Bool.and_true, Bool.and_false, ↓reduceIte, if_true, if_false, not_true_eq_false, not_false_eq_true, true_and, and_true, false_and, and_false, and_self, true_or, or_true, false_or, or_false, Nat.reduceEqDiff, Nat.reduceLT, Nat.reduceLeDiff, Nat.reduceAdd, Nat.reduceMul, Nat.reduceSub, Nat.add_zero, Nat.zero_add, Nat.mul_zero, Nat.zero_mul, ne_eq, Bool.not_eq_true, Bool.not_eq_false, reduceCtorEq, decide_true, decide_false, decide_eq_true_eq, decide_eq_false_iff_not, Bool.false_eq_true, if_pos, if_neg]
    · by_cases ha0 : a.toInt < 0
      · simp (disch := omega) only [fLt_e, fBd_s, fJn_s, fNn_s, fNu_0, fNu_s, fBo_0, fBo_1, fBo_b, i_lit, i_neg1, nI_add, pk_mul, nI_clamp, fIx_n, Int32.lt_iff_toInt_lt, Int32.le_iff_toInt_le, ← Int32.toInt_inj, nI_toInt, mI_toInt, xI_0, xI_s, bI_t, bI_f, Nat.cast_ofNat, Int.ofNat_lt, Int.ofNat_le, Int.natCast_inj, Nat.not_lt_zero, Nat.succ_ne_zero, Nat.add_one_ne_zero, Nat.add_one_sub_one, Nat.zero_le, Nat.or_zero, Nat.zero_or, Bool.not_true, Bool.not_false, Bool.true_and, Bool.false_and, Bool.and_true, Bool.and_false, ↓reduceIte, if_true, if_false, not_true_eq_false, not_false_eq_true, true_and, and_true, false_and, and_false, and_self, true_or, or_true, false_or, or_false, Nat.reduceEqDiff, Nat.reduceLT, Nat.reduceLeDiff, Nat.reduceAdd, Nat.reduceMul, Nat.reduceSub, Nat.add_zero, Nat.zero_add, Nat.mul_zero, Nat.zero_mul, ne_eq, Bool.not_eq_true, Bool.not_eq_false, reduceCtorEq, decide_true, decide_false, decide_eq_true_eq, decide_eq_false_iff_not, Bool.false_eq_true, if_pos, if_neg]
      · simp (disch := omega) only [fLt_e, fBd_s, fJn_s, fNn_s, fNu_0, fNu_s, fBo_0, fBo_1, fBo_b, i_lit, i_neg1, nI_add, pk_mul, nI_clamp, fIx_n, Int32.lt_iff_toInt_lt, Int32.le_iff_toInt_le, ← Int32.toInt_inj, nI_toInt, mI_toInt, xI_0, xI_s, bI_t, bI_f, Nat.cast_ofNat, Int.ofNat_lt, Int.ofNat_le, Int.natCast_inj, Nat.not_lt_zero, Nat.succ_ne_zero, Nat.add_one_ne_zero, Nat.add_one_sub_one, Nat.zero_le, Nat.or_zero, Nat.zero_or, Bool.not_true, Bool.not_false, Bool.true_and, Bool.false_and, Bool.and_true, Bool.and_false, ↓reduceIte, if_true, if_false, not_true_eq_false, not_false_eq_true, true_and, and_true, false_and, and_false, and_self, true_or, or_true, false_or, or_false, Nat.reduceEqDiff, Nat.reduceLT, Nat.reduceLeDiff, Nat.reduceAdd, Nat.reduceMul, Nat.reduceSub, Nat.add_zero, Nat.zero_add, Nat.mul_zero, Nat.zero_mul, ne_eq, Bool.not_eq_true, Bool.not_eq_false, reduceCtorEq, decide_true, decide_false, decide_eq_true_eq, decide_eq_false_iff_not, Bool.false_eq_true, if_pos, if_neg]
theorem mEq_pro (sm : fSt) (v : Int32) : mEq sm (sI (sI sm 12 0 1 0) 12 0 0 v) := ⟨⟨rfl, rfl, rfl, rfl, rfl, rfl, rfl⟩, ⟨rfl, rfl⟩, ⟨rfl, rfl, rfl, rfl, rfl, rfl, rfl⟩, rfl, rfl⟩
theorem fin_v {sc sm : fSt} (H : RX sc sm) (v : Int32) : RR (sI sc 11 0 2 v) (sI (sI sm 12 0 1 0) 12 0 0 v) := RR_of (RX_e (cEq_st _ _) (mEq_pro _ _) H) (by rw [gI_same, gI_same])
theorem call_read (a b : Int32) : CALL (f_X11_read a b) (f_X12_read a b) := by
  intro sc sm ⟨hA, H⟩
  have hT : rT sc (sI sm 12 0 1 0) := H.2.2.1
  obtain ⟨v, e1, e2, hv, h0⟩ := why_place hT a b
  unfold f_X11_read f_X12_read
  rw [fLt_e, e2, e1]
  simp only [fBd_s, fLt_e, fJn_s, gI_same]
  by_cases hz : v = 0
  · subst hz
    obtain ⟨t, p, so, ma, ht, rfl, hp, rfl, -, hm, -, -, -, -, -, g⟩ := h0 rfl
    simp (disch := omega) only [fLt_e, fBd_s, fJn_s, fNn_s, fNu_0, fNu_s, fBo_0, fBo_1, fBo_b, i_lit, i_neg1, nI_add, pk_mul, nI_clamp, i_le, i_lt, i_eq, fIx_n, nI_mI, mI_nI, mI_lt, nI_lt_m, mI_le, nI_le_m, xI_0, xI_s, bI_0, bI_1, bI_t, bI_f, n_31, j_bit, j_one, i_and, i_or, Nat.not_lt_zero, Nat.succ_ne_zero, Nat.add_one_ne_zero, Nat.add_one_sub_one, Nat.zero_le, Nat.or_zero, Nat.zero_or, Bool.not_true, Bool.not_false, Bool.true_and, Bool.false_and, Bool.and_true, Bool.and_false, ↓reduceIte, if_true, if_false, not_true_eq_false, not_false_eq_true, true_and, and_true, false_and, and_false, and_self, true_or, or_true, false_or, or_false, Nat.reduceEqDiff, Nat.reduceLT, Nat.reduceLeDiff, Nat.reduceAdd, Nat.reduceMul, Nat.reduceSub, Nat.add_zero, Nat.zero_add, Nat.mul_zero, Nat.zero_mul, ne_eq, Bool.not_eq_true, Bool.not_eq_false, reduceCtorEq, decide_true, decide_false, decide_eq_true_eq, decide_eq_false_iff_not, Bool.false_eq_true, if_pos, if_neg]
    refine ⟨_, _, _, ?_, rfl, fin_v H _⟩
    simp only [gB_sI]
    rw [g p hp]
    rfl
  · simp (disch := omega) only [fLt_e, fBd_s, fJn_s, fNn_s, fNu_0, fNu_s, fBo_0, fBo_1, fBo_b, i_lit, i_neg1, nI_add, pk_mul, nI_clamp, i_le, i_lt, i_eq, fIx_n, nI_mI, mI_nI, mI_lt, nI_lt_m, mI_le, nI_le_m, xI_0, xI_s, bI_0, bI_1, bI_t, bI_f, n_31, j_bit, j_one, i_and, i_or, Nat.not_lt_zero, Nat.succ_ne_zero, Nat.add_one_ne_zero, Nat.add_one_sub_one, Nat.zero_le, Nat.or_zero, Nat.zero_or, Bool.not_true, Bool.not_false, Bool.true_and, Bool.false_and, Bool.and_true, Bool.and_false, ↓reduceIte, if_true, if_false, not_true_eq_false, not_false_eq_true, true_and, and_true, false_and, and_false, and_self, true_or, or_true, false_or, or_false, Nat.reduceEqDiff, Nat.reduceLT, Nat.reduceLeDiff, Nat.reduceAdd, Nat.reduceMul, Nat.reduceSub, Nat.add_zero, Nat.zero_add, Nat.mul_zero, Nat.zero_mul, ne_eq, Bool.not_eq_true, Bool.not_eq_false, reduceCtorEq, decide_true, decide_false, decide_eq_true_eq, decide_eq_false_iff_not, Bool.false_eq_true, if_pos, if_neg, f_X11_fail]
    exact ⟨_, _, _, rfl, rfl, fin_v H _⟩
theorem x_cut {sc : fSt} {t so : Nat} (h : gI sc 8 t 2 = nI so) (hs : so ≤ 3) (v : Int64) (sm : fSt) : ∃ x, f_X8_cut t v sc = some (x, sc) ∧ f_X12_cut (nI so) v sm = some (x, sm) := by
  unfold f_X8_cut f_X12_cut
  rw [h]
  rcases (show so = 0 ∨ so = 1 ∨ so = 2 ∨ so = 3 by omega) with rfl | rfl | rfl | rfl
  · exact ⟨_, rfl, rfl⟩
  · exact ⟨_, rfl, rfl⟩
  · exact ⟨_, rfl, rfl⟩
  · exact ⟨_, rfl, rfl⟩
/-- one tray's row of numbers is another one -/
theorem up_row {sc sm : fSt} (H : RX sc sm) {t : Nat} (ht : t < 4) (f g : Nat → Int64) (hfg : ∀ so ma, so ≤ 3 → ma ≤ 60 → gI sc 8 t 3 = nI ma → gA sm 12 0 2 t = nI ma → (∀ k, k < ma → gB sc 8 t 1 k = gB sm 12 0 3 (60 * t + k)) → ∀ k, k < ma → f k = g (60 * t + k)) (hg : ∀ k, k < 60 * t ∨ 60 * t + 60 ≤ k → g k = gB sm 12 0 3 k) : RX (sB sc 8 t 1 f) (sB sm 12 0 3 g) := by
  obtain ⟨h2, h3, h4, h5, h6, h7, h8, h9, h10⟩ := H
  refine ⟨h2, h3, ?_, h5, h6, h7, h8, h9, ?_⟩
  · intro t' ht'
    have hT := h4 t' ht'
    simp only [gI_sB, gA_sB, gB_sB]
    rcases hT with hT | ⟨b1, so', ma', b2, b3, b4, b5, b6, b7, b8⟩
    · exact Or.inl hT
    · refine Or.inr ⟨b1, so', ma', b2, b3, b4, b5, b6, b7, fun k hk => ?_⟩
      by_cases htt : t' = t
      · subst htt
        simp only [and_self, if_true]
        exact hfg so' ma' b2 b3 b6 b7 b8 k hk
      · simp only [htt, false_and, and_false, if_false, and_self, if_true]
        rw [hg _ (by omega)]
        exact b8 k hk
  · exact rH_w (fun c hc i k => by rcases hc with rfl | rfl | rfl | rfl <;> exact ⟨rfl, rfl, rfl, rfl⟩) rfl rfl rfl rfl h10
theorem call_write (a b : Int32) (v : Int64) : CALL (f_X11_write a b v) (f_X12_write a b v) := by
  intro sc sm ⟨hA, H⟩
  have hT : rT sc (sI sm 12 0 1 0) := H.2.2.1
  obtain ⟨y, e1, e2, hy, h0⟩ := why_place hT a b
  unfold f_X11_write f_X12_write
  rw [fLt_e, e2, e1]
  simp only [fBd_s, fLt_e, fJn_s, gI_same]
  by_cases hz : y = 0
  · subst hz
    obtain ⟨t, p, so, ma, ht, rfl, hp, rfl, hso, hm, -, c4, c5, c6, c7, g⟩ := h0 rfl
    have H' : RX sc (sI (sI sm 12 0 1 0) 12 0 0 (nI 0)) := RX_e (cEq_rf _) (mEq_pro _ _) H
    have c5' : gA (sI (sI sm 12 0 1 0) 12 0 0 (nI 0)) 12 0 1 t = nI so := c5
    have c7' : gA (sI (sI sm 12 0 1 0) 12 0 0 (nI 0)) 12 0 2 t = nI ma := c7
    have z : gI (sI (sI sm 12 0 1 0) 12 0 0 (nI 0)) 12 0 0 = 0 := rfl
    generalize sI (sI sm 12 0 1 0) 12 0 0 (nI 0) = s2 at *
    obtain ⟨x, f1, f2⟩ := x_cut c4 hso v s2
    simp (disch := omega) only [fLt_e, fBd_s, fJn_s, fNn_s, fNu_0, fNu_s, fBo_0, fBo_1, fBo_b, i_lit, i_neg1, nI_add, pk_mul, nI_clamp, i_le, i_lt, i_eq, fIx_n, nI_mI, mI_nI, mI_lt, nI_lt_m, mI_le, nI_le_m, xI_0, xI_s, bI_0, bI_1, bI_t, bI_f, n_31, j_bit, j_one, i_and, i_or, Nat.not_lt_zero, Nat.succ_ne_zero, Nat.add_one_ne_zero, Nat.add_one_sub_one, Nat.zero_le, Nat.or_zero, Nat.zero_or, Bool.not_true, Bool.not_false, Bool.true_and, Bool.false_and, Bool.and_true, Bool.and_false, ↓reduceIte, if_true, if_false, not_true_eq_false, not_false_eq_true, true_and, and_true, false_and, and_false, and_self, true_or, or_true, false_or, or_false, Nat.reduceEqDiff, Nat.reduceLT, Nat.reduceLeDiff, Nat.reduceAdd, Nat.reduceMul, Nat.reduceSub, Nat.add_zero, Nat.zero_add, Nat.mul_zero, Nat.zero_mul, ne_eq, Bool.not_eq_true, Bool.not_eq_false, reduceCtorEq, decide_true, decide_false, decide_eq_true_eq, decide_eq_false_iff_not, Bool.false_eq_true, if_pos, if_neg, f_X8_put, f1, f2, c5', f_X11_agree]
    refine ⟨_, _, _, rfl, rfl, fin_0 (up_row H' ht _ _ (fun so' ma' _ _ _ _ hh k hk => ?_) (fun k hk => ?_)) z⟩
    · simp only [updL_at]
      by_cases hkp : k = p
      · subst hkp
        rw [if_pos rfl, if_pos rfl]
      · rw [if_neg hkp, if_neg (by omega)]
        exact hh k hk
    · rw [updL_at, if_neg (by omega)]
  · simp (disch := omega) only [fLt_e, fBd_s, fJn_s, fNn_s, fNu_0, fNu_s, fBo_0, fBo_1, fBo_b, i_lit, i_neg1, nI_add, pk_mul, nI_clamp, i_le, i_lt, i_eq, fIx_n, nI_mI, mI_nI, mI_lt, nI_lt_m, mI_le, nI_le_m, xI_0, xI_s, bI_0, bI_1, bI_t, bI_f, n_31, j_bit, j_one, i_and, i_or, Nat.not_lt_zero, Nat.succ_ne_zero, Nat.add_one_ne_zero, Nat.add_one_sub_one, Nat.zero_le, Nat.or_zero, Nat.zero_or, Bool.not_true, Bool.not_false, Bool.true_and, Bool.false_and, Bool.and_true, Bool.and_false, ↓reduceIte, if_true, if_false, not_true_eq_false, not_false_eq_true, true_and, and_true, false_and, and_false, and_self, true_or, or_true, false_or, or_false, Nat.reduceEqDiff, Nat.reduceLT, Nat.reduceLeDiff, Nat.reduceAdd, Nat.reduceMul, Nat.reduceSub, Nat.add_zero, Nat.zero_add, Nat.mul_zero, Nat.zero_mul, ne_eq, Bool.not_eq_true, Bool.not_eq_false, reduceCtorEq, decide_true, decide_false, decide_eq_true_eq, decide_eq_false_iff_not, Bool.false_eq_true, if_pos, if_neg, f_X11_refuse]
    exact ⟨_, _, _, rfl, rfl, fin_v H _⟩
/-! layer 2: pour, feed -/
theorem lg_le0 (x y : Int64) : (lg_cmp x y ≤ 0) = (x.toInt ≤ y.toInt) := by
  apply propext
  have h := lg_gt x y
  constructor
  · intro g
    have : ¬ (0 < lg_cmp x y) := Int32.not_lt.mpr g
    rw [h] at this
    omega
  · intro g
    apply Int32.not_lt.mp
    rw [h]
    omega
theorem x_hasPlaces {sc : fSt} {t ma : Nat} (h : gI sc 8 t 3 = nI ma) (hm : ma ≤ 60) (a b : Int32) : f_X8_hasPlaces t a b sc = some (bI (decide (0 ≤ a.toInt ∧ 0 ≤ b.toInt ∧ a.toInt + b.toInt ≤ ma)), sc) := by
  unfold f_X8_hasPlaces
  simp only [h, lg_gt, wd_add, Int32.toInt_toInt64]
  by_cases h1 : a.toInt < 0
  · rw [decide_eq_false (show ¬ (0 ≤ a.toInt ∧ 0 ≤ b.toInt ∧ a.toInt + b.toInt ≤ ma) by omega)]
    simp (disch := omega) only [fLt_e, fBd_s, fJn_s, fNn_s, fNu_0, fNu_s, fBo_0, fBo_1, fBo_b, i_lit, i_neg1, nI_add, pk_mul, nI_clamp, fIx_n, Int32.lt_iff_toInt_lt, Int32.le_iff_toInt_le, ← Int32.toInt_inj, nI_toInt, mI_toInt, xI_0, xI_s, bI_t, bI_f, Nat.cast_ofNat, Int.ofNat_lt, Int.ofNat_le, Int.natCast_inj, Nat.not_lt_zero, Nat.succ_ne_zero, Nat.add_one_ne_zero, Nat.add_one_sub_one, Nat.zero_le, Nat.or_zero, Nat.zero_or, Bool.not_true, Bool.not_false, Bool.true_and, Bool.false_and, Bool.and_true, Bool.and_false, ↓reduceIte, if_true, if_false, not_true_eq_false, not_false_eq_true, true_and, and_true, false_and, and_false, and_self, true_or, or_true, false_or, or_false, Nat.reduceEqDiff, Nat.reduceLT, Nat.reduceLeDiff, Nat.reduceAdd, Nat.reduceMul, Nat.reduceSub, Nat.add_zero, Nat.zero_add, Nat.mul_zero, Nat.zero_mul, ne_eq, Bool.not_eq_true, Bool.not_eq_false, reduceCtorEq, decide_true, decide_false, decide_eq_true_eq, decide_eq_false_iff_not, Bool.false_eq_true, if_pos, if_neg]
  · by_cases h2 : b.toInt < 0
    · rw [decide_eq_false (show ¬ (0 ≤ a.toInt ∧ 0 ≤ b.toInt ∧ a.toInt + b.toInt ≤ ma) by omega)]
      simp (disch := omega) only [fLt_e, fBd_s, fJn_s, fNn_s, fNu_0, fNu_s, fBo_0, fBo_1, fBo_b, i_lit, i_neg1, nI_add, pk_mul, nI_clamp, fIx_n, Int32.lt_iff_toInt_lt, Int32.le_iff_toInt_le, ← Int32.toInt_inj, nI_toInt, mI_toInt, xI_0, xI_s, bI_t, bI_f, Nat.cast_ofNat, Int.ofNat_lt, Int.ofNat_le, Int.natCast_inj, Nat.not_lt_zero, Nat.succ_ne_zero, Nat.add_one_ne_zero, Nat.add_one_sub_one, Nat.zero_le, Nat.or_zero, Nat.zero_or, Bool.not_true, Bool.not_false, Bool.true_and, Bool.false_and, Bool.and_true, Bool.and_false, ↓reduceIte, if_true, if_false, not_true_eq_false, not_false_eq_true, true_and, and_true, false_and, and_false, and_self, true_or, or_true, false_or, or_false, Nat.reduceEqDiff, Nat.reduceLT, Nat.reduceLeDiff, Nat.reduceAdd, Nat.reduceMul, Nat.reduceSub, Nat.add_zero, Nat.zero_add, Nat.mul_zero, Nat.zero_mul, ne_eq, Bool.not_eq_true, Bool.not_eq_false, reduceCtorEq, decide_true, decide_false, decide_eq_true_eq, decide_eq_false_iff_not, Bool.false_eq_true, if_pos, if_neg]
    · by_cases h3 : a.toInt + b.toInt ≤ ma
      · rw [decide_eq_true (show 0 ≤ a.toInt ∧ 0 ≤ b.toInt ∧ a.toInt + b.toInt ≤ ma by omega)]
        simp (disch := omega) only [fLt_e, fBd_s, fJn_s, fNn_s, fNu_0, fNu_s, fBo_0, fBo_1, fBo_b, i_lit, i_neg1, nI_add, pk_mul, nI_clamp, fIx_n, Int32.lt_iff_toInt_lt, Int32.le_iff_toInt_le, ← Int32.toInt_inj, nI_toInt, mI_toInt, xI_0, xI_s, bI_t, bI_f, Nat.cast_ofNat, Int.ofNat_lt, Int.ofNat_le, Int.natCast_inj, Nat.not_lt_zero, Nat.succ_ne_zero, Nat.add_one_ne_zero, Nat.add_one_sub_one, Nat.zero_le, Nat.or_zero, Nat.zero_or, Bool.not_true, Bool.not_false, Bool.true_and, Bool.false_and, Bool.and_true, Bool.and_false, ↓reduceIte, if_true, if_false, not_true_eq_false, not_false_eq_true, true_and, and_true, false_and, and_false, and_self, true_or, or_true, false_or, or_false, Nat.reduceEqDiff, Nat.reduceLT, Nat.reduceLeDiff, Nat.reduceAdd, Nat.reduceMul, Nat.reduceSub, Nat.add_zero, Nat.zero_add, Nat.mul_zero, Nat.zero_mul, ne_eq, Bool.not_eq_true, Bool.not_eq_false, reduceCtorEq, decide_true, decide_false, decide_eq_true_eq, decide_eq_false_iff_not, Bool.false_eq_true, if_pos, if_neg]
      · rw [decide_eq_false (show ¬ (0 ≤ a.toInt ∧ 0 ≤ b.toInt ∧ a.toInt + b.toInt ≤ ma) by omega)]
        simp (disch := omega) only [fLt_e, fBd_s, fJn_s, fNn_s, fNu_0, fNu_s, fBo_0, fBo_1, fBo_b, i_lit, i_neg1, nI_add, pk_mul, nI_clamp, fIx_n, Int32.lt_iff_toInt_lt, Int32.le_iff_toInt_le, ← Int32.toInt_inj, nI_toInt, mI_toInt, xI_0, xI_s, bI_t, bI_f, Nat.cast_ofNat, Int.ofNat_lt, Int.ofNat_le, Int.natCast_inj, Nat.not_lt_zero, Nat.succ_ne_zero, Nat.add_one_ne_zero, Nat.add_one_sub_one, Nat.zero_le, Nat.or_zero, Nat.zero_or, Bool.not_true, Bool.not_false, Bool.true_and, Bool.false_and, Bool.and_true, Bool.and_false, ↓reduceIte, if_true, if_false, not_true_eq_false, not_false_eq_true, true_and, and_true, false_and, and_false, and_self, true_or, or_true, false_or, or_false, Nat.reduceEqDiff, Nat.reduceLT, Nat.reduceLeDiff, Nat.reduceAdd, Nat.reduceMul, Nat.reduceSub, Nat.add_zero, Nat.zero_add, Nat.mul_zero, Nat.zero_mul, ne_eq, Bool.not_eq_true, Bool.not_eq_false, reduceCtorEq, decide_true, decide_false, decide_eq_true_eq, decide_eq_false_iff_not, Bool.false_eq_true, if_pos, if_neg]
theorem m_pour_L {t i u j n : Nat} (ht : t < 4) (hu : u < 4) (hi : i + n ≤ 60) (hj : j + n ≤ 60) (x : Int32) (hx : (x = nI 1 ∧ i < j) ∨ (x = nI 0 ∧ j ≤ i)) (st : fSt) :
    ∃ g, f_X12_pour_L158 (nI t) (nI i) (nI u) (nI j) (nI n) x fF (nI 0) st = some (nI 1, sB st 12 0 3 g) ∧ (∀ k, k < n → g (60 * u + j + k) = gB st 12 0 3 (60 * t + i + k)) ∧ ∀ p, (∀ k, k < n → p ≠ 60 * u + j + k) → g p = gB st 12 0 3 p := by
  rcases hx with ⟨rfl, hij⟩ | ⟨rfl, hij⟩
  · obtain ⟨⟨x, s⟩, m, ⟨hx, g, hs, h1, h2⟩, e⟩ := lp_ex (fun m (z : Int32 × fSt) => f_X12_pour_L158 (nI t) (nI i) (nI u) (nI j) (nI n) (nI 1) m z.1 z.2) (fun k z => z.1 = nI k ∧ ∃ g, z.2 = sB st 12 0 3 g ∧ (∀ l, l < n → n - k ≤ l → g (60 * u + j + l) = gB st 12 0 3 (60 * t + i + l)) ∧ ∀ p, (∀ l, l < n → n - k ≤ l → p ≠ 60 * u + j + l) → g p = gB st 12 0 3 p) n (fun k z hk hz => by
      obtain ⟨x, s⟩ := z
      obtain ⟨hx, g, hs, h1, h2⟩ := hz
      simp only at hx hs
      subst hx
      subst hs
      refine ⟨(nI (k + 1), sB st 12 0 3 (vp_updL g (60 * u + j + (n - 1 - k)) (g (60 * t + i + (n - 1 - k))))), ⟨rfl, _, rfl, fun l hl hl2 => ?_, fun p hp => ?_⟩, fun m => ?_⟩
      · rw [updL_at]
        by_cases hj2 : l = n - 1 - k
        · rw [hj2, if_pos rfl]
          exact h2 _ (fun l' h3 h4 => by omega)
        · rw [if_neg (by omega)]; exact h1 l hl (by omega)
      · rw [updL_at, if_neg (hp (n - 1 - k) (by omega) (by omega))]
        exact h2 p (fun l h3 h4 => hp l h3 (by omega))
      · simp only
        rw [f_X12_pour_L158]
        have e1 : nI n - nI 1 - nI k = nI (n - 1 - k) := by rw [pk_sub (by omega), pk_sub (by omega)]
        simp (disch := omega) only [fLt_e, fBd_s, fJn_s, fNn_s, fNu_0, fNu_s, fBo_0, fBo_1, fBo_b, i_lit, i_neg1, nI_add, pk_mul, nI_clamp, i_le, i_lt, i_eq, fIx_n, nI_mI, mI_nI, mI_lt, nI_lt_m, mI_le, nI_le_m, xI_0, xI_s, bI_0, bI_1, bI_t, bI_f, n_31, j_bit, j_one, i_and, i_or, Nat.not_lt_zero, Nat.succ_ne_zero, Nat.add_one_ne_zero, Nat.add_one_sub_one, Nat.zero_le, Nat.or_zero, Nat.zero_or, Bool.not_true, Bool.not_false, Bool.true_and, Bool.false_and, Bool.and_true, Bool.and_false, ↓reduceIte, if_true, if_false, not_true_eq_false, not_false_eq_true, true_and, and_true, false_and, and_false, and_self, true_or, or_true, false_or, or_false, Nat.reduceEqDiff, Nat.reduceLT, Nat.reduceLeDiff, Nat.reduceAdd, Nat.reduceMul, Nat.reduceSub, Nat.add_zero, Nat.zero_add, Nat.mul_zero, Nat.zero_mul, ne_eq, Bool.not_eq_true, Bool.not_eq_false, reduceCtorEq, decide_true, decide_false, decide_eq_true_eq, decide_eq_false_iff_not, Bool.false_eq_true, if_pos, if_neg, gB_same, sB_sB, e1]) (fF_lt (by omega)) (s := (nI 0, st)) ⟨rfl, gB st 12 0 3, (sB_self st 12 0 3).symm, fun l h1 h2 => by omega, fun p _ => rfl⟩
    simp only at hx hs e
    subst hx
    subst hs
    refine ⟨g, ?_, fun k hk => h1 k hk (by omega), fun p hp => h2 p (fun l h3 _ => hp l h3)⟩
    rw [e, f_X12_pour_L158]
    simp (disch := omega) only [fLt_e, fBd_s, fJn_s, fNn_s, fNu_0, fNu_s, fBo_0, fBo_1, fBo_b, i_lit, i_neg1, nI_add, pk_mul, nI_clamp, i_le, i_lt, i_eq, fIx_n, nI_mI, mI_nI, mI_lt, nI_lt_m, mI_le, nI_le_m, xI_0, xI_s, bI_0, bI_1, bI_t, bI_f, n_31, j_bit, j_one, i_and, i_or, Nat.not_lt_zero, Nat.succ_ne_zero, Nat.add_one_ne_zero, Nat.add_one_sub_one, Nat.zero_le, Nat.or_zero, Nat.zero_or, Bool.not_true, Bool.not_false, Bool.true_and, Bool.false_and, Bool.and_true, Bool.and_false, ↓reduceIte, if_true, if_false, not_true_eq_false, not_false_eq_true, true_and, and_true, false_and, and_false, and_self, true_or, or_true, false_or, or_false, Nat.reduceEqDiff, Nat.reduceLT, Nat.reduceLeDiff, Nat.reduceAdd, Nat.reduceMul, Nat.reduceSub, Nat.add_zero, Nat.zero_add, Nat.mul_zero, Nat.zero_mul, ne_eq, Bool.not_eq_true, Bool.not_eq_false, reduceCtorEq, decide_true, decide_false, decide_eq_true_eq, decide_eq_false_iff_not, Bool.false_eq_true, if_pos, if_neg]
  · obtain ⟨⟨x, s⟩, m, ⟨hx, g, hs, h1, h2⟩, e⟩ := lp_ex (fun m (z : Int32 × fSt) => f_X12_pour_L158 (nI t) (nI i) (nI u) (nI j) (nI n) (nI 0) m z.1 z.2) (fun k z => z.1 = nI k ∧ ∃ g, z.2 = sB st 12 0 3 g ∧ (∀ l, l < k → g (60 * u + j + l) = gB st 12 0 3 (60 * t + i + l)) ∧ ∀ p, (∀ l, l < k → p ≠ 60 * u + j + l) → g p = gB st 12 0 3 p) n (fun k z hk hz => by
      obtain ⟨x, s⟩ := z
      obtain ⟨hx, g, hs, h1, h2⟩ := hz
      simp only at hx hs
      subst hx
      subst hs
      refine ⟨(nI (k + 1), sB st 12 0 3 (vp_updL g (60 * u + j + k) (g (60 * t + i + k)))), ⟨rfl, _, rfl, fun l hl => ?_, fun p hp => ?_⟩, fun m => ?_⟩
      · rw [updL_at]
        by_cases hj2 : l = k
        · rw [hj2, if_pos rfl]
          exact h2 _ (fun l' h3 => by omega)
        · rw [if_neg (by omega)]; exact h1 l (by omega)
      · rw [updL_at, if_neg (hp k (by omega))]
        exact h2 p (fun l h3 => hp l (by omega))
      · simp only
        rw [f_X12_pour_L158]
        simp (disch := omega) only [fLt_e, fBd_s, fJn_s, fNn_s, fNu_0, fNu_s, fBo_0, fBo_1, fBo_b, i_lit, i_neg1, nI_add, pk_mul, nI_clamp, i_le, i_lt, i_eq, fIx_n, nI_mI, mI_nI, mI_lt, nI_lt_m, mI_le, nI_le_m, xI_0, xI_s, bI_0, bI_1, bI_t, bI_f, n_31, j_bit, j_one, i_and, i_or, Nat.not_lt_zero, Nat.succ_ne_zero, Nat.add_one_ne_zero, Nat.add_one_sub_one, Nat.zero_le, Nat.or_zero, Nat.zero_or, Bool.not_true, Bool.not_false, Bool.true_and, Bool.false_and, Bool.and_true, Bool.and_false, ↓reduceIte, if_true, if_false, not_true_eq_false, not_false_eq_true, true_and, and_true, false_and, and_false, and_self, true_or, or_true, false_or, or_false, Nat.reduceEqDiff, Nat.reduceLT, Nat.reduceLeDiff, Nat.reduceAdd, Nat.reduceMul, Nat.reduceSub, Nat.add_zero, Nat.zero_add, Nat.mul_zero, Nat.zero_mul, ne_eq, Bool.not_eq_true, Bool.not_eq_false, reduceCtorEq, decide_true, decide_false, decide_eq_true_eq, decide_eq_false_iff_not, Bool.false_eq_true, if_pos, if_neg, gB_same, sB_sB]) (fF_lt (by omega)) (s := (nI 0, st)) ⟨rfl, gB st 12 0 3, (sB_self st 12 0 3).symm, fun l h1 => by omega, fun p _ => rfl⟩
    simp only at hx hs e
    subst hx
    subst hs
    refine ⟨g, ?_, fun k hk => h1 k hk, fun p hp => h2 p hp⟩
    rw [e, f_X12_pour_L158]
    simp (disch := omega) only [fLt_e, fBd_s, fJn_s, fNn_s, fNu_0, fNu_s, fBo_0, fBo_1, fBo_b, i_lit, i_neg1, nI_add, pk_mul, nI_clamp, i_le, i_lt, i_eq, fIx_n, nI_mI, mI_nI, mI_lt, nI_lt_m, mI_le, nI_le_m, xI_0, xI_s, bI_0, bI_1, bI_t, bI_f, n_31, j_bit, j_one, i_and, i_or, Nat.not_lt_zero, Nat.succ_ne_zero, Nat.add_one_ne_zero, Nat.add_one_sub_one, Nat.zero_le, Nat.or_zero, Nat.zero_or, Bool.not_true, Bool.not_false, Bool.true_and, Bool.false_and, Bool.and_true, Bool.and_false, ↓reduceIte, if_true, if_false, not_true_eq_false, not_false_eq_true, true_and, and_true, false_and, and_false, and_self, true_or, or_true, false_or, or_false, Nat.reduceEqDiff, Nat.reduceLT, Nat.reduceLeDiff, Nat.reduceAdd, Nat.reduceMul, Nat.reduceSub, Nat.add_zero, Nat.zero_add, Nat.mul_zero, Nat.zero_mul, ne_eq, Bool.not_eq_true, Bool.not_eq_false, reduceCtorEq, decide_true, decide_false, decide_eq_true_eq, decide_eq_false_iff_not, Bool.false_eq_true, if_pos, if_neg]
theorem rT_at {sc sm : fSt} (hT : rT sc sm) {t : Nat} (ht : t < 4) (h : gI sc 8 t 1 ≠ nI 0) : ∃ so ma, so ≤ 3 ∧ ma ≤ 60 ∧ gI sc 8 t 1 = nI 1 ∧ gI sc 8 t 2 = nI so ∧ gA sm 12 0 1 t = nI so ∧ gI sc 8 t 3 = nI ma ∧ gA sm 12 0 2 t = nI ma ∧ ∀ k, k < ma → gB sc 8 t 1 k = gB sm 12 0 3 (60 * t + k) := by
  rcases hT t ht with ⟨c1, c2⟩ | ⟨c1, so, ma, c2, c3, c4, c5, c6, c7, c8⟩
  · exact absurd c1 h
  · exact ⟨so, ma, c2, c3, c1, c4, c5, c6, c7, c8⟩
theorem call_pour (a b c d e : Int32) : CALL (f_X11_pour a b c d e) (f_X12_pour a b c d e) := by
  intro sc sm ⟨hA, H⟩
  have H := pro_x H
  have z := pro_0 sm
  unfold f_X11_pour f_X12_pour
  simp only [fLt_e, pro_eq]
  generalize pro sm = s2 at *
  have hT := H.2.2.1
  rw [show (4 : Int32) = nI 4 from rfl, x_isBelow _ _ (by omega)]
  simp only [fBd_s, fJn_s]
  have F := fun v => fin_st H v
  by_cases ha : 0 ≤ a.toInt ∧ a.toInt < 4
  · obtain ⟨t, ht, rfl, -⟩ := nI_ofInt (n := 4) ha.1 (by omega)
    rw [inB_t.mpr (show 0 ≤ (nI t).toInt ∧ (nI t).toInt ≤ ((4 : Nat) : Int) - 1 by omega)]
    rw [x_isBelow _ _ (by omega)]
    by_cases hb : 0 ≤ c.toInt ∧ c.toInt < 4
    · obtain ⟨u, hu, rfl, -⟩ := nI_ofInt (n := 4) hb.1 (by omega)
      rw [inB_t.mpr (show 0 ≤ (nI u).toInt ∧ (nI u).toInt ≤ ((4 : Nat) : Int) - 1 by omega)]
      by_cases h1 : gI sc 8 t 1 = nI 0
      · have g1 : gA s2 12 0 2 t = mI := by
          rcases hT t ht with ⟨c1, c2⟩ | ⟨c1, -⟩
          · exact c2
          · rw [h1, i_eq 0 1 (by omega) (by omega)] at c1; omega
        simp (disch := omega) only [fLt_e, fBd_s, fJn_s, fNn_s, fNu_0, fNu_s, fBo_0, fBo_1, fBo_b, i_lit, i_neg1, nI_add, pk_mul, nI_clamp, i_le, i_lt, i_eq, fIx_n, nI_mI, mI_nI, mI_lt, nI_lt_m, mI_le, nI_le_m, xI_0, xI_s, bI_0, bI_1, bI_t, bI_f, n_31, j_bit, j_one, i_and, i_or, Nat.not_lt_zero, Nat.succ_ne_zero, Nat.add_one_ne_zero, Nat.add_one_sub_one, Nat.zero_le, Nat.or_zero, Nat.zero_or, Bool.not_true, Bool.not_false, Bool.true_and, Bool.false_and, Bool.and_true, Bool.and_false, ↓reduceIte, if_true, if_false, not_true_eq_false, not_false_eq_true, true_and, and_true, false_and, and_false, and_self, true_or, or_true, false_or, or_false, Nat.reduceEqDiff, Nat.reduceLT, Nat.reduceLeDiff, Nat.reduceAdd, Nat.reduceMul, Nat.reduceSub, Nat.add_zero, Nat.zero_add, Nat.mul_zero, Nat.zero_mul, ne_eq, Bool.not_eq_true, Bool.not_eq_false, reduceCtorEq, decide_true, decide_false, decide_eq_true_eq, decide_eq_false_iff_not, Bool.false_eq_true, if_pos, if_neg, h1, g1, f_X11_refuse, f_X12_no]
        exact ⟨_, _, _, rfl, rfl, F _⟩
      · obtain ⟨so, ma, c2, c3, c1, c4, c5, c6, c7, c8⟩ := rT_at hT ht h1
        by_cases h2 : gI sc 8 u 1 = nI 0
        · have g1 : gA s2 12 0 2 u = mI := by
            rcases hT u hu with ⟨d1, d2⟩ | ⟨d1, -⟩
            · exact d2
            · rw [h2, i_eq 0 1 (by omega) (by omega)] at d1; omega
          simp (disch := omega) only [fLt_e, fBd_s, fJn_s, fNn_s, fNu_0, fNu_s, fBo_0, fBo_1, fBo_b, i_lit, i_neg1, nI_add, pk_mul, nI_clamp, i_le, i_lt, i_eq, fIx_n, nI_mI, mI_nI, mI_lt, nI_lt_m, mI_le, nI_le_m, xI_0, xI_s, bI_0, bI_1, bI_t, bI_f, n_31, j_bit, j_one, i_and, i_or, Nat.not_lt_zero, Nat.succ_ne_zero, Nat.add_one_ne_zero, Nat.add_one_sub_one, Nat.zero_le, Nat.or_zero, Nat.zero_or, Bool.not_true, Bool.not_false, Bool.true_and, Bool.false_and, Bool.and_true, Bool.and_false, ↓reduceIte, if_true, if_false, not_true_eq_false, not_false_eq_true, true_and, and_true, false_and, and_false, and_self, true_or, or_true, false_or, or_false, Nat.reduceEqDiff, Nat.reduceLT, Nat.reduceLeDiff, Nat.reduceAdd, Nat.reduceMul, Nat.reduceSub, Nat.add_zero, Nat.zero_add, Nat.mul_zero, Nat.zero_mul, ne_eq, Bool.not_eq_true, Bool.not_eq_false, reduceCtorEq, decide_true, decide_false, decide_eq_true_eq, decide_eq_false_iff_not, Bool.false_eq_true, if_pos, if_neg, c1, h2, c7, g1, f_X11_refuse, f_X12_no]
          exact ⟨_, _, _, rfl, rfl, F _⟩
        · obtain ⟨so', ma', d2, d3, d1, d4, d5, d6, d7, d8⟩ := rT_at hT hu h2
          by_cases h3 : so = so'
          · subst h3
            by_cases h4 : 0 ≤ e.toInt
            · by_cases h5 : 0 ≤ b.toInt ∧ 0 ≤ d.toInt ∧ b.toInt + e.toInt ≤ ma ∧ d.toInt + e.toInt ≤ ma'
              · obtain ⟨n, hn, rfl, -⟩ := nI_ofInt (n := 61) h4 (by omega)
                obtain ⟨i, hi, rfl, -⟩ := nI_ofInt (n := 61) h5.1 (by omega)
                obtain ⟨j, hj, rfl, -⟩ := nI_ofInt (n := 61) h5.2.1 (by omega)
                rw [nI_toInt (by omega), nI_toInt (by omega), nI_toInt (by omega)] at h5
                have k1 := x_hasPlaces c6 c3 (nI i) (nI n)
                have k2 := x_hasPlaces d6 d3 (nI j) (nI n)
                rw [decide_eq_true (by rw [nI_toInt (by omega), nI_toInt (by omega)]; omega)] at k1 k2
                have hx : ∃ x : Int32, (if nI j ≤ nI i then nI 0 else nI 1) = x ∧ ((x = nI 1 ∧ i < j) ∨ (x = nI 0 ∧ j ≤ i)) := by
                  refine ⟨_, rfl, ?_⟩
                  by_cases hij : j ≤ i
                  · rw [if_pos (nI_le hij (by omega))]; exact Or.inr ⟨rfl, hij⟩
                  · rw [if_neg (nI_ge (by omega) (by omega))]; exact Or.inl ⟨rfl, by omega⟩
                obtain ⟨x, hx1, hx2⟩ := hx
                obtain ⟨g, e1, e2, e3⟩ := m_pour_L ht hu (show i + n ≤ 60 by omega) (show j + n ≤ 60 by omega) x hx2 s2
                have e1' : (if nI j ≤ nI i then f_X12_pour_L158 (nI t) (nI i) (nI u) (nI j) (nI n) (nI 0) fF (nI 0) s2 else f_X12_pour_L158 (nI t) (nI i) (nI u) (nI j) (nI n) (nI 1) fF (nI 0) s2) = some (nI 1, sB s2 12 0 3 g) := by
                  rw [← e1, ← hx1]
                  split <;> rfl
                have u1 : ¬ (ma : Int) < (i : Int) + n := by omega
                have u2 : (j : Int) + n ≤ (ma' : Int) := by omega
                simp (disch := omega) only [fLt_e, fBd_s, fJn_s, fNn_s, fNu_0, fNu_s, fBo_0, fBo_1, fBo_b, Nat.not_lt_zero, Nat.succ_ne_zero, Nat.add_one_ne_zero, Nat.add_one_sub_one, Nat.zero_le, Nat.or_zero, Nat.zero_or, Bool.not_true, Bool.not_false, Bool.true_and, Bool.false_and, Bool.and_true, Bool.and_false, ↓reduceIte, if_true, if_false, not_true_eq_false, not_false_eq_true, true_and, and_true, false_and, and_false, and_self, true_or, or_true, false_or, or_false, Nat.reduceEqDiff, Nat.reduceLT, Nat.reduceLeDiff, Nat.reduceAdd, Nat.reduceMul, Nat.reduceSub, Nat.add_zero, Nat.zero_add, Nat.mul_zero, Nat.zero_mul, ne_eq, Bool.not_eq_true, Bool.not_eq_false, reduceCtorEq, decide_true, decide_false, decide_eq_true_eq, decide_eq_false_iff_not, Bool.false_eq_true, i_lit, i_neg1, nI_clamp, fIx_n, bI_t, i_eq, nI_nlt, nI_pos, nI_pos', c1, d1, c7, d7, c4, d4, c5, d5, k1, k2, lg_gt, lg_le0, wd_add, nI_toInt, Int32.toInt_toInt64, u1, u2, if_pos, if_neg, nI_ge, fCp_n, f_X11_agree, i_lt, i_le] at e1' ⊢
                simp only [e1']
                refine ⟨_, _, _, rfl, rfl, fin_0 (up_row H hu _ _ (fun so2 ma2 _ _ q1 q2 hh k hk => ?_) (fun k hk => ?_)) z⟩
                · have hma : ma2 = ma' := by
                    rw [d6] at q1
                    exact ((nI_eq (by omega) (by omega)).mp q1).symm
                  subst hma
                  unfold va_cpy
                  by_cases hk2 : j ≤ k ∧ k < j + n
                  · rw [if_pos hk2, c8 _ (by omega)]
                    have := e2 (k - j) (by omega)
                    rw [show 60 * u + j + (k - j) = 60 * u + k by omega] at this
                    rw [this]
                    congr 1
                    omega
                  · rw [if_neg hk2, e3 _ (fun l hl => by omega)]
                    exact hh k hk
                · exact e3 _ (fun l hl => by omega)
              · have k1 := x_hasPlaces c6 c3 b e
                have k2 := x_hasPlaces d6 d3 d e
                by_cases h6 : 0 ≤ b.toInt ∧ 0 ≤ e.toInt ∧ b.toInt + e.toInt ≤ ma
                · rw [decide_eq_true h6] at k1
                  rw [decide_eq_false (by omega)] at k2
                  by_cases h7 : d.toInt < 0
                  · simp (disch := omega) only [fLt_e, fBd_s, fJn_s, fNn_s, fNu_0, fNu_s, fBo_0, fBo_1, fBo_b, i_lit, i_neg1, nI_add, pk_mul, nI_clamp, fIx_n, Int32.lt_iff_toInt_lt, Int32.le_iff_toInt_le, ← Int32.toInt_inj, nI_toInt, mI_toInt, xI_0, xI_s, bI_t, bI_f, Nat.cast_ofNat, Int.ofNat_lt, Int.ofNat_le, Int.natCast_inj, Nat.not_lt_zero, Nat.succ_ne_zero, Nat.add_one_ne_zero, Nat.add_one_sub_one, Nat.zero_le, Nat.or_zero, Nat.zero_or, Bool.not_true, Bool.not_false, Bool.true_and, Bool.false_and, Bool.and_true, Bool.and_false, ↓reduceIte, if_true, if_false, not_true_eq_false, not_false_eq_true, true_and, and_true, false_and, and_false, and_self, true_or, or_true, false_or, or_false, Nat.reduceEqDiff, Nat.reduceLT, Nat.reduceLeDiff, Nat.reduceAdd, Nat.reduceMul, Nat.reduceSub, Nat.add_zero, Nat.zero_add, Nat.mul_zero, Nat.zero_mul, ne_eq, Bool.not_eq_true, Bool.not_eq_false, reduceCtorEq, decide_true, decide_false, decide_eq_true_eq, decide_eq_false_iff_not, Bool.false_eq_true, if_pos, if_neg, c1, d1, c7, d7, c4, d4, c5, d5, k1, k2, lg_gt, lg_le0, wd_add, Int32.toInt_toInt64, f_X11_refuse, f_X12_no]
                    exact ⟨_, _, _, rfl, rfl, F _⟩
                  · simp (disch := omega) only [fLt_e, fBd_s, fJn_s, fNn_s, fNu_0, fNu_s, fBo_0, fBo_1, fBo_b, i_lit, i_neg1, nI_add, pk_mul, nI_clamp, fIx_n, Int32.lt_iff_toInt_lt, Int32.le_iff_toInt_le, ← Int32.toInt_inj, nI_toInt, mI_toInt, xI_0, xI_s, bI_t, bI_f, Nat.cast_ofNat, Int.ofNat_lt, Int.ofNat_le, Int.natCast_inj, Nat.not_lt_zero, Nat.succ_ne_zero, Nat.add_one_ne_zero, Nat.add_one_sub_one, Nat.zero_le, Nat.or_zero, Nat.zero_or, Bool.not_true, Bool.not_false, Bool.true_and, Bool.false_and, Bool.and_true, Bool.and_false, ↓reduceIte, if_true, if_false, not_true_eq_false, not_false_eq_true, true_and, and_true, false_and, and_false, and_self, true_or, or_true, false_or, or_false, Nat.reduceEqDiff, Nat.reduceLT, Nat.reduceLeDiff, Nat.reduceAdd, Nat.reduceMul, Nat.reduceSub, Nat.add_zero, Nat.zero_add, Nat.mul_zero, Nat.zero_mul, ne_eq, Bool.not_eq_true, Bool.not_eq_false, reduceCtorEq, decide_true, decide_false, decide_eq_true_eq, decide_eq_false_iff_not, Bool.false_eq_true, if_pos, if_neg, c1, d1, c7, d7, c4, d4, c5, d5, k1, k2, lg_gt, lg_le0, wd_add, Int32.toInt_toInt64, f_X11_refuse, f_X12_no]
                    exact ⟨_, _, _, rfl, rfl, F _⟩
                · rw [decide_eq_false h6] at k1
                  by_cases h7 : b.toInt < 0
                  · simp (disch := omega) only [fLt_e, fBd_s, fJn_s, fNn_s, fNu_0, fNu_s, fBo_0, fBo_1, fBo_b, i_lit, i_neg1, nI_add, pk_mul, nI_clamp, fIx_n, Int32.lt_iff_toInt_lt, Int32.le_iff_toInt_le, ← Int32.toInt_inj, nI_toInt, mI_toInt, xI_0, xI_s, bI_t, bI_f, Nat.cast_ofNat, Int.ofNat_lt, Int.ofNat_le, Int.natCast_inj, Nat.not_lt_zero, Nat.succ_ne_zero, Nat.add_one_ne_zero, Nat.add_one_sub_one, Nat.zero_le, Nat.or_zero, Nat.zero_or, Bool.not_true, Bool.not_false, Bool.true_and, Bool.false_and, Bool.and_true, Bool.and_false, ↓reduceIte, if_true, if_false, not_true_eq_false, not_false_eq_true, true_and, and_true, false_and, and_false, and_self, true_or, or_true, false_or, or_false, Nat.reduceEqDiff, Nat.reduceLT, Nat.reduceLeDiff, Nat.reduceAdd, Nat.reduceMul, Nat.reduceSub, Nat.add_zero, Nat.zero_add, Nat.mul_zero, Nat.zero_mul, ne_eq, Bool.not_eq_true, Bool.not_eq_false, reduceCtorEq, decide_true, decide_false, decide_eq_true_eq, decide_eq_false_iff_not, Bool.false_eq_true, if_pos, if_neg, c1, d1, c7, d7, c4, d4, c5, d5, k1, k2, lg_gt, lg_le0, wd_add, Int32.toInt_toInt64, f_X11_refuse, f_X12_no]
                    exact ⟨_, _, _, rfl, rfl, F _⟩
                  · by_cases h8 : d.toInt < 0
                    · simp (disch := omega) only [fLt_e, fBd_s, fJn_s, fNn_s, fNu_0, fNu_s, fBo_0, fBo_1, fBo_b, i_lit, i_neg1, nI_add, pk_mul, nI_clamp, fIx_n, Int32.lt_iff_toInt_lt, Int32.le_iff_toInt_le, ← Int32.toInt_inj, nI_toInt, mI_toInt, xI_0, xI_s, bI_t, bI_f, Nat.cast_ofNat, Int.ofNat_lt, Int.ofNat_le, Int.natCast_inj, Nat.not_lt_zero, Nat.succ_ne_zero, Nat.add_one_ne_zero, Nat.add_one_sub_one, Nat.zero_le, Nat.or_zero, Nat.zero_or, Bool.not_true, Bool.not_false, Bool.true_and, Bool.false_and, Bool.and_true, Bool.and_false, ↓reduceIte, if_true, if_false, not_true_eq_false, not_false_eq_true, true_and, and_true, false_and, and_false, and_self, true_or, or_true, false_or, or_false, Nat.reduceEqDiff, Nat.reduceLT, Nat.reduceLeDiff, Nat.reduceAdd, Nat.reduceMul, Nat.reduceSub, Nat.add_zero, Nat.zero_add, Nat.mul_zero, Nat.zero_mul, ne_eq, Bool.not_eq_true, Bool.not_eq_false, reduceCtorEq, decide_true, decide_false, decide_eq_true_eq, decide_eq_false_iff_not, Bool.false_eq_true, if_pos, if_neg, c1, d1, c7, d7, c4, d4, c5, d5, k1, k2, lg_gt, lg_le0, wd_add, Int32.toInt_toInt64, f_X11_refuse, f_X12_no]
                      exact ⟨_, _, _, rfl, rfl, F _⟩
                    · simp (disch := omega) only [fLt_e, fBd_s, fJn_s, fNn_s, fNu_0, fNu_s, fBo_0, fBo_1, fBo_b, i_lit, i_neg1, nI_add, pk_mul, nI_clamp, fIx_n, Int32.lt_iff_toInt_lt, Int32.le_iff_toInt_le, ← Int32.toInt_inj, nI_toInt, mI_toInt, xI_0, xI_s, bI_t, bI_f, Nat.cast_ofNat, Int.ofNat_lt, Int.ofNat_le, Int.natCast_inj, Nat.not_lt_zero, Nat.succ_ne_zero, Nat.add_one_ne_zero, Nat.add_one_sub_one, Nat.zero_le, Nat.or_zero, Nat.zero_or, Bool.not_true, Bool.not_false, Bool.true_and, Bool.false_and, Bool.and_true, Bool.and_false, ↓reduceIte, if_true, if_false, not_true_eq_false, not_false_eq_true, true_and, and_true, false_and, and_false, and_self, true_or, or_true, false_or, or_false, Nat.reduceEqDiff, Nat.reduceLT, Nat.reduceLeDiff, Nat.reduceAdd, Nat.reduceMul, Nat.reduceSub, Nat.add_zero, Nat.zero_add, Nat.mul_zero, Nat.zero_mul, ne_eq, Bool.not_eq_true, Bool.not_eq_false, reduceCtorEq, decide_true, decide_false, decide_eq_true_eq, decide_eq_false_iff_not, Bool.false_eq_true, if_pos, if_neg, c1, d1, c7, d7, c4, d4, c5, d5, k1, k2, lg_gt, lg_le0, wd_add, Int32.toInt_toInt64, f_X11_refuse, f_X12_no]
                      exact ⟨_, _, _, rfl, rfl, F _⟩
            · simp (disch := omega) only [fLt_e, fBd_s, fJn_s, fNn_s, fNu_0, fNu_s, fBo_0, fBo_1, fBo_b, i_lit, i_neg1, nI_add, pk_mul, nI_clamp, fIx_n, Int32.lt_iff_toInt_lt, Int32.le_iff_toInt_le, ← Int32.toInt_inj, nI_toInt, mI_toInt, xI_0, xI_s, bI_t, bI_f, Nat.cast_ofNat, Int.ofNat_lt, Int.ofNat_le, Int.natCast_inj, Nat.not_lt_zero, Nat.succ_ne_zero, Nat.add_one_ne_zero, Nat.add_one_sub_one, Nat.zero_le, Nat.or_zero, Nat.zero_or, Bool.not_true, Bool.not_false, Bool.true_and, Bool.false_and, Bool.and_true, Bool.and_false, ↓reduceIte, if_true, if_false, not_true_eq_false, not_false_eq_true, true_and, and_true, false_and, and_false, and_self, true_or, or_true, false_or, or_false, Nat.reduceEqDiff, Nat.reduceLT, Nat.reduceLeDiff, Nat.reduceAdd, Nat.reduceMul, Nat.reduceSub, Nat.add_zero, Nat.zero_add, Nat.mul_zero, Nat.zero_mul, ne_eq, Bool.not_eq_true, Bool.not_eq_false, reduceCtorEq, decide_true, decide_false, decide_eq_true_eq, decide_eq_false_iff_not, Bool.false_eq_true, if_pos, if_neg, c1, d1, c7, d7, c4, d4, c5, d5, f_X11_refuse, f_X12_no]
              exact ⟨_, _, _, rfl, rfl, F _⟩
          · simp (disch := omega) only [fLt_e, fBd_s, fJn_s, fNn_s, fNu_0, fNu_s, fBo_0, fBo_1, fBo_b, i_lit, i_neg1, nI_add, pk_mul, nI_clamp, fIx_n, Int32.lt_iff_toInt_lt, Int32.le_iff_toInt_le, ← Int32.toInt_inj, nI_toInt, mI_toInt, xI_0, xI_s, bI_t, bI_f, Nat.cast_ofNat, Int.ofNat_lt, Int.ofNat_le, Int.natCast_inj, Nat.not_lt_zero, Nat.succ_ne_zero, Nat.add_one_ne_zero, Nat.add_one_sub_one, Nat.zero_le, Nat.or_zero, Nat.zero_or, Bool.not_true, Bool.not_false, Bool.true_and, Bool.false_and, Bool.and_true, Bool.and_false, ↓reduceIte, if_true, if_false, not_true_eq_false, not_false_eq_true, true_and, and_true, false_and, and_false, and_self, true_or, or_true, false_or, or_false, Nat.reduceEqDiff, Nat.reduceLT, Nat.reduceLeDiff, Nat.reduceAdd, Nat.reduceMul, Nat.reduceSub, Nat.add_zero, Nat.zero_add, Nat.mul_zero, Nat.zero_mul, ne_eq, Bool.not_eq_true, Bool.not_eq_false, reduceCtorEq, decide_true, decide_false, decide_eq_true_eq, decide_eq_false_iff_not, Bool.false_eq_true, if_pos, if_neg, c1, d1, c7, d7, c4, d4, c5, d5, f_X11_refuse, f_X12_no]
            exact ⟨_, _, _, rfl, rfl, F _⟩
    · rw [inB_f.mpr (show ¬ (0 ≤ c.toInt ∧ c.toInt ≤ ((4 : Nat) : Int) - 1) by omega)]
      by_cases hb0 : c.toInt < 0
      · simp (disch := omega) only [fLt_e, fBd_s, fJn_s, fNn_s, fNu_0, fNu_s, fBo_0, fBo_1, fBo_b, i_lit, i_neg1, nI_add, pk_mul, nI_clamp, fIx_n, Int32.lt_iff_toInt_lt, Int32.le_iff_toInt_le, ← Int32.toInt_inj, nI_toInt, mI_toInt, xI_0, xI_s, bI_t, bI_f, Nat.cast_ofNat, Int.ofNat_lt, Int.ofNat_le, Int.natCast_inj, Nat.not_lt_zero, Nat.succ_ne_zero, Nat.add_one_ne_zero, Nat.add_one_sub_one, Nat.zero_le, Nat.or_zero, Nat.zero_or, Bool.not_true, Bool.not_false, Bool.true_and, Bool.false_and, Bool.and_true, Bool.and_false, ↓reduceIte, if_true, if_false, not_true_eq_false, not_false_eq_true, true_and, and_true, false_and, and_false, and_self, true_or, or_true, false_or, or_false, Nat.reduceEqDiff, Nat.reduceLT, Nat.reduceLeDiff, Nat.reduceAdd, Nat.reduceMul, Nat.reduceSub, Nat.add_zero, Nat.zero_add, Nat.mul_zero, Nat.zero_mul, ne_eq, Bool.not_eq_true, Bool.not_eq_false, reduceCtorEq, decide_true, decide_false, decide_eq_true_eq, decide_eq_false_iff_not, Bool.false_eq_true, if_pos, if_neg, f_X11_refuse, f_X12_no]
        exact ⟨_, _, _, rfl, rfl, F _⟩
      · simp (disch := omega) only [fLt_e, fBd_s, fJn_s, fNn_s, fNu_0, fNu_s, fBo_0, fBo_1, fBo_b, i_lit, i_neg1, nI_add, pk_mul, nI_clamp, fIx_n, Int32.lt_iff_toInt_lt, Int32.le_iff_toInt_le, ← Int32.toInt_inj, nI_toInt, mI_toInt, xI_0, xI_s, bI_t, bI_f, Nat.cast_ofNat, Int.ofNat_lt, Int.ofNat_le, Int.natCast_inj, Nat.not_lt_zero, Nat.succ_ne_zero, Nat.add_one_ne_zero, Nat.add_one_sub_one, Nat.zero_le, Nat.or_zero, Nat.zero_or, Bool.not_true, Bool.not_false, Bool.true_and, Bool.false_and, Bool.and_true, Bool.and_false, ↓reduceIte, if_true, if_false, not_true_eq_false, not_false_eq_true, true_and, and_true, false_and, and_false, and_self, true_or, or_true, false_or, or_false, Nat.reduceEqDiff, Nat.reduceLT, Nat.reduceLeDiff, Nat.reduceAdd, Nat.reduceMul, Nat.reduceSub, Nat.add_zero, Nat.zero_add, Nat.mul_zero, Nat.zero_mul, ne_eq, Bool.not_eq_true, Bool.not_eq_false, reduceCtorEq, decide_true, decide_false, decide_eq_true_eq, decide_eq_false_iff_not, Bool.false_eq_true, if_pos, if_neg, f_X11_refuse, f_X12_no]
        exact ⟨_, _, _, rfl, rfl, F _⟩
  · rw [inB_f.mpr (show ¬ (0 ≤ a.toInt ∧ a.toInt ≤ ((4 : Nat) : Int) - 1) by omega)]
    by_cases ha0 : a.toInt < 0
    · simp (disch := omega) only [fLt_e, fBd_s, fJn_s, fNn_s, fNu_0, fNu_s, fBo_0, fBo_1, fBo_b, i_lit, i_neg1, nI_add, pk_mul, nI_clamp, fIx_n, Int32.lt_iff_toInt_lt, Int32.le_iff_toInt_le, ← Int32.toInt_inj, nI_toInt, mI_toInt, xI_0, xI_s, bI_t, bI_f, Nat.cast_ofNat, Int.ofNat_lt, Int.ofNat_le, Int.natCast_inj, Nat.not_lt_zero, Nat.succ_ne_zero, Nat.add_one_ne_zero, Nat.add_one_sub_one, Nat.zero_le, Nat.or_zero, Nat.zero_or, Bool.not_true, Bool.not_false, Bool.true_and, Bool.false_and, Bool.and_true, Bool.and_false, ↓reduceIte, if_true, if_false, not_true_eq_false, not_false_eq_true, true_and, and_true, false_and, and_false, and_self, true_or, or_true, false_or, or_false, Nat.reduceEqDiff, Nat.reduceLT, Nat.reduceLeDiff, Nat.reduceAdd, Nat.reduceMul, Nat.reduceSub, Nat.add_zero, Nat.zero_add, Nat.mul_zero, Nat.zero_mul, ne_eq, Bool.not_eq_true, Bool.not_eq_false, reduceCtorEq, decide_true, decide_false, decide_eq_true_eq, decide_eq_false_iff_not, Bool.false_eq_true, if_pos, if_neg, f_X11_refuse, f_X12_no]
      exact ⟨_, _, _, rfl, rfl, F _⟩
    · simp (disch := omega) only [fLt_e, fBd_s, fJn_s, fNn_s, fNu_0, fNu_s, fBo_0, fBo_1, fBo_b, i_lit, i_neg1, nI_add, pk_mul, nI_clamp, fIx_n, Int32.lt_iff_toInt_lt, Int32.le_iff_toInt_le, ← Int32.toInt_inj, nI_toInt, mI_toInt, xI_0, xI_s, bI_t, bI_f, Nat.cast_ofNat, Int.ofNat_lt, Int.ofNat_le, Int.natCast_inj, Nat.not_lt_zero, Nat.succ_ne_zero, Nat.add_one_ne_zero, Nat.add_one_sub_one, Nat.zero_le, Nat.or_zero, Nat.zero_or, Bool.not_true, Bool.not_false, Bool.true_and, Bool.false_and, Bool.and_true, Bool.and_false, ↓reduceIte, if_true, if_false, not_true_eq_false, not_false_eq_true, true_and, and_true, false_and, and_false, and_self, true_or, or_true, false_or, or_false, Nat.reduceEqDiff, Nat.reduceLT, Nat.reduceLeDiff, Nat.reduceAdd, Nat.reduceMul, Nat.reduceSub, Nat.add_zero, Nat.zero_add, Nat.mul_zero, Nat.zero_mul, ne_eq, Bool.not_eq_true, Bool.not_eq_false, reduceCtorEq, decide_true, decide_false, decide_eq_true_eq, decide_eq_false_iff_not, Bool.false_eq_true, if_pos, if_neg, f_X11_refuse, f_X12_no]
      exact ⟨_, _, _, rfl, rfl, F _⟩
/-! layer 2: feed; what a scene, a kind is; what was told before -/
theorem by_bounds (x : Int8) : -128 ≤ x.toInt32.toInt ∧ x.toInt32.toInt ≤ 127 := by
  rw [Int8.toInt_toInt32]
  have h1 := Int8.le_toInt x
  have h2 := Int8.toInt_lt x
  omega
def bytO (a : Int32) (i : Nat) : Int32 := (a >>> (nI (24 - 8 * i) &&& nI 31)).toInt8.toInt32
theorem x_putFour {sc : fSt} {n : Nat} (a : Int32) (hn : n + 4 ≤ 900) (h : gI sc 5 0 2 = nI n) : ∃ s, f_X5_putFour a sc = some ((), s) ∧ kF (fun c => c ≠ 5) sc s ∧ gB s 5 0 2 = gB sc 5 0 2 ∧ gI s 5 0 2 = nI (n + 4) ∧ (∀ k, k < n → gA s 5 0 1 k = gA sc 5 0 1 k) ∧ ∀ i, i < 4 → gA s 5 0 1 (n + i) = bytO a i := by
  obtain ⟨m, hm⟩ := fF_s (n := 5) (by omega)
  have hF : fF = m + 1 + 1 + 1 + 1 + 1 + 1 := by omega
  unfold f_X5_putFour
  rw [hF]
  simp only [fLt_e, fJn_s, i_lit]
  have e8 : ∀ k : Nat, 8 ≤ k → nI k + -(nI 8) = nI (k - 8) := by
    intro k hk
    rw [← Int32.sub_eq_add_neg, pk_sub hk]
  have e9 : nI 0 + -(nI 8) < nI 0 := by decide
  rw [f_X5_putFour_L3]
  simp (disch := omega) only [fLt_e, fBd_s, fJn_s, fNn_s, fNu_0, fNu_s, fBo_0, fBo_1, fBo_b, Nat.not_lt_zero, Nat.succ_ne_zero, Nat.add_one_ne_zero, Nat.add_one_sub_one, Nat.zero_le, Nat.or_zero, Nat.zero_or, Bool.not_true, Bool.not_false, Bool.true_and, Bool.false_and, Bool.and_true, Bool.and_false, ↓reduceIte, if_true, if_false, not_true_eq_false, not_false_eq_true, true_and, and_true, false_and, and_false, and_self, true_or, or_true, false_or, or_false, Nat.reduceEqDiff, Nat.reduceLT, Nat.reduceLeDiff, Nat.reduceAdd, Nat.reduceMul, Nat.reduceSub, Nat.add_zero, Nat.zero_add, Nat.mul_zero, Nat.zero_mul, ne_eq, Bool.not_eq_true, Bool.not_eq_false, reduceCtorEq, decide_true, decide_false, decide_eq_true_eq, decide_eq_false_iff_not, Bool.false_eq_true, i_lit, i_neg1, nI_add, nI_clamp, fIx_n, i_le, i_lt, h, if_neg, gI_sI, gI_sA, e8]
  rw [f_X5_putFour_L3]
  simp (disch := omega) only [fLt_e, fBd_s, fJn_s, fNn_s, fNu_0, fNu_s, fBo_0, fBo_1, fBo_b, Nat.not_lt_zero, Nat.succ_ne_zero, Nat.add_one_ne_zero, Nat.add_one_sub_one, Nat.zero_le, Nat.or_zero, Nat.zero_or, Bool.not_true, Bool.not_false, Bool.true_and, Bool.false_and, Bool.and_true, Bool.and_false, ↓reduceIte, if_true, if_false, not_true_eq_false, not_false_eq_true, true_and, and_true, false_and, and_false, and_self, true_or, or_true, false_or, or_false, Nat.reduceEqDiff, Nat.reduceLT, Nat.reduceLeDiff, Nat.reduceAdd, Nat.reduceMul, Nat.reduceSub, Nat.add_zero, Nat.zero_add, Nat.mul_zero, Nat.zero_mul, ne_eq, Bool.not_eq_true, Bool.not_eq_false, reduceCtorEq, decide_true, decide_false, decide_eq_true_eq, decide_eq_false_iff_not, Bool.false_eq_true, i_lit, i_neg1, nI_add, nI_clamp, fIx_n, i_le, i_lt, h, if_neg, gI_sI, gI_sA, e8]
  rw [f_X5_putFour_L3]
  simp (disch := omega) only [fLt_e, fBd_s, fJn_s, fNn_s, fNu_0, fNu_s, fBo_0, fBo_1, fBo_b, Nat.not_lt_zero, Nat.succ_ne_zero, Nat.add_one_ne_zero, Nat.add_one_sub_one, Nat.zero_le, Nat.or_zero, Nat.zero_or, Bool.not_true, Bool.not_false, Bool.true_and, Bool.false_and, Bool.and_true, Bool.and_false, ↓reduceIte, if_true, if_false, not_true_eq_false, not_false_eq_true, true_and, and_true, false_and, and_false, and_self, true_or, or_true, false_or, or_false, Nat.reduceEqDiff, Nat.reduceLT, Nat.reduceLeDiff, Nat.reduceAdd, Nat.reduceMul, Nat.reduceSub, Nat.add_zero, Nat.zero_add, Nat.mul_zero, Nat.zero_mul, ne_eq, Bool.not_eq_true, Bool.not_eq_false, reduceCtorEq, decide_true, decide_false, decide_eq_true_eq, decide_eq_false_iff_not, Bool.false_eq_true, i_lit, i_neg1, nI_add, nI_clamp, fIx_n, i_le, i_lt, h, if_neg, gI_sI, gI_sA, e8]
  rw [f_X5_putFour_L3]
  simp (disch := omega) only [fLt_e, fBd_s, fJn_s, fNn_s, fNu_0, fNu_s, fBo_0, fBo_1, fBo_b, Nat.not_lt_zero, Nat.succ_ne_zero, Nat.add_one_ne_zero, Nat.add_one_sub_one, Nat.zero_le, Nat.or_zero, Nat.zero_or, Bool.not_true, Bool.not_false, Bool.true_and, Bool.false_and, Bool.and_true, Bool.and_false, ↓reduceIte, if_true, if_false, not_true_eq_false, not_false_eq_true, true_and, and_true, false_and, and_false, and_self, true_or, or_true, false_or, or_false, Nat.reduceEqDiff, Nat.reduceLT, Nat.reduceLeDiff, Nat.reduceAdd, Nat.reduceMul, Nat.reduceSub, Nat.add_zero, Nat.zero_add, Nat.mul_zero, Nat.zero_mul, ne_eq, Bool.not_eq_true, Bool.not_eq_false, reduceCtorEq, decide_true, decide_false, decide_eq_true_eq, decide_eq_false_iff_not, Bool.false_eq_true, i_lit, i_neg1, nI_add, nI_clamp, fIx_n, i_le, i_lt, h, if_neg, gI_sI, gI_sA, e8]
  rw [f_X5_putFour_L3]
  simp only [i_lit]
  rw [if_pos e9]
  refine ⟨_, rfl, ?_, rfl, ?_, fun k hk => ?_, fun i hi => ?_⟩
  · refine kF_A (by decide) (kF_I (by decide) (kF_A (by decide) (kF_I (by decide) (kF_A (by decide) (kF_I (by decide) (kF_A (by decide) (kF_I (by decide) (kF_rf sc))))))))
  · simp only [gI_sI, gI_sA, and_self, if_true]
  · simp only [gA_sA, gA_sI, and_self, if_true, upd_at]
    simp (disch := omega) only [if_neg]
  · simp only [gA_sA, gA_sI, and_self, if_true, upd_at, vp_nar_byte, pk_vb]
    rcases (show i = 0 ∨ i = 1 ∨ i = 2 ∨ i = 3 by omega) with rfl | rfl | rfl | rfl
    · simp (disch := omega) only [if_neg, if_pos]; rfl
    · simp (disch := omega) only [if_neg, if_pos]; rfl
    · simp (disch := omega) only [if_neg, if_pos]; rfl
    · simp (disch := omega) only [if_neg, if_pos]; rfl
theorem m_lay {sm : fSt} {n : Nat} (a : Int32) (hn : n + 4 ≤ 900) (h : gI sm 12 0 8 = nI n) : ∃ g, f_X12_lay a sm = some ((), sI (sA sm 12 0 4 g) 12 0 8 (nI (n + 4))) ∧ (∀ k, k < n → g k = gA sm 12 0 4 k) ∧ ∀ i, i < 4 → g (n + i) = bytO a i := by
  obtain ⟨m, hm⟩ := fF_s (n := 5) (by omega)
  have hF : fF = m + 1 + 1 + 1 + 1 + 1 + 1 := by omega
  have key : ∃ s, f_X12_lay a sm = some ((), s) ∧ s = sI (sA sm 12 0 4 (gA s 12 0 4)) 12 0 8 (nI (n + 4)) ∧ (∀ k, k < n → gA s 12 0 4 k = gA sm 12 0 4 k) ∧ ∀ i, i < 4 → gA s 12 0 4 (n + i) = bytO a i := by
    unfold f_X12_lay
    rw [hF]
    simp only [fLt_e, fJn_s, i_lit]
    have e8 : ∀ k : Nat, 1 ≤ k → nI k + mI = nI (k - 1) := by
      intro k hk
      obtain ⟨j, rfl⟩ : ∃ j, k = j + 1 := ⟨k - 1, by omega⟩
      exact pk_m1 j
    have e9 : nI 0 + mI < nI 0 := by decide
    rw [f_X12_lay_L2]
    simp (disch := omega) only [fLt_e, fBd_s, fJn_s, fNn_s, fNu_0, fNu_s, fBo_0, fBo_1, fBo_b, Nat.not_lt_zero, Nat.succ_ne_zero, Nat.add_one_ne_zero, Nat.add_one_sub_one, Nat.zero_le, Nat.or_zero, Nat.zero_or, Bool.not_true, Bool.not_false, Bool.true_and, Bool.false_and, Bool.and_true, Bool.and_false, ↓reduceIte, if_true, if_false, not_true_eq_false, not_false_eq_true, true_and, and_true, false_and, and_false, and_self, true_or, or_true, false_or, or_false, Nat.reduceEqDiff, Nat.reduceLT, Nat.reduceLeDiff, Nat.reduceAdd, Nat.reduceMul, Nat.reduceSub, Nat.add_zero, Nat.zero_add, Nat.mul_zero, Nat.zero_mul, ne_eq, Bool.not_eq_true, Bool.not_eq_false, reduceCtorEq, decide_true, decide_false, decide_eq_true_eq, decide_eq_false_iff_not, Bool.false_eq_true, i_lit, i_neg1, nI_add, nI_clamp, fIx_n, i_le, i_lt, h, if_neg, gI_sI, gI_sA, e8, pk_mul]
    rw [f_X12_lay_L2]
    simp (disch := omega) only [fLt_e, fBd_s, fJn_s, fNn_s, fNu_0, fNu_s, fBo_0, fBo_1, fBo_b, Nat.not_lt_zero, Nat.succ_ne_zero, Nat.add_one_ne_zero, Nat.add_one_sub_one, Nat.zero_le, Nat.or_zero, Nat.zero_or, Bool.not_true, Bool.not_false, Bool.true_and, Bool.false_and, Bool.and_true, Bool.and_false, ↓reduceIte, if_true, if_false, not_true_eq_false, not_false_eq_true, true_and, and_true, false_and, and_false, and_self, true_or, or_true, false_or, or_false, Nat.reduceEqDiff, Nat.reduceLT, Nat.reduceLeDiff, Nat.reduceAdd, Nat.reduceMul, Nat.reduceSub, Nat.add_zero, Nat.zero_add, Nat.mul_zero, Nat.zero_mul, ne_eq, Bool.not_eq_true, Bool.not_eq_false, reduceCtorEq, decide_true, decide_false, decide_eq_true_eq, decide_eq_false_iff_not, Bool.false_eq_true, i_lit, i_neg1, nI_add, nI_clamp, fIx_n, i_le, i_lt, h, if_neg, gI_sI, gI_sA, e8, pk_mul]
    rw [f_X12_lay_L2]
    simp (disch := omega) only [fLt_e, fBd_s, fJn_s, fNn_s, fNu_0, fNu_s, fBo_0, fBo_1, fBo_b, Nat.not_lt_zero, Nat.succ_ne_zero, Nat.add_one_ne_zero, Nat.add_one_sub_one, Nat.zero_le, Nat.or_zero, Nat.zero_or, Bool.not_true, Bool.not_false, Bool.true_and, Bool.false_and, Bool.and_true, Bool.and_false, ↓reduceIte, if_true, if_false, not_true_eq_false, not_false_eq_true, true_and, and_true, false_and, and_false, and_self, true_or, or_true, false_or, or_false, Nat.reduceEqDiff, Nat.reduceLT, Nat.reduceLeDiff, Nat.reduceAdd, Nat.reduceMul, Nat.reduceSub, Nat.add_zero, Nat.zero_add, Nat.mul_zero, Nat.zero_mul, ne_eq, Bool.not_eq_true, Bool.not_eq_false, reduceCtorEq, decide_true, decide_false, decide_eq_true_eq, decide_eq_false_iff_not, Bool.false_eq_true, i_lit, i_neg1, nI_add, nI_clamp, fIx_n, i_le, i_lt, h, if_neg, gI_sI, gI_sA, e8, pk_mul]
    rw [f_X12_lay_L2]
    simp (disch := omega) only [fLt_e, fBd_s, fJn_s, fNn_s, fNu_0, fNu_s, fBo_0, fBo_1, fBo_b, Nat.not_lt_zero, Nat.succ_ne_zero, Nat.add_one_ne_zero, Nat.add_one_sub_one, Nat.zero_le, Nat.or_zero, Nat.zero_or, Bool.not_true, Bool.not_false, Bool.true_and, Bool.false_and, Bool.and_true, Bool.and_false, ↓reduceIte, if_true, if_false, not_true_eq_false, not_false_eq_true, true_and, and_true, false_and, and_false, and_self, true_or, or_true, false_or, or_false, Nat.reduceEqDiff, Nat.reduceLT, Nat.reduceLeDiff, Nat.reduceAdd, Nat.reduceMul, Nat.reduceSub, Nat.add_zero, Nat.zero_add, Nat.mul_zero, Nat.zero_mul, ne_eq, Bool.not_eq_true, Bool.not_eq_false, reduceCtorEq, decide_true, decide_false, decide_eq_true_eq, decide_eq_false_iff_not, Bool.false_eq_true, i_lit, i_neg1, nI_add, nI_clamp, fIx_n, i_le, i_lt, h, if_neg, gI_sI, gI_sA, e8, pk_mul]
    rw [f_X12_lay_L2]
    simp only [i_lit, i_neg1]
    rw [if_pos e9]
    refine ⟨_, rfl, ?_, fun k hk => ?_, fun i hi => ?_⟩
    · apply st_ext
      · intro c i k
        simp only [gI_sI, gI_sA]
        split <;> rfl
      · intro c i k; rfl
      · intro c i k
        simp only [gA_sA, gA_sI]
        by_cases hc : c = 12 ∧ i = 0 ∧ k = 4
        · simp only [hc, and_self, if_true]
        · simp only [hc, if_false]
      · intro c i k; rfl
      · intro c i k; rfl
    · simp only [gA_sA, gA_sI, and_self, if_true, upd_at]
      simp (disch := omega) only [if_neg]
    · simp only [gA_sA, gA_sI, and_self, if_true, upd_at, vp_nar_byte, pk_vb]
      rcases (show i = 0 ∨ i = 1 ∨ i = 2 ∨ i = 3 by omega) with rfl | rfl | rfl | rfl
      · simp (disch := omega) only [if_neg, if_pos]; rfl
      · simp (disch := omega) only [if_neg, if_pos]; rfl
      · simp (disch := omega) only [if_neg, if_pos]; rfl
      · simp (disch := omega) only [if_neg, if_pos]; rfl
  obtain ⟨s, h1, h2, h3, h4⟩ := key
  exact ⟨gA s 12 0 4, by rw [h1, ← h2], h3, h4⟩
/-- the tape of both sides -/
def rTp (n : Nat) (sc sm : fSt) : Prop := gI sc 5 0 2 = nI n ∧ gI sm 12 0 8 = nI n ∧ ∀ k, k < n → gA sc 5 0 1 k = gA sm 12 0 4 k ∧ -128 ≤ (gA sm 12 0 4 k).toInt ∧ (gA sm 12 0 4 k).toInt ≤ 127
theorem feed4 {sc sm : fSt} {n : Nat} (a : Int32) (hn : n + 4 ≤ 900) (h : rTp n sc sm) : ∃ s g, f_X5_putFour a sc = some ((), s) ∧ f_X12_lay a sm = some ((), sI (sA sm 12 0 4 g) 12 0 8 (nI (n + 4))) ∧ kF (fun c => c ≠ 5) sc s ∧ gB s 5 0 2 = gB sc 5 0 2 ∧ rTp (n + 4) s (sI (sA sm 12 0 4 g) 12 0 8 (nI (n + 4))) := by
  obtain ⟨h1, h2, h3⟩ := h
  obtain ⟨s, e1, e2, e3, e4, e5, e6⟩ := x_putFour a hn h1
  obtain ⟨g, f1, f2, f3⟩ := m_lay a hn h2
  refine ⟨s, g, e1, f1, e2, e3, e4, gI_same _ _ _ _ _, fun k hk => ?_⟩
  rw [gA_sI, gA_same]
  by_cases hk2 : k < n
  · rw [e5 k hk2, f2 k hk2]
    exact h3 k hk2
  · obtain ⟨i, hi, rfl⟩ : ∃ i, i < 4 ∧ k = n + i := ⟨k - n, by omega, by omega⟩
    rw [e6 i hi, f3 i hi]
    exact ⟨rfl, by_bounds _⟩
theorem kF_tr {P : Nat → Prop} {a b c : fSt} (h : kF P a b) (g : kF P b c) : kF P a c := by
  intro k hp i j
  obtain ⟨h1, h2, h3, h4, h5⟩ := h k hp i j
  obtain ⟨g1, g2, g3, g4, g5⟩ := g k hp i j
  exact ⟨g1.trans h1, g2.trans h2, g3.trans h3, g4.trans h4, g5.trans h5⟩
/-- only the tape (and cells that nothing reads) is another one -/
theorem up_tape {sc sc' sm : fSt} {g : Nat → Int32} {n v : Nat} (H : RX sc sm) (h : kF (fun c => c ≠ 5) sc sc') (hb : gB sc' 5 0 2 = gB sc 5 0 2) (hn : n ≤ 900) (ht : rTp n sc' (sI (sA sm 12 0 4 g) 12 0 8 (nI v))) : RX sc' (sI (sA sm 12 0 4 g) 12 0 8 (nI v)) := by
  obtain ⟨h2, h3, h4, h5, h6, h7, h8, h9, h10⟩ := H
  have e11 := fun i k => (h 11 (by decide) i k).1
  have e11l := fun i k => (h 11 (by decide) i k).2.1
  have e11a := fun i k => (h 11 (by decide) i k).2.2.1
  have e8 := fun i k => (h 8 (by decide) i k).1
  have e8b := fun i k => (h 8 (by decide) i k).2.2.2.1
  have e1a := fun i k => (h 1 (by decide) i k).2.2.1
  have e10 := fun i k => (h 10 (by decide) i k).1
  have e4b := fun i k => (h 4 (by decide) i k).2.2.2.1
  refine ⟨?_, ?_, ?_, ⟨⟨n, hn, ht⟩, ?_⟩, ?_, ?_, ?_, ?_, ?_⟩
  · unfold rF at *; simp only [e11l]; exact h2
  · unfold rQ at *; simp only [e11]; exact h3
  · unfold rT at *; simp only [e8, e8b]; exact h4
  · intro k hk
    rw [hb]
    exact h5.2 k hk
  · unfold rS at *; simp only [e11, e11a]; exact h6
  · unfold rC at *; simp only [e1a]; exact h7
  · unfold rW at *; simp only [e10]; exact h8
  · unfold rO at *; simp only [e4b]; exact h9
  · refine rH_w (fun c hc i k => ?_) (e11 0 9) rfl rfl rfl h10
    have hp : c ≠ 5 := by rcases hc with rfl | rfl | rfl | rfl <;> decide
    obtain ⟨a1, a2, a3, a4, a5⟩ := h c hp i k
    exact ⟨a1, a3, a4, a5⟩
theorem tp_sets (sm : fSt) (g g' : Nat → Int32) (v v' : Int32) : sI (sA (sI (sA sm 12 0 4 g) 12 0 8 v) 12 0 4 g') 12 0 8 v' = sI (sA sm 12 0 4 g') 12 0 8 v' := by
  apply st_ext
  · intro c i k
    simp only [gI_sI, gI_sA]
    split <;> rfl
  · intro c i k; rfl
  · intro c i k
    simp only [gA_sA, gA_sI]
    split <;> rfl
  · intro c i k; rfl
  · intro c i k; rfl
theorem call_feed (a b c d e : Int32) : CALL (f_X11_feed a b c d e) (f_X12_feed a b c d e) := by
  intro sc sm ⟨hA, H⟩
  have H : RX sc (sI sm 12 0 1 0) := RX_e (cEq_rf _) (mEq_th _ _) H
  have hA : rA sc (sI sm 12 0 1 0) := hA
  unfold f_X11_feed f_X12_feed
  simp only [fLt_e]
  generalize sI sm 12 0 1 0 = s2 at *
  obtain ⟨n, hn, ht⟩ := H.2.2.2.1.1
  have t1 := ht.1
  have t2 := ht.2.1
  by_cases h20 : n + 20 ≤ 900
  · obtain ⟨x1, g1, a1, b1, c1, d1, r1⟩ := feed4 a (show n + 4 ≤ 900 by omega) (show rTp n sc s2 from ht)
    obtain ⟨x2, g2, a2, b2, c2, d2, r2⟩ := feed4 b (show n + 4 + 4 ≤ 900 by omega) r1
    obtain ⟨x3, g3, a3, b3, c3, d3, r3⟩ := feed4 c (show n + 4 + 4 + 4 ≤ 900 by omega) r2
    obtain ⟨x4, g4, a4, b4, c4, d4, r4⟩ := feed4 d (show n + 4 + 4 + 4 + 4 ≤ 900 by omega) r3
    obtain ⟨x5, g5, a5, b5, c5, d5, r5⟩ := feed4 e (show n + 4 + 4 + 4 + 4 + 4 ≤ 900 by omega) r4
    simp only [tp_sets] at b2 b3 b4 b5 r2 r3 r4 r5
    have q1 : nI n + (20 : Int32) ≤ (900 : Int32) := by
      simp only [i_lit, nI_add]
      exact nI_le (by omega) (by omega)
    rw [t1, t2, if_pos q1, if_pos q1, a1, fBd_s, a2, fBd_s, a3, fBd_s, a4, fBd_s, a5, fBd_s, b1, fBd_s, b2, fBd_s, b3, fBd_s, b4, fBd_s, b5, fBd_s]
    refine ⟨nI (n + 4 + 4 + 4 + 4 + 4), _, _, by rw [r5.1], rfl, RR_of (up_tape H (kF_tr c1 (kF_tr c2 (kF_tr c3 (kF_tr c4 c5)))) (by rw [d5, d4, d3, d2, d1]) (by omega) r5) ?_⟩
    have k := (kF_tr c1 (kF_tr c2 (kF_tr c3 (kF_tr c4 c5)))) 11 (by decide) 0 2
    rw [k.1]
    exact hA
  · have q1 : ¬ nI n + (20 : Int32) ≤ (900 : Int32) := by
      simp only [i_lit, nI_add]
      exact nI_ge (by omega) (by omega)
    rw [t1, t2, if_neg q1, if_neg q1]
    exact ⟨_, _, _, rfl, rfl, RR_of H hA⟩
-- a scene
theorem m_told_0 (st : fSt) : f_X12_told mI st = some (mI, sI st 12 0 0 (nI 8)) := by
  unfold f_X12_told f_X12_refuse
  simp (disch := omega) only [fLt_e, fBd_s, fJn_s, fNn_s, fNu_0, fNu_s, fBo_0, fBo_1, fBo_b, i_lit, i_neg1, nI_add, pk_mul, nI_clamp, i_le, i_lt, i_eq, fIx_n, nI_mI, mI_nI, mI_lt, nI_lt_m, mI_le, nI_le_m, xI_0, xI_s, bI_0, bI_1, bI_t, bI_f, n_31, j_bit, j_one, i_and, i_or, Nat.not_lt_zero, Nat.succ_ne_zero, Nat.add_one_ne_zero, Nat.add_one_sub_one, Nat.zero_le, Nat.or_zero, Nat.zero_or, Bool.not_true, Bool.not_false, Bool.true_and, Bool.false_and, Bool.and_true, Bool.and_false, ↓reduceIte, if_true, if_false, not_true_eq_false, not_false_eq_true, true_and, and_true, false_and, and_false, and_self, true_or, or_true, false_or, or_false, Nat.reduceEqDiff, Nat.reduceLT, Nat.reduceLeDiff, Nat.reduceAdd, Nat.reduceMul, Nat.reduceSub, Nat.add_zero, Nat.zero_add, Nat.mul_zero, Nat.zero_mul, ne_eq, Bool.not_eq_true, Bool.not_eq_false, reduceCtorEq, decide_true, decide_false, decide_eq_true_eq, decide_eq_false_iff_not, Bool.false_eq_true, if_pos, if_neg]
theorem m_told_s {v : Nat} (hv : v < 2 ^ 31) (st : fSt) : f_X12_told (nI v) st = some (nI v, st) := by
  unfold f_X12_told f_X12_refuse
  simp (disch := omega) only [fLt_e, fBd_s, fJn_s, fNn_s, fNu_0, fNu_s, fBo_0, fBo_1, fBo_b, i_lit, i_neg1, nI_add, pk_mul, nI_clamp, i_le, i_lt, i_eq, fIx_n, nI_mI, mI_nI, mI_lt, nI_lt_m, mI_le, nI_le_m, xI_0, xI_s, bI_0, bI_1, bI_t, bI_f, n_31, j_bit, j_one, i_and, i_or, Nat.not_lt_zero, Nat.succ_ne_zero, Nat.add_one_ne_zero, Nat.add_one_sub_one, Nat.zero_le, Nat.or_zero, Nat.zero_or, Bool.not_true, Bool.not_false, Bool.true_and, Bool.false_and, Bool.and_true, Bool.and_false, ↓reduceIte, if_true, if_false, not_true_eq_false, not_false_eq_true, true_and, and_true, false_and, and_false, and_self, true_or, or_true, false_or, or_false, Nat.reduceEqDiff, Nat.reduceLT, Nat.reduceLeDiff, Nat.reduceAdd, Nat.reduceMul, Nat.reduceSub, Nat.add_zero, Nat.zero_add, Nat.mul_zero, Nat.zero_mul, ne_eq, Bool.not_eq_true, Bool.not_eq_false, reduceCtorEq, decide_true, decide_false, decide_eq_true_eq, decide_eq_false_iff_not, Bool.false_eq_true, if_pos, if_neg]
theorem call_scene (a b : Int32) : CALL (f_X11_scene a b) (f_X12_scene a b) := by
  intro sc sm ⟨hA, H⟩
  have H := pro_x H
  have z := pro_0 sm
  unfold f_X11_scene f_X12_scene
  simp only [fLt_e, pro_eq]
  generalize pro sm = s2 at *
  obtain ⟨q, G, w, X, B, -⟩ := RX_cur H
  have w1 := w.1
  rw [x_hasScene X w, m_isSceneAt B w]
  have F := fin_0 H z
  have F8 := fin_st H (nI 8)
  cases hb : inB a.toInt 0 (G 2 - 1)
  · simp only [fLt_e, fBd_s, fJn_s, fNn_s, fNu_0, fNu_s, fBo_0, fBo_1, fBo_b, i_lit, i_neg1, nI_add, pk_mul, nI_clamp, i_le, i_lt, i_eq, fIx_n, nI_mI, mI_nI, mI_lt, nI_lt_m, mI_le, nI_le_m, xI_0, xI_s, bI_0, bI_1, bI_t, bI_f, n_31, j_bit, j_one, i_and, i_or, Nat.not_lt_zero, Nat.succ_ne_zero, Nat.add_one_ne_zero, Nat.add_one_sub_one, Nat.zero_le, Nat.or_zero, Nat.zero_or, Bool.not_true, Bool.not_false, Bool.true_and, Bool.false_and, Bool.and_true, Bool.and_false, ↓reduceIte, if_true, if_false, not_true_eq_false, not_false_eq_true, true_and, and_true, false_and, and_false, and_self, true_or, or_true, false_or, or_false, Nat.reduceEqDiff, Nat.reduceLT, Nat.reduceLeDiff, Nat.reduceAdd, Nat.reduceMul, Nat.reduceSub, Nat.add_zero, Nat.zero_add, Nat.mul_zero, Nat.zero_mul, ne_eq, Bool.not_eq_true, Bool.not_eq_false, reduceCtorEq, decide_true, decide_false, decide_eq_true_eq, decide_eq_false_iff_not, Bool.false_eq_true, if_pos, if_neg, f_X11_fail, f_X12_refuse]
    exact ⟨_, _, _, rfl, rfl, fin_st H _⟩
  · have hb := inB_t.mp hb
    obtain ⟨s, hs, rfl, -⟩ := nI_ofInt (n := G 2) hb.1 (by omega)
    have i0 : (0 : Int32).toInt = 0 := rfl
    have i8 : (8 : Int32).toInt = 8 := rfl
    simp only [fBd_s, fLt_e, fJn_s, x_isIn, i0, i8]
    by_cases hc : 0 ≤ b.toInt ∧ b.toInt ≤ 8
    · obtain ⟨j, hj, rfl, -⟩ := nI_ofInt (n := 9) hc.1 (by omega)
      rw [inB_t.mpr hc]
      have ww := w.2.2.2.1 s hs
      obtain ⟨b0, b1, b2, b3, b4, b5, b6, b7⟩ := B.2.2.1 s hs
      obtain ⟨c0, c1, c2, c3, c4, c5, c6, c7⟩ := X.2.1.2.2.1 s hs
      have o1 := w_pl w hs
      have o2 := gbr_le w hs
      have i3 : (3 : Int32).toInt = 3 := rfl
      have i6 : (6 : Int32).toInt = 6 := rfl
      unfold f_X7_ofScene
      rcases (show j = 0 ∨ j = 1 ∨ j = 2 ∨ j = 3 ∨ j = 4 ∨ j = 5 ∨ j = 6 ∨ j = 7 ∨ j = 8 by omega) with rfl | rfl | rfl | rfl | rfl | rfl | rfl | rfl | rfl
      · simp (disch := omega) only [fLt_e, fBd_s, fJn_s, fNn_s, fNu_0, fNu_s, fBo_0, fBo_1, fBo_b, i_lit, i_neg1, nI_add, pk_mul, nI_clamp, i_le, i_lt, i_eq, fIx_n, nI_mI, mI_nI, mI_lt, nI_lt_m, mI_le, nI_le_m, xI_0, xI_s, bI_0, bI_1, bI_t, bI_f, n_31, j_bit, j_one, i_and, i_or, Nat.not_lt_zero, Nat.succ_ne_zero, Nat.add_one_ne_zero, Nat.add_one_sub_one, Nat.zero_le, Nat.or_zero, Nat.zero_or, Bool.not_true, Bool.not_false, Bool.true_and, Bool.false_and, Bool.and_true, Bool.and_false, ↓reduceIte, if_true, if_false, not_true_eq_false, not_false_eq_true, true_and, and_true, false_and, and_false, and_self, true_or, or_true, false_or, or_false, Nat.reduceEqDiff, Nat.reduceLT, Nat.reduceLeDiff, Nat.reduceAdd, Nat.reduceMul, Nat.reduceSub, Nat.add_zero, Nat.zero_add, Nat.mul_zero, Nat.zero_mul, ne_eq, Bool.not_eq_true, Bool.not_eq_false, reduceCtorEq, decide_true, decide_false, decide_eq_true_eq, decide_eq_false_iff_not, Bool.false_eq_true, if_pos, if_neg, X.1, b0, c0, f_X11_answer, f_X11_fail]
        exact ⟨_, _, _, rfl, rfl, F⟩
      · simp (disch := omega) only [fLt_e, fBd_s, fJn_s, fNn_s, fNu_0, fNu_s, fBo_0, fBo_1, fBo_b, i_lit, i_neg1, nI_add, pk_mul, nI_clamp, i_le, i_lt, i_eq, fIx_n, nI_mI, mI_nI, mI_lt, nI_lt_m, mI_le, nI_le_m, xI_0, xI_s, bI_0, bI_1, bI_t, bI_f, n_31, j_bit, j_one, i_and, i_or, Nat.not_lt_zero, Nat.succ_ne_zero, Nat.add_one_ne_zero, Nat.add_one_sub_one, Nat.zero_le, Nat.or_zero, Nat.zero_or, Bool.not_true, Bool.not_false, Bool.true_and, Bool.false_and, Bool.and_true, Bool.and_false, ↓reduceIte, if_true, if_false, not_true_eq_false, not_false_eq_true, true_and, and_true, false_and, and_false, and_self, true_or, or_true, false_or, or_false, Nat.reduceEqDiff, Nat.reduceLT, Nat.reduceLeDiff, Nat.reduceAdd, Nat.reduceMul, Nat.reduceSub, Nat.add_zero, Nat.zero_add, Nat.mul_zero, Nat.zero_mul, ne_eq, Bool.not_eq_true, Bool.not_eq_false, reduceCtorEq, decide_true, decide_false, decide_eq_true_eq, decide_eq_false_iff_not, Bool.false_eq_true, if_pos, if_neg, X.1, b1, c1, f_X11_answer, f_X11_fail]
        exact ⟨_, _, _, rfl, rfl, F⟩
      · cases hv : G (49 + s) with
        | zero =>
          simp (disch := omega) only [fLt_e, fBd_s, fJn_s, fNn_s, fNu_0, fNu_s, fBo_0, fBo_1, fBo_b, i_lit, i_neg1, nI_add, pk_mul, nI_clamp, i_le, i_lt, i_eq, fIx_n, nI_mI, mI_nI, mI_lt, nI_lt_m, mI_le, nI_le_m, xI_0, xI_s, bI_0, bI_1, bI_t, bI_f, n_31, j_bit, j_one, i_and, i_or, Nat.not_lt_zero, Nat.succ_ne_zero, Nat.add_one_ne_zero, Nat.add_one_sub_one, Nat.zero_le, Nat.or_zero, Nat.zero_or, Bool.not_true, Bool.not_false, Bool.true_and, Bool.false_and, Bool.and_true, Bool.and_false, ↓reduceIte, if_true, if_false, not_true_eq_false, not_false_eq_true, true_and, and_true, false_and, and_false, and_self, true_or, or_true, false_or, or_false, Nat.reduceEqDiff, Nat.reduceLT, Nat.reduceLeDiff, Nat.reduceAdd, Nat.reduceMul, Nat.reduceSub, Nat.add_zero, Nat.zero_add, Nat.mul_zero, Nat.zero_mul, ne_eq, Bool.not_eq_true, Bool.not_eq_false, reduceCtorEq, decide_true, decide_false, decide_eq_true_eq, decide_eq_false_iff_not, Bool.false_eq_true, if_pos, if_neg, X.1, b2, c2, hv, f_X11_answer, f_X11_fail, m_told_0]
          exact ⟨_, _, _, rfl, rfl, F8⟩
        | succ v =>
          simp (disch := omega) only [fLt_e, fBd_s, fJn_s, fNn_s, fNu_0, fNu_s, fBo_0, fBo_1, fBo_b, i_lit, i_neg1, nI_add, pk_mul, nI_clamp, i_le, i_lt, i_eq, fIx_n, nI_mI, mI_nI, mI_lt, nI_lt_m, mI_le, nI_le_m, xI_0, xI_s, bI_0, bI_1, bI_t, bI_f, n_31, j_bit, j_one, i_and, i_or, Nat.not_lt_zero, Nat.succ_ne_zero, Nat.add_one_ne_zero, Nat.add_one_sub_one, Nat.zero_le, Nat.or_zero, Nat.zero_or, Bool.not_true, Bool.not_false, Bool.true_and, Bool.false_and, Bool.and_true, Bool.and_false, ↓reduceIte, if_true, if_false, not_true_eq_false, not_false_eq_true, true_and, and_true, false_and, and_false, and_self, true_or, or_true, false_or, or_false, Nat.reduceEqDiff, Nat.reduceLT, Nat.reduceLeDiff, Nat.reduceAdd, Nat.reduceMul, Nat.reduceSub, Nat.add_zero, Nat.zero_add, Nat.mul_zero, Nat.zero_mul, ne_eq, Bool.not_eq_true, Bool.not_eq_false, reduceCtorEq, decide_true, decide_false, decide_eq_true_eq, decide_eq_false_iff_not, Bool.false_eq_true, if_pos, if_neg, X.1, b2, c2, hv, f_X11_answer, f_X11_fail, m_told_s]
          exact ⟨_, _, _, rfl, rfl, F⟩
      · have e : nI (s * 4 + 3) - nI 3 = nI (s * 4) := pk_sub (by omega)
        rw [x_isIn, inB_t.mpr (by rw [nI_toInt (by omega), i3, i6]; omega)]
        cases hv : G (61 + s) with
        | zero =>
          simp (disch := omega) only [fLt_e, fBd_s, fJn_s, fNn_s, fNu_0, fNu_s, fBo_0, fBo_1, fBo_b, i_lit, i_neg1, nI_add, pk_mul, nI_clamp, i_le, i_lt, i_eq, fIx_n, nI_mI, mI_nI, mI_lt, nI_lt_m, mI_le, nI_le_m, xI_0, xI_s, bI_0, bI_1, bI_t, bI_f, n_31, j_bit, j_one, i_and, i_or, Nat.not_lt_zero, Nat.succ_ne_zero, Nat.add_one_ne_zero, Nat.add_one_sub_one, Nat.zero_le, Nat.or_zero, Nat.zero_or, Bool.not_true, Bool.not_false, Bool.true_and, Bool.false_and, Bool.and_true, Bool.and_false, ↓reduceIte, if_true, if_false, not_true_eq_false, not_false_eq_true, true_and, and_true, false_and, and_false, and_self, true_or, or_true, false_or, or_false, Nat.reduceEqDiff, Nat.reduceLT, Nat.reduceLeDiff, Nat.reduceAdd, Nat.reduceMul, Nat.reduceSub, Nat.add_zero, Nat.zero_add, Nat.mul_zero, Nat.zero_mul, ne_eq, Bool.not_eq_true, Bool.not_eq_false, reduceCtorEq, decide_true, decide_false, decide_eq_true_eq, decide_eq_false_iff_not, Bool.false_eq_true, if_pos, if_neg, X.1, b3, c3, hv, e, f_X11_answer, f_X11_fail, m_told_0]
          exact ⟨_, _, _, rfl, rfl, F8⟩
        | succ v =>
          simp (disch := omega) only [fLt_e, fBd_s, fJn_s, fNn_s, fNu_0, fNu_s, fBo_0, fBo_1, fBo_b, i_lit, i_neg1, nI_add, pk_mul, nI_clamp, i_le, i_lt, i_eq, fIx_n, nI_mI, mI_nI, mI_lt, nI_lt_m, mI_le, nI_le_m, xI_0, xI_s, bI_0, bI_1, bI_t, bI_f, n_31, j_bit, j_one, i_and, i_or, Nat.not_lt_zero, Nat.succ_ne_zero, Nat.add_one_ne_zero, Nat.add_one_sub_one, Nat.zero_le, Nat.or_zero, Nat.zero_or, Bool.not_true, Bool.not_false, Bool.true_and, Bool.false_and, Bool.and_true, Bool.and_false, ↓reduceIte, if_true, if_false, not_true_eq_false, not_false_eq_true, true_and, and_true, false_and, and_false, and_self, true_or, or_true, false_or, or_false, Nat.reduceEqDiff, Nat.reduceLT, Nat.reduceLeDiff, Nat.reduceAdd, Nat.reduceMul, Nat.reduceSub, Nat.add_zero, Nat.zero_add, Nat.mul_zero, Nat.zero_mul, ne_eq, Bool.not_eq_true, Bool.not_eq_false, reduceCtorEq, decide_true, decide_false, decide_eq_true_eq, decide_eq_false_iff_not, Bool.false_eq_true, if_pos, if_neg, X.1, b3, c3, hv, e, f_X11_answer, f_X11_fail, m_told_s]
          exact ⟨_, _, _, rfl, rfl, F⟩
      · have e : nI (s * 4 + 4) - nI 3 = nI (s * 4 + 1) := pk_sub (by omega)
        rw [x_isIn, inB_t.mpr (by rw [nI_toInt (by omega), i3, i6]; omega)]
        cases hv : G (73 + s) with
        | zero =>
          simp (disch := omega) only [fLt_e, fBd_s, fJn_s, fNn_s, fNu_0, fNu_s, fBo_0, fBo_1, fBo_b, i_lit, i_neg1, nI_add, pk_mul, nI_clamp, i_le, i_lt, i_eq, fIx_n, nI_mI, mI_nI, mI_lt, nI_lt_m, mI_le, nI_le_m, xI_0, xI_s, bI_0, bI_1, bI_t, bI_f, n_31, j_bit, j_one, i_and, i_or, Nat.not_lt_zero, Nat.succ_ne_zero, Nat.add_one_ne_zero, Nat.add_one_sub_one, Nat.zero_le, Nat.or_zero, Nat.zero_or, Bool.not_true, Bool.not_false, Bool.true_and, Bool.false_and, Bool.and_true, Bool.and_false, ↓reduceIte, if_true, if_false, not_true_eq_false, not_false_eq_true, true_and, and_true, false_and, and_false, and_self, true_or, or_true, false_or, or_false, Nat.reduceEqDiff, Nat.reduceLT, Nat.reduceLeDiff, Nat.reduceAdd, Nat.reduceMul, Nat.reduceSub, Nat.add_zero, Nat.zero_add, Nat.mul_zero, Nat.zero_mul, ne_eq, Bool.not_eq_true, Bool.not_eq_false, reduceCtorEq, decide_true, decide_false, decide_eq_true_eq, decide_eq_false_iff_not, Bool.false_eq_true, if_pos, if_neg, X.1, b4, c4, hv, e, f_X11_answer, f_X11_fail, m_told_0]
          exact ⟨_, _, _, rfl, rfl, F8⟩
        | succ v =>
          simp (disch := omega) only [fLt_e, fBd_s, fJn_s, fNn_s, fNu_0, fNu_s, fBo_0, fBo_1, fBo_b, i_lit, i_neg1, nI_add, pk_mul, nI_clamp, i_le, i_lt, i_eq, fIx_n, nI_mI, mI_nI, mI_lt, nI_lt_m, mI_le, nI_le_m, xI_0, xI_s, bI_0, bI_1, bI_t, bI_f, n_31, j_bit, j_one, i_and, i_or, Nat.not_lt_zero, Nat.succ_ne_zero, Nat.add_one_ne_zero, Nat.add_one_sub_one, Nat.zero_le, Nat.or_zero, Nat.zero_or, Bool.not_true, Bool.not_false, Bool.true_and, Bool.false_and, Bool.and_true, Bool.and_false, ↓reduceIte, if_true, if_false, not_true_eq_false, not_false_eq_true, true_and, and_true, false_and, and_false, and_self, true_or, or_true, false_or, or_false, Nat.reduceEqDiff, Nat.reduceLT, Nat.reduceLeDiff, Nat.reduceAdd, Nat.reduceMul, Nat.reduceSub, Nat.add_zero, Nat.zero_add, Nat.mul_zero, Nat.zero_mul, ne_eq, Bool.not_eq_true, Bool.not_eq_false, reduceCtorEq, decide_true, decide_false, decide_eq_true_eq, decide_eq_false_iff_not, Bool.false_eq_true, if_pos, if_neg, X.1, b4, c4, hv, e, f_X11_answer, f_X11_fail, m_told_s]
          exact ⟨_, _, _, rfl, rfl, F⟩
      · have e : nI (s * 4 + 5) - nI 3 = nI (s * 4 + 2) := pk_sub (by omega)
        rw [x_isIn, inB_t.mpr (by rw [nI_toInt (by omega), i3, i6]; omega)]
        cases hv : G (85 + s) with
        | zero =>
          simp (disch := omega) only [fLt_e, fBd_s, fJn_s, fNn_s, fNu_0, fNu_s, fBo_0, fBo_1, fBo_b, i_lit, i_neg1, nI_add, pk_mul, nI_clamp, i_le, i_lt, i_eq, fIx_n, nI_mI, mI_nI, mI_lt, nI_lt_m, mI_le, nI_le_m, xI_0, xI_s, bI_0, bI_1, bI_t, bI_f, n_31, j_bit, j_one, i_and, i_or, Nat.not_lt_zero, Nat.succ_ne_zero, Nat.add_one_ne_zero, Nat.add_one_sub_one, Nat.zero_le, Nat.or_zero, Nat.zero_or, Bool.not_true, Bool.not_false, Bool.true_and, Bool.false_and, Bool.and_true, Bool.and_false, ↓reduceIte, if_true, if_false, not_true_eq_false, not_false_eq_true, true_and, and_true, false_and, and_false, and_self, true_or, or_true, false_or, or_false, Nat.reduceEqDiff, Nat.reduceLT, Nat.reduceLeDiff, Nat.reduceAdd, Nat.reduceMul, Nat.reduceSub, Nat.add_zero, Nat.zero_add, Nat.mul_zero, Nat.zero_mul, ne_eq, Bool.not_eq_true, Bool.not_eq_false, reduceCtorEq, decide_true, decide_false, decide_eq_true_eq, decide_eq_false_iff_not, Bool.false_eq_true, if_pos, if_neg, X.1, b5, c5, hv, e, f_X11_answer, f_X11_fail, m_told_0]
          exact ⟨_, _, _, rfl, rfl, F8⟩
        | succ v =>
          simp (disch := omega) only [fLt_e, fBd_s, fJn_s, fNn_s, fNu_0, fNu_s, fBo_0, fBo_1, fBo_b, i_lit, i_neg1, nI_add, pk_mul, nI_clamp, i_le, i_lt, i_eq, fIx_n, nI_mI, mI_nI, mI_lt, nI_lt_m, mI_le, nI_le_m, xI_0, xI_s, bI_0, bI_1, bI_t, bI_f, n_31, j_bit, j_one, i_and, i_or, Nat.not_lt_zero, Nat.succ_ne_zero, Nat.add_one_ne_zero, Nat.add_one_sub_one, Nat.zero_le, Nat.or_zero, Nat.zero_or, Bool.not_true, Bool.not_false, Bool.true_and, Bool.false_and, Bool.and_true, Bool.and_false, ↓reduceIte, if_true, if_false, not_true_eq_false, not_false_eq_true, true_and, and_true, false_and, and_false, and_self, true_or, or_true, false_or, or_false, Nat.reduceEqDiff, Nat.reduceLT, Nat.reduceLeDiff, Nat.reduceAdd, Nat.reduceMul, Nat.reduceSub, Nat.add_zero, Nat.zero_add, Nat.mul_zero, Nat.zero_mul, ne_eq, Bool.not_eq_true, Bool.not_eq_false, reduceCtorEq, decide_true, decide_false, decide_eq_true_eq, decide_eq_false_iff_not, Bool.false_eq_true, if_pos, if_neg, X.1, b5, c5, hv, e, f_X11_answer, f_X11_fail, m_told_s]
          exact ⟨_, _, _, rfl, rfl, F⟩
      · have e : nI (s * 4 + 6) - nI 3 = nI (s * 4 + 3) := pk_sub (by omega)
        rw [x_isIn, inB_t.mpr (by rw [nI_toInt (by omega), i3, i6]; omega)]
        cases hv : G (97 + s) with
        | zero =>
          simp (disch := omega) only [fLt_e, fBd_s, fJn_s, fNn_s, fNu_0, fNu_s, fBo_0, fBo_1, fBo_b, i_lit, i_neg1, nI_add, pk_mul, nI_clamp, i_le, i_lt, i_eq, fIx_n, nI_mI, mI_nI, mI_lt, nI_lt_m, mI_le, nI_le_m, xI_0, xI_s, bI_0, bI_1, bI_t, bI_f, n_31, j_bit, j_one, i_and, i_or, Nat.not_lt_zero, Nat.succ_ne_zero, Nat.add_one_ne_zero, Nat.add_one_sub_one, Nat.zero_le, Nat.or_zero, Nat.zero_or, Bool.not_true, Bool.not_false, Bool.true_and, Bool.false_and, Bool.and_true, Bool.and_false, ↓reduceIte, if_true, if_false, not_true_eq_false, not_false_eq_true, true_and, and_true, false_and, and_false, and_self, true_or, or_true, false_or, or_false, Nat.reduceEqDiff, Nat.reduceLT, Nat.reduceLeDiff, Nat.reduceAdd, Nat.reduceMul, Nat.reduceSub, Nat.add_zero, Nat.zero_add, Nat.mul_zero, Nat.zero_mul, ne_eq, Bool.not_eq_true, Bool.not_eq_false, reduceCtorEq, decide_true, decide_false, decide_eq_true_eq, decide_eq_false_iff_not, Bool.false_eq_true, if_pos, if_neg, X.1, b6, c6, hv, e, f_X11_answer, f_X11_fail, m_told_0]
          exact ⟨_, _, _, rfl, rfl, F8⟩
        | succ v =>
          simp (disch := omega) only [fLt_e, fBd_s, fJn_s, fNn_s, fNu_0, fNu_s, fBo_0, fBo_1, fBo_b, i_lit, i_neg1, nI_add, pk_mul, nI_clamp, i_le, i_lt, i_eq, fIx_n, nI_mI, mI_nI, mI_lt, nI_lt_m, mI_le, nI_le_m, xI_0, xI_s, bI_0, bI_1, bI_t, bI_f, n_31, j_bit, j_one, i_and, i_or, Nat.not_lt_zero, Nat.succ_ne_zero, Nat.add_one_ne_zero, Nat.add_one_sub_one, Nat.zero_le, Nat.or_zero, Nat.zero_or, Bool.not_true, Bool.not_false, Bool.true_and, Bool.false_and, Bool.and_true, Bool.and_false, ↓reduceIte, if_true, if_false, not_true_eq_false, not_false_eq_true, true_and, and_true, false_and, and_false, and_self, true_or, or_true, false_or, or_false, Nat.reduceEqDiff, Nat.reduceLT, Nat.reduceLeDiff, Nat.reduceAdd, Nat.reduceMul, Nat.reduceSub, Nat.add_zero, Nat.zero_add, Nat.mul_zero, Nat.zero_mul, ne_eq, Bool.not_eq_true, Bool.not_eq_false, reduceCtorEq, decide_true, decide_false, decide_eq_true_eq, decide_eq_false_iff_not, Bool.false_eq_true, if_pos, if_neg, X.1, b6, c6, hv, e, f_X11_answer, f_X11_fail, m_told_s]
          exact ⟨_, _, _, rfl, rfl, F⟩
      · cases hv : G (109 + s) with
        | zero =>
          simp (disch := omega) only [fLt_e, fBd_s, fJn_s, fNn_s, fNu_0, fNu_s, fBo_0, fBo_1, fBo_b, i_lit, i_neg1, nI_add, pk_mul, nI_clamp, i_le, i_lt, i_eq, fIx_n, nI_mI, mI_nI, mI_lt, nI_lt_m, mI_le, nI_le_m, xI_0, xI_s, bI_0, bI_1, bI_t, bI_f, n_31, j_bit, j_one, i_and, i_or, Nat.not_lt_zero, Nat.succ_ne_zero, Nat.add_one_ne_zero, Nat.add_one_sub_one, Nat.zero_le, Nat.or_zero, Nat.zero_or, Bool.not_true, Bool.not_false, Bool.true_and, Bool.false_and, Bool.and_true, Bool.and_false, ↓reduceIte, if_true, if_false, not_true_eq_false, not_false_eq_true, true_and, and_true, false_and, and_false, and_self, true_or, or_true, false_or, or_false, Nat.reduceEqDiff, Nat.reduceLT, Nat.reduceLeDiff, Nat.reduceAdd, Nat.reduceMul, Nat.reduceSub, Nat.add_zero, Nat.zero_add, Nat.mul_zero, Nat.zero_mul, ne_eq, Bool.not_eq_true, Bool.not_eq_false, reduceCtorEq, decide_true, decide_false, decide_eq_true_eq, decide_eq_false_iff_not, Bool.false_eq_true, if_pos, if_neg, X.1, b7, c7, hv, f_X11_answer, f_X11_fail, m_told_0]
          exact ⟨_, _, _, rfl, rfl, F8⟩
        | succ v =>
          simp (disch := omega) only [fLt_e, fBd_s, fJn_s, fNn_s, fNu_0, fNu_s, fBo_0, fBo_1, fBo_b, i_lit, i_neg1, nI_add, pk_mul, nI_clamp, i_le, i_lt, i_eq, fIx_n, nI_mI, mI_nI, mI_lt, nI_lt_m, mI_le, nI_le_m, xI_0, xI_s, bI_0, bI_1, bI_t, bI_f, n_31, j_bit, j_one, i_and, i_or, Nat.not_lt_zero, Nat.succ_ne_zero, Nat.add_one_ne_zero, Nat.add_one_sub_one, Nat.zero_le, Nat.or_zero, Nat.zero_or, Bool.not_true, Bool.not_false, Bool.true_and, Bool.false_and, Bool.and_true, Bool.and_false, ↓reduceIte, if_true, if_false, not_true_eq_false, not_false_eq_true, true_and, and_true, false_and, and_false, and_self, true_or, or_true, false_or, or_false, Nat.reduceEqDiff, Nat.reduceLT, Nat.reduceLeDiff, Nat.reduceAdd, Nat.reduceMul, Nat.reduceSub, Nat.add_zero, Nat.zero_add, Nat.mul_zero, Nat.zero_mul, ne_eq, Bool.not_eq_true, Bool.not_eq_false, reduceCtorEq, decide_true, decide_false, decide_eq_true_eq, decide_eq_false_iff_not, Bool.false_eq_true, if_pos, if_neg, X.1, b7, c7, hv, f_X11_answer, f_X11_fail, m_told_s]
          exact ⟨_, _, _, rfl, rfl, F⟩
      · simp (disch := omega) only [fLt_e, fBd_s, fJn_s, fNn_s, fNu_0, fNu_s, fBo_0, fBo_1, fBo_b, i_lit, i_neg1, nI_add, pk_mul, nI_clamp, i_le, i_lt, i_eq, fIx_n, nI_mI, mI_nI, mI_lt, nI_lt_m, mI_le, nI_le_m, xI_0, xI_s, bI_0, bI_1, bI_t, bI_f, n_31, j_bit, j_one, i_and, i_or, Nat.not_lt_zero, Nat.succ_ne_zero, Nat.add_one_ne_zero, Nat.add_one_sub_one, Nat.zero_le, Nat.or_zero, Nat.zero_or, Bool.not_true, Bool.not_false, Bool.true_and, Bool.false_and, Bool.and_true, Bool.and_false, ↓reduceIte, if_true, if_false, not_true_eq_false, not_false_eq_true, true_and, and_true, false_and, and_false, and_self, true_or, or_true, false_or, or_false, Nat.reduceEqDiff, Nat.reduceLT, Nat.reduceLeDiff, Nat.reduceAdd, Nat.reduceMul, Nat.reduceSub, Nat.add_zero, Nat.zero_add, Nat.mul_zero, Nat.zero_mul, ne_eq, Bool.not_eq_true, Bool.not_eq_false, reduceCtorEq, decide_true, decide_false, decide_eq_true_eq, decide_eq_false_iff_not, Bool.false_eq_true, if_pos, if_neg, X.1, x_breathsOfScene X.2.1 w hs, m_breathsOf B w hs, f_X11_answer, f_X11_fail]
        exact ⟨_, _, _, rfl, rfl, F⟩
    · rw [inB_f.mpr hc]
      have hne : ∀ j : Nat, j < 9 → (b = nI j) = False := fun j hj => eq_false (fun h => by subst h; rw [nI_toInt (by omega)] at hc; omega)
      simp (disch := omega) only [fLt_e, fBd_s, fJn_s, fNn_s, fNu_0, fNu_s, fBo_0, fBo_1, fBo_b, i_lit, i_neg1, nI_add, pk_mul, nI_clamp, i_le, i_lt, i_eq, fIx_n, nI_mI, mI_nI, mI_lt, nI_lt_m, mI_le, nI_le_m, xI_0, xI_s, bI_0, bI_1, bI_t, bI_f, n_31, j_bit, j_one, i_and, i_or, Nat.not_lt_zero, Nat.succ_ne_zero, Nat.add_one_ne_zero, Nat.add_one_sub_one, Nat.zero_le, Nat.or_zero, Nat.zero_or, Bool.not_true, Bool.not_false, Bool.true_and, Bool.false_and, Bool.and_true, Bool.and_false, ↓reduceIte, if_true, if_false, not_true_eq_false, not_false_eq_true, true_and, and_true, false_and, and_false, and_self, true_or, or_true, false_or, or_false, Nat.reduceEqDiff, Nat.reduceLT, Nat.reduceLeDiff, Nat.reduceAdd, Nat.reduceMul, Nat.reduceSub, Nat.add_zero, Nat.zero_add, Nat.mul_zero, Nat.zero_mul, ne_eq, Bool.not_eq_true, Bool.not_eq_false, reduceCtorEq, decide_true, decide_false, decide_eq_true_eq, decide_eq_false_iff_not, Bool.false_eq_true, if_pos, if_neg, hne, f_X11_fail, f_X12_refuse]
      exact ⟨_, _, _, rfl, rfl, fin_st H _⟩
theorem call_kind (a b : Int32) : CALL (f_X11_kind a b) (f_X12_kind a b) := by
  intro sc sm ⟨hA, H⟩
  have H := pro_x H
  have z := pro_0 sm
  unfold f_X11_kind f_X12_kind
  simp only [fLt_e, pro_eq]
  generalize pro sm = s2 at *
  obtain ⟨q, G, w, X, B, -⟩ := RX_cur H
  have w1 := w.1
  rw [x_hasKind X w, m_isKindAt B w]
  have F := fin_0 H z
  cases hb : inB a.toInt 0 (G 3 - 1)
  · simp only [fLt_e, fBd_s, fJn_s, fNn_s, fNu_0, fNu_s, fBo_0, fBo_1, fBo_b, i_lit, i_neg1, nI_add, pk_mul, nI_clamp, i_le, i_lt, i_eq, fIx_n, nI_mI, mI_nI, mI_lt, nI_lt_m, mI_le, nI_le_m, xI_0, xI_s, bI_0, bI_1, bI_t, bI_f, n_31, j_bit, j_one, i_and, i_or, Nat.not_lt_zero, Nat.succ_ne_zero, Nat.add_one_ne_zero, Nat.add_one_sub_one, Nat.zero_le, Nat.or_zero, Nat.zero_or, Bool.not_true, Bool.not_false, Bool.true_and, Bool.false_and, Bool.and_true, Bool.and_false, ↓reduceIte, if_true, if_false, not_true_eq_false, not_false_eq_true, true_and, and_true, false_and, and_false, and_self, true_or, or_true, false_or, or_false, Nat.reduceEqDiff, Nat.reduceLT, Nat.reduceLeDiff, Nat.reduceAdd, Nat.reduceMul, Nat.reduceSub, Nat.add_zero, Nat.zero_add, Nat.mul_zero, Nat.zero_mul, ne_eq, Bool.not_eq_true, Bool.not_eq_false, reduceCtorEq, decide_true, decide_false, decide_eq_true_eq, decide_eq_false_iff_not, Bool.false_eq_true, if_pos, if_neg, f_X11_fail, f_X12_refuse]
    exact ⟨_, _, _, rfl, rfl, fin_st H _⟩
  · have hb := inB_t.mp hb
    obtain ⟨s, hs, rfl, -⟩ := nI_ofInt (n := G 3) hb.1 (by omega)
    have i0 : (0 : Int32).toInt = 0 := rfl
    have i3 : (3 : Int32).toInt = 3 := rfl
    simp only [fBd_s, fLt_e, fJn_s, x_isIn, i0, i3]
    by_cases hc : 0 ≤ b.toInt ∧ b.toInt ≤ 3
    · obtain ⟨j, hj, rfl, -⟩ := nI_ofInt (n := 4) hc.1 (by omega)
      rw [inB_t.mpr hc]
      obtain ⟨b0, b1, b2, b3⟩ := B.2.2.2.1 s hs
      obtain ⟨c0, c1, c2, c3, c4⟩ := X.2.1.2.2.2 s hs
      rcases (show j = 0 ∨ j = 1 ∨ j = 2 ∨ j = 3 by omega) with rfl | rfl | rfl | rfl
      · simp (disch := omega) only [fLt_e, fBd_s, fJn_s, fNn_s, fNu_0, fNu_s, fBo_0, fBo_1, fBo_b, i_lit, i_neg1, nI_add, pk_mul, nI_clamp, i_le, i_lt, i_eq, fIx_n, nI_mI, mI_nI, mI_lt, nI_lt_m, mI_le, nI_le_m, xI_0, xI_s, bI_0, bI_1, bI_t, bI_f, n_31, j_bit, j_one, i_and, i_or, Nat.not_lt_zero, Nat.succ_ne_zero, Nat.add_one_ne_zero, Nat.add_one_sub_one, Nat.zero_le, Nat.or_zero, Nat.zero_or, Bool.not_true, Bool.not_false, Bool.true_and, Bool.false_and, Bool.and_true, Bool.and_false, ↓reduceIte, if_true, if_false, not_true_eq_false, not_false_eq_true, true_and, and_true, false_and, and_false, and_self, true_or, or_true, false_or, or_false, Nat.reduceEqDiff, Nat.reduceLT, Nat.reduceLeDiff, Nat.reduceAdd, Nat.reduceMul, Nat.reduceSub, Nat.add_zero, Nat.zero_add, Nat.mul_zero, Nat.zero_mul, ne_eq, Bool.not_eq_true, Bool.not_eq_false, reduceCtorEq, decide_true, decide_false, decide_eq_true_eq, decide_eq_false_iff_not, Bool.false_eq_true, if_pos, if_neg, X.1, b0, c0, f_X11_answer, f_X11_fail]
        exact ⟨_, _, _, rfl, rfl, F⟩
      · simp (disch := omega) only [fLt_e, fBd_s, fJn_s, fNn_s, fNu_0, fNu_s, fBo_0, fBo_1, fBo_b, i_lit, i_neg1, nI_add, pk_mul, nI_clamp, i_le, i_lt, i_eq, fIx_n, nI_mI, mI_nI, mI_lt, nI_lt_m, mI_le, nI_le_m, xI_0, xI_s, bI_0, bI_1, bI_t, bI_f, n_31, j_bit, j_one, i_and, i_or, Nat.not_lt_zero, Nat.succ_ne_zero, Nat.add_one_ne_zero, Nat.add_one_sub_one, Nat.zero_le, Nat.or_zero, Nat.zero_or, Bool.not_true, Bool.not_false, Bool.true_and, Bool.false_and, Bool.and_true, Bool.and_false, ↓reduceIte, if_true, if_false, not_true_eq_false, not_false_eq_true, true_and, and_true, false_and, and_false, and_self, true_or, or_true, false_or, or_false, Nat.reduceEqDiff, Nat.reduceLT, Nat.reduceLeDiff, Nat.reduceAdd, Nat.reduceMul, Nat.reduceSub, Nat.add_zero, Nat.zero_add, Nat.mul_zero, Nat.zero_mul, ne_eq, Bool.not_eq_true, Bool.not_eq_false, reduceCtorEq, decide_true, decide_false, decide_eq_true_eq, decide_eq_false_iff_not, Bool.false_eq_true, if_pos, if_neg, X.1, b1, c2, f_X11_answer, f_X11_fail]
        exact ⟨_, _, _, rfl, rfl, F⟩
      · simp (disch := omega) only [fLt_e, fBd_s, fJn_s, fNn_s, fNu_0, fNu_s, fBo_0, fBo_1, fBo_b, i_lit, i_neg1, nI_add, pk_mul, nI_clamp, i_le, i_lt, i_eq, fIx_n, nI_mI, mI_nI, mI_lt, nI_lt_m, mI_le, nI_le_m, xI_0, xI_s, bI_0, bI_1, bI_t, bI_f, n_31, j_bit, j_one, i_and, i_or, Nat.not_lt_zero, Nat.succ_ne_zero, Nat.add_one_ne_zero, Nat.add_one_sub_one, Nat.zero_le, Nat.or_zero, Nat.zero_or, Bool.not_true, Bool.not_false, Bool.true_and, Bool.false_and, Bool.and_true, Bool.and_false, ↓reduceIte, if_true, if_false, not_true_eq_false, not_false_eq_true, true_and, and_true, false_and, and_false, and_self, true_or, or_true, false_or, or_false, Nat.reduceEqDiff, Nat.reduceLT, Nat.reduceLeDiff, Nat.reduceAdd, Nat.reduceMul, Nat.reduceSub, Nat.add_zero, Nat.zero_add, Nat.mul_zero, Nat.zero_mul, ne_eq, Bool.not_eq_true, Bool.not_eq_false, reduceCtorEq, decide_true, decide_false, decide_eq_true_eq, decide_eq_false_iff_not, Bool.false_eq_true, if_pos, if_neg, X.1, b2, c3, f_X11_answer, f_X11_fail]
        exact ⟨_, _, _, rfl, rfl, F⟩
      · simp (disch := omega) only [fLt_e, fBd_s, fJn_s, fNn_s, fNu_0, fNu_s, fBo_0, fBo_1, fBo_b, i_lit, i_neg1, nI_add, pk_mul, nI_clamp, i_le, i_lt, i_eq, fIx_n, nI_mI, mI_nI, mI_lt, nI_lt_m, mI_le, nI_le_m, xI_0, xI_s, bI_0, bI_1, bI_t, bI_f, n_31, j_bit, j_one, i_and, i_or, Nat.not_lt_zero, Nat.succ_ne_zero, Nat.add_one_ne_zero, Nat.add_one_sub_one, Nat.zero_le, Nat.or_zero, Nat.zero_or, Bool.not_true, Bool.not_false, Bool.true_and, Bool.false_and, Bool.and_true, Bool.and_false, ↓reduceIte, if_true, if_false, not_true_eq_false, not_false_eq_true, true_and, and_true, false_and, and_false, and_self, true_or, or_true, false_or, or_false, Nat.reduceEqDiff, Nat.reduceLT, Nat.reduceLeDiff, Nat.reduceAdd, Nat.reduceMul, Nat.reduceSub, Nat.add_zero, Nat.zero_add, Nat.mul_zero, Nat.zero_mul, ne_eq, Bool.not_eq_true, Bool.not_eq_false, reduceCtorEq, decide_true, decide_false, decide_eq_true_eq, decide_eq_false_iff_not, Bool.false_eq_true, if_pos, if_neg, X.1, b3, c4, f_X11_answer, f_X11_fail]
        exact ⟨_, _, _, rfl, rfl, F⟩
    · rw [inB_f.mpr hc]
      have hne : ∀ j : Nat, j < 4 → (b = nI j) = False := fun j hj => eq_false (fun h => by subst h; rw [nI_toInt (by omega)] at hc; omega)
      simp (disch := omega) only [fLt_e, fBd_s, fJn_s, fNn_s, fNu_0, fNu_s, fBo_0, fBo_1, fBo_b, i_lit, i_neg1, nI_add, pk_mul, nI_clamp, i_le, i_lt, i_eq, fIx_n, nI_mI, mI_nI, mI_lt, nI_lt_m, mI_le, nI_le_m, xI_0, xI_s, bI_0, bI_1, bI_t, bI_f, n_31, j_bit, j_one, i_and, i_or, Nat.not_lt_zero, Nat.succ_ne_zero, Nat.add_one_ne_zero, Nat.add_one_sub_one, Nat.zero_le, Nat.or_zero, Nat.zero_or, Bool.not_true, Bool.not_false, Bool.true_and, Bool.false_and, Bool.and_true, Bool.and_false, ↓reduceIte, if_true, if_false, not_true_eq_false, not_false_eq_true, true_and, and_true, false_and, and_false, and_self, true_or, or_true, false_or, or_false, Nat.reduceEqDiff, Nat.reduceLT, Nat.reduceLeDiff, Nat.reduceAdd, Nat.reduceMul, Nat.reduceSub, Nat.add_zero, Nat.zero_add, Nat.mul_zero, Nat.zero_mul, ne_eq, Bool.not_eq_true, Bool.not_eq_false, reduceCtorEq, decide_true, decide_false, decide_eq_true_eq, decide_eq_false_iff_not, Bool.false_eq_true, if_pos, if_neg, hne, f_X11_fail, f_X12_refuse]
      exact ⟨_, _, _, rfl, rfl, fin_st H _⟩
theorem call_steerAt (a : Int32) : CALL (f_X11_steerAt a) (f_X12_steerAt a) := by
  intro sc sm ⟨hA, H⟩
  have H := pro_x H
  have z := pro_0 sm
  unfold f_X11_steerAt f_X12_steerAt
  simp only [fLt_e, pro_eq]
  generalize pro sm = s2 at *
  obtain ⟨n, hn, e1, e2, e3⟩ := H.2.2.2.2.1
  rw [e1, e2, show (1 : Int32) = nI 1 from rfl, show (0 : Int64) = lN 0 from rfl, show lN 0 = (0 : Int64) from rfl, x_isBelow _ _ (by omega), m_isIn_n _ _ (by omega)]
  have F := fin_0 H z
  cases hb : inB a.toInt 0 (n - 1)
  · simp (disch := omega) only [fLt_e, fBd_s, fJn_s, fNn_s, fNu_0, fNu_s, fBo_0, fBo_1, fBo_b, i_lit, i_neg1, nI_add, pk_mul, nI_clamp, i_le, i_lt, i_eq, fIx_n, nI_mI, mI_nI, mI_lt, nI_lt_m, mI_le, nI_le_m, xI_0, xI_s, bI_0, bI_1, bI_t, bI_f, n_31, j_bit, j_one, i_and, i_or, Nat.not_lt_zero, Nat.succ_ne_zero, Nat.add_one_ne_zero, Nat.add_one_sub_one, Nat.zero_le, Nat.or_zero, Nat.zero_or, Bool.not_true, Bool.not_false, Bool.true_and, Bool.false_and, Bool.and_true, Bool.and_false, ↓reduceIte, if_true, if_false, not_true_eq_false, not_false_eq_true, true_and, and_true, false_and, and_false, and_self, true_or, or_true, false_or, or_false, Nat.reduceEqDiff, Nat.reduceLT, Nat.reduceLeDiff, Nat.reduceAdd, Nat.reduceMul, Nat.reduceSub, Nat.add_zero, Nat.zero_add, Nat.mul_zero, Nat.zero_mul, ne_eq, Bool.not_eq_true, Bool.not_eq_false, reduceCtorEq, decide_true, decide_false, decide_eq_true_eq, decide_eq_false_iff_not, Bool.false_eq_true, if_pos, if_neg, f_X11_fail, f_X12_refuse]
    exact ⟨_, _, _, rfl, rfl, fin_st H _⟩
  · have hb := inB_t.mp hb
    obtain ⟨s, hs, rfl, -⟩ := nI_ofInt (n := n) hb.1 (by omega)
    simp (disch := omega) only [fLt_e, fBd_s, fJn_s, fNn_s, fNu_0, fNu_s, fBo_0, fBo_1, fBo_b, i_lit, i_neg1, nI_add, pk_mul, nI_clamp, i_le, i_lt, i_eq, fIx_n, nI_mI, mI_nI, mI_lt, nI_lt_m, mI_le, nI_le_m, xI_0, xI_s, bI_0, bI_1, bI_t, bI_f, n_31, j_bit, j_one, i_and, i_or, Nat.not_lt_zero, Nat.succ_ne_zero, Nat.add_one_ne_zero, Nat.add_one_sub_one, Nat.zero_le, Nat.or_zero, Nat.zero_or, Bool.not_true, Bool.not_false, Bool.true_and, Bool.false_and, Bool.and_true, Bool.and_false, ↓reduceIte, if_true, if_false, not_true_eq_false, not_false_eq_true, true_and, and_true, false_and, and_false, and_self, true_or, or_true, false_or, or_false, Nat.reduceEqDiff, Nat.reduceLT, Nat.reduceLeDiff, Nat.reduceAdd, Nat.reduceMul, Nat.reduceSub, Nat.add_zero, Nat.zero_add, Nat.mul_zero, Nat.zero_mul, ne_eq, Bool.not_eq_true, Bool.not_eq_false, reduceCtorEq, decide_true, decide_false, decide_eq_true_eq, decide_eq_false_iff_not, Bool.false_eq_true, if_pos, if_neg, f_X11_answer, e3 s hs]
    exact ⟨_, _, _, rfl, rfl, F⟩
theorem call_castAt (a : Int32) : CALL (f_X11_castAt a) (f_X12_castAt a) := by
  intro sc sm ⟨hA, H⟩
  have H := pro_x H
  have z := pro_0 sm
  unfold f_X11_castAt f_X12_castAt
  simp only [fLt_e, pro_eq]
  generalize pro sm = s2 at *
  have F := fin_0 H z
  have F8 := fin_st H (nI 8)
  have hC := H.2.2.2.2.2.1
  have j0 : (0 : Int64).toInt = 0 := rfl
  have j5 : (5 : Int64).toInt = 5 := rfl
  rw [show (6 : Int32) = nI 6 from rfl, x_isBelow _ _ (by omega), m_isIn_c, j0, j5]
  by_cases hb : 0 ≤ a.toInt ∧ a.toInt ≤ 5
  · rw [inB_t.mpr hb, inB_t.mpr (show 0 ≤ a.toInt ∧ a.toInt ≤ ((6 : Nat) : Int) - 1 by omega)]
    obtain ⟨s, hs, rfl, -⟩ := nI_ofInt (n := 6) hb.1 (by omega)
    rcases hC with ⟨c1, c2⟩ | ⟨c1, c2⟩
    · simp (disch := omega) only [fLt_e, fBd_s, fJn_s, fNn_s, fNu_0, fNu_s, fBo_0, fBo_1, fBo_b, i_lit, i_neg1, nI_add, pk_mul, nI_clamp, i_le, i_lt, i_eq, fIx_n, nI_mI, mI_nI, mI_lt, nI_lt_m, mI_le, nI_le_m, xI_0, xI_s, bI_0, bI_1, bI_t, bI_f, n_31, j_bit, j_one, i_and, i_or, Nat.not_lt_zero, Nat.succ_ne_zero, Nat.add_one_ne_zero, Nat.add_one_sub_one, Nat.zero_le, Nat.or_zero, Nat.zero_or, Bool.not_true, Bool.not_false, Bool.true_and, Bool.false_and, Bool.and_true, Bool.and_false, ↓reduceIte, if_true, if_false, not_true_eq_false, not_false_eq_true, true_and, and_true, false_and, and_false, and_self, true_or, or_true, false_or, or_false, Nat.reduceEqDiff, Nat.reduceLT, Nat.reduceLeDiff, Nat.reduceAdd, Nat.reduceMul, Nat.reduceSub, Nat.add_zero, Nat.zero_add, Nat.mul_zero, Nat.zero_mul, ne_eq, Bool.not_eq_true, Bool.not_eq_false, reduceCtorEq, decide_true, decide_false, decide_eq_true_eq, decide_eq_false_iff_not, Bool.false_eq_true, if_pos, if_neg, f_X11_fail, f_X12_refuse, c1, c2 s hs]
      exact ⟨_, _, _, rfl, rfl, F8⟩
    · obtain ⟨p, hp, d1, d2⟩ := c2 s hs
      cases p with
      | zero =>
        simp (disch := omega) only [fLt_e, fBd_s, fJn_s, fNn_s, fNu_0, fNu_s, fBo_0, fBo_1, fBo_b, i_lit, i_neg1, nI_add, pk_mul, nI_clamp, i_le, i_lt, i_eq, fIx_n, nI_mI, mI_nI, mI_lt, nI_lt_m, mI_le, nI_le_m, xI_0, xI_s, bI_0, bI_1, bI_t, bI_f, n_31, j_bit, j_one, i_and, i_or, Nat.not_lt_zero, Nat.succ_ne_zero, Nat.add_one_ne_zero, Nat.add_one_sub_one, Nat.zero_le, Nat.or_zero, Nat.zero_or, Bool.not_true, Bool.not_false, Bool.true_and, Bool.false_and, Bool.and_true, Bool.and_false, ↓reduceIte, if_true, if_false, not_true_eq_false, not_false_eq_true, true_and, and_true, false_and, and_false, and_self, true_or, or_true, false_or, or_false, Nat.reduceEqDiff, Nat.reduceLT, Nat.reduceLeDiff, Nat.reduceAdd, Nat.reduceMul, Nat.reduceSub, Nat.add_zero, Nat.zero_add, Nat.mul_zero, Nat.zero_mul, ne_eq, Bool.not_eq_true, Bool.not_eq_false, reduceCtorEq, decide_true, decide_false, decide_eq_true_eq, decide_eq_false_iff_not, Bool.false_eq_true, if_pos, if_neg, f_X11_fail, f_X12_refuse, c1, d1, d2]
        exact ⟨_, _, _, rfl, rfl, F8⟩
      | succ p =>
        simp (disch := omega) only [fLt_e, fBd_s, fJn_s, fNn_s, fNu_0, fNu_s, fBo_0, fBo_1, fBo_b, i_lit, i_neg1, nI_add, pk_mul, nI_clamp, i_le, i_lt, i_eq, fIx_n, nI_mI, mI_nI, mI_lt, nI_lt_m, mI_le, nI_le_m, xI_0, xI_s, bI_0, bI_1, bI_t, bI_f, n_31, j_bit, j_one, i_and, i_or, Nat.not_lt_zero, Nat.succ_ne_zero, Nat.add_one_ne_zero, Nat.add_one_sub_one, Nat.zero_le, Nat.or_zero, Nat.zero_or, Bool.not_true, Bool.not_false, Bool.true_and, Bool.false_and, Bool.and_true, Bool.and_false, ↓reduceIte, if_true, if_false, not_true_eq_false, not_false_eq_true, true_and, and_true, false_and, and_false, and_self, true_or, or_true, false_or, or_false, Nat.reduceEqDiff, Nat.reduceLT, Nat.reduceLeDiff, Nat.reduceAdd, Nat.reduceMul, Nat.reduceSub, Nat.add_zero, Nat.zero_add, Nat.mul_zero, Nat.zero_mul, ne_eq, Bool.not_eq_true, Bool.not_eq_false, reduceCtorEq, decide_true, decide_false, decide_eq_true_eq, decide_eq_false_iff_not, Bool.false_eq_true, if_pos, if_neg, f_X11_answer, c1, d1, d2]
        exact ⟨_, _, _, rfl, rfl, F⟩
  · rw [inB_f.mpr hb, inB_f.mpr (show ¬ (0 ≤ a.toInt ∧ a.toInt ≤ ((6 : Nat) : Int) - 1) by omega)]
    simp (disch := omega) only [fLt_e, fBd_s, fJn_s, fNn_s, fNu_0, fNu_s, fBo_0, fBo_1, fBo_b, i_lit, i_neg1, nI_add, pk_mul, nI_clamp, i_le, i_lt, i_eq, fIx_n, nI_mI, mI_nI, mI_lt, nI_lt_m, mI_le, nI_le_m, xI_0, xI_s, bI_0, bI_1, bI_t, bI_f, n_31, j_bit, j_one, i_and, i_or, Nat.not_lt_zero, Nat.succ_ne_zero, Nat.add_one_ne_zero, Nat.add_one_sub_one, Nat.zero_le, Nat.or_zero, Nat.zero_or, Bool.not_true, Bool.not_false, Bool.true_and, Bool.false_and, Bool.and_true, Bool.and_false, ↓reduceIte, if_true, if_false, not_true_eq_false, not_false_eq_true, true_and, and_true, false_and, and_false, and_self, true_or, or_true, false_or, or_false, Nat.reduceEqDiff, Nat.reduceLT, Nat.reduceLeDiff, Nat.reduceAdd, Nat.reduceMul, Nat.reduceSub, Nat.add_zero, Nat.zero_add, Nat.mul_zero, Nat.zero_mul, ne_eq, Bool.not_eq_true, Bool.not_eq_false, reduceCtorEq, decide_true, decide_false, decide_eq_true_eq, decide_eq_false_iff_not, Bool.false_eq_true, if_pos, if_neg, f_X11_fail, f_X12_refuse]
    exact ⟨_, _, _, rfl, rfl, fin_st H _⟩
theorem call_ran (a : Int32) : CALL (f_X11_ran a) (f_X12_ran a) := by
  intro sc sm ⟨hA, H⟩
  have H := pro_x H
  have z := pro_0 sm
  unfold f_X11_ran f_X12_ran
  simp only [fLt_e, pro_eq]
  generalize pro sm = s2 at *
  have F := fin_0 H z
  have F8 := fin_st H (nI 8)
  have hW := H.2.2.2.2.2.2.1
  have j0 : (0 : Int64).toInt = 0 := rfl
  have j4 : (4 : Int64).toInt = 4 := rfl
  have i0 : (0 : Int32).toInt = 0 := rfl
  have i4 : (4 : Int32).toInt = 4 := rfl
  rw [x_isIn, m_isIn_c, j0, j4, i0, i4]
  by_cases hb : 0 ≤ a.toInt ∧ a.toInt ≤ 4
  · rw [inB_t.mpr hb]
    obtain ⟨s, hs, rfl, -⟩ := nI_ofInt (n := 5) hb.1 (by omega)
    rcases hW with ⟨c1, c2⟩ | ⟨c1, c2, c3, c4, c5, c6, c7⟩
    · simp (disch := omega) only [fLt_e, fBd_s, fJn_s, fNn_s, fNu_0, fNu_s, fBo_0, fBo_1, fBo_b, i_lit, i_neg1, nI_add, pk_mul, nI_clamp, i_le, i_lt, i_eq, fIx_n, nI_mI, mI_nI, mI_lt, nI_lt_m, mI_le, nI_le_m, xI_0, xI_s, bI_0, bI_1, bI_t, bI_f, n_31, j_bit, j_one, i_and, i_or, Nat.not_lt_zero, Nat.succ_ne_zero, Nat.add_one_ne_zero, Nat.add_one_sub_one, Nat.zero_le, Nat.or_zero, Nat.zero_or, Bool.not_true, Bool.not_false, Bool.true_and, Bool.false_and, Bool.and_true, Bool.and_false, ↓reduceIte, if_true, if_false, not_true_eq_false, not_false_eq_true, true_and, and_true, false_and, and_false, and_self, true_or, or_true, false_or, or_false, Nat.reduceEqDiff, Nat.reduceLT, Nat.reduceLeDiff, Nat.reduceAdd, Nat.reduceMul, Nat.reduceSub, Nat.add_zero, Nat.zero_add, Nat.mul_zero, Nat.zero_mul, ne_eq, Bool.not_eq_true, Bool.not_eq_false, reduceCtorEq, decide_true, decide_false, decide_eq_true_eq, decide_eq_false_iff_not, Bool.false_eq_true, if_pos, if_neg, f_X11_fail, f_X12_refuse, c1, c2]
      exact ⟨_, _, _, rfl, rfl, F8⟩
    · unfold f_X10_told
      rcases (show s = 0 ∨ s = 1 ∨ s = 2 ∨ s = 3 ∨ s = 4 by omega) with rfl | rfl | rfl | rfl | rfl
      · simp (disch := omega) only [fLt_e, fBd_s, fJn_s, fNn_s, fNu_0, fNu_s, fBo_0, fBo_1, fBo_b, i_lit, i_neg1, nI_add, pk_mul, nI_clamp, i_le, i_lt, i_eq, fIx_n, nI_mI, mI_nI, mI_lt, nI_lt_m, mI_le, nI_le_m, xI_0, xI_s, bI_0, bI_1, bI_t, bI_f, n_31, j_bit, j_one, i_and, i_or, Nat.not_lt_zero, Nat.succ_ne_zero, Nat.add_one_ne_zero, Nat.add_one_sub_one, Nat.zero_le, Nat.or_zero, Nat.zero_or, Bool.not_true, Bool.not_false, Bool.true_and, Bool.false_and, Bool.and_true, Bool.and_false, ↓reduceIte, if_true, if_false, not_true_eq_false, not_false_eq_true, true_and, and_true, false_and, and_false, and_self, true_or, or_true, false_or, or_false, Nat.reduceEqDiff, Nat.reduceLT, Nat.reduceLeDiff, Nat.reduceAdd, Nat.reduceMul, Nat.reduceSub, Nat.add_zero, Nat.zero_add, Nat.mul_zero, Nat.zero_mul, ne_eq, Bool.not_eq_true, Bool.not_eq_false, reduceCtorEq, decide_true, decide_false, decide_eq_true_eq, decide_eq_false_iff_not, Bool.false_eq_true, if_pos, if_neg, f_X11_answer, c1, c2, c3]
        exact ⟨_, _, _, rfl, rfl, F⟩
      · simp (disch := omega) only [fLt_e, fBd_s, fJn_s, fNn_s, fNu_0, fNu_s, fBo_0, fBo_1, fBo_b, i_lit, i_neg1, nI_add, pk_mul, nI_clamp, i_le, i_lt, i_eq, fIx_n, nI_mI, mI_nI, mI_lt, nI_lt_m, mI_le, nI_le_m, xI_0, xI_s, bI_0, bI_1, bI_t, bI_f, n_31, j_bit, j_one, i_and, i_or, Nat.not_lt_zero, Nat.succ_ne_zero, Nat.add_one_ne_zero, Nat.add_one_sub_one, Nat.zero_le, Nat.or_zero, Nat.zero_or, Bool.not_true, Bool.not_false, Bool.true_and, Bool.false_and, Bool.and_true, Bool.and_false, ↓reduceIte, if_true, if_false, not_true_eq_false, not_false_eq_true, true_and, and_true, false_and, and_false, and_self, true_or, or_true, false_or, or_false, Nat.reduceEqDiff, Nat.reduceLT, Nat.reduceLeDiff, Nat.reduceAdd, Nat.reduceMul, Nat.reduceSub, Nat.add_zero, Nat.zero_add, Nat.mul_zero, Nat.zero_mul, ne_eq, Bool.not_eq_true, Bool.not_eq_false, reduceCtorEq, decide_true, decide_false, decide_eq_true_eq, decide_eq_false_iff_not, Bool.false_eq_true, if_pos, if_neg, f_X11_answer, c1, c2, c4]
        exact ⟨_, _, _, rfl, rfl, F⟩
      · simp (disch := omega) only [fLt_e, fBd_s, fJn_s, fNn_s, fNu_0, fNu_s, fBo_0, fBo_1, fBo_b, i_lit, i_neg1, nI_add, pk_mul, nI_clamp, i_le, i_lt, i_eq, fIx_n, nI_mI, mI_nI, mI_lt, nI_lt_m, mI_le, nI_le_m, xI_0, xI_s, bI_0, bI_1, bI_t, bI_f, n_31, j_bit, j_one, i_and, i_or, Nat.not_lt_zero, Nat.succ_ne_zero, Nat.add_one_ne_zero, Nat.add_one_sub_one, Nat.zero_le, Nat.or_zero, Nat.zero_or, Bool.not_true, Bool.not_false, Bool.true_and, Bool.false_and, Bool.and_true, Bool.and_false, ↓reduceIte, if_true, if_false, not_true_eq_false, not_false_eq_true, true_and, and_true, false_and, and_false, and_self, true_or, or_true, false_or, or_false, Nat.reduceEqDiff, Nat.reduceLT, Nat.reduceLeDiff, Nat.reduceAdd, Nat.reduceMul, Nat.reduceSub, Nat.add_zero, Nat.zero_add, Nat.mul_zero, Nat.zero_mul, ne_eq, Bool.not_eq_true, Bool.not_eq_false, reduceCtorEq, decide_true, decide_false, decide_eq_true_eq, decide_eq_false_iff_not, Bool.false_eq_true, if_pos, if_neg, f_X11_answer, c1, c2, c5]
        exact ⟨_, _, _, rfl, rfl, F⟩
      · simp (disch := omega) only [fLt_e, fBd_s, fJn_s, fNn_s, fNu_0, fNu_s, fBo_0, fBo_1, fBo_b, i_lit, i_neg1, nI_add, pk_mul, nI_clamp, i_le, i_lt, i_eq, fIx_n, nI_mI, mI_nI, mI_lt, nI_lt_m, mI_le, nI_le_m, xI_0, xI_s, bI_0, bI_1, bI_t, bI_f, n_31, j_bit, j_one, i_and, i_or, Nat.not_lt_zero, Nat.succ_ne_zero, Nat.add_one_ne_zero, Nat.add_one_sub_one, Nat.zero_le, Nat.or_zero, Nat.zero_or, Bool.not_true, Bool.not_false, Bool.true_and, Bool.false_and, Bool.and_true, Bool.and_false, ↓reduceIte, if_true, if_false, not_true_eq_false, not_false_eq_true, true_and, and_true, false_and, and_false, and_self, true_or, or_true, false_or, or_false, Nat.reduceEqDiff, Nat.reduceLT, Nat.reduceLeDiff, Nat.reduceAdd, Nat.reduceMul, Nat.reduceSub, Nat.add_zero, Nat.zero_add, Nat.mul_zero, Nat.zero_mul, ne_eq, Bool.not_eq_true, Bool.not_eq_false, reduceCtorEq, decide_true, decide_false, decide_eq_true_eq, decide_eq_false_iff_not, Bool.false_eq_true, if_pos, if_neg, f_X11_answer, c1, c2, c6]
        exact ⟨_, _, _, rfl, rfl, F⟩
      · simp (disch := omega) only [fLt_e, fBd_s, fJn_s, fNn_s, fNu_0, fNu_s, fBo_0, fBo_1, fBo_b, i_lit, i_neg1, nI_add, pk_mul, nI_clamp, i_le, i_lt, i_eq, fIx_n, nI_mI, mI_nI, mI_lt, nI_lt_m, mI_le, nI_le_m, xI_0, xI_s, bI_0, bI_1, bI_t, bI_f, n_31, j_bit, j_one, i_and, i_or, Nat.not_lt_zero, Nat.succ_ne_zero, Nat.add_one_ne_zero, Nat.add_one_sub_one, Nat.zero_le, Nat.or_zero, Nat.zero_or, Bool.not_true, Bool.not_false, Bool.true_and, Bool.false_and, Bool.and_true, Bool.and_false, ↓reduceIte, if_true, if_false, not_true_eq_false, not_false_eq_true, true_and, and_true, false_and, and_false, and_self, true_or, or_true, false_or, or_false, Nat.reduceEqDiff, Nat.reduceLT, Nat.reduceLeDiff, Nat.reduceAdd, Nat.reduceMul, Nat.reduceSub, Nat.add_zero, Nat.zero_add, Nat.mul_zero, Nat.zero_mul, ne_eq, Bool.not_eq_true, Bool.not_eq_false, reduceCtorEq, decide_true, decide_false, decide_eq_true_eq, decide_eq_false_iff_not, Bool.false_eq_true, if_pos, if_neg, f_X11_answer, c1, c2, c7]
        exact ⟨_, _, _, rfl, rfl, F⟩
  · rw [inB_f.mpr hb]
    simp (disch := omega) only [fLt_e, fBd_s, fJn_s, fNn_s, fNu_0, fNu_s, fBo_0, fBo_1, fBo_b, i_lit, i_neg1, nI_add, pk_mul, nI_clamp, i_le, i_lt, i_eq, fIx_n, nI_mI, mI_nI, mI_lt, nI_lt_m, mI_le, nI_le_m, xI_0, xI_s, bI_0, bI_1, bI_t, bI_f, n_31, j_bit, j_one, i_and, i_or, Nat.not_lt_zero, Nat.succ_ne_zero, Nat.add_one_ne_zero, Nat.add_one_sub_one, Nat.zero_le, Nat.or_zero, Nat.zero_or, Bool.not_true, Bool.not_false, Bool.true_and, Bool.false_and, Bool.and_true, Bool.and_false, ↓reduceIte, if_true, if_false, not_true_eq_false, not_false_eq_true, true_and, and_true, false_and, and_false, and_self, true_or, or_true, false_or, or_false, Nat.reduceEqDiff, Nat.reduceLT, Nat.reduceLeDiff, Nat.reduceAdd, Nat.reduceMul, Nat.reduceSub, Nat.add_zero, Nat.zero_add, Nat.mul_zero, Nat.zero_mul, ne_eq, Bool.not_eq_true, Bool.not_eq_false, reduceCtorEq, decide_true, decide_false, decide_eq_true_eq, decide_eq_false_iff_not, Bool.false_eq_true, if_pos, if_neg, f_X11_fail, f_X12_refuse]
    exact ⟨_, _, _, rfl, rfl, fin_st H _⟩
/-! layer 2: nights by hand and by lot -/
def itq {σ : Type} (f : Nat → σ → σ) : Nat → Nat → σ → σ
  | 0, _, t => t
  | n + 1, k, t => itq f n (k + 1) (f k t)
abbrev pSt : Type := Nat × Nat × Nat × Nat × Nat × Nat
def gst (G : Nat → Nat) (d r : Nat) (t : pSt) : pSt := (gnx G (t.1 - 1) d (gkil G (t.1 - 1) t.2.1), gkil G (t.1 - 1) t.2.1, t.2.2.1 ||| 2 ^ (t.1 - 1), G (49 + (t.1 - 1)), t.2.2.2.2.1 + gbr G (t.1 - 1), r)
def pOk (G : Nat → Nat) (t : pSt) : Prop := t.1 ≤ G 2 ∧ t.2.1 < 64 ∧ t.2.2.1 < 4096 ∧ t.2.2.2.1 ≤ 9 ∧ t.2.2.2.2.1 + 240 * t.1 ≤ 2880 ∧ t.2.2.2.2.2 < 65536
def aNi (t : pSt) (who sd : Int32) : Nat → Int32
  | 0 => nI t.2.2.1
  | 1 => xI t.2.2.2.1
  | 2 => who
  | 3 => nI t.2.2.2.2.1
  | 4 => xI t.1
  | 5 => nI t.2.1
  | _ => sd
def aM (t : pSt) (rd : Int32) (k : Nat) : Int32 := if k = 25 then nI t.2.2.1 else if k = 26 then xI t.2.2.2.1 else if k = 27 then nI t.2.2.2.2.1 else rd
section
variable {sc sm : fSt} {q : Nat} {G : Nat → Nat}
def gkv (G : Nat → Nat) (s : Nat) : Nat := if G (109 + s) = 0 then 0 else 2 ^ (G (109 + s) - 1)
theorem gkil_v (G : Nat → Nat) (s g : Nat) : gkil G s g = g ||| gkv G s := by
  unfold gkil gkv
  split
  · rw [Nat.or_zero]
  · rfl
theorem x_killed (H : rStg sc q G) (w : gWf G) {s : Nat} (hs : s < G 2) : f_X7_killedIn q (nI s) sc = some (nI (gkv G s), sc) := by
  have h := w.1
  have h2 := (w.2.2.2.1 s hs).2.2.2.2
  obtain ⟨-, -, -, -, -, -, -, e⟩ := H.2.2.1 s hs
  unfold f_X7_killedIn gkv
  cases hv : G (109 + s) with
  | zero => simp (disch := omega) only [fLt_e, fBd_s, fJn_s, fNn_s, fNu_0, fNu_s, fBo_0, fBo_1, fBo_b, i_lit, i_neg1, nI_add, pk_mul, nI_clamp, i_le, i_lt, i_eq, fIx_n, nI_mI, mI_nI, mI_lt, nI_lt_m, mI_le, nI_le_m, xI_0, xI_s, bI_0, bI_1, bI_t, bI_f, n_31, j_bit, j_one, i_and, i_or, Nat.not_lt_zero, Nat.succ_ne_zero, Nat.add_one_ne_zero, Nat.add_one_sub_one, Nat.zero_le, Nat.or_zero, Nat.zero_or, Bool.not_true, Bool.not_false, Bool.true_and, Bool.false_and, Bool.and_true, Bool.and_false, ↓reduceIte, if_true, if_false, not_true_eq_false, not_false_eq_true, true_and, and_true, false_and, and_false, and_self, true_or, or_true, false_or, or_false, Nat.reduceEqDiff, Nat.reduceLT, Nat.reduceLeDiff, Nat.reduceAdd, Nat.reduceMul, Nat.reduceSub, Nat.add_zero, Nat.zero_add, Nat.mul_zero, Nat.zero_mul, ne_eq, Bool.not_eq_true, Bool.not_eq_false, reduceCtorEq, decide_true, decide_false, decide_eq_true_eq, decide_eq_false_iff_not, Bool.false_eq_true, if_pos, if_neg, e, hv]
  | succ v => simp (disch := omega) only [fLt_e, fBd_s, fJn_s, fNn_s, fNu_0, fNu_s, fBo_0, fBo_1, fBo_b, i_lit, i_neg1, nI_add, pk_mul, nI_clamp, i_le, i_lt, i_eq, fIx_n, nI_mI, mI_nI, mI_lt, nI_lt_m, mI_le, nI_le_m, xI_0, xI_s, bI_0, bI_1, bI_t, bI_f, n_31, j_bit, j_one, i_and, i_or, Nat.not_lt_zero, Nat.succ_ne_zero, Nat.add_one_ne_zero, Nat.add_one_sub_one, Nat.zero_le, Nat.or_zero, Nat.zero_or, Bool.not_true, Bool.not_false, Bool.true_and, Bool.false_and, Bool.and_true, Bool.and_false, ↓reduceIte, if_true, if_false, not_true_eq_false, not_false_eq_true, true_and, and_true, false_and, and_false, and_self, true_or, or_true, false_or, or_false, Nat.reduceEqDiff, Nat.reduceLT, Nat.reduceLeDiff, Nat.reduceAdd, Nat.reduceMul, Nat.reduceSub, Nat.add_zero, Nat.zero_add, Nat.mul_zero, Nat.zero_mul, ne_eq, Bool.not_eq_true, Bool.not_eq_false, reduceCtorEq, decide_true, decide_false, decide_eq_true_eq, decide_eq_false_iff_not, Bool.false_eq_true, if_pos, if_neg, e, hv]
theorem gst_ok (w : gWf G) {d r : Nat} {t : pSt} (h1 : 0 < t.1) (h : pOk G t) (hd : d < 4) (hr : r < 65536) : pOk G (gst G d r t) := by
  obtain ⟨a, b, c, d', e, f⟩ := h
  have w1 := w.1
  have hs : t.1 - 1 < G 2 := by omega
  have k1 := gnx_le w hs hd (gkil G (t.1 - 1) t.2.1)
  have k2 := gbr_le w hs
  refine ⟨?_, gkil_lt w hs b, ?_, (w.2.2.2.1 _ hs).2.2.1, ?_, hr⟩
  · show gnx G (t.1 - 1) d (gkil G (t.1 - 1) t.2.1) ≤ G 2
    omega
  · exact Nat.or_lt_two_pow (n := 12) c (Nat.pow_lt_pow_right (by omega) (by omega))
  · show t.2.2.2.2.1 + gbr G (t.1 - 1) + 240 * gnx G (t.1 - 1) d (gkil G (t.1 - 1) t.2.1) ≤ 2880
    have : 240 * gnx G (t.1 - 1) d (gkil G (t.1 - 1) t.2.1) ≤ 240 * (t.1 - 1) := Nat.mul_le_mul_left _ k1
    omega
theorem gst_lt (w : gWf G) {d r : Nat} {t : pSt} (h1 : 0 < t.1) (h : pOk G t) (hd : d < 4) : (gst G d r t).1 < t.1 := by
  have k1 := gnx_le w (show t.1 - 1 < G 2 by have := h.1; omega) hd (gkil G (t.1 - 1) t.2.1)
  show gnx G (t.1 - 1) d (gkil G (t.1 - 1) t.2.1) < t.1
  omega
theorem x_playScene (H : rHou sc 0 q G) (w : gWf G) {i d : Nat} {t : pSt} (h1 : 0 < t.1) (h : pOk G t) (hd : d < 4) (r : Nat) (who sd : Int32) : f_X3_playScene i 0 (nI d) (oS sc 3 i 0 7 (aNi t who sd)) = some ((), oS sc 3 i 0 7 (aNi (gst G d r t) who sd)) := by
  obtain ⟨sp, g, se, en, br, rn⟩ := t
  obtain ⟨a, b, c, d', e, f⟩ := h
  simp only at h1 a b c d' e f
  obtain ⟨s, rfl⟩ : ∃ s, sp = s + 1 := ⟨sp - 1, by omega⟩
  have w1 := w.1
  have hs : s < G 2 := by omega
  have hbr := fun A => x_breathsOfScene (rStg_oS (i := i) (lo := 0) (hi := 7) (a := A) H.2.1) w hs
  have hki := fun A => x_killed (rStg_oS (i := i) (lo := 0) (hi := 7) (a := A) H.2.1) w hs
  have hon := fun A => x_onward (rHou_oS (i := i) (lo := 0) (hi := 7) (a := A) H) w hs hd (gkil_lt w hs b)
  have hen := (H.2.1.2.2.1 s hs).2.2.1
  rw [gkil_v] at hon
  unfold f_X3_playScene
  simp (disch := omega) only [fLt_e, fBd_s, fJn_s, fNn_s, fNu_0, fNu_s, fBo_0, fBo_1, fBo_b, i_lit, i_neg1, nI_add, pk_mul, nI_clamp, i_le, i_lt, i_eq, fIx_n, nI_mI, mI_nI, mI_lt, nI_lt_m, mI_le, nI_le_m, xI_0, xI_s, bI_0, bI_1, bI_t, bI_f, n_31, j_bit, j_one, i_and, i_or, Nat.not_lt_zero, Nat.succ_ne_zero, Nat.add_one_ne_zero, Nat.add_one_sub_one, Nat.zero_le, Nat.or_zero, Nat.zero_or, Bool.not_true, Bool.not_false, Bool.true_and, Bool.false_and, Bool.and_true, Bool.and_false, ↓reduceIte, if_true, if_false, not_true_eq_false, not_false_eq_true, true_and, and_true, false_and, and_false, and_self, true_or, or_true, false_or, or_false, Nat.reduceEqDiff, Nat.reduceLT, Nat.reduceLeDiff, Nat.reduceAdd, Nat.reduceMul, Nat.reduceSub, Nat.add_zero, Nat.zero_add, Nat.mul_zero, Nat.zero_mul, ne_eq, Bool.not_eq_true, Bool.not_eq_false, reduceCtorEq, decide_true, decide_false, decide_eq_true_eq, decide_eq_false_iff_not, Bool.false_eq_true, if_pos, if_neg, oS_sI, gI_oS, gP_oS, gA_oS, upd_at, aNi, H.1, hen, hbr, hki, hon]
  refine congrArg (fun S => some ((), S)) (oS_ext fun k _ hk => ?_)
  simp only [gst, gkil_v, upd_at, Nat.add_sub_cancel]
  rcases (show k = 0 ∨ k = 1 ∨ k = 2 ∨ k = 3 ∨ k = 4 ∨ k = 5 ∨ k = 6 by omega) with rfl | rfl | rfl | rfl | rfl | rfl | rfl <;> rfl
theorem rBlk_oS {lo hi : Nat} {a : Nat → Int32} (B : rBlk (gA sm 12 0 5) G) : rBlk (gA (oS sm 12 0 lo hi a) 12 0 5) G := B
theorem m_sees (B : rBlk (gA sm 12 0 5) G) (w : gWf G) {t : pSt} (h1 : 0 < t.1) (h : pOk G t) (d r : Nat) {A : Nat → Int32} (hA : A 25 = nI t.2.2.1) (hB : A 27 = nI t.2.2.2.2.1) : f_X12_sees (nI (t.1 - 1)) (oS sm 12 0 25 29 A) = some ((), oS sm 12 0 25 29 (aM (gst G d r t) (A 28))) := by
  obtain ⟨sp, g, se, en, br, rn⟩ := t
  obtain ⟨a, b, c, d', e, f⟩ := h
  simp only at h1 a b c d' e f hA hB
  obtain ⟨s, rfl⟩ : ∃ s, sp = s + 1 := ⟨sp - 1, by omega⟩
  have w1 := w.1
  have hs : s < G 2 := by omega
  have hbr := fun A => m_breathsOf (rBlk_oS (lo := 25) (hi := 29) (a := A) B) w hs
  have hen := (B.2.2.1 s hs).2.2.1
  unfold f_X12_sees
  simp (disch := omega) only [fLt_e, fBd_s, fJn_s, fNn_s, fNu_0, fNu_s, fBo_0, fBo_1, fBo_b, i_lit, i_neg1, nI_add, pk_mul, nI_clamp, i_le, i_lt, i_eq, fIx_n, nI_mI, mI_nI, mI_lt, nI_lt_m, mI_le, nI_le_m, xI_0, xI_s, bI_0, bI_1, bI_t, bI_f, n_31, j_bit, j_one, i_and, i_or, Nat.not_lt_zero, Nat.succ_ne_zero, Nat.add_one_ne_zero, Nat.add_one_sub_one, Nat.zero_le, Nat.or_zero, Nat.zero_or, Bool.not_true, Bool.not_false, Bool.true_and, Bool.false_and, Bool.and_true, Bool.and_false, ↓reduceIte, if_true, if_false, not_true_eq_false, not_false_eq_true, true_and, and_true, false_and, and_false, and_self, true_or, or_true, false_or, or_false, Nat.reduceEqDiff, Nat.reduceLT, Nat.reduceLeDiff, Nat.reduceAdd, Nat.reduceMul, Nat.reduceSub, Nat.add_zero, Nat.zero_add, Nat.mul_zero, Nat.zero_mul, ne_eq, Bool.not_eq_true, Bool.not_eq_false, reduceCtorEq, decide_true, decide_false, decide_eq_true_eq, decide_eq_false_iff_not, Bool.false_eq_true, if_pos, if_neg, oS_sI, gI_oS, gP_oS, gA_oS, upd_at, hA, hB, hen, hbr]
  refine congrArg (fun S => some ((), S)) (oS_ext fun k hk0 hk => ?_)
  simp only [gst, gkil_v, upd_at, Nat.add_sub_cancel, aM]
  rcases (show k = 25 ∨ k = 26 ∨ k = 27 ∨ k = 28 by omega) with rfl | rfl | rfl | rfl <;> rfl
theorem m_raises (sm : fSt) : f_X12_raises sm = some ((), oS sm 12 0 25 29 (upd (upd (gI sm 12 0) 25 (nI 0)) 27 (nI 0))) := by
  have e : sI sm 12 0 25 (nI 0) = oS sm 12 0 25 29 (upd (gI sm 12 0) 25 (nI 0)) := by
    have h : sI sm 12 0 25 (nI 0) = sI (oS sm 12 0 25 29 (gI sm 12 0)) 12 0 25 (nI 0) := by rw [← oS_0]
    rw [h, oS_sI (by omega)]
  unfold f_X12_raises
  simp only [fLt_e, i_lit]
  rw [e, oS_sI (by omega)]
-- by hand
def hst (G : Nat → Nat) (D : Nat → Nat) (k : Nat) (t : pSt) : pSt := if t.1 = 0 then t else gst G (D k) t.2.2.2.2.2 t
theorem itr_0 (G D : Nat → Nat) : ∀ n k (t : pSt), t.1 = 0 → itq (hst G D) n k t = t := by
  intro n
  induction n with
  | zero => intro k t _; rfl
  | succ n ih =>
    intro k t h
    show itq (hst G D) n (k + 1) (hst G D k t) = t
    have : hst G D k t = t := if_pos h
    rw [this]
    exact ih _ _ h
theorem x_handL (H : rHou sc 0 q G) (w : gWf G) {i tr many : Nat} {D : Nat → Nat} (hm : many ≤ 12) (hD : ∀ k, k < many → gB sc 8 tr 1 k = lN (D k) ∧ D k < 4) (hD0 : ∀ k, many ≤ k → D k = 0) (k4 : fSt → Option (Unit × fSt)) (who sd : Int32) : ∀ n k (t : pSt) m, k + n = 12 → pOk G t → n < m → f_X3_playByHand_L9 i 0 tr (nI many) k4 m (nI k) (oS sc 3 i 0 7 (aNi t who sd)) = k4 (oS sc 3 i 0 7 (aNi (itq (hst G D) n k t) who sd)) := by
  intro n
  induction n with
  | zero =>
    intro k t m hk ht hm
    obtain ⟨m, rfl⟩ : ∃ m', m = m' + 1 := ⟨m - 1, by omega⟩
    rw [f_X3_playByHand_L9]
    simp (disch := omega) only [fLt_e, fBd_s, fJn_s, fNn_s, fNu_0, fNu_s, fBo_0, fBo_1, fBo_b, i_lit, i_neg1, nI_add, pk_mul, nI_clamp, i_le, i_lt, i_eq, fIx_n, nI_mI, mI_nI, mI_lt, nI_lt_m, mI_le, nI_le_m, xI_0, xI_s, bI_0, bI_1, bI_t, bI_f, n_31, j_bit, j_one, i_and, i_or, Nat.not_lt_zero, Nat.succ_ne_zero, Nat.add_one_ne_zero, Nat.add_one_sub_one, Nat.zero_le, Nat.or_zero, Nat.zero_or, Bool.not_true, Bool.not_false, Bool.true_and, Bool.false_and, Bool.and_true, Bool.and_false, ↓reduceIte, if_true, if_false, not_true_eq_false, not_false_eq_true, true_and, and_true, false_and, and_false, and_self, true_or, or_true, false_or, or_false, Nat.reduceEqDiff, Nat.reduceLT, Nat.reduceLeDiff, Nat.reduceAdd, Nat.reduceMul, Nat.reduceSub, Nat.add_zero, Nat.zero_add, Nat.mul_zero, Nat.zero_mul, ne_eq, Bool.not_eq_true, Bool.not_eq_false, reduceCtorEq, decide_true, decide_false, decide_eq_true_eq, decide_eq_false_iff_not, Bool.false_eq_true, if_pos, if_neg]
    rfl
  | succ n ih =>
    intro k t m hk ht hnm
    obtain ⟨m, rfl⟩ : ∃ m', m = m' + 1 := ⟨m - 1, by omega⟩
    have w1 := w.1
    have a1 := ht.1
    rw [f_X3_playByHand_L9]
    by_cases hz : t.1 = 0
    · simp (disch := omega) only [fLt_e, fBd_s, fJn_s, fNn_s, fNu_0, fNu_s, fBo_0, fBo_1, fBo_b, i_lit, i_neg1, nI_add, pk_mul, nI_clamp, i_le, i_lt, i_eq, fIx_n, nI_mI, mI_nI, mI_lt, nI_lt_m, mI_le, nI_le_m, xI_0, xI_s, bI_0, bI_1, bI_t, bI_f, n_31, j_bit, j_one, i_and, i_or, Nat.not_lt_zero, Nat.succ_ne_zero, Nat.add_one_ne_zero, Nat.add_one_sub_one, Nat.zero_le, Nat.or_zero, Nat.zero_or, Bool.not_true, Bool.not_false, Bool.true_and, Bool.false_and, Bool.and_true, Bool.and_false, ↓reduceIte, if_true, if_false, not_true_eq_false, not_false_eq_true, true_and, and_true, false_and, and_false, and_self, true_or, or_true, false_or, or_false, Nat.reduceEqDiff, Nat.reduceLT, Nat.reduceLeDiff, Nat.reduceAdd, Nat.reduceMul, Nat.reduceSub, Nat.add_zero, Nat.zero_add, Nat.mul_zero, Nat.zero_mul, ne_eq, Bool.not_eq_true, Bool.not_eq_false, reduceCtorEq, decide_true, decide_false, decide_eq_true_eq, decide_eq_false_iff_not, Bool.false_eq_true, if_pos, if_neg, gI_oS, aNi, hz]
      rw [itr_0 G D _ _ _ hz]
    · have hp : 0 < t.1 := by omega
      have hx : ¬ xI t.1 = mI := by
        rw [← xI_0, xI_eq (by omega) (by omega)]
        exact hz
      have hdk : D k < 4 := by
        by_cases hkm : k < many
        · exact (hD k hkm).2
        · rw [hD0 k (by omega)]; omega
      have hps := x_playScene H w (i := i) hp ht hdk t.2.2.2.2.2 who sd
      have hst' : hst G D k t = gst G (D k) t.2.2.2.2.2 t := if_neg hz
      have key : (fBd (f_X3_playScene i 0 (nI (D k)) (oS sc 3 i 0 7 (aNi t who sd))) fun _ s11 => f_X3_playByHand_L9 i 0 tr (nI many) k4 m (nI (k + 1)) s11) = k4 (oS sc 3 i 0 7 (aNi (itq (hst G D) (n + 1) k t) who sd)) := by
        rw [hps, fBd_s, ih (k + 1) _ m (by omega) (gst_ok w hp ht hdk ht.2.2.2.2.2) (by omega)]
        show _ = k4 (oS sc 3 i 0 7 (aNi (itq (hst G D) n (k + 1) (hst G D k t)) who sd))
        rw [hst']
      by_cases hkm : k < many
      · have e := (hD k hkm).1
        simp (disch := omega) only [fLt_e, fBd_s, fJn_s, fNn_s, fNu_0, fNu_s, fBo_0, fBo_1, fBo_b, i_lit, i_neg1, nI_add, pk_mul, nI_clamp, i_le, i_lt, i_eq, fIx_n, nI_mI, mI_nI, mI_lt, nI_lt_m, mI_le, nI_le_m, xI_0, xI_s, bI_0, bI_1, bI_t, bI_f, n_31, j_bit, j_one, i_and, i_or, Nat.not_lt_zero, Nat.succ_ne_zero, Nat.add_one_ne_zero, Nat.add_one_sub_one, Nat.zero_le, Nat.or_zero, Nat.zero_or, Bool.not_true, Bool.not_false, Bool.true_and, Bool.false_and, Bool.and_true, Bool.and_false, ↓reduceIte, if_true, if_false, not_true_eq_false, not_false_eq_true, true_and, and_true, false_and, and_false, and_self, true_or, or_true, false_or, or_false, Nat.reduceEqDiff, Nat.reduceLT, Nat.reduceLeDiff, Nat.reduceAdd, Nat.reduceMul, Nat.reduceSub, Nat.add_zero, Nat.zero_add, Nat.mul_zero, Nat.zero_mul, ne_eq, Bool.not_eq_true, Bool.not_eq_false, reduceCtorEq, decide_true, decide_false, decide_eq_true_eq, decide_eq_false_iff_not, Bool.false_eq_true, if_pos, if_neg, gI_oS, gB_oS, aNi, hx, e, lN_i]
        exact key
      · rw [hD0 k (by omega)] at key
        simp (disch := omega) only [fLt_e, fBd_s, fJn_s, fNn_s, fNu_0, fNu_s, fBo_0, fBo_1, fBo_b, i_lit, i_neg1, nI_add, pk_mul, nI_clamp, i_le, i_lt, i_eq, fIx_n, nI_mI, mI_nI, mI_lt, nI_lt_m, mI_le, nI_le_m, xI_0, xI_s, bI_0, bI_1, bI_t, bI_f, n_31, j_bit, j_one, i_and, i_or, Nat.not_lt_zero, Nat.succ_ne_zero, Nat.add_one_ne_zero, Nat.add_one_sub_one, Nat.zero_le, Nat.or_zero, Nat.zero_or, Bool.not_true, Bool.not_false, Bool.true_and, Bool.false_and, Bool.and_true, Bool.and_false, ↓reduceIte, if_true, if_false, not_true_eq_false, not_false_eq_true, true_and, and_true, false_and, and_false, and_self, true_or, or_true, false_or, or_false, Nat.reduceEqDiff, Nat.reduceLT, Nat.reduceLeDiff, Nat.reduceAdd, Nat.reduceMul, Nat.reduceSub, Nat.add_zero, Nat.zero_add, Nat.mul_zero, Nat.zero_mul, ne_eq, Bool.not_eq_true, Bool.not_eq_false, reduceCtorEq, decide_true, decide_false, decide_eq_true_eq, decide_eq_false_iff_not, Bool.false_eq_true, if_pos, if_neg, gI_oS, gB_oS, aNi, hx]
        exact key
theorem ms_end {t : pSt} {A : Nat → Int32} {rd : Int32} (A1 : A 25 = nI t.2.2.1) (A2 : A 27 = nI t.2.2.2.2.1) (A3 : A 28 = rd) (A4 : A 26 = xI t.2.2.2.1) : oS sm 12 0 25 29 A = oS sm 12 0 25 29 (aM t rd) := by
  refine oS_ext fun k hk0 hk => ?_
  rcases (show k = 25 ∨ k = 26 ∨ k = 27 ∨ k = 28 by omega) with rfl | rfl | rfl | rfl
  · exact A1
  · exact A4
  · exact A2
  · exact A3
theorem m_handL (B : rBlk (gA sm 12 0 5) G) (w : gWf G) {tr many : Nat} {D : Nat → Nat} (ht4 : tr < 4) (hm : many ≤ 12) (hD : ∀ k, k < many → gB sm 12 0 3 (60 * tr + k) = lN (D k) ∧ D k < 4) (hD0 : ∀ k, many ≤ k → D k = 0) (rd : Int32) : ∀ n k (t : pSt) m kl (A : Nat → Int32), t.1 ≤ n → k + n ≤ 12 → pOk G t → kl < 64 → t.2.1 = G 5 ||| kl → n < m → A 25 = nI t.2.2.1 → A 27 = nI t.2.2.2.2.1 → A 28 = rd → (t.1 = 0 → A 26 = xI t.2.2.2.1) → f_X12_night_L141 (nI tr) (nI many) m (xI t.1) (nI kl) (nI k) (oS sm 12 0 25 29 A) = fBd (f_X12_books (-1) (oS sm 12 0 25 29 (aM (itq (hst G D) n k t) rd))) fun _ s21 => some (gI s21 12 0 25, s21) := by
  intro n
  induction n with
  | zero =>
    intro k t m kl A htn hk ht hkl hg hm A1 A2 A3 A4
    obtain ⟨m, rfl⟩ : ∃ m', m = m' + 1 := ⟨m - 1, by omega⟩
    have hz : t.1 = 0 := by omega
    rw [f_X12_night_L141]
    rw [hz, xI_0, if_pos (by decide), ms_end A1 A2 A3 (A4 hz)]
    rfl
  | succ n ih =>
    intro k t m kl A htn hk ht hkl hg hnm A1 A2 A3 A4
    obtain ⟨m, rfl⟩ : ∃ m', m = m' + 1 := ⟨m - 1, by omega⟩
    have w1 := w.1
    have w2 := w.2.1
    have a1 := ht.1
    rw [f_X12_night_L141]
    by_cases hz : t.1 = 0
    · rw [hz, xI_0, if_pos (by decide), ms_end A1 A2 A3 (A4 hz), itr_0 G D _ _ _ hz]
    · have hp : 0 < t.1 := by omega
      obtain ⟨s, hs⟩ : ∃ s, t.1 = s + 1 := ⟨t.1 - 1, by omega⟩
      have hs2 : s < G 2 := by omega
      have hdk : D k < 4 := by
        by_cases hkm : k < many
        · exact (hD k hkm).2
        · rw [hD0 k (by omega)]; omega
      have hse := m_sees B w hp ht (D k) t.2.2.2.2.2 A1 A2
      rw [show t.1 - 1 = s by omega, A3] at hse
      have hbe := fun A => m_behind2 (rBlk_oS (lo := 25) (hi := 29) (a := A) B) w hs2 hdk hkl
      have hki := fun A => m_kills (g := kl) (rBlk_oS (lo := 25) (hi := 29) (a := A) B) w hs2
      have hst' : hst G D k t = gst G (D k) t.2.2.2.2.2 t := if_neg hz
      have hgk := gst_ok w hp ht hdk ht.2.2.2.2.2
      have hlt := gst_lt (r := t.2.2.2.2.2) w hp ht hdk
      have e1 : (gst G (D k) t.2.2.2.2.2 t).1 = gnx G s (D k) (G 5 ||| gkil G s kl) := by
        show gnx G (t.1 - 1) (D k) (gkil G (t.1 - 1) t.2.1) = _
        rw [hg, hs, Nat.add_sub_cancel, gkil_or]
      have e2 : (gst G (D k) t.2.2.2.2.2 t).2.1 = G 5 ||| gkil G s kl := by
        show gkil G (t.1 - 1) t.2.1 = _
        rw [hg, hs, Nat.add_sub_cancel, gkil_or]
      have key : (fBd (f_X12_behind2 (nI s) (nI (D k)) (nI kl) (oS sm 12 0 25 29 (aM (gst G (D k) t.2.2.2.2.2 t) rd))) fun x26 s27 => fBd (f_X12_kills (nI s) (nI kl) s27) fun x29 s30 => f_X12_night_L141 (nI tr) (nI many) m x26 x29 (nI (k + 1)) s30) = fBd (f_X12_books (-1) (oS sm 12 0 25 29 (aM (itq (hst G D) (n + 1) k t) rd))) fun _ s21 => some (gI s21 12 0 25, s21) := by
        rw [hbe, fBd_s, hki, fBd_s, ← e1, ih (k + 1) _ m (gkil G s kl) _ (by omega) (by omega) hgk (gkil_lt w hs2 hkl) e2 (by omega) rfl rfl rfl (fun _ => rfl)]
        show _ = fBd (f_X12_books (-1) (oS sm 12 0 25 29 (aM (itq (hst G D) n (k + 1) (hst G D k t)) rd))) _
        rw [hst']
      rw [hs, xI_s]
      by_cases hkm : k < many
      · have e := (hD k hkm).1
        unfold f_X12_numberOf
        simp (disch := omega) only [fLt_e, fBd_s, fJn_s, fNn_s, fNu_0, fNu_s, fBo_0, fBo_1, fBo_b, i_lit, i_neg1, nI_add, pk_mul, nI_clamp, i_le, i_lt, i_eq, fIx_n, nI_mI, mI_nI, mI_lt, nI_lt_m, mI_le, nI_le_m, xI_0, xI_s, bI_0, bI_1, bI_t, bI_f, n_31, j_bit, j_one, i_and, i_or, Nat.not_lt_zero, Nat.succ_ne_zero, Nat.add_one_ne_zero, Nat.add_one_sub_one, Nat.zero_le, Nat.or_zero, Nat.zero_or, Bool.not_true, Bool.not_false, Bool.true_and, Bool.false_and, Bool.and_true, Bool.and_false, ↓reduceIte, if_true, if_false, not_true_eq_false, not_false_eq_true, true_and, and_true, false_and, and_false, and_self, true_or, or_true, false_or, or_false, Nat.reduceEqDiff, Nat.reduceLT, Nat.reduceLeDiff, Nat.reduceAdd, Nat.reduceMul, Nat.reduceSub, Nat.add_zero, Nat.zero_add, Nat.mul_zero, Nat.zero_mul, ne_eq, Bool.not_eq_true, Bool.not_eq_false, reduceCtorEq, decide_true, decide_false, decide_eq_true_eq, decide_eq_false_iff_not, Bool.false_eq_true, if_pos, if_neg, hse, gB_oS, e, lN_i]
        simp only [i_lit, i_neg1] at key
        exact key
      · rw [hD0 k (by omega)] at key
        simp (disch := omega) only [fLt_e, fBd_s, fJn_s, fNn_s, fNu_0, fNu_s, fBo_0, fBo_1, fBo_b, i_lit, i_neg1, nI_add, pk_mul, nI_clamp, i_le, i_lt, i_eq, fIx_n, nI_mI, mI_nI, mI_lt, nI_lt_m, mI_le, nI_le_m, xI_0, xI_s, bI_0, bI_1, bI_t, bI_f, n_31, j_bit, j_one, i_and, i_or, Nat.not_lt_zero, Nat.succ_ne_zero, Nat.add_one_ne_zero, Nat.add_one_sub_one, Nat.zero_le, Nat.or_zero, Nat.zero_or, Bool.not_true, Bool.not_false, Bool.true_and, Bool.false_and, Bool.and_true, Bool.and_false, ↓reduceIte, if_true, if_false, not_true_eq_false, not_false_eq_true, true_and, and_true, false_and, and_false, and_self, true_or, or_true, false_or, or_false, Nat.reduceEqDiff, Nat.reduceLT, Nat.reduceLeDiff, Nat.reduceAdd, Nat.reduceMul, Nat.reduceSub, Nat.add_zero, Nat.zero_add, Nat.mul_zero, Nat.zero_mul, ne_eq, Bool.not_eq_true, Bool.not_eq_false, reduceCtorEq, decide_true, decide_false, decide_eq_true_eq, decide_eq_false_iff_not, Bool.false_eq_true, if_pos, if_neg, hse]
        simp only [i_lit, i_neg1] at key
        exact key
end
/-! layer 2: the book; calls of nights -/
theorem itr_inv {σ : Type} {f : Nat → σ → σ} (P : σ → Prop) (hs : ∀ k t, P t → P (f k t)) : ∀ n k t, P t → P (itq f n k t) := by
  intro n
  induction n with
  | zero => intro k t h; exact h
  | succ n ih => intro k t h; exact ih _ _ (hs k t h)
section
variable {sc sm : fSt} {q : Nat} {G : Nat → Nat}
theorem m_booksL9 {k : Nat} (h1 : 1 ≤ k) (h2 : k ≤ 19) (k14 : fSt → Option (Unit × fSt)) (st : fSt) : f_X12_books_L9 (nI k) k14 fF (nI 0) st = k14 (sA st 12 0 5 (fun p => if 137 + 4 * k ≤ p ∧ p < 141 + 4 * k then gA st 12 0 5 (p - 4) else gA st 12 0 5 p)) := by
  obtain ⟨m, e⟩ := lp_run (fun m (z : Int32 × fSt) => f_X12_books_L9 (nI k) k14 m z.1 z.2) (fun i => (nI i, sA st 12 0 5 (fun p => if 137 + 4 * k ≤ p ∧ p < 137 + 4 * k + i then gA st 12 0 5 (p - 4) else gA st 12 0 5 p))) 4 (fun m i hi => by
    show f_X12_books_L9 (nI k) k14 (m + 1) (nI i) (sA st 12 0 5 (fun p => if 137 + 4 * k ≤ p ∧ p < 137 + 4 * k + i then gA st 12 0 5 (p - 4) else gA st 12 0 5 p)) = f_X12_books_L9 (nI k) k14 m (nI (i + 1)) (sA st 12 0 5 (fun p => if 137 + 4 * k ≤ p ∧ p < 137 + 4 * k + (i + 1) then gA st 12 0 5 (p - 4) else gA st 12 0 5 p))
    rw [f_X12_books_L9]
    have e4 : nI (137 + 4 * k) - nI 4 = nI (137 + 4 * k - 4) := pk_sub (by omega)
    simp (disch := omega) only [fLt_e, fBd_s, fJn_s, fNn_s, fNu_0, fNu_s, fBo_0, fBo_1, fBo_b, i_lit, i_neg1, nI_add, pk_mul, nI_clamp, i_le, i_lt, i_eq, fIx_n, nI_mI, mI_nI, mI_lt, nI_lt_m, mI_le, nI_le_m, xI_0, xI_s, bI_0, bI_1, bI_t, bI_f, n_31, j_bit, j_one, i_and, i_or, Nat.not_lt_zero, Nat.succ_ne_zero, Nat.add_one_ne_zero, Nat.add_one_sub_one, Nat.zero_le, Nat.or_zero, Nat.zero_or, Bool.not_true, Bool.not_false, Bool.true_and, Bool.false_and, Bool.and_true, Bool.and_false, ↓reduceIte, if_true, if_false, not_true_eq_false, not_false_eq_true, true_and, and_true, false_and, and_false, and_self, true_or, or_true, false_or, or_false, Nat.reduceEqDiff, Nat.reduceLT, Nat.reduceLeDiff, Nat.reduceAdd, Nat.reduceMul, Nat.reduceSub, Nat.add_zero, Nat.zero_add, Nat.mul_zero, Nat.zero_mul, ne_eq, Bool.not_eq_true, Bool.not_eq_false, reduceCtorEq, decide_true, decide_false, decide_eq_true_eq, decide_eq_false_iff_not, Bool.false_eq_true, if_pos, if_neg, gA_same, sA_sA, e4]
    congr 2
    funext p
    rw [upd_at]
    by_cases hp : p = 137 + 4 * k + i
    · rw [if_pos hp, if_pos (by omega)]
      congr 1
      omega
    · rw [if_neg hp]
      by_cases hp2 : 137 + 4 * k ≤ p ∧ p < 137 + 4 * k + i
      · rw [if_pos hp2, if_pos (by omega)]
      · rw [if_neg hp2, if_neg (by omega)]) (fF_lt (by omega))
  refine Eq.trans ?_ (Eq.trans e ?_)
  · show _ = f_X12_books_L9 (nI k) k14 fF (nI 0) (sA st 12 0 5 (fun p => if 137 + 4 * k ≤ p ∧ p < 137 + 4 * k + 0 then gA st 12 0 5 (p - 4) else gA st 12 0 5 p))
    congr 1
    rw [show (fun p => if 137 + 4 * k ≤ p ∧ p < 137 + 4 * k + 0 then gA st 12 0 5 (p - 4) else gA st 12 0 5 p) = gA st 12 0 5 from funext fun p => if_neg (by omega)]
    exact (sA_self st 12 0 5).symm
  · show f_X12_books_L9 (nI k) k14 (m + 1) (nI 4) (sA st 12 0 5 (fun p => if 137 + 4 * k ≤ p ∧ p < 137 + 4 * k + 4 then gA st 12 0 5 (p - 4) else gA st 12 0 5 p)) = _
    rw [f_X12_books_L9]
    simp (disch := omega) only [fLt_e, fBd_s, fJn_s, fNn_s, fNu_0, fNu_s, fBo_0, fBo_1, fBo_b, i_lit, i_neg1, nI_add, pk_mul, nI_clamp, i_le, i_lt, i_eq, fIx_n, nI_mI, mI_nI, mI_lt, nI_lt_m, mI_le, nI_le_m, xI_0, xI_s, bI_0, bI_1, bI_t, bI_f, n_31, j_bit, j_one, i_and, i_or, Nat.not_lt_zero, Nat.succ_ne_zero, Nat.add_one_ne_zero, Nat.add_one_sub_one, Nat.zero_le, Nat.or_zero, Nat.zero_or, Bool.not_true, Bool.not_false, Bool.true_and, Bool.false_and, Bool.and_true, Bool.and_false, ↓reduceIte, if_true, if_false, not_true_eq_false, not_false_eq_true, true_and, and_true, false_and, and_false, and_self, true_or, or_true, false_or, or_false, Nat.reduceEqDiff, Nat.reduceLT, Nat.reduceLeDiff, Nat.reduceAdd, Nat.reduceMul, Nat.reduceSub, Nat.add_zero, Nat.zero_add, Nat.mul_zero, Nat.zero_mul, ne_eq, Bool.not_eq_true, Bool.not_eq_false, reduceCtorEq, decide_true, decide_false, decide_eq_true_eq, decide_eq_false_iff_not, Bool.false_eq_true, if_pos, if_neg]
    congr 2
    funext p
    congr 1
    apply propext
    omega
theorem m_booksL3 (k3 : fSt → Option (Unit × fSt)) : ∀ k m st, k ≤ 19 → k < m → f_X12_books_L3 k3 m (nI k) st = k3 (sA st 12 0 5 (fun p => if 141 ≤ p ∧ p < 141 + 4 * k then gA st 12 0 5 (p - 4) else gA st 12 0 5 p)) := by
  intro k
  induction k with
  | zero =>
    intro m st _ hm
    obtain ⟨m, rfl⟩ : ∃ m', m = m' + 1 := ⟨m - 1, by omega⟩
    rw [f_X12_books_L3]
    simp (disch := omega) only [fLt_e, fBd_s, fJn_s, fNn_s, fNu_0, fNu_s, fBo_0, fBo_1, fBo_b, i_lit, i_neg1, nI_add, pk_mul, nI_clamp, i_le, i_lt, i_eq, fIx_n, nI_mI, mI_nI, mI_lt, nI_lt_m, mI_le, nI_le_m, xI_0, xI_s, bI_0, bI_1, bI_t, bI_f, n_31, j_bit, j_one, i_and, i_or, Nat.not_lt_zero, Nat.succ_ne_zero, Nat.add_one_ne_zero, Nat.add_one_sub_one, Nat.zero_le, Nat.or_zero, Nat.zero_or, Bool.not_true, Bool.not_false, Bool.true_and, Bool.false_and, Bool.and_true, Bool.and_false, ↓reduceIte, if_true, if_false, not_true_eq_false, not_false_eq_true, true_and, and_true, false_and, and_false, and_self, true_or, or_true, false_or, or_false, Nat.reduceEqDiff, Nat.reduceLT, Nat.reduceLeDiff, Nat.reduceAdd, Nat.reduceMul, Nat.reduceSub, Nat.add_zero, Nat.zero_add, Nat.mul_zero, Nat.zero_mul, ne_eq, Bool.not_eq_true, Bool.not_eq_false, reduceCtorEq, decide_true, decide_false, decide_eq_true_eq, decide_eq_false_iff_not, Bool.false_eq_true, if_pos, if_neg]
    congr 1
    rw [show (fun p => if 141 ≤ p ∧ p < 141 then gA st 12 0 5 (p - 4) else gA st 12 0 5 p) = gA st 12 0 5 from funext fun p => if_neg (by omega)]
    exact (sA_self st 12 0 5).symm
  | succ k ih =>
    intro m st hk hm
    obtain ⟨m, rfl⟩ : ∃ m', m = m' + 1 := ⟨m - 1, by omega⟩
    rw [f_X12_books_L3]
    simp only [fLt_e, fJn_s, i_lit, i_neg1]
    rw [if_neg (nI_ge (show 0 < k + 1 by omega) (by omega)), m_booksL9 (by omega) hk]
    have e : nI (k + 1) + mI = nI k := pk_m1 k
    rw [e, ih m _ (by omega) (by omega), sA_sA, gA_same]
    congr 2
    funext p
    by_cases h1 : 141 ≤ p ∧ p < 141 + 4 * k
    · rw [if_pos h1, if_neg (by omega), if_pos (by omega)]
    · rw [if_neg h1]
      by_cases h2 : 137 + 4 * (k + 1) ≤ p ∧ p < 141 + 4 * (k + 1)
      · rw [if_pos h2, if_pos (by omega)]
      · rw [if_neg h2, if_neg (by omega)]
theorem m_books (B : rBlk (gA sm 12 0 5) G) (w : gWf G) (t : pSt) (rd kd : Int32) : ∃ g, f_X12_books kd (oS sm 12 0 25 29 (aM t rd)) = some ((), sA (oS sm 12 0 25 29 (aM t rd)) 12 0 5 g) ∧ g 6 = nI (min 20 (G 6 + 1)) ∧ (g 137 = nI t.2.2.1 ∧ g 138 = xI t.2.2.2.1 ∧ g 139 = kd ∧ g 140 = nI t.2.2.2.2.1) ∧ (∀ p, 141 ≤ p → p < 217 → g p = gA sm 12 0 5 (p - 4)) ∧ ∀ p, p < 6 ∨ (7 ≤ p ∧ p < 137) ∨ 217 ≤ p → g p = gA sm 12 0 5 p := by
  have w2 := w.2.1
  have h6 := B.1.2.2.2.2.2.2
  have hmin : (if nI (G 6 + 1) < nI 20 then nI (G 6 + 1) else nI 20) = nI (min 20 (G 6 + 1)) := by
    by_cases h : G 6 + 1 < 20
    · rw [if_pos (nI_lt h (by omega)), Nat.min_eq_right (by omega)]
    · rw [if_neg (nI_nlt (by omega) (by omega)), Nat.min_eq_left (by omega)]
  unfold f_X12_books
  simp only [fLt_e, fJn_s, i_lit]
  rw [m_booksL3 _ 19 fF _ (by omega) (fF_lt (by omega))]
  simp (disch := omega) only [fLt_e, fBd_s, fJn_s, fNn_s, fNu_0, fNu_s, fBo_0, fBo_1, fBo_b, Nat.not_lt_zero, Nat.succ_ne_zero, Nat.add_one_ne_zero, Nat.add_one_sub_one, Nat.zero_le, Nat.or_zero, Nat.zero_or, Bool.not_true, Bool.not_false, Bool.true_and, Bool.false_and, Bool.and_true, Bool.and_false, ↓reduceIte, if_true, if_false, not_true_eq_false, not_false_eq_true, true_and, and_true, false_and, and_false, and_self, true_or, or_true, false_or, or_false, Nat.reduceEqDiff, Nat.reduceLT, Nat.reduceLeDiff, Nat.reduceAdd, Nat.reduceMul, Nat.reduceSub, Nat.add_zero, Nat.zero_add, Nat.mul_zero, Nat.zero_mul, ne_eq, Bool.not_eq_true, Bool.not_eq_false, reduceCtorEq, decide_true, decide_false, decide_eq_true_eq, decide_eq_false_iff_not, Bool.false_eq_true, nI_add, nI_clamp, fIx_n, gI_sA, gA_same, sA_sA, upd_at, if_neg, if_pos, gI_oS, gA_oS, h6, hmin]
  refine ⟨_, rfl, ?_, ⟨?_, ?_, ?_, ?_⟩, fun p h1 h2 => ?_, fun p hp => ?_⟩
  · simp only [upd_at, if_true]
  · simp (disch := omega) only [upd_at, if_neg, if_pos, aM, if_true]
  · simp (disch := omega) only [upd_at, if_neg, if_pos, aM, if_true]
  · simp (disch := omega) only [upd_at, if_neg, if_pos, aM, if_true]
  · simp (disch := omega) only [upd_at, if_neg, if_pos, aM, if_true]
  · simp (disch := omega) only [upd_at, if_neg, if_pos]
  · simp (disch := omega) only [upd_at, if_neg]
theorem x_note (X : rHou sc 0 q G) (w : gWf G) (i : Nat) (a : Nat → Int32) : ∃ e, f_X0_note 0 i (oS sc 3 i 0 7 a) = some ((), sI (sA (oS sc 3 i 0 7 a) 0 0 1 e) 0 0 0 (nI (min 20 (G 6 + 1)))) ∧ (e 0 = a 0 ∧ e 1 = a 1 ∧ e 2 = a 2 ∧ e 3 = a 3) ∧ ∀ p, 4 ≤ p → p < 80 → e p = gA sc 0 0 1 (p - 4) := by
  have w2 := w.2.1
  have h6 := X.2.2.2.1
  have hmin : (if nI 20 < nI (G 6 + 1) then nI 20 else nI (G 6 + 1)) = nI (min 20 (G 6 + 1)) := by
    by_cases h : G 6 + 1 ≤ 20
    · rw [if_neg (nI_nlt h (by omega)), Nat.min_eq_right (by omega)]
    · rw [if_pos (nI_lt (by omega) (by omega)), Nat.min_eq_left (by omega)]
  have e76 : nI 80 - nI 4 = nI 76 := pk_sub (by omega)
  unfold f_X0_note
  simp only [i_lit, e76]
  rw [fCp_n (by omega) (by omega) (by omega) (by omega)]
  simp (disch := omega) only [fLt_e, fBd_s, fJn_s, fNn_s, fNu_0, fNu_s, fBo_0, fBo_1, fBo_b, Nat.not_lt_zero, Nat.succ_ne_zero, Nat.add_one_ne_zero, Nat.add_one_sub_one, Nat.zero_le, Nat.or_zero, Nat.zero_or, Bool.not_true, Bool.not_false, Bool.true_and, Bool.false_and, Bool.and_true, Bool.and_false, ↓reduceIte, if_true, if_false, not_true_eq_false, not_false_eq_true, true_and, and_true, false_and, and_false, and_self, true_or, or_true, false_or, or_false, Nat.reduceEqDiff, Nat.reduceLT, Nat.reduceLeDiff, Nat.reduceAdd, Nat.reduceMul, Nat.reduceSub, Nat.add_zero, Nat.zero_add, Nat.mul_zero, Nat.zero_mul, ne_eq, Bool.not_eq_true, Bool.not_eq_false, reduceCtorEq, decide_true, decide_false, decide_eq_true_eq, decide_eq_false_iff_not, Bool.false_eq_true, nI_add, nI_clamp, fIx_n, gI_sA, gA_same, sA_sA, upd_at, if_neg, if_pos, gI_oS, gA_oS, h6, hmin]
  refine ⟨_, rfl, ⟨?_, ?_, ?_, ?_⟩, fun p h1 h2 => ?_⟩
  · simp (disch := omega) only [upd_at, if_neg, if_pos, if_true]
  · simp (disch := omega) only [upd_at, if_neg, if_pos, if_true]
  · simp (disch := omega) only [upd_at, if_neg, if_pos, if_true]
  · simp (disch := omega) only [upd_at, if_neg, if_pos, if_true]
  · simp (disch := omega) only [upd_at, if_neg, if_pos, va_cpy, Nat.zero_add]
theorem up_night (H : RX sc sm) {i v : Nat} {a b e g : Nat → Int32} (hv : ∀ q G, gWf G → rHou sc 0 q G → rBlk (gA sm 12 0 5) G → v = min 20 (G 6 + 1)) {t : pSt} {kd : Nat} (ht : 0 < t.2.2.1 ∧ t.2.2.1 < 4096 ∧ t.2.2.2.1 ≤ 9 ∧ kd ≤ 4 ∧ t.2.2.2.2.1 < 1048576)
    (he : e 0 = nI t.2.2.1 ∧ e 1 = xI t.2.2.2.1 ∧ e 2 = xI kd ∧ e 3 = nI t.2.2.2.2.1) (he2 : ∀ p, 4 ≤ p → p < 80 → e p = gA sc 0 0 1 (p - 4))
    (hg : g 6 = nI v) (hg1 : g 137 = nI t.2.2.1 ∧ g 138 = xI t.2.2.2.1 ∧ g 139 = xI kd ∧ g 140 = nI t.2.2.2.2.1) (hg2 : ∀ p, 141 ≤ p → p < 217 → g p = gA sm 12 0 5 (p - 4)) (hg3 : ∀ p, p < 6 ∨ (7 ≤ p ∧ p < 137) ∨ 217 ≤ p → g p = gA sm 12 0 5 p) :
    RX (sI (sA (oS sc 3 i 0 7 a) 0 0 1 e) 0 0 0 (nI v)) (sA (oS sm 12 0 25 29 b) 12 0 5 g) := by
  refine up0 H ⟨fun c hc i k => by rcases hc with rfl | rfl | rfl <;> exact ⟨rfl, rfl, rfl, rfl, rfl⟩, fun i k hk => rfl, fun i k => rfl, fun i hi => ⟨?_, ?_⟩, rfl, rfl, ⟨rfl, rfl, rfl⟩, ⟨rfl, rfl, rfl, rfl, rfl, rfl⟩, rfl, rfl, rfl, rfl, rfl, rfl, rfl⟩
    ⟨⟨rfl, rfl, rfl, rfl, rfl, rfl, rfl⟩, ⟨rfl, rfl⟩, ⟨rfl, rfl, rfl, fun k hk => ?_, rfl, rfl, rfl⟩, rfl, rfl⟩ ?_
  · simp only [gI_sI, gI_sA, gI_oS, hi, and_false, false_and, if_false, Nat.reduceEqDiff]
  · simp only [gA_sI, gA_sA, gA_oS, hi, and_false, false_and, if_false]
  · rw [gA_same]
    exact hg3 k (by omega)
  · intro q G w X B
    have hv := hv q G w X B
    have w2 := w.2.1
    refine ⟨fun k => if k = 6 then v else if k = 137 then t.2.2.1 else if k = 138 then t.2.2.2.1 else if k = 139 then kd else if k = 140 then t.2.2.2.2.1 else if 141 ≤ k ∧ k < 217 then G (k - 4) else G k, fun k hk => ?_, ?_, ?_, ?_, ?_, fun i hi => ?_⟩
    · simp (disch := omega) only [if_neg]
    · obtain ⟨w1, ⟨w2, w3, w4⟩, w5, w6, w7, w8⟩ := w
      refine ⟨w1, ⟨w2, w3, ?_⟩, fun a ha => ?_, fun s hs => ?_, fun k hk => ?_, fun i hi => ?_⟩
      · simp only [if_true]; omega
      · simp (disch := omega) only [if_neg]; exact w5 a ha
      · simp (disch := omega) only [if_neg]; exact w6 s hs
      · simp (disch := omega) only [if_neg]; exact w7 k hk
      · simp only [if_true] at hi
        cases i with
        | zero => simp only [Nat.mul_zero, Nat.add_zero, Nat.reduceEqDiff, if_false, if_true]; exact ht
        | succ i =>
          have := w8 i (by omega)
          simp (disch := omega) only [if_neg, if_pos]
          rw [show 137 + 4 * (i + 1) - 4 = 137 + 4 * i by omega, show 138 + 4 * (i + 1) - 4 = 138 + 4 * i by omega, show 139 + 4 * (i + 1) - 4 = 139 + 4 * i by omega, show 140 + 4 * (i + 1) - 4 = 140 + 4 * i by omega]
          exact this
    · exact X.2.2.1
    · refine ⟨gI_same _ _ _ _ _, fun i hi => ?_⟩
      simp only [if_true] at hi
      rw [gA_sI, gA_same]
      cases i with
      | zero => simp only [Nat.zero_mul, Nat.zero_add, Nat.mul_zero, Nat.add_zero, Nat.reduceEqDiff, if_false, if_true]; exact he
      | succ i =>
        have := X.2.2.2.2 i (by omega)
        simp (disch := omega) only [if_neg, if_pos]
        rw [he2 _ (by omega) (by omega), he2 _ (by omega) (by omega), he2 _ (by omega) (by omega), he2 _ (by omega) (by omega)]
        rw [show 137 + 4 * (i + 1) - 4 = 137 + 4 * i by omega, show 138 + 4 * (i + 1) - 4 = 138 + 4 * i by omega, show 139 + 4 * (i + 1) - 4 = 139 + 4 * i by omega, show 140 + 4 * (i + 1) - 4 = 140 + 4 * i by omega]
        rw [show (i + 1) * 4 - 4 = i * 4 by omega, show (i + 1) * 4 + 1 - 4 = i * 4 + 1 by omega, show (i + 1) * 4 + 2 - 4 = i * 4 + 2 by omega, show (i + 1) * 4 + 3 - 4 = i * 4 + 3 by omega]
        exact this
    · rw [gA_same]
      refine ⟨?_, ?_, ?_⟩
      · rw [hg3 4 (by omega)]; exact B.1.2.2.2.2.1
      · rw [hg3 5 (by omega)]; exact B.1.2.2.2.2.2.1
      · exact hg
    · simp only [if_true] at hi
      rw [gA_same]
      cases i with
      | zero => simp only [Nat.mul_zero, Nat.add_zero, Nat.reduceEqDiff, if_false, if_true]; exact hg1
      | succ i =>
        have := B.2.2.2.2.1 i (by omega)
        simp (disch := omega) only [if_neg, if_pos]
        rw [hg2 _ (by omega) (by omega), hg2 _ (by omega) (by omega), hg2 _ (by omega) (by omega), hg2 _ (by omega) (by omega)]
        rw [show 137 + 4 * (i + 1) - 4 = 137 + 4 * i by omega, show 138 + 4 * (i + 1) - 4 = 138 + 4 * i by omega, show 139 + 4 * (i + 1) - 4 = 139 + 4 * i by omega, show 140 + 4 * (i + 1) - 4 = 140 + 4 * i by omega]
        exact this
theorem x_open (H : rHou sc 0 q G) (w : gWf G) (i : Nat) (who : Int32) (A : Nat → Int32) : f_X3_open i 0 who (oS sc 3 i 0 7 A) = some ((), oS sc 3 i 0 7 (aNi (gpl G (G 2) (G 5), G 5, 0, 0, 0, 0) who (A 6))) := by
  have w2 := w.2.1
  have ho := fun A => x_opening (rHou_oS (i := i) (lo := 0) (hi := 7) (a := A) H) w (show G 5 < 64 by omega)
  unfold f_X3_open
  simp (disch := omega) only [fLt_e, fBd_s, fJn_s, fNn_s, fNu_0, fNu_s, fBo_0, fBo_1, fBo_b, i_lit, i_neg1, nI_add, pk_mul, nI_clamp, i_le, i_lt, i_eq, fIx_n, nI_mI, mI_nI, mI_lt, nI_lt_m, mI_le, nI_le_m, xI_0, xI_s, bI_0, bI_1, bI_t, bI_f, n_31, j_bit, j_one, i_and, i_or, Nat.not_lt_zero, Nat.succ_ne_zero, Nat.add_one_ne_zero, Nat.add_one_sub_one, Nat.zero_le, Nat.or_zero, Nat.zero_or, Bool.not_true, Bool.not_false, Bool.true_and, Bool.false_and, Bool.and_true, Bool.and_false, ↓reduceIte, if_true, if_false, not_true_eq_false, not_false_eq_true, true_and, and_true, false_and, and_false, and_self, true_or, or_true, false_or, or_false, Nat.reduceEqDiff, Nat.reduceLT, Nat.reduceLeDiff, Nat.reduceAdd, Nat.reduceMul, Nat.reduceSub, Nat.add_zero, Nat.zero_add, Nat.mul_zero, Nat.zero_mul, ne_eq, Bool.not_eq_true, Bool.not_eq_false, reduceCtorEq, decide_true, decide_false, decide_eq_true_eq, decide_eq_false_iff_not, Bool.false_eq_true, if_pos, if_neg, oS_sI, gI_oS, upd_at, H.2.2.1.2, ho]
  refine congrArg (fun S => some ((), S)) (oS_ext fun k _ hk => ?_)
  simp only [upd_at]
  rcases (show k = 0 ∨ k = 1 ∨ k = 2 ∨ k = 3 ∨ k = 4 ∨ k = 5 ∨ k = 6 by omega) with rfl | rfl | rfl | rfl | rfl | rfl | rfl <;> rfl
-- what is done by hand
def dOk (f : Nat → Int64) (n : Nat) : Prop := ∀ k, k < n → 0 ≤ (f k).toInt ∧ (f k).toInt ≤ 3
theorem l0i : (0 : Int64).toInt = 0 := rfl
theorem l3i : (3 : Int64).toInt = 3 := rfl
theorem l4i : (4 : Int64).toInt = 4 := rfl
theorem x_holdsL {t many ma : Nat} (hm : many ≤ ma) (hma : ma ≤ 60) (h : gI sc 8 t 3 = nI ma) (k3 k5 : fSt → Option (Int32 × fSt)) : ∀ n k m, k + n = many → n < m → ((∀ j, k ≤ j → j < many → 0 ≤ (gB sc 8 t 1 j).toInt ∧ (gB sc 8 t 1 j).toInt ≤ 3) → f_X8_holdsDeeds_L2 t (nI many) k3 k5 m (nI k) sc = k3 sc) ∧ ((¬ ∀ j, k ≤ j → j < many → 0 ≤ (gB sc 8 t 1 j).toInt ∧ (gB sc 8 t 1 j).toInt ≤ 3) → f_X8_holdsDeeds_L2 t (nI many) k3 k5 m (nI k) sc = k5 sc) := by
  intro n
  induction n with
  | zero =>
    intro k m hk hm
    obtain ⟨m, rfl⟩ : ∃ m', m = m' + 1 := ⟨m - 1, by omega⟩
    rw [f_X8_holdsDeeds_L2]
    refine ⟨fun _ => ?_, fun hh => absurd (fun j h1 h2 => by omega) hh⟩
    simp (disch := omega) only [fLt_e, fBd_s, fJn_s, fNn_s, fNu_0, fNu_s, fBo_0, fBo_1, fBo_b, i_lit, i_neg1, nI_add, pk_mul, nI_clamp, i_le, i_lt, i_eq, fIx_n, nI_mI, mI_nI, mI_lt, nI_lt_m, mI_le, nI_le_m, xI_0, xI_s, bI_0, bI_1, bI_t, bI_f, n_31, j_bit, j_one, i_and, i_or, Nat.not_lt_zero, Nat.succ_ne_zero, Nat.add_one_ne_zero, Nat.add_one_sub_one, Nat.zero_le, Nat.or_zero, Nat.zero_or, Bool.not_true, Bool.not_false, Bool.true_and, Bool.false_and, Bool.and_true, Bool.and_false, ↓reduceIte, if_true, if_false, not_true_eq_false, not_false_eq_true, true_and, and_true, false_and, and_false, and_self, true_or, or_true, false_or, or_false, Nat.reduceEqDiff, Nat.reduceLT, Nat.reduceLeDiff, Nat.reduceAdd, Nat.reduceMul, Nat.reduceSub, Nat.add_zero, Nat.zero_add, Nat.mul_zero, Nat.zero_mul, ne_eq, Bool.not_eq_true, Bool.not_eq_false, reduceCtorEq, decide_true, decide_false, decide_eq_true_eq, decide_eq_false_iff_not, Bool.false_eq_true, if_pos, if_neg]
  | succ n ih =>
    intro k m hk hm
    obtain ⟨m, rfl⟩ : ∃ m', m = m' + 1 := ⟨m - 1, by omega⟩
    rw [f_X8_holdsDeeds_L2]
    obtain ⟨i1, i2⟩ := ih (k + 1) m (by omega) (by omega)
    by_cases hok : 0 ≤ (gB sc 8 t 1 k).toInt ∧ (gB sc 8 t 1 k).toInt ≤ 3
    · refine ⟨fun hh => ?_, fun hh => ?_⟩
      · simp (disch := omega) only [fLt_e, fBd_s, fJn_s, fNn_s, fNu_0, fNu_s, fBo_0, fBo_1, fBo_b, Nat.not_lt_zero, Nat.succ_ne_zero, Nat.add_one_ne_zero, Nat.add_one_sub_one, Nat.zero_le, Nat.or_zero, Nat.zero_or, Bool.not_true, Bool.not_false, Bool.true_and, Bool.false_and, Bool.and_true, Bool.and_false, ↓reduceIte, if_true, if_false, not_true_eq_false, not_false_eq_true, true_and, and_true, false_and, and_false, and_self, true_or, or_true, false_or, or_false, Nat.reduceEqDiff, Nat.reduceLT, Nat.reduceLeDiff, Nat.reduceAdd, Nat.reduceMul, Nat.reduceSub, Nat.add_zero, Nat.zero_add, Nat.mul_zero, Nat.zero_mul, ne_eq, Bool.not_eq_true, Bool.not_eq_false, reduceCtorEq, decide_true, decide_false, decide_eq_true_eq, decide_eq_false_iff_not, Bool.false_eq_true, i_lit, nI_add, nI_clamp, fIx_n, i_le, if_neg, if_pos, lg_lt, l0i, l4i, h]
        exact i1 (fun j h1 h2 => hh j (by omega) h2)
      · simp (disch := omega) only [fLt_e, fBd_s, fJn_s, fNn_s, fNu_0, fNu_s, fBo_0, fBo_1, fBo_b, Nat.not_lt_zero, Nat.succ_ne_zero, Nat.add_one_ne_zero, Nat.add_one_sub_one, Nat.zero_le, Nat.or_zero, Nat.zero_or, Bool.not_true, Bool.not_false, Bool.true_and, Bool.false_and, Bool.and_true, Bool.and_false, ↓reduceIte, if_true, if_false, not_true_eq_false, not_false_eq_true, true_and, and_true, false_and, and_false, and_self, true_or, or_true, false_or, or_false, Nat.reduceEqDiff, Nat.reduceLT, Nat.reduceLeDiff, Nat.reduceAdd, Nat.reduceMul, Nat.reduceSub, Nat.add_zero, Nat.zero_add, Nat.mul_zero, Nat.zero_mul, ne_eq, Bool.not_eq_true, Bool.not_eq_false, reduceCtorEq, decide_true, decide_false, decide_eq_true_eq, decide_eq_false_iff_not, Bool.false_eq_true, i_lit, nI_add, nI_clamp, fIx_n, i_le, if_neg, if_pos, lg_lt, l0i, l4i, h]
        refine i2 (fun h3 => hh (fun j h1 h2 => ?_))
        by_cases hj : j = k
        · rw [hj]; exact hok
        · exact h3 j (by omega) h2
    · refine ⟨fun hh => absurd (hh k (by omega) (by omega)) hok, fun _ => ?_⟩
      by_cases h0 : (gB sc 8 t 1 k).toInt < 0
      · simp (disch := omega) only [fLt_e, fBd_s, fJn_s, fNn_s, fNu_0, fNu_s, fBo_0, fBo_1, fBo_b, Nat.not_lt_zero, Nat.succ_ne_zero, Nat.add_one_ne_zero, Nat.add_one_sub_one, Nat.zero_le, Nat.or_zero, Nat.zero_or, Bool.not_true, Bool.not_false, Bool.true_and, Bool.false_and, Bool.and_true, Bool.and_false, ↓reduceIte, if_true, if_false, not_true_eq_false, not_false_eq_true, true_and, and_true, false_and, and_false, and_self, true_or, or_true, false_or, or_false, Nat.reduceEqDiff, Nat.reduceLT, Nat.reduceLeDiff, Nat.reduceAdd, Nat.reduceMul, Nat.reduceSub, Nat.add_zero, Nat.zero_add, Nat.mul_zero, Nat.zero_mul, ne_eq, Bool.not_eq_true, Bool.not_eq_false, reduceCtorEq, decide_true, decide_false, decide_eq_true_eq, decide_eq_false_iff_not, Bool.false_eq_true, i_lit, nI_add, nI_clamp, fIx_n, i_le, if_neg, if_pos, lg_lt, l0i, l4i, h]
      · simp (disch := omega) only [fLt_e, fBd_s, fJn_s, fNn_s, fNu_0, fNu_s, fBo_0, fBo_1, fBo_b, Nat.not_lt_zero, Nat.succ_ne_zero, Nat.add_one_ne_zero, Nat.add_one_sub_one, Nat.zero_le, Nat.or_zero, Nat.zero_or, Bool.not_true, Bool.not_false, Bool.true_and, Bool.false_and, Bool.and_true, Bool.and_false, ↓reduceIte, if_true, if_false, not_true_eq_false, not_false_eq_true, true_and, and_true, false_and, and_false, and_self, true_or, or_true, false_or, or_false, Nat.reduceEqDiff, Nat.reduceLT, Nat.reduceLeDiff, Nat.reduceAdd, Nat.reduceMul, Nat.reduceSub, Nat.add_zero, Nat.zero_add, Nat.mul_zero, Nat.zero_mul, ne_eq, Bool.not_eq_true, Bool.not_eq_false, reduceCtorEq, decide_true, decide_false, decide_eq_true_eq, decide_eq_false_iff_not, Bool.false_eq_true, i_lit, nI_add, nI_clamp, fIx_n, i_le, if_neg, if_pos, lg_lt, l0i, l4i, h]
theorem m_handC {t many : Nat} (ht : t < 4) (hm : many ≤ 12) (k9 : fSt → Option (Int32 × fSt)) : ∀ n k m, k + n = many → n < m → ((∀ j, k ≤ j → j < many → 0 ≤ (gB sm 12 0 3 (60 * t + j)).toInt ∧ (gB sm 12 0 3 (60 * t + j)).toInt ≤ 3) → f_X12_night_L75 (nI t) (nI many) k9 m (nI k) sm = k9 sm) ∧ ((¬ ∀ j, k ≤ j → j < many → 0 ≤ (gB sm 12 0 3 (60 * t + j)).toInt ∧ (gB sm 12 0 3 (60 * t + j)).toInt ≤ 3) → f_X12_night_L75 (nI t) (nI many) k9 m (nI k) sm = some (-1, sI sm 12 0 0 5)) := by
  intro n
  induction n with
  | zero =>
    intro k m hk hm
    obtain ⟨m, rfl⟩ : ∃ m', m = m' + 1 := ⟨m - 1, by omega⟩
    rw [f_X12_night_L75]
    refine ⟨fun _ => ?_, fun hh => absurd (fun j h1 h2 => by omega) hh⟩
    simp (disch := omega) only [fLt_e, fBd_s, fJn_s, fNn_s, fNu_0, fNu_s, fBo_0, fBo_1, fBo_b, i_lit, i_neg1, nI_add, pk_mul, nI_clamp, i_le, i_lt, i_eq, fIx_n, nI_mI, mI_nI, mI_lt, nI_lt_m, mI_le, nI_le_m, xI_0, xI_s, bI_0, bI_1, bI_t, bI_f, n_31, j_bit, j_one, i_and, i_or, Nat.not_lt_zero, Nat.succ_ne_zero, Nat.add_one_ne_zero, Nat.add_one_sub_one, Nat.zero_le, Nat.or_zero, Nat.zero_or, Bool.not_true, Bool.not_false, Bool.true_and, Bool.false_and, Bool.and_true, Bool.and_false, ↓reduceIte, if_true, if_false, not_true_eq_false, not_false_eq_true, true_and, and_true, false_and, and_false, and_self, true_or, or_true, false_or, or_false, Nat.reduceEqDiff, Nat.reduceLT, Nat.reduceLeDiff, Nat.reduceAdd, Nat.reduceMul, Nat.reduceSub, Nat.add_zero, Nat.zero_add, Nat.mul_zero, Nat.zero_mul, ne_eq, Bool.not_eq_true, Bool.not_eq_false, reduceCtorEq, decide_true, decide_false, decide_eq_true_eq, decide_eq_false_iff_not, Bool.false_eq_true, if_pos, if_neg]
  | succ n ih =>
    intro k m hk hm
    obtain ⟨m, rfl⟩ : ∃ m', m = m' + 1 := ⟨m - 1, by omega⟩
    rw [f_X12_night_L75]
    unfold f_X12_numberOf
    obtain ⟨i1, i2⟩ := ih (k + 1) m (by omega) (by omega)
    by_cases hok : 0 ≤ (gB sm 12 0 3 (60 * t + k)).toInt ∧ (gB sm 12 0 3 (60 * t + k)).toInt ≤ 3
    · have hin := inB_t.mpr hok
      refine ⟨fun hh => ?_, fun hh => ?_⟩
      · simp (disch := omega) only [fLt_e, fBd_s, fJn_s, fNn_s, fNu_0, fNu_s, fBo_0, fBo_1, fBo_b, i_lit, i_neg1, nI_add, pk_mul, nI_clamp, i_le, i_lt, i_eq, fIx_n, nI_mI, mI_nI, mI_lt, nI_lt_m, mI_le, nI_le_m, xI_0, xI_s, bI_0, bI_1, bI_t, bI_f, n_31, j_bit, j_one, i_and, i_or, Nat.not_lt_zero, Nat.succ_ne_zero, Nat.add_one_ne_zero, Nat.add_one_sub_one, Nat.zero_le, Nat.or_zero, Nat.zero_or, Bool.not_true, Bool.not_false, Bool.true_and, Bool.false_and, Bool.and_true, Bool.and_false, ↓reduceIte, if_true, if_false, not_true_eq_false, not_false_eq_true, true_and, and_true, false_and, and_false, and_self, true_or, or_true, false_or, or_false, Nat.reduceEqDiff, Nat.reduceLT, Nat.reduceLeDiff, Nat.reduceAdd, Nat.reduceMul, Nat.reduceSub, Nat.add_zero, Nat.zero_add, Nat.mul_zero, Nat.zero_mul, ne_eq, Bool.not_eq_true, Bool.not_eq_false, reduceCtorEq, decide_true, decide_false, decide_eq_true_eq, decide_eq_false_iff_not, Bool.false_eq_true, if_pos, if_neg, m_isIn, l0i, l3i, hin]
        exact i1 (fun j h1 h2 => hh j (by omega) h2)
      · simp (disch := omega) only [fLt_e, fBd_s, fJn_s, fNn_s, fNu_0, fNu_s, fBo_0, fBo_1, fBo_b, i_lit, i_neg1, nI_add, pk_mul, nI_clamp, i_le, i_lt, i_eq, fIx_n, nI_mI, mI_nI, mI_lt, nI_lt_m, mI_le, nI_le_m, xI_0, xI_s, bI_0, bI_1, bI_t, bI_f, n_31, j_bit, j_one, i_and, i_or, Nat.not_lt_zero, Nat.succ_ne_zero, Nat.add_one_ne_zero, Nat.add_one_sub_one, Nat.zero_le, Nat.or_zero, Nat.zero_or, Bool.not_true, Bool.not_false, Bool.true_and, Bool.false_and, Bool.and_true, Bool.and_false, ↓reduceIte, if_true, if_false, not_true_eq_false, not_false_eq_true, true_and, and_true, false_and, and_false, and_self, true_or, or_true, false_or, or_false, Nat.reduceEqDiff, Nat.reduceLT, Nat.reduceLeDiff, Nat.reduceAdd, Nat.reduceMul, Nat.reduceSub, Nat.add_zero, Nat.zero_add, Nat.mul_zero, Nat.zero_mul, ne_eq, Bool.not_eq_true, Bool.not_eq_false, reduceCtorEq, decide_true, decide_false, decide_eq_true_eq, decide_eq_false_iff_not, Bool.false_eq_true, if_pos, if_neg, m_isIn, l0i, l3i, hin]
        refine i2 (fun h3 => hh (fun j h1 h2 => ?_))
        by_cases hj : j = k
        · rw [hj]; exact hok
        · exact h3 j (by omega) h2
    · have hin := inB_f.mpr hok
      refine ⟨fun hh => absurd (hh k (by omega) (by omega)) hok, fun _ => ?_⟩
      simp (disch := omega) only [fLt_e, fBd_s, fJn_s, fNn_s, fNu_0, fNu_s, fBo_0, fBo_1, fBo_b, i_lit, i_neg1, nI_add, pk_mul, nI_clamp, i_le, i_lt, i_eq, fIx_n, nI_mI, mI_nI, mI_lt, nI_lt_m, mI_le, nI_le_m, xI_0, xI_s, bI_0, bI_1, bI_t, bI_f, n_31, j_bit, j_one, i_and, i_or, Nat.not_lt_zero, Nat.succ_ne_zero, Nat.add_one_ne_zero, Nat.add_one_sub_one, Nat.zero_le, Nat.or_zero, Nat.zero_or, Bool.not_true, Bool.not_false, Bool.true_and, Bool.false_and, Bool.and_true, Bool.and_false, ↓reduceIte, if_true, if_false, not_true_eq_false, not_false_eq_true, true_and, and_true, false_and, and_false, and_self, true_or, or_true, false_or, or_false, Nat.reduceEqDiff, Nat.reduceLT, Nat.reduceLeDiff, Nat.reduceAdd, Nat.reduceMul, Nat.reduceSub, Nat.add_zero, Nat.zero_add, Nat.mul_zero, Nat.zero_mul, ne_eq, Bool.not_eq_true, Bool.not_eq_false, reduceCtorEq, decide_true, decide_false, decide_eq_true_eq, decide_eq_false_iff_not, Bool.false_eq_true, if_pos, if_neg, m_isIn, l0i, l3i, hin, f_X12_refuse]
end
theorem m_isTray (a : Int32) (sm : fSt) : f_X12_isTray a sm = some (bI (inB a.toInt 0 3), sm) := by
  unfold f_X12_isTray
  rw [m_isIn_c, l0i]
  simp only [fBd_s, fBo_b]
  rfl
/-! layer 2: the calls of nights and the book -/
theorem itr_pok {G D : Nat → Nat} (w : gWf G) (hD : ∀ k, D k < 4) : ∀ n k t, pOk G t → pOk G (itq (hst G D) n k t) := itr_inv (pOk G) (fun k t h => by
  unfold hst
  split
  · exact h
  · rename_i hz
    exact gst_ok w (by omega) h (hD k) h.2.2.2.2.2)
theorem itr_seen {G D : Nat → Nat} {n k : Nat} {t : pSt} (h : 0 < t.1) : 0 < (itq (hst G D) (n + 1) k t).2.2.1 := by
  have key : ∀ k t, 0 < t.2.2.1 → 0 < (hst G D k t).2.2.1 := by
    intro k t h
    unfold hst
    split
    · exact h
    · exact Nat.lt_of_lt_of_le h Nat.left_le_or
  refine itr_inv (fun t : pSt => 0 < t.2.2.1) key n (k + 1) _ ?_
  show 0 < (hst G D k t).2.2.1
  unfold hst
  rw [if_neg (by omega)]
  exact Nat.lt_of_lt_of_le (Nat.two_pow_pos _) (Nat.right_le_or (m := t.2.2.1))
theorem min_same {sc sm : fSt} {q q' : Nat} {G G' : Nat → Nat} (X : rHou sc 0 q G) (w : gWf G) (X' : rHou sc 0 q' G') (w' : gWf G') : min 20 (G 6 + 1) = min 20 (G' 6 + 1) := by
  have h1 := X.2.2.2.1
  have h2 := X'.2.2.2.1
  have a1 := w.2.1.2.2
  have a2 := w'.2.1.2.2
  rw [h1] at h2
  rw [(nI_eq (by omega) (by omega)).mp h2]
theorem cEq_ni (sc : fSt) (i lo hi : Nat) (a : Nat → Int32) : cEq sc (oS sc 3 i lo hi a) := ⟨fun c hc i k => by rcases hc with rfl | rfl | rfl | rfl | rfl <;> exact ⟨rfl, rfl, rfl, rfl, rfl⟩, rfl, rfl, ⟨rfl, rfl, rfl⟩, ⟨rfl, rfl, rfl, rfl, rfl, rfl⟩, rfl, rfl, rfl, rfl, rfl, rfl, rfl⟩
theorem call_night (a b : Int32) : CALL (f_X11_night a b) (f_X12_night a b) := by
  intro sc sm ⟨hA, H⟩
  have H := pro_x H
  have z := pro_0 sm
  unfold f_X11_night f_X12_night
  simp only [fLt_e, pro_eq]
  generalize pro sm = s2 at *
  have i0 : (0 : Int32).toInt = 0 := rfl
  have i12 : (12 : Int32).toInt = 12 := rfl
  have l12 : (12 : Int64).toInt = 12 := rfl
  have hT := H.2.2.1
  rw [show (4 : Int32) = nI 4 from rfl, x_isBelow _ _ (by omega), m_isTray]
  by_cases ha : 0 ≤ a.toInt ∧ a.toInt ≤ 3
  · rw [inB_t.mpr ha, inB_t.mpr (show 0 ≤ a.toInt ∧ a.toInt ≤ ((4 : Nat) : Int) - 1 by omega)]
    obtain ⟨t, ht, rfl, -⟩ := nI_ofInt (n := 4) ha.1 (by omega)
    by_cases h1 : gI sc 8 t 1 = nI 0
    · have g1 : gA s2 12 0 2 t = mI := by
        rcases hT t ht with ⟨c1, c2⟩ | ⟨c1, -⟩
        · exact c2
        · rw [h1, i_eq 0 1 (by omega) (by omega)] at c1; omega
      simp (disch := omega) only [fLt_e, fBd_s, fJn_s, fNn_s, fNu_0, fNu_s, fBo_0, fBo_1, fBo_b, i_lit, i_neg1, nI_add, pk_mul, nI_clamp, i_le, i_lt, i_eq, fIx_n, nI_mI, mI_nI, mI_lt, nI_lt_m, mI_le, nI_le_m, xI_0, xI_s, bI_0, bI_1, bI_t, bI_f, n_31, j_bit, j_one, i_and, i_or, Nat.not_lt_zero, Nat.succ_ne_zero, Nat.add_one_ne_zero, Nat.add_one_sub_one, Nat.zero_le, Nat.or_zero, Nat.zero_or, Bool.not_true, Bool.not_false, Bool.true_and, Bool.false_and, Bool.and_true, Bool.and_false, ↓reduceIte, if_true, if_false, not_true_eq_false, not_false_eq_true, true_and, and_true, false_and, and_false, and_self, true_or, or_true, false_or, or_false, Nat.reduceEqDiff, Nat.reduceLT, Nat.reduceLeDiff, Nat.reduceAdd, Nat.reduceMul, Nat.reduceSub, Nat.add_zero, Nat.zero_add, Nat.mul_zero, Nat.zero_mul, ne_eq, Bool.not_eq_true, Bool.not_eq_false, reduceCtorEq, decide_true, decide_false, decide_eq_true_eq, decide_eq_false_iff_not, Bool.false_eq_true, if_pos, if_neg, h1, g1, f_X11_fail, f_X12_refuse]
      exact ⟨_, _, _, rfl, rfl, fin_st H _⟩
    · obtain ⟨so, ma, c2, c3, c1, c4, c5, c6, c7, c8⟩ := rT_at hT ht h1
      have E1 := x_isIn b 0 12
      have E2 := m_isIn_c b 0 12
      simp only [i0, i12, l0i, l12] at E1 E2
      by_cases hb : 0 ≤ b.toInt ∧ b.toInt ≤ 12
      · obtain ⟨many, hm, rfl, -⟩ := nI_ofInt (n := 13) hb.1 (by omega)
        rw [inB_t.mpr hb] at E1 E2
        have E3 := x_hasPlaces c6 c3 (0 : Int32) (nI many)
        rw [i0, nI_toInt (by omega)] at E3
        by_cases hp : many ≤ ma
        · rw [decide_eq_true (by omega)] at E3
          have hrow : ∀ k, k < many → gB sc 8 t 1 k = gB s2 12 0 3 (60 * t + k) := fun k hk => c8 k (by omega)
          have E4 : f_X8_holdsDeeds t (nI many) sc = some (bI (decide (dOk (gB sc 8 t 1) many)), sc) := by
            have e := x_holdsL (sc := sc) hp c3 c6 (fun s2 => some ((1 : Int32), s2)) (fun s2 => some ((0 : Int32), s2)) many 0 fF (by omega) (fF_lt (by omega))
            unfold f_X8_holdsDeeds
            simp only [fLt_e, fJn_s, i_lit] at e ⊢
            by_cases hd : dOk (gB sc 8 t 1) many
            · rw [e.1 (fun j _ hj => hd j hj), decide_eq_true hd]
              rfl
            · rw [e.2 (fun hh => hd (fun j hj => hh j (Nat.zero_le _) hj)), decide_eq_false hd]
              rfl
          have E5 := fun k9 => m_handC (sm := s2) ht (show many ≤ 12 by omega) k9 many 0 fF (by omega) (fF_lt (by omega))
          obtain ⟨q, G, w, X, B, -⟩ := RX_cur H
          have E6 := x_canOpen X w
          have E7 := m_isDark B w
          simp only [i_lit, i_neg1] at E1 E2 E3 E4 E5
          by_cases hd : dOk (gB sc 8 t 1) many
          · rw [decide_eq_true hd] at E4
            have E8 : ∀ k9, f_X12_night_L75 (nI t) (nI many) k9 fF (nI 0) s2 = k9 s2 := fun k9 => (E5 k9).1 (fun j _ hj => by rw [← hrow j hj]; exact hd j hj)
            by_cases hz : gpl G (G 2) (G 5) = 0
            · simp (disch := omega) only [fLt_e, fBd_s, fJn_s, fNn_s, fNu_0, fNu_s, fBo_0, fBo_1, fBo_b, i_lit, i_neg1, nI_add, pk_mul, nI_clamp, i_le, i_lt, i_eq, fIx_n, nI_mI, mI_nI, mI_lt, nI_lt_m, mI_le, nI_le_m, xI_0, xI_s, bI_0, bI_1, bI_t, bI_f, n_31, j_bit, j_one, i_and, i_or, Nat.not_lt_zero, Nat.succ_ne_zero, Nat.add_one_ne_zero, Nat.add_one_sub_one, Nat.zero_le, Nat.or_zero, Nat.zero_or, Bool.not_true, Bool.not_false, Bool.true_and, Bool.false_and, Bool.and_true, Bool.and_false, ↓reduceIte, if_true, if_false, not_true_eq_false, not_false_eq_true, true_and, and_true, false_and, and_false, and_self, true_or, or_true, false_or, or_false, Nat.reduceEqDiff, Nat.reduceLT, Nat.reduceLeDiff, Nat.reduceAdd, Nat.reduceMul, Nat.reduceSub, Nat.add_zero, Nat.zero_add, Nat.mul_zero, Nat.zero_mul, ne_eq, Bool.not_eq_true, Bool.not_eq_false, reduceCtorEq, decide_true, decide_false, decide_eq_true_eq, decide_eq_false_iff_not, Bool.false_eq_true, if_pos, if_neg, l_lit, c1, E1, E2, E3, E4, c7, E8, E6, E7, hz, f_X11_fail, f_X12_refuse]
              exact ⟨_, _, _, rfl, rfl, fin_st H _⟩
            · have w1 := w.1
              have w2 := w.2.1
              have hgp : gpl G (G 2) (G 5) = G 2 := by
                unfold gpl at hz ⊢
                split at hz <;> simp_all
              obtain ⟨D, hD⟩ : ∃ D : Nat → Nat, ∀ k, D k = if k < many then (gB sc 8 t 1 k).toInt.toNat else 0 := ⟨_, fun _ => rfl⟩
              have hD4 : ∀ k, D k < 4 := fun k => by
                rw [hD]
                split
                · rename_i hk
                  have := hd k hk
                  omega
                · omega
              have hDx : ∀ k, k < many → gB sc 8 t 1 k = lN (D k) ∧ D k < 4 := fun k hk => ⟨by
                have := hd k hk
                rw [hD, if_pos hk]
                apply Int64.toInt_inj.mp
                rw [pk_lT (by omega)]
                omega, hD4 k⟩
              have hD0 : ∀ k, many ≤ k → D k = 0 := fun k hk => by rw [hD, if_neg (by omega)]
              have ho := x_open X w 0 mI (gI sc 3 0)
              rw [← oS_0 sc 3 0 0 7, hgp] at ho
              have ok0 : pOk G (G 2, G 5, 0, 0, 0, 0) := ⟨Nat.le_refl _, w2.2.1, by simp, by simp, by simp; omega, by simp⟩
              have hL := x_handL X w (i := 0) (show many ≤ 12 by omega) hDx hD0 (fun s3 => some ((), s3)) mI (gI sc 3 0 6) 12 0 _ fF (by omega) ok0 (fF_lt (by omega))
              have okF := itr_pok w hD4 12 0 _ ok0
              have seF := itr_seen (G := G) (D := D) (n := 11) (k := 0) (t := (G 2, G 5, 0, 0, 0, 0)) (by simp only; omega)
              have hM := m_handL B w ht (show many ≤ 12 by omega) (fun k hk => ⟨by rw [← hrow k hk]; exact (hDx k hk).1, hD4 k⟩) hD0 (gI s2 12 0 28) 12 0 (G 2, G 5, 0, 0, 0, 0) fF 0 (upd (upd (gI s2 12 0) 25 (nI 0)) 27 (nI 0)) w1.2.2.1 (by omega) ok0 (by omega) (by simp) (fF_lt (by omega)) rfl rfl rfl (fun hh => by simp only at hh; omega)
              generalize hTF : itq (hst G D) 12 0 (G 2, G 5, 0, 0, 0, 0) = tF at *
              have hse : 0 < tF.2.2.1 := by rw [← hTF]; exact seF
              obtain ⟨f1, f2, f3, f4, f5, f6⟩ := okF
              obtain ⟨e, n1, n2, n3⟩ := x_note X w 0 (aNi tF mI (gI sc 3 0 6))
              obtain ⟨g, m1, m2, m3, m4, m5⟩ := m_books B w tF (gI s2 12 0 28) mI
              have P1 : f_X3_playByHand 0 0 t (nI many) sc = some ((), oS sc 3 0 0 7 (aNi tF mI (gI sc 3 0 6))) := by
                unfold f_X3_playByHand
                simp only [fLt_e, fBd_s, fJn_s, i_lit, i_neg1, ho]
                exact hL
              have P2 := m_raises s2
              have e2 : nI (G 2) - nI 1 = xI (G 2) := by
                cases G 2 with
                | zero => rfl
                | succ n => exact nI_pred n
              simp only [i_lit, i_neg1] at hM
              simp (disch := omega) only [fLt_e, fBd_s, fJn_s, fNn_s, fNu_0, fNu_s, fBo_0, fBo_1, fBo_b, i_lit, i_neg1, nI_add, pk_mul, nI_clamp, i_le, i_lt, i_eq, fIx_n, nI_mI, mI_nI, mI_lt, nI_lt_m, mI_le, nI_le_m, xI_0, xI_s, bI_0, bI_1, bI_t, bI_f, n_31, j_bit, j_one, i_and, i_or, Nat.not_lt_zero, Nat.succ_ne_zero, Nat.add_one_ne_zero, Nat.add_one_sub_one, Nat.zero_le, Nat.or_zero, Nat.zero_or, Bool.not_true, Bool.not_false, Bool.true_and, Bool.false_and, Bool.and_true, Bool.and_false, ↓reduceIte, if_true, if_false, not_true_eq_false, not_false_eq_true, true_and, and_true, false_and, and_false, and_self, true_or, or_true, false_or, or_false, Nat.reduceEqDiff, Nat.reduceLT, Nat.reduceLeDiff, Nat.reduceAdd, Nat.reduceMul, Nat.reduceSub, Nat.add_zero, Nat.zero_add, Nat.mul_zero, Nat.zero_mul, ne_eq, Bool.not_eq_true, Bool.not_eq_false, reduceCtorEq, decide_true, decide_false, decide_eq_true_eq, decide_eq_false_iff_not, Bool.false_eq_true, if_pos, if_neg, l_lit, c1, E1, E2, E3, E4, c7, E8, E6, E7, hz, P1, n1, P2, gA_oS, B.1.2.2.1, e2, hM, m1, gI_sI, gI_sA, gI_oS, aNi, aM, f_X11_answer]
              refine ⟨_, _, _, rfl, rfl, fin_0 (up_night H (fun q' G' w' X' _ => min_same X w X' w') (kd := 0) ⟨hse, f3, f4, by omega, by omega⟩ n2 n3 m2 m3 m4 m5) z⟩
          · rw [decide_eq_false hd] at E4
            have E8 : ∀ k9, f_X12_night_L75 (nI t) (nI many) k9 fF (nI 0) s2 = some (mI, sI s2 12 0 0 (nI 5)) := fun k9 => (E5 k9).2 (fun hh => hd (fun j hj => by rw [hrow j hj]; exact hh j (Nat.zero_le _) hj))
            simp (disch := omega) only [fLt_e, fBd_s, fJn_s, fNn_s, fNu_0, fNu_s, fBo_0, fBo_1, fBo_b, i_lit, i_neg1, nI_add, pk_mul, nI_clamp, i_le, i_lt, i_eq, fIx_n, nI_mI, mI_nI, mI_lt, nI_lt_m, mI_le, nI_le_m, xI_0, xI_s, bI_0, bI_1, bI_t, bI_f, n_31, j_bit, j_one, i_and, i_or, Nat.not_lt_zero, Nat.succ_ne_zero, Nat.add_one_ne_zero, Nat.add_one_sub_one, Nat.zero_le, Nat.or_zero, Nat.zero_or, Bool.not_true, Bool.not_false, Bool.true_and, Bool.false_and, Bool.and_true, Bool.and_false, ↓reduceIte, if_true, if_false, not_true_eq_false, not_false_eq_true, true_and, and_true, false_and, and_false, and_self, true_or, or_true, false_or, or_false, Nat.reduceEqDiff, Nat.reduceLT, Nat.reduceLeDiff, Nat.reduceAdd, Nat.reduceMul, Nat.reduceSub, Nat.add_zero, Nat.zero_add, Nat.mul_zero, Nat.zero_mul, ne_eq, Bool.not_eq_true, Bool.not_eq_false, reduceCtorEq, decide_true, decide_false, decide_eq_true_eq, decide_eq_false_iff_not, Bool.false_eq_true, if_pos, if_neg, l_lit, c1, E1, E2, E3, E4, c7, E8, f_X11_fail, f_X12_refuse]
            exact ⟨_, _, _, rfl, rfl, fin_st H _⟩
        · rw [decide_eq_false (by omega)] at E3
          simp only [i_lit, i_neg1] at E1 E2 E3
          simp (disch := omega) only [fLt_e, fBd_s, fJn_s, fNn_s, fNu_0, fNu_s, fBo_0, fBo_1, fBo_b, i_lit, i_neg1, nI_add, pk_mul, nI_clamp, i_le, i_lt, i_eq, fIx_n, nI_mI, mI_nI, mI_lt, nI_lt_m, mI_le, nI_le_m, xI_0, xI_s, bI_0, bI_1, bI_t, bI_f, n_31, j_bit, j_one, i_and, i_or, Nat.not_lt_zero, Nat.succ_ne_zero, Nat.add_one_ne_zero, Nat.add_one_sub_one, Nat.zero_le, Nat.or_zero, Nat.zero_or, Bool.not_true, Bool.not_false, Bool.true_and, Bool.false_and, Bool.and_true, Bool.and_false, ↓reduceIte, if_true, if_false, not_true_eq_false, not_false_eq_true, true_and, and_true, false_and, and_false, and_self, true_or, or_true, false_or, or_false, Nat.reduceEqDiff, Nat.reduceLT, Nat.reduceLeDiff, Nat.reduceAdd, Nat.reduceMul, Nat.reduceSub, Nat.add_zero, Nat.zero_add, Nat.mul_zero, Nat.zero_mul, ne_eq, Bool.not_eq_true, Bool.not_eq_false, reduceCtorEq, decide_true, decide_false, decide_eq_true_eq, decide_eq_false_iff_not, Bool.false_eq_true, if_pos, if_neg, l_lit, c1, E1, E2, E3, c7, f_X11_fail, f_X12_refuse]
          exact ⟨_, _, _, rfl, rfl, fin_st H _⟩
      · rw [inB_f.mpr hb] at E1 E2
        simp only [i_lit, i_neg1] at E1 E2
        simp (disch := omega) only [fLt_e, fBd_s, fJn_s, fNn_s, fNu_0, fNu_s, fBo_0, fBo_1, fBo_b, i_lit, i_neg1, nI_add, pk_mul, nI_clamp, i_le, i_lt, i_eq, fIx_n, nI_mI, mI_nI, mI_lt, nI_lt_m, mI_le, nI_le_m, xI_0, xI_s, bI_0, bI_1, bI_t, bI_f, n_31, j_bit, j_one, i_and, i_or, Nat.not_lt_zero, Nat.succ_ne_zero, Nat.add_one_ne_zero, Nat.add_one_sub_one, Nat.zero_le, Nat.or_zero, Nat.zero_or, Bool.not_true, Bool.not_false, Bool.true_and, Bool.false_and, Bool.and_true, Bool.and_false, ↓reduceIte, if_true, if_false, not_true_eq_false, not_false_eq_true, true_and, and_true, false_and, and_false, and_self, true_or, or_true, false_or, or_false, Nat.reduceEqDiff, Nat.reduceLT, Nat.reduceLeDiff, Nat.reduceAdd, Nat.reduceMul, Nat.reduceSub, Nat.add_zero, Nat.zero_add, Nat.mul_zero, Nat.zero_mul, ne_eq, Bool.not_eq_true, Bool.not_eq_false, reduceCtorEq, decide_true, decide_false, decide_eq_true_eq, decide_eq_false_iff_not, Bool.false_eq_true, if_pos, if_neg, l_lit, c1, E1, E2, c7, f_X11_fail, f_X12_refuse]
        exact ⟨_, _, _, rfl, rfl, fin_st H _⟩
  · rw [inB_f.mpr ha, inB_f.mpr (show ¬ (0 ≤ a.toInt ∧ a.toInt ≤ ((4 : Nat) : Int) - 1) by omega)]
    simp (disch := omega) only [fLt_e, fBd_s, fJn_s, fNn_s, fNu_0, fNu_s, fBo_0, fBo_1, fBo_b, i_lit, i_neg1, nI_add, pk_mul, nI_clamp, i_le, i_lt, i_eq, fIx_n, nI_mI, mI_nI, mI_lt, nI_lt_m, mI_le, nI_le_m, xI_0, xI_s, bI_0, bI_1, bI_t, bI_f, n_31, j_bit, j_one, i_and, i_or, Nat.not_lt_zero, Nat.succ_ne_zero, Nat.add_one_ne_zero, Nat.add_one_sub_one, Nat.zero_le, Nat.or_zero, Nat.zero_or, Bool.not_true, Bool.not_false, Bool.true_and, Bool.false_and, Bool.and_true, Bool.and_false, ↓reduceIte, if_true, if_false, not_true_eq_false, not_false_eq_true, true_and, and_true, false_and, and_false, and_self, true_or, or_true, false_or, or_false, Nat.reduceEqDiff, Nat.reduceLT, Nat.reduceLeDiff, Nat.reduceAdd, Nat.reduceMul, Nat.reduceSub, Nat.add_zero, Nat.zero_add, Nat.mul_zero, Nat.zero_mul, ne_eq, Bool.not_eq_true, Bool.not_eq_false, reduceCtorEq, decide_true, decide_false, decide_eq_true_eq, decide_eq_false_iff_not, Bool.false_eq_true, if_pos, if_neg, f_X11_fail, f_X12_refuse]
    exact ⟨_, _, _, rfl, rfl, fin_st H _⟩
/-! layer 2: draws; a night by lot -/
def rnx (r : Nat) : Nat := (r * 2903 + 7187) % 65536
theorem rnx_lt (r : Nat) : rnx r < 65536 := Nat.mod_lt _ (by omega)
theorem x_draw {sc : fSt} {i r n : Nat} {A : Nat → Int32} (hA : A 6 = nI r) (hr : r < 65536) (h0 : 0 < n) (hn : n < 2 ^ 31) : f_X3_draw i (nI n) (oS sc 3 i 0 7 A) = some (nI (rnx r / 8 % n), oS sc 3 i 0 7 (upd A 6 (nI (rnx r)))) := by
  have e1 : nI (r * 2903 + 7187) &&& nI 65535 = nI (rnx r) := by
    rw [i_and]
    congr 1
    exact Nat.and_two_pow_sub_one_eq_mod _ 16
  have hx := rnx_lt r
  have e2 : nI (rnx r) / nI 8 = nI (rnx r / 8) := pk_div (by omega) (by omega) (by omega)
  have e3 : nI (rnx r / 8) - nI (rnx r / 8) / nI n * nI n = nI (rnx r / 8 % n) := pk_rem (by omega) h0 hn
  unfold f_X3_draw
  simp (disch := omega) only [fLt_e, fBd_s, fJn_s, fNn_s, fNu_0, fNu_s, fBo_0, fBo_1, fBo_b, Nat.not_lt_zero, Nat.succ_ne_zero, Nat.add_one_ne_zero, Nat.add_one_sub_one, Nat.zero_le, Nat.or_zero, Nat.zero_or, Bool.not_true, Bool.not_false, Bool.true_and, Bool.false_and, Bool.and_true, Bool.and_false, ↓reduceIte, if_true, if_false, not_true_eq_false, not_false_eq_true, true_and, and_true, false_and, and_false, and_self, true_or, or_true, false_or, or_false, Nat.reduceEqDiff, Nat.reduceLT, Nat.reduceLeDiff, Nat.reduceAdd, Nat.reduceMul, Nat.reduceSub, Nat.add_zero, Nat.zero_add, Nat.mul_zero, Nat.zero_mul, ne_eq, Bool.not_eq_true, Bool.not_eq_false, reduceCtorEq, decide_true, decide_false, decide_eq_true_eq, decide_eq_false_iff_not, Bool.false_eq_true, i_lit, i_le, pk_mul, nI_add, oS_sI, gI_oS, upd_at, hA, e1, e2, e3, if_neg, fNz_n]
theorem m_draw {sm : fSt} {r n : Nat} {A : Nat → Int32} (hA : A 28 = nI r) (hr : r < 65536) (h0 : 0 < n) (hn : n < 2 ^ 31) : f_X12_draw (nI n) (oS sm 12 0 25 29 A) = some (nI (rnx r / 8 % n), oS sm 12 0 25 29 (upd A 28 (nI (rnx r)))) := by
  have e1 : nI (r * 2903 + 7187) - nI (r * 2903 + 7187) / nI 65536 * nI 65536 = nI (rnx r) := pk_rem (by omega) (by omega) (by omega)
  have hx := rnx_lt r
  have e2 : nI (rnx r) / nI 8 = nI (rnx r / 8) := pk_div (by omega) (by omega) (by omega)
  have e3 : nI (rnx r / 8) - nI (rnx r / 8) / nI n * nI n = nI (rnx r / 8 % n) := pk_rem (by omega) h0 hn
  unfold f_X12_draw
  simp (disch := omega) only [fLt_e, fBd_s, fJn_s, fNn_s, fNu_0, fNu_s, fBo_0, fBo_1, fBo_b, Nat.not_lt_zero, Nat.succ_ne_zero, Nat.add_one_ne_zero, Nat.add_one_sub_one, Nat.zero_le, Nat.or_zero, Nat.zero_or, Bool.not_true, Bool.not_false, Bool.true_and, Bool.false_and, Bool.and_true, Bool.and_false, ↓reduceIte, if_true, if_false, not_true_eq_false, not_false_eq_true, true_and, and_true, false_and, and_false, and_self, true_or, or_true, false_or, or_false, Nat.reduceEqDiff, Nat.reduceLT, Nat.reduceLeDiff, Nat.reduceAdd, Nat.reduceMul, Nat.reduceSub, Nat.add_zero, Nat.zero_add, Nat.mul_zero, Nat.zero_mul, ne_eq, Bool.not_eq_true, Bool.not_eq_false, reduceCtorEq, decide_true, decide_false, decide_eq_true_eq, decide_eq_false_iff_not, Bool.false_eq_true, i_lit, i_le, pk_mul, nI_add, oS_sI, gI_oS, upd_at, hA, e1, e2, e3, if_neg, fNz_n]
def glt (G : Nat → Nat) : Nat := zs (fun k => G (121 + k)) (G 3)
/-- the kind drawn by v, from kind k on, at most n further -/
def gdk (G : Nat → Nat) : Nat → Nat → Nat → Nat
  | 0, _, k => k
  | n + 1, v, k => if v < G (121 + k) then k else gdk G n (v - G (121 + k)) (k + 1)
theorem gdk_le (G : Nat → Nat) : ∀ n v k, gdk G n v k ≤ k + n := by
  intro n
  induction n with
  | zero => intro v k; exact Nat.le_refl _
  | succ n ih =>
    intro v k
    unfold gdk
    split
    · omega
    · have := ih (v - G (121 + k)) (k + 1)
      omega
/-- what a kind does, by a draw v -/
def gda (G : Nat → Nat) (k v : Nat) : Nat := if v < G (125 + k) then 1 else if v < G (125 + k) + G (129 + k) then 2 else if v < G (125 + k) + G (129 + k) + G (133 + k) then 3 else 0
theorem gda_lt (G : Nat → Nat) (k v : Nat) : gda G k v < 4 := by
  unfold gda
  repeat' split
  all_goals omega
section
variable {sc sm : fSt} {q : Nat} {G : Nat → Nat}
theorem x_lotsInAll (H : rStg sc q G) (w : gWf G) : f_X7_lotsInAll q sc = some (nI (glt G), sc) := by
  have h := w.1
  unfold f_X7_lotsInAll
  obtain ⟨m, e⟩ := lp_run (fun m (t : Int32 × Int32) => f_X7_lotsInAll_L4 q m t.1 t.2 sc) (fun t => (nI (zs (fun k => G (121 + k)) t), nI t)) (G 3) (fun m t ht => by
    show f_X7_lotsInAll_L4 q (m + 1) (nI (zs (fun k => G (121 + k)) t)) (nI t) sc = f_X7_lotsInAll_L4 q m (nI (zs (fun k => G (121 + k)) (t + 1))) (nI (t + 1)) sc
    rw [f_X7_lotsInAll_L4]
    simp (disch := omega) only [fLt_e, fBd_s, fJn_s, fNn_s, fNu_0, fNu_s, fBo_0, fBo_1, fBo_b, i_lit, i_neg1, nI_add, pk_mul, nI_clamp, i_le, i_lt, i_eq, fIx_n, nI_mI, mI_nI, mI_lt, nI_lt_m, mI_le, nI_le_m, xI_0, xI_s, bI_0, bI_1, bI_t, bI_f, n_31, j_bit, j_one, i_and, i_or, Nat.not_lt_zero, Nat.succ_ne_zero, Nat.add_one_ne_zero, Nat.add_one_sub_one, Nat.zero_le, Nat.or_zero, Nat.zero_or, Bool.not_true, Bool.not_false, Bool.true_and, Bool.false_and, Bool.and_true, Bool.and_false, ↓reduceIte, if_true, if_false, not_true_eq_false, not_false_eq_true, true_and, and_true, false_and, and_false, and_self, true_or, or_true, false_or, or_false, Nat.reduceEqDiff, Nat.reduceLT, Nat.reduceLeDiff, Nat.reduceAdd, Nat.reduceMul, Nat.reduceSub, Nat.add_zero, Nat.zero_add, Nat.mul_zero, Nat.zero_mul, ne_eq, Bool.not_eq_true, Bool.not_eq_false, reduceCtorEq, decide_true, decide_false, decide_eq_true_eq, decide_eq_false_iff_not, Bool.false_eq_true, if_pos, if_neg, H.1.2.2.2, (H.2.2.2 t ht).1, zs_s]) (fF_lt (by omega))
  refine Eq.trans e ?_
  show f_X7_lotsInAll_L4 q (m + 1) (nI (zs (fun k => G (121 + k)) (G 3))) (nI (G 3)) sc = _
  rw [f_X7_lotsInAll_L4]
  simp (disch := omega) only [fLt_e, fBd_s, fJn_s, fNn_s, fNu_0, fNu_s, fBo_0, fBo_1, fBo_b, i_lit, i_neg1, nI_add, pk_mul, nI_clamp, i_le, i_lt, i_eq, fIx_n, nI_mI, mI_nI, mI_lt, nI_lt_m, mI_le, nI_le_m, xI_0, xI_s, bI_0, bI_1, bI_t, bI_f, n_31, j_bit, j_one, i_and, i_or, Nat.not_lt_zero, Nat.succ_ne_zero, Nat.add_one_ne_zero, Nat.add_one_sub_one, Nat.zero_le, Nat.or_zero, Nat.zero_or, Bool.not_true, Bool.not_false, Bool.true_and, Bool.false_and, Bool.and_true, Bool.and_false, ↓reduceIte, if_true, if_false, not_true_eq_false, not_false_eq_true, true_and, and_true, false_and, and_false, and_self, true_or, or_true, false_or, or_false, Nat.reduceEqDiff, Nat.reduceLT, Nat.reduceLeDiff, Nat.reduceAdd, Nat.reduceMul, Nat.reduceSub, Nat.add_zero, Nat.zero_add, Nat.mul_zero, Nat.zero_mul, ne_eq, Bool.not_eq_true, Bool.not_eq_false, reduceCtorEq, decide_true, decide_false, decide_eq_true_eq, decide_eq_false_iff_not, Bool.false_eq_true, if_pos, if_neg, H.1.2.2.2]
  rfl
theorem m_allLots (B : rBlk (gA sm 12 0 5) G) (w : gWf G) : f_X12_allLots sm = some (nI (glt G), sm) := by
  have h := w.1
  unfold f_X12_allLots
  obtain ⟨m, e⟩ := lp_run (fun m (t : Int32 × Int32) => f_X12_allLots_L4 m t.1 t.2 sm) (fun t => (nI (zs (fun k => G (121 + k)) t), nI t)) (G 3) (fun m t ht => by
    show f_X12_allLots_L4 (m + 1) (nI (zs (fun k => G (121 + k)) t)) (nI t) sm = f_X12_allLots_L4 m (nI (zs (fun k => G (121 + k)) (t + 1))) (nI (t + 1)) sm
    rw [f_X12_allLots_L4]
    simp (disch := omega) only [fLt_e, fBd_s, fJn_s, fNn_s, fNu_0, fNu_s, fBo_0, fBo_1, fBo_b, i_lit, i_neg1, nI_add, pk_mul, nI_clamp, i_le, i_lt, i_eq, fIx_n, nI_mI, mI_nI, mI_lt, nI_lt_m, mI_le, nI_le_m, xI_0, xI_s, bI_0, bI_1, bI_t, bI_f, n_31, j_bit, j_one, i_and, i_or, Nat.not_lt_zero, Nat.succ_ne_zero, Nat.add_one_ne_zero, Nat.add_one_sub_one, Nat.zero_le, Nat.or_zero, Nat.zero_or, Bool.not_true, Bool.not_false, Bool.true_and, Bool.false_and, Bool.and_true, Bool.and_false, ↓reduceIte, if_true, if_false, not_true_eq_false, not_false_eq_true, true_and, and_true, false_and, and_false, and_self, true_or, or_true, false_or, or_false, Nat.reduceEqDiff, Nat.reduceLT, Nat.reduceLeDiff, Nat.reduceAdd, Nat.reduceMul, Nat.reduceSub, Nat.add_zero, Nat.zero_add, Nat.mul_zero, Nat.zero_mul, ne_eq, Bool.not_eq_true, Bool.not_eq_false, reduceCtorEq, decide_true, decide_false, decide_eq_true_eq, decide_eq_false_iff_not, Bool.false_eq_true, if_pos, if_neg, B.1.2.2.2.1, (B.2.2.2.1 t ht).1, zs_s]) (fF_lt (by omega))
  refine Eq.trans e ?_
  show f_X12_allLots_L4 (m + 1) (nI (zs (fun k => G (121 + k)) (G 3))) (nI (G 3)) sm = _
  rw [f_X12_allLots_L4]
  simp (disch := omega) only [fLt_e, fBd_s, fJn_s, fNn_s, fNu_0, fNu_s, fBo_0, fBo_1, fBo_b, i_lit, i_neg1, nI_add, pk_mul, nI_clamp, i_le, i_lt, i_eq, fIx_n, nI_mI, mI_nI, mI_lt, nI_lt_m, mI_le, nI_le_m, xI_0, xI_s, bI_0, bI_1, bI_t, bI_f, n_31, j_bit, j_one, i_and, i_or, Nat.not_lt_zero, Nat.succ_ne_zero, Nat.add_one_ne_zero, Nat.add_one_sub_one, Nat.zero_le, Nat.or_zero, Nat.zero_or, Bool.not_true, Bool.not_false, Bool.true_and, Bool.false_and, Bool.and_true, Bool.and_false, ↓reduceIte, if_true, if_false, not_true_eq_false, not_false_eq_true, true_and, and_true, false_and, and_false, and_self, true_or, or_true, false_or, or_false, Nat.reduceEqDiff, Nat.reduceLT, Nat.reduceLeDiff, Nat.reduceAdd, Nat.reduceMul, Nat.reduceSub, Nat.add_zero, Nat.zero_add, Nat.mul_zero, Nat.zero_mul, ne_eq, Bool.not_eq_true, Bool.not_eq_false, reduceCtorEq, decide_true, decide_false, decide_eq_true_eq, decide_eq_false_iff_not, Bool.false_eq_true, if_pos, if_neg, B.1.2.2.2.1]
  rfl
theorem glt_pos (w : gWf G) (h : 0 < G 3) : 0 < glt G ∧ glt G ≤ 120 := by
  have w1 := w.1
  have w3 := w.2.2.2.2.1
  constructor
  · have := zs_mono (fun k => G (121 + k)) (show 1 ≤ G 3 from h)
    have e : zs (fun k => G (121 + k)) 1 = G 121 := by simp [zs]
    have := (w3 0 h).1
    rw [Nat.add_zero] at this
    unfold glt
    omega
  · have := zs_le (f := fun k => G (121 + k)) (b := 30) (n := G 3) (fun k hk => (w3 k hk).1.2)
    unfold glt
    omega
theorem x_drawKindL (H : rStg sc q G) (w : gWf G) (k9 : Int32 → fSt → Option (Int32 × fSt)) : ∀ n v k m, v < 2 ^ 30 → k + n + 1 = G 3 → n < m → f_X3_drawKind_L11 q k9 m (nI v) (nI k) sc = k9 (nI (gdk G n v k)) sc := by
  intro n
  induction n with
  | zero =>
    intro v k m hv hk hm
    obtain ⟨m, rfl⟩ : ∃ m', m = m' + 1 := ⟨m - 1, by omega⟩
    have w1 := w.1
    have e : nI (G 3) - nI 1 = nI (G 3 - 1) := pk_sub (by omega)
    rw [f_X3_drawKind_L11]
    simp (disch := omega) only [fLt_e, fBd_s, fJn_s, fNn_s, fNu_0, fNu_s, fBo_0, fBo_1, fBo_b, i_lit, i_neg1, nI_add, pk_mul, nI_clamp, i_le, i_lt, i_eq, fIx_n, nI_mI, mI_nI, mI_lt, nI_lt_m, mI_le, nI_le_m, xI_0, xI_s, bI_0, bI_1, bI_t, bI_f, n_31, j_bit, j_one, i_and, i_or, Nat.not_lt_zero, Nat.succ_ne_zero, Nat.add_one_ne_zero, Nat.add_one_sub_one, Nat.zero_le, Nat.or_zero, Nat.zero_or, Bool.not_true, Bool.not_false, Bool.true_and, Bool.false_and, Bool.and_true, Bool.and_false, ↓reduceIte, if_true, if_false, not_true_eq_false, not_false_eq_true, true_and, and_true, false_and, and_false, and_self, true_or, or_true, false_or, or_false, Nat.reduceEqDiff, Nat.reduceLT, Nat.reduceLeDiff, Nat.reduceAdd, Nat.reduceMul, Nat.reduceSub, Nat.add_zero, Nat.zero_add, Nat.mul_zero, Nat.zero_mul, ne_eq, Bool.not_eq_true, Bool.not_eq_false, reduceCtorEq, decide_true, decide_false, decide_eq_true_eq, decide_eq_false_iff_not, Bool.false_eq_true, if_pos, if_neg, H.1.2.2.2, e]
    rfl
  | succ n ih =>
    intro v k m hv hk hm
    obtain ⟨m, rfl⟩ : ∃ m', m = m' + 1 := ⟨m - 1, by omega⟩
    have w1 := w.1
    have w3 := (w.2.2.2.2.1 k (by omega)).1
    have e : nI (G 3) - nI 1 = nI (G 3 - 1) := pk_sub (by omega)
    have e2 := (H.2.2.2 k (by omega)).1
    rw [f_X3_drawKind_L11]
    unfold gdk
    by_cases hc : v < G (121 + k)
    · simp (disch := omega) only [fLt_e, fBd_s, fJn_s, fNn_s, fNu_0, fNu_s, fBo_0, fBo_1, fBo_b, i_lit, i_neg1, nI_add, pk_mul, nI_clamp, i_le, i_lt, i_eq, fIx_n, nI_mI, mI_nI, mI_lt, nI_lt_m, mI_le, nI_le_m, xI_0, xI_s, bI_0, bI_1, bI_t, bI_f, n_31, j_bit, j_one, i_and, i_or, Nat.not_lt_zero, Nat.succ_ne_zero, Nat.add_one_ne_zero, Nat.add_one_sub_one, Nat.zero_le, Nat.or_zero, Nat.zero_or, Bool.not_true, Bool.not_false, Bool.true_and, Bool.false_and, Bool.and_true, Bool.and_false, ↓reduceIte, if_true, if_false, not_true_eq_false, not_false_eq_true, true_and, and_true, false_and, and_false, and_self, true_or, or_true, false_or, or_false, Nat.reduceEqDiff, Nat.reduceLT, Nat.reduceLeDiff, Nat.reduceAdd, Nat.reduceMul, Nat.reduceSub, Nat.add_zero, Nat.zero_add, Nat.mul_zero, Nat.zero_mul, ne_eq, Bool.not_eq_true, Bool.not_eq_false, reduceCtorEq, decide_true, decide_false, decide_eq_true_eq, decide_eq_false_iff_not, Bool.false_eq_true, if_pos, if_neg, H.1.2.2.2, e, e2, hc]
    · have e3 : nI v - nI (G (121 + k)) = nI (v - G (121 + k)) := pk_sub (by omega)
      simp (disch := omega) only [fLt_e, fBd_s, fJn_s, fNn_s, fNu_0, fNu_s, fBo_0, fBo_1, fBo_b, i_lit, i_neg1, nI_add, pk_mul, nI_clamp, i_le, i_lt, i_eq, fIx_n, nI_mI, mI_nI, mI_lt, nI_lt_m, mI_le, nI_le_m, xI_0, xI_s, bI_0, bI_1, bI_t, bI_f, n_31, j_bit, j_one, i_and, i_or, Nat.not_lt_zero, Nat.succ_ne_zero, Nat.add_one_ne_zero, Nat.add_one_sub_one, Nat.zero_le, Nat.or_zero, Nat.zero_or, Bool.not_true, Bool.not_false, Bool.true_and, Bool.false_and, Bool.and_true, Bool.and_false, ↓reduceIte, if_true, if_false, not_true_eq_false, not_false_eq_true, true_and, and_true, false_and, and_false, and_self, true_or, or_true, false_or, or_false, Nat.reduceEqDiff, Nat.reduceLT, Nat.reduceLeDiff, Nat.reduceAdd, Nat.reduceMul, Nat.reduceSub, Nat.add_zero, Nat.zero_add, Nat.mul_zero, Nat.zero_mul, ne_eq, Bool.not_eq_true, Bool.not_eq_false, reduceCtorEq, decide_true, decide_false, decide_eq_true_eq, decide_eq_false_iff_not, Bool.false_eq_true, if_pos, if_neg, H.1.2.2.2, e, e2, hc, e3]
      exact ih _ _ m (by omega) (by omega) (by omega)
theorem m_drawKindL (B : rBlk (gA sm 12 0 5) G) (w : gWf G) : ∀ n v k m, v + zs (fun j => G (121 + j)) k < glt G → k + n + 1 = G 3 → n < m → f_X12_drawnKind_L11 m (nI v) (nI k) sm = some (nI (gdk G n v k), sm) := by
  have hgl : glt G ≤ 120 ∨ G 3 = 0 := by
    by_cases h : 0 < G 3
    · exact Or.inl (glt_pos w h).2
    · exact Or.inr (by omega)
  intro n
  induction n with
  | zero =>
    intro v k m hv hk hm
    obtain ⟨m, rfl⟩ : ∃ m', m = m' + 1 := ⟨m - 1, by omega⟩
    have w1 := w.1
    have w3 := (w.2.2.2.2.1 k (by omega)).1
    have e2 := (B.2.2.2.1 k (by omega)).1
    have : glt G = zs (fun j => G (121 + j)) k + G (121 + k) := by
      unfold glt
      rw [← hk, Nat.add_zero, zs_s]
    rw [f_X12_drawnKind_L11]
    simp (disch := omega) only [fLt_e, fBd_s, fJn_s, fNn_s, fNu_0, fNu_s, fBo_0, fBo_1, fBo_b, i_lit, i_neg1, nI_add, pk_mul, nI_clamp, i_le, i_lt, i_eq, fIx_n, nI_mI, mI_nI, mI_lt, nI_lt_m, mI_le, nI_le_m, xI_0, xI_s, bI_0, bI_1, bI_t, bI_f, n_31, j_bit, j_one, i_and, i_or, Nat.not_lt_zero, Nat.succ_ne_zero, Nat.add_one_ne_zero, Nat.add_one_sub_one, Nat.zero_le, Nat.or_zero, Nat.zero_or, Bool.not_true, Bool.not_false, Bool.true_and, Bool.false_and, Bool.and_true, Bool.and_false, ↓reduceIte, if_true, if_false, not_true_eq_false, not_false_eq_true, true_and, and_true, false_and, and_false, and_self, true_or, or_true, false_or, or_false, Nat.reduceEqDiff, Nat.reduceLT, Nat.reduceLeDiff, Nat.reduceAdd, Nat.reduceMul, Nat.reduceSub, Nat.add_zero, Nat.zero_add, Nat.mul_zero, Nat.zero_mul, ne_eq, Bool.not_eq_true, Bool.not_eq_false, reduceCtorEq, decide_true, decide_false, decide_eq_true_eq, decide_eq_false_iff_not, Bool.false_eq_true, if_pos, if_neg, e2]
    rfl
  | succ n ih =>
    intro v k m hv hk hm
    obtain ⟨m, rfl⟩ : ∃ m', m = m' + 1 := ⟨m - 1, by omega⟩
    have w1 := w.1
    have w3 := (w.2.2.2.2.1 k (by omega)).1
    have e2 := (B.2.2.2.1 k (by omega)).1
    rw [f_X12_drawnKind_L11]
    unfold gdk
    by_cases hc : v < G (121 + k)
    · simp (disch := omega) only [fLt_e, fBd_s, fJn_s, fNn_s, fNu_0, fNu_s, fBo_0, fBo_1, fBo_b, i_lit, i_neg1, nI_add, pk_mul, nI_clamp, i_le, i_lt, i_eq, fIx_n, nI_mI, mI_nI, mI_lt, nI_lt_m, mI_le, nI_le_m, xI_0, xI_s, bI_0, bI_1, bI_t, bI_f, n_31, j_bit, j_one, i_and, i_or, Nat.not_lt_zero, Nat.succ_ne_zero, Nat.add_one_ne_zero, Nat.add_one_sub_one, Nat.zero_le, Nat.or_zero, Nat.zero_or, Bool.not_true, Bool.not_false, Bool.true_and, Bool.false_and, Bool.and_true, Bool.and_false, ↓reduceIte, if_true, if_false, not_true_eq_false, not_false_eq_true, true_and, and_true, false_and, and_false, and_self, true_or, or_true, false_or, or_false, Nat.reduceEqDiff, Nat.reduceLT, Nat.reduceLeDiff, Nat.reduceAdd, Nat.reduceMul, Nat.reduceSub, Nat.add_zero, Nat.zero_add, Nat.mul_zero, Nat.zero_mul, ne_eq, Bool.not_eq_true, Bool.not_eq_false, reduceCtorEq, decide_true, decide_false, decide_eq_true_eq, decide_eq_false_iff_not, Bool.false_eq_true, if_pos, if_neg, e2, hc]
    · have e3 : nI v - nI (G (121 + k)) = nI (v - G (121 + k)) := pk_sub (by omega)
      simp (disch := omega) only [fLt_e, fBd_s, fJn_s, fNn_s, fNu_0, fNu_s, fBo_0, fBo_1, fBo_b, i_lit, i_neg1, nI_add, pk_mul, nI_clamp, i_le, i_lt, i_eq, fIx_n, nI_mI, mI_nI, mI_lt, nI_lt_m, mI_le, nI_le_m, xI_0, xI_s, bI_0, bI_1, bI_t, bI_f, n_31, j_bit, j_one, i_and, i_or, Nat.not_lt_zero, Nat.succ_ne_zero, Nat.add_one_ne_zero, Nat.add_one_sub_one, Nat.zero_le, Nat.or_zero, Nat.zero_or, Bool.not_true, Bool.not_false, Bool.true_and, Bool.false_and, Bool.and_true, Bool.and_false, ↓reduceIte, if_true, if_false, not_true_eq_false, not_false_eq_true, true_and, and_true, false_and, and_false, and_self, true_or, or_true, false_or, or_false, Nat.reduceEqDiff, Nat.reduceLT, Nat.reduceLeDiff, Nat.reduceAdd, Nat.reduceMul, Nat.reduceSub, Nat.add_zero, Nat.zero_add, Nat.mul_zero, Nat.zero_mul, ne_eq, Bool.not_eq_true, Bool.not_eq_false, reduceCtorEq, decide_true, decide_false, decide_eq_true_eq, decide_eq_false_iff_not, Bool.false_eq_true, if_pos, if_neg, e2, hc, e3]
      exact ih _ _ m (by rw [zs_s]; omega) (by omega) (by omega)
theorem x_drawKind (H : rHou sc 0 q G) (w : gWf G) (h3 : 0 < G 3) {i r : Nat} {A : Nat → Int32} (hA : A 6 = nI r) (hr : r < 65536) : f_X3_drawKind i q (oS sc 3 i 0 7 A) = some (nI (gdk G (G 3 - 1) (rnx r / 8 % glt G) 0), oS sc 3 i 0 7 (upd A 6 (nI (rnx r)))) := by
  have g1 := glt_pos w h3
  have hm : rnx r / 8 % glt G < glt G := Nat.mod_lt _ g1.1
  unfold f_X3_drawKind
  rw [x_lotsInAll (rStg_oS H.2.1) w, fBd_s, x_draw hA hr g1.1 (by omega)]
  simp only [fBd_s, fLt_e, fJn_s, i_lit]
  exact x_drawKindL (rStg_oS H.2.1) w _ (G 3 - 1) _ 0 fF (by omega) (by omega) (fF_lt (by have := w.1; omega))
theorem m_drawnKind (B : rBlk (gA sm 12 0 5) G) (w : gWf G) (h3 : 0 < G 3) {r : Nat} {A : Nat → Int32} (hA : A 28 = nI r) (hr : r < 65536) : f_X12_drawnKind (oS sm 12 0 25 29 A) = some (nI (gdk G (G 3 - 1) (rnx r / 8 % glt G) 0), oS sm 12 0 25 29 (upd A 28 (nI (rnx r)))) := by
  have g1 := glt_pos w h3
  have hm : rnx r / 8 % glt G < glt G := Nat.mod_lt _ g1.1
  unfold f_X12_drawnKind
  rw [m_allLots (rBlk_oS B) w, fBd_s, m_draw hA hr g1.1 (by omega)]
  simp only [fBd_s, fLt_e, fJn_s, i_lit]
  exact m_drawKindL (rBlk_oS B) w (G 3 - 1) _ 0 fF (by rw [zs_0]; omega) (by omega) (fF_lt (by have := w.1; omega))
theorem x_drawDeed (H : rStg sc q G) (w : gWf G) {i r k : Nat} (hk : k < G 3) {A : Nat → Int32} (hA : A 6 = nI r) (hr : r < 65536) : f_X3_drawDeed i q (nI k) (oS sc 3 i 0 7 A) = some (nI (gda G k (rnx r / 8 % 16)), oS sc 3 i 0 7 (upd A 6 (nI (rnx r)))) := by
  have w1 := w.1
  have w3 := (w.2.2.2.2.1 k hk).2
  obtain ⟨-, -, e1, e2, e3⟩ := (rStg_oS (i := i) (lo := 0) (hi := 7) (a := upd A 6 (nI (rnx r))) H).2.2.2 k hk
  have hv : rnx r / 8 % 16 < 16 := Nat.mod_lt _ (by omega)
  obtain ⟨m, hm⟩ := fF_s (n := 4) (by omega)
  have hF : fF = m + 1 + 1 + 1 + 1 + 1 := by omega
  unfold f_X3_drawDeed
  rw [show (16 : Int32) = nI 16 from rfl, x_draw hA hr (by omega) (by omega)]
  simp only [fBd_s, fLt_e, hF, i_lit]
  generalize rnx r / 8 % 16 = v at *
  unfold gda
  rw [f_X3_drawDeed_L10]
  by_cases h1 : v < G (125 + k)
  · simp (disch := omega) only [fLt_e, fBd_s, fJn_s, fNn_s, fNu_0, fNu_s, fBo_0, fBo_1, fBo_b, i_lit, i_neg1, nI_add, pk_mul, nI_clamp, i_le, i_lt, i_eq, fIx_n, nI_mI, mI_nI, mI_lt, nI_lt_m, mI_le, nI_le_m, xI_0, xI_s, bI_0, bI_1, bI_t, bI_f, n_31, j_bit, j_one, i_and, i_or, Nat.not_lt_zero, Nat.succ_ne_zero, Nat.add_one_ne_zero, Nat.add_one_sub_one, Nat.zero_le, Nat.or_zero, Nat.zero_or, Bool.not_true, Bool.not_false, Bool.true_and, Bool.false_and, Bool.and_true, Bool.and_false, ↓reduceIte, if_true, if_false, not_true_eq_false, not_false_eq_true, true_and, and_true, false_and, and_false, and_self, true_or, or_true, false_or, or_false, Nat.reduceEqDiff, Nat.reduceLT, Nat.reduceLeDiff, Nat.reduceAdd, Nat.reduceMul, Nat.reduceSub, Nat.add_zero, Nat.zero_add, Nat.mul_zero, Nat.zero_mul, ne_eq, Bool.not_eq_true, Bool.not_eq_false, reduceCtorEq, decide_true, decide_false, decide_eq_true_eq, decide_eq_false_iff_not, Bool.false_eq_true, if_pos, if_neg, e1, h1]
  · have d1 : nI v - nI (G (125 + k)) = nI (v - G (125 + k)) := pk_sub (by omega)
    simp (disch := omega) only [fLt_e, fBd_s, fJn_s, fNn_s, fNu_0, fNu_s, fBo_0, fBo_1, fBo_b, i_lit, i_neg1, nI_add, pk_mul, nI_clamp, i_le, i_lt, i_eq, fIx_n, nI_mI, mI_nI, mI_lt, nI_lt_m, mI_le, nI_le_m, xI_0, xI_s, bI_0, bI_1, bI_t, bI_f, n_31, j_bit, j_one, i_and, i_or, Nat.not_lt_zero, Nat.succ_ne_zero, Nat.add_one_ne_zero, Nat.add_one_sub_one, Nat.zero_le, Nat.or_zero, Nat.zero_or, Bool.not_true, Bool.not_false, Bool.true_and, Bool.false_and, Bool.and_true, Bool.and_false, ↓reduceIte, if_true, if_false, not_true_eq_false, not_false_eq_true, true_and, and_true, false_and, and_false, and_self, true_or, or_true, false_or, or_false, Nat.reduceEqDiff, Nat.reduceLT, Nat.reduceLeDiff, Nat.reduceAdd, Nat.reduceMul, Nat.reduceSub, Nat.add_zero, Nat.zero_add, Nat.mul_zero, Nat.zero_mul, ne_eq, Bool.not_eq_true, Bool.not_eq_false, reduceCtorEq, decide_true, decide_false, decide_eq_true_eq, decide_eq_false_iff_not, Bool.false_eq_true, if_pos, if_neg, e1, h1, d1]
    rw [f_X3_drawDeed_L10]
    by_cases h2 : v < G (125 + k) + G (129 + k)
    · simp (disch := omega) only [fLt_e, fBd_s, fJn_s, fNn_s, fNu_0, fNu_s, fBo_0, fBo_1, fBo_b, i_lit, i_neg1, nI_add, pk_mul, nI_clamp, i_le, i_lt, i_eq, fIx_n, nI_mI, mI_nI, mI_lt, nI_lt_m, mI_le, nI_le_m, xI_0, xI_s, bI_0, bI_1, bI_t, bI_f, n_31, j_bit, j_one, i_and, i_or, Nat.not_lt_zero, Nat.succ_ne_zero, Nat.add_one_ne_zero, Nat.add_one_sub_one, Nat.zero_le, Nat.or_zero, Nat.zero_or, Bool.not_true, Bool.not_false, Bool.true_and, Bool.false_and, Bool.and_true, Bool.and_false, ↓reduceIte, if_true, if_false, not_true_eq_false, not_false_eq_true, true_and, and_true, false_and, and_false, and_self, true_or, or_true, false_or, or_false, Nat.reduceEqDiff, Nat.reduceLT, Nat.reduceLeDiff, Nat.reduceAdd, Nat.reduceMul, Nat.reduceSub, Nat.add_zero, Nat.zero_add, Nat.mul_zero, Nat.zero_mul, ne_eq, Bool.not_eq_true, Bool.not_eq_false, reduceCtorEq, decide_true, decide_false, decide_eq_true_eq, decide_eq_false_iff_not, Bool.false_eq_true, if_pos, if_neg, e2, h2]
    · have d2 : nI (v - G (125 + k)) - nI (G (129 + k)) = nI (v - G (125 + k) - G (129 + k)) := pk_sub (by omega)
      simp (disch := omega) only [fLt_e, fBd_s, fJn_s, fNn_s, fNu_0, fNu_s, fBo_0, fBo_1, fBo_b, i_lit, i_neg1, nI_add, pk_mul, nI_clamp, i_le, i_lt, i_eq, fIx_n, nI_mI, mI_nI, mI_lt, nI_lt_m, mI_le, nI_le_m, xI_0, xI_s, bI_0, bI_1, bI_t, bI_f, n_31, j_bit, j_one, i_and, i_or, Nat.not_lt_zero, Nat.succ_ne_zero, Nat.add_one_ne_zero, Nat.add_one_sub_one, Nat.zero_le, Nat.or_zero, Nat.zero_or, Bool.not_true, Bool.not_false, Bool.true_and, Bool.false_and, Bool.and_true, Bool.and_false, ↓reduceIte, if_true, if_false, not_true_eq_false, not_false_eq_true, true_and, and_true, false_and, and_false, and_self, true_or, or_true, false_or, or_false, Nat.reduceEqDiff, Nat.reduceLT, Nat.reduceLeDiff, Nat.reduceAdd, Nat.reduceMul, Nat.reduceSub, Nat.add_zero, Nat.zero_add, Nat.mul_zero, Nat.zero_mul, ne_eq, Bool.not_eq_true, Bool.not_eq_false, reduceCtorEq, decide_true, decide_false, decide_eq_true_eq, decide_eq_false_iff_not, Bool.false_eq_true, if_pos, if_neg, e2, h2, d2]
      rw [f_X3_drawDeed_L10]
      by_cases h3 : v < G (125 + k) + G (129 + k) + G (133 + k)
      · simp (disch := omega) only [fLt_e, fBd_s, fJn_s, fNn_s, fNu_0, fNu_s, fBo_0, fBo_1, fBo_b, i_lit, i_neg1, nI_add, pk_mul, nI_clamp, i_le, i_lt, i_eq, fIx_n, nI_mI, mI_nI, mI_lt, nI_lt_m, mI_le, nI_le_m, xI_0, xI_s, bI_0, bI_1, bI_t, bI_f, n_31, j_bit, j_one, i_and, i_or, Nat.not_lt_zero, Nat.succ_ne_zero, Nat.add_one_ne_zero, Nat.add_one_sub_one, Nat.zero_le, Nat.or_zero, Nat.zero_or, Bool.not_true, Bool.not_false, Bool.true_and, Bool.false_and, Bool.and_true, Bool.and_false, ↓reduceIte, if_true, if_false, not_true_eq_false, not_false_eq_true, true_and, and_true, false_and, and_false, and_self, true_or, or_true, false_or, or_false, Nat.reduceEqDiff, Nat.reduceLT, Nat.reduceLeDiff, Nat.reduceAdd, Nat.reduceMul, Nat.reduceSub, Nat.add_zero, Nat.zero_add, Nat.mul_zero, Nat.zero_mul, ne_eq, Bool.not_eq_true, Bool.not_eq_false, reduceCtorEq, decide_true, decide_false, decide_eq_true_eq, decide_eq_false_iff_not, Bool.false_eq_true, if_pos, if_neg, e3, h3]
      · simp (disch := omega) only [fLt_e, fBd_s, fJn_s, fNn_s, fNu_0, fNu_s, fBo_0, fBo_1, fBo_b, i_lit, i_neg1, nI_add, pk_mul, nI_clamp, i_le, i_lt, i_eq, fIx_n, nI_mI, mI_nI, mI_lt, nI_lt_m, mI_le, nI_le_m, xI_0, xI_s, bI_0, bI_1, bI_t, bI_f, n_31, j_bit, j_one, i_and, i_or, Nat.not_lt_zero, Nat.succ_ne_zero, Nat.add_one_ne_zero, Nat.add_one_sub_one, Nat.zero_le, Nat.or_zero, Nat.zero_or, Bool.not_true, Bool.not_false, Bool.true_and, Bool.false_and, Bool.and_true, Bool.and_false, ↓reduceIte, if_true, if_false, not_true_eq_false, not_false_eq_true, true_and, and_true, false_and, and_false, and_self, true_or, or_true, false_or, or_false, Nat.reduceEqDiff, Nat.reduceLT, Nat.reduceLeDiff, Nat.reduceAdd, Nat.reduceMul, Nat.reduceSub, Nat.add_zero, Nat.zero_add, Nat.mul_zero, Nat.zero_mul, ne_eq, Bool.not_eq_true, Bool.not_eq_false, reduceCtorEq, decide_true, decide_false, decide_eq_true_eq, decide_eq_false_iff_not, Bool.false_eq_true, if_pos, if_neg, e3, h3]
        rw [f_X3_drawDeed_L10]
        simp (disch := omega) only [fLt_e, fBd_s, fJn_s, fNn_s, fNu_0, fNu_s, fBo_0, fBo_1, fBo_b, i_lit, i_neg1, nI_add, pk_mul, nI_clamp, i_le, i_lt, i_eq, fIx_n, nI_mI, mI_nI, mI_lt, nI_lt_m, mI_le, nI_le_m, xI_0, xI_s, bI_0, bI_1, bI_t, bI_f, n_31, j_bit, j_one, i_and, i_or, Nat.not_lt_zero, Nat.succ_ne_zero, Nat.add_one_ne_zero, Nat.add_one_sub_one, Nat.zero_le, Nat.or_zero, Nat.zero_or, Bool.not_true, Bool.not_false, Bool.true_and, Bool.false_and, Bool.and_true, Bool.and_false, ↓reduceIte, if_true, if_false, not_true_eq_false, not_false_eq_true, true_and, and_true, false_and, and_false, and_self, true_or, or_true, false_or, or_false, Nat.reduceEqDiff, Nat.reduceLT, Nat.reduceLeDiff, Nat.reduceAdd, Nat.reduceMul, Nat.reduceSub, Nat.add_zero, Nat.zero_add, Nat.mul_zero, Nat.zero_mul, ne_eq, Bool.not_eq_true, Bool.not_eq_false, reduceCtorEq, decide_true, decide_false, decide_eq_true_eq, decide_eq_false_iff_not, Bool.false_eq_true, if_pos, if_neg]
theorem m_drawnAct (B : rBlk (gA sm 12 0 5) G) (w : gWf G) {r k : Nat} (hk : k < G 3) {A : Nat → Int32} (hA : A 28 = nI r) (hr : r < 65536) : f_X12_drawnAct (nI k) (oS sm 12 0 25 29 A) = some (nI (gda G k (rnx r / 8 % 16)), oS sm 12 0 25 29 (upd A 28 (nI (rnx r)))) := by
  have w1 := w.1
  have w3 := (w.2.2.2.2.1 k hk).2
  obtain ⟨-, e1, e2, e3⟩ := B.2.2.2.1 k hk
  have hv : rnx r / 8 % 16 < 16 := Nat.mod_lt _ (by omega)
  unfold f_X12_drawnAct
  rw [show (16 : Int32) = nI 16 from rfl, m_draw hA hr (by omega) (by omega)]
  simp only [fBd_s, fLt_e, gA_oS]
  generalize rnx r / 8 % 16 = v at *
  unfold gda
  by_cases h1 : v < G (125 + k)
  · simp (disch := omega) only [fLt_e, fBd_s, fJn_s, fNn_s, fNu_0, fNu_s, fBo_0, fBo_1, fBo_b, i_lit, i_neg1, nI_add, pk_mul, nI_clamp, i_le, i_lt, i_eq, fIx_n, nI_mI, mI_nI, mI_lt, nI_lt_m, mI_le, nI_le_m, xI_0, xI_s, bI_0, bI_1, bI_t, bI_f, n_31, j_bit, j_one, i_and, i_or, Nat.not_lt_zero, Nat.succ_ne_zero, Nat.add_one_ne_zero, Nat.add_one_sub_one, Nat.zero_le, Nat.or_zero, Nat.zero_or, Bool.not_true, Bool.not_false, Bool.true_and, Bool.false_and, Bool.and_true, Bool.and_false, ↓reduceIte, if_true, if_false, not_true_eq_false, not_false_eq_true, true_and, and_true, false_and, and_false, and_self, true_or, or_true, false_or, or_false, Nat.reduceEqDiff, Nat.reduceLT, Nat.reduceLeDiff, Nat.reduceAdd, Nat.reduceMul, Nat.reduceSub, Nat.add_zero, Nat.zero_add, Nat.mul_zero, Nat.zero_mul, ne_eq, Bool.not_eq_true, Bool.not_eq_false, reduceCtorEq, decide_true, decide_false, decide_eq_true_eq, decide_eq_false_iff_not, Bool.false_eq_true, if_pos, if_neg, e1, e2, e3, h1]
  · by_cases h2 : v < G (125 + k) + G (129 + k)
    · simp (disch := omega) only [fLt_e, fBd_s, fJn_s, fNn_s, fNu_0, fNu_s, fBo_0, fBo_1, fBo_b, i_lit, i_neg1, nI_add, pk_mul, nI_clamp, i_le, i_lt, i_eq, fIx_n, nI_mI, mI_nI, mI_lt, nI_lt_m, mI_le, nI_le_m, xI_0, xI_s, bI_0, bI_1, bI_t, bI_f, n_31, j_bit, j_one, i_and, i_or, Nat.not_lt_zero, Nat.succ_ne_zero, Nat.add_one_ne_zero, Nat.add_one_sub_one, Nat.zero_le, Nat.or_zero, Nat.zero_or, Bool.not_true, Bool.not_false, Bool.true_and, Bool.false_and, Bool.and_true, Bool.and_false, ↓reduceIte, if_true, if_false, not_true_eq_false, not_false_eq_true, true_and, and_true, false_and, and_false, and_self, true_or, or_true, false_or, or_false, Nat.reduceEqDiff, Nat.reduceLT, Nat.reduceLeDiff, Nat.reduceAdd, Nat.reduceMul, Nat.reduceSub, Nat.add_zero, Nat.zero_add, Nat.mul_zero, Nat.zero_mul, ne_eq, Bool.not_eq_true, Bool.not_eq_false, reduceCtorEq, decide_true, decide_false, decide_eq_true_eq, decide_eq_false_iff_not, Bool.false_eq_true, if_pos, if_neg, e1, e2, e3, h1, h2]
    · by_cases h3 : v < G (125 + k) + G (129 + k) + G (133 + k)
      · simp (disch := omega) only [fLt_e, fBd_s, fJn_s, fNn_s, fNu_0, fNu_s, fBo_0, fBo_1, fBo_b, i_lit, i_neg1, nI_add, pk_mul, nI_clamp, i_le, i_lt, i_eq, fIx_n, nI_mI, mI_nI, mI_lt, nI_lt_m, mI_le, nI_le_m, xI_0, xI_s, bI_0, bI_1, bI_t, bI_f, n_31, j_bit, j_one, i_and, i_or, Nat.not_lt_zero, Nat.succ_ne_zero, Nat.add_one_ne_zero, Nat.add_one_sub_one, Nat.zero_le, Nat.or_zero, Nat.zero_or, Bool.not_true, Bool.not_false, Bool.true_and, Bool.false_and, Bool.and_true, Bool.and_false, ↓reduceIte, if_true, if_false, not_true_eq_false, not_false_eq_true, true_and, and_true, false_and, and_false, and_self, true_or, or_true, false_or, or_false, Nat.reduceEqDiff, Nat.reduceLT, Nat.reduceLeDiff, Nat.reduceAdd, Nat.reduceMul, Nat.reduceSub, Nat.add_zero, Nat.zero_add, Nat.mul_zero, Nat.zero_mul, ne_eq, Bool.not_eq_true, Bool.not_eq_false, reduceCtorEq, decide_true, decide_false, decide_eq_true_eq, decide_eq_false_iff_not, Bool.false_eq_true, if_pos, if_neg, e1, e2, e3, h1, h2, h3]
      · simp (disch := omega) only [fLt_e, fBd_s, fJn_s, fNn_s, fNu_0, fNu_s, fBo_0, fBo_1, fBo_b, i_lit, i_neg1, nI_add, pk_mul, nI_clamp, i_le, i_lt, i_eq, fIx_n, nI_mI, mI_nI, mI_lt, nI_lt_m, mI_le, nI_le_m, xI_0, xI_s, bI_0, bI_1, bI_t, bI_f, n_31, j_bit, j_one, i_and, i_or, Nat.not_lt_zero, Nat.succ_ne_zero, Nat.add_one_ne_zero, Nat.add_one_sub_one, Nat.zero_le, Nat.or_zero, Nat.zero_or, Bool.not_true, Bool.not_false, Bool.true_and, Bool.false_and, Bool.and_true, Bool.and_false, ↓reduceIte, if_true, if_false, not_true_eq_false, not_false_eq_true, true_and, and_true, false_and, and_false, and_self, true_or, or_true, false_or, or_false, Nat.reduceEqDiff, Nat.reduceLT, Nat.reduceLeDiff, Nat.reduceAdd, Nat.reduceMul, Nat.reduceSub, Nat.add_zero, Nat.zero_add, Nat.mul_zero, Nat.zero_mul, ne_eq, Bool.not_eq_true, Bool.not_eq_false, reduceCtorEq, decide_true, decide_false, decide_eq_true_eq, decide_eq_false_iff_not, Bool.false_eq_true, if_pos, if_neg, e1, e2, e3, h1, h2, h3]
def lsq (G : Nat → Nat) (kd : Nat) (_ : Nat) (t : pSt) : pSt := if t.1 = 0 then t else gst G (gda G kd (rnx t.2.2.2.2.2 / 8 % 16)) (rnx t.2.2.2.2.2) t
theorem lst_0 (G : Nat → Nat) (kd : Nat) : ∀ n k (t : pSt), t.1 = 0 → itq (lsq G kd) n k t = t := by
  intro n
  induction n with
  | zero => intro k t _; rfl
  | succ n ih =>
    intro k t h
    show itq (lsq G kd) n (k + 1) (lsq G kd k t) = t
    have : lsq G kd k t = t := if_pos h
    rw [this]
    exact ih _ _ h
theorem x_lotL (H : rHou sc 0 q G) (w : gWf G) {i kd : Nat} (hkd : kd < G 3) (k4 : fSt → Option (Unit × fSt)) (who : Int32) : ∀ n k (t : pSt) m, k + n = 12 → pOk G t → n < m → f_X3_playFor_L8 i 0 (nI kd) k4 m (nI k) (oS sc 3 i 0 7 (aNi t who (nI t.2.2.2.2.2))) = k4 (oS sc 3 i 0 7 (aNi (itq (lsq G kd) n k t) who (nI (itq (lsq G kd) n k t).2.2.2.2.2))) := by
  intro n
  induction n with
  | zero =>
    intro k t m hk ht hm
    obtain ⟨m, rfl⟩ : ∃ m', m = m' + 1 := ⟨m - 1, by omega⟩
    rw [f_X3_playFor_L8]
    simp (disch := omega) only [fLt_e, fBd_s, fJn_s, fNn_s, fNu_0, fNu_s, fBo_0, fBo_1, fBo_b, i_lit, i_neg1, nI_add, pk_mul, nI_clamp, i_le, i_lt, i_eq, fIx_n, nI_mI, mI_nI, mI_lt, nI_lt_m, mI_le, nI_le_m, xI_0, xI_s, bI_0, bI_1, bI_t, bI_f, n_31, j_bit, j_one, i_and, i_or, Nat.not_lt_zero, Nat.succ_ne_zero, Nat.add_one_ne_zero, Nat.add_one_sub_one, Nat.zero_le, Nat.or_zero, Nat.zero_or, Bool.not_true, Bool.not_false, Bool.true_and, Bool.false_and, Bool.and_true, Bool.and_false, ↓reduceIte, if_true, if_false, not_true_eq_false, not_false_eq_true, true_and, and_true, false_and, and_false, and_self, true_or, or_true, false_or, or_false, Nat.reduceEqDiff, Nat.reduceLT, Nat.reduceLeDiff, Nat.reduceAdd, Nat.reduceMul, Nat.reduceSub, Nat.add_zero, Nat.zero_add, Nat.mul_zero, Nat.zero_mul, ne_eq, Bool.not_eq_true, Bool.not_eq_false, reduceCtorEq, decide_true, decide_false, decide_eq_true_eq, decide_eq_false_iff_not, Bool.false_eq_true, if_pos, if_neg]
    rfl
  | succ n ih =>
    intro k t m hk ht hnm
    obtain ⟨m, rfl⟩ : ∃ m', m = m' + 1 := ⟨m - 1, by omega⟩
    have w1 := w.1
    have a1 := ht.1
    rw [f_X3_playFor_L8]
    by_cases hz : t.1 = 0
    · simp (disch := omega) only [fLt_e, fBd_s, fJn_s, fNn_s, fNu_0, fNu_s, fBo_0, fBo_1, fBo_b, i_lit, i_neg1, nI_add, pk_mul, nI_clamp, i_le, i_lt, i_eq, fIx_n, nI_mI, mI_nI, mI_lt, nI_lt_m, mI_le, nI_le_m, xI_0, xI_s, bI_0, bI_1, bI_t, bI_f, n_31, j_bit, j_one, i_and, i_or, Nat.not_lt_zero, Nat.succ_ne_zero, Nat.add_one_ne_zero, Nat.add_one_sub_one, Nat.zero_le, Nat.or_zero, Nat.zero_or, Bool.not_true, Bool.not_false, Bool.true_and, Bool.false_and, Bool.and_true, Bool.and_false, ↓reduceIte, if_true, if_false, not_true_eq_false, not_false_eq_true, true_and, and_true, false_and, and_false, and_self, true_or, or_true, false_or, or_false, Nat.reduceEqDiff, Nat.reduceLT, Nat.reduceLeDiff, Nat.reduceAdd, Nat.reduceMul, Nat.reduceSub, Nat.add_zero, Nat.zero_add, Nat.mul_zero, Nat.zero_mul, ne_eq, Bool.not_eq_true, Bool.not_eq_false, reduceCtorEq, decide_true, decide_false, decide_eq_true_eq, decide_eq_false_iff_not, Bool.false_eq_true, if_pos, if_neg, gI_oS, aNi, hz]
      rw [lst_0 G kd _ _ _ hz]
    · have hp : 0 < t.1 := by omega
      have hx : ¬ xI t.1 = mI := by
        rw [← xI_0, xI_eq (by omega) (by omega)]
        exact hz
      have hr := ht.2.2.2.2.2
      have hdd := x_drawDeed H.2.1 w (i := i) hkd (A := aNi t who (nI t.2.2.2.2.2)) rfl hr
      have hn1 : oS sc 3 i 0 7 (upd (aNi t who (nI t.2.2.2.2.2)) 6 (nI (rnx t.2.2.2.2.2))) = oS sc 3 i 0 7 (aNi t who (nI (rnx t.2.2.2.2.2))) := oS_ext fun j _ hj => by
        rw [upd_at]
        rcases (show j = 0 ∨ j = 1 ∨ j = 2 ∨ j = 3 ∨ j = 4 ∨ j = 5 ∨ j = 6 by omega) with rfl | rfl | rfl | rfl | rfl | rfl | rfl <;> rfl
      have hps := x_playScene H w (i := i) hp ht (gda_lt G kd (rnx t.2.2.2.2.2 / 8 % 16)) (rnx t.2.2.2.2.2) who (nI (rnx t.2.2.2.2.2))
      have hst' : lsq G kd k t = gst G (gda G kd (rnx t.2.2.2.2.2 / 8 % 16)) (rnx t.2.2.2.2.2) t := if_neg hz
      have hg := gst_ok w hp ht (gda_lt G kd (rnx t.2.2.2.2.2 / 8 % 16)) (rnx_lt t.2.2.2.2.2)
      have key := ih (k + 1) _ m (by omega) hg (by omega)
      simp (disch := omega) only [fLt_e, fBd_s, fJn_s, fNn_s, fNu_0, fNu_s, fBo_0, fBo_1, fBo_b, i_lit, i_neg1, nI_add, pk_mul, nI_clamp, i_le, i_lt, i_eq, fIx_n, nI_mI, mI_nI, mI_lt, nI_lt_m, mI_le, nI_le_m, xI_0, xI_s, bI_0, bI_1, bI_t, bI_f, n_31, j_bit, j_one, i_and, i_or, Nat.not_lt_zero, Nat.succ_ne_zero, Nat.add_one_ne_zero, Nat.add_one_sub_one, Nat.zero_le, Nat.or_zero, Nat.zero_or, Bool.not_true, Bool.not_false, Bool.true_and, Bool.false_and, Bool.and_true, Bool.and_false, ↓reduceIte, if_true, if_false, not_true_eq_false, not_false_eq_true, true_and, and_true, false_and, and_false, and_self, true_or, or_true, false_or, or_false, Nat.reduceEqDiff, Nat.reduceLT, Nat.reduceLeDiff, Nat.reduceAdd, Nat.reduceMul, Nat.reduceSub, Nat.add_zero, Nat.zero_add, Nat.mul_zero, Nat.zero_mul, ne_eq, Bool.not_eq_true, Bool.not_eq_false, reduceCtorEq, decide_true, decide_false, decide_eq_true_eq, decide_eq_false_iff_not, Bool.false_eq_true, if_pos, if_neg, gI_oS, gP_oS, H.1, aNi, hx, hdd, hn1, hps]
      refine Eq.trans key ?_
      show _ = k4 (oS sc 3 i 0 7 (aNi (itq (lsq G kd) n (k + 1) (lsq G kd k t)) who (nI (itq (lsq G kd) n (k + 1) (lsq G kd k t)).2.2.2.2.2)))
      rw [hst']
theorem m_lotL (B : rBlk (gA sm 12 0 5) G) (w : gWf G) {kd : Nat} (hkd : kd < G 3) : ∀ n k (t : pSt) m kl (A : Nat → Int32), t.1 ≤ n → k + n ≤ 12 → pOk G t → kl < 64 → t.2.1 = G 5 ||| kl → n < m → A 25 = nI t.2.2.1 → A 27 = nI t.2.2.2.2.1 → A 28 = nI t.2.2.2.2.2 → (t.1 = 0 → A 26 = xI t.2.2.2.1) → f_X12_playFor_L15 (nI kd) m (xI t.1) (nI kl) (oS sm 12 0 25 29 A) = fBd (f_X12_books (nI kd) (oS sm 12 0 25 29 (aM (itq (lsq G kd) n k t) (nI (itq (lsq G kd) n k t).2.2.2.2.2)))) fun _ s21 => some ((), s21) := by
  intro n
  induction n with
  | zero =>
    intro k t m kl A htn hk ht hkl hg hm A1 A2 A3 A4
    obtain ⟨m, rfl⟩ : ∃ m', m = m' + 1 := ⟨m - 1, by omega⟩
    have hz : t.1 = 0 := by omega
    rw [f_X12_playFor_L15]
    rw [hz, xI_0, if_pos (by decide), ms_end A1 A2 A3 (A4 hz)]
    rfl
  | succ n ih =>
    intro k t m kl A htn hk ht hkl hg hnm A1 A2 A3 A4
    obtain ⟨m, rfl⟩ : ∃ m', m = m' + 1 := ⟨m - 1, by omega⟩
    have w1 := w.1
    have w2 := w.2.1
    have a1 := ht.1
    rw [f_X12_playFor_L15]
    by_cases hz : t.1 = 0
    · rw [hz, xI_0, if_pos (by decide), ms_end A1 A2 A3 (A4 hz), lst_0 G kd _ _ _ hz]
    · have hp : 0 < t.1 := by omega
      obtain ⟨s, hs⟩ : ∃ s, t.1 = s + 1 := ⟨t.1 - 1, by omega⟩
      have hs2 : s < G 2 := by omega
      have hr := ht.2.2.2.2.2
      have hd4 := gda_lt G kd (rnx t.2.2.2.2.2 / 8 % 16)
      have hse := m_sees B w hp ht (gda G kd (rnx t.2.2.2.2.2 / 8 % 16)) (rnx t.2.2.2.2.2) A1 A2
      rw [show t.1 - 1 = s by omega, A3] at hse
      have hda := m_drawnAct B w hkd (A := aM (gst G (gda G kd (rnx t.2.2.2.2.2 / 8 % 16)) (rnx t.2.2.2.2.2) t) (nI t.2.2.2.2.2)) rfl hr
      have hn1 : oS sm 12 0 25 29 (upd (aM (gst G (gda G kd (rnx t.2.2.2.2.2 / 8 % 16)) (rnx t.2.2.2.2.2) t) (nI t.2.2.2.2.2)) 28 (nI (rnx t.2.2.2.2.2))) = oS sm 12 0 25 29 (aM (gst G (gda G kd (rnx t.2.2.2.2.2 / 8 % 16)) (rnx t.2.2.2.2.2) t) (nI (rnx t.2.2.2.2.2))) := oS_ext fun j hj0 hj => by
        rw [upd_at]
        rcases (show j = 25 ∨ j = 26 ∨ j = 27 ∨ j = 28 by omega) with rfl | rfl | rfl | rfl <;> rfl
      have hbe := fun A => m_behind2 (rBlk_oS (lo := 25) (hi := 29) (a := A) B) w hs2 hd4 hkl
      have hki := fun A => m_kills (g := kl) (rBlk_oS (lo := 25) (hi := 29) (a := A) B) w hs2
      have hst' : lsq G kd k t = gst G (gda G kd (rnx t.2.2.2.2.2 / 8 % 16)) (rnx t.2.2.2.2.2) t := if_neg hz
      have hgk := gst_ok w hp ht hd4 (rnx_lt t.2.2.2.2.2)
      have hlt := gst_lt (r := rnx t.2.2.2.2.2) w hp ht hd4
      have e1 : (gst G (gda G kd (rnx t.2.2.2.2.2 / 8 % 16)) (rnx t.2.2.2.2.2) t).1 = gnx G s (gda G kd (rnx t.2.2.2.2.2 / 8 % 16)) (G 5 ||| gkil G s kl) := by
        show gnx G (t.1 - 1) _ (gkil G (t.1 - 1) t.2.1) = _
        rw [hg, hs, Nat.add_sub_cancel, gkil_or]
      have e2 : (gst G (gda G kd (rnx t.2.2.2.2.2 / 8 % 16)) (rnx t.2.2.2.2.2) t).2.1 = G 5 ||| gkil G s kl := by
        show gkil G (t.1 - 1) t.2.1 = _
        rw [hg, hs, Nat.add_sub_cancel, gkil_or]
      have key := ih (k + 1) _ m (gkil G s kl) (aM (gst G (gda G kd (rnx t.2.2.2.2.2 / 8 % 16)) (rnx t.2.2.2.2.2) t) (nI (rnx t.2.2.2.2.2))) (by omega) (by omega) hgk (gkil_lt w hs2 hkl) e2 (by omega) rfl rfl rfl (fun _ => rfl)
      rw [hs, xI_s]
      simp (disch := omega) only [fLt_e, fBd_s, fJn_s, fNn_s, fNu_0, fNu_s, fBo_0, fBo_1, fBo_b, i_lit, i_neg1, nI_add, pk_mul, nI_clamp, i_le, i_lt, i_eq, fIx_n, nI_mI, mI_nI, mI_lt, nI_lt_m, mI_le, nI_le_m, xI_0, xI_s, bI_0, bI_1, bI_t, bI_f, n_31, j_bit, j_one, i_and, i_or, Nat.not_lt_zero, Nat.succ_ne_zero, Nat.add_one_ne_zero, Nat.add_one_sub_one, Nat.zero_le, Nat.or_zero, Nat.zero_or, Bool.not_true, Bool.not_false, Bool.true_and, Bool.false_and, Bool.and_true, Bool.and_false, ↓reduceIte, if_true, if_false, not_true_eq_false, not_false_eq_true, true_and, and_true, false_and, and_false, and_self, true_or, or_true, false_or, or_false, Nat.reduceEqDiff, Nat.reduceLT, Nat.reduceLeDiff, Nat.reduceAdd, Nat.reduceMul, Nat.reduceSub, Nat.add_zero, Nat.zero_add, Nat.mul_zero, Nat.zero_mul, ne_eq, Bool.not_eq_true, Bool.not_eq_false, reduceCtorEq, decide_true, decide_false, decide_eq_true_eq, decide_eq_false_iff_not, Bool.false_eq_true, if_pos, if_neg, hse, hda, hn1, hbe, hki]
      rw [← e1]
      refine Eq.trans key ?_
      show _ = fBd (f_X12_books (nI kd) (oS sm 12 0 25 29 (aM (itq (lsq G kd) n (k + 1) (lsq G kd k t)) (nI (itq (lsq G kd) n (k + 1) (lsq G kd k t)).2.2.2.2.2)))) _
      rw [hst']
end
/-! layer 2: lot, book, unseen, led, heard, suspects, breaths -/
theorem itr_lok {G : Nat → Nat} {kd : Nat} (w : gWf G) : ∀ n k t, pOk G t → pOk G (itq (lsq G kd) n k t) := itr_inv (pOk G) (fun k t h => by
  unfold lsq
  split
  · exact h
  · rename_i hz
    exact gst_ok w (by omega) h (gda_lt _ _ _) (rnx_lt _))
theorem itr_lseen {G : Nat → Nat} {kd n k : Nat} {t : pSt} (h : 0 < t.1) : 0 < (itq (lsq G kd) (n + 1) k t).2.2.1 := by
  have key : ∀ k t, 0 < t.2.2.1 → 0 < (lsq G kd k t).2.2.1 := by
    intro k t h
    unfold lsq
    split
    · exact h
    · exact Nat.lt_of_lt_of_le h Nat.left_le_or
  refine itr_inv (fun t : pSt => 0 < t.2.2.1) key n (k + 1) _ ?_
  show 0 < (lsq G kd k t).2.2.1
  unfold lsq
  rw [if_neg (by omega)]
  exact Nat.lt_of_lt_of_le (Nat.two_pow_pos _) (Nat.right_le_or (m := t.2.2.1))
theorem gpl_full {G : Nat → Nat} {g : Nat} (h : ¬ gpl G (G 2) g = 0) : gpl G (G 2) g = G 2 := by
  unfold gpl at h ⊢
  by_cases h0 : G 2 = 0
  · rw [if_pos h0] at h; exact absurd rfl h
  · rw [if_neg h0] at h ⊢
    by_cases h1 : gcan G (G 2 - 1) g = true
    · rw [if_pos h1]
    · rw [if_neg h1] at h; exact absurd rfl h
theorem nI_sub1 (n : Nat) : nI n - nI 1 = xI n := by
  cases n with
  | zero => rfl
  | succ n => exact nI_pred n
section
variable {sc sm : fSt} {q : Nat} {G : Nat → Nat}
/-- a night for a kind: the last state of its play -/
def gln (G : Nat → Nat) (kd r : Nat) : pSt := itq (lsq G kd) 12 0 (G 2, G 5, 0, 0, 0, r)
theorem gln_ok (w : gWf G) (hz : ¬ gpl G (G 2) (G 5) = 0) {kd r : Nat} (hr : r < 65536) : pOk G (gln G kd r) ∧ 0 < (gln G kd r).2.2.1 := by
  have w1 := w.1
  have w2 := w.2.1
  refine ⟨itr_lok w 12 0 _ ⟨Nat.le_refl _, w2.2.1, by simp, by simp, by simp; omega, by simp; omega⟩, itr_lseen ?_⟩
  have := gpl_full hz
  simp only
  omega
theorem x_playFor (X : rHou sc 0 q G) (w : gWf G) (hz : ¬ gpl G (G 2) (G 5) = 0) {i kd r : Nat} (hkd : kd < G 3) (hr : r < 65536) {A : Nat → Int32} (hA : A 6 = nI r) : f_X3_playFor i 0 (nI kd) (oS sc 3 i 0 7 A) = some ((), oS sc 3 i 0 7 (aNi (gln G kd r) (nI kd) (nI (gln G kd r).2.2.2.2.2))) := by
  have w1 := w.1
  have w2 := w.2.1
  have ho := x_open X w i (nI kd) A
  rw [gpl_full hz, hA] at ho
  have hL := x_lotL X w (i := i) hkd (fun s3 => some ((), s3)) (nI kd) 12 0 (G 2, G 5, 0, 0, 0, r) fF (by omega) ⟨Nat.le_refl _, w2.2.1, by simp, by simp, by simp; omega, by simp; omega⟩ (fF_lt (by omega))
  unfold f_X3_playFor
  simp only [fLt_e, fBd_s, fJn_s, i_lit, ho]
  exact hL
theorem m_playFor (B : rBlk (gA sm 12 0 5) G) (w : gWf G) (hz : ¬ gpl G (G 2) (G 5) = 0) {kd r : Nat} (hkd : kd < G 3) (hr : r < 65536) {A : Nat → Int32} (hA : A 28 = nI r) : ∃ g, f_X12_playFor (nI kd) (oS sm 12 0 25 29 A) = some ((), sA (oS sm 12 0 25 29 (aM (gln G kd r) (nI (gln G kd r).2.2.2.2.2))) 12 0 5 g) ∧ g 6 = nI (min 20 (G 6 + 1)) ∧ (g 137 = nI (gln G kd r).2.2.1 ∧ g 138 = xI (gln G kd r).2.2.2.1 ∧ g 139 = nI kd ∧ g 140 = nI (gln G kd r).2.2.2.2.1) ∧ (∀ p, 141 ≤ p → p < 217 → g p = gA sm 12 0 5 (p - 4)) ∧ ∀ p, p < 6 ∨ (7 ≤ p ∧ p < 137) ∨ 217 ≤ p → g p = gA sm 12 0 5 p := by
  have w1 := w.1
  have w2 := w.2.1
  have hg := gpl_full hz
  obtain ⟨g, m1, m2⟩ := m_books B w (gln G kd r) (nI (gln G kd r).2.2.2.2.2) (nI kd)
  refine ⟨g, ?_, m2⟩
  have hra : f_X12_raises (oS sm 12 0 25 29 A) = some ((), oS sm 12 0 25 29 (upd (upd A 25 (nI 0)) 27 (nI 0))) := by
    unfold f_X12_raises
    simp only [fLt_e, i_lit]
    rw [oS_sI (by omega), oS_sI (by omega)]
  have hL := m_lotL B w hkd 12 0 (G 2, G 5, 0, 0, 0, r) fF 0 (upd (upd A 25 (nI 0)) 27 (nI 0)) w1.2.2.1 (by omega) ⟨Nat.le_refl _, w2.2.1, by simp, by simp, by simp; omega, by simp; omega⟩ (by omega) (by simp) (fF_lt (by omega)) rfl rfl hA (fun hh => by simp only at hh; omega)
  unfold f_X12_playFor
  simp (disch := omega) only [fLt_e, fBd_s, fJn_s, fNn_s, fNu_0, fNu_s, fBo_0, fBo_1, fBo_b, i_lit, i_neg1, nI_add, pk_mul, nI_clamp, i_le, i_lt, i_eq, fIx_n, nI_mI, mI_nI, mI_lt, nI_lt_m, mI_le, nI_le_m, xI_0, xI_s, bI_0, bI_1, bI_t, bI_f, n_31, j_bit, j_one, i_and, i_or, Nat.not_lt_zero, Nat.succ_ne_zero, Nat.add_one_ne_zero, Nat.add_one_sub_one, Nat.zero_le, Nat.or_zero, Nat.zero_or, Bool.not_true, Bool.not_false, Bool.true_and, Bool.false_and, Bool.and_true, Bool.and_false, ↓reduceIte, if_true, if_false, not_true_eq_false, not_false_eq_true, true_and, and_true, false_and, and_false, and_self, true_or, or_true, false_or, or_false, Nat.reduceEqDiff, Nat.reduceLT, Nat.reduceLeDiff, Nat.reduceAdd, Nat.reduceMul, Nat.reduceSub, Nat.add_zero, Nat.zero_add, Nat.mul_zero, Nat.zero_mul, ne_eq, Bool.not_eq_true, Bool.not_eq_false, reduceCtorEq, decide_true, decide_false, decide_eq_true_eq, decide_eq_false_iff_not, Bool.false_eq_true, if_pos, if_neg, hra, gA_oS, B.1.2.2.1, nI_sub1]
  refine Eq.trans hL ?_
  show fBd (f_X12_books (nI kd) (oS sm 12 0 25 29 (aM (gln G kd r) (nI (gln G kd r).2.2.2.2.2)))) _ = _
  rw [m1]
  rfl
end
theorem call_lot (a : Int32) : CALL (f_X11_lot a) (f_X12_lot a) := by
  intro sc sm ⟨hA, H⟩
  have H := pro_x H
  have z := pro_0 sm
  unfold f_X11_lot f_X12_lot
  simp only [fLt_e, pro_eq]
  generalize pro sm = s2 at *
  have i0 : (0 : Int32).toInt = 0 := rfl
  have i9 : (9999 : Int32).toInt = 9999 := rfl
  have l9 : (9999 : Int64).toInt = 9999 := rfl
  rw [x_isIn, m_isIn_c, i0, i9, l0i, l9]
  obtain ⟨q, G, w, X, B, -⟩ := RX_cur H
  have w1 := w.1
  have w2 := w.2.1
  by_cases ha : 0 ≤ a.toInt ∧ a.toInt ≤ 9999
  · rw [inB_t.mpr ha]
    obtain ⟨r, hr, rfl, -⟩ := nI_ofInt (n := 10000) ha.1 (by omega)
    by_cases h3 : G 3 = 0
    · simp (disch := omega) only [fLt_e, fBd_s, fJn_s, fNn_s, fNu_0, fNu_s, fBo_0, fBo_1, fBo_b, i_lit, i_neg1, nI_add, pk_mul, nI_clamp, i_le, i_lt, i_eq, fIx_n, nI_mI, mI_nI, mI_lt, nI_lt_m, mI_le, nI_le_m, xI_0, xI_s, bI_0, bI_1, bI_t, bI_f, n_31, j_bit, j_one, i_and, i_or, Nat.not_lt_zero, Nat.succ_ne_zero, Nat.add_one_ne_zero, Nat.add_one_sub_one, Nat.zero_le, Nat.or_zero, Nat.zero_or, Bool.not_true, Bool.not_false, Bool.true_and, Bool.false_and, Bool.and_true, Bool.and_false, ↓reduceIte, if_true, if_false, not_true_eq_false, not_false_eq_true, true_and, and_true, false_and, and_false, and_self, true_or, or_true, false_or, or_false, Nat.reduceEqDiff, Nat.reduceLT, Nat.reduceLeDiff, Nat.reduceAdd, Nat.reduceMul, Nat.reduceSub, Nat.add_zero, Nat.zero_add, Nat.mul_zero, Nat.zero_mul, ne_eq, Bool.not_eq_true, Bool.not_eq_false, reduceCtorEq, decide_true, decide_false, decide_eq_true_eq, decide_eq_false_iff_not, Bool.false_eq_true, if_pos, if_neg, X.1, X.2.1.1.2.2.2, B.1.2.2.2.1, h3, f_X11_fail, f_X12_refuse]
      exact ⟨_, _, _, rfl, rfl, fin_st H _⟩
    · have E6 := x_canOpen X w
      have E7 := m_isDark B w
      by_cases hz : gpl G (G 2) (G 5) = 0
      · simp (disch := omega) only [fLt_e, fBd_s, fJn_s, fNn_s, fNu_0, fNu_s, fBo_0, fBo_1, fBo_b, i_lit, i_neg1, nI_add, pk_mul, nI_clamp, i_le, i_lt, i_eq, fIx_n, nI_mI, mI_nI, mI_lt, nI_lt_m, mI_le, nI_le_m, xI_0, xI_s, bI_0, bI_1, bI_t, bI_f, n_31, j_bit, j_one, i_and, i_or, Nat.not_lt_zero, Nat.succ_ne_zero, Nat.add_one_ne_zero, Nat.add_one_sub_one, Nat.zero_le, Nat.or_zero, Nat.zero_or, Bool.not_true, Bool.not_false, Bool.true_and, Bool.false_and, Bool.and_true, Bool.and_false, ↓reduceIte, if_true, if_false, not_true_eq_false, not_false_eq_true, true_and, and_true, false_and, and_false, and_self, true_or, or_true, false_or, or_false, Nat.reduceEqDiff, Nat.reduceLT, Nat.reduceLeDiff, Nat.reduceAdd, Nat.reduceMul, Nat.reduceSub, Nat.add_zero, Nat.zero_add, Nat.mul_zero, Nat.zero_mul, ne_eq, Bool.not_eq_true, Bool.not_eq_false, reduceCtorEq, decide_true, decide_false, decide_eq_true_eq, decide_eq_false_iff_not, Bool.false_eq_true, if_pos, if_neg, X.1, X.2.1.1.2.2.2, B.1.2.2.2.1, h3, E6, E7, hz, f_X11_fail, f_X12_refuse]
        exact ⟨_, _, _, rfl, rfl, fin_st H _⟩
      · have e1 : f_X3_sow 0 (nI r) sc = some ((), oS sc 3 0 0 7 (upd (gI sc 3 0) 6 (nI r))) := by
          have h : sI sc 3 0 6 (nI r) = sI (oS sc 3 0 0 7 (gI sc 3 0)) 3 0 6 (nI r) := by rw [← oS_0]
          unfold f_X3_sow
          rw [fLt_e, h, oS_sI (by omega)]
        have e2 : sI s2 12 0 28 (nI r) = oS s2 12 0 25 29 (upd (gI s2 12 0) 28 (nI r)) := by
          have h : sI s2 12 0 28 (nI r) = sI (oS s2 12 0 25 29 (gI s2 12 0)) 12 0 28 (nI r) := by rw [← oS_0]
          rw [h, oS_sI (by omega)]
        have e3 := x_drawKind X w (show 0 < G 3 by omega) (i := 0) (r := r) (A := upd (gI sc 3 0) 6 (nI r)) rfl (by omega)
        have e4 := m_drawnKind B w (show 0 < G 3 by omega) (r := r) (A := upd (gI s2 12 0) 28 (nI r)) rfl (by omega)
        have hk : gdk G (G 3 - 1) (rnx r / 8 % glt G) 0 < G 3 := by
          have := gdk_le G (G 3 - 1) (rnx r / 8 % glt G) 0
          omega
        generalize gdk G (G 3 - 1) (rnx r / 8 % glt G) 0 = kd at *
        have e5 := x_playFor X w hz (i := 0) hk (rnx_lt r) (A := upd (upd (gI sc 3 0) 6 (nI r)) 6 (nI (rnx r))) rfl
        obtain ⟨g, m1, m2, m3, m4, m5⟩ := m_playFor B w hz hk (rnx_lt r) (A := upd (upd (gI s2 12 0) 28 (nI r)) 28 (nI (rnx r))) rfl
        obtain ⟨⟨f1, f2, f3, f4, f5, f6⟩, hse⟩ := gln_ok (kd := kd) w hz (rnx_lt r)
        generalize gln G kd (rnx r) = tF at *
        obtain ⟨e, n1, n2, n3⟩ := x_note X w 0 (aNi tF (nI kd) (nI tF.2.2.2.2.2))
        simp (disch := omega) only [fLt_e, fBd_s, fJn_s, fNn_s, fNu_0, fNu_s, fBo_0, fBo_1, fBo_b, i_lit, i_neg1, nI_add, pk_mul, nI_clamp, i_le, i_lt, i_eq, fIx_n, nI_mI, mI_nI, mI_lt, nI_lt_m, mI_le, nI_le_m, xI_0, xI_s, bI_0, bI_1, bI_t, bI_f, n_31, j_bit, j_one, i_and, i_or, Nat.not_lt_zero, Nat.succ_ne_zero, Nat.add_one_ne_zero, Nat.add_one_sub_one, Nat.zero_le, Nat.or_zero, Nat.zero_or, Bool.not_true, Bool.not_false, Bool.true_and, Bool.false_and, Bool.and_true, Bool.and_false, ↓reduceIte, if_true, if_false, not_true_eq_false, not_false_eq_true, true_and, and_true, false_and, and_false, and_self, true_or, or_true, false_or, or_false, Nat.reduceEqDiff, Nat.reduceLT, Nat.reduceLeDiff, Nat.reduceAdd, Nat.reduceMul, Nat.reduceSub, Nat.add_zero, Nat.zero_add, Nat.mul_zero, Nat.zero_mul, ne_eq, Bool.not_eq_true, Bool.not_eq_false, reduceCtorEq, decide_true, decide_false, decide_eq_true_eq, decide_eq_false_iff_not, Bool.false_eq_true, if_pos, if_neg, X.1, X.2.1.1.2.2.2, B.1.2.2.2.1, h3, E6, E7, hz, e1, e2, gP_oS, e3, e4, e5, m1, n1, gI_sI, gI_sA, gI_oS, aNi, f_X11_answer]
        exact ⟨_, _, _, rfl, rfl, fin_0 (up_night H (fun q' G' w' X' _ => min_same X w X' w') (kd := kd + 1) ⟨hse, f3, f4, by omega, by omega⟩ n2 n3 m2 m3 m4 m5) z⟩
  · rw [inB_f.mpr ha]
    simp (disch := omega) only [fLt_e, fBd_s, fJn_s, fNn_s, fNu_0, fNu_s, fBo_0, fBo_1, fBo_b, i_lit, i_neg1, nI_add, pk_mul, nI_clamp, i_le, i_lt, i_eq, fIx_n, nI_mI, mI_nI, mI_lt, nI_lt_m, mI_le, nI_le_m, xI_0, xI_s, bI_0, bI_1, bI_t, bI_f, n_31, j_bit, j_one, i_and, i_or, Nat.not_lt_zero, Nat.succ_ne_zero, Nat.add_one_ne_zero, Nat.add_one_sub_one, Nat.zero_le, Nat.or_zero, Nat.zero_or, Bool.not_true, Bool.not_false, Bool.true_and, Bool.false_and, Bool.and_true, Bool.and_false, ↓reduceIte, if_true, if_false, not_true_eq_false, not_false_eq_true, true_and, and_true, false_and, and_false, and_self, true_or, or_true, false_or, or_false, Nat.reduceEqDiff, Nat.reduceLT, Nat.reduceLeDiff, Nat.reduceAdd, Nat.reduceMul, Nat.reduceSub, Nat.add_zero, Nat.zero_add, Nat.mul_zero, Nat.zero_mul, ne_eq, Bool.not_eq_true, Bool.not_eq_false, reduceCtorEq, decide_true, decide_false, decide_eq_true_eq, decide_eq_false_iff_not, Bool.false_eq_true, if_pos, if_neg, f_X11_fail, f_X12_refuse]
    exact ⟨_, _, _, rfl, rfl, fin_st H _⟩
theorem call_book (a b : Int32) : CALL (f_X11_book a b) (f_X12_book a b) := by
  intro sc sm ⟨hA, H⟩
  have H := pro_x H
  have z := pro_0 sm
  unfold f_X11_book f_X12_book
  simp only [fLt_e, pro_eq]
  generalize pro sm = s2 at *
  have i0 : (0 : Int32).toInt = 0 := rfl
  have i3 : (3 : Int32).toInt = 3 := rfl
  rw [x_isIn, m_isIn_c, i0, i3, l0i, l3i]
  obtain ⟨q, G, w, X, B, -⟩ := RX_cur H
  have w1 := w.1
  have w2 := w.2.1
  have F := fin_0 H z
  by_cases hb : 0 ≤ b.toInt ∧ b.toInt ≤ 3
  · rw [inB_t.mpr hb]
    obtain ⟨j, hj, rfl, -⟩ := nI_ofInt (n := 4) hb.1 (by omega)
    have E1 := x_isBelow a (G 6) (by omega) sc
    have E2 := m_isIn_n a (G 6) (by omega) s2
    by_cases ha : 0 ≤ a.toInt ∧ a.toInt < G 6
    · rw [inB_t.mpr (by omega)] at E1 E2
      obtain ⟨k, hk, rfl, -⟩ := nI_ofInt (n := G 6) ha.1 (by omega)
      obtain ⟨c0, c1, c2, c3⟩ := X.2.2.2.2 k hk
      obtain ⟨b0, b1, b2, b3⟩ := B.2.2.2.2.1 k hk
      simp only [l_lit] at E2
      unfold f_X0_entry
      rcases (show j = 0 ∨ j = 1 ∨ j = 2 ∨ j = 3 by omega) with rfl | rfl | rfl | rfl
      · simp (disch := omega) only [fLt_e, fBd_s, fJn_s, fNn_s, fNu_0, fNu_s, fBo_0, fBo_1, fBo_b, i_lit, i_neg1, nI_add, pk_mul, nI_clamp, i_le, i_lt, i_eq, fIx_n, nI_mI, mI_nI, mI_lt, nI_lt_m, mI_le, nI_le_m, xI_0, xI_s, bI_0, bI_1, bI_t, bI_f, n_31, j_bit, j_one, i_and, i_or, Nat.not_lt_zero, Nat.succ_ne_zero, Nat.add_one_ne_zero, Nat.add_one_sub_one, Nat.zero_le, Nat.or_zero, Nat.zero_or, Bool.not_true, Bool.not_false, Bool.true_and, Bool.false_and, Bool.and_true, Bool.and_false, ↓reduceIte, if_true, if_false, not_true_eq_false, not_false_eq_true, true_and, and_true, false_and, and_false, and_self, true_or, or_true, false_or, or_false, Nat.reduceEqDiff, Nat.reduceLT, Nat.reduceLeDiff, Nat.reduceAdd, Nat.reduceMul, Nat.reduceSub, Nat.add_zero, Nat.zero_add, Nat.mul_zero, Nat.zero_mul, ne_eq, Bool.not_eq_true, Bool.not_eq_false, reduceCtorEq, decide_true, decide_false, decide_eq_true_eq, decide_eq_false_iff_not, Bool.false_eq_true, if_pos, if_neg, l_lit, X.2.2.2.1, B.1.2.2.2.2.2.2, E1, E2, c0, b0, f_X11_answer]
        exact ⟨_, _, _, rfl, rfl, F⟩
      · have e : 137 + 4 * k + 1 = 138 + 4 * k := by omega
        simp (disch := omega) only [fLt_e, fBd_s, fJn_s, fNn_s, fNu_0, fNu_s, fBo_0, fBo_1, fBo_b, i_lit, i_neg1, nI_add, pk_mul, nI_clamp, i_le, i_lt, i_eq, fIx_n, nI_mI, mI_nI, mI_lt, nI_lt_m, mI_le, nI_le_m, xI_0, xI_s, bI_0, bI_1, bI_t, bI_f, n_31, j_bit, j_one, i_and, i_or, Nat.not_lt_zero, Nat.succ_ne_zero, Nat.add_one_ne_zero, Nat.add_one_sub_one, Nat.zero_le, Nat.or_zero, Nat.zero_or, Bool.not_true, Bool.not_false, Bool.true_and, Bool.false_and, Bool.and_true, Bool.and_false, ↓reduceIte, if_true, if_false, not_true_eq_false, not_false_eq_true, true_and, and_true, false_and, and_false, and_self, true_or, or_true, false_or, or_false, Nat.reduceEqDiff, Nat.reduceLT, Nat.reduceLeDiff, Nat.reduceAdd, Nat.reduceMul, Nat.reduceSub, Nat.add_zero, Nat.zero_add, Nat.mul_zero, Nat.zero_mul, ne_eq, Bool.not_eq_true, Bool.not_eq_false, reduceCtorEq, decide_true, decide_false, decide_eq_true_eq, decide_eq_false_iff_not, Bool.false_eq_true, if_pos, if_neg, l_lit, X.2.2.2.1, B.1.2.2.2.2.2.2, E1, E2, c1, e, b1, f_X11_answer]
        exact ⟨_, _, _, rfl, rfl, F⟩
      · have e : 137 + 4 * k + 2 = 139 + 4 * k := by omega
        simp (disch := omega) only [fLt_e, fBd_s, fJn_s, fNn_s, fNu_0, fNu_s, fBo_0, fBo_1, fBo_b, i_lit, i_neg1, nI_add, pk_mul, nI_clamp, i_le, i_lt, i_eq, fIx_n, nI_mI, mI_nI, mI_lt, nI_lt_m, mI_le, nI_le_m, xI_0, xI_s, bI_0, bI_1, bI_t, bI_f, n_31, j_bit, j_one, i_and, i_or, Nat.not_lt_zero, Nat.succ_ne_zero, Nat.add_one_ne_zero, Nat.add_one_sub_one, Nat.zero_le, Nat.or_zero, Nat.zero_or, Bool.not_true, Bool.not_false, Bool.true_and, Bool.false_and, Bool.and_true, Bool.and_false, ↓reduceIte, if_true, if_false, not_true_eq_false, not_false_eq_true, true_and, and_true, false_and, and_false, and_self, true_or, or_true, false_or, or_false, Nat.reduceEqDiff, Nat.reduceLT, Nat.reduceLeDiff, Nat.reduceAdd, Nat.reduceMul, Nat.reduceSub, Nat.add_zero, Nat.zero_add, Nat.mul_zero, Nat.zero_mul, ne_eq, Bool.not_eq_true, Bool.not_eq_false, reduceCtorEq, decide_true, decide_false, decide_eq_true_eq, decide_eq_false_iff_not, Bool.false_eq_true, if_pos, if_neg, l_lit, X.2.2.2.1, B.1.2.2.2.2.2.2, E1, E2, c2, e, b2, f_X11_answer]
        exact ⟨_, _, _, rfl, rfl, F⟩
      · have e : 137 + 4 * k + 3 = 140 + 4 * k := by omega
        simp (disch := omega) only [fLt_e, fBd_s, fJn_s, fNn_s, fNu_0, fNu_s, fBo_0, fBo_1, fBo_b, i_lit, i_neg1, nI_add, pk_mul, nI_clamp, i_le, i_lt, i_eq, fIx_n, nI_mI, mI_nI, mI_lt, nI_lt_m, mI_le, nI_le_m, xI_0, xI_s, bI_0, bI_1, bI_t, bI_f, n_31, j_bit, j_one, i_and, i_or, Nat.not_lt_zero, Nat.succ_ne_zero, Nat.add_one_ne_zero, Nat.add_one_sub_one, Nat.zero_le, Nat.or_zero, Nat.zero_or, Bool.not_true, Bool.not_false, Bool.true_and, Bool.false_and, Bool.and_true, Bool.and_false, ↓reduceIte, if_true, if_false, not_true_eq_false, not_false_eq_true, true_and, and_true, false_and, and_false, and_self, true_or, or_true, false_or, or_false, Nat.reduceEqDiff, Nat.reduceLT, Nat.reduceLeDiff, Nat.reduceAdd, Nat.reduceMul, Nat.reduceSub, Nat.add_zero, Nat.zero_add, Nat.mul_zero, Nat.zero_mul, ne_eq, Bool.not_eq_true, Bool.not_eq_false, reduceCtorEq, decide_true, decide_false, decide_eq_true_eq, decide_eq_false_iff_not, Bool.false_eq_true, if_pos, if_neg, l_lit, X.2.2.2.1, B.1.2.2.2.2.2.2, E1, E2, c3, e, b3, f_X11_answer]
        exact ⟨_, _, _, rfl, rfl, F⟩
    · rw [inB_f.mpr (by omega)] at E1 E2
      simp only [l_lit] at E2
      simp (disch := omega) only [fLt_e, fBd_s, fJn_s, fNn_s, fNu_0, fNu_s, fBo_0, fBo_1, fBo_b, i_lit, i_neg1, nI_add, pk_mul, nI_clamp, i_le, i_lt, i_eq, fIx_n, nI_mI, mI_nI, mI_lt, nI_lt_m, mI_le, nI_le_m, xI_0, xI_s, bI_0, bI_1, bI_t, bI_f, n_31, j_bit, j_one, i_and, i_or, Nat.not_lt_zero, Nat.succ_ne_zero, Nat.add_one_ne_zero, Nat.add_one_sub_one, Nat.zero_le, Nat.or_zero, Nat.zero_or, Bool.not_true, Bool.not_false, Bool.true_and, Bool.false_and, Bool.and_true, Bool.and_false, ↓reduceIte, if_true, if_false, not_true_eq_false, not_false_eq_true, true_and, and_true, false_and, and_false, and_self, true_or, or_true, false_or, or_false, Nat.reduceEqDiff, Nat.reduceLT, Nat.reduceLeDiff, Nat.reduceAdd, Nat.reduceMul, Nat.reduceSub, Nat.add_zero, Nat.zero_add, Nat.mul_zero, Nat.zero_mul, ne_eq, Bool.not_eq_true, Bool.not_eq_false, reduceCtorEq, decide_true, decide_false, decide_eq_true_eq, decide_eq_false_iff_not, Bool.false_eq_true, if_pos, if_neg, l_lit, X.2.2.2.1, B.1.2.2.2.2.2.2, E1, E2, f_X11_fail, f_X12_refuse]
      exact ⟨_, _, _, rfl, rfl, fin_st H _⟩
  · rw [inB_f.mpr hb]
    simp (disch := omega) only [fLt_e, fBd_s, fJn_s, fNn_s, fNu_0, fNu_s, fBo_0, fBo_1, fBo_b, i_lit, i_neg1, nI_add, pk_mul, nI_clamp, i_le, i_lt, i_eq, fIx_n, nI_mI, mI_nI, mI_lt, nI_lt_m, mI_le, nI_le_m, xI_0, xI_s, bI_0, bI_1, bI_t, bI_f, n_31, j_bit, j_one, i_and, i_or, Nat.not_lt_zero, Nat.succ_ne_zero, Nat.add_one_ne_zero, Nat.add_one_sub_one, Nat.zero_le, Nat.or_zero, Nat.zero_or, Bool.not_true, Bool.not_false, Bool.true_and, Bool.false_and, Bool.and_true, Bool.and_false, ↓reduceIte, if_true, if_false, not_true_eq_false, not_false_eq_true, true_and, and_true, false_and, and_false, and_self, true_or, or_true, false_or, or_false, Nat.reduceEqDiff, Nat.reduceLT, Nat.reduceLeDiff, Nat.reduceAdd, Nat.reduceMul, Nat.reduceSub, Nat.add_zero, Nat.zero_add, Nat.mul_zero, Nat.zero_mul, ne_eq, Bool.not_eq_true, Bool.not_eq_false, reduceCtorEq, decide_true, decide_false, decide_eq_true_eq, decide_eq_false_iff_not, Bool.false_eq_true, if_pos, if_neg, f_X11_fail, f_X12_refuse]
    exact ⟨_, _, _, rfl, rfl, fin_st H _⟩
-- sets of nights
def zor (f : Nat → Nat) : Nat → Nat
  | 0 => 0
  | n + 1 => zor f n ||| f n
theorem zor_lt {f : Nat → Nat} {b n : Nat} (h : ∀ k, k < n → f k < 2 ^ b) : zor f n < 2 ^ b := by
  induction n with
  | zero => exact Nat.two_pow_pos b
  | succ n ih => exact Nat.or_lt_two_pow (ih (fun k hk => h k (by omega))) (h n (by omega))
theorem zor_bit (f : Nat → Nat) (b : Nat) : ∀ n, (zor f n).testBit b = true ↔ ∃ k, k < n ∧ (f k).testBit b = true := by
  intro n
  induction n with
  | zero => simp [zor]
  | succ n ih =>
    show (zor f n ||| f n).testBit b = true ↔ _
    rw [Nat.testBit_or, Bool.or_eq_true, ih]
    constructor
    · rintro (⟨k, h1, h2⟩ | h)
      · exact ⟨k, by omega, h2⟩
      · exact ⟨n, by omega, h⟩
    · rintro ⟨k, h1, h2⟩
      by_cases hk : k = n
      · subst hk; exact Or.inr h2
      · exact Or.inl ⟨k, by omega, h2⟩
def ndn (a b : Nat) : Nat := a ^^^ (a &&& b)
theorem ndn_bit (a b i : Nat) : (ndn a b).testBit i = (a.testBit i && !b.testBit i) := by
  unfold ndn
  rw [Nat.testBit_xor, Nat.testBit_and]
  cases a.testBit i <;> cases b.testBit i <;> rfl
theorem ndn_or (a b c : Nat) : ndn (ndn a b) c = ndn a (b ||| c) := by
  apply Nat.eq_of_testBit_eq
  intro i
  rw [ndn_bit, ndn_bit, ndn_bit, Nat.testBit_or]
  cases a.testBit i <;> cases b.testBit i <;> cases c.testBit i <;> rfl
theorem ndn_0 (a : Nat) : ndn a 0 = a := by
  apply Nat.eq_of_testBit_eq
  intro i
  rw [ndn_bit, Nat.zero_testBit]
  simp
section
variable {sc sm : fSt} {q : Nat} {G : Nat → Nat}
theorem x_entry (X : rBok sc 0 G) (w : gWf G) {k : Nat} (hk : k < G 6) : f_X0_entry 0 (nI k) (nI 0) sc = some (nI (G (137 + 4 * k)), sc) ∧ f_X0_entry 0 (nI k) (nI 1) sc = some (xI (G (138 + 4 * k)), sc) := by
  have w2 := w.2.1
  obtain ⟨c0, c1, -⟩ := X.2 k hk
  unfold f_X0_entry
  constructor
  · simp (disch := omega) only [fLt_e, fBd_s, fJn_s, fNn_s, fNu_0, fNu_s, fBo_0, fBo_1, fBo_b, i_lit, i_neg1, nI_add, pk_mul, nI_clamp, i_le, i_lt, i_eq, fIx_n, nI_mI, mI_nI, mI_lt, nI_lt_m, mI_le, nI_le_m, xI_0, xI_s, bI_0, bI_1, bI_t, bI_f, n_31, j_bit, j_one, i_and, i_or, Nat.not_lt_zero, Nat.succ_ne_zero, Nat.add_one_ne_zero, Nat.add_one_sub_one, Nat.zero_le, Nat.or_zero, Nat.zero_or, Bool.not_true, Bool.not_false, Bool.true_and, Bool.false_and, Bool.and_true, Bool.and_false, ↓reduceIte, if_true, if_false, not_true_eq_false, not_false_eq_true, true_and, and_true, false_and, and_false, and_self, true_or, or_true, false_or, or_false, Nat.reduceEqDiff, Nat.reduceLT, Nat.reduceLeDiff, Nat.reduceAdd, Nat.reduceMul, Nat.reduceSub, Nat.add_zero, Nat.zero_add, Nat.mul_zero, Nat.zero_mul, ne_eq, Bool.not_eq_true, Bool.not_eq_false, reduceCtorEq, decide_true, decide_false, decide_eq_true_eq, decide_eq_false_iff_not, Bool.false_eq_true, if_pos, if_neg, c0]
  · simp (disch := omega) only [fLt_e, fBd_s, fJn_s, fNn_s, fNu_0, fNu_s, fBo_0, fBo_1, fBo_b, i_lit, i_neg1, nI_add, pk_mul, nI_clamp, i_le, i_lt, i_eq, fIx_n, nI_mI, mI_nI, mI_lt, nI_lt_m, mI_le, nI_le_m, xI_0, xI_s, bI_0, bI_1, bI_t, bI_f, n_31, j_bit, j_one, i_and, i_or, Nat.not_lt_zero, Nat.succ_ne_zero, Nat.add_one_ne_zero, Nat.add_one_sub_one, Nat.zero_le, Nat.or_zero, Nat.zero_or, Bool.not_true, Bool.not_false, Bool.true_and, Bool.false_and, Bool.and_true, Bool.and_false, ↓reduceIte, if_true, if_false, not_true_eq_false, not_false_eq_true, true_and, and_true, false_and, and_false, and_self, true_or, or_true, false_or, or_false, Nat.reduceEqDiff, Nat.reduceLT, Nat.reduceLeDiff, Nat.reduceAdd, Nat.reduceMul, Nat.reduceSub, Nat.add_zero, Nat.zero_add, Nat.mul_zero, Nat.zero_mul, ne_eq, Bool.not_eq_true, Bool.not_eq_false, reduceCtorEq, decide_true, decide_false, decide_eq_true_eq, decide_eq_false_iff_not, Bool.false_eq_true, if_pos, if_neg, c1]
theorem x_seenInAll (X : rBok sc 0 G) (w : gWf G) : f_X0_seenInAll 0 sc = some (nI (zor (fun k => G (137 + 4 * k)) (G 6)), sc) := by
  have w2 := w.2.1
  unfold f_X0_seenInAll
  obtain ⟨m, e⟩ := lp_run (fun m (t : Int32 × Int32) => f_X0_seenInAll_L4 0 m t.1 t.2 sc) (fun t => (nI (zor (fun k => G (137 + 4 * k)) t), nI t)) (G 6) (fun m t ht => by
    show f_X0_seenInAll_L4 0 (m + 1) (nI (zor (fun k => G (137 + 4 * k)) t)) (nI t) sc = f_X0_seenInAll_L4 0 m (nI (zor (fun k => G (137 + 4 * k)) (t + 1))) (nI (t + 1)) sc
    rw [f_X0_seenInAll_L4]
    simp (disch := omega) only [fLt_e, fBd_s, fJn_s, fNn_s, fNu_0, fNu_s, fBo_0, fBo_1, fBo_b, i_lit, i_neg1, nI_add, pk_mul, nI_clamp, i_le, i_lt, i_eq, fIx_n, nI_mI, mI_nI, mI_lt, nI_lt_m, mI_le, nI_le_m, xI_0, xI_s, bI_0, bI_1, bI_t, bI_f, n_31, j_bit, j_one, i_and, i_or, Nat.not_lt_zero, Nat.succ_ne_zero, Nat.add_one_ne_zero, Nat.add_one_sub_one, Nat.zero_le, Nat.or_zero, Nat.zero_or, Bool.not_true, Bool.not_false, Bool.true_and, Bool.false_and, Bool.and_true, Bool.and_false, ↓reduceIte, if_true, if_false, not_true_eq_false, not_false_eq_true, true_and, and_true, false_and, and_false, and_self, true_or, or_true, false_or, or_false, Nat.reduceEqDiff, Nat.reduceLT, Nat.reduceLeDiff, Nat.reduceAdd, Nat.reduceMul, Nat.reduceSub, Nat.add_zero, Nat.zero_add, Nat.mul_zero, Nat.zero_mul, ne_eq, Bool.not_eq_true, Bool.not_eq_false, reduceCtorEq, decide_true, decide_false, decide_eq_true_eq, decide_eq_false_iff_not, Bool.false_eq_true, if_pos, if_neg, X.1, (x_entry X w ht).1, zor]) (fF_lt (by omega))
  refine Eq.trans e ?_
  show f_X0_seenInAll_L4 0 (m + 1) (nI (zor (fun k => G (137 + 4 * k)) (G 6))) (nI (G 6)) sc = _
  rw [f_X0_seenInAll_L4]
  simp (disch := omega) only [fLt_e, fBd_s, fJn_s, fNn_s, fNu_0, fNu_s, fBo_0, fBo_1, fBo_b, i_lit, i_neg1, nI_add, pk_mul, nI_clamp, i_le, i_lt, i_eq, fIx_n, nI_mI, mI_nI, mI_lt, nI_lt_m, mI_le, nI_le_m, xI_0, xI_s, bI_0, bI_1, bI_t, bI_f, n_31, j_bit, j_one, i_and, i_or, Nat.not_lt_zero, Nat.succ_ne_zero, Nat.add_one_ne_zero, Nat.add_one_sub_one, Nat.zero_le, Nat.or_zero, Nat.zero_or, Bool.not_true, Bool.not_false, Bool.true_and, Bool.false_and, Bool.and_true, Bool.and_false, ↓reduceIte, if_true, if_false, not_true_eq_false, not_false_eq_true, true_and, and_true, false_and, and_false, and_self, true_or, or_true, false_or, or_false, Nat.reduceEqDiff, Nat.reduceLT, Nat.reduceLeDiff, Nat.reduceAdd, Nat.reduceMul, Nat.reduceSub, Nat.add_zero, Nat.zero_add, Nat.mul_zero, Nat.zero_mul, ne_eq, Bool.not_eq_true, Bool.not_eq_false, reduceCtorEq, decide_true, decide_false, decide_eq_true_eq, decide_eq_false_iff_not, Bool.false_eq_true, if_pos, if_neg, X.1]
theorem x_timesSeen (X : rBok sc 0 G) (w : gWf G) {s : Nat} (hs : s < 12) : f_X0_timesSeen 0 (nI s) sc = some (nI (zs (fun k => ((G (137 + 4 * k)).testBit s).toNat) (G 6)), sc) := by
  have w2 := w.2.1
  unfold f_X0_timesSeen
  obtain ⟨m, e⟩ := lp_run (fun m (t : Int32 × Int32) => f_X0_timesSeen_L4 0 (nI s) m t.1 t.2 sc) (fun t => (nI (zs (fun k => ((G (137 + 4 * k)).testBit s).toNat) t), nI t)) (G 6) (fun m t ht => by
    show f_X0_timesSeen_L4 0 (nI s) (m + 1) (nI (zs (fun k => ((G (137 + 4 * k)).testBit s).toNat) t)) (nI t) sc = f_X0_timesSeen_L4 0 (nI s) m (nI (zs (fun k => ((G (137 + 4 * k)).testBit s).toNat) (t + 1))) (nI (t + 1)) sc
    have hn := (w.2.2.2.2.2 t ht).2.1
    rw [f_X0_timesSeen_L4]
    simp (disch := omega) only [fLt_e, fBd_s, fJn_s, fNn_s, fNu_0, fNu_s, fBo_0, fBo_1, fBo_b, i_lit, i_neg1, nI_add, pk_mul, nI_clamp, i_le, i_lt, i_eq, fIx_n, nI_mI, mI_nI, mI_lt, nI_lt_m, mI_le, nI_le_m, xI_0, xI_s, bI_0, bI_1, bI_t, bI_f, n_31, j_bit, j_one, i_and, i_or, Nat.not_lt_zero, Nat.succ_ne_zero, Nat.add_one_ne_zero, Nat.add_one_sub_one, Nat.zero_le, Nat.or_zero, Nat.zero_or, Bool.not_true, Bool.not_false, Bool.true_and, Bool.false_and, Bool.and_true, Bool.and_false, ↓reduceIte, if_true, if_false, not_true_eq_false, not_false_eq_true, true_and, and_true, false_and, and_false, and_self, true_or, or_true, false_or, or_false, Nat.reduceEqDiff, Nat.reduceLT, Nat.reduceLeDiff, Nat.reduceAdd, Nat.reduceMul, Nat.reduceSub, Nat.add_zero, Nat.zero_add, Nat.mul_zero, Nat.zero_mul, ne_eq, Bool.not_eq_true, Bool.not_eq_false, reduceCtorEq, decide_true, decide_false, decide_eq_true_eq, decide_eq_false_iff_not, Bool.false_eq_true, if_pos, if_neg, X.1, (x_entry X w ht).1, bI, zs_s]) (fF_lt (by omega))
  refine Eq.trans e ?_
  show f_X0_timesSeen_L4 0 (nI s) (m + 1) (nI (zs (fun k => ((G (137 + 4 * k)).testBit s).toNat) (G 6))) (nI (G 6)) sc = _
  rw [f_X0_timesSeen_L4]
  simp (disch := omega) only [fLt_e, fBd_s, fJn_s, fNn_s, fNu_0, fNu_s, fBo_0, fBo_1, fBo_b, i_lit, i_neg1, nI_add, pk_mul, nI_clamp, i_le, i_lt, i_eq, fIx_n, nI_mI, mI_nI, mI_lt, nI_lt_m, mI_le, nI_le_m, xI_0, xI_s, bI_0, bI_1, bI_t, bI_f, n_31, j_bit, j_one, i_and, i_or, Nat.not_lt_zero, Nat.succ_ne_zero, Nat.add_one_ne_zero, Nat.add_one_sub_one, Nat.zero_le, Nat.or_zero, Nat.zero_or, Bool.not_true, Bool.not_false, Bool.true_and, Bool.false_and, Bool.and_true, Bool.and_false, ↓reduceIte, if_true, if_false, not_true_eq_false, not_false_eq_true, true_and, and_true, false_and, and_false, and_self, true_or, or_true, false_or, or_false, Nat.reduceEqDiff, Nat.reduceLT, Nat.reduceLeDiff, Nat.reduceAdd, Nat.reduceMul, Nat.reduceSub, Nat.add_zero, Nat.zero_add, Nat.mul_zero, Nat.zero_mul, ne_eq, Bool.not_eq_true, Bool.not_eq_false, reduceCtorEq, decide_true, decide_false, decide_eq_true_eq, decide_eq_false_iff_not, Bool.false_eq_true, if_pos, if_neg, X.1]
def gsw (G : Nat → Nat) (e k : Nat) : Nat := if G (138 + 4 * k) = e + 1 then G (137 + 4 * k) else 0
theorem x_seenWith (X : rBok sc 0 G) (w : gWf G) {e : Nat} (he : e < 9) : f_X0_seenWith 0 (nI e) sc = some (nI (zor (gsw G e) (G 6)), sc) := by
  have w2 := w.2.1
  unfold f_X0_seenWith
  obtain ⟨m, e⟩ := lp_run (fun m (t : Int32 × Int32) => f_X0_seenWith_L4 0 (nI e) m t.1 t.2 sc) (fun t => (nI (zor (gsw G e) t), nI t)) (G 6) (fun m t ht => by
    show f_X0_seenWith_L4 0 (nI e) (m + 1) (nI (zor (gsw G e) t)) (nI t) sc = f_X0_seenWith_L4 0 (nI e) m (nI (zor (gsw G e) (t + 1))) (nI (t + 1)) sc
    have hn := (w.2.2.2.2.2 t ht).2.2.1
    rw [f_X0_seenWith_L4]
    unfold zor gsw
    by_cases hq : G (138 + 4 * t) = e + 1
    · simp (disch := omega) only [fLt_e, fBd_s, fJn_s, fNn_s, fNu_0, fNu_s, fBo_0, fBo_1, fBo_b, i_lit, i_neg1, nI_add, pk_mul, nI_clamp, i_le, i_lt, i_eq, fIx_n, nI_mI, mI_nI, mI_lt, nI_lt_m, mI_le, nI_le_m, xI_0, xI_s, bI_0, bI_1, bI_t, bI_f, n_31, j_bit, j_one, i_and, i_or, Nat.not_lt_zero, Nat.succ_ne_zero, Nat.add_one_ne_zero, Nat.add_one_sub_one, Nat.zero_le, Nat.or_zero, Nat.zero_or, Bool.not_true, Bool.not_false, Bool.true_and, Bool.false_and, Bool.and_true, Bool.and_false, ↓reduceIte, if_true, if_false, not_true_eq_false, not_false_eq_true, true_and, and_true, false_and, and_false, and_self, true_or, or_true, false_or, or_false, Nat.reduceEqDiff, Nat.reduceLT, Nat.reduceLeDiff, Nat.reduceAdd, Nat.reduceMul, Nat.reduceSub, Nat.add_zero, Nat.zero_add, Nat.mul_zero, Nat.zero_mul, ne_eq, Bool.not_eq_true, Bool.not_eq_false, reduceCtorEq, decide_true, decide_false, decide_eq_true_eq, decide_eq_false_iff_not, Bool.false_eq_true, if_pos, if_neg, X.1, (x_entry X w ht).1, (x_entry X w ht).2, hq]
    · have hx : ¬ xI (G (138 + 4 * t)) = nI e := by
        rw [← xI_s, xI_eq (by omega) (by omega)]
        exact hq
      simp (disch := omega) only [fLt_e, fBd_s, fJn_s, fNn_s, fNu_0, fNu_s, fBo_0, fBo_1, fBo_b, i_lit, i_neg1, nI_add, pk_mul, nI_clamp, i_le, i_lt, i_eq, fIx_n, nI_mI, mI_nI, mI_lt, nI_lt_m, mI_le, nI_le_m, xI_0, xI_s, bI_0, bI_1, bI_t, bI_f, n_31, j_bit, j_one, i_and, i_or, Nat.not_lt_zero, Nat.succ_ne_zero, Nat.add_one_ne_zero, Nat.add_one_sub_one, Nat.zero_le, Nat.or_zero, Nat.zero_or, Bool.not_true, Bool.not_false, Bool.true_and, Bool.false_and, Bool.and_true, Bool.and_false, ↓reduceIte, if_true, if_false, not_true_eq_false, not_false_eq_true, true_and, and_true, false_and, and_false, and_self, true_or, or_true, false_or, or_false, Nat.reduceEqDiff, Nat.reduceLT, Nat.reduceLeDiff, Nat.reduceAdd, Nat.reduceMul, Nat.reduceSub, Nat.add_zero, Nat.zero_add, Nat.mul_zero, Nat.zero_mul, ne_eq, Bool.not_eq_true, Bool.not_eq_false, reduceCtorEq, decide_true, decide_false, decide_eq_true_eq, decide_eq_false_iff_not, Bool.false_eq_true, if_pos, if_neg, X.1, (x_entry X w ht).1, (x_entry X w ht).2, hx, hq]) (fF_lt (by omega))
  refine Eq.trans e ?_
  show f_X0_seenWith_L4 0 (nI _) (m + 1) (nI (zor (gsw G _) (G 6))) (nI (G 6)) sc = _
  rw [f_X0_seenWith_L4]
  simp (disch := omega) only [fLt_e, fBd_s, fJn_s, fNn_s, fNu_0, fNu_s, fBo_0, fBo_1, fBo_b, i_lit, i_neg1, nI_add, pk_mul, nI_clamp, i_le, i_lt, i_eq, fIx_n, nI_mI, mI_nI, mI_lt, nI_lt_m, mI_le, nI_le_m, xI_0, xI_s, bI_0, bI_1, bI_t, bI_f, n_31, j_bit, j_one, i_and, i_or, Nat.not_lt_zero, Nat.succ_ne_zero, Nat.add_one_ne_zero, Nat.add_one_sub_one, Nat.zero_le, Nat.or_zero, Nat.zero_or, Bool.not_true, Bool.not_false, Bool.true_and, Bool.false_and, Bool.and_true, Bool.and_false, ↓reduceIte, if_true, if_false, not_true_eq_false, not_false_eq_true, true_and, and_true, false_and, and_false, and_self, true_or, or_true, false_or, or_false, Nat.reduceEqDiff, Nat.reduceLT, Nat.reduceLeDiff, Nat.reduceAdd, Nat.reduceMul, Nat.reduceSub, Nat.add_zero, Nat.zero_add, Nat.mul_zero, Nat.zero_mul, ne_eq, Bool.not_eq_true, Bool.not_eq_false, reduceCtorEq, decide_true, decide_false, decide_eq_true_eq, decide_eq_false_iff_not, Bool.false_eq_true, if_pos, if_neg, X.1]
theorem m_unseenL (B : rBlk (gA sm 12 0 5) G) (w : gWf G) (a : Nat) : f_X12_unseen_L23 fF (nI a) (nI 0) sm = some (nI (ndn a (zor (fun k => G (137 + 4 * k)) (G 6))), sm) := by
  have w2 := w.2.1
  obtain ⟨m, e⟩ := lp_run (fun m (t : Int32 × Int32) => f_X12_unseen_L23 m t.1 t.2 sm) (fun t => (nI (ndn a (zor (fun k => G (137 + 4 * k)) t)), nI t)) (G 6) (fun m t ht => by
    show f_X12_unseen_L23 (m + 1) (nI (ndn a (zor (fun k => G (137 + 4 * k)) t))) (nI t) sm = f_X12_unseen_L23 m (nI (ndn a (zor (fun k => G (137 + 4 * k)) (t + 1)))) (nI (t + 1)) sm
    obtain ⟨b0, -⟩ := B.2.2.2.2.1 t ht
    have e1 : ∀ x y, nI x &&& (nI y ^^^ mI) = nI (ndn x y) := i_andn
    rw [f_X12_unseen_L23]
    simp (disch := omega) only [fLt_e, fBd_s, fJn_s, fNn_s, fNu_0, fNu_s, fBo_0, fBo_1, fBo_b, i_lit, i_neg1, nI_add, pk_mul, nI_clamp, i_le, i_lt, i_eq, fIx_n, nI_mI, mI_nI, mI_lt, nI_lt_m, mI_le, nI_le_m, xI_0, xI_s, bI_0, bI_1, bI_t, bI_f, n_31, j_bit, j_one, i_and, i_or, Nat.not_lt_zero, Nat.succ_ne_zero, Nat.add_one_ne_zero, Nat.add_one_sub_one, Nat.zero_le, Nat.or_zero, Nat.zero_or, Bool.not_true, Bool.not_false, Bool.true_and, Bool.false_and, Bool.and_true, Bool.and_false, ↓reduceIte, if_true, if_false, not_true_eq_false, not_false_eq_true, true_and, and_true, false_and, and_false, and_self, true_or, or_true, false_or, or_false, Nat.reduceEqDiff, Nat.reduceLT, Nat.reduceLeDiff, Nat.reduceAdd, Nat.reduceMul, Nat.reduceSub, Nat.add_zero, Nat.zero_add, Nat.mul_zero, Nat.zero_mul, ne_eq, Bool.not_eq_true, Bool.not_eq_false, reduceCtorEq, decide_true, decide_false, decide_eq_true_eq, decide_eq_false_iff_not, Bool.false_eq_true, if_pos, if_neg, B.1.2.2.2.2.2.2, b0, e1, ndn_or, zor]) (fF_lt (by omega))
  have e0 : ndn a (zor (fun k => G (137 + 4 * k)) 0) = a := ndn_0 a
  refine Eq.trans ?_ (Eq.trans e ?_)
  · show _ = f_X12_unseen_L23 fF (nI (ndn a (zor (fun k => G (137 + 4 * k)) 0))) (nI 0) sm
    rw [e0]
  · show f_X12_unseen_L23 (m + 1) (nI (ndn a (zor (fun k => G (137 + 4 * k)) (G 6)))) (nI (G 6)) sm = _
    rw [f_X12_unseen_L23]
    simp (disch := omega) only [fLt_e, fBd_s, fJn_s, fNn_s, fNu_0, fNu_s, fBo_0, fBo_1, fBo_b, i_lit, i_neg1, nI_add, pk_mul, nI_clamp, i_le, i_lt, i_eq, fIx_n, nI_mI, mI_nI, mI_lt, nI_lt_m, mI_le, nI_le_m, xI_0, xI_s, bI_0, bI_1, bI_t, bI_f, n_31, j_bit, j_one, i_and, i_or, Nat.not_lt_zero, Nat.succ_ne_zero, Nat.add_one_ne_zero, Nat.add_one_sub_one, Nat.zero_le, Nat.or_zero, Nat.zero_or, Bool.not_true, Bool.not_false, Bool.true_and, Bool.false_and, Bool.and_true, Bool.and_false, ↓reduceIte, if_true, if_false, not_true_eq_false, not_false_eq_true, true_and, and_true, false_and, and_false, and_self, true_or, or_true, false_or, or_false, Nat.reduceEqDiff, Nat.reduceLT, Nat.reduceLeDiff, Nat.reduceAdd, Nat.reduceMul, Nat.reduceSub, Nat.add_zero, Nat.zero_add, Nat.mul_zero, Nat.zero_mul, ne_eq, Bool.not_eq_true, Bool.not_eq_false, reduceCtorEq, decide_true, decide_false, decide_eq_true_eq, decide_eq_false_iff_not, Bool.false_eq_true, if_pos, if_neg, B.1.2.2.2.2.2.2]
theorem all_n {n : Nat} (h : n < 31) : (nI 1 <<< (nI n &&& nI 31)) - nI 1 = nI (2 ^ n - 1) := by
  rw [i_one h]
  exact pk_sub (Nat.two_pow_pos n)
theorem all_n' {n : Nat} (h : n < 31) : nI (2 ^ n) - nI 1 = nI (2 ^ n - 1) := pk_sub (Nat.two_pow_pos n)
end
theorem call_unseen : CALL f_X11_unseen f_X12_unseen := by
  intro sc sm ⟨hA, H⟩
  have H := pro_x H
  have z := pro_0 sm
  unfold f_X11_unseen f_X12_unseen f_X7_allScenes
  simp only [fLt_e, pro_eq]
  generalize pro sm = s2 at *
  obtain ⟨q, G, w, X, B, -⟩ := RX_cur H
  have w1 := w.1
  have e1 : ∀ x y, nI x &&& (nI y ^^^ mI) = nI (ndn x y) := i_andn
  simp (disch := omega) only [fLt_e, fBd_s, fJn_s, fNn_s, fNu_0, fNu_s, fBo_0, fBo_1, fBo_b, i_lit, i_neg1, nI_add, pk_mul, nI_clamp, i_le, i_lt, i_eq, fIx_n, nI_mI, mI_nI, mI_lt, nI_lt_m, mI_le, nI_le_m, xI_0, xI_s, bI_0, bI_1, bI_t, bI_f, n_31, j_bit, j_one, i_and, i_or, Nat.not_lt_zero, Nat.succ_ne_zero, Nat.add_one_ne_zero, Nat.add_one_sub_one, Nat.zero_le, Nat.or_zero, Nat.zero_or, Bool.not_true, Bool.not_false, Bool.true_and, Bool.false_and, Bool.and_true, Bool.and_false, ↓reduceIte, if_true, if_false, not_true_eq_false, not_false_eq_true, true_and, and_true, false_and, and_false, and_self, true_or, or_true, false_or, or_false, Nat.reduceEqDiff, Nat.reduceLT, Nat.reduceLeDiff, Nat.reduceAdd, Nat.reduceMul, Nat.reduceSub, Nat.add_zero, Nat.zero_add, Nat.mul_zero, Nat.zero_mul, ne_eq, Bool.not_eq_true, Bool.not_eq_false, reduceCtorEq, decide_true, decide_false, decide_eq_true_eq, decide_eq_false_iff_not, Bool.false_eq_true, if_pos, if_neg, X.1, X.2.1.1.2.2.1, B.1.2.2.1, all_n', x_seenInAll X.2.2.2 w, m_unseenL B w, e1, f_X11_answer]
  exact ⟨_, _, _, rfl, rfl, fin_0 H z⟩
-- lines
theorem zs_find (f : Nat → Nat) {l : Nat} : ∀ n, l < zs f n → ∃ s, s < n ∧ zs f s ≤ l ∧ l < zs f (s + 1) := by
  intro n
  induction n with
  | zero => intro h; exact absurd h (Nat.not_lt_zero l)
  | succ n ih =>
    intro h
    by_cases hn : l < zs f n
    · obtain ⟨s, a, b, c⟩ := ih hn
      exact ⟨s, by omega, b, c⟩
    · exact ⟨n, by omega, by omega, h⟩
section
variable {sc sm : fSt} {q : Nat} {G : Nat → Nat}
def gln' (G : Nat → Nat) : Nat → Nat := zs (fun s => G (25 + s))
theorem gln'_le (w : gWf G) {s : Nat} (hs : s ≤ G 2) : gln' G s ≤ 240 := by
  have w1 := w.1
  have := zs_le (f := fun s => G (25 + s)) (b := 20) (n := s) (fun k hk => (w.2.2.2.1 k (by omega)).1.2)
  unfold gln'
  omega
theorem x_sceneOfLine_t (H : rStg sc q G) (w : gWf G) {l s : Nat} (hs : s < G 2) (h1 : gln' G s ≤ l) (h2 : l < gln' G (s + 1)) : f_X7_sceneOfLine q (nI l) sc = some (nI s, sc) := by
  have w1 := w.1
  have hb := gln'_le w (show s + 1 ≤ G 2 by omega)
  unfold f_X7_sceneOfLine
  obtain ⟨m, e⟩ := lp_run (fun m (t : Int32 × Int32) => f_X7_sceneOfLine_L4 q (nI l) m t.1 t.2 sc) (fun t => (nI (gln' G t), nI t)) s (fun m t ht => by
    show f_X7_sceneOfLine_L4 q (nI l) (m + 1) (nI (gln' G t)) (nI t) sc = f_X7_sceneOfLine_L4 q (nI l) m (nI (gln' G (t + 1))) (nI (t + 1)) sc
    have hm : gln' G (t + 1) ≤ gln' G s := zs_mono _ ht
    have e1 : gln' G t + G (25 + t) = gln' G (t + 1) := rfl
    rw [f_X7_sceneOfLine_L4]
    simp (disch := omega) only [fLt_e, fBd_s, fJn_s, fNn_s, fNu_0, fNu_s, fBo_0, fBo_1, fBo_b, i_lit, i_neg1, nI_add, pk_mul, nI_clamp, i_le, i_lt, i_eq, fIx_n, nI_mI, mI_nI, mI_lt, nI_lt_m, mI_le, nI_le_m, xI_0, xI_s, bI_0, bI_1, bI_t, bI_f, n_31, j_bit, j_one, i_and, i_or, Nat.not_lt_zero, Nat.succ_ne_zero, Nat.add_one_ne_zero, Nat.add_one_sub_one, Nat.zero_le, Nat.or_zero, Nat.zero_or, Bool.not_true, Bool.not_false, Bool.true_and, Bool.false_and, Bool.and_true, Bool.and_false, ↓reduceIte, if_true, if_false, not_true_eq_false, not_false_eq_true, true_and, and_true, false_and, and_false, and_self, true_or, or_true, false_or, or_false, Nat.reduceEqDiff, Nat.reduceLT, Nat.reduceLeDiff, Nat.reduceAdd, Nat.reduceMul, Nat.reduceSub, Nat.add_zero, Nat.zero_add, Nat.mul_zero, Nat.zero_mul, ne_eq, Bool.not_eq_true, Bool.not_eq_false, reduceCtorEq, decide_true, decide_false, decide_eq_true_eq, decide_eq_false_iff_not, Bool.false_eq_true, if_pos, if_neg, H.1.2.2.1, (H.2.2.1 t (by omega)).1, e1]) (fF_lt (by omega))
  refine Eq.trans e ?_
  show f_X7_sceneOfLine_L4 q (nI l) (m + 1) (nI (gln' G s)) (nI s) sc = _
  have e1 : gln' G s + G (25 + s) = gln' G (s + 1) := rfl
  rw [f_X7_sceneOfLine_L4]
  simp (disch := omega) only [fLt_e, fBd_s, fJn_s, fNn_s, fNu_0, fNu_s, fBo_0, fBo_1, fBo_b, i_lit, i_neg1, nI_add, pk_mul, nI_clamp, i_le, i_lt, i_eq, fIx_n, nI_mI, mI_nI, mI_lt, nI_lt_m, mI_le, nI_le_m, xI_0, xI_s, bI_0, bI_1, bI_t, bI_f, n_31, j_bit, j_one, i_and, i_or, Nat.not_lt_zero, Nat.succ_ne_zero, Nat.add_one_ne_zero, Nat.add_one_sub_one, Nat.zero_le, Nat.or_zero, Nat.zero_or, Bool.not_true, Bool.not_false, Bool.true_and, Bool.false_and, Bool.and_true, Bool.and_false, ↓reduceIte, if_true, if_false, not_true_eq_false, not_false_eq_true, true_and, and_true, false_and, and_false, and_self, true_or, or_true, false_or, or_false, Nat.reduceEqDiff, Nat.reduceLT, Nat.reduceLeDiff, Nat.reduceAdd, Nat.reduceMul, Nat.reduceSub, Nat.add_zero, Nat.zero_add, Nat.mul_zero, Nat.zero_mul, ne_eq, Bool.not_eq_true, Bool.not_eq_false, reduceCtorEq, decide_true, decide_false, decide_eq_true_eq, decide_eq_false_iff_not, Bool.false_eq_true, if_pos, if_neg, H.1.2.2.1, (H.2.2.1 s hs).1, e1]
theorem x_sceneOfLine_f (H : rStg sc q G) (w : gWf G) {a : Int32} (ha : ¬ (0 ≤ a.toInt ∧ a.toInt < gln' G (G 2))) : f_X7_sceneOfLine q a sc = some (mI, sc) := by
  have w1 := w.1
  have hb := gln'_le w (Nat.le_refl (G 2))
  unfold f_X7_sceneOfLine
  obtain ⟨m, e⟩ := lp_run (fun m (t : Int32 × Int32) => f_X7_sceneOfLine_L4 q a m t.1 t.2 sc) (fun t => (nI (gln' G t), nI t)) (G 2) (fun m t ht => by
    show f_X7_sceneOfLine_L4 q a (m + 1) (nI (gln' G t)) (nI t) sc = f_X7_sceneOfLine_L4 q a m (nI (gln' G (t + 1))) (nI (t + 1)) sc
    have hm : gln' G (t + 1) ≤ gln' G (G 2) := zs_mono _ ht
    have e1 : gln' G t + G (25 + t) = gln' G (t + 1) := rfl
    rw [f_X7_sceneOfLine_L4]
    by_cases h0 : a.toInt < 0
    · simp (disch := omega) only [fLt_e, fBd_s, fJn_s, fNn_s, fNu_0, fNu_s, fBo_0, fBo_1, fBo_b, i_lit, i_neg1, nI_add, pk_mul, nI_clamp, fIx_n, Int32.lt_iff_toInt_lt, Int32.le_iff_toInt_le, ← Int32.toInt_inj, nI_toInt, mI_toInt, xI_0, xI_s, bI_t, bI_f, Nat.cast_ofNat, Int.ofNat_lt, Int.ofNat_le, Int.natCast_inj, Nat.not_lt_zero, Nat.succ_ne_zero, Nat.add_one_ne_zero, Nat.add_one_sub_one, Nat.zero_le, Nat.or_zero, Nat.zero_or, Bool.not_true, Bool.not_false, Bool.true_and, Bool.false_and, Bool.and_true, Bool.and_false, ↓reduceIte, if_true, if_false, not_true_eq_false, not_false_eq_true, true_and, and_true, false_and, and_false, and_self, true_or, or_true, false_or, or_false, Nat.reduceEqDiff, Nat.reduceLT, Nat.reduceLeDiff, Nat.reduceAdd, Nat.reduceMul, Nat.reduceSub, Nat.add_zero, Nat.zero_add, Nat.mul_zero, Nat.zero_mul, ne_eq, Bool.not_eq_true, Bool.not_eq_false, reduceCtorEq, decide_true, decide_false, decide_eq_true_eq, decide_eq_false_iff_not, Bool.false_eq_true, if_pos, if_neg, H.1.2.2.1, (H.2.2.1 t (by omega)).1, e1]
    · simp (disch := omega) only [fLt_e, fBd_s, fJn_s, fNn_s, fNu_0, fNu_s, fBo_0, fBo_1, fBo_b, i_lit, i_neg1, nI_add, pk_mul, nI_clamp, fIx_n, Int32.lt_iff_toInt_lt, Int32.le_iff_toInt_le, ← Int32.toInt_inj, nI_toInt, mI_toInt, xI_0, xI_s, bI_t, bI_f, Nat.cast_ofNat, Int.ofNat_lt, Int.ofNat_le, Int.natCast_inj, Nat.not_lt_zero, Nat.succ_ne_zero, Nat.add_one_ne_zero, Nat.add_one_sub_one, Nat.zero_le, Nat.or_zero, Nat.zero_or, Bool.not_true, Bool.not_false, Bool.true_and, Bool.false_and, Bool.and_true, Bool.and_false, ↓reduceIte, if_true, if_false, not_true_eq_false, not_false_eq_true, true_and, and_true, false_and, and_false, and_self, true_or, or_true, false_or, or_false, Nat.reduceEqDiff, Nat.reduceLT, Nat.reduceLeDiff, Nat.reduceAdd, Nat.reduceMul, Nat.reduceSub, Nat.add_zero, Nat.zero_add, Nat.mul_zero, Nat.zero_mul, ne_eq, Bool.not_eq_true, Bool.not_eq_false, reduceCtorEq, decide_true, decide_false, decide_eq_true_eq, decide_eq_false_iff_not, Bool.false_eq_true, if_pos, if_neg, H.1.2.2.1, (H.2.2.1 t (by omega)).1, e1]) (fF_lt (by omega))
  refine Eq.trans e ?_
  show f_X7_sceneOfLine_L4 q a (m + 1) (nI (gln' G (G 2))) (nI (G 2)) sc = _
  rw [f_X7_sceneOfLine_L4]
  simp (disch := omega) only [fLt_e, fBd_s, fJn_s, fNn_s, fNu_0, fNu_s, fBo_0, fBo_1, fBo_b, i_lit, i_neg1, nI_add, pk_mul, nI_clamp, i_le, i_lt, i_eq, fIx_n, nI_mI, mI_nI, mI_lt, nI_lt_m, mI_le, nI_le_m, xI_0, xI_s, bI_0, bI_1, bI_t, bI_f, n_31, j_bit, j_one, i_and, i_or, Nat.not_lt_zero, Nat.succ_ne_zero, Nat.add_one_ne_zero, Nat.add_one_sub_one, Nat.zero_le, Nat.or_zero, Nat.zero_or, Bool.not_true, Bool.not_false, Bool.true_and, Bool.false_and, Bool.and_true, Bool.and_false, ↓reduceIte, if_true, if_false, not_true_eq_false, not_false_eq_true, true_and, and_true, false_and, and_false, and_self, true_or, or_true, false_or, or_false, Nat.reduceEqDiff, Nat.reduceLT, Nat.reduceLeDiff, Nat.reduceAdd, Nat.reduceMul, Nat.reduceSub, Nat.add_zero, Nat.zero_add, Nat.mul_zero, Nat.zero_mul, ne_eq, Bool.not_eq_true, Bool.not_eq_false, reduceCtorEq, decide_true, decide_false, decide_eq_true_eq, decide_eq_false_iff_not, Bool.false_eq_true, if_pos, if_neg, H.1.2.2.1]
theorem m_sceneOf (B : rBlk (gA sm 12 0 5) G) (w : gWf G) {l s : Nat} (hs : s < G 2) (h1 : gln' G s ≤ l) (h2 : l < gln' G (s + 1)) : f_X12_sceneOf (nI l) sm = some (nI s, sm) := by
  have w1 := w.1
  have hb := gln'_le w (show s + 1 ≤ G 2 by omega)
  unfold f_X12_sceneOf
  obtain ⟨m, e⟩ := lp_run (fun m (t : Int32 × Int32) => f_X12_sceneOf_L4 m t.1 t.2 sm) (fun t => (nI (l - gln' G t), nI t)) s (fun m t ht => by
    show f_X12_sceneOf_L4 (m + 1) (nI (l - gln' G t)) (nI t) sm = f_X12_sceneOf_L4 m (nI (l - gln' G (t + 1))) (nI (t + 1)) sm
    have hm : gln' G (t + 1) ≤ gln' G s := zs_mono _ ht
    have e1 : gln' G t + G (25 + t) = gln' G (t + 1) := rfl
    have e2 : nI (l - gln' G t) - nI (G (25 + t)) = nI (l - gln' G (t + 1)) := by
      rw [pk_sub (by omega)]
      congr 1
      omega
    rw [f_X12_sceneOf_L4]
    simp (disch := omega) only [fLt_e, fBd_s, fJn_s, fNn_s, fNu_0, fNu_s, fBo_0, fBo_1, fBo_b, i_lit, i_neg1, nI_add, pk_mul, nI_clamp, i_le, i_lt, i_eq, fIx_n, nI_mI, mI_nI, mI_lt, nI_lt_m, mI_le, nI_le_m, xI_0, xI_s, bI_0, bI_1, bI_t, bI_f, n_31, j_bit, j_one, i_and, i_or, Nat.not_lt_zero, Nat.succ_ne_zero, Nat.add_one_ne_zero, Nat.add_one_sub_one, Nat.zero_le, Nat.or_zero, Nat.zero_or, Bool.not_true, Bool.not_false, Bool.true_and, Bool.false_and, Bool.and_true, Bool.and_false, ↓reduceIte, if_true, if_false, not_true_eq_false, not_false_eq_true, true_and, and_true, false_and, and_false, and_self, true_or, or_true, false_or, or_false, Nat.reduceEqDiff, Nat.reduceLT, Nat.reduceLeDiff, Nat.reduceAdd, Nat.reduceMul, Nat.reduceSub, Nat.add_zero, Nat.zero_add, Nat.mul_zero, Nat.zero_mul, ne_eq, Bool.not_eq_true, Bool.not_eq_false, reduceCtorEq, decide_true, decide_false, decide_eq_true_eq, decide_eq_false_iff_not, Bool.false_eq_true, if_pos, if_neg, (B.2.2.1 t (by omega)).1, e2]) (fF_lt (by omega))
  refine Eq.trans e ?_
  show f_X12_sceneOf_L4 (m + 1) (nI (l - gln' G s)) (nI s) sm = _
  have e1 : gln' G s + G (25 + s) = gln' G (s + 1) := rfl
  rw [f_X12_sceneOf_L4]
  simp (disch := omega) only [fLt_e, fBd_s, fJn_s, fNn_s, fNu_0, fNu_s, fBo_0, fBo_1, fBo_b, i_lit, i_neg1, nI_add, pk_mul, nI_clamp, i_le, i_lt, i_eq, fIx_n, nI_mI, mI_nI, mI_lt, nI_lt_m, mI_le, nI_le_m, xI_0, xI_s, bI_0, bI_1, bI_t, bI_f, n_31, j_bit, j_one, i_and, i_or, Nat.not_lt_zero, Nat.succ_ne_zero, Nat.add_one_ne_zero, Nat.add_one_sub_one, Nat.zero_le, Nat.or_zero, Nat.zero_or, Bool.not_true, Bool.not_false, Bool.true_and, Bool.false_and, Bool.and_true, Bool.and_false, ↓reduceIte, if_true, if_false, not_true_eq_false, not_false_eq_true, true_and, and_true, false_and, and_false, and_self, true_or, or_true, false_or, or_false, Nat.reduceEqDiff, Nat.reduceLT, Nat.reduceLeDiff, Nat.reduceAdd, Nat.reduceMul, Nat.reduceSub, Nat.add_zero, Nat.zero_add, Nat.mul_zero, Nat.zero_mul, ne_eq, Bool.not_eq_true, Bool.not_eq_false, reduceCtorEq, decide_true, decide_false, decide_eq_true_eq, decide_eq_false_iff_not, Bool.false_eq_true, if_pos, if_neg, (B.2.2.1 s hs).1]
theorem m_heardL (B : rBlk (gA sm 12 0 5) G) (w : gWf G) {s : Nat} (hs : s < 12) : f_X12_heard_L43 (nI s) fF (nI 0) (nI 0) sm = some (nI (zs (fun k => ((G (137 + 4 * k)).testBit s).toNat) (G 6)), sm) := by
  have w2 := w.2.1
  obtain ⟨m, e⟩ := lp_run (fun m (t : Int32 × Int32) => f_X12_heard_L43 (nI s) m t.1 t.2 sm) (fun t => (nI (zs (fun k => ((G (137 + 4 * k)).testBit s).toNat) t), nI t)) (G 6) (fun m t ht => by
    show f_X12_heard_L43 (nI s) (m + 1) (nI (zs (fun k => ((G (137 + 4 * k)).testBit s).toNat) t)) (nI t) sm = f_X12_heard_L43 (nI s) m (nI (zs (fun k => ((G (137 + 4 * k)).testBit s).toNat) (t + 1))) (nI (t + 1)) sm
    have hn := (w.2.2.2.2.2 t ht).2.1
    rw [f_X12_heard_L43, zs_s]
    cases hb : (G (137 + 4 * t)).testBit s
    · simp (disch := omega) only [fLt_e, fBd_s, fJn_s, fNn_s, fNu_0, fNu_s, fBo_0, fBo_1, fBo_b, i_lit, i_neg1, nI_add, pk_mul, nI_clamp, i_le, i_lt, i_eq, fIx_n, nI_mI, mI_nI, mI_lt, nI_lt_m, mI_le, nI_le_m, xI_0, xI_s, bI_0, bI_1, bI_t, bI_f, n_31, j_bit, j_one, i_and, i_or, Nat.not_lt_zero, Nat.succ_ne_zero, Nat.add_one_ne_zero, Nat.add_one_sub_one, Nat.zero_le, Nat.or_zero, Nat.zero_or, Bool.not_true, Bool.not_false, Bool.true_and, Bool.false_and, Bool.and_true, Bool.and_false, ↓reduceIte, if_true, if_false, not_true_eq_false, not_false_eq_true, true_and, and_true, false_and, and_false, and_self, true_or, or_true, false_or, or_false, Nat.reduceEqDiff, Nat.reduceLT, Nat.reduceLeDiff, Nat.reduceAdd, Nat.reduceMul, Nat.reduceSub, Nat.add_zero, Nat.zero_add, Nat.mul_zero, Nat.zero_mul, ne_eq, Bool.not_eq_true, Bool.not_eq_false, reduceCtorEq, decide_true, decide_false, decide_eq_true_eq, decide_eq_false_iff_not, Bool.false_eq_true, if_pos, if_neg, B.1.2.2.2.2.2.2, (B.2.2.2.2.1 t ht).1, m_has, hb, Bool.toNat_false]
    · simp (disch := omega) only [fLt_e, fBd_s, fJn_s, fNn_s, fNu_0, fNu_s, fBo_0, fBo_1, fBo_b, i_lit, i_neg1, nI_add, pk_mul, nI_clamp, i_le, i_lt, i_eq, fIx_n, nI_mI, mI_nI, mI_lt, nI_lt_m, mI_le, nI_le_m, xI_0, xI_s, bI_0, bI_1, bI_t, bI_f, n_31, j_bit, j_one, i_and, i_or, Nat.not_lt_zero, Nat.succ_ne_zero, Nat.add_one_ne_zero, Nat.add_one_sub_one, Nat.zero_le, Nat.or_zero, Nat.zero_or, Bool.not_true, Bool.not_false, Bool.true_and, Bool.false_and, Bool.and_true, Bool.and_false, ↓reduceIte, if_true, if_false, not_true_eq_false, not_false_eq_true, true_and, and_true, false_and, and_false, and_self, true_or, or_true, false_or, or_false, Nat.reduceEqDiff, Nat.reduceLT, Nat.reduceLeDiff, Nat.reduceAdd, Nat.reduceMul, Nat.reduceSub, Nat.add_zero, Nat.zero_add, Nat.mul_zero, Nat.zero_mul, ne_eq, Bool.not_eq_true, Bool.not_eq_false, reduceCtorEq, decide_true, decide_false, decide_eq_true_eq, decide_eq_false_iff_not, Bool.false_eq_true, if_pos, if_neg, B.1.2.2.2.2.2.2, (B.2.2.2.2.1 t ht).1, m_has, hb, Bool.toNat_true]) (fF_lt (by omega))
  refine Eq.trans e ?_
  show f_X12_heard_L43 (nI s) (m + 1) (nI (zs (fun k => ((G (137 + 4 * k)).testBit s).toNat) (G 6))) (nI (G 6)) sm = _
  rw [f_X12_heard_L43]
  simp (disch := omega) only [fLt_e, fBd_s, fJn_s, fNn_s, fNu_0, fNu_s, fBo_0, fBo_1, fBo_b, i_lit, i_neg1, nI_add, pk_mul, nI_clamp, i_le, i_lt, i_eq, fIx_n, nI_mI, mI_nI, mI_lt, nI_lt_m, mI_le, nI_le_m, xI_0, xI_s, bI_0, bI_1, bI_t, bI_f, n_31, j_bit, j_one, i_and, i_or, Nat.not_lt_zero, Nat.succ_ne_zero, Nat.add_one_ne_zero, Nat.add_one_sub_one, Nat.zero_le, Nat.or_zero, Nat.zero_or, Bool.not_true, Bool.not_false, Bool.true_and, Bool.false_and, Bool.and_true, Bool.and_false, ↓reduceIte, if_true, if_false, not_true_eq_false, not_false_eq_true, true_and, and_true, false_and, and_false, and_self, true_or, or_true, false_or, or_false, Nat.reduceEqDiff, Nat.reduceLT, Nat.reduceLeDiff, Nat.reduceAdd, Nat.reduceMul, Nat.reduceSub, Nat.add_zero, Nat.zero_add, Nat.mul_zero, Nat.zero_mul, ne_eq, Bool.not_eq_true, Bool.not_eq_false, reduceCtorEq, decide_true, decide_false, decide_eq_true_eq, decide_eq_false_iff_not, Bool.false_eq_true, if_pos, if_neg, B.1.2.2.2.2.2.2]
end
theorem call_led (a : Int32) : CALL (f_X11_led a) (f_X12_led a) := by
  intro sc sm ⟨hA, H⟩
  have H := pro_x H
  have z := pro_0 sm
  unfold f_X11_led f_X12_led
  simp only [fLt_e, pro_eq]
  generalize pro sm = s2 at *
  obtain ⟨q, G, w, X, B, -⟩ := RX_cur H
  have w1 := w.1
  have hb := gln'_le w (Nat.le_refl (G 2))
  have hl : f_X12_allLines s2 = some (nI (gln' G (G 2)), s2) := m_allLines B w
  have E := m_isIn_n a (gln' G (G 2)) (by omega) s2
  rw [X.1, fNn_s, hl, fBd_s]
  simp only [i_lit, i_neg1]
  rw [E]
  by_cases ha : 0 ≤ a.toInt ∧ a.toInt < gln' G (G 2)
  · rw [inB_t.mpr (by omega)]
    obtain ⟨l, hl2, rfl, -⟩ := nI_ofInt (n := gln' G (G 2)) ha.1 (by omega)
    obtain ⟨s, hs, h1, h2⟩ := zs_find _ _ hl2
    simp (disch := omega) only [fLt_e, fBd_s, fJn_s, fNn_s, fNu_0, fNu_s, fBo_0, fBo_1, fBo_b, i_lit, i_neg1, nI_add, pk_mul, nI_clamp, i_le, i_lt, i_eq, fIx_n, nI_mI, mI_nI, mI_lt, nI_lt_m, mI_le, nI_le_m, xI_0, xI_s, bI_0, bI_1, bI_t, bI_f, n_31, j_bit, j_one, i_and, i_or, Nat.not_lt_zero, Nat.succ_ne_zero, Nat.add_one_ne_zero, Nat.add_one_sub_one, Nat.zero_le, Nat.or_zero, Nat.zero_or, Bool.not_true, Bool.not_false, Bool.true_and, Bool.false_and, Bool.and_true, Bool.and_false, ↓reduceIte, if_true, if_false, not_true_eq_false, not_false_eq_true, true_and, and_true, false_and, and_false, and_self, true_or, or_true, false_or, or_false, Nat.reduceEqDiff, Nat.reduceLT, Nat.reduceLeDiff, Nat.reduceAdd, Nat.reduceMul, Nat.reduceSub, Nat.add_zero, Nat.zero_add, Nat.mul_zero, Nat.zero_mul, ne_eq, Bool.not_eq_true, Bool.not_eq_false, reduceCtorEq, decide_true, decide_false, decide_eq_true_eq, decide_eq_false_iff_not, Bool.false_eq_true, if_pos, if_neg, x_sceneOfLine_t X.2.1 w hs h1 h2, m_sceneOf B w hs h1 h2, f_X11_answer]
    exact ⟨_, _, _, rfl, rfl, fin_0 H z⟩
  · rw [inB_f.mpr (by omega)]
    simp (disch := omega) only [fLt_e, fBd_s, fJn_s, fNn_s, fNu_0, fNu_s, fBo_0, fBo_1, fBo_b, i_lit, i_neg1, nI_add, pk_mul, nI_clamp, i_le, i_lt, i_eq, fIx_n, nI_mI, mI_nI, mI_lt, nI_lt_m, mI_le, nI_le_m, xI_0, xI_s, bI_0, bI_1, bI_t, bI_f, n_31, j_bit, j_one, i_and, i_or, Nat.not_lt_zero, Nat.succ_ne_zero, Nat.add_one_ne_zero, Nat.add_one_sub_one, Nat.zero_le, Nat.or_zero, Nat.zero_or, Bool.not_true, Bool.not_false, Bool.true_and, Bool.false_and, Bool.and_true, Bool.and_false, ↓reduceIte, if_true, if_false, not_true_eq_false, not_false_eq_true, true_and, and_true, false_and, and_false, and_self, true_or, or_true, false_or, or_false, Nat.reduceEqDiff, Nat.reduceLT, Nat.reduceLeDiff, Nat.reduceAdd, Nat.reduceMul, Nat.reduceSub, Nat.add_zero, Nat.zero_add, Nat.mul_zero, Nat.zero_mul, ne_eq, Bool.not_eq_true, Bool.not_eq_false, reduceCtorEq, decide_true, decide_false, decide_eq_true_eq, decide_eq_false_iff_not, Bool.false_eq_true, if_pos, if_neg, x_sceneOfLine_f X.2.1 w ha, f_X11_fail, f_X12_refuse]
    exact ⟨_, _, _, rfl, rfl, fin_st H _⟩
theorem call_heard (a : Int32) : CALL (f_X11_heard a) (f_X12_heard a) := by
  intro sc sm ⟨hA, H⟩
  have H := pro_x H
  have z := pro_0 sm
  unfold f_X11_heard f_X12_heard
  simp only [fLt_e, pro_eq]
  generalize pro sm = s2 at *
  obtain ⟨q, G, w, X, B, -⟩ := RX_cur H
  have w1 := w.1
  have hb := gln'_le w (Nat.le_refl (G 2))
  have hl : f_X12_allLines s2 = some (nI (gln' G (G 2)), s2) := m_allLines B w
  have E := m_isIn_n a (gln' G (G 2)) (by omega) s2
  rw [X.1, fNn_s, hl, fBd_s]
  simp only [i_lit, i_neg1]
  rw [E]
  by_cases ha : 0 ≤ a.toInt ∧ a.toInt < gln' G (G 2)
  · rw [inB_t.mpr (by omega)]
    obtain ⟨l, hl2, rfl, -⟩ := nI_ofInt (n := gln' G (G 2)) ha.1 (by omega)
    obtain ⟨s, hs, h1, h2⟩ := zs_find _ _ hl2
    simp (disch := omega) only [fLt_e, fBd_s, fJn_s, fNn_s, fNu_0, fNu_s, fBo_0, fBo_1, fBo_b, i_lit, i_neg1, nI_add, pk_mul, nI_clamp, i_le, i_lt, i_eq, fIx_n, nI_mI, mI_nI, mI_lt, nI_lt_m, mI_le, nI_le_m, xI_0, xI_s, bI_0, bI_1, bI_t, bI_f, n_31, j_bit, j_one, i_and, i_or, Nat.not_lt_zero, Nat.succ_ne_zero, Nat.add_one_ne_zero, Nat.add_one_sub_one, Nat.zero_le, Nat.or_zero, Nat.zero_or, Bool.not_true, Bool.not_false, Bool.true_and, Bool.false_and, Bool.and_true, Bool.and_false, ↓reduceIte, if_true, if_false, not_true_eq_false, not_false_eq_true, true_and, and_true, false_and, and_false, and_self, true_or, or_true, false_or, or_false, Nat.reduceEqDiff, Nat.reduceLT, Nat.reduceLeDiff, Nat.reduceAdd, Nat.reduceMul, Nat.reduceSub, Nat.add_zero, Nat.zero_add, Nat.mul_zero, Nat.zero_mul, ne_eq, Bool.not_eq_true, Bool.not_eq_false, reduceCtorEq, decide_true, decide_false, decide_eq_true_eq, decide_eq_false_iff_not, Bool.false_eq_true, if_pos, if_neg, x_sceneOfLine_t X.2.1 w hs h1 h2, m_sceneOf B w hs h1 h2, x_timesSeen X.2.2.2 w (show s < 12 by omega), m_heardL B w (show s < 12 by omega), f_X11_answer]
    exact ⟨_, _, _, rfl, rfl, fin_0 H z⟩
  · rw [inB_f.mpr (by omega)]
    simp (disch := omega) only [fLt_e, fBd_s, fJn_s, fNn_s, fNu_0, fNu_s, fBo_0, fBo_1, fBo_b, i_lit, i_neg1, nI_add, pk_mul, nI_clamp, i_le, i_lt, i_eq, fIx_n, nI_mI, mI_nI, mI_lt, nI_lt_m, mI_le, nI_le_m, xI_0, xI_s, bI_0, bI_1, bI_t, bI_f, n_31, j_bit, j_one, i_and, i_or, Nat.not_lt_zero, Nat.succ_ne_zero, Nat.add_one_ne_zero, Nat.add_one_sub_one, Nat.zero_le, Nat.or_zero, Nat.zero_or, Bool.not_true, Bool.not_false, Bool.true_and, Bool.false_and, Bool.and_true, Bool.and_false, ↓reduceIte, if_true, if_false, not_true_eq_false, not_false_eq_true, true_and, and_true, false_and, and_false, and_self, true_or, or_true, false_or, or_false, Nat.reduceEqDiff, Nat.reduceLT, Nat.reduceLeDiff, Nat.reduceAdd, Nat.reduceMul, Nat.reduceSub, Nat.add_zero, Nat.zero_add, Nat.mul_zero, Nat.zero_mul, ne_eq, Bool.not_eq_true, Bool.not_eq_false, reduceCtorEq, decide_true, decide_false, decide_eq_true_eq, decide_eq_false_iff_not, Bool.false_eq_true, if_pos, if_neg, x_sceneOfLine_f X.2.1 w ha, f_X11_fail, f_X12_refuse]
    exact ⟨_, _, _, rfl, rfl, fin_st H _⟩
