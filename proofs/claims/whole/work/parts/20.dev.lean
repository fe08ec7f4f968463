/-! layer 2: the present theatre changes -/
theorem rStg_G {sc : fSt} {q : Nat} {G G' : Nat → Nat} (w : gWf G) (h : ∀ k, k < 4 ∨ (7 ≤ k ∧ k < 137) ∨ 217 ≤ k → G' k = G k) (H : rStg sc q G) : rStg sc q G' := by
  have w := w.1
  obtain ⟨h1, h2, h3, h4⟩ := H
  have e0 := h 0 (by omega)
  have e1 := h 1 (by omega)
  have e2 := h 2 (by omega)
  have e3 := h 3 (by omega)
  unfold rStg
  rw [e0, e1, e2, e3]
  refine ⟨h1, fun a ha => ?_, fun s hs => ?_, fun k hk => ?_⟩
  · simp (disch := omega) only [h]; exact h2 a ha
  · simp (disch := omega) only [h]; exact h3 s hs
  · simp (disch := omega) only [h]; exact h4 k hk
theorem rStp_G {sc : fSt} {x : Nat} {G G' : Nat → Nat} (h : ∀ k, k < 4 ∨ (7 ≤ k ∧ k < 137) ∨ 217 ≤ k → G' k = G k) {j i : Nat} (H : rStp sc x G j i) : rStp sc x G' j i := by
  unfold rStp at *
  simp (disch := omega) only [h]
  exact H
theorem rBod_G {sc : fSt} {x : Nat} {G G' : Nat → Nat} (h : ∀ k, k < 4 ∨ (7 ≤ k ∧ k < 137) ∨ 217 ≤ k → G' k = G k) : ∀ n a b i i', rBod sc x G n a b i i' → rBod sc x G' n a b i i' := by
  intro n
  induction n with
  | zero => intro a b i i' H; exact H
  | succ n ih =>
    intro a b i i' H
    have e1 := h (219 + 7 * a) (by omega)
    have e2 := h (225 + 7 * a) (by omega)
    rcases H with H | ⟨h1, h2, H⟩
    · exact Or.inl H
    · refine Or.inr ⟨h1, rStp_G h h2, ?_⟩
      rw [e1, e2]
      rcases H with ⟨a1, a2, a3, a4⟩ | ⟨a1, a2, a3, m, b1, b2, b3, b4, b5, b6⟩
      · exact Or.inl ⟨a1, a2, a3, ih _ _ _ _ a4⟩
      · exact Or.inr ⟨a1, a2, a3, m, ih _ _ _ _ b1, b2, b3, b4, b5, ih _ _ _ _ b6⟩
/-- all but what is barred, dead and the book of the present house -/
def cEq0 (s t : fSt) : Prop := (∀ c, (c = 7 ∨ c = 8 ∨ c = 9) → ∀ i k, gI t c i k = gI s c i k ∧ gL t c i k = gL s c i k ∧ gA t c i k = gA s c i k ∧ gB t c i k = gB s c i k ∧ gP t c i k = gP s c i k) ∧
  (∀ i k, ¬ (i = 0 ∧ (k = 2 ∨ k = 3)) → gI t 2 i k = gI s 2 i k) ∧ (∀ i k, gP t 2 i k = gP s 2 i k) ∧ (∀ i, i ≠ 0 → gI t 0 i 0 = gI s 0 i 0 ∧ gA t 0 i 1 = gA s 0 i 1) ∧
  gA t 1 0 1 = gA s 1 0 1 ∧ gB t 4 0 1 = gB s 4 0 1 ∧ (gI t 5 0 2 = gI s 5 0 2 ∧ gA t 5 0 1 = gA s 5 0 1 ∧ gB t 5 0 2 = gB s 5 0 2) ∧
  (gI t 10 0 3 = gI s 10 0 3 ∧ gI t 10 0 5 = gI s 10 0 5 ∧ gI t 10 0 6 = gI s 10 0 6 ∧ gI t 10 0 7 = gI s 10 0 7 ∧ gI t 10 0 8 = gI s 10 0 8 ∧ gI t 10 0 9 = gI s 10 0 9) ∧
  (gI t 11 0 5 = gI s 11 0 5 ∧ gI t 11 0 6 = gI s 11 0 6 ∧ gI t 11 0 9 = gI s 11 0 9 ∧ gI t 11 0 17 = gI s 11 0 17 ∧ gL t 11 0 3 = gL s 11 0 3 ∧ gL t 11 0 4 = gL s 11 0 4 ∧ gA t 11 0 3 = gA s 11 0 3)
def mEq0 (s t : fSt) : Prop := (gI t 12 0 8 = gI s 12 0 8 ∧ gI t 12 0 10 = gI s 12 0 10 ∧ gI t 12 0 11 = gI s 12 0 11 ∧ gI t 12 0 23 = gI s 12 0 23 ∧ gI t 12 0 46 = gI s 12 0 46 ∧ gI t 12 0 54 = gI s 12 0 54 ∧ gI t 12 0 56 = gI s 12 0 56) ∧
  (gL t 12 0 2 = gL s 12 0 2 ∧ gL t 12 0 3 = gL s 12 0 3) ∧
  (gA t 12 0 1 = gA s 12 0 1 ∧ gA t 12 0 2 = gA s 12 0 2 ∧ gA t 12 0 4 = gA s 12 0 4 ∧ (∀ k, k < 4 ∨ (7 ≤ k ∧ k < 137) ∨ 217 ≤ k → gA t 12 0 5 k = gA s 12 0 5 k) ∧ gA t 12 0 16 = gA s 12 0 16 ∧ gA t 12 0 20 = gA s 12 0 20 ∧ gA t 12 0 22 = gA s 12 0 22) ∧
  (gB t 12 0 3 = gB s 12 0 3 ∧ gB t 12 0 7 = gB s 12 0 7)
theorem cEq0_rf (s : fSt) : cEq0 s s := ⟨fun _ _ _ _ => ⟨rfl, rfl, rfl, rfl, rfl⟩, fun _ _ _ => rfl, fun _ _ => rfl, fun _ _ => ⟨rfl, rfl⟩, rfl, rfl, ⟨rfl, rfl, rfl⟩, ⟨rfl, rfl, rfl, rfl, rfl, rfl⟩, rfl, rfl, rfl, rfl, rfl, rfl, rfl⟩
theorem rOne_h {sc sc' sm sm' : fSt} (h : cEq0 sc sc') (g : mEq0 sm sm') {k q : Nat} {G : Nat → Nat} (hk : k ≠ 0) (H : rOne sc sm k q G) : rOne sc' sm' k q G := by
  obtain ⟨h1, h2, h3, h4, h5⟩ := H
  obtain ⟨c1, c2, c3, c4, -⟩ := h
  have e7 := fun i k => (c1 7 (by decide) i k).1
  have e7a := fun i k => (c1 7 (by decide) i k).2.2.1
  have e7b := fun i k => (c1 7 (by decide) i k).2.2.2.1
  have e9 := fun i k => (c1 9 (by decide) i k).1
  have e9a := fun i k => (c1 9 (by decide) i k).2.2.1
  have e2 := fun j => c2 k j (fun z => hk z.1)
  obtain ⟨-, -, ⟨-, -, -, ga, -⟩, -, gb⟩ := g
  refine ⟨h1, ?_, ?_, ?_, ?_⟩
  · unfold rHou rStg rBok at *
    simp only [e2, c3, (c4 k hk).1, (c4 k hk).2, e7, e7a]
    exact h2
  · have : (fun j => gA sm' 12 0 5 (430 * k + j)) = fun j => gA sm 12 0 5 (430 * k + j) := funext fun j => ga _ (by omega)
    rw [this]
    exact h3
  · unfold rNam at *
    simp only [e7b, gb]
    exact h4
  · unfold rWk at *
    simp only [c3, e9]
    rcases h5 with h5 | ⟨a, w, m, b1, b2, b3, b4, b5⟩
    · exact Or.inl h5
    · exact Or.inr ⟨a, w, m, b1, b2, b3, b4, rBod_e e9a _ _ _ _ _ b5⟩
theorem up0 {sc sc' sm sm' : fSt} (H : RX sc sm) (h : cEq0 sc sc') (g : mEq0 sm sm')
    (hG : ∀ q G, gWf G → rHou sc 0 q G → rBlk (gA sm 12 0 5) G → ∃ G', (∀ k, k < 4 ∨ (7 ≤ k ∧ k < 137) ∨ 217 ≤ k → G' k = G k) ∧ gWf G' ∧ (gI sc' 2 0 2 = nI (G' 4) ∧ gI sc' 2 0 3 = nI (G' 5)) ∧ rBok sc' 0 G' ∧
      (gA sm' 12 0 5 4 = nI (G' 4) ∧ gA sm' 12 0 5 5 = nI (G' 5) ∧ gA sm' 12 0 5 6 = nI (G' 6)) ∧
      (∀ i, i < G' 6 → gA sm' 12 0 5 (137 + 4 * i) = nI (G' (137 + 4 * i)) ∧ gA sm' 12 0 5 (138 + 4 * i) = xI (G' (138 + 4 * i)) ∧ gA sm' 12 0 5 (139 + 4 * i) = xI (G' (139 + 4 * i)) ∧ gA sm' 12 0 5 (140 + 4 * i) = nI (G' (140 + 4 * i)))) : RX sc' sm' := by
  have h0 := h
  have g0 := g
  obtain ⟨c1, c2, c3, c4, d1, d2, ⟨d3, d4, d5⟩, ⟨d6, d7, d8, d9, d10, d11⟩, x1, x2, x3, x4, x5, x6, x7⟩ := h
  obtain ⟨⟨m1, m2, m3, m4, m5, m6, m7⟩, ⟨n1, n2⟩, ⟨p1, p2, p3, p4, p5, p6, p7⟩, q1, q2⟩ := g
  obtain ⟨r1, r2, r3, r4, r5, r6, r7, r8, n, qq, GG, s1, s2, s3, s4⟩ := H
  refine ⟨?_, ?_, ?_, ?_, ?_, ?_, ?_, ?_, ?_⟩
  · unfold rF at *; rw [x5, x6, n1, n2]; exact r1
  · unfold rQ at *; rw [x1, x2, m2, m3]; exact r2
  · unfold rT at *
    have e8 := fun i k => (c1 8 (by decide) i k).1
    have e8b := fun i k => (c1 8 (by decide) i k).2.2.2.1
    simp only [e8, e8b, p1, p2, q1]
    exact r3
  · unfold rP at *; rw [d3, d4, d5, m1, p3]; exact r4
  · unfold rS at *; rw [x4, x7, m5, p5]; exact r5
  · unfold rC at *; rw [d1, m6, p6]; exact r6
  · unfold rW at *; rw [d6, d7, d8, d9, d10, d11, m7, p7]; exact r7
  · unfold rO at *; rw [d2]; exact r8
  · obtain ⟨w, X, B, N, K⟩ := s4 0 (Nat.zero_le _)
    have B' := B
    simp only [Nat.mul_zero, Nat.zero_add] at B'
    obtain ⟨G', e, w', f1, f2, f3, f4⟩ := hG (qq 0) (GG 0) w X B'
    have e7 := fun i k => (c1 7 (by decide) i k).1
    have e7a := fun i k => (c1 7 (by decide) i k).2.2.1
    have e7b := fun i k => (c1 7 (by decide) i k).2.2.2.1
    have e9 := fun i k => (c1 9 (by decide) i k).1
    have e9a := fun i k => (c1 9 (by decide) i k).2.2.1
    have i0 := e 0 (by omega)
    have i1 := e 1 (by omega)
    have i2 := e 2 (by omega)
    have i3 := e 3 (by omega)
    have w0 := w.1
    refine ⟨n, qq, fun h => if h = 0 then G' else GG h, s1, by rw [x3]; exact s2, by rw [m4]; exact s3, fun k hk => ?_⟩
    by_cases hz : k = 0
    · subst hz
      simp only [if_true]
      refine ⟨w', ⟨?_, ?_, f1, f2⟩, ?_, ?_, ?_⟩
      · rw [c3]; exact X.1
      · have := rStg_G w e X.2.1
        unfold rStg at *
        simp only [e7, e7a]
        exact this
      · simp only [Nat.mul_zero, Nat.zero_add]
        obtain ⟨b1, b2, b3, b4, b5, b6, b7⟩ := B'
        refine ⟨?_, fun a ha => ?_, fun s hs => ?_, fun j hj => ?_, f4, ?_, fun j hj => ?_⟩
        · dsimp only
          rw [p4 0 (by omega), p4 1 (by omega), p4 2 (by omega), p4 3 (by omega), i0, i1, i2, i3]
          exact ⟨b1.1, b1.2.1, b1.2.2.1, b1.2.2.2.1, f3⟩
        · rw [i1] at ha
          simp (disch := omega) only [p4, e]
          exact b2 a ha
        · rw [i2] at hs
          simp (disch := omega) only [p4, e]
          exact b3 s hs
        · rw [i3] at hj
          simp (disch := omega) only [p4, e]
          exact b4 j hj
        · dsimp only
          rw [p4 217 (by omega), p4 218 (by omega), e 217 (by omega), e 218 (by omega)]
          exact b6
        · rw [e 218 (by omega)] at hj
          simp (disch := omega) only [p4, e]
          exact b7 j hj
      · unfold rNam at *
        simp only [e7b, q2, i0, i1, i2, i3]
        exact N
      · unfold rWk at *
        simp only [c3, e9, e 217 (by omega), e 218 (by omega)]
        rcases K with K | ⟨a, w, m, b1, b2, b3, b4, b5⟩
        · exact Or.inl K
        · exact Or.inr ⟨a, w, m, b1, b2, b3, b4, rBod_G e _ _ _ _ _ (rBod_e e9a _ _ _ _ _ b5)⟩
    · show rOne sc' sm' k (qq k) (if k = 0 then G' else GG k)
      rw [if_neg hz]
      exact rOne_h h0 g0 hz (s4 k hk)
theorem pro_eq (sm : fSt) : sI (sI sm 12 0 1 0) 12 0 0 0 = pro sm := rfl
/-! layer 2: the calls that read and write -/
theorem call_status : CALL f_X11_status f_X12_status := by
  intro sc sm ⟨hA, H⟩
  have hA' : gI sc 11 0 2 = gI sm 12 0 0 := hA
  refine ⟨gI sm 12 0 0, sc, sI sm 12 0 1 0, ?_, rfl, RR_of (RX_e (cEq_rf _) (mEq_th _ _) H) hA⟩
  unfold f_X11_status
  rw [hA']
theorem call_top : CALL f_X11_top f_X12_top := by
  intro sc sm ⟨hA, H⟩
  have h : gL sc 11 0 3 = gL sm 12 0 2 := H.1.1
  refine ⟨gL sm 12 0 2, sc, sI sm 12 0 1 0, ?_, rfl, RR_of (RX_e (cEq_rf _) (mEq_th _ _) H) hA⟩
  unfold f_X11_top
  rw [h]
theorem call_bottom : CALL f_X11_bottom f_X12_bottom := by
  intro sc sm ⟨hA, H⟩
  have h : gL sc 11 0 4 = gL sm 12 0 3 := H.1.2
  refine ⟨gL sm 12 0 3, sc, sI sm 12 0 1 0, ?_, rfl, RR_of (RX_e (cEq_rf _) (mEq_th _ _) H) hA⟩
  unfold f_X11_bottom
  rw [h]
theorem call_fault (a : Int32) : CALL (f_X11_fault a) (f_X12_fault a) := by
  intro sc sm ⟨hA, H⟩
  obtain ⟨h1, h2⟩ : gI sc 11 0 5 = gI sm 12 0 10 ∧ gI sc 11 0 6 = gI sm 12 0 11 := H.2.1
  have R : RR sc (sI sm 12 0 1 0) := RR_of (RX_e (cEq_rf _) (mEq_th _ _) H) hA
  unfold f_X11_fault f_X12_fault
  simp only [fLt_e, fJn_s, h1, h2, gI_sI]
  by_cases h0 : a = 0
  · subst h0
    exact ⟨_, _, _, rfl, rfl, R⟩
  · by_cases h1 : a = 1
    · subst h1
      exact ⟨_, _, _, rfl, rfl, R⟩
    · rw [if_pos h0, if_pos h1, if_pos h0, if_pos h1]
      exact ⟨_, _, _, rfl, rfl, R⟩
def gbit (b : Bool) (x k : Nat) : Nat := if b then x ||| 2 ^ k else x ^^^ (x &&& 2 ^ k)
theorem gbit_lt {b : Bool} {x k n : Nat} (hx : x < 2 ^ n) (hk : k < n) : gbit b x k < 2 ^ n := by
  unfold gbit
  have h2 : 2 ^ k < 2 ^ n := Nat.pow_lt_pow_right (by omega) hk
  split
  · exact Nat.or_lt_two_pow hx h2
  · exact Nat.xor_lt_two_pow hx (Nat.and_lt_two_pow _ h2)
theorem x_setBarred {sc : fSt} {x s : Nat} (a : Int32) (hs : s < 31) (h : gI sc 2 0 2 = nI x) : f_X2_setBarred 0 (nI s) a sc = some ((), sI sc 2 0 2 (nI (gbit (decide (¬ a = 0)) x s))) := by
  unfold f_X2_setBarred gbit
  have e0 : (a = nI 0) = (a = 0) := rfl
  by_cases ha : a = 0
  · simp (disch := omega) only [fLt_e, fBd_s, fJn_s, fNn_s, fNu_0, fNu_s, fBo_0, fBo_1, fBo_b, i_lit, i_neg1, nI_add, pk_mul, nI_clamp, i_le, i_lt, i_eq, fIx_n, nI_mI, mI_nI, mI_lt, nI_lt_m, mI_le, nI_le_m, xI_0, xI_s, bI_0, bI_1, bI_t, bI_f, n_31, j_bit, j_one, i_and, i_or, Nat.not_lt_zero, Nat.succ_ne_zero, Nat.add_one_ne_zero, Nat.add_one_sub_one, Nat.zero_le, Nat.or_zero, Nat.zero_or, Bool.not_true, Bool.not_false, Bool.true_and, Bool.false_and, Bool.and_true, Bool.and_false, ↓reduceIte, if_true, if_false, not_true_eq_false, not_false_eq_true, true_and, and_true, false_and, and_false, and_self, true_or, or_true, false_or, or_false, Nat.reduceEqDiff, Nat.reduceLT, Nat.reduceLeDiff, Nat.reduceAdd, Nat.reduceMul, Nat.reduceSub, Nat.add_zero, Nat.zero_add, Nat.mul_zero, Nat.zero_mul, ne_eq, Bool.not_eq_true, Bool.not_eq_false, reduceCtorEq, decide_true, decide_false, decide_eq_true_eq, decide_eq_false_iff_not, Bool.false_eq_true, if_pos, if_neg, h, i_andn, e0, ha]
  · simp (disch := omega) only [fLt_e, fBd_s, fJn_s, fNn_s, fNu_0, fNu_s, fBo_0, fBo_1, fBo_b, i_lit, i_neg1, nI_add, pk_mul, nI_clamp, i_le, i_lt, i_eq, fIx_n, nI_mI, mI_nI, mI_lt, nI_lt_m, mI_le, nI_le_m, xI_0, xI_s, bI_0, bI_1, bI_t, bI_f, n_31, j_bit, j_one, i_and, i_or, Nat.not_lt_zero, Nat.succ_ne_zero, Nat.add_one_ne_zero, Nat.add_one_sub_one, Nat.zero_le, Nat.or_zero, Nat.zero_or, Bool.not_true, Bool.not_false, Bool.true_and, Bool.false_and, Bool.and_true, Bool.and_false, ↓reduceIte, if_true, if_false, not_true_eq_false, not_false_eq_true, true_and, and_true, false_and, and_false, and_self, true_or, or_true, false_or, or_false, Nat.reduceEqDiff, Nat.reduceLT, Nat.reduceLeDiff, Nat.reduceAdd, Nat.reduceMul, Nat.reduceSub, Nat.add_zero, Nat.zero_add, Nat.mul_zero, Nat.zero_mul, ne_eq, Bool.not_eq_true, Bool.not_eq_false, reduceCtorEq, decide_true, decide_false, decide_eq_true_eq, decide_eq_false_iff_not, Bool.false_eq_true, if_pos, if_neg, h, i_andn, e0, ha]
theorem x_setDead {sc : fSt} {x s : Nat} (a : Int32) (hs : s < 31) (h : gI sc 2 0 3 = nI x) : f_X2_setDead 0 (nI s) a sc = some ((), sI sc 2 0 3 (nI (gbit (decide (¬ a = 0)) x s))) := by
  unfold f_X2_setDead gbit
  have e0 : (a = nI 0) = (a = 0) := rfl
  by_cases ha : a = 0
  · simp (disch := omega) only [fLt_e, fBd_s, fJn_s, fNn_s, fNu_0, fNu_s, fBo_0, fBo_1, fBo_b, i_lit, i_neg1, nI_add, pk_mul, nI_clamp, i_le, i_lt, i_eq, fIx_n, nI_mI, mI_nI, mI_lt, nI_lt_m, mI_le, nI_le_m, xI_0, xI_s, bI_0, bI_1, bI_t, bI_f, n_31, j_bit, j_one, i_and, i_or, Nat.not_lt_zero, Nat.succ_ne_zero, Nat.add_one_ne_zero, Nat.add_one_sub_one, Nat.zero_le, Nat.or_zero, Nat.zero_or, Bool.not_true, Bool.not_false, Bool.true_and, Bool.false_and, Bool.and_true, Bool.and_false, ↓reduceIte, if_true, if_false, not_true_eq_false, not_false_eq_true, true_and, and_true, false_and, and_false, and_self, true_or, or_true, false_or, or_false, Nat.reduceEqDiff, Nat.reduceLT, Nat.reduceLeDiff, Nat.reduceAdd, Nat.reduceMul, Nat.reduceSub, Nat.add_zero, Nat.zero_add, Nat.mul_zero, Nat.zero_mul, ne_eq, Bool.not_eq_true, Bool.not_eq_false, reduceCtorEq, decide_true, decide_false, decide_eq_true_eq, decide_eq_false_iff_not, Bool.false_eq_true, if_pos, if_neg, h, i_andn, e0, ha]
  · simp (disch := omega) only [fLt_e, fBd_s, fJn_s, fNn_s, fNu_0, fNu_s, fBo_0, fBo_1, fBo_b, i_lit, i_neg1, nI_add, pk_mul, nI_clamp, i_le, i_lt, i_eq, fIx_n, nI_mI, mI_nI, mI_lt, nI_lt_m, mI_le, nI_le_m, xI_0, xI_s, bI_0, bI_1, bI_t, bI_f, n_31, j_bit, j_one, i_and, i_or, Nat.not_lt_zero, Nat.succ_ne_zero, Nat.add_one_ne_zero, Nat.add_one_sub_one, Nat.zero_le, Nat.or_zero, Nat.zero_or, Bool.not_true, Bool.not_false, Bool.true_and, Bool.false_and, Bool.and_true, Bool.and_false, ↓reduceIte, if_true, if_false, not_true_eq_false, not_false_eq_true, true_and, and_true, false_and, and_false, and_self, true_or, or_true, false_or, or_false, Nat.reduceEqDiff, Nat.reduceLT, Nat.reduceLeDiff, Nat.reduceAdd, Nat.reduceMul, Nat.reduceSub, Nat.add_zero, Nat.zero_add, Nat.mul_zero, Nat.zero_mul, ne_eq, Bool.not_eq_true, Bool.not_eq_false, reduceCtorEq, decide_true, decide_false, decide_eq_true_eq, decide_eq_false_iff_not, Bool.false_eq_true, if_pos, if_neg, h, i_andn, e0, ha]
theorem m_with {x s : Nat} (a : Int32) (hs : s < 31) (sm : fSt) : f_X12_with (nI x) (nI s) a sm = some (nI (gbit (decide (¬ a = 0)) x s), sm) := by
  unfold f_X12_with gbit
  have e0 : (a = nI 0) = (a = 0) := rfl
  by_cases ha : a = 0
  · simp (disch := omega) only [fLt_e, fBd_s, fJn_s, fNn_s, fNu_0, fNu_s, fBo_0, fBo_1, fBo_b, i_lit, i_neg1, nI_add, pk_mul, nI_clamp, i_le, i_lt, i_eq, fIx_n, nI_mI, mI_nI, mI_lt, nI_lt_m, mI_le, nI_le_m, xI_0, xI_s, bI_0, bI_1, bI_t, bI_f, n_31, j_bit, j_one, i_and, i_or, Nat.not_lt_zero, Nat.succ_ne_zero, Nat.add_one_ne_zero, Nat.add_one_sub_one, Nat.zero_le, Nat.or_zero, Nat.zero_or, Bool.not_true, Bool.not_false, Bool.true_and, Bool.false_and, Bool.and_true, Bool.and_false, ↓reduceIte, if_true, if_false, not_true_eq_false, not_false_eq_true, true_and, and_true, false_and, and_false, and_self, true_or, or_true, false_or, or_false, Nat.reduceEqDiff, Nat.reduceLT, Nat.reduceLeDiff, Nat.reduceAdd, Nat.reduceMul, Nat.reduceSub, Nat.add_zero, Nat.zero_add, Nat.mul_zero, Nat.zero_mul, ne_eq, Bool.not_eq_true, Bool.not_eq_false, reduceCtorEq, decide_true, decide_false, decide_eq_true_eq, decide_eq_false_iff_not, Bool.false_eq_true, if_pos, if_neg, i_andn, e0, ha]
  · simp (disch := omega) only [fLt_e, fBd_s, fJn_s, fNn_s, fNu_0, fNu_s, fBo_0, fBo_1, fBo_b, i_lit, i_neg1, nI_add, pk_mul, nI_clamp, i_le, i_lt, i_eq, fIx_n, nI_mI, mI_nI, mI_lt, nI_lt_m, mI_le, nI_le_m, xI_0, xI_s, bI_0, bI_1, bI_t, bI_f, n_31, j_bit, j_one, i_and, i_or, Nat.not_lt_zero, Nat.succ_ne_zero, Nat.add_one_ne_zero, Nat.add_one_sub_one, Nat.zero_le, Nat.or_zero, Nat.zero_or, Bool.not_true, Bool.not_false, Bool.true_and, Bool.false_and, Bool.and_true, Bool.and_false, ↓reduceIte, if_true, if_false, not_true_eq_false, not_false_eq_true, true_and, and_true, false_and, and_false, and_self, true_or, or_true, false_or, or_false, Nat.reduceEqDiff, Nat.reduceLT, Nat.reduceLeDiff, Nat.reduceAdd, Nat.reduceMul, Nat.reduceSub, Nat.add_zero, Nat.zero_add, Nat.mul_zero, Nat.zero_mul, ne_eq, Bool.not_eq_true, Bool.not_eq_false, reduceCtorEq, decide_true, decide_false, decide_eq_true_eq, decide_eq_false_iff_not, Bool.false_eq_true, if_pos, if_neg, i_andn, e0, ha]
theorem gWf_4 {G : Nat → Nat} (w : gWf G) {v : Nat} (h : v < 4096) : gWf (fun k => if k = 4 then v else G k) := by
  obtain ⟨w1, ⟨w2, w3, w4⟩, w5, w6, w7, w8⟩ := w
  refine ⟨w1, ⟨h, w3, w4⟩, fun a ha => ?_, fun s hs => ?_, fun k hk => ?_, fun i hi => ?_⟩
  · simp (disch := omega) only [if_neg]; exact w5 a ha
  · simp (disch := omega) only [if_neg]; exact w6 s hs
  · simp (disch := omega) only [if_neg]; exact w7 k hk
  · simp (disch := omega) only [if_neg]; exact w8 i hi
theorem gWf_5 {G : Nat → Nat} (w : gWf G) {v : Nat} (h : v < 64) : gWf (fun k => if k = 5 then v else G k) := by
  obtain ⟨w1, ⟨w2, w3, w4⟩, w5, w6, w7, w8⟩ := w
  refine ⟨w1, ⟨w2, h, w4⟩, fun a ha => ?_, fun s hs => ?_, fun k hk => ?_, fun i hi => ?_⟩
  · simp (disch := omega) only [if_neg]; exact w5 a ha
  · simp (disch := omega) only [if_neg]; exact w6 s hs
  · simp (disch := omega) only [if_neg]; exact w7 k hk
  · simp (disch := omega) only [if_neg]; exact w8 i hi
/-- the present barred (k = 2, 4) or dead (3, 5) set is another one -/
theorem up_bar {sc sm : fSt} (H : RX sc sm) {v : Nat} (hv : v < 4096) : RX (sI sc 2 0 2 (nI v)) (sA sm 12 0 5 (upd (gA sm 12 0 5) 4 (nI v))) := by
  refine up0 H ⟨fun c hc i k => by rcases hc with rfl | rfl | rfl <;> exact ⟨rfl, rfl, rfl, rfl, rfl⟩, fun i k hk => ?_, fun i k => rfl, fun i hi => ⟨rfl, rfl⟩, rfl, rfl, ⟨rfl, rfl, rfl⟩, ⟨rfl, rfl, rfl, rfl, rfl, rfl⟩, rfl, rfl, rfl, rfl, rfl, rfl, rfl⟩
    ⟨⟨rfl, rfl, rfl, rfl, rfl, rfl, rfl⟩, ⟨rfl, rfl⟩, ⟨rfl, rfl, rfl, fun k hk => ?_, rfl, rfl, rfl⟩, rfl, rfl⟩ ?_
  · rw [gI_sI, if_neg (by omega)]
  · rw [gA_same, upd_at, if_neg (by omega)]
  · intro q G w X B
    refine ⟨fun k => if k = 4 then v else G k, fun k hk => if_neg (by omega), gWf_4 w hv, ⟨gI_same _ _ _ _ _, ?_⟩, ?_, ⟨?_, ?_, ?_⟩, fun i hi => ?_⟩
    · exact X.2.2.1.2
    · refine ⟨X.2.2.2.1, fun i hi => ?_⟩
      simp (disch := omega) only [if_neg]
      exact X.2.2.2.2 i hi
    · rw [gA_same]; rfl
    · rw [gA_same]; exact B.1.2.2.2.2.2.1
    · rw [gA_same]; exact B.1.2.2.2.2.2.2
    · simp (disch := omega) only [gA_same, upd_at, if_neg]
      exact B.2.2.2.2.1 i hi
theorem up_dead {sc sm : fSt} (H : RX sc sm) {v : Nat} (hv : v < 64) : RX (sI sc 2 0 3 (nI v)) (sA sm 12 0 5 (upd (gA sm 12 0 5) 5 (nI v))) := by
  refine up0 H ⟨fun c hc i k => by rcases hc with rfl | rfl | rfl <;> exact ⟨rfl, rfl, rfl, rfl, rfl⟩, fun i k hk => ?_, fun i k => rfl, fun i hi => ⟨rfl, rfl⟩, rfl, rfl, ⟨rfl, rfl, rfl⟩, ⟨rfl, rfl, rfl, rfl, rfl, rfl⟩, rfl, rfl, rfl, rfl, rfl, rfl, rfl⟩
    ⟨⟨rfl, rfl, rfl, rfl, rfl, rfl, rfl⟩, ⟨rfl, rfl⟩, ⟨rfl, rfl, rfl, fun k hk => ?_, rfl, rfl, rfl⟩, rfl, rfl⟩ ?_
  · rw [gI_sI, if_neg (by omega)]
  · rw [gA_same, upd_at, if_neg (by omega)]
  · intro q G w X B
    refine ⟨fun k => if k = 5 then v else G k, fun k hk => if_neg (by omega), gWf_5 w hv, ⟨?_, gI_same _ _ _ _ _⟩, ?_, ⟨?_, ?_, ?_⟩, fun i hi => ?_⟩
    · exact X.2.2.1.1
    · refine ⟨X.2.2.2.1, fun i hi => ?_⟩
      simp (disch := omega) only [if_neg]
      exact X.2.2.2.2 i hi
    · rw [gA_same]; exact B.1.2.2.2.2.1
    · rw [gA_same]; rfl
    · rw [gA_same]; exact B.1.2.2.2.2.2.2
    · simp (disch := omega) only [gA_same, upd_at, if_neg]
      exact B.2.2.2.2.1 i hi
theorem call_bar (a b : Int32) : CALL (f_X11_bar a b) (f_X12_bar a b) := by
  intro sc sm ⟨hA, H⟩
  have H := pro_x H
  have z := pro_0 sm
  unfold f_X11_bar f_X12_bar
  simp only [fLt_e, pro_eq]
  generalize pro sm = s2 at *
  obtain ⟨q, G, w, X, B, -⟩ := RX_cur H
  rw [x_hasScene X w, m_isSceneAt B w]
  cases hb : inB a.toInt 0 (G 2 - 1)
  · simp only [fLt_e, fBd_s, fJn_s, fNn_s, fNu_0, fNu_s, fBo_0, fBo_1, fBo_b, i_lit, i_neg1, nI_add, pk_mul, nI_clamp, i_le, i_lt, i_eq, fIx_n, nI_mI, mI_nI, mI_lt, nI_lt_m, mI_le, nI_le_m, xI_0, xI_s, bI_0, bI_1, bI_t, bI_f, n_31, j_bit, j_one, i_and, i_or, Nat.not_lt_zero, Nat.succ_ne_zero, Nat.add_one_ne_zero, Nat.add_one_sub_one, Nat.zero_le, Nat.or_zero, Nat.zero_or, Bool.not_true, Bool.not_false, Bool.true_and, Bool.false_and, Bool.and_true, Bool.and_false, ↓reduceIte, if_true, if_false, not_true_eq_false, not_false_eq_true, true_and, and_true, false_and, and_false, and_self, true_or, or_true, false_or, or_false, Nat.reduceEqDiff, Nat.reduceLT, Nat.reduceLeDiff, Nat.reduceAdd, Nat.reduceMul, Nat.reduceSub, Nat.add_zero, Nat.zero_add, Nat.mul_zero, Nat.zero_mul, ne_eq, Bool.not_eq_true, Bool.not_eq_false, reduceCtorEq, decide_true, decide_false, decide_eq_true_eq, decide_eq_false_iff_not, Bool.false_eq_true, if_pos, if_neg, f_X11_refuse, f_X12_no]
    exact ⟨_, _, _, rfl, rfl, fin_st H _⟩
  · have hb := inB_t.mp hb
    obtain ⟨s, hs, rfl, -⟩ := nI_ofInt (n := G 2) hb.1 (by omega)
    have w1 := w.1
    have w2 := w.2.1
    have hv := gbit_lt (b := decide (¬ b = 0)) (show G 4 < 2 ^ 12 from w2.1) (show s < 12 by omega)
    simp (disch := omega) only [fLt_e, fBd_s, fJn_s, fNn_s, fNu_0, fNu_s, fBo_0, fBo_1, fBo_b, i_lit, i_neg1, nI_add, pk_mul, nI_clamp, i_le, i_lt, i_eq, fIx_n, nI_mI, mI_nI, mI_lt, nI_lt_m, mI_le, nI_le_m, xI_0, xI_s, bI_0, bI_1, bI_t, bI_f, n_31, j_bit, j_one, i_and, i_or, Nat.not_lt_zero, Nat.succ_ne_zero, Nat.add_one_ne_zero, Nat.add_one_sub_one, Nat.zero_le, Nat.or_zero, Nat.zero_or, Bool.not_true, Bool.not_false, Bool.true_and, Bool.false_and, Bool.and_true, Bool.and_false, ↓reduceIte, if_true, if_false, not_true_eq_false, not_false_eq_true, true_and, and_true, false_and, and_false, and_self, true_or, or_true, false_or, or_false, Nat.reduceEqDiff, Nat.reduceLT, Nat.reduceLeDiff, Nat.reduceAdd, Nat.reduceMul, Nat.reduceSub, Nat.add_zero, Nat.zero_add, Nat.mul_zero, Nat.zero_mul, ne_eq, Bool.not_eq_true, Bool.not_eq_false, reduceCtorEq, decide_true, decide_false, decide_eq_true_eq, decide_eq_false_iff_not, Bool.false_eq_true, if_pos, if_neg, x_setBarred b (show s < 31 by omega) X.2.2.1.1, B.1.2.2.2.2.1, m_with b (show s < 31 by omega), f_X11_agree]
    exact ⟨_, _, _, rfl, rfl, fin_0 (up_bar H hv) z⟩
theorem call_kill (a b : Int32) : CALL (f_X11_kill a b) (f_X12_kill a b) := by
  intro sc sm ⟨hA, H⟩
  have H := pro_x H
  have z := pro_0 sm
  unfold f_X11_kill f_X12_kill
  simp only [fLt_e, pro_eq]
  generalize pro sm = s2 at *
  obtain ⟨q, G, w, X, B, -⟩ := RX_cur H
  rw [x_hasRole X w, m_isRoleAt B w]
  cases hb : inB a.toInt 0 (G 0 - 1)
  · simp only [fLt_e, fBd_s, fJn_s, fNn_s, fNu_0, fNu_s, fBo_0, fBo_1, fBo_b, i_lit, i_neg1, nI_add, pk_mul, nI_clamp, i_le, i_lt, i_eq, fIx_n, nI_mI, mI_nI, mI_lt, nI_lt_m, mI_le, nI_le_m, xI_0, xI_s, bI_0, bI_1, bI_t, bI_f, n_31, j_bit, j_one, i_and, i_or, Nat.not_lt_zero, Nat.succ_ne_zero, Nat.add_one_ne_zero, Nat.add_one_sub_one, Nat.zero_le, Nat.or_zero, Nat.zero_or, Bool.not_true, Bool.not_false, Bool.true_and, Bool.false_and, Bool.and_true, Bool.and_false, ↓reduceIte, if_true, if_false, not_true_eq_false, not_false_eq_true, true_and, and_true, false_and, and_false, and_self, true_or, or_true, false_or, or_false, Nat.reduceEqDiff, Nat.reduceLT, Nat.reduceLeDiff, Nat.reduceAdd, Nat.reduceMul, Nat.reduceSub, Nat.add_zero, Nat.zero_add, Nat.mul_zero, Nat.zero_mul, ne_eq, Bool.not_eq_true, Bool.not_eq_false, reduceCtorEq, decide_true, decide_false, decide_eq_true_eq, decide_eq_false_iff_not, Bool.false_eq_true, if_pos, if_neg, f_X11_refuse, f_X12_no]
    exact ⟨_, _, _, rfl, rfl, fin_st H _⟩
  · have hb := inB_t.mp hb
    obtain ⟨s, hs, rfl, -⟩ := nI_ofInt (n := G 0) hb.1 (by omega)
    have w1 := w.1
    have w2 := w.2.1
    have hv := gbit_lt (b := decide (¬ b = 0)) (show G 5 < 2 ^ 6 from w2.2.1) (show s < 6 by omega)
    simp (disch := omega) only [fLt_e, fBd_s, fJn_s, fNn_s, fNu_0, fNu_s, fBo_0, fBo_1, fBo_b, i_lit, i_neg1, nI_add, pk_mul, nI_clamp, i_le, i_lt, i_eq, fIx_n, nI_mI, mI_nI, mI_lt, nI_lt_m, mI_le, nI_le_m, xI_0, xI_s, bI_0, bI_1, bI_t, bI_f, n_31, j_bit, j_one, i_and, i_or, Nat.not_lt_zero, Nat.succ_ne_zero, Nat.add_one_ne_zero, Nat.add_one_sub_one, Nat.zero_le, Nat.or_zero, Nat.zero_or, Bool.not_true, Bool.not_false, Bool.true_and, Bool.false_and, Bool.and_true, Bool.and_false, ↓reduceIte, if_true, if_false, not_true_eq_false, not_false_eq_true, true_and, and_true, false_and, and_false, and_self, true_or, or_true, false_or, or_false, Nat.reduceEqDiff, Nat.reduceLT, Nat.reduceLeDiff, Nat.reduceAdd, Nat.reduceMul, Nat.reduceSub, Nat.add_zero, Nat.zero_add, Nat.mul_zero, Nat.zero_mul, ne_eq, Bool.not_eq_true, Bool.not_eq_false, reduceCtorEq, decide_true, decide_false, decide_eq_true_eq, decide_eq_false_iff_not, Bool.false_eq_true, if_pos, if_neg, x_setDead b (show s < 31 by omega) X.2.2.1.2, B.1.2.2.2.2.2.1, m_with b (show s < 31 by omega), f_X11_agree]
    exact ⟨_, _, _, rfl, rfl, fin_0 (up_dead H hv) z⟩
theorem x_linesInAll {sc : fSt} {q : Nat} {G : Nat → Nat} (H : rStg sc q G) (w : gWf G) : f_X7_linesInAll q sc = some (nI (zs (fun s => G (25 + s)) (G 2)), sc) := by
  have h := w.1
  unfold f_X7_linesInAll
  obtain ⟨m, e⟩ := lp_run (fun m (t : Int32 × Int32) => f_X7_linesInAll_L4 q m t.1 t.2 sc) (fun t => (nI (zs (fun s => G (25 + s)) t), nI t)) (G 2) (fun m t ht => by
    show f_X7_linesInAll_L4 q (m + 1) (nI (zs (fun s => G (25 + s)) t)) (nI t) sc = f_X7_linesInAll_L4 q m (nI (zs (fun s => G (25 + s)) (t + 1))) (nI (t + 1)) sc
    rw [f_X7_linesInAll_L4]
    simp (disch := omega) only [fLt_e, fBd_s, fJn_s, fNn_s, fNu_0, fNu_s, fBo_0, fBo_1, fBo_b, i_lit, i_neg1, nI_add, pk_mul, nI_clamp, i_le, i_lt, i_eq, fIx_n, nI_mI, mI_nI, mI_lt, nI_lt_m, mI_le, nI_le_m, xI_0, xI_s, bI_0, bI_1, bI_t, bI_f, n_31, j_bit, j_one, i_and, i_or, Nat.not_lt_zero, Nat.succ_ne_zero, Nat.add_one_ne_zero, Nat.add_one_sub_one, Nat.zero_le, Nat.or_zero, Nat.zero_or, Bool.not_true, Bool.not_false, Bool.true_and, Bool.false_and, Bool.and_true, Bool.and_false, ↓reduceIte, if_true, if_false, not_true_eq_false, not_false_eq_true, true_and, and_true, false_and, and_false, and_self, true_or, or_true, false_or, or_false, Nat.reduceEqDiff, Nat.reduceLT, Nat.reduceLeDiff, Nat.reduceAdd, Nat.reduceMul, Nat.reduceSub, Nat.add_zero, Nat.zero_add, Nat.mul_zero, Nat.zero_mul, ne_eq, Bool.not_eq_true, Bool.not_eq_false, reduceCtorEq, decide_true, decide_false, decide_eq_true_eq, decide_eq_false_iff_not, Bool.false_eq_true, if_pos, if_neg, H.1.2.2.1, (H.2.2.1 t ht).1, zs_s]) (fF_lt (by omega))
  refine Eq.trans e ?_
  show f_X7_linesInAll_L4 q (m + 1) (nI (zs (fun s => G (25 + s)) (G 2))) (nI (G 2)) sc = _
  rw [f_X7_linesInAll_L4]
  simp (disch := omega) only [fLt_e, fBd_s, fJn_s, fNn_s, fNu_0, fNu_s, fBo_0, fBo_1, fBo_b, i_lit, i_neg1, nI_add, pk_mul, nI_clamp, i_le, i_lt, i_eq, fIx_n, nI_mI, mI_nI, mI_lt, nI_lt_m, mI_le, nI_le_m, xI_0, xI_s, bI_0, bI_1, bI_t, bI_f, n_31, j_bit, j_one, i_and, i_or, Nat.not_lt_zero, Nat.succ_ne_zero, Nat.add_one_ne_zero, Nat.add_one_sub_one, Nat.zero_le, Nat.or_zero, Nat.zero_or, Bool.not_true, Bool.not_false, Bool.true_and, Bool.false_and, Bool.and_true, Bool.and_false, ↓reduceIte, if_true, if_false, not_true_eq_false, not_false_eq_true, true_and, and_true, false_and, and_false, and_self, true_or, or_true, false_or, or_false, Nat.reduceEqDiff, Nat.reduceLT, Nat.reduceLeDiff, Nat.reduceAdd, Nat.reduceMul, Nat.reduceSub, Nat.add_zero, Nat.zero_add, Nat.mul_zero, Nat.zero_mul, ne_eq, Bool.not_eq_true, Bool.not_eq_false, reduceCtorEq, decide_true, decide_false, decide_eq_true_eq, decide_eq_false_iff_not, Bool.false_eq_true, if_pos, if_neg, H.1.2.2.1]
theorem m_allLines {sm : fSt} {G : Nat → Nat} (B : rBlk (gA sm 12 0 5) G) (w : gWf G) : f_X12_allLines sm = some (nI (zs (fun s => G (25 + s)) (G 2)), sm) := by
  have h := w.1
  unfold f_X12_allLines
  obtain ⟨m, e⟩ := lp_run (fun m (t : Int32 × Int32) => f_X12_allLines_L4 m t.1 t.2 sm) (fun t => (nI (zs (fun s => G (25 + s)) t), nI t)) (G 2) (fun m t ht => by
    show f_X12_allLines_L4 (m + 1) (nI (zs (fun s => G (25 + s)) t)) (nI t) sm = f_X12_allLines_L4 m (nI (zs (fun s => G (25 + s)) (t + 1))) (nI (t + 1)) sm
    rw [f_X12_allLines_L4]
    simp (disch := omega) only [fLt_e, fBd_s, fJn_s, fNn_s, fNu_0, fNu_s, fBo_0, fBo_1, fBo_b, i_lit, i_neg1, nI_add, pk_mul, nI_clamp, i_le, i_lt, i_eq, fIx_n, nI_mI, mI_nI, mI_lt, nI_lt_m, mI_le, nI_le_m, xI_0, xI_s, bI_0, bI_1, bI_t, bI_f, n_31, j_bit, j_one, i_and, i_or, Nat.not_lt_zero, Nat.succ_ne_zero, Nat.add_one_ne_zero, Nat.add_one_sub_one, Nat.zero_le, Nat.or_zero, Nat.zero_or, Bool.not_true, Bool.not_false, Bool.true_and, Bool.false_and, Bool.and_true, Bool.and_false, ↓reduceIte, if_true, if_false, not_true_eq_false, not_false_eq_true, true_and, and_true, false_and, and_false, and_self, true_or, or_true, false_or, or_false, Nat.reduceEqDiff, Nat.reduceLT, Nat.reduceLeDiff, Nat.reduceAdd, Nat.reduceMul, Nat.reduceSub, Nat.add_zero, Nat.zero_add, Nat.mul_zero, Nat.zero_mul, ne_eq, Bool.not_eq_true, Bool.not_eq_false, reduceCtorEq, decide_true, decide_false, decide_eq_true_eq, decide_eq_false_iff_not, Bool.false_eq_true, if_pos, if_neg, B.1.2.2.1, (B.2.2.1 t ht).1, zs_s]) (fF_lt (by omega))
  refine Eq.trans e ?_
  show f_X12_allLines_L4 (m + 1) (nI (zs (fun s => G (25 + s)) (G 2))) (nI (G 2)) sm = _
  rw [f_X12_allLines_L4]
  simp (disch := omega) only [fLt_e, fBd_s, fJn_s, fNn_s, fNu_0, fNu_s, fBo_0, fBo_1, fBo_b, i_lit, i_neg1, nI_add, pk_mul, nI_clamp, i_le, i_lt, i_eq, fIx_n, nI_mI, mI_nI, mI_lt, nI_lt_m, mI_le, nI_le_m, xI_0, xI_s, bI_0, bI_1, bI_t, bI_f, n_31, j_bit, j_one, i_and, i_or, Nat.not_lt_zero, Nat.succ_ne_zero, Nat.add_one_ne_zero, Nat.add_one_sub_one, Nat.zero_le, Nat.or_zero, Nat.zero_or, Bool.not_true, Bool.not_false, Bool.true_and, Bool.false_and, Bool.and_true, Bool.and_false, ↓reduceIte, if_true, if_false, not_true_eq_false, not_false_eq_true, true_and, and_true, false_and, and_false, and_self, true_or, or_true, false_or, or_false, Nat.reduceEqDiff, Nat.reduceLT, Nat.reduceLeDiff, Nat.reduceAdd, Nat.reduceMul, Nat.reduceSub, Nat.add_zero, Nat.zero_add, Nat.mul_zero, Nat.zero_mul, ne_eq, Bool.not_eq_true, Bool.not_eq_false, reduceCtorEq, decide_true, decide_false, decide_eq_true_eq, decide_eq_false_iff_not, Bool.false_eq_true, if_pos, if_neg, B.1.2.2.1]
theorem call_many (a : Int32) : CALL (f_X11_many a) (f_X12_many a) := by
  intro sc sm ⟨hA, H⟩
  have H := pro_x H
  have z := pro_0 sm
  unfold f_X11_many f_X12_many
  simp only [fLt_e, pro_eq]
  generalize pro sm = s2 at *
  obtain ⟨q, G, w, X, B, -⟩ := RX_cur H
  have w1 := w.1
  have w2 := w.2.1
  obtain ⟨b0, b1, b2, b3, b4, b5, b6⟩ := B.1
  obtain ⟨c0, c1, c2, c3⟩ := X.2.1.1
  have F := fin_0 H z
  by_cases hc : 0 ≤ a.toInt ∧ a.toInt ≤ 7
  · obtain ⟨j, hj, rfl, -⟩ := nI_ofInt (n := 8) hc.1 (by omega)
    rcases (show j = 0 ∨ j = 1 ∨ j = 2 ∨ j = 3 ∨ j = 4 ∨ j = 5 ∨ j = 6 ∨ j = 7 by omega) with rfl | rfl | rfl | rfl | rfl | rfl | rfl | rfl
    · simp (disch := omega) only [fLt_e, fBd_s, fJn_s, fNn_s, fNu_0, fNu_s, fBo_0, fBo_1, fBo_b, i_lit, i_neg1, nI_add, pk_mul, nI_clamp, i_le, i_lt, i_eq, fIx_n, nI_mI, mI_nI, mI_lt, nI_lt_m, mI_le, nI_le_m, xI_0, xI_s, bI_0, bI_1, bI_t, bI_f, n_31, j_bit, j_one, i_and, i_or, Nat.not_lt_zero, Nat.succ_ne_zero, Nat.add_one_ne_zero, Nat.add_one_sub_one, Nat.zero_le, Nat.or_zero, Nat.zero_or, Bool.not_true, Bool.not_false, Bool.true_and, Bool.false_and, Bool.and_true, Bool.and_false, ↓reduceIte, if_true, if_false, not_true_eq_false, not_false_eq_true, true_and, and_true, false_and, and_false, and_self, true_or, or_true, false_or, or_false, Nat.reduceEqDiff, Nat.reduceLT, Nat.reduceLeDiff, Nat.reduceAdd, Nat.reduceMul, Nat.reduceSub, Nat.add_zero, Nat.zero_add, Nat.mul_zero, Nat.zero_mul, ne_eq, Bool.not_eq_true, Bool.not_eq_false, reduceCtorEq, decide_true, decide_false, decide_eq_true_eq, decide_eq_false_iff_not, Bool.false_eq_true, if_pos, if_neg, X.1, b0, c0, f_X11_answer]
      exact ⟨_, _, _, rfl, rfl, F⟩
    · simp (disch := omega) only [fLt_e, fBd_s, fJn_s, fNn_s, fNu_0, fNu_s, fBo_0, fBo_1, fBo_b, i_lit, i_neg1, nI_add, pk_mul, nI_clamp, i_le, i_lt, i_eq, fIx_n, nI_mI, mI_nI, mI_lt, nI_lt_m, mI_le, nI_le_m, xI_0, xI_s, bI_0, bI_1, bI_t, bI_f, n_31, j_bit, j_one, i_and, i_or, Nat.not_lt_zero, Nat.succ_ne_zero, Nat.add_one_ne_zero, Nat.add_one_sub_one, Nat.zero_le, Nat.or_zero, Nat.zero_or, Bool.not_true, Bool.not_false, Bool.true_and, Bool.false_and, Bool.and_true, Bool.and_false, ↓reduceIte, if_true, if_false, not_true_eq_false, not_false_eq_true, true_and, and_true, false_and, and_false, and_self, true_or, or_true, false_or, or_false, Nat.reduceEqDiff, Nat.reduceLT, Nat.reduceLeDiff, Nat.reduceAdd, Nat.reduceMul, Nat.reduceSub, Nat.add_zero, Nat.zero_add, Nat.mul_zero, Nat.zero_mul, ne_eq, Bool.not_eq_true, Bool.not_eq_false, reduceCtorEq, decide_true, decide_false, decide_eq_true_eq, decide_eq_false_iff_not, Bool.false_eq_true, if_pos, if_neg, X.1, b1, c1, f_X11_answer]
      exact ⟨_, _, _, rfl, rfl, F⟩
    · simp (disch := omega) only [fLt_e, fBd_s, fJn_s, fNn_s, fNu_0, fNu_s, fBo_0, fBo_1, fBo_b, i_lit, i_neg1, nI_add, pk_mul, nI_clamp, i_le, i_lt, i_eq, fIx_n, nI_mI, mI_nI, mI_lt, nI_lt_m, mI_le, nI_le_m, xI_0, xI_s, bI_0, bI_1, bI_t, bI_f, n_31, j_bit, j_one, i_and, i_or, Nat.not_lt_zero, Nat.succ_ne_zero, Nat.add_one_ne_zero, Nat.add_one_sub_one, Nat.zero_le, Nat.or_zero, Nat.zero_or, Bool.not_true, Bool.not_false, Bool.true_and, Bool.false_and, Bool.and_true, Bool.and_false, ↓reduceIte, if_true, if_false, not_true_eq_false, not_false_eq_true, true_and, and_true, false_and, and_false, and_self, true_or, or_true, false_or, or_false, Nat.reduceEqDiff, Nat.reduceLT, Nat.reduceLeDiff, Nat.reduceAdd, Nat.reduceMul, Nat.reduceSub, Nat.add_zero, Nat.zero_add, Nat.mul_zero, Nat.zero_mul, ne_eq, Bool.not_eq_true, Bool.not_eq_false, reduceCtorEq, decide_true, decide_false, decide_eq_true_eq, decide_eq_false_iff_not, Bool.false_eq_true, if_pos, if_neg, X.1, b2, c2, f_X11_answer]
      exact ⟨_, _, _, rfl, rfl, F⟩
    · simp (disch := omega) only [fLt_e, fBd_s, fJn_s, fNn_s, fNu_0, fNu_s, fBo_0, fBo_1, fBo_b, i_lit, i_neg1, nI_add, pk_mul, nI_clamp, i_le, i_lt, i_eq, fIx_n, nI_mI, mI_nI, mI_lt, nI_lt_m, mI_le, nI_le_m, xI_0, xI_s, bI_0, bI_1, bI_t, bI_f, n_31, j_bit, j_one, i_and, i_or, Nat.not_lt_zero, Nat.succ_ne_zero, Nat.add_one_ne_zero, Nat.add_one_sub_one, Nat.zero_le, Nat.or_zero, Nat.zero_or, Bool.not_true, Bool.not_false, Bool.true_and, Bool.false_and, Bool.and_true, Bool.and_false, ↓reduceIte, if_true, if_false, not_true_eq_false, not_false_eq_true, true_and, and_true, false_and, and_false, and_self, true_or, or_true, false_or, or_false, Nat.reduceEqDiff, Nat.reduceLT, Nat.reduceLeDiff, Nat.reduceAdd, Nat.reduceMul, Nat.reduceSub, Nat.add_zero, Nat.zero_add, Nat.mul_zero, Nat.zero_mul, ne_eq, Bool.not_eq_true, Bool.not_eq_false, reduceCtorEq, decide_true, decide_false, decide_eq_true_eq, decide_eq_false_iff_not, Bool.false_eq_true, if_pos, if_neg, X.1, b3, c3, f_X11_answer]
      exact ⟨_, _, _, rfl, rfl, F⟩
    · simp (disch := omega) only [fLt_e, fBd_s, fJn_s, fNn_s, fNu_0, fNu_s, fBo_0, fBo_1, fBo_b, i_lit, i_neg1, nI_add, pk_mul, nI_clamp, i_le, i_lt, i_eq, fIx_n, nI_mI, mI_nI, mI_lt, nI_lt_m, mI_le, nI_le_m, xI_0, xI_s, bI_0, bI_1, bI_t, bI_f, n_31, j_bit, j_one, i_and, i_or, Nat.not_lt_zero, Nat.succ_ne_zero, Nat.add_one_ne_zero, Nat.add_one_sub_one, Nat.zero_le, Nat.or_zero, Nat.zero_or, Bool.not_true, Bool.not_false, Bool.true_and, Bool.false_and, Bool.and_true, Bool.and_false, ↓reduceIte, if_true, if_false, not_true_eq_false, not_false_eq_true, true_and, and_true, false_and, and_false, and_self, true_or, or_true, false_or, or_false, Nat.reduceEqDiff, Nat.reduceLT, Nat.reduceLeDiff, Nat.reduceAdd, Nat.reduceMul, Nat.reduceSub, Nat.add_zero, Nat.zero_add, Nat.mul_zero, Nat.zero_mul, ne_eq, Bool.not_eq_true, Bool.not_eq_false, reduceCtorEq, decide_true, decide_false, decide_eq_true_eq, decide_eq_false_iff_not, Bool.false_eq_true, if_pos, if_neg, b6, X.2.2.2.1, f_X11_answer]
      exact ⟨_, _, _, rfl, rfl, F⟩
    · simp (disch := omega) only [fLt_e, fBd_s, fJn_s, fNn_s, fNu_0, fNu_s, fBo_0, fBo_1, fBo_b, i_lit, i_neg1, nI_add, pk_mul, nI_clamp, i_le, i_lt, i_eq, fIx_n, nI_mI, mI_nI, mI_lt, nI_lt_m, mI_le, nI_le_m, xI_0, xI_s, bI_0, bI_1, bI_t, bI_f, n_31, j_bit, j_one, i_and, i_or, Nat.not_lt_zero, Nat.succ_ne_zero, Nat.add_one_ne_zero, Nat.add_one_sub_one, Nat.zero_le, Nat.or_zero, Nat.zero_or, Bool.not_true, Bool.not_false, Bool.true_and, Bool.false_and, Bool.and_true, Bool.and_false, ↓reduceIte, if_true, if_false, not_true_eq_false, not_false_eq_true, true_and, and_true, false_and, and_false, and_self, true_or, or_true, false_or, or_false, Nat.reduceEqDiff, Nat.reduceLT, Nat.reduceLeDiff, Nat.reduceAdd, Nat.reduceMul, Nat.reduceSub, Nat.add_zero, Nat.zero_add, Nat.mul_zero, Nat.zero_mul, ne_eq, Bool.not_eq_true, Bool.not_eq_false, reduceCtorEq, decide_true, decide_false, decide_eq_true_eq, decide_eq_false_iff_not, Bool.false_eq_true, if_pos, if_neg, b4, X.2.2.1.1, f_X11_answer]
      exact ⟨_, _, _, rfl, rfl, F⟩
    · simp (disch := omega) only [fLt_e, fBd_s, fJn_s, fNn_s, fNu_0, fNu_s, fBo_0, fBo_1, fBo_b, i_lit, i_neg1, nI_add, pk_mul, nI_clamp, i_le, i_lt, i_eq, fIx_n, nI_mI, mI_nI, mI_lt, nI_lt_m, mI_le, nI_le_m, xI_0, xI_s, bI_0, bI_1, bI_t, bI_f, n_31, j_bit, j_one, i_and, i_or, Nat.not_lt_zero, Nat.succ_ne_zero, Nat.add_one_ne_zero, Nat.add_one_sub_one, Nat.zero_le, Nat.or_zero, Nat.zero_or, Bool.not_true, Bool.not_false, Bool.true_and, Bool.false_and, Bool.and_true, Bool.and_false, ↓reduceIte, if_true, if_false, not_true_eq_false, not_false_eq_true, true_and, and_true, false_and, and_false, and_self, true_or, or_true, false_or, or_false, Nat.reduceEqDiff, Nat.reduceLT, Nat.reduceLeDiff, Nat.reduceAdd, Nat.reduceMul, Nat.reduceSub, Nat.add_zero, Nat.zero_add, Nat.mul_zero, Nat.zero_mul, ne_eq, Bool.not_eq_true, Bool.not_eq_false, reduceCtorEq, decide_true, decide_false, decide_eq_true_eq, decide_eq_false_iff_not, Bool.false_eq_true, if_pos, if_neg, b5, X.2.2.1.2, f_X11_answer]
      exact ⟨_, _, _, rfl, rfl, F⟩
    · simp (disch := omega) only [fLt_e, fBd_s, fJn_s, fNn_s, fNu_0, fNu_s, fBo_0, fBo_1, fBo_b, i_lit, i_neg1, nI_add, pk_mul, nI_clamp, i_le, i_lt, i_eq, fIx_n, nI_mI, mI_nI, mI_lt, nI_lt_m, mI_le, nI_le_m, xI_0, xI_s, bI_0, bI_1, bI_t, bI_f, n_31, j_bit, j_one, i_and, i_or, Nat.not_lt_zero, Nat.succ_ne_zero, Nat.add_one_ne_zero, Nat.add_one_sub_one, Nat.zero_le, Nat.or_zero, Nat.zero_or, Bool.not_true, Bool.not_false, Bool.true_and, Bool.false_and, Bool.and_true, Bool.and_false, ↓reduceIte, if_true, if_false, not_true_eq_false, not_false_eq_true, true_and, and_true, false_and, and_false, and_self, true_or, or_true, false_or, or_false, Nat.reduceEqDiff, Nat.reduceLT, Nat.reduceLeDiff, Nat.reduceAdd, Nat.reduceMul, Nat.reduceSub, Nat.add_zero, Nat.zero_add, Nat.mul_zero, Nat.zero_mul, ne_eq, Bool.not_eq_true, Bool.not_eq_false, reduceCtorEq, decide_true, decide_false, decide_eq_true_eq, decide_eq_false_iff_not, Bool.false_eq_true, if_pos, if_neg, X.1, f_X11_answer, x_linesInAll X.2.1 w, m_allLines B w]
      exact ⟨_, _, _, rfl, rfl, F⟩
  · have hne : ∀ j : Nat, j < 8 → (a = nI j) = False := fun j hj => eq_false (fun h => by subst h; rw [nI_toInt (by omega)] at hc; omega)
    simp (disch := omega) only [fLt_e, fBd_s, fJn_s, fNn_s, fNu_0, fNu_s, fBo_0, fBo_1, fBo_b, i_lit, i_neg1, nI_add, pk_mul, nI_clamp, i_le, i_lt, i_eq, fIx_n, nI_mI, mI_nI, mI_lt, nI_lt_m, mI_le, nI_le_m, xI_0, xI_s, bI_0, bI_1, bI_t, bI_f, n_31, j_bit, j_one, i_and, i_or, Nat.not_lt_zero, Nat.succ_ne_zero, Nat.add_one_ne_zero, Nat.add_one_sub_one, Nat.zero_le, Nat.or_zero, Nat.zero_or, Bool.not_true, Bool.not_false, Bool.true_and, Bool.false_and, Bool.and_true, Bool.and_false, ↓reduceIte, if_true, if_false, not_true_eq_false, not_false_eq_true, true_and, and_true, false_and, and_false, and_self, true_or, or_true, false_or, or_false, Nat.reduceEqDiff, Nat.reduceLT, Nat.reduceLeDiff, Nat.reduceAdd, Nat.reduceMul, Nat.reduceSub, Nat.add_zero, Nat.zero_add, Nat.mul_zero, Nat.zero_mul, ne_eq, Bool.not_eq_true, Bool.not_eq_false, reduceCtorEq, decide_true, decide_false, decide_eq_true_eq, decide_eq_false_iff_not, Bool.false_eq_true, if_pos, if_neg, hne, f_X11_fail, f_X12_refuse]
    exact ⟨_, _, _, rfl, rfl, fin_st H _⟩
theorem call_actor (a b : Int32) : CALL (f_X11_actor a b) (f_X12_actor a b) := by
  intro sc sm ⟨hA, H⟩
  have H := pro_x H
  have z := pro_0 sm
  unfold f_X11_actor f_X12_actor
  simp only [fLt_e, pro_eq]
  generalize pro sm = s2 at *
  obtain ⟨q, G, w, X, B, -⟩ := RX_cur H
  have w1 := w.1
  rw [X.1, fNn_s, X.2.1.1.2.1, x_isBelow _ _ (by omega), m_isActorAt B w]
  cases hb : inB a.toInt 0 (G 1 - 1)
  · simp only [fLt_e, fBd_s, fJn_s, fNn_s, fNu_0, fNu_s, fBo_0, fBo_1, fBo_b, i_lit, i_neg1, nI_add, pk_mul, nI_clamp, i_le, i_lt, i_eq, fIx_n, nI_mI, mI_nI, mI_lt, nI_lt_m, mI_le, nI_le_m, xI_0, xI_s, bI_0, bI_1, bI_t, bI_f, n_31, j_bit, j_one, i_and, i_or, Nat.not_lt_zero, Nat.succ_ne_zero, Nat.add_one_ne_zero, Nat.add_one_sub_one, Nat.zero_le, Nat.or_zero, Nat.zero_or, Bool.not_true, Bool.not_false, Bool.true_and, Bool.false_and, Bool.and_true, Bool.and_false, ↓reduceIte, if_true, if_false, not_true_eq_false, not_false_eq_true, true_and, and_true, false_and, and_false, and_self, true_or, or_true, false_or, or_false, Nat.reduceEqDiff, Nat.reduceLT, Nat.reduceLeDiff, Nat.reduceAdd, Nat.reduceMul, Nat.reduceSub, Nat.add_zero, Nat.zero_add, Nat.mul_zero, Nat.zero_mul, ne_eq, Bool.not_eq_true, Bool.not_eq_false, reduceCtorEq, decide_true, decide_false, decide_eq_true_eq, decide_eq_false_iff_not, Bool.false_eq_true, if_pos, if_neg, f_X11_fail, f_X12_refuse]
    exact ⟨_, _, _, rfl, rfl, fin_st H _⟩
  · have hb := inB_t.mp hb
    obtain ⟨s, hs, rfl, -⟩ := nI_ofInt (n := G 1) hb.1 (by omega)
    have F := fin_0 H z
    obtain ⟨b0, b1, b2⟩ := B.2.1 s hs
    obtain ⟨c0, c1, c2⟩ := X.2.1.2.1 s hs
    simp (disch := omega) only [fLt_e, fBd_s, fJn_s, fNn_s, fNu_0, fNu_s, fBo_0, fBo_1, fBo_b, i_lit, i_neg1, nI_add, pk_mul, nI_clamp, i_le, i_lt, i_eq, fIx_n, nI_mI, mI_nI, mI_lt, nI_lt_m, mI_le, nI_le_m, xI_0, xI_s, bI_0, bI_1, bI_t, bI_f, n_31, j_bit, j_one, i_and, i_or, Nat.not_lt_zero, Nat.succ_ne_zero, Nat.add_one_ne_zero, Nat.add_one_sub_one, Nat.zero_le, Nat.or_zero, Nat.zero_or, Bool.not_true, Bool.not_false, Bool.true_and, Bool.false_and, Bool.and_true, Bool.and_false, ↓reduceIte, if_true, if_false, not_true_eq_false, not_false_eq_true, true_and, and_true, false_and, and_false, and_self, true_or, or_true, false_or, or_false, Nat.reduceEqDiff, Nat.reduceLT, Nat.reduceLeDiff, Nat.reduceAdd, Nat.reduceMul, Nat.reduceSub, Nat.add_zero, Nat.zero_add, Nat.mul_zero, Nat.zero_mul, ne_eq, Bool.not_eq_true, Bool.not_eq_false, reduceCtorEq, decide_true, decide_false, decide_eq_true_eq, decide_eq_false_iff_not, Bool.false_eq_true, if_pos, if_neg, X.1, b0, b1, b2, c0, c1, c2, f_X11_answer, f_X11_fail, f_X12_refuse]
    repeat' split
    all_goals first | exact ⟨_, _, _, rfl, rfl, F⟩ | exact ⟨_, _, _, rfl, rfl, fin_st H _⟩
