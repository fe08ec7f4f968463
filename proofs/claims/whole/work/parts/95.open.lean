/-! layer 2: opening a text; the relation beside a reading -/
theorem rStp_w {sc sc' : fSt} {w : Nat} (e : ∀ k, gA sc' 9 w k = gA sc 9 w k) {G : Nat → Nat} {j i : Nat} (H : rStp sc w G j i) : rStp sc' w G j i := by
  unfold rStp at *
  simp only [e]
  exact H
theorem rBod_w {sc sc' : fSt} {w : Nat} (e : ∀ k, gA sc' 9 w k = gA sc 9 w k) {G : Nat → Nat} : ∀ n d a b i i', rBod sc w G n d a b i i' → rBod sc' w G n d a b i i' := by
  intro n
  induction n with
  | zero => intro d a b i i' H; exact H
  | succ n ih =>
    intro d a b i i' H
    rcases H with H | ⟨h1, h2, H⟩
    · exact Or.inl H
    · refine Or.inr ⟨h1, rStp_w e h2, ?_⟩
      rcases H with ⟨a1, a2, a3, a4⟩ | ⟨a1, a0, a2, a3, m, b1, b2, b3, b4, b5, b6⟩
      · exact Or.inl ⟨a1, a2, a3, ih _ _ _ _ _ a4⟩
      · exact Or.inr ⟨a1, a0, a2, a3, m, ih _ _ _ _ _ b1, by rw [e]; exact b2, by rw [e]; exact b3, by rw [e]; exact b4, b5, ih _ _ _ _ _ b6⟩
theorem rOne_g {sc sc' sm sm' : fSt} {h q : Nat} {G : Nat → Nat} (p1 : gP sc' 2 h 0 = gP sc 2 h 0) (p2 : gP sc' 2 h 1 = gP sc 2 h 1) (p3 : gI sc' 2 h 2 = gI sc 2 h 2 ∧ gI sc' 2 h 3 = gI sc 2 h 3) (p5 : gI sc' 0 h 0 = gI sc 0 h 0 ∧ gA sc' 0 h 1 = gA sc 0 h 1)
    (e7 : gP sc 2 h 0 = q + 1 → (∀ k, gI sc' 7 q k = gI sc 7 q k) ∧ (∀ k, gA sc' 7 q k = gA sc 7 q k) ∧ ∀ k, gB sc' 7 q k = gB sc 7 q k) (e9 : ∀ w, gP sc 2 h 1 = w + 1 → (∀ k, gI sc' 9 w k = gI sc 9 w k) ∧ ∀ k, gA sc' 9 w k = gA sc 9 w k) (m1 : ∀ k, k < 430 → gA sm' 12 0 5 (430 * h + k) = gA sm 12 0 5 (430 * h + k)) (m2 : ∀ k, k < 28 → gB sm' 12 0 7 (28 * h + k) = gB sm 12 0 7 (28 * h + k)) (H : rOne sc sm h q G) : rOne sc' sm' h q G := by
  obtain ⟨w, X, B, N, K⟩ := H
  have w1 := w.1
  obtain ⟨e7, e7a, e7b⟩ := e7 X.1
  refine ⟨w, ⟨by rw [p1]; exact X.1, ?_, ⟨by rw [p3.1]; exact X.2.2.1.1, by rw [p3.2]; exact X.2.2.1.2⟩, ?_⟩, rBlk_cong w m1 B, ?_, ?_⟩
  · have := X.2.1
    unfold rStg at *
    simp only [e7, e7a]
    exact this
  · have := X.2.2.2
    unfold rBok at *
    rw [p5.1, p5.2]
    exact this
  · obtain ⟨n1, n2, n3, n4⟩ := N
    refine ⟨fun k hk => ?_, fun k hk => ?_, fun k hk => ?_, fun k hk => ?_⟩
    · simp (disch := omega) only [e7b, m2]; exact n1 k hk
    · simp (disch := omega) only [e7b, m2]; exact n2 k hk
    · simp (disch := omega) only [e7b, m2]; exact n3 k hk
    · simp (disch := omega) only [e7b, m2]; exact n4 k hk
  · unfold rWk at *
    rw [p2]
    rcases K with K | ⟨a, x, m, b1, b2, b3, b4, b5⟩
    · exact Or.inl K
    · obtain ⟨u1, u2⟩ := e9 x b1
      exact Or.inr ⟨a, x, m, b1, by rw [u1]; exact b2, b3, by rw [u1]; exact b4, rBod_w u2 _ _ _ _ _ _ b5⟩
-- what a reading of a text may change: class d's new instance q, the scratch of the reference
def xH (d q : Nat) (s t : fSt) : Prop := (∀ c j k, ¬ c = 5 → ¬ (c = d ∧ j = q) → gI t c j k = gI s c j k) ∧ (∀ c j k, ¬ c = 5 → ¬ (c = d ∧ j = q) → gL t c j k = gL s c j k) ∧ (∀ c j k, ¬ (c = d ∧ j = q) → gA t c j k = gA s c j k) ∧ (∀ c j k, ¬ (c = d ∧ j = q) → gB t c j k = gB s c j k) ∧ gP t = gP s
def yH (s t : fSt) : Prop := (∀ k, ¬ (k = 8 ∨ k = 9 ∨ (12 ≤ k ∧ k < 19) ∨ k = 24) → gI t 12 0 k = gI s 12 0 k) ∧ (∀ k, k ≠ 19 → gL t 12 0 k = gL s 12 0 k) ∧ (∀ k, k ≠ 5 → gA t 12 0 k = gA s 12 0 k) ∧ (∀ m, m < 1720 → gA t 12 0 5 m = gA s 12 0 5 m) ∧ (∀ k, k ≠ 7 → gB t 12 0 k = gB s 12 0 k) ∧ (∀ m, m < 112 → gB t 12 0 7 m = gB s 12 0 7 m)
section
variable {d q : Nat} {s t u : fSt}
theorem xH_tr (h : xH d q s t) (g : xH d q t u) : xH d q s u := ⟨fun c j k h1 h2 => (g.1 c j k h1 h2).trans (h.1 c j k h1 h2), fun c j k h1 h2 => (g.2.1 c j k h1 h2).trans (h.2.1 c j k h1 h2), fun c j k h1 => (g.2.2.1 c j k h1).trans (h.2.2.1 c j k h1), fun c j k h1 => (g.2.2.2.1 c j k h1).trans (h.2.2.2.1 c j k h1), g.2.2.2.2.trans h.2.2.2.2⟩
theorem yH_tr (h : yH s t) (g : yH t u) : yH s u := ⟨fun k h1 => (g.1 k h1).trans (h.1 k h1), fun k h1 => (g.2.1 k h1).trans (h.2.1 k h1), fun k h1 => (g.2.2.1 k h1).trans (h.2.2.1 k h1), fun k h1 => (g.2.2.2.1 k h1).trans (h.2.2.2.1 k h1), fun k h1 => (g.2.2.2.2.1 k h1).trans (h.2.2.2.2.1 k h1), fun k h1 => (g.2.2.2.2.2 k h1).trans (h.2.2.2.2.2 k h1)⟩
theorem xH_x (h : xFr s t) : xH d q s t := by
  refine ⟨fun c j k h1 _ => h.1 _ _ _ (by omega), fun c j k h1 _ => h.2.1 _ _ _ (by omega), fun c j k _ => ?_, fun c j k _ => ?_, h.2.2.2.2⟩
  · rw [h.2.2.1]
  · rw [h.2.2.2.1]
theorem yH_y (h : yFr s t) : yH s t := by
  refine ⟨fun k h1 => h.1 _ _ _ (by omega), fun k h1 => h.2.1 _ _ _ (by omega), fun k _ => ?_, fun k _ => ?_, fun k _ => ?_, fun k _ => ?_⟩
  · rw [h.2.2.1]
  · rw [h.2.2.1]
  · rw [h.2.2.2.1]
  · rw [h.2.2.2.1]
theorem xH_q (h : xQ q s t) : xH 7 q s t := ⟨fun c j k h1 h2 => h.1 _ _ _ (by omega) h2, fun c j k h1 _ => h.2.1 _ _ _ (by omega), h.2.2.1, h.2.2.2.1, h.2.2.2.2⟩
theorem yH_q (h : yQ s t) : yH s t := ⟨fun k h1 => h.1 _ _ _ (by omega), fun k h1 => h.2.1 _ _ _ (by omega), fun k h1 => h.2.2.1 _ _ _ (by omega), h.2.2.2.1, fun k h1 => h.2.2.2.2.1 _ _ _ (by omega), h.2.2.2.2.2.1⟩
theorem xH_new (s : fSt) : xH d q s (fNewO d q s) := ⟨fun _ _ _ _ h => fNewO_I h, fun _ _ _ _ h => fNewO_L h, fun _ _ _ h => fNewO_A h, fun _ _ _ h => fNewO_B h, rfl⟩
/-- the relation after a reading but for the fault and the present house -/
theorem RX_rd {sc sm : fSt} (H : RX sc sm) (f : xH d q sc s) (g : yH sm t) (hd : (d = 7 ∧ ∀ i, i < 4 → gP sc 2 i 0 ≤ q) ∨ (d = 9 ∧ ∀ i, i < 4 → gP sc 2 i 1 ≤ q)) (h5 : gI s 5 0 2 = nI 0) (h8 : gI t 12 0 8 = nI 0) (hQ : rQ s t) : RX s t := by
  obtain ⟨h2, h3, h4, h5', h6, h7, h8', h9, n, qq, GG, s1, s2, s3, s4⟩ := H
  obtain ⟨f1, f2, f3, f4, f5⟩ := f
  obtain ⟨g1, g2, g3, g4, g5, g6⟩ := g
  refine ⟨?_, hQ, ?_, ?_, ?_, ?_, ?_, ?_, n, qq, GG, s1, ?_, ?_, fun h hh => ?_⟩
  · unfold rF at *
    rw [f2 _ _ _ (by omega) (by omega), f2 _ _ _ (by omega) (by omega), g2 _ (by omega), g2 _ (by omega)]
    exact h2
  · unfold rT at *
    intro i hi
    rw [f1 _ _ _ (by omega) (by omega), f1 _ _ _ (by omega) (by omega), f1 _ _ _ (by omega) (by omega), f4 _ _ _ (by omega), g3 _ (by omega), g3 _ (by omega), g5 _ (by omega)]
    exact h4 i hi
  · refine ⟨⟨0, by omega, h5, h8, fun k hk => by omega⟩, ?_⟩
    rw [f4 _ _ _ (by omega)]
    exact h5'.2
  · unfold rS at *
    rw [f1 _ _ _ (by omega) (by omega), f3 _ _ _ (by omega), g1 _ (by omega), g3 _ (by omega)]
    exact h6
  · unfold rC at *
    rw [f3 _ _ _ (by omega), g1 _ (by omega), g3 _ (by omega)]
    exact h7
  · unfold rW at *
    rw [f1 _ _ _ (by omega) (by omega), f1 _ _ _ (by omega) (by omega), f1 _ _ _ (by omega) (by omega), f1 _ _ _ (by omega) (by omega), f1 _ _ _ (by omega) (by omega), f1 _ _ _ (by omega) (by omega), g1 _ (by omega), g3 _ (by omega)]
    exact h8'
  · unfold rO at *
    rw [f4 _ _ _ (by omega)]
    exact h9
  · rw [f1 _ _ _ (by omega) (by omega)]; exact s2
  · rw [g1 _ (by omega)]; exact s3
  · refine rOne_g (by rw [f5]) (by rw [f5]) ⟨f1 _ _ _ (by omega) (by omega), f1 _ _ _ (by omega) (by omega)⟩ ⟨f1 _ _ _ (by omega) (by omega), f3 _ _ _ (by omega)⟩ (fun hp => ?_) (fun w hp => ?_) (fun k hk => g4 _ (by omega)) (fun k hk => g6 _ (by omega)) (s4 h hh)
    · have hne : ¬ (7 = d ∧ qq h = q) := by
        rintro ⟨e1, e2⟩
        rcases hd with ⟨-, hd⟩ | ⟨hd, -⟩
        · have := hd h (by omega)
          omega
        · omega
      exact ⟨fun k => f1 _ _ _ (by omega) hne, fun k => f3 _ _ _ hne, fun k => f4 _ _ _ hne⟩
    · have hne : ¬ (9 = d ∧ w = q) := by
        rintro ⟨e1, e2⟩
        rcases hd with ⟨hd, -⟩ | ⟨-, hd⟩
        · omega
        · have := hd h (by omega)
          omega
      exact ⟨fun k => f1 _ _ _ (by omega) hne, fun k => f3 _ _ _ hne⟩
end
-- the first token
section
variable {sc sm : fSt} {n : Nat} {c : Nat → Nat}
theorem ps_start (T : tpe sc sm n c) (q2 : gI sc 5 0 5 = nI 0) (q4 : gI sm 12 0 16 = nI 0) (q7 : gI sm 12 0 12 = nI 0) (q8 : gI sc 5 0 10 = nI 0) (q9 : gI sc 5 0 11 = mI) : ∃ sc' sm' a' p' so', f_X5_advance sc = some ((), sc') ∧ f_X12_next sm = some ((), sm') ∧ psR sc' sm' n c a' p' so' ∧ xFr sc sc' ∧ yFr sm sm' ∧ (¬ so' = 35 → 0 < p') := by
  obtain ⟨A', nm', B', wd', a', p', so', e1, e2, ⟨g1, g2, g3⟩, ⟨g4, g5⟩, ⟨g6, g7⟩, g8, g9⟩ := adv T (A := gI sc 5 0) (B := gI sm 12 0) (nm := gL sc 5 0 7) (wd := gL sm 12 0 19) (Nat.zero_le n) q2 q4
  rw [← xT_0] at e1
  rw [← yT_0] at e2
  refine ⟨_, _, a', p', so', e1, e2, ⟨tpe_e T (xT_o _ _ _ (by omega)) (yT_o _ _ _ (by omega)) rfl rfl rfl, tok_e g8 ⟨xT_I _ _ _ (by omega), xT_I _ _ _ (by omega)⟩ rfl ⟨yT_I _ _ _ (by omega), yT_I _ _ _ (by omega), yT_I _ _ _ (by omega)⟩ rfl, ⟨by rw [xT_I _ _ _ (by omega)]; exact g4, by rw [xT_I _ _ _ (by omega)]; exact g5, by rw [yT_I _ _ _ (by omega)]; exact g6, by rw [yT_I _ _ _ (by omega)]; exact g7, g2, g3⟩, by rw [yT_o _ _ _ (by omega)]; exact q7, by rw [xT_o _ _ _ (by omega)]; exact q8, by rw [xT_o _ _ _ (by omega)]; exact q9⟩, xFr_xT _ _ _, yFr_yT _ _ _, fun h => ?_⟩
  have := g9 h
  omega
def xOp (s : fSt) (r : Nat) : fSt := sI (sI (sI (sI (sI s 5 0 3 (nI r)) 5 0 2 (nI 0)) 5 0 5 (nI 0)) 5 0 10 (nI 0)) 5 0 11 mI
def yOp (s : fSt) (r : Nat) : fSt := sI (sI (sI (sI s 12 0 9 (nI r)) 12 0 8 (nI 0)) 12 0 16 (nI 0)) 12 0 12 (nI 0)
/-- opening a text of r bytes -/
theorem rd_open (H : rP sc sm) {r lim m : Nat} (hm : gI sm 12 0 8 = nI m ∧ m ≤ 900) (hr : r ≤ m ∧ r ≤ lim ∧ lim ≤ 900) : ∃ s t c a p so, f_X5_start (nI r) sc = some ((), s) ∧ f_X12_opens (nI r) (nI lim) sm = some (nI 1, t) ∧ psR s t r c a p so ∧ (¬ so = 35 → 0 < p) ∧ (∀ d q, xH d q sc s) ∧ yH sm t ∧ gI s 5 0 2 = nI 0 ∧ gI t 12 0 8 = nI 0 ∧ gB t = gB sm := by
  obtain ⟨⟨m', h1, h2, h3, h4⟩, h5⟩ := H
  have e : m' = m := (i_eq m' m (by omega) (by omega)).mp (h3.symm.trans hm.1)
  subst e
  have hc : ∀ k, ∃ c, k < m' → c < 256 ∧ bty (gA sc 5 0 1 k) c ∧ gA sm 12 0 4 k &&& nI 255 = nI c := by
    intro k
    by_cases hk : k < m'
    · obtain ⟨u1, u2, u3⟩ := h4 k hk
      obtain ⟨c, c1, c2, c3⟩ := byt_cs _ u2 u3
      exact ⟨c, fun _ => ⟨c1, by rw [u1]; exact c3, c2⟩⟩
    · exact ⟨0, fun h => absurd h hk⟩
  obtain ⟨c, hc⟩ : ∃ c : Nat → Nat, ∀ k, k < m' → c k < 256 ∧ bty (gA sc 5 0 1 k) (c k) ∧ gA sm 12 0 4 k &&& nI 255 = nI (c k) := ⟨fun k => (hc k).choose, fun k => (hc k).choose_spec⟩
  have T : tpe (xOp sc r) (yOp sm r) r c := by
    refine ⟨by omega, ?_, ?_, h5, fun k hk => hc k (by omega)⟩
    · unfold xOp
      simp (disch := omega) only [gI_sI, gL_sL, gA_sA, gB_sB, gP_sP, gI_sL, gI_sA, gI_sB, gI_sP, gL_sI, gL_sA, gL_sB, gL_sP, gA_sI, gA_sL, gA_sB, gA_sP, gB_sI, gB_sL, gB_sA, gB_sP, gP_sI, gP_sL, gP_sA, gP_sB, fLt_e, fBd_s, fJn_s, fNn_s, fNu_0, fNu_s, fBo_0, fBo_1, fBo_b, i_lit, i_neg1, nI_add, pk_mul, nI_clamp, i_le, i_lt, i_eq, fIx_n, nI_mI, mI_nI, mI_lt, nI_lt_m, mI_le, nI_le_m, xI_0, xI_s, bI_0, bI_1, bI_t, bI_f, n_31, j_bit, j_one, i_and, i_or, Nat.not_lt_zero, Nat.succ_ne_zero, Nat.add_one_ne_zero, Nat.add_one_sub_one, Nat.zero_le, Nat.or_zero, Nat.zero_or, Bool.not_true, Bool.not_false, Bool.true_and, Bool.false_and, Bool.and_true, Bool.and_false, ↓reduceIte, if_true, if_false, not_true_eq_false, not_false_eq_true, true_and, and_true, false_and, and_false, and_self, true_or, or_true, false_or, or_false, Nat.reduceEqDiff, Nat.reduceLT, Nat.reduceLeDiff, Nat.reduceAdd, Nat.reduceMul, Nat.reduceSub, Nat.add_zero, Nat.zero_add, Nat.mul_zero, Nat.zero_mul, ne_eq, Bool.not_eq_true, Bool.not_eq_false, reduceCtorEq, decide_true, decide_false, decide_eq_true_eq, decide_eq_false_iff_not, Bool.false_eq_true, if_pos, if_neg]
    · unfold yOp
      simp (disch := omega) only [gI_sI, gL_sL, gA_sA, gB_sB, gP_sP, gI_sL, gI_sA, gI_sB, gI_sP, gL_sI, gL_sA, gL_sB, gL_sP, gA_sI, gA_sL, gA_sB, gA_sP, gB_sI, gB_sL, gB_sA, gB_sP, gP_sI, gP_sL, gP_sA, gP_sB, fLt_e, fBd_s, fJn_s, fNn_s, fNu_0, fNu_s, fBo_0, fBo_1, fBo_b, i_lit, i_neg1, nI_add, pk_mul, nI_clamp, i_le, i_lt, i_eq, fIx_n, nI_mI, mI_nI, mI_lt, nI_lt_m, mI_le, nI_le_m, xI_0, xI_s, bI_0, bI_1, bI_t, bI_f, n_31, j_bit, j_one, i_and, i_or, Nat.not_lt_zero, Nat.succ_ne_zero, Nat.add_one_ne_zero, Nat.add_one_sub_one, Nat.zero_le, Nat.or_zero, Nat.zero_or, Bool.not_true, Bool.not_false, Bool.true_and, Bool.false_and, Bool.and_true, Bool.and_false, ↓reduceIte, if_true, if_false, not_true_eq_false, not_false_eq_true, true_and, and_true, false_and, and_false, and_self, true_or, or_true, false_or, or_false, Nat.reduceEqDiff, Nat.reduceLT, Nat.reduceLeDiff, Nat.reduceAdd, Nat.reduceMul, Nat.reduceSub, Nat.add_zero, Nat.zero_add, Nat.mul_zero, Nat.zero_mul, ne_eq, Bool.not_eq_true, Bool.not_eq_false, reduceCtorEq, decide_true, decide_false, decide_eq_true_eq, decide_eq_false_iff_not, Bool.false_eq_true, if_pos, if_neg]
  obtain ⟨s, t, a, p, so, e1, e2, P, f, g, hp⟩ := ps_start T (by unfold xOp; simp (disch := omega) only [gI_sI, gL_sL, gA_sA, gB_sB, gP_sP, gI_sL, gI_sA, gI_sB, gI_sP, gL_sI, gL_sA, gL_sB, gL_sP, gA_sI, gA_sL, gA_sB, gA_sP, gB_sI, gB_sL, gB_sA, gB_sP, gP_sI, gP_sL, gP_sA, gP_sB, fLt_e, fBd_s, fJn_s, fNn_s, fNu_0, fNu_s, fBo_0, fBo_1, fBo_b, i_lit, i_neg1, nI_add, pk_mul, nI_clamp, i_le, i_lt, i_eq, fIx_n, nI_mI, mI_nI, mI_lt, nI_lt_m, mI_le, nI_le_m, xI_0, xI_s, bI_0, bI_1, bI_t, bI_f, n_31, j_bit, j_one, i_and, i_or, Nat.not_lt_zero, Nat.succ_ne_zero, Nat.add_one_ne_zero, Nat.add_one_sub_one, Nat.zero_le, Nat.or_zero, Nat.zero_or, Bool.not_true, Bool.not_false, Bool.true_and, Bool.false_and, Bool.and_true, Bool.and_false, ↓reduceIte, if_true, if_false, not_true_eq_false, not_false_eq_true, true_and, and_true, false_and, and_false, and_self, true_or, or_true, false_or, or_false, Nat.reduceEqDiff, Nat.reduceLT, Nat.reduceLeDiff, Nat.reduceAdd, Nat.reduceMul, Nat.reduceSub, Nat.add_zero, Nat.zero_add, Nat.mul_zero, Nat.zero_mul, ne_eq, Bool.not_eq_true, Bool.not_eq_false, reduceCtorEq, decide_true, decide_false, decide_eq_true_eq, decide_eq_false_iff_not, Bool.false_eq_true, if_pos, if_neg]) (by unfold yOp; simp (disch := omega) only [gI_sI, gL_sL, gA_sA, gB_sB, gP_sP, gI_sL, gI_sA, gI_sB, gI_sP, gL_sI, gL_sA, gL_sB, gL_sP, gA_sI, gA_sL, gA_sB, gA_sP, gB_sI, gB_sL, gB_sA, gB_sP, gP_sI, gP_sL, gP_sA, gP_sB, fLt_e, fBd_s, fJn_s, fNn_s, fNu_0, fNu_s, fBo_0, fBo_1, fBo_b, i_lit, i_neg1, nI_add, pk_mul, nI_clamp, i_le, i_lt, i_eq, fIx_n, nI_mI, mI_nI, mI_lt, nI_lt_m, mI_le, nI_le_m, xI_0, xI_s, bI_0, bI_1, bI_t, bI_f, n_31, j_bit, j_one, i_and, i_or, Nat.not_lt_zero, Nat.succ_ne_zero, Nat.add_one_ne_zero, Nat.add_one_sub_one, Nat.zero_le, Nat.or_zero, Nat.zero_or, Bool.not_true, Bool.not_false, Bool.true_and, Bool.false_and, Bool.and_true, Bool.and_false, ↓reduceIte, if_true, if_false, not_true_eq_false, not_false_eq_true, true_and, and_true, false_and, and_false, and_self, true_or, or_true, false_or, or_false, Nat.reduceEqDiff, Nat.reduceLT, Nat.reduceLeDiff, Nat.reduceAdd, Nat.reduceMul, Nat.reduceSub, Nat.add_zero, Nat.zero_add, Nat.mul_zero, Nat.zero_mul, ne_eq, Bool.not_eq_true, Bool.not_eq_false, reduceCtorEq, decide_true, decide_false, decide_eq_true_eq, decide_eq_false_iff_not, Bool.false_eq_true, if_pos, if_neg]) (by unfold yOp; simp (disch := omega) only [gI_sI, gL_sL, gA_sA, gB_sB, gP_sP, gI_sL, gI_sA, gI_sB, gI_sP, gL_sI, gL_sA, gL_sB, gL_sP, gA_sI, gA_sL, gA_sB, gA_sP, gB_sI, gB_sL, gB_sA, gB_sP, gP_sI, gP_sL, gP_sA, gP_sB, fLt_e, fBd_s, fJn_s, fNn_s, fNu_0, fNu_s, fBo_0, fBo_1, fBo_b, i_lit, i_neg1, nI_add, pk_mul, nI_clamp, i_le, i_lt, i_eq, fIx_n, nI_mI, mI_nI, mI_lt, nI_lt_m, mI_le, nI_le_m, xI_0, xI_s, bI_0, bI_1, bI_t, bI_f, n_31, j_bit, j_one, i_and, i_or, Nat.not_lt_zero, Nat.succ_ne_zero, Nat.add_one_ne_zero, Nat.add_one_sub_one, Nat.zero_le, Nat.or_zero, Nat.zero_or, Bool.not_true, Bool.not_false, Bool.true_and, Bool.false_and, Bool.and_true, Bool.and_false, ↓reduceIte, if_true, if_false, not_true_eq_false, not_false_eq_true, true_and, and_true, false_and, and_false, and_self, true_or, or_true, false_or, or_false, Nat.reduceEqDiff, Nat.reduceLT, Nat.reduceLeDiff, Nat.reduceAdd, Nat.reduceMul, Nat.reduceSub, Nat.add_zero, Nat.zero_add, Nat.mul_zero, Nat.zero_mul, ne_eq, Bool.not_eq_true, Bool.not_eq_false, reduceCtorEq, decide_true, decide_false, decide_eq_true_eq, decide_eq_false_iff_not, Bool.false_eq_true, if_pos, if_neg]) (by unfold xOp; simp (disch := omega) only [gI_sI, gL_sL, gA_sA, gB_sB, gP_sP, gI_sL, gI_sA, gI_sB, gI_sP, gL_sI, gL_sA, gL_sB, gL_sP, gA_sI, gA_sL, gA_sB, gA_sP, gB_sI, gB_sL, gB_sA, gB_sP, gP_sI, gP_sL, gP_sA, gP_sB, fLt_e, fBd_s, fJn_s, fNn_s, fNu_0, fNu_s, fBo_0, fBo_1, fBo_b, i_lit, i_neg1, nI_add, pk_mul, nI_clamp, i_le, i_lt, i_eq, fIx_n, nI_mI, mI_nI, mI_lt, nI_lt_m, mI_le, nI_le_m, xI_0, xI_s, bI_0, bI_1, bI_t, bI_f, n_31, j_bit, j_one, i_and, i_or, Nat.not_lt_zero, Nat.succ_ne_zero, Nat.add_one_ne_zero, Nat.add_one_sub_one, Nat.zero_le, Nat.or_zero, Nat.zero_or, Bool.not_true, Bool.not_false, Bool.true_and, Bool.false_and, Bool.and_true, Bool.and_false, ↓reduceIte, if_true, if_false, not_true_eq_false, not_false_eq_true, true_and, and_true, false_and, and_false, and_self, true_or, or_true, false_or, or_false, Nat.reduceEqDiff, Nat.reduceLT, Nat.reduceLeDiff, Nat.reduceAdd, Nat.reduceMul, Nat.reduceSub, Nat.add_zero, Nat.zero_add, Nat.mul_zero, Nat.zero_mul, ne_eq, Bool.not_eq_true, Bool.not_eq_false, reduceCtorEq, decide_true, decide_false, decide_eq_true_eq, decide_eq_false_iff_not, Bool.false_eq_true, if_pos, if_neg]) (by unfold xOp; simp (disch := omega) only [gI_sI, gL_sL, gA_sA, gB_sB, gP_sP, gI_sL, gI_sA, gI_sB, gI_sP, gL_sI, gL_sA, gL_sB, gL_sP, gA_sI, gA_sL, gA_sB, gA_sP, gB_sI, gB_sL, gB_sA, gB_sP, gP_sI, gP_sL, gP_sA, gP_sB, fLt_e, fBd_s, fJn_s, fNn_s, fNu_0, fNu_s, fBo_0, fBo_1, fBo_b, i_lit, i_neg1, nI_add, pk_mul, nI_clamp, i_le, i_lt, i_eq, fIx_n, nI_mI, mI_nI, mI_lt, nI_lt_m, mI_le, nI_le_m, xI_0, xI_s, bI_0, bI_1, bI_t, bI_f, n_31, j_bit, j_one, i_and, i_or, Nat.not_lt_zero, Nat.succ_ne_zero, Nat.add_one_ne_zero, Nat.add_one_sub_one, Nat.zero_le, Nat.or_zero, Nat.zero_or, Bool.not_true, Bool.not_false, Bool.true_and, Bool.false_and, Bool.and_true, Bool.and_false, ↓reduceIte, if_true, if_false, not_true_eq_false, not_false_eq_true, true_and, and_true, false_and, and_false, and_self, true_or, or_true, false_or, or_false, Nat.reduceEqDiff, Nat.reduceLT, Nat.reduceLeDiff, Nat.reduceAdd, Nat.reduceMul, Nat.reduceSub, Nat.add_zero, Nat.zero_add, Nat.mul_zero, Nat.zero_mul, ne_eq, Bool.not_eq_true, Bool.not_eq_false, reduceCtorEq, decide_true, decide_false, decide_eq_true_eq, decide_eq_false_iff_not, Bool.false_eq_true, if_pos, if_neg])
  refine ⟨s, t, c, a, p, so, ?_, ?_, P, hp, fun d q => xH_tr ?_ (xH_x f), yH_tr ?_ (yH_y g), ?_, ?_, ?_⟩
  · have h9 : ¬ 900 < r := by omega
    have e0 : (if 0 < r then nI r else nI 0) = nI r := by
      by_cases h0 : 0 < r
      · rw [if_pos h0]
      · rw [if_neg h0, show r = 0 by omega]
    unfold f_X5_start
    simp (disch := omega) only [↓fLt_e, fBd_s, ↓fJn_s, fNn_s, fNu_0, fNu_s, fBo_0, fBo_1, fBo_b, i_lit, i_neg1, nI_add, pk_mul, nI_clamp, i_le, i_lt, i_eq, fIx_n, nI_mI, mI_nI, mI_lt, nI_lt_m, mI_le, nI_le_m, xI_0, xI_s, bI_0, bI_1, bI_t, bI_f, n_31, j_bit, j_one, i_and, i_or, Nat.not_lt_zero, Nat.succ_ne_zero, Nat.add_one_ne_zero, Nat.add_one_sub_one, Nat.zero_le, Nat.or_zero, Nat.zero_or, Bool.not_true, Bool.not_false, Bool.true_and, Bool.false_and, Bool.and_true, Bool.and_false, ↓reduceIte, if_true, if_false, not_true_eq_false, not_false_eq_true, true_and, and_true, false_and, and_false, and_self, true_or, or_true, false_or, or_false, Nat.reduceEqDiff, Nat.reduceLT, Nat.reduceLeDiff, Nat.reduceAdd, Nat.reduceMul, Nat.reduceSub, Nat.add_zero, Nat.zero_add, Nat.mul_zero, Nat.zero_mul, ne_eq, Bool.not_eq_true, Bool.not_eq_false, reduceCtorEq, decide_true, decide_false, decide_eq_true_eq, decide_eq_false_iff_not, Bool.false_eq_true, if_pos, if_neg, h9, e0]
    unfold xOp at e1
    rw [e1, fBd_s]
  · have h9 : ¬ m' < r := by omega
    have h10 : r ≤ lim := by omega
    unfold f_X12_opens
    simp (disch := omega) only [↓fLt_e, fBd_s, ↓fJn_s, fNn_s, fNu_0, fNu_s, fBo_0, fBo_1, fBo_b, i_lit, i_neg1, nI_add, pk_mul, nI_clamp, i_le, i_lt, i_eq, fIx_n, nI_mI, mI_nI, mI_lt, nI_lt_m, mI_le, nI_le_m, xI_0, xI_s, bI_0, bI_1, bI_t, bI_f, n_31, j_bit, j_one, i_and, i_or, Nat.not_lt_zero, Nat.succ_ne_zero, Nat.add_one_ne_zero, Nat.add_one_sub_one, Nat.zero_le, Nat.or_zero, Nat.zero_or, Bool.not_true, Bool.not_false, Bool.true_and, Bool.false_and, Bool.and_true, Bool.and_false, ↓reduceIte, if_true, if_false, not_true_eq_false, not_false_eq_true, true_and, and_true, false_and, and_false, and_self, true_or, or_true, false_or, or_false, Nat.reduceEqDiff, Nat.reduceLT, Nat.reduceLeDiff, Nat.reduceAdd, Nat.reduceMul, Nat.reduceSub, Nat.add_zero, Nat.zero_add, Nat.mul_zero, Nat.zero_mul, ne_eq, Bool.not_eq_true, Bool.not_eq_false, reduceCtorEq, decide_true, decide_false, decide_eq_true_eq, decide_eq_false_iff_not, Bool.false_eq_true, if_pos, if_neg, hm.1, h9, h10]
    unfold yOp at e2
    rw [e2, fBd_s]
  · refine ⟨fun c j k h1 _ => ?_, fun _ _ _ _ _ => rfl, fun _ _ _ _ => rfl, fun _ _ _ _ => rfl, rfl⟩
    unfold xOp
    simp (disch := omega) only [gI_sI, if_neg]
  · refine ⟨fun k h1 => ?_, fun _ _ => rfl, fun _ _ => rfl, fun _ _ => rfl, fun _ _ => rfl, fun _ _ => rfl⟩
    unfold yOp
    simp (disch := omega) only [gI_sI, if_neg]
  · rw [f.1 _ _ _ (by omega)]
    unfold xOp
    simp (disch := omega) only [gI_sI, gL_sL, gA_sA, gB_sB, gP_sP, gI_sL, gI_sA, gI_sB, gI_sP, gL_sI, gL_sA, gL_sB, gL_sP, gA_sI, gA_sL, gA_sB, gA_sP, gB_sI, gB_sL, gB_sA, gB_sP, gP_sI, gP_sL, gP_sA, gP_sB, fLt_e, fBd_s, fJn_s, fNn_s, fNu_0, fNu_s, fBo_0, fBo_1, fBo_b, i_lit, i_neg1, nI_add, pk_mul, nI_clamp, i_le, i_lt, i_eq, fIx_n, nI_mI, mI_nI, mI_lt, nI_lt_m, mI_le, nI_le_m, xI_0, xI_s, bI_0, bI_1, bI_t, bI_f, n_31, j_bit, j_one, i_and, i_or, Nat.not_lt_zero, Nat.succ_ne_zero, Nat.add_one_ne_zero, Nat.add_one_sub_one, Nat.zero_le, Nat.or_zero, Nat.zero_or, Bool.not_true, Bool.not_false, Bool.true_and, Bool.false_and, Bool.and_true, Bool.and_false, ↓reduceIte, if_true, if_false, not_true_eq_false, not_false_eq_true, true_and, and_true, false_and, and_false, and_self, true_or, or_true, false_or, or_false, Nat.reduceEqDiff, Nat.reduceLT, Nat.reduceLeDiff, Nat.reduceAdd, Nat.reduceMul, Nat.reduceSub, Nat.add_zero, Nat.zero_add, Nat.mul_zero, Nat.zero_mul, ne_eq, Bool.not_eq_true, Bool.not_eq_false, reduceCtorEq, decide_true, decide_false, decide_eq_true_eq, decide_eq_false_iff_not, Bool.false_eq_true, if_pos, if_neg]
  · rw [g.1 _ _ _ (by omega)]
    unfold yOp
    simp (disch := omega) only [gI_sI, gL_sL, gA_sA, gB_sB, gP_sP, gI_sL, gI_sA, gI_sB, gI_sP, gL_sI, gL_sA, gL_sB, gL_sP, gA_sI, gA_sL, gA_sB, gA_sP, gB_sI, gB_sL, gB_sA, gB_sP, gP_sI, gP_sL, gP_sA, gP_sB, fLt_e, fBd_s, fJn_s, fNn_s, fNu_0, fNu_s, fBo_0, fBo_1, fBo_b, i_lit, i_neg1, nI_add, pk_mul, nI_clamp, i_le, i_lt, i_eq, fIx_n, nI_mI, mI_nI, mI_lt, nI_lt_m, mI_le, nI_le_m, xI_0, xI_s, bI_0, bI_1, bI_t, bI_f, n_31, j_bit, j_one, i_and, i_or, Nat.not_lt_zero, Nat.succ_ne_zero, Nat.add_one_ne_zero, Nat.add_one_sub_one, Nat.zero_le, Nat.or_zero, Nat.zero_or, Bool.not_true, Bool.not_false, Bool.true_and, Bool.false_and, Bool.and_true, Bool.and_false, ↓reduceIte, if_true, if_false, not_true_eq_false, not_false_eq_true, true_and, and_true, false_and, and_false, and_self, true_or, or_true, false_or, or_false, Nat.reduceEqDiff, Nat.reduceLT, Nat.reduceLeDiff, Nat.reduceAdd, Nat.reduceMul, Nat.reduceSub, Nat.add_zero, Nat.zero_add, Nat.mul_zero, Nat.zero_mul, ne_eq, Bool.not_eq_true, Bool.not_eq_false, reduceCtorEq, decide_true, decide_false, decide_eq_true_eq, decide_eq_false_iff_not, Bool.false_eq_true, if_pos, if_neg]
  · exact g.2.2.2.1
/-- a text that isn't there -/
theorem rd_shut {b : Int32} {lim m : Nat} (hm : gI sm 12 0 8 = nI m ∧ m ≤ 900) (hl : lim ≤ 900) (hb : ¬ (0 ≤ b.toInt ∧ b.toInt ≤ m ∧ b.toInt ≤ lim)) : f_X12_opens b (nI lim) sm = some (nI 0, sI sm 12 0 0 (nI 5)) := by
  unfold f_X12_opens f_X12_no
  simp only [fJn_s, fLt_e, i_lit, hm.1]
  have e : fBo (nI 0) (some (nI 0, sI sm 12 0 0 (nI 5))) = some (nI 0, sI sm 12 0 0 (nI 5)) := by
    rw [fBo_0]
  by_cases h1 : b < nI 0
  · rw [if_pos h1, fBd_s, e]
  · rw [if_neg h1]
    by_cases h2 : nI m < b
    · rw [if_pos h2, fBd_s, e]
    · rw [if_neg h2]
      rw [Int32.lt_iff_toInt_lt, nI_toInt (by omega)] at h1 h2
      rw [if_neg (by rw [Int32.le_iff_toInt_le, nI_toInt (by omega)]; omega), fBd_s, e]
end
