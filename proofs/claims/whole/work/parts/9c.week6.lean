/-! layer 2: the head of a test, both sides -/
section
variable {n : Nat} {c : Nat → Nat} {G : Nat → Nat} {rec : Int32 → fSt → Option (Unit × fSt)} {w q i j a : Nat} {s t : fSt} {Q : Prop} {a0 p so : Nat}
theorem kW5_e {x4 : Int32} {s1 s2 : fSt} (hi : i < 60) (h0 : gI s 9 w 0 = nI i) (hso : gI s 5 0 6 = nI so) (e2 : f_X5_advance (sA s 9 w 1 (upd (gA s 9 w 1) i (nI so))) = some ((), s2)) : kW5 w q x4 s = fBd (kRS w q (sI s2 5 0 9 mI)) fun x s1 => if ¬ x = 0 then kW6 w x4 s1 else some ((0 : Int32), s1) := by
  rw [← kRS_e]
  unfold kW5
  simp (disch := omega) only [↓fLt_e, h0, hso, nI_clamp, fIx_n]
  rw [e2, fBd_s]
  rfl
theorem mW5_e {x7 x14 : Int32} {u : fSt} : mW5 rec (nI a) x7 x14 u = fBd (fBd (f_X12_readRest x14 u) fun _ s => mTail s) fun _ s21 => mW6 rec (nI a) x7 x14 s21 := by
  unfold mW5
  rw [fBd_as]
  refine congrArg (fBd (f_X12_readRest x14 u)) (funext fun _ => funext fun s => ?_)
  exact mTail_e _ s
theorem teW_cs (so : Nat) : (∃ T, ((so = 25 ∧ T = 0) ∨ (so = 26 ∧ T = 1) ∨ (so = 28 ∧ T = 2) ∨ (so = 27 ∧ T = 3)) ∧ teW so = T + 1) ∨ (teW so = 0 ∧ (so < 25 ∨ 28 < so)) := by
  unfold teW
  by_cases h5 : so = 25
  · exact Or.inl ⟨0, Or.inl ⟨h5, rfl⟩, by rw [if_pos h5]⟩
  rw [if_neg h5]
  by_cases h6 : so = 26
  · exact Or.inl ⟨1, Or.inr (Or.inl ⟨h6, rfl⟩), by rw [if_pos h6]⟩
  rw [if_neg h6]
  by_cases h8 : so = 28
  · exact Or.inl ⟨2, Or.inr (Or.inr (Or.inl ⟨h8, rfl⟩)), by rw [if_pos h8]⟩
  rw [if_neg h8]
  by_cases h7 : so = 27
  · exact Or.inl ⟨3, Or.inr (Or.inr (Or.inr ⟨h7, rfl⟩)), by rw [if_pos h7]⟩
  rw [if_neg h7]
  exact Or.inr ⟨rfl, by omega⟩
theorem hd_when (P : psR s t n c a0 p so) (hs : hsR s t q G) (Z : wkZ w i j a s t) (hn : n < 1000) (hw : so = 24)
    (B : HB w i j a s t (f_X9_readStep w q s) (f_X12_readStep_b rec (nI a) t) Q) (g2 : HG n c G rec w i j a p s t (f_X9_readStep w q s) (f_X12_readStep_b rec (nI a) t) Q) : Q := by
  have hso := ps_so P
  have hpp := P.2.2.1.2.2.2.2
  have hX : f_X9_readStep w q s = kW3 w q (nI 1) s := by
    rw [kW_eq, hso, hw]
    unfold kW2
    simp (disch := omega) only [↓fLt_e, fBd_s, ↓fJn_s, fNn_s, fNu_0, fNu_s, fBo_0, fBo_1, fBo_b, i_lit, i_neg1, nI_add, pk_mul, nI_clamp, i_le, i_lt, i_eq, fIx_n, nI_mI, mI_nI, mI_lt, nI_lt_m, mI_le, nI_le_m, xI_0, xI_s, bI_0, bI_1, bI_t, bI_f, n_31, j_bit, j_one, i_and, i_or, Nat.not_lt_zero, Nat.succ_ne_zero, Nat.add_one_ne_zero, Nat.add_one_sub_one, Nat.zero_le, Nat.or_zero, Nat.zero_or, Bool.not_true, Bool.not_false, Bool.true_and, Bool.false_and, Bool.and_true, Bool.and_false, ↓reduceIte, if_true, if_false, not_true_eq_false, not_false_eq_true, true_and, and_true, false_and, and_false, and_self, true_or, or_true, false_or, or_false, Nat.reduceEqDiff, Nat.reduceLT, Nat.reduceLeDiff, Nat.reduceAdd, Nat.reduceMul, Nat.reduceSub, Nat.add_zero, Nat.zero_add, Nat.mul_zero, Nat.zero_mul, ne_eq, Bool.not_eq_true, Bool.not_eq_false, reduceCtorEq, decide_true, decide_false, decide_eq_true_eq, decide_eq_false_iff_not, Bool.false_eq_true, if_pos, if_neg]
  have hM : f_X12_readStep_b rec (nI a) t = mW2 rec (nI a) (nI 5) (nI 1) t := by
    rw [mW_eq, ps_step P, fBd_s, hw]
    unfold mW1 stW
    simp (disch := omega) only [↓fLt_e, fBd_s, ↓fJn_s, fNn_s, fNu_0, fNu_s, fBo_0, fBo_1, fBo_b, i_lit, i_neg1, nI_add, pk_mul, nI_clamp, i_le, i_lt, i_eq, fIx_n, nI_mI, mI_nI, mI_lt, nI_lt_m, mI_le, nI_le_m, xI_0, xI_s, bI_0, bI_1, bI_t, bI_f, n_31, j_bit, j_one, i_and, i_or, Nat.not_lt_zero, Nat.succ_ne_zero, Nat.add_one_ne_zero, Nat.add_one_sub_one, Nat.zero_le, Nat.or_zero, Nat.zero_or, Bool.not_true, Bool.not_false, Bool.true_and, Bool.false_and, Bool.and_true, Bool.and_false, ↓reduceIte, if_true, if_false, not_true_eq_false, not_false_eq_true, true_and, and_true, false_and, and_false, and_self, true_or, or_true, false_or, or_false, Nat.reduceEqDiff, Nat.reduceLT, Nat.reduceLeDiff, Nat.reduceAdd, Nat.reduceMul, Nat.reduceSub, Nat.add_zero, Nat.zero_add, Nat.mul_zero, Nat.zero_mul, ne_eq, Bool.not_eq_true, Bool.not_eq_false, reduceCtorEq, decide_true, decide_false, decide_eq_true_eq, decide_eq_false_iff_not, Bool.false_eq_true, if_pos, if_neg]
  refine hd_checks (q := q) (K := 5) (b := 1) (rec := rec) P Z (by omega) (by omega) hn (fun s' t' d e F f g k1 k2 => B s' t' d e F (xV_x f) (yV_y g) (hX.trans k1) (hM.trans k2)) (fun hj hb3 k1 k2 => ?_)
  obtain ⟨⟨h0, h1, h7⟩, h24, hij, hj30, ha⟩ := Z
  have hX := hX.trans k1
  have hM := hM.trans k2
  have hi : i < 60 := by omega
  have ha3 := hb3 rfl
  obtain ⟨s1, t1, a1, p1, o1, e1, d1, P1, f1, g1, m1, -⟩ := ps_adv (ps_I24 P (nI (j + 1)))
  have hp1 := P1.2.2.1.2.2.2.2
  have hso1 := ps_so P1
  have h641 := tok_35 P1.2.1
  rw [d1, fBd_s, mW5_e, mr_5 (by omega) (wA_at _ _ _), mQ_eq] at hM
  have P2 : psR s1 (wA (wA t1 (1939 + 7 * j) (nI 5)) (1939 + 7 * j + 1) mI) n c a1 p1 o1 := ps_wA (ps_wA P1 _ _) _ _
  have G2 : yV (eW j) t (wA (wA t1 (1939 + 7 * j) (nI 5)) (1939 + 7 * j + 1) mI) := yV_tr (yV_I t _) (yV_tr (yV_y g1) (yV_tr (yV_A t1 _ (Nat.le_refl _)) (yV_A _ _ (show 1939 + 7 * j ≤ 1939 + 7 * j + 1 by omega))))
  have c0 : gA (wA (wA t1 (1939 + 7 * j) (nI 5)) (1939 + 7 * j + 1) mI) 12 0 5 (1939 + 7 * j) = nI 5 := (wA_ne _ (by omega)).trans (wA_at _ _ _)
  have c1 : gA (wA (wA t1 (1939 + 7 * j) (nI 5)) (1939 + 7 * j + 1) mI) 12 0 5 (1939 + 7 * j + 1) = mI := wA_at _ _ _
  have c24 : gI (wA (wA t1 (1939 + 7 * j) (nI 5)) (1939 + 7 * j + 1) mI) 12 0 24 = nI (j + 1) := (g1.1 _ _ _ (by omega)).trans (by rw [gI_sI, if_pos ⟨rfl, rfl, rfl⟩])
  generalize wA (wA t1 (1939 + 7 * j) (nI 5)) (1939 + 7 * j + 1) mI = t2 at *
  rw [ps_test P2, fBd_s] at hM
  have hb2 := P2.2.2.2.1
  have i3 := x_isIn (nI o1) (nI 25) (nI 28) s1
  rw [nI_toInt (by omega), nI_toInt (by omega), nI_toInt (by omega)] at i3
  have hX : f_X9_readStep w q s = fBd (f_X11_isIn (nI o1) (nI 25) (nI 28) s1) fun x32 s33 => if ¬ x32 = nI 0 then kW5 w q (nI 1) s33 else (fBd (f_X5_failHere s33) fun x34 s35 => fBo x34 (some (x34, s35))) := by
    rw [hX]
    unfold kW4
    rw [hso, hw, if_neg (fun g => g rfl), e1, fBd_s, hso1]
    rfl
  rw [i3, fBd_s] at hX
  rcases teW_cs o1 with ⟨T, hT, eT⟩ | ⟨eT, hr⟩
  · have h25 : 25 ≤ o1 ∧ o1 ≤ 28 := by omega
    rw [inB_t.mpr (by omega), if_pos (by decide)] at hX
    have hlt : ¬ xI (T + 1) < (0 : Int32) := by
      show ¬ nI T < nI 0
      rw [i_lt _ _ (by omega) (by omega)]
      omega
    rw [eT, if_neg hlt, show ((1 : Int32)) = nI 1 from rfl, m_must_1 hb2] at hM
    obtain ⟨s2, t3, a3, p3, o3, e3, d3, P3, f3, g3, m3, -⟩ := ps_adv (ps_A9 P2 w 1 (upd (gA s1 9 w 1) i (nI o1)))
    have hp3 := P3.2.2.1.2.2.2.2
    rw [d3, fBd_s] at hM
    have v0 : gI s1 9 w 0 = nI i := (f1.1 _ _ _ (by omega)).trans h0
    rw [kW5_e (s1 := s1) hi v0 hso1 e3] at hX
    have F3 : xV w (fun _ => True) (stD i a) s (sI s2 5 0 9 mI) := xV_tr (xV_x f1) (xV_tr (xV_A (k := 1) (m := i) s1 _ (Or.inl ⟨by omega, by omega, Nat.le_refl _⟩)) (xV_tr (xV_x f3) (xV_9 s2 mI)))
    have G3 : yV (eW j) t t3 := yV_tr G2 (yV_y g3)
    have hA : gA (sI s2 5 0 9 mI) 9 w 1 i = nI o1 := by rw [gA_sI, f3.2.2.1, gA_sA, if_pos ⟨rfl, rfl, rfl⟩, upd_at, if_pos rfl]
    have u0 : gI (sI s2 5 0 9 mI) 9 w 0 = nI i := by rw [gI_sI, if_neg (by omega), f3.1 _ _ _ (by omega)]; exact v0
    have u1 : gI (sI s2 5 0 9 mI) 9 w 1 = nI j := by rw [gI_sI, if_neg (by omega), f3.1 _ _ _ (by omega)]; exact (f1.1 _ _ _ (by omega)).trans h1
    have u7 : gI (sI s2 5 0 9 mI) 9 w 7 = nI a := by rw [gI_sI, if_neg (by omega), f3.1 _ _ _ (by omega)]; exact (f1.1 _ _ _ (by omega)).trans h7
    have u24 : gI t3 12 0 24 = nI (j + 1) := (g3.1 _ _ _ (by omega)).trans c24
    have rs := rs_test (x := 1939 + 7 * j) (wd := o1) (T := T) (ps_9 P3 mI) (hsR_V hs F3 G3 (fun m h => eW_le h)) hi u0 hA (by omega) (by rw [g3.2.2.1]; exact c0) (by rw [g3.2.2.1]; exact c1) hT
    exact hd_fin (b := 1) (p0 := p) rs hX hM u0 u1 u7 hA u24 ⟨hij, hj⟩ F3 G3 (by omega) hn (Or.inl ⟨rfl, Or.inl rfl, ha3⟩) B g2
  · rw [inB_f.mpr (by omega), if_neg (by decide)] at hX
    obtain ⟨s2, t3, w1, w2, F, f3, g3⟩ := ps_wrong P2
    rw [w1, fBd_s, show fBo (nI 0) (some (nI 0, s2)) = some (nI 0, s2) from fBo_no] at hX
    rw [eT, if_pos (show xI 0 < (0 : Int32) by decide), show ((0 : Int32)) = nI 0 from rfl, m_must_0 hb2, w2, fBd_s, show xI 0 = mI from rfl, mq_no (by omega), fBd_s] at hM
    have F4 : flR s2 (wA t3 (1939 + 7 * j + 2) mI) (if o1 = 36 then 1 else 2) a1 := F
    rw [mTail_no ⟨F4.1, F4.2.1⟩ F4.2.2.2.1, fBd_s] at hM
    obtain ⟨t5, e5, g6, g7⟩ := bw_6 (rec := rec) (j := j) (by omega) (nI a) (nI 1) _ (bad_fl F4)
    rw [e5] at hM
    have F5 : flR s2 t5 (if o1 = 36 then 1 else 2) a1 := by
      unfold flR at *
      rw [g7]
      exact F4
    exact B s2 t5 _ _ F5 (xV_tr (xV_x f1) (xV_x f3)) (yV_tr G2 (yV_tr (yV_y g3) (yV_tr (yV_A t3 _ (show 1939 + 7 * j ≤ 1939 + 7 * j + 2 by omega)) g6))) hX hM
end
