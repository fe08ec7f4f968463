/-! layer 2: the call run -/
def mixG (A B : Nat → Nat) : Nat → Nat := fun k => if (4 ≤ k ∧ k ≤ 6) ∨ (137 ≤ k ∧ k < 217) then A k else B k
theorem mixG_a {A B : Nat → Nat} {k : Nat} (h : (4 ≤ k ∧ k ≤ 6) ∨ (137 ≤ k ∧ k < 217)) : mixG A B k = A k := if_pos h
theorem mixG_b {A B : Nat → Nat} {k : Nat} (h : k < 4 ∨ (7 ≤ k ∧ k < 137) ∨ 217 ≤ k) : mixG A B k = B k := if_neg (by omega)
theorem mixG_wf {A B : Nat → Nat} (a : gWf A) (b : gWf B) : gWf (mixG A B) := by
  obtain ⟨a1, ⟨a2, a3, a4⟩, -, -, -, a8⟩ := a
  obtain ⟨b1, -, b5, b6, b7, -⟩ := b
  have b1' := b1
  unfold gWf
  rw [mixG_b (k := 0) (by omega), mixG_b (k := 1) (by omega), mixG_b (k := 2) (by omega), mixG_b (k := 3) (by omega), mixG_a (k := 4) (by omega), mixG_a (k := 5) (by omega), mixG_a (k := 6) (by omega)]
  refine ⟨b1, ⟨a2, a3, a4⟩, fun x hx => ?_, fun s hs => ?_, fun k hk => ?_, fun i hi => ?_⟩
  · simp (disch := omega) only [mixG_b]; exact b5 x hx
  · simp (disch := omega) only [mixG_b]; exact b6 s hs
  · simp (disch := omega) only [mixG_b]; exact b7 k hk
  · simp (disch := omega) only [mixG_a]; exact a8 i hi
/-- after a run that was noted -/
theorem run_fin {q : Nat} {sc sm sc' sm' : fSt} {G0 : Nat → Nat} {sg : Nat} (H : RX sc sm) (W : wkR 0 true G0 q sc' sm' sg) (hc : cFr 0 true sc sc') (hm : mFr sm sm') (h3 : gI sc' 10 0 3 = nI 1) {F : Nat → Int32} (hF : F 0 = gI sm' 12 0 58 ∧ F 1 = gI sm' 12 0 60 ∧ F 2 = gI sm' 12 0 61 ∧ F 3 = gI sm' 12 0 62 ∧ F 4 = gI sm' 12 0 63) : RX sc' (sI (sA sm' 12 0 22 F) 12 0 56 (nI 1)) := by
  obtain ⟨Gc, Gm, r, se, en, l, ⟨wc, wm, X, B, hag, hno, hG0⟩, -, -, ⟨s1, s2⟩, ⟨e1, e2, -⟩, ⟨g1, g2, -⟩, -, p1, p2, p3⟩ := W
  have hGG := hno rfl
  subst hGG
  have f1 := fun j k => hc.1 1 j k (by unfold cFc; simp)
  have f4 := fun j k => hc.1 4 j k (by unfold cFc; simp)
  have f5 := fun j k => hc.1 5 j k (by unfold cFc; simp)
  have f7 := fun j k => hc.1 7 j k (by unfold cFc; simp)
  have f8 := fun j k => hc.1 8 j k (by unfold cFc; simp)
  have f9 := fun j k => hc.1 9 j k (by unfold cFc; simp)
  have f11 := fun j k => hc.1 11 j k (by unfold cFc; simp)
  have H1 : RX (oS sc' 10 0 0 11 (gI sc 10 0)) sm' := by
    refine up0 H ⟨?_, ?_, ?_, ?_, ?_, ?_, ⟨?_, ?_, ?_⟩, ⟨?_, ?_, ?_, ?_, ?_, ?_⟩, ?_, ?_, ?_, ?_, ?_, ?_, ?_⟩ ⟨⟨?_, ?_, ?_, ?_, ?_, ?_, ?_⟩, ⟨?_, ?_⟩, ⟨?_, ?_, ?_, ?_, ?_, ?_, ?_⟩, ?_, ?_⟩ ?_
    · intro c hc' j k
      rcases hc' with rfl | rfl | rfl
      · exact ⟨(f7 j k).1, (f7 j k).2.1, (f7 j k).2.2.1, (f7 j k).2.2.2, hc.2 _ _ _⟩
      · exact ⟨(f8 j k).1, (f8 j k).2.1, (f8 j k).2.2.1, (f8 j k).2.2.2, hc.2 _ _ _⟩
      · exact ⟨(f9 j k).1, (f9 j k).2.1, (f9 j k).2.2.1, (f9 j k).2.2.2, hc.2 _ _ _⟩
    · intro j k hk
      exact (hc.1 2 j k (by unfold cFc; omega)).1
    · intro j k
      exact hc.2 2 j k
    · intro j hj
      exact ⟨(hc.1 0 j 0 (by unfold cFc; omega)).1, (hc.1 0 j 1 (by unfold cFc; omega)).2.2.1⟩
    · exact (f1 0 1).2.2.1
    · exact (f4 0 1).2.2.2
    · exact (f5 0 2).1
    · exact (f5 0 1).2.2.1
    · exact (f5 0 2).2.2.2
    · rfl
    · rfl
    · rfl
    · rfl
    · rfl
    · rfl
    · exact (f11 0 5).1
    · exact (f11 0 6).1
    · exact (f11 0 9).1
    · exact (f11 0 17).1
    · exact (f11 0 3).2.1
    · exact (f11 0 4).2.1
    · exact (f11 0 3).2.2.1
    · exact (hm.1 12 0 8 (by unfold mFc; omega)).1
    · exact (hm.1 12 0 10 (by unfold mFc; omega)).1
    · exact (hm.1 12 0 11 (by unfold mFc; omega)).1
    · exact (hm.1 12 0 23 (by unfold mFc; omega)).1
    · exact (hm.1 12 0 46 (by unfold mFc; omega)).1
    · exact (hm.1 12 0 54 (by unfold mFc; omega)).1
    · exact (hm.1 12 0 56 (by unfold mFc; omega)).1
    · exact (hm.1 12 0 2 (by unfold mFc; omega)).2.1
    · exact (hm.1 12 0 3 (by unfold mFc; omega)).2.1
    · exact (hm.1 12 0 1 (by unfold mFc; omega)).2.2.1
    · exact (hm.1 12 0 2 (by unfold mFc; omega)).2.2.1
    · exact (hm.1 12 0 4 (by unfold mFc; omega)).2.2.1
    · exact hm.2
    · exact (hm.1 12 0 16 (by unfold mFc; omega)).2.2.1
    · exact (hm.1 12 0 20 (by unfold mFc; omega)).2.2.1
    · exact (hm.1 12 0 22 (by unfold mFc; omega)).2.2.1
    · exact (hm.1 12 0 3 (by unfold mFc; omega)).2.2.2.1
    · exact (hm.1 12 0 7 (by unfold mFc; omega)).2.2.2.1
    · intro q1 G1 w1 X1 B1
      refine ⟨mixG Gc G1, fun k hk => mixG_b hk, mixG_wf wc w1, ?_, ?_, ?_, fun j hj => ?_⟩
      · rw [mixG_a (k := 4) (by omega), mixG_a (k := 5) (by omega)]
        exact X.2.2.1
      · have hb : rBok sc' 0 Gc := X.2.2.2
        have wc6 := wc.2.1.2.2
        unfold rBok at *
        rw [mixG_a (k := 6) (by omega)]
        refine ⟨hb.1, fun j hj => ?_⟩
        simp (disch := omega) only [mixG_a]
        exact hb.2 j hj
      · rw [mixG_a (k := 4) (by omega), mixG_a (k := 5) (by omega), mixG_a (k := 6) (by omega)]
        exact ⟨B.1.2.2.2.2.1, B.1.2.2.2.2.2.1, B.1.2.2.2.2.2.2⟩
      · rw [mixG_a (k := 6) (by omega)] at hj
        have wc6 := wc.2.1.2.2
        simp (disch := omega) only [mixG_a]
        exact B.2.2.2.2.1 j hj
  refine RX_mk (sc := oS sc' 10 0 0 11 (gI sc 10 0)) (sm := sm') ?_ rfl ⟨rfl, rfl, rfl, rfl, rfl, rfl⟩ H1 H1.1 H1.2.1 H1.2.2.2.1 H1.2.2.2.2.1 H1.2.2.2.2.2.1 ?_ H1.2.2.2.2.2.2.2.1
  · intro c hc' j k
    rcases hc' with rfl | rfl | rfl | rfl | rfl <;> exact ⟨rfl, rfl, rfl, rfl, rfl⟩
  · refine Or.inr ⟨h3, gI_same _ _ _ _ _, ?_, ?_, ?_, ?_, ?_⟩
    · show gI sc' 10 0 6 = F 0
      rw [hF.1, s1, s2]
    · show gI sc' 10 0 7 = F 1
      rw [hF.2.1, e1, e2]
    · show gI sc' 10 0 5 = F 2
      rw [hF.2.2.1, g1, g2]
    · show gI sc' 10 0 8 = F 3
      rw [hF.2.2.2.1, p2]
    · show gI sc' 10 0 9 = F 4
      rw [hF.2.2.2.2, p3]
theorem call_run (a : Int32) : CALL (f_X11_run a) (f_X12_run a) := by
  intro sc sm ⟨hA, H⟩
  have H := pro_x H
  have z := pro_0 sm
  unfold f_X11_run f_X12_run
  simp only [fLt_e, pro_eq]
  generalize pro sm = s2 at *
  obtain ⟨q, G, w, X, B, N, K⟩ := RX_cur H
  have w1 := w.1
  have i3 : ∀ st, f_X11_isIn a (nI 0) (nI 9999) st = some (bI (inB a.toInt 0 9999), st) := fun st => x_isIn a 0 9999 st
  have i4 : ∀ st, f_X12_isIn a.toInt64 0 9999 st = some (bI (inB a.toInt 0 9999), st) := fun st => m_isIn_c a 0 9999 st
  have h217 : gA s2 12 0 5 217 = nI (G 217) := B.2.2.2.2.2.1.1
  by_cases ha : 0 ≤ a.toInt ∧ a.toInt ≤ 9999
  · rw [inB_t.mpr (by omega)] at i3 i4
    obtain ⟨seed, hseed, rfl, -⟩ := nI_ofInt (a := a) (n := 10000) ha.1 (by omega)
    rcases K with ⟨k1, k2⟩ | ⟨k1, wk, M, k2, k3, k4, k5, k6⟩
    · rw [k1] at h217
      simp (disch := omega) only [↓fLt_e, fBd_s, ↓fJn_s, fNn_s, fNu_0, fNu_s, fBo_0, fBo_1, fBo_b, i_lit, i_neg1, nI_add, pk_mul, nI_clamp, i_le, i_lt, i_eq, fIx_n, nI_mI, mI_nI, mI_lt, nI_lt_m, mI_le, nI_le_m, xI_0, xI_s, bI_0, bI_1, bI_t, bI_f, n_31, j_bit, j_one, i_and, i_or, Nat.not_lt_zero, Nat.succ_ne_zero, Nat.add_one_ne_zero, Nat.add_one_sub_one, Nat.zero_le, Nat.or_zero, Nat.zero_or, Bool.not_true, Bool.not_false, Bool.true_and, Bool.false_and, Bool.and_true, Bool.and_false, ↓reduceIte, if_true, if_false, not_true_eq_false, not_false_eq_true, true_and, and_true, false_and, and_false, and_self, true_or, or_true, false_or, or_false, Nat.reduceEqDiff, Nat.reduceLT, Nat.reduceLeDiff, Nat.reduceAdd, Nat.reduceMul, Nat.reduceSub, Nat.add_zero, Nat.zero_add, Nat.mul_zero, Nat.zero_mul, ne_eq, Bool.not_eq_true, Bool.not_eq_false, reduceCtorEq, decide_true, decide_false, decide_eq_true_eq, decide_eq_false_iff_not, Bool.false_eq_true, if_pos, if_neg, i3, i4, k2, h217, f_X11_fail, f_X12_refuse]
      exact ⟨_, _, _, rfl, rfl, fin_st H _⟩
    · rw [k1] at h217
      obtain ⟨sc', sm', sg, e1, e2, W, hc, hm, h3, -, -⟩ := run_all (i := 0) (no := true) X w w B (agB_rf G) (fun _ => rfl) k2 k3 k4 k6 (show seed < 65536 by omega)
      have e1 : f_X10_go 0 0 (nI seed) (nI 1) sc = some ((), sc') := e1
      have hans : gI sc' 10 0 4 = gI sm' 12 0 59 := by
        obtain ⟨Gc, Gm, r, se, en, l, -, -, -, -, -, -, -, p1, -⟩ := W
        exact p1
      have hR := run_fin H W hc hm h3 (F := upd (upd (upd (upd (upd (gA sm' 12 0 22) 0 (gI sm' 12 0 58)) 1 (gI sm' 12 0 60)) 2 (gI sm' 12 0 61)) 3 (gI sm' 12 0 62)) 4 (gI sm' 12 0 63)) ⟨rfl, rfl, rfl, rfl, rfl⟩
      have hz : gI sm' 12 0 0 = 0 := by rw [(hm.1 12 0 0 (by unfold mFc; omega)).1]; exact z
      refine ⟨gI sc' 10 0 4, sI sc' 11 0 2 0, sI (sA sm' 12 0 22 (upd (upd (upd (upd (upd (gA sm' 12 0 22) 0 (gI sm' 12 0 58)) 1 (gI sm' 12 0 60)) 2 (gI sm' 12 0 61)) 3 (gI sm' 12 0 62)) 4 (gI sm' 12 0 63))) 12 0 56 (nI 1), ?_, ?_, fin_0 hR hz⟩
      · simp (disch := omega) only [↓fLt_e, fBd_s, ↓fJn_s, fNn_s, fNu_0, fNu_s, fBo_0, fBo_1, fBo_b, i_lit, i_neg1, nI_add, pk_mul, nI_clamp, i_le, i_lt, i_eq, fIx_n, nI_mI, mI_nI, mI_lt, nI_lt_m, mI_le, nI_le_m, xI_0, xI_s, bI_0, bI_1, bI_t, bI_f, n_31, j_bit, j_one, i_and, i_or, Nat.not_lt_zero, Nat.succ_ne_zero, Nat.add_one_ne_zero, Nat.add_one_sub_one, Nat.zero_le, Nat.or_zero, Nat.zero_or, Bool.not_true, Bool.not_false, Bool.true_and, Bool.false_and, Bool.and_true, Bool.and_false, ↓reduceIte, if_true, if_false, not_true_eq_false, not_false_eq_true, true_and, and_true, false_and, and_false, and_self, true_or, or_true, false_or, or_false, Nat.reduceEqDiff, Nat.reduceLT, Nat.reduceLeDiff, Nat.reduceAdd, Nat.reduceMul, Nat.reduceSub, Nat.add_zero, Nat.zero_add, Nat.mul_zero, Nat.zero_mul, ne_eq, Bool.not_eq_true, Bool.not_eq_false, reduceCtorEq, decide_true, decide_false, decide_eq_true_eq, decide_eq_false_iff_not, Bool.false_eq_true, if_pos, if_neg, i3, k2, e1, f_X11_answer]
      · simp (disch := omega) only [↓fLt_e, fBd_s, ↓fJn_s, fNn_s, fNu_0, fNu_s, fBo_0, fBo_1, fBo_b, i_lit, i_neg1, nI_add, pk_mul, nI_clamp, i_le, i_lt, i_eq, fIx_n, nI_mI, mI_nI, mI_lt, nI_lt_m, mI_le, nI_le_m, xI_0, xI_s, bI_0, bI_1, bI_t, bI_f, n_31, j_bit, j_one, i_and, i_or, Nat.not_lt_zero, Nat.succ_ne_zero, Nat.add_one_ne_zero, Nat.add_one_sub_one, Nat.zero_le, Nat.or_zero, Nat.zero_or, Bool.not_true, Bool.not_false, Bool.true_and, Bool.false_and, Bool.and_true, Bool.and_false, ↓reduceIte, if_true, if_false, not_true_eq_false, not_false_eq_true, true_and, and_true, false_and, and_false, and_self, true_or, or_true, false_or, or_false, Nat.reduceEqDiff, Nat.reduceLT, Nat.reduceLeDiff, Nat.reduceAdd, Nat.reduceMul, Nat.reduceSub, Nat.add_zero, Nat.zero_add, Nat.mul_zero, Nat.zero_mul, ne_eq, Bool.not_eq_true, Bool.not_eq_false, reduceCtorEq, decide_true, decide_false, decide_eq_true_eq, decide_eq_false_iff_not, Bool.false_eq_true, if_pos, if_neg, i4, h217, e2, gA_same, sA_sA, gI_sA, gI_sI, hans]
  · rw [inB_f.mpr (by omega)] at i3 i4
    simp (disch := omega) only [↓fLt_e, fBd_s, ↓fJn_s, fNn_s, fNu_0, fNu_s, fBo_0, fBo_1, fBo_b, i_lit, i_neg1, nI_add, pk_mul, nI_clamp, i_le, i_lt, i_eq, fIx_n, nI_mI, mI_nI, mI_lt, nI_lt_m, mI_le, nI_le_m, xI_0, xI_s, bI_0, bI_1, bI_t, bI_f, n_31, j_bit, j_one, i_and, i_or, Nat.not_lt_zero, Nat.succ_ne_zero, Nat.add_one_ne_zero, Nat.add_one_sub_one, Nat.zero_le, Nat.or_zero, Nat.zero_or, Bool.not_true, Bool.not_false, Bool.true_and, Bool.false_and, Bool.and_true, Bool.and_false, ↓reduceIte, if_true, if_false, not_true_eq_false, not_false_eq_true, true_and, and_true, false_and, and_false, and_self, true_or, or_true, false_or, or_false, Nat.reduceEqDiff, Nat.reduceLT, Nat.reduceLeDiff, Nat.reduceAdd, Nat.reduceMul, Nat.reduceSub, Nat.add_zero, Nat.zero_add, Nat.mul_zero, Nat.zero_mul, ne_eq, Bool.not_eq_true, Bool.not_eq_false, reduceCtorEq, decide_true, decide_false, decide_eq_true_eq, decide_eq_false_iff_not, Bool.false_eq_true, if_pos, if_neg, i3, i4, f_X11_fail, f_X12_refuse]
    exact ⟨_, _, _, rfl, rfl, fin_st H _⟩
