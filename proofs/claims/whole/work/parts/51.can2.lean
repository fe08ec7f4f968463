/-! layer 2: the call can, its answer -/
theorem cs_eq {G : Nat → Nat} (w : gWf G) {Q : List nT} (h : Q.Perm (allR G)) : Q.foldl (fun a x => a ||| fwd G x) 0 &&& 4095 = (gCu G 0).foldl (fun a c => a ||| c.2.1) 0 := by
  have w1 := w.1
  have e1 : (gCu G 0).foldl (fun a c => a ||| c.2.1) 0 = (ovl G (allR G)).foldl (fun a (p : Nat × Nat) => a ||| p.2) 0 := by
    rw [pfold (fun a p r => by show a ||| p.2 ||| r.2 = a ||| r.2 ||| p.2; rw [Nat.or_assoc, Nat.or_assoc, Nat.or_comm p.2]) (all_perm w (kp := 0)), List.foldl_map]
  rw [e1]
  have hov : ∀ x ∈ allR G, ∃ z ∈ allR G, ovr G z = true ∧ ∀ b, x.2.1.testBit b = true → z.2.1.testBit b = true := by
    intro x hx
    unfold allR at hx ⊢
    split at hx
    · exact absurd hx (by simp)
    · rename_i h0
      rw [if_neg h0]
      exact sub_over w 13 _ (rtn_ok w (gpl_pos h0)) (show G 2 - 1 < 13 by omega) x hx
  have hfw : ∀ x, nok G x → ∀ b, b < 12 → (fwd G x).testBit b = x.2.1.testBit b := by
    intro x hx b hb
    unfold fwd
    split
    · rw [show (1048576 : Nat) = 2 ^ 20 from rfl, Nat.testBit_or, Nat.testBit_two_pow, decide_eq_false (by omega), Bool.or_false]
    · rfl
  apply Nat.eq_of_testBit_eq
  intro b
  rw [show (4095 : Nat) = 2 ^ 12 - 1 from rfl, Nat.and_two_pow_sub_one_eq_mod, Nat.testBit_mod_two_pow]
  have k1 := foldor_bit (fwd G) b Q 0
  have k2 := foldor_bit (fun p : Nat × Nat => p.2) b (ovl G (allR G)) 0
  have key : (decide (b < 12) && (Q.foldl (fun a x => a ||| fwd G x) 0).testBit b) = true ↔ ((ovl G (allR G)).foldl (fun a (p : Nat × Nat) => a ||| p.2) 0).testBit b = true := by
    rw [Bool.and_eq_true, k1, k2, decide_eq_true_eq, Nat.zero_testBit]
    constructor
    · rintro ⟨hb, hh⟩
      rcases hh with hh | ⟨x, hx, hxb⟩
      · exact absurd hh (by decide)
      · have hxA := h.mem_iff.mp hx
        rw [hfw x (allR_ok w x hxA) b hb] at hxb
        obtain ⟨z, z1, z2, z3⟩ := hov x hxA
        refine Or.inr ⟨pr2 z, ?_, z3 b hxb⟩
        unfold ovl
        exact List.mem_map.mpr ⟨z, List.mem_filter.mpr ⟨z1, z2⟩, rfl⟩
    · rintro (hh | ⟨p, hp, hpb⟩)
      · exact absurd hh (by decide)
      · unfold ovl at hp
        obtain ⟨z, hz, rfl⟩ := List.mem_map.mp hp
        obtain ⟨z1, z2⟩ := List.mem_filter.mp hz
        have hok := allR_ok w z z1
        have hb : b < 12 := by
          refine Nat.lt_of_not_le (fun hle => ?_)
          have : (pr2 z).2.testBit b = false := Nat.testBit_lt_two_pow (Nat.lt_of_lt_of_le hok.2.1 (Nat.pow_le_pow_right (n := 2) (i := 12) (by omega) hle))
          rw [this] at hpb
          exact absurd hpb (by decide)
        refine ⟨hb, Or.inr ⟨z, h.mem_iff.mpr z1, ?_⟩⟩
        rw [hfw z hok b hb]
        exact hpb
  exact Bool.eq_iff_iff.mpr key
theorem call_can (a : Int32) : CALL (f_X11_can a) (f_X12_can a) := by
  intro sc sm ⟨hA, H⟩
  have H := pro_x H
  have z := pro_0 sm
  unfold f_X11_can f_X12_can
  simp only [fLt_e, pro_eq]
  generalize pro sm = s2 at *
  obtain ⟨q, G, w, X, B, -⟩ := RX_cur H
  have w1 := w.1
  have i3 : ∀ st, f_X11_isIn a (nI 0) (nI 1) st = some (bI (inB a.toInt 0 1), st) := fun st => x_isIn a 0 1 st
  have i4 : ∀ st, f_X12_isIn a.toInt64 0 1 st = some (bI (inB a.toInt 0 1), st) := fun st => m_isIn_c a 0 1 st
  by_cases ha : 0 ≤ a.toInt ∧ a.toInt < 2
  · rw [inB_t.mpr (by omega)] at i3 i4
    obtain ⟨k, hk, rfl, -⟩ := nI_ofInt (n := 2) ha.1 (by omega)
    obtain ⟨Q, f, e, q1, q2⟩ := x_findAll X w
    have R := rwk_of w q1 q2
    have hg := m_goAll B w (kp := 0) (by omega)
    rw [xI_0] at hg
    have hP := (ovl_perm q1).trans (all_perm w (kp := 0))
    have hHR := RX_e (cEq_rw sc (nI (opn G)) (nI Q.length) f) (mEq_gQ s2 (((gCu G 0).map lNc).foldl (cq G) (qZ s2))) H
    have hp : gP (rwS (sI sc 6 0 3 (nI (opn G))) (nI Q.length) f) 2 0 0 = q + 1 := X.1
    by_cases hk0 : k = 0
    · subst hk0
      have hc := x_canSee (sc := sI sc 6 0 3 (nI (opn G))) R
      rw [cs_eq w q1] at hc
      have h37 := fq_37 (G := G) (gCu G 0) (qZ s2) 0 rfl
      have hr : gI (gQ s2 (((gCu G 0).map lNc).foldl (cq G) (qZ s2))) 12 0 37 = (((gCu G 0).map lNc).foldl (cq G) (qZ s2)).1 37 := rfl
      simp (disch := omega) only [fLt_e, fBd_s, fJn_s, fNn_s, fNu_0, fNu_s, fBo_0, fBo_1, fBo_b, i_lit, i_neg1, nI_add, pk_mul, nI_clamp, i_le, i_lt, i_eq, fIx_n, nI_mI, mI_nI, mI_lt, nI_lt_m, mI_le, nI_le_m, xI_0, xI_s, bI_0, bI_1, bI_t, bI_f, n_31, j_bit, j_one, i_and, i_or, Nat.not_lt_zero, Nat.succ_ne_zero, Nat.add_one_ne_zero, Nat.add_one_sub_one, Nat.zero_le, Nat.or_zero, Nat.zero_or, Bool.not_true, Bool.not_false, Bool.true_and, Bool.false_and, Bool.and_true, Bool.and_false, ↓reduceIte, if_true, if_false, not_true_eq_false, not_false_eq_true, true_and, and_true, false_and, and_false, and_self, true_or, or_true, false_or, or_false, Nat.reduceEqDiff, Nat.reduceLT, Nat.reduceLeDiff, Nat.reduceAdd, Nat.reduceMul, Nat.reduceSub, Nat.add_zero, Nat.zero_add, Nat.mul_zero, Nat.zero_mul, ne_eq, Bool.not_eq_true, Bool.not_eq_false, reduceCtorEq, decide_true, decide_false, decide_eq_true_eq, decide_eq_false_iff_not, Bool.false_eq_true, if_pos, if_neg, i3, i4, e, hc, hg, hr, h37, f_X11_answer]
      exact ⟨_, _, _, rfl, rfl, fin_0 hHR z⟩
    · have hk1 : k = 1 := by omega
      subst hk1
      have h2 : 2 ^ G 2 ≤ 2 ^ 12 := Nat.pow_le_pow_right (by omega) (by omega)
      have hp2 := Nat.two_pow_pos (G 2)
      have hc := x_endingsBy (sc := sI sc 6 0 3 (nI (opn G))) X w R (a2 := 2 ^ G 2 - 1) (by omega)
      have hal : f_X7_allScenes q (rwS (sI sc 6 0 3 (nI (opn G))) (nI Q.length) f) = some (nI (2 ^ G 2 - 1), rwS (sI sc 6 0 3 (nI (opn G))) (nI Q.length) f) := by
        have hn : gI (rwS (sI sc 6 0 3 (nI (opn G))) (nI Q.length) f) 7 q 2 = nI (G 2) := X.2.1.1.2.2.1
        unfold f_X7_allScenes
        rw [hn]
        simp only [i_lit]
        rw [all_n (by omega)]
      have hlen : Q.foldl (eov G (2 ^ G 2 - 1)) 0 = (gCu G 0).foldl (fun a c => a ||| 2 ^ gsl G c.1) 0 := by
        have e1 : ∀ (L : List nT) b, (∀ x ∈ L, nok G x) → L.foldl (eov G (2 ^ G 2 - 1)) b = (ovl G L).foldl (fun a (p : Nat × Nat) => a ||| 2 ^ gsl G p.1) b := by
          intro L
          induction L with
          | nil => intro b _; rfl
          | cons x L ih =>
            intro b hL
            have hx := hL x (by simp)
            rw [List.foldl_cons, ih _ (fun y hy => hL y (by simp [hy]))]
            have hne : ¬ x.2.1 &&& (2 ^ G 2 - 1) = 0 := by
              intro hz
              have hb : (x.2.1 &&& (2 ^ G 2 - 1)).testBit x.1 = true := by
                rw [Nat.testBit_and, hx.2.2.1, Nat.testBit_two_pow_sub_one, decide_eq_true hx.1]
                rfl
              rw [hz, Nat.zero_testBit] at hb
              exact absurd hb (by decide)
            unfold eov ovl
            rw [List.filter_cons, if_neg hne]
            cases ovr G x
            · simp
            · simp [pr2]
        rw [e1 Q 0 (fun x hx => allR_ok w x (q1.mem_iff.mp hx))]
        rw [pfold (f := fun a (p : Nat × Nat) => a ||| 2 ^ gsl G p.1) (fun a p r => by show a ||| 2 ^ gsl G p.1 ||| 2 ^ gsl G r.1 = a ||| 2 ^ gsl G r.1 ||| 2 ^ gsl G p.1; rw [Nat.or_assoc, Nat.or_assoc, Nat.or_comm (2 ^ gsl G p.1)]) hP, List.foldl_map]
      rw [hlen] at hc
      have h38 := fq_38 (G := G) (gCu G 0) (qZ s2) 0 rfl
      have hr : gI (gQ s2 (((gCu G 0).map lNc).foldl (cq G) (qZ s2))) 12 0 38 = (((gCu G 0).map lNc).foldl (cq G) (qZ s2)).1 38 := rfl
      simp (disch := omega) only [fLt_e, fBd_s, fJn_s, fNn_s, fNu_0, fNu_s, fBo_0, fBo_1, fBo_b, i_lit, i_neg1, nI_add, pk_mul, nI_clamp, i_le, i_lt, i_eq, fIx_n, nI_mI, mI_nI, mI_lt, nI_lt_m, mI_le, nI_le_m, xI_0, xI_s, bI_0, bI_1, bI_t, bI_f, n_31, j_bit, j_one, i_and, i_or, Nat.not_lt_zero, Nat.succ_ne_zero, Nat.add_one_ne_zero, Nat.add_one_sub_one, Nat.zero_le, Nat.or_zero, Nat.zero_or, Bool.not_true, Bool.not_false, Bool.true_and, Bool.false_and, Bool.and_true, Bool.and_false, ↓reduceIte, if_true, if_false, not_true_eq_false, not_false_eq_true, true_and, and_true, false_and, and_false, and_self, true_or, or_true, false_or, or_false, Nat.reduceEqDiff, Nat.reduceLT, Nat.reduceLeDiff, Nat.reduceAdd, Nat.reduceMul, Nat.reduceSub, Nat.add_zero, Nat.zero_add, Nat.mul_zero, Nat.zero_mul, ne_eq, Bool.not_eq_true, Bool.not_eq_false, reduceCtorEq, decide_true, decide_false, decide_eq_true_eq, decide_eq_false_iff_not, Bool.false_eq_true, if_pos, if_neg, i3, i4, e, hp, hal, hc, hg, hr, h38, f_X11_answer]
      exact ⟨_, _, _, rfl, rfl, fin_0 hHR z⟩
  · rw [inB_f.mpr (by omega)] at i3 i4
    simp (disch := omega) only [fLt_e, fBd_s, fJn_s, fNn_s, fNu_0, fNu_s, fBo_0, fBo_1, fBo_b, i_lit, i_neg1, nI_add, pk_mul, nI_clamp, i_le, i_lt, i_eq, fIx_n, nI_mI, mI_nI, mI_lt, nI_lt_m, mI_le, nI_le_m, xI_0, xI_s, bI_0, bI_1, bI_t, bI_f, n_31, j_bit, j_one, i_and, i_or, Nat.not_lt_zero, Nat.succ_ne_zero, Nat.add_one_ne_zero, Nat.add_one_sub_one, Nat.zero_le, Nat.or_zero, Nat.zero_or, Bool.not_true, Bool.not_false, Bool.true_and, Bool.false_and, Bool.and_true, Bool.and_false, ↓reduceIte, if_true, if_false, not_true_eq_false, not_false_eq_true, true_and, and_true, false_and, and_false, and_self, true_or, or_true, false_or, or_false, Nat.reduceEqDiff, Nat.reduceLT, Nat.reduceLeDiff, Nat.reduceAdd, Nat.reduceMul, Nat.reduceSub, Nat.add_zero, Nat.zero_add, Nat.mul_zero, Nat.zero_mul, ne_eq, Bool.not_eq_true, Bool.not_eq_false, reduceCtorEq, decide_true, decide_false, decide_eq_true_eq, decide_eq_false_iff_not, Bool.false_eq_true, if_pos, if_neg, i3, i4, f_X11_fail, f_X12_refuse]
    exact ⟨_, _, _, rfl, rfl, fin_st H _⟩
