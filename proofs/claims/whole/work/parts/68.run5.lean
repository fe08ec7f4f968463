/-! layer 2: loops of a week; the whole run -/
section
variable {i : Nat} {no : Bool} {G0 : Nat → Nat} {q : Nat} {w M : Nat}
theorem o_loopL {D n d fr frn a m c : Nat} (hM2 : M ≤ 60) (hfr : fr < G0 218) (hj30 : G0 218 ≤ 30) (h225 : G0 (225 + 7 * fr) = frn) (hlt : fr < frn) (hfn : frn ≤ G0 218) (ham : a + 1 ≤ m) (hmM : m < M) (hc99 : c ≤ 99)
    (ih : SEG i no G0 q w M n d (fr + 1) frn (a + 1) m D) : ∀ r k sc sm sg kp, k + r + 1 = c → rBod sc w G0 n d (fr + 1) frn (a + 1) m → gI sc 9 w 0 = nI M → gA sc 9 w 1 a = nI 29 → gA sc 9 w 1 m = nI 30 → gA sc 9 w 4 m = nI a → wkR i no G0 q sc sm sg → sg < 200 → kp + (r + 1) ≤ 202 * sg → gI sm 12 0 57 = nI 0 → gA sm 12 0 5 (220 + 7 * fr) = nI c → gA sc 10 i 1 a = nI (r + 1) →
    ∃ sc1 sm1 sg1, (wkR i no G0 q sc1 sm1 sg1 ∧ sg ≤ sg1 ∧ sg1 ≤ 200 ∧ cFr i no sc sc1 ∧ mFr sm sm1 ∧ (∀ p, p < a ∨ m + 1 ≤ p → gA sc1 10 i 1 p = gA sc 10 i 1 p) ∧
      ((sg1 < 200 ∧ gI sm1 12 0 57 = nI 0 ∧ ∃ e, e + 202 * sg ≤ 202 * sg1 + (r + 1) ∧ ∀ k8 F, f_X10_go_L36 i 0 w k8 (F + e) (nI (a + 1)) (nI kp) sc = f_X10_go_L36 i 0 w k8 F (nI (m + 1)) (nI (kp + e)) sc1) ∨
       (frz sm1 ∧ ∀ k8 F, 1000000 < F + kp → f_X10_go_L36 i 0 w k8 F (nI (a + 1)) (nI kp) sc = k8 sc1))) ∧
      ∀ k27 mf, r + 1 < mf → f_X12_doOne_L194 (f_X12_doAll (D + 1)) (nI fr) (nI (219 + 7 * fr)) k27 mf (nI k) sm = k27 sm1 := by
  have hx3 : nI (219 + 7 * fr) + nI 1 = nI (220 + 7 * fr) := by rw [nI_add]; congr 1; omega
  have hx7 : nI (219 + 7 * fr) + nI 6 = nI (225 + 7 * fr) := by rw [nI_add]; congr 1; omega
  intro r
  induction r with
  | zero =>
    intro k sc sm sg kp hk hb hM h29 h30 h4 W hsg hkp h57 hcc hl
    obtain ⟨s1, s2, -, hcell⟩ := wk_st W
    have h225c := hcell fr hfr
    rw [h225] at h225c
    obtain ⟨sc2, sm2, sg2, ⟨W2, k1, k2, hc2, hm2, hl2, ho2⟩, hL⟩ := ih sc sm sg kp hb hM W hsg (by omega) h57
    have hall : f_X12_doAll (D + 1) (nI (fr + 1)) (nI frn) sm = some ((), sm2) := hL (fun s2 => some ((), s2)) fF (Nat.lt_of_lt_of_le (fF_lt (show frn < 4000000 by omega)) (Nat.le_add_left _ _))
    obtain ⟨t1, t2, -⟩ := wk_st W2
    have hl2a : gA sc2 10 i 1 a = nI 1 := by rw [hl2 a (by omega)]; exact hl
    have hcc2 : gA sm2 12 0 5 (220 + 7 * fr) = nI c := by rw [hm2.2 _ (by omega)]; exact hcc
    have hend : ∀ k27 mf, 1 < mf → f_X12_doOne_L194 (f_X12_doAll (D + 1)) (nI fr) (nI (219 + 7 * fr)) k27 mf (nI k) sm = k27 sm2 := by
      intro k27 mf hmf
      obtain ⟨mf, rfl⟩ : ∃ k, mf = k + 1 := ⟨mf - 1, by omega⟩
      obtain ⟨mf, rfl⟩ : ∃ k, mf = k + 1 := ⟨mf - 1, by omega⟩
      rw [f_X12_doOne_L194]
      simp (disch := omega) only [↓fLt_e, fBd_s, ↓fJn_s, fNn_s, fNu_0, fNu_s, fBo_0, fBo_1, fBo_b, i_lit, i_neg1, nI_add, pk_mul, nI_clamp, i_le, i_lt, i_eq, fIx_n, nI_mI, mI_nI, mI_lt, nI_lt_m, mI_le, nI_le_m, xI_0, xI_s, bI_0, bI_1, bI_t, bI_f, n_31, j_bit, j_one, i_and, i_or, Nat.not_lt_zero, Nat.succ_ne_zero, Nat.add_one_ne_zero, Nat.add_one_sub_one, Nat.zero_le, Nat.or_zero, Nat.zero_or, Bool.not_true, Bool.not_false, Bool.true_and, Bool.false_and, Bool.and_true, Bool.and_false, ↓reduceIte, if_true, if_false, not_true_eq_false, not_false_eq_true, true_and, and_true, false_and, and_false, and_self, true_or, or_true, false_or, or_false, Nat.reduceEqDiff, Nat.reduceLT, Nat.reduceLeDiff, Nat.reduceAdd, Nat.reduceMul, Nat.reduceSub, Nat.add_zero, Nat.zero_add, Nat.mul_zero, Nat.zero_mul, ne_eq, Bool.not_eq_true, Bool.not_eq_false, reduceCtorEq, decide_true, decide_false, decide_eq_true_eq, decide_eq_false_iff_not, Bool.false_eq_true, if_pos, if_neg, hx3, hx7, hcc, h225c, h57, hall]
      rw [f_X12_doOne_L194]
      have hkc : c ≤ k + 1 := by omega
      simp (disch := omega) only [↓fLt_e, fBd_s, ↓fJn_s, fNn_s, fNu_0, fNu_s, fBo_0, fBo_1, fBo_b, i_lit, i_neg1, nI_add, pk_mul, nI_clamp, i_le, i_lt, i_eq, fIx_n, nI_mI, mI_nI, mI_lt, nI_lt_m, mI_le, nI_le_m, xI_0, xI_s, bI_0, bI_1, bI_t, bI_f, n_31, j_bit, j_one, i_and, i_or, Nat.not_lt_zero, Nat.succ_ne_zero, Nat.add_one_ne_zero, Nat.add_one_sub_one, Nat.zero_le, Nat.or_zero, Nat.zero_or, Bool.not_true, Bool.not_false, Bool.true_and, Bool.false_and, Bool.and_true, Bool.and_false, ↓reduceIte, if_true, if_false, not_true_eq_false, not_false_eq_true, true_and, and_true, false_and, and_false, and_self, true_or, or_true, false_or, or_false, Nat.reduceEqDiff, Nat.reduceLT, Nat.reduceLeDiff, Nat.reduceAdd, Nat.reduceMul, Nat.reduceSub, Nat.add_zero, Nat.zero_add, Nat.mul_zero, Nat.zero_mul, ne_eq, Bool.not_eq_true, Bool.not_eq_false, reduceCtorEq, decide_true, decide_false, decide_eq_true_eq, decide_eq_false_iff_not, Bool.false_eq_true, if_pos, if_neg, hx3, hcc2, hkc]
    rcases ho2 with ⟨v1, v2, e, v3, v4⟩ | ⟨v1, v2⟩
    · have hcte := cte_loop (i := i) (w := w) (sc := sc2) (show m < 60 by omega) (show a < 60 by omega) (by rw [cFr_9 hc2]; exact h4) (by rw [cFr_9 hc2]; exact h29) (r := 1) (by omega) (by omega) hl2a
      rw [if_pos rfl] at hcte
      have hcA : cFr i no sc2 (sA sc2 10 i 1 (upd (gA sc2 10 i 1) a (nI (1 - 1)))) := cFr_A (Or.inl ⟨rfl, rfl⟩) (cFr_rf i no sc2)
      have W3 : wkR i no G0 q (sA sc2 10 i 1 (upd (gA sc2 10 i 1) a (nI (1 - 1)))) sm2 sg2 := wkR_e W2 hcA ⟨rfl, rfl, rfl, rfl⟩ rfl ⟨rfl, rfl⟩ (fun _ _ => rfl) (fun _ _ _ => rfl) ⟨t1, t2⟩
      refine ⟨_, sm2, sg2, ⟨W3, k1, k2, cFr_tr hc2 hcA, hm2, fun p hp => ?_, Or.inl ⟨v1, v2, e + 1, by omega, fun k8 F => ?_⟩⟩, fun k27 mf hmf => hend k27 mf (by omega)⟩
      · rw [gA_same, upd_at, if_neg (by omega)]
        exact hl2 p (by omega)
      · have h3 := v4 k8 (F + 1)
        rw [show F + (e + 1) = F + 1 + e by omega, h3]
        rw [L36_go (by rw [cFr_90 hc2]; exact hM) hM2 hmM t1 v1 (by omega), if_pos (by rw [cFr_9 hc2]; exact h30), hcte, fBd_s]
        rfl
    · exact ⟨sc2, sm2, sg2, ⟨W2, k1, k2, hc2, hm2, fun p hp => hl2 p (by omega), Or.inr ⟨v1, v2⟩⟩, fun k27 mf hmf => hend k27 mf (by omega)⟩
  | succ r ihr =>
    intro k sc sm sg kp hk hb hM h29 h30 h4 W hsg hkp h57 hcc hl
    obtain ⟨s1, s2, -, hcell⟩ := wk_st W
    have h225c := hcell fr hfr
    rw [h225] at h225c
    obtain ⟨sc2, sm2, sg2, ⟨W2, k1, k2, hc2, hm2, hl2, ho2⟩, hL⟩ := ih sc sm sg kp hb hM W hsg (by omega) h57
    have hall : f_X12_doAll (D + 1) (nI (fr + 1)) (nI frn) sm = some ((), sm2) := hL (fun s2 => some ((), s2)) fF (Nat.lt_of_lt_of_le (fF_lt (show frn < 4000000 by omega)) (Nat.le_add_left _ _))
    obtain ⟨t1, t2, -⟩ := wk_st W2
    have hl2a : gA sc2 10 i 1 a = nI (r + 2) := by rw [hl2 a (by omega)]; exact hl
    have hcc2 : gA sm2 12 0 5 (220 + 7 * fr) = nI c := by rw [hm2.2 _ (by omega)]; exact hcc
    have h225c2 : gA sm2 12 0 5 (225 + 7 * fr) = nI frn := by rw [hm2.2 _ (by omega)]; exact h225c
    have hstep : ∀ k27 mf, f_X12_doOne_L194 (f_X12_doAll (D + 1)) (nI fr) (nI (219 + 7 * fr)) k27 (mf + 1) (nI k) sm = f_X12_doOne_L194 (f_X12_doAll (D + 1)) (nI fr) (nI (219 + 7 * fr)) k27 mf (nI (k + 1)) sm2 := by
      intro k27 mf
      have hkc : ¬ c ≤ k := by omega
      rw [f_X12_doOne_L194]
      simp (disch := omega) only [↓fLt_e, fBd_s, ↓fJn_s, fNn_s, fNu_0, fNu_s, fBo_0, fBo_1, fBo_b, i_lit, i_neg1, nI_add, pk_mul, nI_clamp, i_le, i_lt, i_eq, fIx_n, nI_mI, mI_nI, mI_lt, nI_lt_m, mI_le, nI_le_m, xI_0, xI_s, bI_0, bI_1, bI_t, bI_f, n_31, j_bit, j_one, i_and, i_or, Nat.not_lt_zero, Nat.succ_ne_zero, Nat.add_one_ne_zero, Nat.add_one_sub_one, Nat.zero_le, Nat.or_zero, Nat.zero_or, Bool.not_true, Bool.not_false, Bool.true_and, Bool.false_and, Bool.and_true, Bool.and_false, ↓reduceIte, if_true, if_false, not_true_eq_false, not_false_eq_true, true_and, and_true, false_and, and_false, and_self, true_or, or_true, false_or, or_false, Nat.reduceEqDiff, Nat.reduceLT, Nat.reduceLeDiff, Nat.reduceAdd, Nat.reduceMul, Nat.reduceSub, Nat.add_zero, Nat.zero_add, Nat.mul_zero, Nat.zero_mul, ne_eq, Bool.not_eq_true, Bool.not_eq_false, reduceCtorEq, decide_true, decide_false, decide_eq_true_eq, decide_eq_false_iff_not, Bool.false_eq_true, if_pos, if_neg, hx3, hx7, hcc, h225c, h57, hall, hkc]
    rcases ho2 with ⟨v1, v2, e, v3, v4⟩ | ⟨v1, v2⟩
    · have hcte := cte_loop (i := i) (w := w) (sc := sc2) (show m < 60 by omega) (show a < 60 by omega) (by rw [cFr_9 hc2]; exact h4) (by rw [cFr_9 hc2]; exact h29) (r := r + 2) (by omega) (by omega) hl2a
      rw [if_neg (by omega)] at hcte
      have hcA : cFr i no sc2 (sA sc2 10 i 1 (upd (gA sc2 10 i 1) a (nI (r + 2 - 1)))) := cFr_A (Or.inl ⟨rfl, rfl⟩) (cFr_rf i no sc2)
      have W3 : wkR i no G0 q (sA sc2 10 i 1 (upd (gA sc2 10 i 1) a (nI (r + 2 - 1)))) sm2 sg2 := wkR_e W2 hcA ⟨rfl, rfl, rfl, rfl⟩ rfl ⟨rfl, rfl⟩ (fun _ _ => rfl) (fun _ _ _ => rfl) ⟨t1, t2⟩
      have hc3 := cFr_tr hc2 hcA
      obtain ⟨sc3, sm3, sg3, ⟨W4, g1, g2, hc4, hm4, hl4, ho4⟩, hL4⟩ := ihr (k + 1) (sA sc2 10 i 1 (upd (gA sc2 10 i 1) a (nI (r + 2 - 1)))) sm2 sg2 (kp + e + 1) (by omega) (rBod_e (sc := sc) (fun j k => by
        funext p
        exact congrFun (cFr_9 hc3 j k) p) _ _ _ _ _ _ hb) (by rw [cFr_90 hc3]; exact hM) (by rw [cFr_9 hc3]; exact h29) (by rw [cFr_9 hc3]; exact h30) (by rw [cFr_9 hc3]; exact h4) W3 v1 (by omega) v2 hcc2 (by
        rw [gA_same, upd_at, if_pos rfl]
        rfl)
      · refine ⟨sc3, sm3, sg3, ⟨W4, by omega, g2, cFr_tr hc3 hc4, mFr_tr hm2 hm4, fun p hp => ?_, ?_⟩, fun k27 mf hmf => ?_⟩
        · rw [hl4 p hp, gA_same, upd_at, if_neg (by omega)]
          exact hl2 p (by omega)
        · have hgo : ∀ k8 F, f_X10_go_L36 i 0 w k8 (F + (e + 1)) (nI (a + 1)) (nI kp) sc = f_X10_go_L36 i 0 w k8 F (nI (a + 1)) (nI (kp + e + 1)) (sA sc2 10 i 1 (upd (gA sc2 10 i 1) a (nI (r + 2 - 1)))) := by
            intro k8 F
            have h3 := v4 k8 (F + 1)
            rw [show F + (e + 1) = F + 1 + e by omega, h3]
            rw [L36_go (by rw [cFr_90 hc2]; exact hM) hM2 hmM t1 v1 (by omega), if_pos (by rw [cFr_9 hc2]; exact h30), hcte, fBd_s]
          rcases ho4 with ⟨u1, u2, e', u3, u4⟩ | ⟨u1, u2⟩
          · refine Or.inl ⟨u1, u2, e' + (e + 1), by omega, fun k8 F => ?_⟩
            rw [← Nat.add_assoc, hgo, u4]
            congr 2
            omega
          · refine Or.inr ⟨u1, fun k8 F hF => ?_⟩
            have h5 := hgo k8 (F - (e + 1))
            rw [Nat.sub_add_cancel (show e + 1 ≤ F by omega)] at h5
            rw [h5]
            exact u2 k8 _ (by omega)
        · obtain ⟨mf, rfl⟩ : ∃ k, mf = k + 1 := ⟨mf - 1, by omega⟩
          rw [hstep]
          exact hL4 k27 mf (by omega)
    · obtain ⟨sm3, z1, z2⟩ := frz_L194 (c := c) (j := fr) (D := D) (to := frn) (by omega) (by omega) hc99 (r + 1) (k + 1) sm2 v1 hcc2 h225c2 (by omega)
      refine ⟨sc2, sm3, sg2, ⟨wkR_fzn W2 z1, k1, k2, hc2, mFr_tr hm2 (mFr_fzn z1), fun p hp => hl2 p (by omega), Or.inr ⟨frz_fzn v1 z1, v2⟩⟩, fun k27 mf hmf => ?_⟩
      obtain ⟨mf, rfl⟩ : ∃ k, mf = k + 1 := ⟨mf - 1, by omega⟩
      rw [hstep]
      exact z2 k27 mf (by omega)
theorem o_loop {D n d fr frn a m : Nat} {sc sm : fSt} {sg kp : Nat} (hM2 : M ≤ 60) (hM : gI sc 9 w 0 = nI M) (W : wkR i no G0 q sc sm sg) (hsg : sg < 200) (hk : kp ≤ 202 * sg) (h57 : gI sm 12 0 57 = nI 0) (hS : rStp sc w G0 fr a) (hfr : fr < G0 218) (h225 : G0 (225 + 7 * fr) = frn) (hlt : fr < frn) (hfn : frn ≤ G0 218) (h6 : G0 (219 + 7 * fr) = 6) (ham : a + 1 ≤ m) (hmM : m < M)
    (hm30 : gA sc 9 w 1 m = nI 30) (hm4 : gA sc 9 w 4 m = nI a) (hb : rBod sc w G0 n d (fr + 1) frn (a + 1) m) (ih : SEG i no G0 q w M n d (fr + 1) frn (a + 1) m D) : stO i no G0 q w (D + 1) sc sm sg kp fr a (m + 1) := by
  obtain ⟨s1, s2, hj30, hcell⟩ := wk_st W
  obtain ⟨c, c1, c2, h29, hcc, -, hst, hone⟩ := stp_loop W hS hfr (by omega) hsg h6
  have hone := hone (f_X12_doAll (D + 1))
  have n30 : ¬ gA sc 9 w 1 a = nI 30 := by rw [h29, i_eq _ _ (by omega) (by omega)]; omega
  have h225c := hcell fr hfr
  rw [h225] at h225c
  have hcA : cFr i no sc (sA (sI sc 10 i 6 (nI (sg + 1))) 10 i 1 (upd (gA sc 10 i 1) a (nI c))) := cFr_A (Or.inl ⟨rfl, rfl⟩) (cFr_I (Or.inl ⟨rfl, rfl⟩) (cFr_rf i no sc))
  have hm0 : mFr sm (sI sm 12 0 58 (nI (sg + 1))) := mFr_I (by omega) (mFr_rf sm)
  have h570 : gI (sI sm 12 0 58 (nI (sg + 1))) 12 0 57 = nI 0 := by rw [gI_sI, if_neg (by omega)]; exact h57
  have W1 : wkR i no G0 q (sA (sI sc 10 i 6 (nI (sg + 1))) 10 i 1 (upd (gA sc 10 i 1) a (nI c))) (sI sm 12 0 58 (nI (sg + 1))) (sg + 1) := by
    have hW := wk_inc W
    obtain ⟨t1, t2, -⟩ := wk_st hW
    exact wkR_e hW (cFr_A (Or.inl ⟨rfl, rfl⟩) (cFr_rf i no _)) ⟨rfl, rfl, rfl, rfl⟩ rfl ⟨rfl, rfl⟩ (fun _ _ => rfl) (fun _ _ _ => rfl) ⟨t1, t2⟩
  have hM1 : gI (sA (sI sc 10 i 6 (nI (sg + 1))) 10 i 1 (upd (gA sc 10 i 1) a (nI c))) 9 w 0 = nI M := by rw [cFr_90 hcA]; exact hM
  by_cases h200 : sg + 1 = 200
  · have hfz : frz (sI sm 12 0 58 (nI (sg + 1))) := Or.inr ⟨h570, by rw [gI_same, h200]⟩
    obtain ⟨sm3, z1, z2⟩ := frz_L194 (c := c) (j := fr) (D := D) (to := frn) (by omega) (by omega) c2 c 0 (sI sm 12 0 58 (nI (sg + 1))) hfz hcc h225c (by omega)
    refine ⟨_, sm3, sg + 1, ⟨wkR_fzn W1 z1, by omega, by omega, hcA, mFr_tr hm0 (mFr_fzn z1), fun p hp => ?_, Or.inr ⟨frz_fzn hfz z1, fun k8 F hF => ?_⟩⟩, ?_⟩
    · rw [gA_same, upd_at, if_neg (by omega)]
    · obtain ⟨F, rfl⟩ : ∃ k, F = k + 1 := ⟨F - 1, by omega⟩
      obtain ⟨F, rfl⟩ : ∃ k, F = k + 1 := ⟨F - 1, by omega⟩
      rw [L36_go hM hM2 (by omega) s1 hsg hk, if_neg n30, hst, fBd_s]
      exact L36_exit hM1 hM2 (by omega) (gI_same _ _ _ _ _) (by omega) (by omega) (Or.inr h200) k8
    · rw [hone]
      exact z2 _ fF (fF_lt (by omega))
  · obtain ⟨r, hr⟩ : ∃ r, c = r + 1 := ⟨c - 1, by omega⟩
    obtain ⟨sc3, sm3, sg3, ⟨W4, g1, g2, hc4, hm4', hl4, ho4⟩, hL4⟩ := o_loopL (D := D) (c := c) hM2 hfr hj30 h225 hlt hfn ham hmM c2 ih r 0 (sA (sI sc 10 i 6 (nI (sg + 1))) 10 i 1 (upd (gA sc 10 i 1) a (nI c))) (sI sm 12 0 58 (nI (sg + 1))) (sg + 1) (kp + 1) (by omega) (rBod_e (sc := sc) (fun j k => by
        funext p
        exact congrFun (cFr_9 hcA j k) p) _ _ _ _ _ _ hb) hM1 (by rw [cFr_9 hcA]; exact h29) (by rw [cFr_9 hcA]; exact hm30) (by rw [cFr_9 hcA]; exact hm4) W1 (by omega) (by omega) h570 hcc (by
        rw [gA_same, upd_at, if_pos rfl, hr])
    · refine ⟨sc3, sm3, sg3, ⟨W4, by omega, g2, cFr_tr hcA hc4, mFr_tr hm0 hm4', fun p hp => ?_, ?_⟩, ?_⟩
      · rw [hl4 p hp, gA_same, upd_at, if_neg (by omega)]
      · rcases ho4 with ⟨u1, u2, e', u3, u4⟩ | ⟨u1, u2⟩
        · refine Or.inl ⟨u1, u2, e' + 1, by omega, fun k8 F => ?_⟩
          rw [← Nat.add_assoc, L36_go hM hM2 (by omega) s1 hsg hk, if_neg n30, hst, fBd_s, u4]
          congr 2
          omega
        · refine Or.inr ⟨u1, fun k8 F hF => ?_⟩
          obtain ⟨F, rfl⟩ : ∃ k, F = k + 1 := ⟨F - 1, by omega⟩
          rw [L36_go hM hM2 (by omega) s1 hsg hk, if_neg n30, hst, fBd_s]
          exact u2 k8 F (by omega)
      · rw [hone]
        exact hL4 _ fF (fF_lt (by omega))
theorem n30_of {sc : fSt} {w j at' : Nat} (hS : rStp sc w G0 j at') : ¬ gA sc 9 w 1 at' = nI 30 := by
  have key : ∃ v, gA sc 9 w 1 at' = nI v ∧ v < 32 ∧ ¬ v = 30 := by
    unfold rStp at hS
    dsimp only at hS
    rcases hS with ⟨-, hk⟩ | ⟨-, hk⟩
    · rcases hk with ⟨-, h, -⟩ | ⟨-, h, -⟩ | ⟨-, h, -⟩ | ⟨-, h, -⟩ | ⟨-, h, -⟩ | ⟨-, h, -⟩ | ⟨-, h⟩
      all_goals exact ⟨_, h, by omega, by omega⟩
    · rcases hk with ⟨-, -, h, -⟩ | ⟨-, -, h, -⟩ | ⟨-, -, h, -⟩ | ⟨-, h, -⟩
      all_goals exact ⟨_, h, by omega, by omega⟩
  obtain ⟨v, h, h1, h2⟩ := key
  rw [h, i_eq _ _ (by omega) (by omega)]
  exact h2
theorem sim (hM2 : M ≤ 60) : ∀ n d fr to a a' D, to ≤ G0 218 → a' ≤ M → d < D → SEG i no G0 q w M n d fr to a a' D := by
  intro n
  induction n with
  | zero =>
    intro d fr to a a' D hto haM hD sc sm sg kp hb hM W hsg hk h57
    obtain ⟨h1, h2⟩ := hb
    subst h1 h2
    obtain ⟨s1, s2, hj30, -⟩ := wk_st W
    refine ⟨sc, sm, sg, ⟨W, by omega, by omega, cFr_rf i no sc, mFr_rf sm, fun p _ => rfl, Or.inl ⟨hsg, h57, 0, by omega, fun k8 F => rfl⟩⟩, fun k3 m hm => ?_⟩
    obtain ⟨m, rfl⟩ : ∃ k, m = k + 1 := ⟨m - 1, by omega⟩
    rw [f_X12_doAll_L2]
    simp (disch := omega) only [↓fLt_e, fBd_s, ↓fJn_s, fNn_s, fNu_0, fNu_s, fBo_0, fBo_1, fBo_b, i_lit, i_neg1, nI_add, pk_mul, nI_clamp, i_le, i_lt, i_eq, fIx_n, nI_mI, mI_nI, mI_lt, nI_lt_m, mI_le, nI_le_m, xI_0, xI_s, bI_0, bI_1, bI_t, bI_f, n_31, j_bit, j_one, i_and, i_or, Nat.not_lt_zero, Nat.succ_ne_zero, Nat.add_one_ne_zero, Nat.add_one_sub_one, Nat.zero_le, Nat.or_zero, Nat.zero_or, Bool.not_true, Bool.not_false, Bool.true_and, Bool.false_and, Bool.and_true, Bool.and_false, ↓reduceIte, if_true, if_false, not_true_eq_false, not_false_eq_true, true_and, and_true, false_and, and_false, and_self, true_or, or_true, false_or, or_false, Nat.reduceEqDiff, Nat.reduceLT, Nat.reduceLeDiff, Nat.reduceAdd, Nat.reduceMul, Nat.reduceSub, Nat.add_zero, Nat.zero_add, Nat.mul_zero, Nat.zero_mul, ne_eq, Bool.not_eq_true, Bool.not_eq_false, reduceCtorEq, decide_true, decide_false, decide_eq_true_eq, decide_eq_false_iff_not, Bool.false_eq_true, if_pos, if_neg]
  | succ n ih =>
    intro d fr to a a' D hto haM hD sc sm sg kp hb hM W hsg hk h57
    obtain ⟨s1, s2, hj30, -⟩ := wk_st W
    rcases hb with ⟨h1, h2⟩ | ⟨h1, hS, hb⟩
    · subst h1 h2
      refine ⟨sc, sm, sg, ⟨W, by omega, by omega, cFr_rf i no sc, mFr_rf sm, fun p _ => rfl, Or.inl ⟨hsg, h57, 0, by omega, fun k8 F => rfl⟩⟩, fun k3 m hm => ?_⟩
      obtain ⟨m, rfl⟩ : ∃ k, m = k + 1 := ⟨m - 1, by omega⟩
      rw [f_X12_doAll_L2]
      simp (disch := omega) only [↓fLt_e, fBd_s, ↓fJn_s, fNn_s, fNu_0, fNu_s, fBo_0, fBo_1, fBo_b, i_lit, i_neg1, nI_add, pk_mul, nI_clamp, i_le, i_lt, i_eq, fIx_n, nI_mI, mI_nI, mI_lt, nI_lt_m, mI_le, nI_le_m, xI_0, xI_s, bI_0, bI_1, bI_t, bI_f, n_31, j_bit, j_one, i_and, i_or, Nat.not_lt_zero, Nat.succ_ne_zero, Nat.add_one_ne_zero, Nat.add_one_sub_one, Nat.zero_le, Nat.or_zero, Nat.zero_or, Bool.not_true, Bool.not_false, Bool.true_and, Bool.false_and, Bool.and_true, Bool.and_false, ↓reduceIte, if_true, if_false, not_true_eq_false, not_false_eq_true, true_and, and_true, false_and, and_false, and_self, true_or, or_true, false_or, or_false, Nat.reduceEqDiff, Nat.reduceLT, Nat.reduceLeDiff, Nat.reduceAdd, Nat.reduceMul, Nat.reduceSub, Nat.add_zero, Nat.zero_add, Nat.mul_zero, Nat.zero_mul, ne_eq, Bool.not_eq_true, Bool.not_eq_false, reduceCtorEq, decide_true, decide_false, decide_eq_true_eq, decide_eq_false_iff_not, Bool.false_eq_true, if_pos, if_neg]
    · rcases hb with ⟨h5, h6, h225, hb⟩ | ⟨h56, hd, h2, h3, m, hb1, hm30, hm4, ha4, hm60, hb⟩
      · have hle := rBod_le n _ _ _ _ _ hb
        exact o_seq h1 (by omega) hto h225 (by omega) hM hk h57 (by omega) hle.2 hb (ih d (fr + 1) to (a + 1) a' D hto haM hD) (o_simple hM2 hM W hsg hk h57 hS (by omega) (by omega) h5 h6 (n30_of hS))
      · have hle := rBod_le n _ _ _ _ _ hb
        have hle1 := rBod_le n _ _ _ _ _ hb1
        obtain ⟨D, rfl⟩ : ∃ k, D = k + 1 := ⟨D - 1, by omega⟩
        have ihb := ih (d - 1) (fr + 1) (G0 (225 + 7 * fr)) (a + 1) m D (by omega) (by omega) (by omega)
        refine o_seq h1 h2 hto rfl h3 hM hk h57 (by omega) hle.2 hb (ih d (G0 (225 + 7 * fr)) to (m + 1) a' (D + 1) hto haM hD) ?_
        rcases h56 with h5 | h6
        · exact o_when hM2 hM W hsg hk h57 hS (by omega) rfl h2 (by omega) h5 (by omega) (by omega) hm30 hm4 ha4 hb1 ihb
        · exact o_loop hM2 hM W hsg hk h57 hS (by omega) rfl h2 (by omega) h6 (by omega) (by omega) hm30 hm4 hb1 ihb
end
