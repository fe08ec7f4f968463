/-! layer 2: the walk's induction; goAll -/
section
variable {sm : fSt} {G : Nat → Nat}
theorem m_goThrough (B : rBlk (gA sm 12 0 5) G) (w : gWf G) {kp : Nat} (hkp : kp ≤ G 3) : ∀ n s kl ah (wt : Int64) (t : qT), s < G 2 → s < n → kl < 64 → ah < 4096 → f_X12_goThrough n (nI s) (nI kl) (nI ah) wt (xI kp) (gQ sm t) = some ((), gQ sm ((gLs G (gsx G kp) n s (G 5 ||| kl) ah wt).foldl (cq G) t)) := by
  intro n
  induction n with
  | zero => intro s kl ah wt t _ h; omega
  | succ n ih =>
    intro s kl ah wt t hs hsn hkl hah
    have h := w.1
    have hgo : G 5 ||| gkil G s kl = gkil G s (G 5 ||| kl) := (gkil_or G s (G 5) kl).symm
    have hse : ah ||| 2 ^ s < 4096 := Nat.or_lt_two_pow (n := 12) hah (Nat.pow_lt_pow_right (by omega) (by omega))
    have BQ : ∀ t, rBlk (gA (gQ sm t) 12 0 5) G := fun t => B
    have hbe : ∀ t d, d < 4 → f_X12_behind2 (nI s) (nI d) (nI kl) (gQ sm t) = some (xI (gnx G s d (gkil G s (G 5 ||| kl))), gQ sm t) := fun t d hd => by
      have := m_behind2 (BQ t) w hs hd hkl
      rw [hgo] at this
      exact this
    have htn : ∀ d, d < 4 → gnx G s d (gkil G s (G 5 ||| kl)) ≤ s := fun d hd => gnx_le w hs hd _
    show f_X12_goThrough_b (f_X12_goThrough n) (nI s) (nI kl) (nI ah) wt (xI kp) (gQ sm t) = _
    have hcnt : ∀ k6, f_X12_goThrough_L13 (nI s) (nI kl) k6 fF (nI 0) (nI 0) (gQ sm t) = k6 (nI (zs (fun d => if gnx G s d (gkil G s (G 5 ||| kl)) = 0 then 1 else 0) 4)) (gQ sm t) := by
      intro k6
      obtain ⟨m, e⟩ := lp_run (fun m (z : Int32 × Int32) => f_X12_goThrough_L13 (nI s) (nI kl) k6 m z.1 z.2 (gQ sm t)) (fun d => (nI (zs (fun d => if gnx G s d (gkil G s (G 5 ||| kl)) = 0 then 1 else 0) d), nI d)) 4 (fun m d hd => by
        show f_X12_goThrough_L13 (nI s) (nI kl) k6 (m + 1) (nI (zs (fun d => if gnx G s d (gkil G s (G 5 ||| kl)) = 0 then 1 else 0) d)) (nI d) (gQ sm t) = f_X12_goThrough_L13 (nI s) (nI kl) k6 m (nI (zs (fun d => if gnx G s d (gkil G s (G 5 ||| kl)) = 0 then 1 else 0) (d + 1))) (nI (d + 1)) (gQ sm t)
        have hb := hbe t d hd
        have ht := htn d hd
        rw [f_X12_goThrough_L13, zs_s]
        cases hv : gnx G s d (gkil G s (G 5 ||| kl)) with
        | zero =>
          rw [hv] at hb
          simp (disch := omega) only [fLt_e, fBd_s, fJn_s, fNn_s, fNu_0, fNu_s, fBo_0, fBo_1, fBo_b, i_lit, i_neg1, nI_add, pk_mul, nI_clamp, i_le, i_lt, i_eq, fIx_n, nI_mI, mI_nI, mI_lt, nI_lt_m, mI_le, nI_le_m, xI_0, xI_s, bI_0, bI_1, bI_t, bI_f, n_31, j_bit, j_one, i_and, i_or, Nat.not_lt_zero, Nat.succ_ne_zero, Nat.add_one_ne_zero, Nat.add_one_sub_one, Nat.zero_le, Nat.or_zero, Nat.zero_or, Bool.not_true, Bool.not_false, Bool.true_and, Bool.false_and, Bool.and_true, Bool.and_false, ↓reduceIte, if_true, if_false, not_true_eq_false, not_false_eq_true, true_and, and_true, false_and, and_false, and_self, true_or, or_true, false_or, or_false, Nat.reduceEqDiff, Nat.reduceLT, Nat.reduceLeDiff, Nat.reduceAdd, Nat.reduceMul, Nat.reduceSub, Nat.add_zero, Nat.zero_add, Nat.mul_zero, Nat.zero_mul, ne_eq, Bool.not_eq_true, Bool.not_eq_false, reduceCtorEq, decide_true, decide_false, decide_eq_true_eq, decide_eq_false_iff_not, Bool.false_eq_true, if_pos, if_neg, hb]
        | succ v =>
          rw [hv] at hb ht
          simp (disch := omega) only [fLt_e, fBd_s, fJn_s, fNn_s, fNu_0, fNu_s, fBo_0, fBo_1, fBo_b, i_lit, i_neg1, nI_add, pk_mul, nI_clamp, i_le, i_lt, i_eq, fIx_n, nI_mI, mI_nI, mI_lt, nI_lt_m, mI_le, nI_le_m, xI_0, xI_s, bI_0, bI_1, bI_t, bI_f, n_31, j_bit, j_one, i_and, i_or, Nat.not_lt_zero, Nat.succ_ne_zero, Nat.add_one_ne_zero, Nat.add_one_sub_one, Nat.zero_le, Nat.or_zero, Nat.zero_or, Bool.not_true, Bool.not_false, Bool.true_and, Bool.false_and, Bool.and_true, Bool.and_false, ↓reduceIte, if_true, if_false, not_true_eq_false, not_false_eq_true, true_and, and_true, false_and, and_false, and_self, true_or, or_true, false_or, or_false, Nat.reduceEqDiff, Nat.reduceLT, Nat.reduceLeDiff, Nat.reduceAdd, Nat.reduceMul, Nat.reduceSub, Nat.add_zero, Nat.zero_add, Nat.mul_zero, Nat.zero_mul, ne_eq, Bool.not_eq_true, Bool.not_eq_false, reduceCtorEq, decide_true, decide_false, decide_eq_true_eq, decide_eq_false_iff_not, Bool.false_eq_true, if_pos, if_neg, hb]) (fF_lt (by omega))
      refine Eq.trans e ?_
      show f_X12_goThrough_L13 (nI s) (nI kl) k6 (m + 1) (nI (zs (fun d => if gnx G s d (gkil G s (G 5 ||| kl)) = 0 then 1 else 0) 4)) (nI 4) (gQ sm t) = _
      rw [f_X12_goThrough_L13]
      simp (disch := omega) only [fLt_e, fBd_s, fJn_s, fNn_s, fNu_0, fNu_s, fBo_0, fBo_1, fBo_b, i_lit, i_neg1, nI_add, pk_mul, nI_clamp, i_le, i_lt, i_eq, fIx_n, nI_mI, mI_nI, mI_lt, nI_lt_m, mI_le, nI_le_m, xI_0, xI_s, bI_0, bI_1, bI_t, bI_f, n_31, j_bit, j_one, i_and, i_or, Nat.not_lt_zero, Nat.succ_ne_zero, Nat.add_one_ne_zero, Nat.add_one_sub_one, Nat.zero_le, Nat.or_zero, Nat.zero_or, Bool.not_true, Bool.not_false, Bool.true_and, Bool.false_and, Bool.and_true, Bool.and_false, ↓reduceIte, if_true, if_false, not_true_eq_false, not_false_eq_true, true_and, and_true, false_and, and_false, and_self, true_or, or_true, false_or, or_false, Nat.reduceEqDiff, Nat.reduceLT, Nat.reduceLeDiff, Nat.reduceAdd, Nat.reduceMul, Nat.reduceSub, Nat.add_zero, Nat.zero_add, Nat.mul_zero, Nat.zero_mul, ne_eq, Bool.not_eq_true, Bool.not_eq_false, reduceCtorEq, decide_true, decide_false, decide_eq_true_eq, decide_eq_false_iff_not, Bool.false_eq_true, if_pos, if_neg]
    have hc4 : zs (fun d => if gnx G s d (gkil G s (G 5 ||| kl)) = 0 then 1 else 0) 4 ≤ 4 := by
      have := zs_le (f := fun d => if gnx G s d (gkil G s (G 5 ||| kl)) = 0 then 1 else 0) (b := 1) (n := 4) (fun k _ => by split <;> omega)
      omega
    unfold f_X12_goThrough_b
    simp (disch := omega) only [fLt_e, fBd_s, fJn_s, fNn_s, fNu_0, fNu_s, fBo_0, fBo_1, fBo_b, i_lit, n_31, i_and, j_one, i_or, hcnt]
    unfold gLs
    by_cases hall : zs (fun d => if gnx G s d (gkil G s (G 5 ||| kl)) = 0 then 1 else 0) 4 = 4
    · rw [hall, if_neg (by simp), if_pos rfl]
      have := m_curtain B w (c := (s, ah ||| 2 ^ s, wt)) hs hse t
      simp only at this
      rw [this]
      rfl
    · rw [if_pos (by rw [i_eq _ _ (by omega) (by omega)]; exact hall), if_neg hall]
      generalize hF : (fun d => if gag (fun d => gnx G s d (gkil G s (G 5 ||| kl))) d 4 then ([] : List cT) else
        if gnx G s d (gkil G s (G 5 ||| kl)) = 0 then [(s, ah ||| 2 ^ s, wt / 16 * lN (gal (fun d => gnx G s d (gkil G s (G 5 ||| kl))) (gsx G kp) d 4))]
        else gLs G (gsx G kp) n (gnx G s d (gkil G s (G 5 ||| kl)) - 1) (gkil G s (G 5 ||| kl)) (ah ||| 2 ^ s) (wt / 16 * lN (gal (fun d => gnx G s d (gkil G s (G 5 ||| kl))) (gsx G kp) d 4))) = F
      have hFd : ∀ d, F d = if gag (fun d => gnx G s d (gkil G s (G 5 ||| kl))) d 4 then ([] : List cT) else
        if gnx G s d (gkil G s (G 5 ||| kl)) = 0 then [(s, ah ||| 2 ^ s, wt / 16 * lN (gal (fun d => gnx G s d (gkil G s (G 5 ||| kl))) (gsx G kp) d 4))]
        else gLs G (gsx G kp) n (gnx G s d (gkil G s (G 5 ||| kl)) - 1) (gkil G s (G 5 ||| kl)) (ah ||| 2 ^ s) (wt / 16 * lN (gal (fun d => gnx G s d (gkil G s (G 5 ||| kl))) (gsx G kp) d 4)) := fun d => by rw [← hF]
      obtain ⟨m, e⟩ := lp_run (fun m (z : Int32 × fSt) => f_X12_goThrough_L65 (f_X12_goThrough n) (nI s) (nI kl) wt (xI kp) (nI (ah ||| 2 ^ s)) m z.1 z.2) (fun d => (nI d, gQ sm (((List.range d).flatMap F).foldl (cq G) t))) 4 (fun m d hd => by
        show f_X12_goThrough_L65 (f_X12_goThrough n) (nI s) (nI kl) wt (xI kp) (nI (ah ||| 2 ^ s)) (m + 1) (nI d) (gQ sm (((List.range d).flatMap F).foldl (cq G) t)) = f_X12_goThrough_L65 (f_X12_goThrough n) (nI s) (nI kl) wt (xI kp) (nI (ah ||| 2 ^ s)) m (nI (d + 1)) (gQ sm (((List.range (d + 1)).flatMap F).foldl (cq G) t))
        rw [List.range_succ, List.flatMap_append, List.foldl_append]
        generalize ((List.range d).flatMap F).foldl (cq G) t = t1
        have hfl : List.flatMap F [d] = F d := by simp
        rw [hfl, hFd]
        have hb := hbe t1 d hd
        have ht := htn d hd
        have h90 := fun k20 => m_thL90 (BQ t1) w hkp hs hkl hd k20
        have hga : gal (fun d => gnx G s d (gkil G s (G 5 ||| kl))) (gsx G kp) d 4 ≤ 64 := by
          have := zs_le (f := fun o => if gnx G s o (gkil G s (G 5 ||| kl)) = gnx G s d (gkil G s (G 5 ||| kl)) then gsx G kp o else 0) (b := 16) (n := 4) (fun k _ => by
            have := gsx_le w (d := k) hkp
            split <;> omega)
          exact this
        have hki := m_kills (g := kl) (BQ t1) w hs
        rw [f_X12_goThrough_L65]
        simp only [i_lit] at h90 ⊢
        rw [if_neg (nI_ge hd (by omega)), hb, fBd_s]
        simp only [fLt_e, fJn_s]
        rw [h90]
        generalize hal : gal (fun d => gnx G s d (gkil G s (G 5 ||| kl))) (gsx G kp) d 4 = al at *
        cases hag : gag (fun d => gnx G s d (gkil G s (G 5 ||| kl))) d 4
        · rw [if_pos (by rw [bI_0])]
          simp only [l_lit]
          rw [fNzl_n (by omega) (by omega), nI_l (by omega)]
          cases hv : gnx G s d (gkil G s (G 5 ||| kl)) with
          | zero =>
            have hcu := m_curtain B w (c := (s, ah ||| 2 ^ s, wt / lN 16 * lN al)) hs hse t1
            simp only at hcu
            rw [xI_0, if_neg (by rw [nI_le_m (by omega)]; simp), hcu]
            simp [fBd_s, nI_add]
          | succ v =>
            rw [hv] at ht
            have hr := ih v (gkil G s kl) (ah ||| 2 ^ s) (wt / lN 16 * lN al) t1 (by omega) (by omega) (gkil_lt w hs hkl) hse
            rw [hgo] at hr
            rw [xI_s, if_pos (nI_le (Nat.zero_le _) (by omega)), hki, fBd_s, hr]
            simp [fBd_s, nI_add]
        · rw [if_neg (by rw [bI_0]; simp)]
          simp [nI_add]) (fF_lt (by omega))
      refine Eq.trans e ?_
      show f_X12_goThrough_L65 (f_X12_goThrough n) (nI s) (nI kl) wt (xI kp) (nI (ah ||| 2 ^ s)) (m + 1) (nI 4) (gQ sm (((List.range 4).flatMap F).foldl (cq G) t)) = _
      rw [f_X12_goThrough_L65]
      simp (disch := omega) only [fLt_e, fBd_s, fJn_s, fNn_s, fNu_0, fNu_s, fBo_0, fBo_1, fBo_b, i_lit, i_neg1, nI_add, pk_mul, nI_clamp, i_le, i_lt, i_eq, fIx_n, nI_mI, mI_nI, mI_lt, nI_lt_m, mI_le, nI_le_m, xI_0, xI_s, bI_0, bI_1, bI_t, bI_f, n_31, j_bit, j_one, i_and, i_or, Nat.not_lt_zero, Nat.succ_ne_zero, Nat.add_one_ne_zero, Nat.add_one_sub_one, Nat.zero_le, Nat.or_zero, Nat.zero_or, Bool.not_true, Bool.not_false, Bool.true_and, Bool.false_and, Bool.and_true, Bool.and_false, ↓reduceIte, if_true, if_false, not_true_eq_false, not_false_eq_true, true_and, and_true, false_and, and_false, and_self, true_or, or_true, false_or, or_false, Nat.reduceEqDiff, Nat.reduceLT, Nat.reduceLeDiff, Nat.reduceAdd, Nat.reduceMul, Nat.reduceSub, Nat.add_zero, Nat.zero_add, Nat.mul_zero, Nat.zero_mul, ne_eq, Bool.not_eq_true, Bool.not_eq_false, reduceCtorEq, decide_true, decide_false, decide_eq_true_eq, decide_eq_false_iff_not, Bool.false_eq_true, if_pos, if_neg]
end
