/-! layer 2: the reference's steer: the first of the shortest words -/
def mT (st : fSt) (v : Int32) (a t : Nat → Int32) : fSt := sI (sA (sA st 12 0 15 a) 12 0 17 t) 12 0 47 v
theorem mT_v (st : fSt) (v : Int32) (a t : Nat → Int32) : gI (mT st v a t) 12 0 47 = v := rfl
theorem mT_a (st : fSt) (v : Int32) (a t : Nat → Int32) : gA (mT st v a t) 12 0 15 = a := rfl
theorem mT_t (st : fSt) (v : Int32) (a t : Nat → Int32) : gA (mT st v a t) 12 0 17 = t := rfl
theorem mT_sv (st : fSt) (v w : Int32) (a t : Nat → Int32) : sI (mT st v a t) 12 0 47 w = mT st w a t := by
  unfold mT
  rw [sI_sI]
theorem mT_sa (st : fSt) (v : Int32) (a t b : Nat → Int32) : sA (mT st v a t) 12 0 15 b = mT st v b t := by
  apply st_ext
  · intro c i k; rfl
  · intro c i k; rfl
  · intro c i k
    simp only [mT, gA_sA, gA_sI]
    by_cases h : c = 12 ∧ i = 0
    · obtain ⟨rfl, rfl⟩ := h
      by_cases h1 : k = 15
      · subst h1; simp
      · simp [h1]
    · simp only [← and_assoc, h, false_and, if_false]
  · intro c i k; rfl
  · intro c i k; rfl
theorem mT_st (st : fSt) (v : Int32) (a t b : Nat → Int32) : sA (mT st v a t) 12 0 17 b = mT st v a b := by
  apply st_ext
  · intro c i k; rfl
  · intro c i k; rfl
  · intro c i k
    simp only [mT, gA_sA, gA_sI]
    by_cases h : c = 12 ∧ i = 0
    · obtain ⟨rfl, rfl⟩ := h
      by_cases h1 : k = 17
      · subst h1; simp
      · simp [h1]
    · simp only [← and_assoc, h, false_and, if_false]
  · intro c i k; rfl
  · intro c i k; rfl
def bRel (b : Option (List Nat)) (v : Int32) (t : Nat → Int32) : Prop := match b with
  | none => v = mI
  | some u => v = nI u.length ∧ u.length ≤ 12 ∧ ∀ k, k < u.length → t k = nI (u.getD k 0)
def pRel (p : List Nat) (a : Nat → Int32) : Prop := ∀ k, k < p.length → a k = nI (p.getD k 0)
theorem pRel_add {p : List Nat} {a : Nat → Int32} (h : pRel p a) (d : Nat) : pRel (p ++ [d]) (upd a p.length (nI d)) := by
  intro k hk
  rw [List.length_append, List.length_singleton] at hk
  rw [upd_at, List.getD_eq_getElem?_getD]
  by_cases hl : k = p.length
  · subst hl
    rw [if_pos rfl, List.getElem?_append_right (Nat.le_refl _), Nat.sub_self]
    rfl
  · rw [if_neg hl, List.getElem?_append_left (by omega), ← List.getD_eq_getElem?_getD]
    exact h k (by omega)
theorem pRel_sub {p : List Nat} {a : Nat → Int32} {d : Nat} (h : pRel (p ++ [d]) a) : pRel p a := by
  intro k hk
  have := h k (by rw [List.length_append, List.length_singleton]; omega)
  rw [List.getD_eq_getElem?_getD, List.getElem?_append_left hk, ← List.getD_eq_getElem?_getD] at this
  exact this
section
variable {sm : fSt} {G : Nat → Nat}
theorem m_stL107 (j12 : fSt → Option (Unit × fSt)) (v : Int32) (a t : Nat → Int32) {dp : Nat} (hd : dp < 12) : f_X12_steerFrom_L107 (nI dp) j12 fF (nI 0) (mT sm v a t) = j12 (mT sm v a (fun k => if k < dp + 1 then a k else t k)) := by
  obtain ⟨m, e⟩ := lp_run (fun m (z : Int32 × fSt) => f_X12_steerFrom_L107 (nI dp) j12 m z.1 z.2) (fun i => (nI i, mT sm v a (fun k => if k < i then a k else t k))) (dp + 1) (fun m i hi => by
    show f_X12_steerFrom_L107 (nI dp) j12 (m + 1) (nI i) (mT sm v a (fun k => if k < i then a k else t k)) = f_X12_steerFrom_L107 (nI dp) j12 m (nI (i + 1)) (mT sm v a (fun k => if k < i + 1 then a k else t k))
    have hup : upd (fun k => if k < i then a k else t k) i (a i) = fun k => if k < i + 1 then a k else t k := by
      funext k
      rw [upd_at]
      by_cases h : k = i
      · have h3 : k < i + 1 := by omega
        rw [if_pos h, if_pos h3, h]
      · rw [if_neg h]
        by_cases h2 : k < i
        · have h3 : k < i + 1 := by omega
          rw [if_pos h2, if_pos h3]
        · have h3 : ¬ k < i + 1 := by omega
          rw [if_neg h2, if_neg h3]
    rw [f_X12_steerFrom_L107]
    simp (disch := omega) only [fLt_e, fBd_s, fJn_s, fNn_s, fNu_0, fNu_s, fBo_0, fBo_1, fBo_b, i_lit, i_neg1, nI_add, pk_mul, nI_clamp, i_le, i_lt, i_eq, fIx_n, nI_mI, mI_nI, mI_lt, nI_lt_m, mI_le, nI_le_m, xI_0, xI_s, bI_0, bI_1, bI_t, bI_f, n_31, j_bit, j_one, i_and, i_or, Nat.not_lt_zero, Nat.succ_ne_zero, Nat.add_one_ne_zero, Nat.add_one_sub_one, Nat.zero_le, Nat.or_zero, Nat.zero_or, Bool.not_true, Bool.not_false, Bool.true_and, Bool.false_and, Bool.and_true, Bool.and_false, ↓reduceIte, if_true, if_false, not_true_eq_false, not_false_eq_true, true_and, and_true, false_and, and_false, and_self, true_or, or_true, false_or, or_false, Nat.reduceEqDiff, Nat.reduceLT, Nat.reduceLeDiff, Nat.reduceAdd, Nat.reduceMul, Nat.reduceSub, Nat.add_zero, Nat.zero_add, Nat.mul_zero, Nat.zero_mul, ne_eq, Bool.not_eq_true, Bool.not_eq_false, reduceCtorEq, decide_true, decide_false, decide_eq_true_eq, decide_eq_false_iff_not, Bool.false_eq_true, if_pos, if_neg, mT_a, mT_t, mT_st, hup]) (fF_lt (by omega))
  refine Eq.trans ?_ (Eq.trans e ?_)
  · have : (fun k => if k < 0 then a k else t k) = t := by
      funext k
      rw [if_neg (Nat.not_lt_zero k)]
    show f_X12_steerFrom_L107 (nI dp) j12 fF (nI 0) (mT sm v a t) = f_X12_steerFrom_L107 (nI dp) j12 fF (nI 0) (mT sm v a (fun k => if k < 0 then a k else t k))
    rw [this]
  · show f_X12_steerFrom_L107 (nI dp) j12 (m + 1) (nI (dp + 1)) (mT sm v a (fun k => if k < dp + 1 then a k else t k)) = _
    rw [f_X12_steerFrom_L107]
    simp (disch := omega) only [fLt_e, fBd_s, fJn_s, fNn_s, fNu_0, fNu_s, fBo_0, fBo_1, fBo_b, i_lit, i_neg1, nI_add, pk_mul, nI_clamp, i_le, i_lt, i_eq, fIx_n, nI_mI, mI_nI, mI_lt, nI_lt_m, mI_le, nI_le_m, xI_0, xI_s, bI_0, bI_1, bI_t, bI_f, n_31, j_bit, j_one, i_and, i_or, Nat.not_lt_zero, Nat.succ_ne_zero, Nat.add_one_ne_zero, Nat.add_one_sub_one, Nat.zero_le, Nat.or_zero, Nat.zero_or, Bool.not_true, Bool.not_false, Bool.true_and, Bool.false_and, Bool.and_true, Bool.and_false, ↓reduceIte, if_true, if_false, not_true_eq_false, not_false_eq_true, true_and, and_true, false_and, and_false, and_self, true_or, or_true, false_or, or_false, Nat.reduceEqDiff, Nat.reduceLT, Nat.reduceLeDiff, Nat.reduceAdd, Nat.reduceMul, Nat.reduceSub, Nat.add_zero, Nat.zero_add, Nat.mul_zero, Nat.zero_mul, ne_eq, Bool.not_eq_true, Bool.not_eq_false, reduceCtorEq, decide_true, decide_false, decide_eq_true_eq, decide_eq_false_iff_not, Bool.false_eq_true, if_pos, if_neg]
theorem m_steerFrom (B : rBlk (gA sm 12 0 5) G) (w : gWf G) {e : Nat} (he : e ≤ 9) : ∀ n x kl p b v a t, nok G x → x.1 < n → kl < 64 → x.2.2 = gkil G x.1 (G 5 ||| kl) → p.length + x.1 < 12 → bRel b v t → pRel p a →
    ∃ v' a' t', f_X12_steerFrom n (nI x.1) (nI kl) (nI p.length) (nI e) (mT sm v a t) = some ((), mT sm v' a' t') ∧ bRel ((wds G e n x p).foldl upB b) v' t' ∧ pRel p a' := by
  intro n
  induction n with
  | zero => intro x kl p b v a t _ h; omega
  | succ n ih =>
    intro x kl p b v a t hx hxn hkl hg hpl hb hp
    have w1 := w.1
    have hx1 := hx.1
    have hgo : G 5 ||| gkil G x.1 kl = x.2.2 := by rw [hg]; exact (gkil_or G x.1 (G 5) kl).symm
    have BT : ∀ v a t, rBlk (gA (mT sm v a t) 12 0 5) G := fun _ _ _ => B
    have hbe : ∀ d, d < 4 → ∀ v a t, f_X12_behind2 (nI x.1) (nI d) (nI kl) (mT sm v a t) = some (xI (tsn G x d), mT sm v a t) := fun d hd v a t => by
      have h := m_behind2 (BT v a t) w hx1 hd hkl
      rw [hgo] at h
      exact h
    have hen : ∀ v a t, f_X12_ending (nI x.1) (mT sm v a t) = some (nI (gsl G x.1), mT sm v a t) := fun v a t => m_ending (BT v a t) w hx1
    have hki : ∀ v a t, f_X12_kills (nI x.1) (nI kl) (mT sm v a t) = some (nI (gkil G x.1 kl), mT sm v a t) := fun v a t => m_kills (BT v a t) w hx1
    have hsl := gsl_le w hx1
    -- the loop over the deeds
    have hloop : ∀ v a t, bRel b v t → pRel p a → ∃ v' a' t', f_X12_steerFrom_L21 (f_X12_steerFrom n) (nI x.1) (nI kl) (nI p.length) (nI e) fF (nI 0) (mT sm v a t) = some ((), mT sm v' a' t') ∧ bRel ((wds G e (n + 1) x p).foldl upB b) v' t' ∧ pRel p a' := by
      intro v a t hb hp
      generalize hF : (fun d => if tsn G x d = 0 then (if gsl G x.1 = e then [p ++ [d]] else []) else wds G e n (kidn G x (tsn G x d)) (p ++ [d])) = F
      have hFd : ∀ d, F d = if tsn G x d = 0 then (if gsl G x.1 = e then [p ++ [d]] else []) else wds G e n (kidn G x (tsn G x d)) (p ++ [d]) := fun d => by rw [← hF]
      obtain ⟨s', m, ⟨v', a', t', hs, q1, q2⟩, e2⟩ := lp_ex (fun m (z : Int32 × fSt) => f_X12_steerFrom_L21 (f_X12_steerFrom n) (nI x.1) (nI kl) (nI p.length) (nI e) m z.1 z.2)
        (fun d z => ∃ v' a' t', z = (nI d, mT sm v' a' t') ∧ bRel (((List.range d).flatMap F).foldl upB b) v' t' ∧ pRel p a') 4 (by
        rintro d z hd ⟨v', a', t', rfl, q1, q2⟩
        rw [List.range_succ, List.flatMap_append, List.foldl_append]
        generalize ((List.range d).flatMap F).foldl upB b = b1 at q1 ⊢
        have hfl : List.flatMap F [d] = F d := by simp
        rw [hfl, hFd]
        have hpa := pRel_add q2 d
        have hpl1 : (p ++ [d]).length = p.length + 1 := by rw [List.length_append, List.length_singleton]
        by_cases h0 : tsn G x d = 0
        · rw [if_pos h0]
          have hb0 := hbe d hd
          rw [h0] at hb0
          by_cases hse : gsl G x.1 = e
          · rw [if_pos hse, List.foldl_cons, List.foldl_nil]
            have hnew : bRel (some (p ++ [d])) (nI (p.length + 1)) (fun k => if k < p.length + 1 then upd a' p.length (nI d) k else t' k) := by
              refine ⟨by rw [hpl1], by omega, fun k hk => ?_⟩
              rw [hpl1] at hk
              show (if k < p.length + 1 then upd a' p.length (nI d) k else t' k) = nI ((p ++ [d]).getD k 0)
              rw [if_pos hk]
              exact hpa k (by omega)
            have h107 := fun j12 v => m_stL107 (sm := sm) j12 v (upd a' p.length (nI d)) t' (show p.length < 12 by omega)
            cases b1 with
            | none =>
              have hv : v' = mI := q1
              refine ⟨(nI (d + 1), mT sm (nI (p.length + 1)) (upd a' p.length (nI d)) (fun k => if k < p.length + 1 then upd a' p.length (nI d) k else t' k)), ⟨_, _, _, rfl, hnew, pRel_sub hpa⟩, ?_⟩
              intro m
              show f_X12_steerFrom_L21 (f_X12_steerFrom n) (nI x.1) (nI kl) (nI p.length) (nI e) (m + 1) (nI d) (mT sm v' a' t') = _
              rw [f_X12_steerFrom_L21, hv]
              simp (disch := omega) only [fLt_e, fBd_s, fJn_s, fNn_s, fNu_0, fNu_s, fBo_0, fBo_1, fBo_b, i_lit, i_neg1, nI_add, pk_mul, nI_clamp, i_le, i_lt, i_eq, fIx_n, nI_mI, mI_nI, mI_lt, nI_lt_m, mI_le, nI_le_m, xI_0, xI_s, bI_0, bI_1, bI_t, bI_f, n_31, j_bit, j_one, i_and, i_or, Nat.not_lt_zero, Nat.succ_ne_zero, Nat.add_one_ne_zero, Nat.add_one_sub_one, Nat.zero_le, Nat.or_zero, Nat.zero_or, Bool.not_true, Bool.not_false, Bool.true_and, Bool.false_and, Bool.and_true, Bool.and_false, ↓reduceIte, if_true, if_false, not_true_eq_false, not_false_eq_true, true_and, and_true, false_and, and_false, and_self, true_or, or_true, false_or, or_false, Nat.reduceEqDiff, Nat.reduceLT, Nat.reduceLeDiff, Nat.reduceAdd, Nat.reduceMul, Nat.reduceSub, Nat.add_zero, Nat.zero_add, Nat.mul_zero, Nat.zero_mul, ne_eq, Bool.not_eq_true, Bool.not_eq_false, reduceCtorEq, decide_true, decide_false, decide_eq_true_eq, decide_eq_false_iff_not, Bool.false_eq_true, if_pos, if_neg, mT_a, mT_sa, hb0, hen, hse, mT_v, mT_sv, h107]
            | some u =>
              obtain ⟨hv, hul, hut⟩ := q1
              by_cases hlt : p.length + 1 < u.length
              · have hup : upB (some u) (p ++ [d]) = some (p ++ [d]) := if_pos (by rw [hpl1]; exact hlt)
                rw [hup]
                refine ⟨(nI (d + 1), mT sm (nI (p.length + 1)) (upd a' p.length (nI d)) (fun k => if k < p.length + 1 then upd a' p.length (nI d) k else t' k)), ⟨_, _, _, rfl, hnew, pRel_sub hpa⟩, ?_⟩
                intro m
                show f_X12_steerFrom_L21 (f_X12_steerFrom n) (nI x.1) (nI kl) (nI p.length) (nI e) (m + 1) (nI d) (mT sm v' a' t') = _
                rw [f_X12_steerFrom_L21, hv]
                simp (disch := omega) only [fLt_e, fBd_s, fJn_s, fNn_s, fNu_0, fNu_s, fBo_0, fBo_1, fBo_b, i_lit, i_neg1, nI_add, pk_mul, nI_clamp, i_le, i_lt, i_eq, fIx_n, nI_mI, mI_nI, mI_lt, nI_lt_m, mI_le, nI_le_m, xI_0, xI_s, bI_0, bI_1, bI_t, bI_f, n_31, j_bit, j_one, i_and, i_or, Nat.not_lt_zero, Nat.succ_ne_zero, Nat.add_one_ne_zero, Nat.add_one_sub_one, Nat.zero_le, Nat.or_zero, Nat.zero_or, Bool.not_true, Bool.not_false, Bool.true_and, Bool.false_and, Bool.and_true, Bool.and_false, ↓reduceIte, if_true, if_false, not_true_eq_false, not_false_eq_true, true_and, and_true, false_and, and_false, and_self, true_or, or_true, false_or, or_false, Nat.reduceEqDiff, Nat.reduceLT, Nat.reduceLeDiff, Nat.reduceAdd, Nat.reduceMul, Nat.reduceSub, Nat.add_zero, Nat.zero_add, Nat.mul_zero, Nat.zero_mul, ne_eq, Bool.not_eq_true, Bool.not_eq_false, reduceCtorEq, decide_true, decide_false, decide_eq_true_eq, decide_eq_false_iff_not, Bool.false_eq_true, if_pos, if_neg, mT_a, mT_sa, hb0, hen, hse, mT_v, mT_sv, h107]
              · have hup : upB (some u) (p ++ [d]) = some u := if_neg (by rw [hpl1]; exact hlt)
                rw [hup]
                refine ⟨(nI (d + 1), mT sm v' (upd a' p.length (nI d)) t'), ⟨_, _, _, rfl, ⟨hv, hul, hut⟩, pRel_sub hpa⟩, ?_⟩
                intro m
                show f_X12_steerFrom_L21 (f_X12_steerFrom n) (nI x.1) (nI kl) (nI p.length) (nI e) (m + 1) (nI d) (mT sm v' a' t') = _
                rw [f_X12_steerFrom_L21, hv]
                simp (disch := omega) only [fLt_e, fBd_s, fJn_s, fNn_s, fNu_0, fNu_s, fBo_0, fBo_1, fBo_b, i_lit, i_neg1, nI_add, pk_mul, nI_clamp, i_le, i_lt, i_eq, fIx_n, nI_mI, mI_nI, mI_lt, nI_lt_m, mI_le, nI_le_m, xI_0, xI_s, bI_0, bI_1, bI_t, bI_f, n_31, j_bit, j_one, i_and, i_or, Nat.not_lt_zero, Nat.succ_ne_zero, Nat.add_one_ne_zero, Nat.add_one_sub_one, Nat.zero_le, Nat.or_zero, Nat.zero_or, Bool.not_true, Bool.not_false, Bool.true_and, Bool.false_and, Bool.and_true, Bool.and_false, ↓reduceIte, if_true, if_false, not_true_eq_false, not_false_eq_true, true_and, and_true, false_and, and_false, and_self, true_or, or_true, false_or, or_false, Nat.reduceEqDiff, Nat.reduceLT, Nat.reduceLeDiff, Nat.reduceAdd, Nat.reduceMul, Nat.reduceSub, Nat.add_zero, Nat.zero_add, Nat.mul_zero, Nat.zero_mul, ne_eq, Bool.not_eq_true, Bool.not_eq_false, reduceCtorEq, decide_true, decide_false, decide_eq_true_eq, decide_eq_false_iff_not, Bool.false_eq_true, if_pos, if_neg, mT_a, mT_sa, hb0, hen, hse, mT_v, mT_sv, h107]
          · rw [if_neg hse, List.foldl_nil]
            refine ⟨(nI (d + 1), mT sm v' (upd a' p.length (nI d)) t'), ⟨_, _, _, rfl, q1, pRel_sub hpa⟩, ?_⟩
            intro m
            show f_X12_steerFrom_L21 (f_X12_steerFrom n) (nI x.1) (nI kl) (nI p.length) (nI e) (m + 1) (nI d) (mT sm v' a' t') = _
            rw [f_X12_steerFrom_L21]
            simp (disch := omega) only [fLt_e, fBd_s, fJn_s, fNn_s, fNu_0, fNu_s, fBo_0, fBo_1, fBo_b, i_lit, i_neg1, nI_add, pk_mul, nI_clamp, i_le, i_lt, i_eq, fIx_n, nI_mI, mI_nI, mI_lt, nI_lt_m, mI_le, nI_le_m, xI_0, xI_s, bI_0, bI_1, bI_t, bI_f, n_31, j_bit, j_one, i_and, i_or, Nat.not_lt_zero, Nat.succ_ne_zero, Nat.add_one_ne_zero, Nat.add_one_sub_one, Nat.zero_le, Nat.or_zero, Nat.zero_or, Bool.not_true, Bool.not_false, Bool.true_and, Bool.false_and, Bool.and_true, Bool.and_false, ↓reduceIte, if_true, if_false, not_true_eq_false, not_false_eq_true, true_and, and_true, false_and, and_false, and_self, true_or, or_true, false_or, or_false, Nat.reduceEqDiff, Nat.reduceLT, Nat.reduceLeDiff, Nat.reduceAdd, Nat.reduceMul, Nat.reduceSub, Nat.add_zero, Nat.zero_add, Nat.mul_zero, Nat.zero_mul, ne_eq, Bool.not_eq_true, Bool.not_eq_false, reduceCtorEq, decide_true, decide_false, decide_eq_true_eq, decide_eq_false_iff_not, Bool.false_eq_true, if_pos, if_neg, mT_a, mT_sa, hb0, hen, hse]
        · rw [if_neg h0]
          obtain ⟨k1, k2, k3⟩ := tsn_kid w hx hd h0
          have hb0 := hbe d hd
          obtain ⟨tv, htv⟩ : ∃ tv, tsn G x d = tv + 1 := ⟨tsn G x d - 1, by omega⟩
          rw [htv] at hb0 k1 k2 k3 ⊢
          have hk1 : (kidn G x (tv + 1)).1 = tv := rfl
          rw [hk1] at k2
          obtain ⟨v2, a2, t2, e3, r1, r2⟩ := ih (kidn G x (tv + 1)) (gkil G x.1 kl) (p ++ [d]) b1 v' (upd a' p.length (nI d)) t' k1 (by rw [hk1]; omega) (gkil_lt w hx1 hkl) (by rw [hgo]; rfl) (by rw [hk1, hpl1]; omega) q1 hpa
          rw [hk1, hpl1] at e3
          refine ⟨(nI (d + 1), mT sm v2 a2 t2), ⟨_, _, _, rfl, r1, pRel_sub r2⟩, ?_⟩
          intro m
          show f_X12_steerFrom_L21 (f_X12_steerFrom n) (nI x.1) (nI kl) (nI p.length) (nI e) (m + 1) (nI d) (mT sm v' a' t') = _
          have hng : (nI tv < nI 0) = False := eq_false (by rw [i_lt _ _ (by omega) (by omega)]; omega)
          rw [f_X12_steerFrom_L21]
          simp (disch := omega) only [fLt_e, fBd_s, fJn_s, fNn_s, fNu_0, fNu_s, fBo_0, fBo_1, fBo_b, i_lit, i_neg1, nI_add, pk_mul, nI_clamp, i_le, i_lt, i_eq, fIx_n, nI_mI, mI_nI, mI_lt, nI_lt_m, mI_le, nI_le_m, xI_0, xI_s, bI_0, bI_1, bI_t, bI_f, n_31, j_bit, j_one, i_and, i_or, Nat.not_lt_zero, Nat.succ_ne_zero, Nat.add_one_ne_zero, Nat.add_one_sub_one, Nat.zero_le, Nat.or_zero, Nat.zero_or, Bool.not_true, Bool.not_false, Bool.true_and, Bool.false_and, Bool.and_true, Bool.and_false, ↓reduceIte, if_true, if_false, not_true_eq_false, not_false_eq_true, true_and, and_true, false_and, and_false, and_self, true_or, or_true, false_or, or_false, Nat.reduceEqDiff, Nat.reduceLT, Nat.reduceLeDiff, Nat.reduceAdd, Nat.reduceMul, Nat.reduceSub, Nat.add_zero, Nat.zero_add, Nat.mul_zero, Nat.zero_mul, ne_eq, Bool.not_eq_true, Bool.not_eq_false, reduceCtorEq, decide_true, decide_false, decide_eq_true_eq, decide_eq_false_iff_not, Bool.false_eq_true, if_pos, if_neg, mT_a, mT_sa, hb0, hki, e3]) (fF_lt (by omega)) (s := (nI 0, mT sm v a t)) ⟨v, a, t, rfl, hb, hp⟩
      have hwd : wds G e (n + 1) x p = (List.range 4).flatMap F := by rw [← hF]; rfl
      refine ⟨v', a', t', ?_, by rw [hwd]; exact q1, q2⟩
      refine Eq.trans e2 ?_
      rw [hs]
      show f_X12_steerFrom_L21 (f_X12_steerFrom n) (nI x.1) (nI kl) (nI p.length) (nI e) (m + 1) (nI 4) (mT sm v' a' t') = _
      rw [f_X12_steerFrom_L21]
      simp (disch := omega) only [fLt_e, fBd_s, fJn_s, fNn_s, fNu_0, fNu_s, fBo_0, fBo_1, fBo_b, i_lit, i_neg1, nI_add, pk_mul, nI_clamp, i_le, i_lt, i_eq, fIx_n, nI_mI, mI_nI, mI_lt, nI_lt_m, mI_le, nI_le_m, xI_0, xI_s, bI_0, bI_1, bI_t, bI_f, n_31, j_bit, j_one, i_and, i_or, Nat.not_lt_zero, Nat.succ_ne_zero, Nat.add_one_ne_zero, Nat.add_one_sub_one, Nat.zero_le, Nat.or_zero, Nat.zero_or, Bool.not_true, Bool.not_false, Bool.true_and, Bool.false_and, Bool.and_true, Bool.and_false, ↓reduceIte, if_true, if_false, not_true_eq_false, not_false_eq_true, true_and, and_true, false_and, and_false, and_self, true_or, or_true, false_or, or_false, Nat.reduceEqDiff, Nat.reduceLT, Nat.reduceLeDiff, Nat.reduceAdd, Nat.reduceMul, Nat.reduceSub, Nat.add_zero, Nat.zero_add, Nat.mul_zero, Nat.zero_mul, ne_eq, Bool.not_eq_true, Bool.not_eq_false, reduceCtorEq, decide_true, decide_false, decide_eq_true_eq, decide_eq_false_iff_not, Bool.false_eq_true, if_pos, if_neg]
    show ∃ v' a' t', f_X12_steerFrom_b (f_X12_steerFrom n) (nI x.1) (nI kl) (nI p.length) (nI e) (mT sm v a t) = some ((), mT sm v' a' t') ∧ bRel ((wds G e (n + 1) x p).foldl upB b) v' t' ∧ pRel p a'
    obtain ⟨v1, a1, t1, e1, r1, r2⟩ := hloop v a t hb hp
    unfold f_X12_steerFrom_b
    cases b with
    | none =>
      have hv : v = mI := hb
      refine ⟨v1, a1, t1, ?_, r1, r2⟩
      rw [hv] at e1 ⊢
      simp (disch := omega) only [fLt_e, fBd_s, fJn_s, fNn_s, fNu_0, fNu_s, fBo_0, fBo_1, fBo_b, i_lit, i_neg1, nI_add, pk_mul, nI_clamp, i_le, i_lt, i_eq, fIx_n, nI_mI, mI_nI, mI_lt, nI_lt_m, mI_le, nI_le_m, xI_0, xI_s, bI_0, bI_1, bI_t, bI_f, n_31, j_bit, j_one, i_and, i_or, Nat.not_lt_zero, Nat.succ_ne_zero, Nat.add_one_ne_zero, Nat.add_one_sub_one, Nat.zero_le, Nat.or_zero, Nat.zero_or, Bool.not_true, Bool.not_false, Bool.true_and, Bool.false_and, Bool.and_true, Bool.and_false, ↓reduceIte, if_true, if_false, not_true_eq_false, not_false_eq_true, true_and, and_true, false_and, and_false, and_self, true_or, or_true, false_or, or_false, Nat.reduceEqDiff, Nat.reduceLT, Nat.reduceLeDiff, Nat.reduceAdd, Nat.reduceMul, Nat.reduceSub, Nat.add_zero, Nat.zero_add, Nat.mul_zero, Nat.zero_mul, ne_eq, Bool.not_eq_true, Bool.not_eq_false, reduceCtorEq, decide_true, decide_false, decide_eq_true_eq, decide_eq_false_iff_not, Bool.false_eq_true, if_pos, if_neg, mT_v, e1]
    | some u =>
      obtain ⟨hv, hul, hut⟩ := hb
      by_cases hlt : p.length + 1 < u.length
      · refine ⟨v1, a1, t1, ?_, r1, r2⟩
        rw [hv] at e1 ⊢
        simp (disch := omega) only [fLt_e, fBd_s, fJn_s, fNn_s, fNu_0, fNu_s, fBo_0, fBo_1, fBo_b, i_lit, i_neg1, nI_add, pk_mul, nI_clamp, i_le, i_lt, i_eq, fIx_n, nI_mI, mI_nI, mI_lt, nI_lt_m, mI_le, nI_le_m, xI_0, xI_s, bI_0, bI_1, bI_t, bI_f, n_31, j_bit, j_one, i_and, i_or, Nat.not_lt_zero, Nat.succ_ne_zero, Nat.add_one_ne_zero, Nat.add_one_sub_one, Nat.zero_le, Nat.or_zero, Nat.zero_or, Bool.not_true, Bool.not_false, Bool.true_and, Bool.false_and, Bool.and_true, Bool.and_false, ↓reduceIte, if_true, if_false, not_true_eq_false, not_false_eq_true, true_and, and_true, false_and, and_false, and_self, true_or, or_true, false_or, or_false, Nat.reduceEqDiff, Nat.reduceLT, Nat.reduceLeDiff, Nat.reduceAdd, Nat.reduceMul, Nat.reduceSub, Nat.add_zero, Nat.zero_add, Nat.mul_zero, Nat.zero_mul, ne_eq, Bool.not_eq_true, Bool.not_eq_false, reduceCtorEq, decide_true, decide_false, decide_eq_true_eq, decide_eq_false_iff_not, Bool.false_eq_true, if_pos, if_neg, mT_v, hlt, e1]
      · have hsk := upB_skip (wds G e (n + 1) x p) u (fun z hz => by
          have := (wds_len w e (n + 1) x p hx z hz).1
          omega)
        rw [hsk]
        refine ⟨v, a, t, ?_, ⟨hv, hul, hut⟩, hp⟩
        rw [hv]
        simp (disch := omega) only [fLt_e, fBd_s, fJn_s, fNn_s, fNu_0, fNu_s, fBo_0, fBo_1, fBo_b, i_lit, i_neg1, nI_add, pk_mul, nI_clamp, i_le, i_lt, i_eq, fIx_n, nI_mI, mI_nI, mI_lt, nI_lt_m, mI_le, nI_le_m, xI_0, xI_s, bI_0, bI_1, bI_t, bI_f, n_31, j_bit, j_one, i_and, i_or, Nat.not_lt_zero, Nat.succ_ne_zero, Nat.add_one_ne_zero, Nat.add_one_sub_one, Nat.zero_le, Nat.or_zero, Nat.zero_or, Bool.not_true, Bool.not_false, Bool.true_and, Bool.false_and, Bool.and_true, Bool.and_false, ↓reduceIte, if_true, if_false, not_true_eq_false, not_false_eq_true, true_and, and_true, false_and, and_false, and_self, true_or, or_true, false_or, or_false, Nat.reduceEqDiff, Nat.reduceLT, Nat.reduceLeDiff, Nat.reduceAdd, Nat.reduceMul, Nat.reduceSub, Nat.add_zero, Nat.zero_add, Nat.mul_zero, Nat.zero_mul, ne_eq, Bool.not_eq_true, Bool.not_eq_false, reduceCtorEq, decide_true, decide_false, decide_eq_true_eq, decide_eq_false_iff_not, Bool.false_eq_true, if_pos, if_neg, mT_v, hlt]
end
