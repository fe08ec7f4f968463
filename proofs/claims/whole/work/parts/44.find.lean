/-! layer 2: the class's findAll lists the rows of the tree -/
def rtn (G : Nat → Nat) : nT := (G 2 - 1, 2 ^ (G 2 - 1), gkil G (G 2 - 1) (G 5))
def allR (G : Nat → Nat) : List nT := if gpl G (G 2) (G 5) = 0 then [] else sub G 13 (rtn G)
theorem gpl_pos {G : Nat → Nat} {g : Nat} (h0 : ¬ gpl G (G 2) g = 0) : 0 < G 2 := by
  cases hg : G 2 with
  | zero =>
    rw [hg] at h0
    exact absurd (by unfold gpl; rw [if_pos rfl]) h0
  | succ n => omega
section
variable {sc : fSt} {q : Nat} {G : Nat → Nat}
theorem rtn_ok (w : gWf G) (h : 0 < G 2) : nok G (rtn G) := by
  have w1 := w.1
  refine ⟨show G 2 - 1 < G 2 by omega, ?_, ?_, ?_, gkil_lt w (show G 2 - 1 < G 2 by omega) w.2.1.2.1⟩
  · show 2 ^ (G 2 - 1) < 2 ^ 12
    exact Nat.pow_lt_pow_right (by omega) (by omega)
  · show (2 ^ (G 2 - 1)).testBit (G 2 - 1) = true
    rw [Nat.testBit_two_pow]
    simp
  · intro j hj
    have hj : j < G 2 - 1 := hj
    show (2 ^ (G 2 - 1)).testBit j = false
    rw [Nat.testBit_two_pow]
    simp
    omega
theorem allR_len (w : gWf G) : (allR G).length ≤ 2048 := by
  have w1 := w.1
  unfold allR
  split
  · exact Nat.zero_le _
  · rename_i h
    have h2 := sub_len w 13 _ (rtn_ok w (gpl_pos h))
    have h3 : 2 ^ (rtn G).1 ≤ 2 ^ 11 := Nat.pow_le_pow_right (by omega) (show G 2 - 1 ≤ 11 by omega)
    omega
theorem sub_pos (G : Nat → Nat) (n : Nat) (x : nT) : 1 ≤ (sub G (n + 1) x).length := by
  unfold sub
  rw [List.length_cons]
  omega
theorem sub_x (w : gWf G) {x : nT} (hx : nok G x) : sub G 13 x = x :: (chd G x).flatMap (sub G 13) := by
  have w1 := w.1
  have h1 := hx.1
  show x :: (chd G x).flatMap (sub G 12) = _
  congr 1
  unfold chd
  rw [List.flatMap_map, List.flatMap_map]
  apply fm_cong
  intro t ht
  obtain ⟨k1, k2⟩ := kid_ok w hx ht
  exact sub_fuel w 12 13 _ k1 (by omega) (by omega)
theorem x_fiL48 (X : rHou sc 0 q G) (w : gWf G) {A : List nT} (hA : A.length ≤ 2048) (k13 : fSt → Option (Unit × fSt)) : ∀ r (D R : List nT) (f : Nat → Int32) n, D.length + r = A.length → r < n → (∀ x ∈ R, nok G x) → (D ++ R.flatMap (sub G 13)).Perm A →
    (∀ k x, D[k]? = some x → f k = nI (fwd G x)) → (∀ k x, R[k]? = some x → f (D.length + k) = nI (pwd x.2.1 x.2.2)) →
    ∃ (Q : List nT) (f' : Nat → Int32), f_X6_findAll_L48 0 k13 n (nI D.length) (rwS sc (nI (D.length + R.length)) f) = k13 (rwS sc (nI Q.length) f') ∧ Q.Perm A ∧ ∀ k x, Q[k]? = some x → f' k = nI (fwd G x) := by
  have w1 := w.1
  intro r
  induction r with
  | zero =>
    intro D R f n hr hn hR hp hD hRf
    obtain ⟨n, rfl⟩ : ∃ m, n = m + 1 := ⟨n - 1, by omega⟩
    have hl := hp.length_eq
    rw [List.length_append] at hl
    have hm : R.length ≤ (R.flatMap (sub G 13)).length := fm_len R (fun x _ => sub_pos G 12 x)
    have hR0 : R = [] := List.eq_nil_of_length_eq_zero (by omega)
    subst hR0
    refine ⟨D, f, ?_, by simpa using hp, hD⟩
    rw [f_X6_findAll_L48]
    simp (disch := omega) only [fLt_e, fBd_s, fJn_s, fNn_s, fNu_0, fNu_s, fBo_0, fBo_1, fBo_b, i_lit, i_neg1, nI_add, pk_mul, nI_clamp, i_le, i_lt, i_eq, fIx_n, nI_mI, mI_nI, mI_lt, nI_lt_m, mI_le, nI_le_m, xI_0, xI_s, bI_0, bI_1, bI_t, bI_f, n_31, j_bit, j_one, i_and, i_or, Nat.not_lt_zero, Nat.succ_ne_zero, Nat.add_one_ne_zero, Nat.add_one_sub_one, Nat.zero_le, Nat.or_zero, Nat.zero_or, Bool.not_true, Bool.not_false, Bool.true_and, Bool.false_and, Bool.and_true, Bool.and_false, ↓reduceIte, if_true, if_false, not_true_eq_false, not_false_eq_true, true_and, and_true, false_and, and_false, and_self, true_or, or_true, false_or, or_false, Nat.reduceEqDiff, Nat.reduceLT, Nat.reduceLeDiff, Nat.reduceAdd, Nat.reduceMul, Nat.reduceSub, Nat.add_zero, Nat.zero_add, Nat.mul_zero, Nat.zero_mul, ne_eq, Bool.not_eq_true, Bool.not_eq_false, reduceCtorEq, decide_true, decide_false, decide_eq_true_eq, decide_eq_false_iff_not, Bool.false_eq_true, if_pos, if_neg, List.length_nil, rwS_n]
  | succ r ih =>
    intro D R f n hr hn hR hp hD hRf
    obtain ⟨n, rfl⟩ : ∃ m, n = m + 1 := ⟨n - 1, by omega⟩
    cases R with
    | nil =>
      have hl := hp.length_eq
      simp at hl
      omega
    | cons x R =>
      have hx := hR x (by simp)
      have hx0 := hx
      obtain ⟨a1, a2, a3, a4, a5⟩ := hx0
      have hp2 : ((D ++ [x]) ++ (R ++ chd G x).flatMap (sub G 13)).Perm A := by
        refine List.Perm.trans ?_ hp
        rw [List.flatMap_cons, sub_x w hx, List.flatMap_append, List.append_assoc]
        refine List.Perm.append_left D ?_
        rw [List.singleton_append, List.cons_append]
        exact List.Perm.cons _ List.perm_append_comm
      have hl := hp2.length_eq
      rw [List.length_append, List.length_append, List.length_singleton] at hl
      have hm : (R ++ chd G x).length ≤ ((R ++ chd G x).flatMap (sub G 13)).length := fm_len (R ++ chd G x) (fun y _ => sub_pos G 12 y)
      rw [List.length_append] at hm
      have hbd : D.length + (R.length + 1) ≤ 2048 := by omega
      have hcl : (chd G x).length = (cht (tsn G x) 4).length := by unfold chd; rw [List.length_map]
      have hgo := x_goOn X w (se := x.2.1) (s := x.1) (g := x.2.2) (c := D.length + (x :: R).length) (i := D.length) a1 a2 a3 a4 a5 (by rw [List.length_cons]; omega) (f := f) (by
        show D.length + (x :: R).length + (cht (tsn G x) 4).length ≤ 2048
        rw [List.length_cons]
        omega) (by
        have := hRf 0 x (by simp)
        rw [Nat.add_zero] at this
        exact this)
      obtain ⟨b1, b2, b3⟩ := frw_f (G := G) x (D.length + (x :: R).length) D.length f (by rw [List.length_cons]; omega) 4
      have hkid : ∀ y ∈ R ++ chd G x, nok G y := by
        intro y hy
        rcases List.mem_append.mp hy with hy | hy
        · exact hR y (by simp [hy])
        · unfold chd at hy
          obtain ⟨t, ht, rfl⟩ := List.mem_map.mp hy
          exact (kid_ok w hx ht).1
      obtain ⟨Q, f', e, q1, q2⟩ := ih (D ++ [x]) (R ++ chd G x) (frw G (tsn G x) x.2.1 x.2.2 (D.length + (x :: R).length) D.length f 4) n (by rw [List.length_append, List.length_singleton]; omega) (by omega) hkid hp2 (by
        intro k y h
        by_cases hk : k < D.length
        · rw [List.getElem?_append_left hk] at h
          rw [b2 k (by omega) (by omega)]
          exact hD k y h
        · rw [List.getElem?_append_right (by omega)] at h
          by_cases hk2 : k = D.length
          · subst hk2
            rw [Nat.sub_self] at h
            simp at h
            subst h
            rw [b1]
            rfl
          · obtain ⟨j, hj⟩ : ∃ j, k - D.length = j + 1 := ⟨k - D.length - 1, by omega⟩
            rw [hj] at h
            simp at h) (by
        intro k y h
        rw [List.length_append, List.length_singleton]
        by_cases hk : k < R.length
        · rw [List.getElem?_append_left hk] at h
          rw [b2 _ (by rw [List.length_cons]; omega) (by omega)]
          have := hRf (k + 1) y (by simpa using h)
          rw [show D.length + 1 + k = D.length + (k + 1) by omega]
          exact this
        · rw [List.getElem?_append_right (by omega)] at h
          unfold chd at h
          rw [List.getElem?_map] at h
          cases ht : (cht (tsn G x) 4)[k - R.length]? with
          | none => rw [ht] at h; simp at h
          | some t =>
            rw [ht] at h
            simp at h
            subst h
            have := b3 _ _ ht
            rw [List.length_cons] at this
            rw [List.length_cons, show D.length + 1 + k = D.length + (R.length + 1) + (k - R.length) by omega]
            exact this)
      refine ⟨Q, f', ?_, q1, q2⟩
      rw [f_X6_findAll_L48]
      rw [List.length_append, List.length_append, List.length_singleton, hcl] at e
      rw [List.length_cons] at hgo e ⊢
      rw [show D.length + 1 + (R.length + (cht (tsn G x) 4).length) = D.length + (R.length + 1) + (cht (tsn G x) 4).length by omega] at e
      simp (disch := omega) only [fLt_e, fBd_s, fJn_s, fNn_s, fNu_0, fNu_s, fBo_0, fBo_1, fBo_b, i_lit, i_neg1, nI_add, pk_mul, nI_clamp, i_le, i_lt, i_eq, fIx_n, nI_mI, mI_nI, mI_lt, nI_lt_m, mI_le, nI_le_m, xI_0, xI_s, bI_0, bI_1, bI_t, bI_f, n_31, j_bit, j_one, i_and, i_or, Nat.not_lt_zero, Nat.succ_ne_zero, Nat.add_one_ne_zero, Nat.add_one_sub_one, Nat.zero_le, Nat.or_zero, Nat.zero_or, Bool.not_true, Bool.not_false, Bool.true_and, Bool.false_and, Bool.and_true, Bool.and_false, ↓reduceIte, if_true, if_false, not_true_eq_false, not_false_eq_true, true_and, and_true, false_and, and_false, and_self, true_or, or_true, false_or, or_false, Nat.reduceEqDiff, Nat.reduceLT, Nat.reduceLeDiff, Nat.reduceAdd, Nat.reduceMul, Nat.reduceSub, Nat.add_zero, Nat.zero_add, Nat.mul_zero, Nat.zero_mul, ne_eq, Bool.not_eq_true, Bool.not_eq_false, reduceCtorEq, decide_true, decide_false, decide_eq_true_eq, decide_eq_false_iff_not, Bool.false_eq_true, if_pos, if_neg, rwS_n, hgo]
      exact e
def opn (G : Nat → Nat) : Nat := if gpl G (G 2) (G 5) = 0 then 0 else 2 ^ (G 2 - 1)
theorem x_findAll (X : rHou sc 0 q G) (w : gWf G) : ∃ (Q : List nT) (f' : Nat → Int32), f_X6_findAll 0 sc = some ((), rwS (sI sc 6 0 3 (nI (opn G))) (nI Q.length) f') ∧ Q.Perm (allR G) ∧ ∀ k x, Q[k]? = some x → f' k = nI (fwd G x) := by
  have w1 := w.1
  have w2 := w.2.1
  have hA := allR_len w
  have h5 : gI (sI sc 6 0 2 (nI 0)) 2 0 3 = nI (G 5) := X.2.2.1.2
  have h6 : ∀ v, gI (sI (sI sc 6 0 2 (nI 0)) 6 0 3 v) 2 0 3 = nI (G 5) := fun v => X.2.2.1.2
  have ho : f_X2_opening 0 (nI (G 5)) (sI sc 6 0 2 (nI 0)) = some (xI (gpl G (G 2) (G 5)), sI sc 6 0 2 (nI 0)) := x_opening (sc := sI sc 6 0 2 (nI 0)) X w w2.2.1
  have hst : ∀ v, sI (sI sc 6 0 2 (nI 0)) 6 0 3 v = rwS (sI sc 6 0 3 v) (nI 0) (gA sc 6 0 1) := by
    intro v
    apply st_ext
    · intro c i k
      simp only [rwS, gI_sI, gI_sA]
      by_cases h : c = 6 ∧ i = 0
      · simp only [h, true_and]
        by_cases h2 : k = 2
        · subst h2; simp
        · simp only [h2, if_false]
      · simp only [← and_assoc, h, false_and, if_false]
    · intro c i k; rfl
    · intro c i k
      simp only [rwS, gA_sI, gA_sA]
      split
      · rename_i h
        rw [h.1, h.2.1, h.2.2]
      · rfl
    · intro c i k; rfl
    · intro c i k; rfl
  unfold f_X6_findAll opn
  by_cases h0 : gpl G (G 2) (G 5) = 0
  · have hA0 : allR G = [] := if_pos h0
    rw [h0] at ho
    obtain ⟨Q, f', e, q1, q2⟩ := x_fiL48 (sc := sI sc 6 0 3 (nI 0)) X w (A := []) (by simp) (fun s12 => some ((), s12)) 0 [] [] (gA sc 6 0 1) fF rfl (fF_lt (by omega)) (by simp) (by simp) (by simp) (by simp)
    refine ⟨Q, f', ?_, by rw [hA0]; exact q1, q2⟩
    simp (disch := omega) only [fLt_e, fBd_s, fJn_s, fNn_s, fNu_0, fNu_s, fBo_0, fBo_1, fBo_b, i_lit, i_neg1, nI_add, pk_mul, nI_clamp, i_le, i_lt, i_eq, fIx_n, nI_mI, mI_nI, mI_lt, nI_lt_m, mI_le, nI_le_m, xI_0, xI_s, bI_0, bI_1, bI_t, bI_f, n_31, j_bit, j_one, i_and, i_or, Nat.not_lt_zero, Nat.succ_ne_zero, Nat.add_one_ne_zero, Nat.add_one_sub_one, Nat.zero_le, Nat.or_zero, Nat.zero_or, Bool.not_true, Bool.not_false, Bool.true_and, Bool.false_and, Bool.and_true, Bool.and_false, ↓reduceIte, if_true, if_false, not_true_eq_false, not_false_eq_true, true_and, and_true, false_and, and_false, and_self, true_or, or_true, false_or, or_false, Nat.reduceEqDiff, Nat.reduceLT, Nat.reduceLeDiff, Nat.reduceAdd, Nat.reduceMul, Nat.reduceSub, Nat.add_zero, Nat.zero_add, Nat.mul_zero, Nat.zero_mul, ne_eq, Bool.not_eq_true, Bool.not_eq_false, reduceCtorEq, decide_true, decide_false, decide_eq_true_eq, decide_eq_false_iff_not, Bool.false_eq_true, if_pos, if_neg, h0, h5, h6, ho, hst]
    exact e
  · have hf := gpl_full h0
    have hp := gpl_pos h0
    obtain ⟨s, hs⟩ : ∃ s, G 2 = s + 1 := ⟨G 2 - 1, by omega⟩
    have hA1 : allR G = sub G 13 (rtn G) := if_neg h0
    rw [hf] at ho
    rw [hs] at ho
    have had := x_add (sc := sI sc 6 0 3 (nI (2 ^ s))) X w (show s < G 2 by omega) (show 0 < 4096 by omega) w2.2.1 (show 0 < 2048 by omega) (gA sc 6 0 1)
    obtain ⟨Q, f', e, q1, q2⟩ := x_fiL48 (sc := sI sc 6 0 3 (nI (2 ^ s))) X w hA (fun s12 => some ((), s12)) (allR G).length [] [rtn G] (upd (gA sc 6 0 1) 0 (nI (pwd (0 ||| 2 ^ s) (gkil G s (G 5))))) fF (by simp) (fF_lt (by omega)) (by
      intro x hx
      rw [List.mem_singleton] at hx
      rw [hx]
      exact rtn_ok w hp) (by rw [hA1]; simp) (by simp) (by
      intro k x h
      cases k with
      | zero =>
        simp at h
        subst h
        show upd (gA sc 6 0 1) 0 (nI (pwd (0 ||| 2 ^ s) (gkil G s (G 5)))) 0 = nI (pwd (2 ^ (G 2 - 1)) (gkil G (G 2 - 1) (G 5)))
        rw [upd_at, if_pos rfl, Nat.zero_or, hs, Nat.add_sub_cancel]
      | succ k => simp at h)
    have hsz : ∀ v, gI (rwS (sI sc 6 0 3 v) (nI 0) (gA sc 6 0 1)) 2 0 3 = nI (G 5) := fun v => X.2.2.1.2
    refine ⟨Q, f', ?_, q1, q2⟩
    rw [if_neg h0, hs, Nat.add_sub_cancel]
    simp (disch := omega) only [fLt_e, fBd_s, fJn_s, fNn_s, fNu_0, fNu_s, fBo_0, fBo_1, fBo_b, i_lit, i_neg1, nI_add, pk_mul, nI_clamp, i_le, i_lt, i_eq, fIx_n, nI_mI, mI_nI, mI_lt, nI_lt_m, mI_le, nI_le_m, xI_0, xI_s, bI_0, bI_1, bI_t, bI_f, n_31, j_bit, j_one, i_and, i_or, Nat.not_lt_zero, Nat.succ_ne_zero, Nat.add_one_ne_zero, Nat.add_one_sub_one, Nat.zero_le, Nat.or_zero, Nat.zero_or, Bool.not_true, Bool.not_false, Bool.true_and, Bool.false_and, Bool.and_true, Bool.and_false, ↓reduceIte, if_true, if_false, not_true_eq_false, not_false_eq_true, true_and, and_true, false_and, and_false, and_self, true_or, or_true, false_or, or_false, Nat.reduceEqDiff, Nat.reduceLT, Nat.reduceLeDiff, Nat.reduceAdd, Nat.reduceMul, Nat.reduceSub, Nat.add_zero, Nat.zero_add, Nat.mul_zero, Nat.zero_mul, ne_eq, Bool.not_eq_true, Bool.not_eq_false, reduceCtorEq, decide_true, decide_false, decide_eq_true_eq, decide_eq_false_iff_not, Bool.false_eq_true, if_pos, if_neg, h5, h6, hsz, ho, hst, had]
    rw [Nat.zero_or] at e
    exact e
end
