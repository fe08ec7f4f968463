/-! layer 2: the call can -/
section
variable {G : Nat → Nat}
theorem fq_37 : ∀ (L : List (Nat × Nat × Nat)) (t : qT) (a : Nat), t.1 37 = nI a → ((L.map lNc).foldl (cq G) t).1 37 = nI (L.foldl (fun a c => a ||| c.2.1) a) := by
  intro L
  induction L with
  | nil => intro t a h; exact h
  | cons c L ih =>
    intro t a h
    rw [List.map_cons, List.foldl_cons, List.foldl_cons]
    refine ih _ _ ?_
    rw [cq_1]
    show t.1 37 ||| nI c.2.1 = _
    rw [h, i_or]
theorem fq_38 : ∀ (L : List (Nat × Nat × Nat)) (t : qT) (a : Nat), t.1 38 = nI a → ((L.map lNc).foldl (cq G) t).1 38 = nI (L.foldl (fun a c => a ||| 2 ^ gsl G c.1) a) := by
  intro L
  induction L with
  | nil => intro t a h; exact h
  | cons c L ih =>
    intro t a h
    rw [List.map_cons, List.foldl_cons, List.foldl_cons]
    refine ih _ _ ?_
    rw [cq_1]
    show t.1 38 ||| nI (2 ^ gsl G c.1) = _
    rw [h, i_or]
theorem sub_over (w : gWf G) : ∀ n x, nok G x → x.1 < n → ∀ y ∈ sub G n x, ∃ z ∈ sub G n x, ovr G z = true ∧ ∀ b, y.2.1.testBit b = true → z.2.1.testBit b = true := by
  intro n
  induction n with
  | zero => intro x _ h; omega
  | succ n ih =>
    intro x hx hn y hy
    unfold sub at hy
    have hin : ∀ t ∈ cht (tsn G x) 4, ∀ z ∈ sub G n (kidn G x t), z ∈ sub G (n + 1) x := by
      intro t ht z hz
      unfold sub
      refine List.mem_cons_of_mem _ (List.mem_flatMap.mpr ⟨kidn G x t, ?_, hz⟩)
      unfold chd
      exact List.mem_map.mpr ⟨t, ht, rfl⟩
    rcases List.mem_cons.mp hy with rfl | hy
    · cases ho : ovr G y with
      | true => exact ⟨y, by unfold sub; simp, ho, fun b h => h⟩
      | false =>
        have h0 : ¬ tsn G y 0 = 0 := by
          intro h0
          have : ovr G y = true := (gov_iff _ _).mpr ⟨0, by omega, h0⟩
          rw [ho] at this
          exact absurd this (by decide)
        have ht : tsn G y 0 ∈ cht (tsn G y) 4 := (cht_iff _ _ h0 4).mpr ⟨0, by omega, rfl⟩
        obtain ⟨k1, k2⟩ := kid_ok w hx ht
        have hk : kidn G y (tsn G y 0) ∈ sub G n (kidn G y (tsn G y 0)) := by
          obtain ⟨m, rfl⟩ : ∃ m, n = m + 1 := ⟨n - 1, by omega⟩
          unfold sub
          simp
        obtain ⟨z, z1, z2, z3⟩ := ih _ k1 (by omega) _ hk
        refine ⟨z, hin _ ht z z1, z2, fun b hb => z3 b ?_⟩
        show (y.2.1 ||| 2 ^ (tsn G y 0 - 1)).testBit b = true
        rw [Nat.testBit_or, hb, Bool.true_or]
    · obtain ⟨c, hc, hy⟩ := List.mem_flatMap.mp hy
      unfold chd at hc
      obtain ⟨t, ht, rfl⟩ := List.mem_map.mp hc
      obtain ⟨k1, k2⟩ := kid_ok w hx ht
      obtain ⟨z, z1, z2, z3⟩ := ih _ k1 (by omega) y hy
      exact ⟨z, hin t ht z z1, z2, z3⟩
theorem foldor_bit {α : Type} (F : α → Nat) (b : Nat) : ∀ (L : List α) a, (L.foldl (fun a x => a ||| F x) a).testBit b = true ↔ a.testBit b = true ∨ ∃ x ∈ L, (F x).testBit b = true := by
  intro L
  induction L with
  | nil => intro a; simp
  | cons x L ih =>
    intro a
    rw [List.foldl_cons, ih, Nat.testBit_or, Bool.or_eq_true]
    simp [or_assoc]
end
section
variable {sc : fSt} {G : Nat → Nat} {Q : List nT} {f : Nat → Int32}
theorem x_canSee (R : rwk G Q f) : f_X6_canSee (rwS sc (nI Q.length) f) = some (nI (Q.foldl (fun a x => a ||| fwd G x) 0 &&& 4095), rwS sc (nI Q.length) f) := by
  have hl := R.1
  obtain ⟨m, e⟩ := lp_run (fun m (z : Int32 × Int32) => f_X6_canSee_L4 m z.1 z.2 (rwS sc (nI Q.length) f)) (fun i => (nI ((Q.take i).foldl (fun a x => a ||| fwd G x) 0), nI i)) Q.length (fun m i hi => by
    show f_X6_canSee_L4 (m + 1) (nI ((Q.take i).foldl (fun a x => a ||| fwd G x) 0)) (nI i) (rwS sc (nI Q.length) f) = f_X6_canSee_L4 m (nI ((Q.take (i + 1)).foldl (fun a x => a ||| fwd G x) 0)) (nI (i + 1)) (rwS sc (nI Q.length) f)
    obtain ⟨x, hx⟩ := get_x hi
    obtain ⟨hok, hf⟩ := R.2 i x hx
    rw [take_x hx, List.foldl_append, List.foldl_cons, List.foldl_nil, f_X6_canSee_L4]
    generalize (Q.take i).foldl (fun a x => a ||| fwd G x) 0 = a at *
    simp (disch := omega) only [fLt_e, fBd_s, fJn_s, fNn_s, fNu_0, fNu_s, fBo_0, fBo_1, fBo_b, i_lit, i_neg1, nI_add, pk_mul, nI_clamp, i_le, i_lt, i_eq, fIx_n, nI_mI, mI_nI, mI_lt, nI_lt_m, mI_le, nI_le_m, xI_0, xI_s, bI_0, bI_1, bI_t, bI_f, n_31, j_bit, j_one, i_and, i_or, Nat.not_lt_zero, Nat.succ_ne_zero, Nat.add_one_ne_zero, Nat.add_one_sub_one, Nat.zero_le, Nat.or_zero, Nat.zero_or, Bool.not_true, Bool.not_false, Bool.true_and, Bool.false_and, Bool.and_true, Bool.and_false, ↓reduceIte, if_true, if_false, not_true_eq_false, not_false_eq_true, true_and, and_true, false_and, and_false, and_self, true_or, or_true, false_or, or_false, Nat.reduceEqDiff, Nat.reduceLT, Nat.reduceLeDiff, Nat.reduceAdd, Nat.reduceMul, Nat.reduceSub, Nat.add_zero, Nat.zero_add, Nat.mul_zero, Nat.zero_mul, ne_eq, Bool.not_eq_true, Bool.not_eq_false, reduceCtorEq, decide_true, decide_false, decide_eq_true_eq, decide_eq_false_iff_not, Bool.false_eq_true, if_pos, if_neg, rwS_n, rwS_f, hf]) (fF_lt (by omega))
  unfold f_X6_canSee
  refine Eq.trans ?_ (Eq.trans e ?_)
  · rfl
  · show f_X6_canSee_L4 (m + 1) (nI ((Q.take Q.length).foldl (fun a x => a ||| fwd G x) 0)) (nI Q.length) (rwS sc (nI Q.length) f) = _
    rw [f_X6_canSee_L4, List.take_length]
    simp (disch := omega) only [fLt_e, fBd_s, fJn_s, fNn_s, fNu_0, fNu_s, fBo_0, fBo_1, fBo_b, i_lit, i_neg1, nI_add, pk_mul, nI_clamp, i_le, i_lt, i_eq, fIx_n, nI_mI, mI_nI, mI_lt, nI_lt_m, mI_le, nI_le_m, xI_0, xI_s, bI_0, bI_1, bI_t, bI_f, n_31, j_bit, j_one, i_and, i_or, Nat.not_lt_zero, Nat.succ_ne_zero, Nat.add_one_ne_zero, Nat.add_one_sub_one, Nat.zero_le, Nat.or_zero, Nat.zero_or, Bool.not_true, Bool.not_false, Bool.true_and, Bool.false_and, Bool.and_true, Bool.and_false, ↓reduceIte, if_true, if_false, not_true_eq_false, not_false_eq_true, true_and, and_true, false_and, and_false, and_self, true_or, or_true, false_or, or_false, Nat.reduceEqDiff, Nat.reduceLT, Nat.reduceLeDiff, Nat.reduceAdd, Nat.reduceMul, Nat.reduceSub, Nat.add_zero, Nat.zero_add, Nat.mul_zero, Nat.zero_mul, ne_eq, Bool.not_eq_true, Bool.not_eq_false, reduceCtorEq, decide_true, decide_false, decide_eq_true_eq, decide_eq_false_iff_not, Bool.false_eq_true, if_pos, if_neg, rwS_n]
end
