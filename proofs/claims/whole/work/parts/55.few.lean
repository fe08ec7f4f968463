/-! layer 2: the call fewest -/
section
variable {G : Nat → Nat}
def nP (G : Nat → Nat) (x : Nat) : Prop := ∃ c, c ∈ gCu G 0 ∧ c.2.1 = x
def csn (G : Nat → Nat) : Nat := (gCu G 0).foldl (fun a c => a ||| c.2.1) 0
theorem ovP_nP (w : gWf G) {Q : List nT} (h : Q.Perm (allR G)) : ovP G Q = nP G := by
  have hP := (ovl_perm h).trans (all_perm w (kp := 0))
  funext x
  apply propext
  constructor
  · rintro ⟨y, h1, h2, h3⟩
    have hm : pr2 y ∈ ovl G Q := by
      unfold ovl
      exact List.mem_map.mpr ⟨y, List.mem_filter.mpr ⟨h1, h2⟩, rfl⟩
    obtain ⟨c, c1, c2⟩ := List.mem_map.mp (hP.mem_iff.mp hm)
    have c3 : c.2.1 = y.2.1 := congrArg Prod.snd c2
    exact ⟨c, c1, by rw [c3]; exact h3⟩
  · rintro ⟨c, c1, c2⟩
    have hm := hP.mem_iff.mpr (List.mem_map.mpr ⟨c, c1, rfl⟩)
    unfold ovl at hm
    obtain ⟨y, y1, y2⟩ := List.mem_map.mp hm
    obtain ⟨y3, y4⟩ := List.mem_filter.mp y1
    have y5 : y.2.1 = c.2.1 := congrArg Prod.snd y2
    exact ⟨y, y3, y4, by rw [y5]; exact c2⟩
theorem cq_11 (c : cT) (u : qT) : ∀ n, (rng (cq2 G c) n u).2.2.2.1 = u.2.2.2.1 := by
  intro n
  induction n with
  | zero => rfl
  | succ n ih =>
    rw [rng_s]
    unfold cq2
    split
    · exact ih
    · exact ih
theorem fq_11 (x : Nat) : ∀ (L : List (Nat × Nat × Nat)) (t : qT), (((∃ c, c ∈ L ∧ c.2.1 = x) ∨ t.2.2.2.1 x = nI 1) → ((L.map lNc).foldl (cq G) t).2.2.2.1 x = nI 1) ∧ ((¬ ∃ c, c ∈ L ∧ c.2.1 = x) → ((L.map lNc).foldl (cq G) t).2.2.2.1 x = t.2.2.2.1 x) := by
  intro L
  induction L with
  | nil =>
    intro t
    refine ⟨?_, fun _ => rfl⟩
    rintro (⟨c, h, -⟩ | h)
    · exact absurd h (by simp)
    · exact h
  | cons d L ih =>
    intro t
    have hu : (cq G t (lNc d)).2.2.2.1 x = if x = d.2.1 then nI 1 else t.2.2.2.1 x := by
      unfold cq
      rw [cq_11]
      rfl
    obtain ⟨i1, i2⟩ := ih (cq G t (lNc d))
    rw [List.map_cons, List.foldl_cons]
    constructor
    · rintro (⟨c, h, hc⟩ | h)
      · rcases List.mem_cons.mp h with rfl | h
        · exact i1 (Or.inr (by rw [hu, if_pos hc.symm]))
        · exact i1 (Or.inl ⟨c, h, hc⟩)
      · refine i1 (Or.inr ?_)
        rw [hu]
        split
        · rfl
        · exact h
    · intro h
      rw [i2 (fun ⟨c, hc, hx⟩ => h ⟨c, List.mem_cons_of_mem _ hc, hx⟩), hu, if_neg]
      intro hx
      exact h ⟨d, List.mem_cons_self, hx.symm⟩
theorem sub_bits : ∀ n x y, y ∈ sub G n x → ∀ b, x.2.1.testBit b = true → y.2.1.testBit b = true := by
  intro n
  induction n with
  | zero => intro x y h; exact absurd h (by simp [sub])
  | succ n ih =>
    intro x y h b hb
    unfold sub at h
    rcases List.mem_cons.mp h with rfl | h
    · exact hb
    · obtain ⟨z, hz, hy⟩ := List.mem_flatMap.mp h
      unfold chd at hz
      obtain ⟨t, ht, rfl⟩ := List.mem_map.mp hz
      refine ih _ y hy b ?_
      show (x.2.1 ||| 2 ^ (t - 1)).testBit b = true
      rw [Nat.testBit_or, hb, Bool.true_or]
theorem sub_hi (w : gWf G) (m : Nat) : ∀ n x, nok G x → x.1 < m → x.2.1 < 2 ^ m → ∀ y ∈ sub G n x, y.2.1 < 2 ^ m := by
  intro n
  induction n with
  | zero => intro x _ _ _ y h; exact absurd h (by simp [sub])
  | succ n ih =>
    intro x hx h1 h2 y h
    unfold sub at h
    rcases List.mem_cons.mp h with rfl | h
    · exact h2
    · obtain ⟨z, hz, hy⟩ := List.mem_flatMap.mp h
      unfold chd at hz
      obtain ⟨t, ht, rfl⟩ := List.mem_map.mp hz
      obtain ⟨k1, k2⟩ := kid_ok w hx ht
      refine ih _ k1 (by omega) ?_ y hy
      have k3 : t - 1 < x.1 := k2
      exact Nat.or_lt_two_pow h2 (Nat.pow_lt_pow_right (by omega) (by omega))
/-- what the nights of a theatre that can open look like -/
theorem nP_facts (w : gWf G) (h0 : ¬ gpl G (G 2) (G 5) = 0) {Q : List nT} (h : Q.Perm (allR G)) : (∀ x, ovP G Q x → x < 2 ^ G 2 ∧ x.testBit (G 2 - 1) = true) ∧ (∃ x, ovP G Q x) ∧ (∀ i, (csn G).testBit i = true ↔ ∃ x, ovP G Q x ∧ x.testBit i = true) := by
  have hp := gpl_pos h0
  have hA : allR G = sub G 13 (rtn G) := if_neg h0
  have hk := rtn_ok w hp
  have w1 := w.1
  refine ⟨?_, ?_, ?_⟩
  · rintro x ⟨y, h1, h2, rfl⟩
    have hy := h.mem_iff.mp h1
    rw [hA] at hy
    refine ⟨sub_hi w (G 2) 13 _ hk hk.1 ?_ y hy, sub_bits 13 _ y hy _ hk.2.2.1⟩
    exact Nat.pow_lt_pow_right (by omega) (show G 2 - 1 < G 2 by omega)
  · have hroot : rtn G ∈ sub G 13 (rtn G) := by
      unfold sub
      simp
    obtain ⟨z, z1, z2, -⟩ := sub_over w 13 _ hk (show G 2 - 1 < 13 by omega) _ hroot
    rw [← hA] at z1
    exact ⟨z.2.1, z, h.mem_iff.mpr z1, z2, rfl⟩
  · intro i
    have k := foldor_bit (fun c : Nat × Nat × Nat => c.2.1) i (gCu G 0) 0
    unfold csn
    rw [k, Nat.zero_testBit, ovP_nP w h]
    constructor
    · rintro (h | ⟨c, c1, c2⟩)
      · exact absurd h (by decide)
      · exact ⟨c.2.1, ⟨c, c1, rfl⟩, c2⟩
    · rintro ⟨x, ⟨c, c1, rfl⟩, c2⟩
      exact Or.inr ⟨c, c1, c2⟩
theorem cEq_lw (sc : fSt) (v n : Int32) (f L : Nat → Int32) : cEq sc (lwS (sI sc 6 0 3 v) n f L) := ⟨fun c hc i k => by rcases hc with rfl | rfl | rfl | rfl | rfl <;> exact ⟨rfl, rfl, rfl, rfl, rfl⟩, rfl, rfl, ⟨rfl, rfl, rfl⟩, ⟨rfl, rfl, rfl, rfl, rfl, rfl⟩, rfl, rfl, rfl, rfl, rfl, rfl, rfl⟩
theorem x_few {sc : fSt} {Q : List nT} {f : Nat → Int32} (w : gWf G) (h0 : ¬ gpl G (G 2) (G 5) = 0) (R : rwk G Q f) (h : Q.Perm (allR G)) :
    ∃ s' r, f_X6_fewestForAll (rwS (sI sc 6 0 3 (nI (opn G))) (nI Q.length) f) = some (nI r, s') ∧ cEq sc s' ∧ r ≤ 12 ∧ leastN (ovP G Q) (csn G) r := by
  obtain ⟨f1, ⟨x0, hx0⟩, f3⟩ := nP_facts w h0 h
  have hp := gpl_pos h0
  have w1 := w.1
  have hop : opn G = 2 ^ (G 2 - 1) := if_neg h0
  have hc := x_canSee (sc := sI sc 6 0 3 (nI (opn G))) R
  rw [cs_eq w h] at hc
  have hc : f_X6_canSee (rwS (sI sc 6 0 3 (nI (opn G))) (nI Q.length) f) = some (nI (csn G), rwS (sI sc 6 0 3 (nI (opn G))) (nI Q.length) f) := hc
  have h3 : gI (rwS (sI sc 6 0 3 (nI (opn G))) (nI Q.length) f) 6 0 3 = nI (opn G) := rfl
  have hcs1 : (csn G).testBit (G 2 - 1) = true := (f3 _).mpr ⟨x0, hx0, (f1 x0 hx0).2⟩
  have hsub : ∀ x, ovP G Q x → ∀ i, x.testBit i = true → (csn G).testBit i = true := fun x hx i hi => (f3 i).mpr ⟨x, hx, hi⟩
  have hhi : ∀ i, (csn G).testBit i = true → i < G 2 := by
    intro i hi
    obtain ⟨x, x1, x2⟩ := (f3 i).mp hi
    exact bit_lt (f1 x x1).1 x2
  have hdb : ∀ i, (dif (csn G) (opn G)).testBit i = true ↔ (csn G).testBit i = true ∧ ¬ i = G 2 - 1 := by
    intro i
    rw [dif_bit, hop, Nat.testBit_two_pow, Bool.and_eq_true]
    constructor
    · rintro ⟨h1, h2⟩
      refine ⟨h1, fun e => ?_⟩
      rw [e] at h2
      simp at h2
    · rintro ⟨h1, h2⟩
      refine ⟨h1, ?_⟩
      rw [decide_eq_false (fun e => h2 e.symm)]
      rfl
  have hall : dif (csn G) (opn G) < 2 ^ 11 := by
    apply Nat.lt_pow_two_of_testBit
    intro i hi
    cases hb : (dif (csn G) (opn G)).testBit i with
    | false => rfl
    | true =>
      obtain ⟨h1, h2⟩ := (hdb i).mp hb
      have := hhi i h1
      omega
  by_cases hz : dif (csn G) (opn G) = 0
  · have hone : ∀ i, (csn G).testBit i = true → i = G 2 - 1 := by
      intro i hi
      refine Classical.byContradiction (fun hne => ?_)
      have := (hdb i).mpr ⟨hi, hne⟩
      rw [hz, Nat.zero_testBit] at this
      exact absurd this (by decide)
    refine ⟨rwS (sI sc 6 0 3 (nI (opn G))) (nI Q.length) f, 1, ?_, cEq_rw sc _ _ _, by omega, ?_, ?_⟩
    · unfold f_X6_fewestForAll
      have hz' : csn G ^^^ (csn G &&& opn G) = 0 := hz
      simp (disch := omega) only [fLt_e, fBd_s, fJn_s, fNn_s, fNu_0, fNu_s, fBo_0, fBo_1, fBo_b, i_lit, i_neg1, nI_add, pk_mul, nI_clamp, i_le, i_lt, i_eq, fIx_n, nI_mI, mI_nI, mI_lt, nI_lt_m, mI_le, nI_le_m, xI_0, xI_s, bI_0, bI_1, bI_t, bI_f, n_31, j_bit, j_one, i_and, i_or, Nat.not_lt_zero, Nat.succ_ne_zero, Nat.add_one_ne_zero, Nat.add_one_sub_one, Nat.zero_le, Nat.or_zero, Nat.zero_or, Bool.not_true, Bool.not_false, Bool.true_and, Bool.false_and, Bool.and_true, Bool.and_false, ↓reduceIte, if_true, if_false, not_true_eq_false, not_false_eq_true, true_and, and_true, false_and, and_false, and_self, true_or, or_true, false_or, or_false, Nat.reduceEqDiff, Nat.reduceLT, Nat.reduceLeDiff, Nat.reduceAdd, Nat.reduceMul, Nat.reduceSub, Nat.add_zero, Nat.zero_add, Nat.mul_zero, Nat.zero_mul, ne_eq, Bool.not_eq_true, Bool.not_eq_false, reduceCtorEq, decide_true, decide_false, decide_eq_true_eq, decide_eq_false_iff_not, Bool.false_eq_true, if_pos, if_neg, hc, h3, i_andn, hz']
    · refine ⟨0, x0, rfl, hx0, ?_⟩
      rw [Nat.zero_or]
      apply Nat.eq_of_testBit_eq
      intro i
      rw [Bool.eq_iff_iff]
      constructor
      · intro hi
        rw [hone i hi]
        exact (f1 x0 hx0).2
      · exact hsub x0 hx0 i
    · intro k hk
      cases k with
      | zero =>
        have hk : csn G = 0 := hk
        rw [hk, Nat.zero_testBit] at hcs1
        exact absurd hcs1 (by decide)
      | succ k => omega
  · have hzl : dif (csn G) (opn G) < 2 ^ 31 := by omega
    have hL0 : lrel 2048 (upd (fun e => if e < 2048 then nI 12 else gA (rwS (sI sc 6 0 3 (nI (opn G))) (nI Q.length) f) 6 0 2 e) (dif (csn G) (opn G)) (nI 0)) (fun k => if k = dif (csn G) (opn G) then 0 else 12) := by
      refine lrel_u (l := fun _ => 12) ?_ _ _
      intro k hk
      dsimp only
      rw [if_pos hk]
    obtain ⟨L', r, e, r1, r2⟩ := x_fewL36 (sc := sI sc 6 0 3 (nI (opn G))) R (all := dif (csn G) (opn G)) (C := fun n0 => ∃ v, un (ovP G Q) n0 v ∧ ∀ i, (dif (csn G) (opn G)).testBit i = true → v.testBit i = true) (by omega) (dif (csn G) (opn G)) fF _ _ (fF_lt (by omega)) (by omega) hL0 (by
      intro k
      split <;> omega) (by
      intro u hu
      split at hu
      · rename_i hk
        rw [if_pos hk]
        refine ⟨0, rfl, ?_⟩
        rw [hk]
        unfold dif
        simp
      · omega) (by
      rintro n0 ⟨v, v1, v2⟩
      refine ⟨dif (csn G) (opn G), n0, v, Nat.le_refl _, v1, v2, ?_⟩
      rw [if_pos rfl]
      omega)
    obtain ⟨k0, v0, c1, c2, c3⟩ := un_cov (ovP G Q) (dif (csn G) (opn G)) 11 (by
      intro i _ hi
      exact (f3 i).mp ((hdb i).mp hi).1)
    have hr11 : r ≤ 11 := by
      have := r1 k0 ⟨v0, c2, fun i hi => c3 i (bit_lt hall hi) hi⟩
      omega
    obtain ⟨v, v1, v2⟩ := r2 (by omega)
    have hav : ∀ i, (dif (csn G) (opn G)).testBit i = true → v.testBit i = true := by
      intro i hi
      have : (dif (dif (csn G) (opn G)) v).testBit i = false := by rw [← v2, Nat.zero_testBit]
      rw [dif_bit, hi, Bool.true_and] at this
      cases hv : v.testBit i with
      | true => rfl
      | false => rw [hv] at this; exact absurd this (by decide)
    refine ⟨lwS (sI sc 6 0 3 (nI (opn G))) (nI Q.length) f L', r, ?_, cEq_lw sc _ _ _ _, by omega, ?_, ?_⟩
    · unfold f_X6_fewestForAll
      have hz' : csn G ^^^ (csn G &&& opn G) = dif (csn G) (opn G) := rfl
      have hfi := fun st => x_fillI st 6 0 2 2048 (nI 12) (by omega)
      simp (disch := omega) only [fLt_e, fBd_s, fJn_s, fNn_s, fNu_0, fNu_s, fBo_0, fBo_1, fBo_b, i_lit, i_neg1, nI_add, pk_mul, nI_clamp, i_le, i_lt, i_eq, fIx_n, nI_mI, mI_nI, mI_lt, nI_lt_m, mI_le, nI_le_m, xI_0, xI_s, bI_0, bI_1, bI_t, bI_f, n_31, j_bit, j_one, i_and, i_or, Nat.not_lt_zero, Nat.succ_ne_zero, Nat.add_one_ne_zero, Nat.add_one_sub_one, Nat.zero_le, Nat.or_zero, Nat.zero_or, Bool.not_true, Bool.not_false, Bool.true_and, Bool.false_and, Bool.and_true, Bool.and_false, ↓reduceIte, if_true, if_false, not_true_eq_false, not_false_eq_true, true_and, and_true, false_and, and_false, and_self, true_or, or_true, false_or, or_false, Nat.reduceEqDiff, Nat.reduceLT, Nat.reduceLeDiff, Nat.reduceAdd, Nat.reduceMul, Nat.reduceSub, Nat.add_zero, Nat.zero_add, Nat.mul_zero, Nat.zero_mul, ne_eq, Bool.not_eq_true, Bool.not_eq_false, reduceCtorEq, decide_true, decide_false, decide_eq_true_eq, decide_eq_false_iff_not, Bool.false_eq_true, if_pos, if_neg, hc, h3, i_andn, hz', hz, hfi, lwS_of, lwS_L, lwS_s]
      exact e
    · cases r with
      | zero =>
        have hv0 : v = 0 := v1
        obtain ⟨s, s1, -⟩ := low_ex _ (dif (csn G) (opn G)) (Nat.lt_succ_self _) (by omega)
        have := hav s s1
        rw [hv0, Nat.zero_testBit] at this
        exact absurd this (by decide)
      | succ r =>
        have hvc : v = csn G := by
          apply Nat.eq_of_testBit_eq
          intro i
          rw [Bool.eq_iff_iff]
          constructor
          · exact un_sub _ _ hsub _ v v1 i
          · intro hi
            by_cases hf : i = G 2 - 1
            · obtain ⟨v', x, t1, t2, t3⟩ := v1
              rw [hf, t3, Nat.testBit_or, (f1 x t2).2, Bool.or_true]
            · exact hav i ((hdb i).mpr ⟨hi, hf⟩)
        rw [← hvc]
        exact v1
    · intro k hk
      exact r1 k ⟨csn G, hk, fun i hi => ((hdb i).mp hi).1⟩
end
theorem call_fewest : CALL f_X11_fewest f_X12_fewest := by
  intro sc sm ⟨hA, H⟩
  have H := pro_x H
  have z := pro_0 sm
  unfold f_X11_fewest f_X12_fewest
  simp only [fLt_e, pro_eq]
  generalize pro sm = s2 at *
  obtain ⟨q, G, w, X, B, -⟩ := RX_cur H
  have w1 := w.1
  have x1 := x_canOpen X w
  have m1 := m_isDark B w
  by_cases h0 : gpl G (G 2) (G 5) = 0
  · rw [decide_eq_false (by simp [h0])] at x1
    rw [decide_eq_true h0] at m1
    simp (disch := omega) only [fLt_e, fBd_s, fJn_s, fNn_s, fNu_0, fNu_s, fBo_0, fBo_1, fBo_b, i_lit, i_neg1, nI_add, pk_mul, nI_clamp, i_le, i_lt, i_eq, fIx_n, nI_mI, mI_nI, mI_lt, nI_lt_m, mI_le, nI_le_m, xI_0, xI_s, bI_0, bI_1, bI_t, bI_f, n_31, j_bit, j_one, i_and, i_or, Nat.not_lt_zero, Nat.succ_ne_zero, Nat.add_one_ne_zero, Nat.add_one_sub_one, Nat.zero_le, Nat.or_zero, Nat.zero_or, Bool.not_true, Bool.not_false, Bool.true_and, Bool.false_and, Bool.and_true, Bool.and_false, ↓reduceIte, if_true, if_false, not_true_eq_false, not_false_eq_true, true_and, and_true, false_and, and_false, and_self, true_or, or_true, false_or, or_false, Nat.reduceEqDiff, Nat.reduceLT, Nat.reduceLeDiff, Nat.reduceAdd, Nat.reduceMul, Nat.reduceSub, Nat.add_zero, Nat.zero_add, Nat.mul_zero, Nat.zero_mul, ne_eq, Bool.not_eq_true, Bool.not_eq_false, reduceCtorEq, decide_true, decide_false, decide_eq_true_eq, decide_eq_false_iff_not, Bool.false_eq_true, if_pos, if_neg, x1, m1, f_X11_fail, f_X12_refuse]
    exact ⟨_, _, _, rfl, rfl, fin_st H _⟩
  · rw [decide_eq_true h0] at x1
    rw [decide_eq_false h0] at m1
    obtain ⟨Q, f, e, q1, q2⟩ := x_findAll X w
    have R := rwk_of w q1 q2
    have hg := m_goAll B w (kp := 0) (by omega)
    rw [xI_0] at hg
    obtain ⟨s', r, e2, hce, hr, hl⟩ := x_few (sc := sc) w h0 R q1
    obtain ⟨f1, -, f3⟩ := nP_facts w h0 q1
    have hP4 : ∀ x, ovP G Q x → x < 4096 := by
      intro x hx
      have h1 := (f1 x hx).1
      have h2 : 2 ^ G 2 ≤ 2 ^ 12 := Nat.pow_le_pow_right (by omega) (by omega)
      omega
    have hcs : csn G < 2 ^ 12 := by
      apply Nat.lt_pow_two_of_testBit
      intro i hi
      cases hb : (csn G).testBit i with
      | false => rfl
      | true =>
        obtain ⟨x, k1, k2⟩ := (f3 i).mp hb
        have := bit_lt (show x < 2 ^ 12 from hP4 x k1) k2
        omega
    have h37 := fq_37 (G := G) (gCu G 0) (qZ s2) 0 rfl
    have hm37 : gI (gQ s2 (((gCu G 0).map lNc).foldl (cq G) (qZ s2))) 12 0 37 = nI (csn G) := h37
    have hm11 : ∀ x, x < 4096 → (gA (gQ s2 (((gCu G 0).map lNc).foldl (cq G) (qZ s2))) 12 0 11 x = nI 0 ∧ ¬ ovP G Q x) ∨ (gA (gQ s2 (((gCu G 0).map lNc).foldl (cq G) (qZ s2))) 12 0 11 x = nI 1 ∧ ovP G Q x) := by
      intro x hx
      rw [gQ_rX, ovP_nP w q1]
      obtain ⟨j1, j2⟩ := fq_11 (G := G) x (gCu G 0) (qZ s2)
      by_cases hp : nP G x
      · exact Or.inr ⟨j1 (Or.inl hp), hp⟩
      · refine Or.inl ⟨?_, hp⟩
        rw [j2 hp]
        show (if x < 4096 then nI 0 else _) = nI 0
        rw [if_pos hx]
    obtain ⟨A', r', e3, hl'⟩ := m_few (st := gQ s2 (((gCu G 0).map lNc).foldl (cq G) (qZ s2))) hm37 hcs hm11 hP4 ⟨r, hr, hl.1⟩
    have hrr := leastN_eq hl hl'
    subst hrr
    simp (disch := omega) only [fLt_e, fBd_s, fJn_s, fNn_s, fNu_0, fNu_s, fBo_0, fBo_1, fBo_b, i_lit, i_neg1, nI_add, pk_mul, nI_clamp, i_le, i_lt, i_eq, fIx_n, nI_mI, mI_nI, mI_lt, nI_lt_m, mI_le, nI_le_m, xI_0, xI_s, bI_0, bI_1, bI_t, bI_f, n_31, j_bit, j_one, i_and, i_or, Nat.not_lt_zero, Nat.succ_ne_zero, Nat.add_one_ne_zero, Nat.add_one_sub_one, Nat.zero_le, Nat.or_zero, Nat.zero_or, Bool.not_true, Bool.not_false, Bool.true_and, Bool.false_and, Bool.and_true, Bool.and_false, ↓reduceIte, if_true, if_false, not_true_eq_false, not_false_eq_true, true_and, and_true, false_and, and_false, and_self, true_or, or_true, false_or, or_false, Nat.reduceEqDiff, Nat.reduceLT, Nat.reduceLeDiff, Nat.reduceAdd, Nat.reduceMul, Nat.reduceSub, Nat.add_zero, Nat.zero_add, Nat.mul_zero, Nat.zero_mul, ne_eq, Bool.not_eq_true, Bool.not_eq_false, reduceCtorEq, decide_true, decide_false, decide_eq_true_eq, decide_eq_false_iff_not, Bool.false_eq_true, if_pos, if_neg, x1, m1, e, e2, hg, e3, f_X11_answer]
    refine ⟨_, _, _, rfl, rfl, fin_0 (RX_e hce ?_ H) ?_⟩
    · exact mEq_gQ s2 _
    · exact z
