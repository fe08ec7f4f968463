/-! layer 2: unions of so many nights -/
def un (P : Nat → Prop) : Nat → Nat → Prop
  | 0, u => u = 0
  | n + 1, u => ∃ v x, un P n v ∧ P x ∧ u = v ||| x
def dif (a v : Nat) : Nat := a ^^^ (a &&& v)
theorem dif_bit (a v i : Nat) : (dif a v).testBit i = (a.testBit i && !v.testBit i) := by
  unfold dif
  rw [Nat.testBit_xor, Nat.testBit_and]
  cases a.testBit i <;> cases v.testBit i <;> rfl
theorem bits_le {a b : Nat} (h : ∀ i, a.testBit i = true → b.testBit i = true) : a ≤ b := by
  have e : a = a &&& b := by
    apply Nat.eq_of_testBit_eq
    intro i
    rw [Nat.testBit_and]
    cases ha : a.testBit i with
    | false => rfl
    | true => rw [h i ha]; rfl
  rw [e]
  exact Nat.and_le_right
theorem dif_le (a v : Nat) : dif a v ≤ a := by
  apply bits_le
  intro i hi
  rw [dif_bit, Bool.and_eq_true] at hi
  exact hi.1
theorem dif_lt {a v b : Nat} (h1 : a.testBit b = true) (h2 : v.testBit b = true) : dif a v < a := by
  have h := dif_le a v
  refine Nat.lt_of_le_of_ne h ?_
  intro e
  have : (dif a v).testBit b = a.testBit b := by rw [e]
  rw [dif_bit, h1, h2] at this
  exact absurd this (by decide)
theorem un_split (P : Nat → Prop) : ∀ n w b, un P n w → w.testBit b = true → ∃ m x w', n = m + 1 ∧ P x ∧ x.testBit b = true ∧ un P m w' ∧ w = w' ||| x := by
  intro n
  induction n with
  | zero =>
    intro w b h hb
    have h : w = 0 := h
    rw [h, Nat.zero_testBit] at hb
    exact absurd hb (by decide)
  | succ n ih =>
    intro w b h hb
    obtain ⟨v, x, h1, h2, h3⟩ := h
    cases hx : x.testBit b with
    | true => exact ⟨n, x, v, rfl, h2, hx, h1, h3⟩
    | false =>
      rw [h3, Nat.testBit_or, hx, Bool.or_false] at hb
      obtain ⟨m, y, v', e, g1, g2, g3, g4⟩ := ih v b h1 hb
      refine ⟨n, y, v' ||| x, rfl, g1, g2, ?_, ?_⟩
      · rw [e]
        exact ⟨v', x, g3, h2, rfl⟩
      · rw [h3, g4, Nat.or_assoc, Nat.or_assoc, Nat.or_comm y]
theorem un_cov (P : Nat → Prop) (a : Nat) : ∀ m, (∀ i, i < m → a.testBit i = true → ∃ x, P x ∧ x.testBit i = true) → ∃ k v, k ≤ m ∧ un P k v ∧ ∀ i, i < m → a.testBit i = true → v.testBit i = true := by
  intro m
  induction m with
  | zero => intro _; exact ⟨0, 0, Nat.le_refl _, rfl, fun i h => absurd h (Nat.not_lt_zero i)⟩
  | succ m ih =>
    intro h
    obtain ⟨k, v, h1, h2, h3⟩ := ih (fun i hi => h i (by omega))
    cases ha : a.testBit m with
    | false =>
      refine ⟨k, v, by omega, h2, fun i hi hb => ?_⟩
      by_cases hm : i = m
      · subst hm; rw [ha] at hb; exact absurd hb (by decide)
      · exact h3 i (by omega) hb
    | true =>
      obtain ⟨x, x1, x2⟩ := h m (by omega) ha
      refine ⟨k + 1, v ||| x, by omega, ⟨v, x, h2, x1, rfl⟩, fun i hi hb => ?_⟩
      rw [Nat.testBit_or]
      by_cases hm : i = m
      · subst hm; rw [x2, Bool.or_true]
      · rw [h3 i (by omega) hb, Bool.true_or]
theorem un_sub (P : Nat → Prop) (cs : Nat) (hP : ∀ x, P x → ∀ i, x.testBit i = true → cs.testBit i = true) : ∀ n u, un P n u → ∀ i, u.testBit i = true → cs.testBit i = true := by
  intro n
  induction n with
  | zero =>
    intro u h i hi
    have h : u = 0 := h
    rw [h, Nat.zero_testBit] at hi
    exact absurd hi (by decide)
  | succ n ih =>
    intro u h i hi
    obtain ⟨v, x, h1, h2, h3⟩ := h
    rw [h3, Nat.testBit_or, Bool.or_eq_true] at hi
    rcases hi with hi | hi
    · exact ih v h1 i hi
    · exact hP x h2 i hi
theorem low_ex : ∀ n x, x < n → 0 < x → ∃ s, x.testBit s = true ∧ ∀ j, j < s → x.testBit j = false := by
  intro n
  induction n with
  | zero => intro x h; omega
  | succ n ih =>
    intro x h h0
    by_cases ho : x % 2 = 1
    · exact ⟨0, by rw [Nat.testBit_zero]; simp [ho], fun j hj => absurd hj (Nat.not_lt_zero j)⟩
    · obtain ⟨s, h1, h2⟩ := ih (x / 2) (by omega) (by omega)
      refine ⟨s + 1, by rw [Nat.testBit_succ]; exact h1, fun j hj => ?_⟩
      cases j with
      | zero => rw [Nat.testBit_zero]; simp [ho]
      | succ j => rw [Nat.testBit_succ]; exact h2 j (by omega)
theorem bit_lt {x s n : Nat} (h : x < 2 ^ n) (hb : x.testBit s = true) : s < n := by
  refine Nat.lt_of_not_le (fun hle => ?_)
  rw [Nat.testBit_lt_two_pow (Nat.lt_of_lt_of_le h (Nat.pow_le_pow_right (by omega) hle))] at hb
  exact absurd hb (by decide)
/-- the least number of nights that show all -/
def leastN (P : Nat → Prop) (cs r : Nat) : Prop := un P r cs ∧ ∀ k, un P k cs → r ≤ k
theorem leastN_eq {P : Nat → Prop} {cs r r' : Nat} (h : leastN P cs r) (h' : leastN P cs r') : r = r' := by
  have h1 := h.2 r' h'.1
  have h2 := h'.2 r h.1
  omega
def lrel (n : Nat) (L : Nat → Int32) (l : Nat → Nat) : Prop := ∀ k, k < n → L k = nI (l k)
theorem lrel_u {n : Nat} {L : Nat → Int32} {l : Nat → Nat} (h : lrel n L l) (j v : Nat) : lrel n (upd L j (nI v)) (fun k => if k = j then v else l k) := by
  intro k hk
  show (if k = j then nI v else L k) = nI (if k = j then v else l k)
  by_cases e : k = j
  · rw [if_pos e, if_pos e]
  · rw [if_neg e, if_neg e]
    exact h k hk
theorem x_fillI (st : fSt) (c i j n : Nat) (a : Int32) (hn : n < 4000) : f_J7_fill_53178 c i j n a st = some ((), sA st c i j (fun e => if e < n then a else gA st c i j e)) := by
  obtain ⟨m, e⟩ := lp_run (fun m (z : Int32 × fSt) => f_J7_fill_53178_L5 c i j n a (nI n) m z.1 z.2) (fun d => (nI d, sA st c i j (fun e => if e < d then a else gA st c i j e))) n (fun m d hd => by
    show f_J7_fill_53178_L5 c i j n a (nI n) (m + 1) (nI d) (sA st c i j (fun e => if e < d then a else gA st c i j e)) = f_J7_fill_53178_L5 c i j n a (nI n) m (nI (d + 1)) (sA st c i j (fun e => if e < d + 1 then a else gA st c i j e))
    rw [f_J7_fill_53178_L5]
    have e1 : gA (sA st c i j (fun e => if e < d then a else gA st c i j e)) c i j = fun e => if e < d then a else gA st c i j e := gA_same _ _ _ _ _
    have e2 : sA (sA st c i j (fun e => if e < d then a else gA st c i j e)) c i j (upd (fun e => if e < d then a else gA st c i j e) d a) = sA st c i j (fun e => if e < d + 1 then a else gA st c i j e) := by
      rw [sA_sA]
      congr 1
      funext e
      rw [upd_at]
      by_cases h : e = d
      · rw [if_pos h, if_pos (by omega)]
      · rw [if_neg h]
        by_cases h2 : e < d
        · rw [if_pos h2, if_pos (by omega)]
        · rw [if_neg h2, if_neg (by omega)]
    simp (disch := omega) only [fLt_e, fBd_s, fJn_s, fNn_s, fNu_0, fNu_s, fBo_0, fBo_1, fBo_b, i_lit, i_neg1, nI_add, pk_mul, nI_clamp, i_le, i_lt, i_eq, fIx_n, nI_mI, mI_nI, mI_lt, nI_lt_m, mI_le, nI_le_m, xI_0, xI_s, bI_0, bI_1, bI_t, bI_f, n_31, j_bit, j_one, i_and, i_or, Nat.not_lt_zero, Nat.succ_ne_zero, Nat.add_one_ne_zero, Nat.add_one_sub_one, Nat.zero_le, Nat.or_zero, Nat.zero_or, Bool.not_true, Bool.not_false, Bool.true_and, Bool.false_and, Bool.and_true, Bool.and_false, ↓reduceIte, if_true, if_false, not_true_eq_false, not_false_eq_true, true_and, and_true, false_and, and_false, and_self, true_or, or_true, false_or, or_false, Nat.reduceEqDiff, Nat.reduceLT, Nat.reduceLeDiff, Nat.reduceAdd, Nat.reduceMul, Nat.reduceSub, Nat.add_zero, Nat.zero_add, Nat.mul_zero, Nat.zero_mul, ne_eq, Bool.not_eq_true, Bool.not_eq_false, reduceCtorEq, decide_true, decide_false, decide_eq_true_eq, decide_eq_false_iff_not, Bool.false_eq_true, if_pos, if_neg, e1, e2]) (fF_lt (by omega))
  have e0 : sA st c i j (fun e => if e < 0 then a else gA st c i j e) = st := by
    have : (fun e => if e < 0 then a else gA st c i j e) = gA st c i j := by
      funext e
      rw [if_neg (by omega)]
    rw [this]
    apply st_ext
    · intro c' i' j'; rfl
    · intro c' i' j'; rfl
    · intro c' i' j'
      simp only [gA_sA]
      by_cases h : c' = c ∧ i' = i ∧ j' = j
      · rw [if_pos h, h.1, h.2.1, h.2.2]
      · rw [if_neg h]
    · intro c' i' j'; rfl
    · intro c' i' j'; rfl
  refine Eq.trans ?_ (Eq.trans e ?_)
  · show f_J7_fill_53178_L5 c i j n a (nI n) fF (nI 0) st = f_J7_fill_53178_L5 c i j n a (nI n) fF (nI 0) (sA st c i j (fun e => if e < 0 then a else gA st c i j e))
    rw [e0]
  · show f_J7_fill_53178_L5 c i j n a (nI n) (m + 1) (nI n) (sA st c i j (fun e => if e < n then a else gA st c i j e)) = _
    rw [f_J7_fill_53178_L5]
    simp (disch := omega) only [fLt_e, fBd_s, fJn_s, fNn_s, fNu_0, fNu_s, fBo_0, fBo_1, fBo_b, i_lit, i_neg1, nI_add, pk_mul, nI_clamp, i_le, i_lt, i_eq, fIx_n, nI_mI, mI_nI, mI_lt, nI_lt_m, mI_le, nI_le_m, xI_0, xI_s, bI_0, bI_1, bI_t, bI_f, n_31, j_bit, j_one, i_and, i_or, Nat.not_lt_zero, Nat.succ_ne_zero, Nat.add_one_ne_zero, Nat.add_one_sub_one, Nat.zero_le, Nat.or_zero, Nat.zero_or, Bool.not_true, Bool.not_false, Bool.true_and, Bool.false_and, Bool.and_true, Bool.and_false, ↓reduceIte, if_true, if_false, not_true_eq_false, not_false_eq_true, true_and, and_true, false_and, and_false, and_self, true_or, or_true, false_or, or_false, Nat.reduceEqDiff, Nat.reduceLT, Nat.reduceLeDiff, Nat.reduceAdd, Nat.reduceMul, Nat.reduceSub, Nat.add_zero, Nat.zero_add, Nat.mul_zero, Nat.zero_mul, ne_eq, Bool.not_eq_true, Bool.not_eq_false, reduceCtorEq, decide_true, decide_false, decide_eq_true_eq, decide_eq_false_iff_not, Bool.false_eq_true, if_pos, if_neg]
theorem nI_dec {a : Nat} (h : 1 ≤ a) : nI a + mI = nI (a - 1) := by
  have e : nI a = nI (a - 1) + nI 1 := by rw [nI_add]; congr 1; omega
  rw [e, Int32.add_assoc, show nI 1 + mI = 0 from rfl, Int32.add_zero]
