/-! layer 2: the class's rows: going on from one row -/
def rwS (st : fSt) (n : Int32) (f : Nat → Int32) : fSt := sA (sI st 6 0 2 n) 6 0 1 f
theorem rwS_n (st : fSt) (n : Int32) (f : Nat → Int32) : gI (rwS st n f) 6 0 2 = n := rfl
theorem rwS_f (st : fSt) (n : Int32) (f : Nat → Int32) : gA (rwS st n f) 6 0 1 = f := rfl
theorem rwS_sn (st : fSt) (n : Int32) (f : Nat → Int32) (m : Int32) : sI (rwS st n f) 6 0 2 m = rwS st m f := by
  apply st_ext
  · intro c i k
    simp only [rwS, gI_sI, gI_sA]
    split <;> rfl
  · intro c i k; rfl
  · intro c i k; rfl
  · intro c i k; rfl
  · intro c i k; rfl
theorem rwS_sf (st : fSt) (n : Int32) (f : Nat → Int32) (f' : Nat → Int32) : sA (rwS st n f) 6 0 1 f' = rwS st n f' := by
  apply st_ext
  · intro c i k; rfl
  · intro c i k; rfl
  · intro c i k
    simp only [rwS, gA_sA, gA_sI]
    split <;> rfl
  · intro c i k; rfl
  · intro c i k; rfl
def pwd (se g : Nat) : Nat := se ||| g * 2 ^ 12
theorem pwd_lt {se g : Nat} (h1 : se < 4096) (h2 : g < 64) : pwd se g < 2 ^ 18 := Nat.or_lt_two_pow (by omega) (by omega)
theorem pwd_se {se g : Nat} (h1 : se < 4096) : pwd se g &&& 4095 = se := by
  rw [show 4095 = 2 ^ 12 - 1 from rfl, Nat.and_two_pow_sub_one_eq_mod]
  apply Nat.eq_of_testBit_eq
  intro i
  unfold pwd
  rw [Nat.testBit_mod_two_pow, Nat.testBit_or, Nat.mul_comm, Nat.testBit_two_pow_mul]
  by_cases hi : i < 12
  · simp [hi]
    intro h; omega
  · rw [Nat.testBit_lt_two_pow (Nat.lt_of_lt_of_le h1 (Nat.pow_le_pow_right (n := 2) (i := 12) (by omega) (by omega)))]
    simp [hi]
theorem pwd_g {se g : Nat} (h1 : se < 4096) : pwd se g / 2 ^ 12 = g := by
  apply Nat.eq_of_testBit_eq
  intro i
  unfold pwd
  rw [Nat.testBit_div_two_pow, Nat.testBit_or, Nat.mul_comm, Nat.testBit_two_pow_mul]
  rw [Nat.testBit_lt_two_pow (Nat.lt_of_lt_of_le h1 (Nat.pow_le_pow_right (n := 2) (i := 12) (by omega) (by omega)))]
  simp
def cht (ts : Nat → Nat) : Nat → List Nat
  | 0 => []
  | d + 1 => if ts d = 0 ∨ ts d ∈ cht ts d then cht ts d else cht ts d ++ [ts d]
def sbt (L : List Nat) : Nat := L.foldl (fun a t => a ||| 2 ^ (t - 1)) 0
theorem sbt_app (L : List Nat) (t : Nat) : sbt (L ++ [t]) = sbt L ||| 2 ^ (t - 1) := by simp [sbt]
theorem cht_pos (ts : Nat → Nat) : ∀ d t, t ∈ cht ts d → 0 < t := by
  intro d
  induction d with
  | zero => intro t h; exact absurd h (by simp [cht])
  | succ d ih =>
    intro t h
    unfold cht at h
    split at h
    · exact ih t h
    · rename_i hn
      rcases List.mem_append.mp h with h | h
      · exact ih t h
      · rw [List.mem_singleton] at h
        omega
theorem sbt_bit (ts : Nat → Nat) : ∀ d k, (sbt (cht ts d)).testBit k = true ↔ k + 1 ∈ cht ts d := by
  intro d
  induction d with
  | zero => intro k; simp [cht, sbt]
  | succ d ih =>
    intro k
    unfold cht
    split
    · exact ih k
    · rename_i hn
      rw [sbt_app, Nat.testBit_or, Nat.testBit_two_pow, Bool.or_eq_true, ih k, List.mem_append, List.mem_singleton, decide_eq_true_eq]
      constructor
      · rintro (h | h)
        · exact Or.inl h
        · exact Or.inr (by omega)
      · rintro (h | h)
        · exact Or.inl h
        · exact Or.inr (by omega)
theorem cht_len (ts : Nat → Nat) : ∀ d, (cht ts d).length ≤ d := by
  intro d
  induction d with
  | zero => exact Nat.le_refl _
  | succ d ih =>
    unfold cht
    split
    · omega
    · rw [List.length_append]
      simp only [List.length_cons, List.length_nil]
      omega
theorem sbt_lt (ts : Nat → Nat) {n : Nat} : ∀ d, (∀ o, o < d → ts o ≤ n) → sbt (cht ts d) < 2 ^ n := by
  intro d
  induction d with
  | zero => intro _; exact Nat.two_pow_pos n
  | succ d ih =>
    intro h
    have ih := ih (fun o ho => h o (by omega))
    have hd := h d (by omega)
    unfold cht
    split
    · exact ih
    · rename_i hn
      rw [sbt_app]
      exact Nat.or_lt_two_pow ih (Nat.pow_lt_pow_right (by omega) (by omega))
theorem cht_mono (ts : Nat → Nat) (d : Nat) : ∀ k, (cht ts d).length ≤ (cht ts (d + k)).length := by
  intro k
  induction k with
  | zero => exact Nat.le_refl _
  | succ k ih =>
    refine Nat.le_trans ih ?_
    show (cht ts (d + k)).length ≤ (if ts (d + k) = 0 ∨ ts (d + k) ∈ cht ts (d + k) then cht ts (d + k) else cht ts (d + k) ++ [ts (d + k)]).length
    split
    · exact Nat.le_refl _
    · rw [List.length_append]; omega
def frw (G ts : Nat → Nat) (se g c i : Nat) (f : Nat → Int32) : Nat → Nat → Int32
  | 0 => upd f i (nI se)
  | d + 1 => if ts d = 0 then upd (frw G ts se g c i f d) i (frw G ts se g c i f d i ||| nI 1048576) else if ts d ∈ cht ts d then frw G ts se g c i f d else
      upd (frw G ts se g c i f d) (c + (cht ts d).length) (nI (pwd (se ||| 2 ^ (ts d - 1)) (gkil G (ts d - 1) g)))
section
variable {sc : fSt} {q : Nat} {G : Nat → Nat}
theorem x_add (X : rHou sc 0 q G) (w : gWf G) {se t g c : Nat} (ht : t < G 2) (hse : se < 4096) (hg : g < 64) (hc : c < 2048) (f : Nat → Int32) : f_X6_add 0 (nI se) (nI t) (nI g) (rwS sc (nI c) f) = some ((), rwS sc (nI (c + 1)) (upd f c (nI (pwd (se ||| 2 ^ t) (gkil G t g))))) := by
  have w1 := w.1
  have hp : ∀ n f, gP (rwS sc n f) 2 0 0 = q + 1 := fun _ _ => X.1
  have hk : ∀ n f, f_X7_killedIn q (nI t) (rwS sc n f) = some (nI (gkv G t), rwS sc n f) := fun n f => x_killed (sc := rwS sc n f) X.2.1 w ht
  have hgk := gkil_lt w ht hg
  rw [gkil_v] at hgk ⊢
  have hsh : nI (g ||| gkv G t) <<< nI 12 = nI ((g ||| gkv G t) * 2 ^ 12) := i_shl (by omega) (by omega)
  unfold f_X6_add
  simp (disch := omega) only [fLt_e, fBd_s, fJn_s, fNn_s, fNu_0, fNu_s, fBo_0, fBo_1, fBo_b, i_lit, i_neg1, nI_add, pk_mul, nI_clamp, i_le, i_lt, i_eq, fIx_n, nI_mI, mI_nI, mI_lt, nI_lt_m, mI_le, nI_le_m, xI_0, xI_s, bI_0, bI_1, bI_t, bI_f, n_31, j_bit, j_one, i_and, i_or, Nat.not_lt_zero, Nat.succ_ne_zero, Nat.add_one_ne_zero, Nat.add_one_sub_one, Nat.zero_le, Nat.or_zero, Nat.zero_or, Bool.not_true, Bool.not_false, Bool.true_and, Bool.false_and, Bool.and_true, Bool.and_false, ↓reduceIte, if_true, if_false, not_true_eq_false, not_false_eq_true, true_and, and_true, false_and, and_false, and_self, true_or, or_true, false_or, or_false, Nat.reduceEqDiff, Nat.reduceLT, Nat.reduceLeDiff, Nat.reduceAdd, Nat.reduceMul, Nat.reduceSub, Nat.add_zero, Nat.zero_add, Nat.mul_zero, Nat.zero_mul, ne_eq, Bool.not_eq_true, Bool.not_eq_false, reduceCtorEq, decide_true, decide_false, decide_eq_true_eq, decide_eq_false_iff_not, Bool.false_eq_true, if_pos, if_neg, rwS_n, rwS_f, rwS_sn, rwS_sf, hp, hk, hsh]
  rfl
theorem x_goL41 (X : rHou sc 0 q G) (w : gWf G) {se s g c i : Nat} (hs : s < G 2) (hse : se < 4096) (hg : g < 64) (hi : i < c) (hc : c + (cht (fun d => gnx G s d g) 4).length ≤ 2048) (f : Nat → Int32) :
    f_X6_goOn_L41 0 (nI i) (nI se) (nI g) (nI s) fF (nI 0) (nI 0) (rwS sc (nI c) (upd f i (nI se))) = some ((), rwS sc (nI (c + (cht (fun d => gnx G s d g) 4).length)) (frw G (fun d => gnx G s d g) se g c i f 4)) := by
  have w1 := w.1
  have htn : ∀ d, d < 4 → gnx G s d g ≤ s := fun d hd => gnx_le w hs hd _
  have hsb : ∀ d, d ≤ 4 → sbt (cht (fun d => gnx G s d g) d) < 2 ^ 12 := fun d hd => sbt_lt _ d (fun o ho => by have := htn o (by omega); show gnx G s o g ≤ 12; omega)
  have hmono : ∀ d, d < 4 → (cht (fun d => gnx G s d g) (d + 1)).length ≤ (cht (fun d => gnx G s d g) 4).length := by
    intro d hd
    have h := cht_mono (fun d => gnx G s d g) (d + 1) (3 - d)
    rw [show d + 1 + (3 - d) = 4 by omega] at h
    exact h
  obtain ⟨m, e⟩ := lp_run (fun m (z : Int32 × Int32 × fSt) => f_X6_goOn_L41 0 (nI i) (nI se) (nI g) (nI s) m z.1 z.2.1 z.2.2) (fun d => (nI (sbt (cht (fun d => gnx G s d g) d)), nI d, rwS sc (nI (c + (cht (fun d => gnx G s d g) d).length)) (frw G (fun d => gnx G s d g) se g c i f d))) 4 (fun m d hd => by
    show f_X6_goOn_L41 0 (nI i) (nI se) (nI g) (nI s) (m + 1) (nI (sbt (cht (fun d => gnx G s d g) d))) (nI d) (rwS sc (nI (c + (cht (fun d => gnx G s d g) d).length)) (frw G (fun d => gnx G s d g) se g c i f d)) = f_X6_goOn_L41 0 (nI i) (nI se) (nI g) (nI s) m (nI (sbt (cht (fun d => gnx G s d g) (d + 1)))) (nI (d + 1)) (rwS sc (nI (c + (cht (fun d => gnx G s d g) (d + 1)).length)) (frw G (fun d => gnx G s d g) se g c i f (d + 1)))
    have hb := sbt_bit (fun d => gnx G s d g) d
    have hl := hmono d hd
    have hsd := hsb d (by omega)
    have hcs : cht (fun d => gnx G s d g) (d + 1) = if gnx G s d g = 0 ∨ gnx G s d g ∈ cht (fun d => gnx G s d g) d then cht (fun d => gnx G s d g) d else cht (fun d => gnx G s d g) d ++ [gnx G s d g] := rfl
    have hfs : frw G (fun d => gnx G s d g) se g c i f (d + 1) = if gnx G s d g = 0 then upd (frw G (fun d => gnx G s d g) se g c i f d) i (frw G (fun d => gnx G s d g) se g c i f d i ||| nI 1048576) else if gnx G s d g ∈ cht (fun d => gnx G s d g) d then frw G (fun d => gnx G s d g) se g c i f d else
      upd (frw G (fun d => gnx G s d g) se g c i f d) (c + (cht (fun d => gnx G s d g) d).length) (nI (pwd (se ||| 2 ^ (gnx G s d g - 1)) (gkil G (gnx G s d g - 1) g))) := rfl
    rw [hcs] at hl ⊢
    rw [hfs]
    have ht := htn d hd
    have hon : ∀ n f, f_X2_onward 0 (nI s) (nI d) (nI g) (rwS sc n f) = some (xI (gnx G s d g), rwS sc n f) := fun n f => x_onward (sc := rwS sc n f) X w hs hd hg
    generalize frw G (fun d => gnx G s d g) se g c i f d = F at *
    generalize cht (fun d => gnx G s d g) d = L at *
    generalize gnx G s d g = tv at *
    rw [f_X6_goOn_L41]
    cases tv with
    | zero =>
      simp (disch := omega) only [fLt_e, fBd_s, fJn_s, fNn_s, fNu_0, fNu_s, fBo_0, fBo_1, fBo_b, i_lit, i_neg1, nI_add, pk_mul, nI_clamp, i_le, i_lt, i_eq, fIx_n, nI_mI, mI_nI, mI_lt, nI_lt_m, mI_le, nI_le_m, xI_0, xI_s, bI_0, bI_1, bI_t, bI_f, n_31, j_bit, j_one, i_and, i_or, Nat.not_lt_zero, Nat.succ_ne_zero, Nat.add_one_ne_zero, Nat.add_one_sub_one, Nat.zero_le, Nat.or_zero, Nat.zero_or, Bool.not_true, Bool.not_false, Bool.true_and, Bool.false_and, Bool.and_true, Bool.and_false, ↓reduceIte, if_true, if_false, not_true_eq_false, not_false_eq_true, true_and, and_true, false_and, and_false, and_self, true_or, or_true, false_or, or_false, Nat.reduceEqDiff, Nat.reduceLT, Nat.reduceLeDiff, Nat.reduceAdd, Nat.reduceMul, Nat.reduceSub, Nat.add_zero, Nat.zero_add, Nat.mul_zero, Nat.zero_mul, ne_eq, Bool.not_eq_true, Bool.not_eq_false, reduceCtorEq, decide_true, decide_false, decide_eq_true_eq, decide_eq_false_iff_not, Bool.false_eq_true, if_pos, if_neg, hon, rwS_f, rwS_sf]
    | succ t =>
      by_cases hm : t + 1 ∈ L
      · have hbt := (hb t).mpr hm
        simp (disch := omega) only [fLt_e, fBd_s, fJn_s, fNn_s, fNu_0, fNu_s, fBo_0, fBo_1, fBo_b, i_lit, i_neg1, nI_add, pk_mul, nI_clamp, i_le, i_lt, i_eq, fIx_n, nI_mI, mI_nI, mI_lt, nI_lt_m, mI_le, nI_le_m, xI_0, xI_s, bI_0, bI_1, bI_t, bI_f, n_31, j_bit, j_one, i_and, i_or, Nat.not_lt_zero, Nat.succ_ne_zero, Nat.add_one_ne_zero, Nat.add_one_sub_one, Nat.zero_le, Nat.or_zero, Nat.zero_or, Bool.not_true, Bool.not_false, Bool.true_and, Bool.false_and, Bool.and_true, Bool.and_false, ↓reduceIte, if_true, if_false, not_true_eq_false, not_false_eq_true, true_and, and_true, false_and, and_false, and_self, true_or, or_true, false_or, or_false, Nat.reduceEqDiff, Nat.reduceLT, Nat.reduceLeDiff, Nat.reduceAdd, Nat.reduceMul, Nat.reduceSub, Nat.add_zero, Nat.zero_add, Nat.mul_zero, Nat.zero_mul, ne_eq, Bool.not_eq_true, Bool.not_eq_false, reduceCtorEq, decide_true, decide_false, decide_eq_true_eq, decide_eq_false_iff_not, Bool.false_eq_true, if_pos, if_neg, hon, hm, hbt]
      · have hbt : (sbt L).testBit t = false := by
          cases h : (sbt L).testBit t with
          | false => rfl
          | true => exact absurd ((hb t).mp h) hm
        have hno : ¬ (t + 1 = 0 ∨ t + 1 ∈ L) := fun h => h.elim (fun h => by omega) hm
        rw [if_neg hno] at hl
        rw [List.length_append] at hl
        simp only [List.length_cons, List.length_nil] at hl
        have had := x_add X w (show t < G 2 by omega) hse hg (show c + L.length < 2048 by omega) F
        rw [if_neg hno, if_neg (Nat.succ_ne_zero t), if_neg hm, sbt_app, List.length_append]
        simp only [Nat.add_sub_cancel, List.length_cons, List.length_nil, Nat.zero_add]
        rw [← Nat.add_assoc]
        simp (disch := omega) only [fLt_e, fBd_s, fJn_s, fNn_s, fNu_0, fNu_s, fBo_0, fBo_1, fBo_b, i_lit, i_neg1, nI_add, pk_mul, nI_clamp, i_le, i_lt, i_eq, fIx_n, nI_mI, mI_nI, mI_lt, nI_lt_m, mI_le, nI_le_m, xI_0, xI_s, bI_0, bI_1, bI_t, bI_f, n_31, j_bit, j_one, i_and, i_or, Nat.not_lt_zero, Nat.succ_ne_zero, Nat.add_one_ne_zero, Nat.add_one_sub_one, Nat.zero_le, Nat.or_zero, Nat.zero_or, Bool.not_true, Bool.not_false, Bool.true_and, Bool.false_and, Bool.and_true, Bool.and_false, ↓reduceIte, if_true, if_false, not_true_eq_false, not_false_eq_true, true_and, and_true, false_and, and_false, and_self, true_or, or_true, false_or, or_false, Nat.reduceEqDiff, Nat.reduceLT, Nat.reduceLeDiff, Nat.reduceAdd, Nat.reduceMul, Nat.reduceSub, Nat.add_zero, Nat.zero_add, Nat.mul_zero, Nat.zero_mul, ne_eq, Bool.not_eq_true, Bool.not_eq_false, reduceCtorEq, decide_true, decide_false, decide_eq_true_eq, decide_eq_false_iff_not, Bool.false_eq_true, if_pos, if_neg, hon, hbt, had]) (fF_lt (by omega))
  refine Eq.trans ?_ (Eq.trans e ?_)
  · rfl
  · show f_X6_goOn_L41 0 (nI i) (nI se) (nI g) (nI s) (m + 1) (nI (sbt (cht (fun d => gnx G s d g) 4))) (nI 4) (rwS sc (nI (c + (cht (fun d => gnx G s d g) 4).length)) (frw G (fun d => gnx G s d g) se g c i f 4)) = _
    rw [f_X6_goOn_L41]
    simp (disch := omega) only [fLt_e, fBd_s, fJn_s, fNn_s, fNu_0, fNu_s, fBo_0, fBo_1, fBo_b, i_lit, i_neg1, nI_add, pk_mul, nI_clamp, i_le, i_lt, i_eq, fIx_n, nI_mI, mI_nI, mI_lt, nI_lt_m, mI_le, nI_le_m, xI_0, xI_s, bI_0, bI_1, bI_t, bI_f, n_31, j_bit, j_one, i_and, i_or, Nat.not_lt_zero, Nat.succ_ne_zero, Nat.add_one_ne_zero, Nat.add_one_sub_one, Nat.zero_le, Nat.or_zero, Nat.zero_or, Bool.not_true, Bool.not_false, Bool.true_and, Bool.false_and, Bool.and_true, Bool.and_false, ↓reduceIte, if_true, if_false, not_true_eq_false, not_false_eq_true, true_and, and_true, false_and, and_false, and_self, true_or, or_true, false_or, or_false, Nat.reduceEqDiff, Nat.reduceLT, Nat.reduceLeDiff, Nat.reduceAdd, Nat.reduceMul, Nat.reduceSub, Nat.add_zero, Nat.zero_add, Nat.mul_zero, Nat.zero_mul, ne_eq, Bool.not_eq_true, Bool.not_eq_false, reduceCtorEq, decide_true, decide_false, decide_eq_true_eq, decide_eq_false_iff_not, Bool.false_eq_true, if_pos, if_neg]
theorem x_goOn (X : rHou sc 0 q G) (w : gWf G) {se s g c i : Nat} (hs : s < G 2) (hse : se < 4096) (h1 : se.testBit s = true) (h2 : ∀ j, j < s → se.testBit j = false) (hg : g < 64) (hi : i < c) (hc : c + (cht (fun d => gnx G s d g) 4).length ≤ 2048) {f : Nat → Int32} (hf : f i = nI (pwd se g)) :
    f_X6_goOn 0 (nI i) (rwS sc (nI c) f) = some ((), rwS sc (nI (c + (cht (fun d => gnx G s d g) 4).length)) (frw G (fun d => gnx G s d g) se g c i f 4)) := by
  have w1 := w.1
  have hp1 := pwd_lt hse hg
  have e1 := pwd_se (g := g) hse
  have e2 : nI (pwd se g) >>> nI 12 = nI g := by rw [i_shr (by omega) (by omega), pwd_g hse]
  have hl := x_lastOf (show s < 24 by omega) h1 h2
  have hL := x_goL41 X w hs hse hg hi hc f
  unfold f_X6_goOn
  simp (disch := omega) only [fLt_e, fBd_s, fJn_s, fNn_s, fNu_0, fNu_s, fBo_0, fBo_1, fBo_b, i_lit, i_neg1, nI_add, pk_mul, nI_clamp, i_le, i_lt, i_eq, fIx_n, nI_mI, mI_nI, mI_lt, nI_lt_m, mI_le, nI_le_m, xI_0, xI_s, bI_0, bI_1, bI_t, bI_f, n_31, j_bit, j_one, i_and, i_or, Nat.not_lt_zero, Nat.succ_ne_zero, Nat.add_one_ne_zero, Nat.add_one_sub_one, Nat.zero_le, Nat.or_zero, Nat.zero_or, Bool.not_true, Bool.not_false, Bool.true_and, Bool.false_and, Bool.and_true, Bool.and_false, ↓reduceIte, if_true, if_false, not_true_eq_false, not_false_eq_true, true_and, and_true, false_and, and_false, and_self, true_or, or_true, false_or, or_false, Nat.reduceEqDiff, Nat.reduceLT, Nat.reduceLeDiff, Nat.reduceAdd, Nat.reduceMul, Nat.reduceSub, Nat.add_zero, Nat.zero_add, Nat.mul_zero, Nat.zero_mul, ne_eq, Bool.not_eq_true, Bool.not_eq_false, reduceCtorEq, decide_true, decide_false, decide_eq_true_eq, decide_eq_false_iff_not, Bool.false_eq_true, if_pos, if_neg, rwS_f, rwS_sf, hf, e1, e2, hl]
  exact hL
end
