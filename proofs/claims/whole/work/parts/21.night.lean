/-! layer 2: nights by hand and by lot -/
def itq {σ : Type} (f : Nat → σ → σ) : Nat → Nat → σ → σ
  | 0, _, t => t
  | n + 1, k, t => itq f n (k + 1) (f k t)
abbrev pSt : Type := Nat × Nat × Nat × Nat × Nat × Nat
def gst (G : Nat → Nat) (d r : Nat) (t : pSt) : pSt := (gnx G (t.1 - 1) d (gkil G (t.1 - 1) t.2.1), gkil G (t.1 - 1) t.2.1, t.2.2.1 ||| 2 ^ (t.1 - 1), G (49 + (t.1 - 1)), t.2.2.2.2.1 + gbr G (t.1 - 1), r)
def pOk (G : Nat → Nat) (t : pSt) : Prop := t.1 ≤ G 2 ∧ t.2.1 < 64 ∧ t.2.2.1 < 4096 ∧ t.2.2.2.1 ≤ 9 ∧ t.2.2.2.2.1 + 240 * t.1 ≤ 2880 ∧ t.2.2.2.2.2 < 65536
def aNi (t : pSt) (who sd : Int32) : Nat → Int32
  | 0 => nI t.2.2.1
  | 1 => xI t.2.2.2.1
  | 2 => who
  | 3 => nI t.2.2.2.2.1
  | 4 => xI t.1
  | 5 => nI t.2.1
  | _ => sd
def aM (t : pSt) (rd : Int32) (k : Nat) : Int32 := if k = 25 then nI t.2.2.1 else if k = 26 then xI t.2.2.2.1 else if k = 27 then nI t.2.2.2.2.1 else rd
section
variable {sc sm : fSt} {q : Nat} {G : Nat → Nat}
def gkv (G : Nat → Nat) (s : Nat) : Nat := if G (109 + s) = 0 then 0 else 2 ^ (G (109 + s) - 1)
theorem gkil_v (G : Nat → Nat) (s g : Nat) : gkil G s g = g ||| gkv G s := by
  unfold gkil gkv
  split
  · rw [Nat.or_zero]
  · rfl
theorem x_killed (H : rStg sc q G) (w : gWf G) {s : Nat} (hs : s < G 2) : f_X7_killedIn q (nI s) sc = some (nI (gkv G s), sc) := by
  have h := w.1
  have h2 := (w.2.2.2.1 s hs).2.2.2.2
  obtain ⟨-, -, -, -, -, -, -, e⟩ := H.2.2.1 s hs
  unfold f_X7_killedIn gkv
  cases hv : G (109 + s) with
  | zero => simp (disch := omega) only [fLt_e, fBd_s, fJn_s, fNn_s, fNu_0, fNu_s, fBo_0, fBo_1, fBo_b, i_lit, i_neg1, nI_add, pk_mul, nI_clamp, i_le, i_lt, i_eq, fIx_n, nI_mI, mI_nI, mI_lt, nI_lt_m, mI_le, nI_le_m, xI_0, xI_s, bI_0, bI_1, bI_t, bI_f, n_31, j_bit, j_one, i_and, i_or, Nat.not_lt_zero, Nat.succ_ne_zero, Nat.add_one_ne_zero, Nat.add_one_sub_one, Nat.zero_le, Nat.or_zero, Nat.zero_or, Bool.not_true, Bool.not_false, Bool.true_and, Bool.false_and, Bool.and_true, Bool.and_false, ↓reduceIte, if_true, if_false, not_true_eq_false, not_false_eq_true, true_and, and_true, false_and, and_false, and_self, true_or, or_true, false_or, or_false, Nat.reduceEqDiff, Nat.reduceLT, Nat.reduceLeDiff, Nat.reduceAdd, Nat.reduceMul, Nat.reduceSub, Nat.add_zero, Nat.zero_add, Nat.mul_zero, Nat.zero_mul, ne_eq, Bool.not_eq_true, Bool.not_eq_false, reduceCtorEq, decide_true, decide_false, decide_eq_true_eq, decide_eq_false_iff_not, Bool.false_eq_true, if_pos, if_neg, e, hv]
  | succ v => simp (disch := omega) only [fLt_e, fBd_s, fJn_s, fNn_s, fNu_0, fNu_s, fBo_0, fBo_1, fBo_b, i_lit, i_neg1, nI_add, pk_mul, nI_clamp, i_le, i_lt, i_eq, fIx_n, nI_mI, mI_nI, mI_lt, nI_lt_m, mI_le, nI_le_m, xI_0, xI_s, bI_0, bI_1, bI_t, bI_f, n_31, j_bit, j_one, i_and, i_or, Nat.not_lt_zero, Nat.succ_ne_zero, Nat.add_one_ne_zero, Nat.add_one_sub_one, Nat.zero_le, Nat.or_zero, Nat.zero_or, Bool.not_true, Bool.not_false, Bool.true_and, Bool.false_and, Bool.and_true, Bool.and_false, ↓reduceIte, if_true, if_false, not_true_eq_false, not_false_eq_true, true_and, and_true, false_and, and_false, and_self, true_or, or_true, false_or, or_false, Nat.reduceEqDiff, Nat.reduceLT, Nat.reduceLeDiff, Nat.reduceAdd, Nat.reduceMul, Nat.reduceSub, Nat.add_zero, Nat.zero_add, Nat.mul_zero, Nat.zero_mul, ne_eq, Bool.not_eq_true, Bool.not_eq_false, reduceCtorEq, decide_true, decide_false, decide_eq_true_eq, decide_eq_false_iff_not, Bool.false_eq_true, if_pos, if_neg, e, hv]
theorem gst_ok (w : gWf G) {d r : Nat} {t : pSt} (h1 : 0 < t.1) (h : pOk G t) (hd : d < 4) (hr : r < 65536) : pOk G (gst G d r t) := by
  obtain ⟨a, b, c, d', e, f⟩ := h
  have w1 := w.1
  have hs : t.1 - 1 < G 2 := by omega
  have k1 := gnx_le w hs hd (gkil G (t.1 - 1) t.2.1)
  have k2 := gbr_le w hs
  refine ⟨?_, gkil_lt w hs b, ?_, (w.2.2.2.1 _ hs).2.2.1, ?_, hr⟩
  · show gnx G (t.1 - 1) d (gkil G (t.1 - 1) t.2.1) ≤ G 2
    omega
  · exact Nat.or_lt_two_pow (n := 12) c (Nat.pow_lt_pow_right (by omega) (by omega))
  · show t.2.2.2.2.1 + gbr G (t.1 - 1) + 240 * gnx G (t.1 - 1) d (gkil G (t.1 - 1) t.2.1) ≤ 2880
    have : 240 * gnx G (t.1 - 1) d (gkil G (t.1 - 1) t.2.1) ≤ 240 * (t.1 - 1) := Nat.mul_le_mul_left _ k1
    omega
theorem gst_lt (w : gWf G) {d r : Nat} {t : pSt} (h1 : 0 < t.1) (h : pOk G t) (hd : d < 4) : (gst G d r t).1 < t.1 := by
  have k1 := gnx_le w (show t.1 - 1 < G 2 by have := h.1; omega) hd (gkil G (t.1 - 1) t.2.1)
  show gnx G (t.1 - 1) d (gkil G (t.1 - 1) t.2.1) < t.1
  omega
theorem x_playScene (H : rHou sc 0 q G) (w : gWf G) {i d : Nat} {t : pSt} (h1 : 0 < t.1) (h : pOk G t) (hd : d < 4) (r : Nat) (who sd : Int32) : f_X3_playScene i 0 (nI d) (oS sc 3 i 0 7 (aNi t who sd)) = some ((), oS sc 3 i 0 7 (aNi (gst G d r t) who sd)) := by
  obtain ⟨sp, g, se, en, br, rn⟩ := t
  obtain ⟨a, b, c, d', e, f⟩ := h
  simp only at h1 a b c d' e f
  obtain ⟨s, rfl⟩ : ∃ s, sp = s + 1 := ⟨sp - 1, by omega⟩
  have w1 := w.1
  have hs : s < G 2 := by omega
  have hbr := fun A => x_breathsOfScene (rStg_oS (i := i) (lo := 0) (hi := 7) (a := A) H.2.1) w hs
  have hki := fun A => x_killed (rStg_oS (i := i) (lo := 0) (hi := 7) (a := A) H.2.1) w hs
  have hon := fun A => x_onward (rHou_oS (i := i) (lo := 0) (hi := 7) (a := A) H) w hs hd (gkil_lt w hs b)
  have hen := (H.2.1.2.2.1 s hs).2.2.1
  rw [gkil_v] at hon
  unfold f_X3_playScene
  simp (disch := omega) only [fLt_e, fBd_s, fJn_s, fNn_s, fNu_0, fNu_s, fBo_0, fBo_1, fBo_b, i_lit, i_neg1, nI_add, pk_mul, nI_clamp, i_le, i_lt, i_eq, fIx_n, nI_mI, mI_nI, mI_lt, nI_lt_m, mI_le, nI_le_m, xI_0, xI_s, bI_0, bI_1, bI_t, bI_f, n_31, j_bit, j_one, i_and, i_or, Nat.not_lt_zero, Nat.succ_ne_zero, Nat.add_one_ne_zero, Nat.add_one_sub_one, Nat.zero_le, Nat.or_zero, Nat.zero_or, Bool.not_true, Bool.not_false, Bool.true_and, Bool.false_and, Bool.and_true, Bool.and_false, ↓reduceIte, if_true, if_false, not_true_eq_false, not_false_eq_true, true_and, and_true, false_and, and_false, and_self, true_or, or_true, false_or, or_false, Nat.reduceEqDiff, Nat.reduceLT, Nat.reduceLeDiff, Nat.reduceAdd, Nat.reduceMul, Nat.reduceSub, Nat.add_zero, Nat.zero_add, Nat.mul_zero, Nat.zero_mul, ne_eq, Bool.not_eq_true, Bool.not_eq_false, reduceCtorEq, decide_true, decide_false, decide_eq_true_eq, decide_eq_false_iff_not, Bool.false_eq_true, if_pos, if_neg, oS_sI, gI_oS, gP_oS, gA_oS, upd_at, aNi, H.1, hen, hbr, hki, hon]
  refine congrArg (fun S => some ((), S)) (oS_ext fun k _ hk => ?_)
  simp only [gst, gkil_v, upd_at, Nat.add_sub_cancel]
  rcases (show k = 0 ∨ k = 1 ∨ k = 2 ∨ k = 3 ∨ k = 4 ∨ k = 5 ∨ k = 6 by omega) with rfl | rfl | rfl | rfl | rfl | rfl | rfl <;> rfl
theorem rBlk_oS {lo hi : Nat} {a : Nat → Int32} (B : rBlk (gA sm 12 0 5) G) : rBlk (gA (oS sm 12 0 lo hi a) 12 0 5) G := B
theorem m_sees (B : rBlk (gA sm 12 0 5) G) (w : gWf G) {t : pSt} (h1 : 0 < t.1) (h : pOk G t) (d r : Nat) {A : Nat → Int32} (hA : A 25 = nI t.2.2.1) (hB : A 27 = nI t.2.2.2.2.1) : f_X12_sees (nI (t.1 - 1)) (oS sm 12 0 25 29 A) = some ((), oS sm 12 0 25 29 (aM (gst G d r t) (A 28))) := by
  obtain ⟨sp, g, se, en, br, rn⟩ := t
  obtain ⟨a, b, c, d', e, f⟩ := h
  simp only at h1 a b c d' e f hA hB
  obtain ⟨s, rfl⟩ : ∃ s, sp = s + 1 := ⟨sp - 1, by omega⟩
  have w1 := w.1
  have hs : s < G 2 := by omega
  have hbr := fun A => m_breathsOf (rBlk_oS (lo := 25) (hi := 29) (a := A) B) w hs
  have hen := (B.2.2.1 s hs).2.2.1
  unfold f_X12_sees
  simp (disch := omega) only [fLt_e, fBd_s, fJn_s, fNn_s, fNu_0, fNu_s, fBo_0, fBo_1, fBo_b, i_lit, i_neg1, nI_add, pk_mul, nI_clamp, i_le, i_lt, i_eq, fIx_n, nI_mI, mI_nI, mI_lt, nI_lt_m, mI_le, nI_le_m, xI_0, xI_s, bI_0, bI_1, bI_t, bI_f, n_31, j_bit, j_one, i_and, i_or, Nat.not_lt_zero, Nat.succ_ne_zero, Nat.add_one_ne_zero, Nat.add_one_sub_one, Nat.zero_le, Nat.or_zero, Nat.zero_or, Bool.not_true, Bool.not_false, Bool.true_and, Bool.false_and, Bool.and_true, Bool.and_false, ↓reduceIte, if_true, if_false, not_true_eq_false, not_false_eq_true, true_and, and_true, false_and, and_false, and_self, true_or, or_true, false_or, or_false, Nat.reduceEqDiff, Nat.reduceLT, Nat.reduceLeDiff, Nat.reduceAdd, Nat.reduceMul, Nat.reduceSub, Nat.add_zero, Nat.zero_add, Nat.mul_zero, Nat.zero_mul, ne_eq, Bool.not_eq_true, Bool.not_eq_false, reduceCtorEq, decide_true, decide_false, decide_eq_true_eq, decide_eq_false_iff_not, Bool.false_eq_true, if_pos, if_neg, oS_sI, gI_oS, gP_oS, gA_oS, upd_at, hA, hB, hen, hbr]
  refine congrArg (fun S => some ((), S)) (oS_ext fun k hk0 hk => ?_)
  simp only [gst, gkil_v, upd_at, Nat.add_sub_cancel, aM]
  rcases (show k = 25 ∨ k = 26 ∨ k = 27 ∨ k = 28 by omega) with rfl | rfl | rfl | rfl <;> rfl
theorem m_raises (sm : fSt) : f_X12_raises sm = some ((), oS sm 12 0 25 29 (upd (upd (gI sm 12 0) 25 (nI 0)) 27 (nI 0))) := by
  have e : sI sm 12 0 25 (nI 0) = oS sm 12 0 25 29 (upd (gI sm 12 0) 25 (nI 0)) := by
    have h : sI sm 12 0 25 (nI 0) = sI (oS sm 12 0 25 29 (gI sm 12 0)) 12 0 25 (nI 0) := by rw [← oS_0]
    rw [h, oS_sI (by omega)]
  unfold f_X12_raises
  simp only [fLt_e, i_lit]
  rw [e, oS_sI (by omega)]
-- by hand
def hst (G : Nat → Nat) (D : Nat → Nat) (k : Nat) (t : pSt) : pSt := if t.1 = 0 then t else gst G (D k) t.2.2.2.2.2 t
theorem itr_0 (G D : Nat → Nat) : ∀ n k (t : pSt), t.1 = 0 → itq (hst G D) n k t = t := by
  intro n
  induction n with
  | zero => intro k t _; rfl
  | succ n ih =>
    intro k t h
    show itq (hst G D) n (k + 1) (hst G D k t) = t
    have : hst G D k t = t := if_pos h
    rw [this]
    exact ih _ _ h
theorem x_handL (H : rHou sc 0 q G) (w : gWf G) {i tr many : Nat} {D : Nat → Nat} (hm : many ≤ 12) (hD : ∀ k, k < many → gB sc 8 tr 1 k = lN (D k) ∧ D k < 4) (hD0 : ∀ k, many ≤ k → D k = 0) (k4 : fSt → Option (Unit × fSt)) (who sd : Int32) : ∀ n k (t : pSt) m, k + n = 12 → pOk G t → n < m → f_X3_playByHand_L9 i 0 tr (nI many) k4 m (nI k) (oS sc 3 i 0 7 (aNi t who sd)) = k4 (oS sc 3 i 0 7 (aNi (itq (hst G D) n k t) who sd)) := by
  intro n
  induction n with
  | zero =>
    intro k t m hk ht hm
    obtain ⟨m, rfl⟩ : ∃ m', m = m' + 1 := ⟨m - 1, by omega⟩
    rw [f_X3_playByHand_L9]
    simp (disch := omega) only [fLt_e, fBd_s, fJn_s, fNn_s, fNu_0, fNu_s, fBo_0, fBo_1, fBo_b, i_lit, i_neg1, nI_add, pk_mul, nI_clamp, i_le, i_lt, i_eq, fIx_n, nI_mI, mI_nI, mI_lt, nI_lt_m, mI_le, nI_le_m, xI_0, xI_s, bI_0, bI_1, bI_t, bI_f, n_31, j_bit, j_one, i_and, i_or, Nat.not_lt_zero, Nat.succ_ne_zero, Nat.add_one_ne_zero, Nat.add_one_sub_one, Nat.zero_le, Nat.or_zero, Nat.zero_or, Bool.not_true, Bool.not_false, Bool.true_and, Bool.false_and, Bool.and_true, Bool.and_false, ↓reduceIte, if_true, if_false, not_true_eq_false, not_false_eq_true, true_and, and_true, false_and, and_false, and_self, true_or, or_true, false_or, or_false, Nat.reduceEqDiff, Nat.reduceLT, Nat.reduceLeDiff, Nat.reduceAdd, Nat.reduceMul, Nat.reduceSub, Nat.add_zero, Nat.zero_add, Nat.mul_zero, Nat.zero_mul, ne_eq, Bool.not_eq_true, Bool.not_eq_false, reduceCtorEq, decide_true, decide_false, decide_eq_true_eq, decide_eq_false_iff_not, Bool.false_eq_true, if_pos, if_neg]
    rfl
  | succ n ih =>
    intro k t m hk ht hnm
    obtain ⟨m, rfl⟩ : ∃ m', m = m' + 1 := ⟨m - 1, by omega⟩
    have w1 := w.1
    have a1 := ht.1
    rw [f_X3_playByHand_L9]
    by_cases hz : t.1 = 0
    · simp (disch := omega) only [fLt_e, fBd_s, fJn_s, fNn_s, fNu_0, fNu_s, fBo_0, fBo_1, fBo_b, i_lit, i_neg1, nI_add, pk_mul, nI_clamp, i_le, i_lt, i_eq, fIx_n, nI_mI, mI_nI, mI_lt, nI_lt_m, mI_le, nI_le_m, xI_0, xI_s, bI_0, bI_1, bI_t, bI_f, n_31, j_bit, j_one, i_and, i_or, Nat.not_lt_zero, Nat.succ_ne_zero, Nat.add_one_ne_zero, Nat.add_one_sub_one, Nat.zero_le, Nat.or_zero, Nat.zero_or, Bool.not_true, Bool.not_false, Bool.true_and, Bool.false_and, Bool.and_true, Bool.and_false, ↓reduceIte, if_true, if_false, not_true_eq_false, not_false_eq_true, true_and, and_true, false_and, and_false, and_self, true_or, or_true, false_or, or_false, Nat.reduceEqDiff, Nat.reduceLT, Nat.reduceLeDiff, Nat.reduceAdd, Nat.reduceMul, Nat.reduceSub, Nat.add_zero, Nat.zero_add, Nat.mul_zero, Nat.zero_mul, ne_eq, Bool.not_eq_true, Bool.not_eq_false, reduceCtorEq, decide_true, decide_false, decide_eq_true_eq, decide_eq_false_iff_not, Bool.false_eq_true, if_pos, if_neg, gI_oS, aNi, hz]
      rw [itr_0 G D _ _ _ hz]
    · have hp : 0 < t.1 := by omega
      have hx : ¬ xI t.1 = mI := by
        rw [← xI_0, xI_eq (by omega) (by omega)]
        exact hz
      have hdk : D k < 4 := by
        by_cases hkm : k < many
        · exact (hD k hkm).2
        · rw [hD0 k (by omega)]; omega
      have hps := x_playScene H w (i := i) hp ht hdk t.2.2.2.2.2 who sd
      have hst' : hst G D k t = gst G (D k) t.2.2.2.2.2 t := if_neg hz
      have key : (fBd (f_X3_playScene i 0 (nI (D k)) (oS sc 3 i 0 7 (aNi t who sd))) fun _ s11 => f_X3_playByHand_L9 i 0 tr (nI many) k4 m (nI (k + 1)) s11) = k4 (oS sc 3 i 0 7 (aNi (itq (hst G D) (n + 1) k t) who sd)) := by
        rw [hps, fBd_s, ih (k + 1) _ m (by omega) (gst_ok w hp ht hdk ht.2.2.2.2.2) (by omega)]
        show _ = k4 (oS sc 3 i 0 7 (aNi (itq (hst G D) n (k + 1) (hst G D k t)) who sd))
        rw [hst']
      by_cases hkm : k < many
      · have e := (hD k hkm).1
        simp (disch := omega) only [fLt_e, fBd_s, fJn_s, fNn_s, fNu_0, fNu_s, fBo_0, fBo_1, fBo_b, i_lit, i_neg1, nI_add, pk_mul, nI_clamp, i_le, i_lt, i_eq, fIx_n, nI_mI, mI_nI, mI_lt, nI_lt_m, mI_le, nI_le_m, xI_0, xI_s, bI_0, bI_1, bI_t, bI_f, n_31, j_bit, j_one, i_and, i_or, Nat.not_lt_zero, Nat.succ_ne_zero, Nat.add_one_ne_zero, Nat.add_one_sub_one, Nat.zero_le, Nat.or_zero, Nat.zero_or, Bool.not_true, Bool.not_false, Bool.true_and, Bool.false_and, Bool.and_true, Bool.and_false, ↓reduceIte, if_true, if_false, not_true_eq_false, not_false_eq_true, true_and, and_true, false_and, and_false, and_self, true_or, or_true, false_or, or_false, Nat.reduceEqDiff, Nat.reduceLT, Nat.reduceLeDiff, Nat.reduceAdd, Nat.reduceMul, Nat.reduceSub, Nat.add_zero, Nat.zero_add, Nat.mul_zero, Nat.zero_mul, ne_eq, Bool.not_eq_true, Bool.not_eq_false, reduceCtorEq, decide_true, decide_false, decide_eq_true_eq, decide_eq_false_iff_not, Bool.false_eq_true, if_pos, if_neg, gI_oS, gB_oS, aNi, hx, e, lN_i]
        exact key
      · rw [hD0 k (by omega)] at key
        simp (disch := omega) only [fLt_e, fBd_s, fJn_s, fNn_s, fNu_0, fNu_s, fBo_0, fBo_1, fBo_b, i_lit, i_neg1, nI_add, pk_mul, nI_clamp, i_le, i_lt, i_eq, fIx_n, nI_mI, mI_nI, mI_lt, nI_lt_m, mI_le, nI_le_m, xI_0, xI_s, bI_0, bI_1, bI_t, bI_f, n_31, j_bit, j_one, i_and, i_or, Nat.not_lt_zero, Nat.succ_ne_zero, Nat.add_one_ne_zero, Nat.add_one_sub_one, Nat.zero_le, Nat.or_zero, Nat.zero_or, Bool.not_true, Bool.not_false, Bool.true_and, Bool.false_and, Bool.and_true, Bool.and_false, ↓reduceIte, if_true, if_false, not_true_eq_false, not_false_eq_true, true_and, and_true, false_and, and_false, and_self, true_or, or_true, false_or, or_false, Nat.reduceEqDiff, Nat.reduceLT, Nat.reduceLeDiff, Nat.reduceAdd, Nat.reduceMul, Nat.reduceSub, Nat.add_zero, Nat.zero_add, Nat.mul_zero, Nat.zero_mul, ne_eq, Bool.not_eq_true, Bool.not_eq_false, reduceCtorEq, decide_true, decide_false, decide_eq_true_eq, decide_eq_false_iff_not, Bool.false_eq_true, if_pos, if_neg, gI_oS, gB_oS, aNi, hx]
        exact key
theorem ms_end {t : pSt} {A : Nat → Int32} {rd : Int32} (A1 : A 25 = nI t.2.2.1) (A2 : A 27 = nI t.2.2.2.2.1) (A3 : A 28 = rd) (A4 : A 26 = xI t.2.2.2.1) : oS sm 12 0 25 29 A = oS sm 12 0 25 29 (aM t rd) := by
  refine oS_ext fun k hk0 hk => ?_
  rcases (show k = 25 ∨ k = 26 ∨ k = 27 ∨ k = 28 by omega) with rfl | rfl | rfl | rfl
  · exact A1
  · exact A4
  · exact A2
  · exact A3
theorem m_handL (B : rBlk (gA sm 12 0 5) G) (w : gWf G) {tr many : Nat} {D : Nat → Nat} (ht4 : tr < 4) (hm : many ≤ 12) (hD : ∀ k, k < many → gB sm 12 0 3 (60 * tr + k) = lN (D k) ∧ D k < 4) (hD0 : ∀ k, many ≤ k → D k = 0) (rd : Int32) : ∀ n k (t : pSt) m kl (A : Nat → Int32), t.1 ≤ n → k + n ≤ 12 → pOk G t → kl < 64 → t.2.1 = G 5 ||| kl → n < m → A 25 = nI t.2.2.1 → A 27 = nI t.2.2.2.2.1 → A 28 = rd → (t.1 = 0 → A 26 = xI t.2.2.2.1) → f_X12_night_L141 (nI tr) (nI many) m (xI t.1) (nI kl) (nI k) (oS sm 12 0 25 29 A) = fBd (f_X12_books (-1) (oS sm 12 0 25 29 (aM (itq (hst G D) n k t) rd))) fun _ s21 => some (gI s21 12 0 25, s21) := by
  intro n
  induction n with
  | zero =>
    intro k t m kl A htn hk ht hkl hg hm A1 A2 A3 A4
    obtain ⟨m, rfl⟩ : ∃ m', m = m' + 1 := ⟨m - 1, by omega⟩
    have hz : t.1 = 0 := by omega
    rw [f_X12_night_L141]
    rw [hz, xI_0, if_pos (by decide), ms_end A1 A2 A3 (A4 hz)]
    rfl
  | succ n ih =>
    intro k t m kl A htn hk ht hkl hg hnm A1 A2 A3 A4
    obtain ⟨m, rfl⟩ : ∃ m', m = m' + 1 := ⟨m - 1, by omega⟩
    have w1 := w.1
    have w2 := w.2.1
    have a1 := ht.1
    rw [f_X12_night_L141]
    by_cases hz : t.1 = 0
    · rw [hz, xI_0, if_pos (by decide), ms_end A1 A2 A3 (A4 hz), itr_0 G D _ _ _ hz]
    · have hp : 0 < t.1 := by omega
      obtain ⟨s, hs⟩ : ∃ s, t.1 = s + 1 := ⟨t.1 - 1, by omega⟩
      have hs2 : s < G 2 := by omega
      have hdk : D k < 4 := by
        by_cases hkm : k < many
        · exact (hD k hkm).2
        · rw [hD0 k (by omega)]; omega
      have hse := m_sees B w hp ht (D k) t.2.2.2.2.2 A1 A2
      rw [show t.1 - 1 = s by omega, A3] at hse
      have hbe := fun A => m_behind2 (rBlk_oS (lo := 25) (hi := 29) (a := A) B) w hs2 hdk hkl
      have hki := fun A => m_kills (g := kl) (rBlk_oS (lo := 25) (hi := 29) (a := A) B) w hs2
      have hst' : hst G D k t = gst G (D k) t.2.2.2.2.2 t := if_neg hz
      have hgk := gst_ok w hp ht hdk ht.2.2.2.2.2
      have hlt := gst_lt (r := t.2.2.2.2.2) w hp ht hdk
      have e1 : (gst G (D k) t.2.2.2.2.2 t).1 = gnx G s (D k) (G 5 ||| gkil G s kl) := by
        show gnx G (t.1 - 1) (D k) (gkil G (t.1 - 1) t.2.1) = _
        rw [hg, hs, Nat.add_sub_cancel, gkil_or]
      have e2 : (gst G (D k) t.2.2.2.2.2 t).2.1 = G 5 ||| gkil G s kl := by
        show gkil G (t.1 - 1) t.2.1 = _
        rw [hg, hs, Nat.add_sub_cancel, gkil_or]
      have key : (fBd (f_X12_behind2 (nI s) (nI (D k)) (nI kl) (oS sm 12 0 25 29 (aM (gst G (D k) t.2.2.2.2.2 t) rd))) fun x26 s27 => fBd (f_X12_kills (nI s) (nI kl) s27) fun x29 s30 => f_X12_night_L141 (nI tr) (nI many) m x26 x29 (nI (k + 1)) s30) = fBd (f_X12_books (-1) (oS sm 12 0 25 29 (aM (itq (hst G D) (n + 1) k t) rd))) fun _ s21 => some (gI s21 12 0 25, s21) := by
        rw [hbe, fBd_s, hki, fBd_s, ← e1, ih (k + 1) _ m (gkil G s kl) _ (by omega) (by omega) hgk (gkil_lt w hs2 hkl) e2 (by omega) rfl rfl rfl (fun _ => rfl)]
        show _ = fBd (f_X12_books (-1) (oS sm 12 0 25 29 (aM (itq (hst G D) n (k + 1) (hst G D k t)) rd))) _
        rw [hst']
      rw [hs, xI_s]
      by_cases hkm : k < many
      · have e := (hD k hkm).1
        unfold f_X12_numberOf
        simp (disch := omega) only [fLt_e, fBd_s, fJn_s, fNn_s, fNu_0, fNu_s, fBo_0, fBo_1, fBo_b, i_lit, i_neg1, nI_add, pk_mul, nI_clamp, i_le, i_lt, i_eq, fIx_n, nI_mI, mI_nI, mI_lt, nI_lt_m, mI_le, nI_le_m, xI_0, xI_s, bI_0, bI_1, bI_t, bI_f, n_31, j_bit, j_one, i_and, i_or, Nat.not_lt_zero, Nat.succ_ne_zero, Nat.add_one_ne_zero, Nat.add_one_sub_one, Nat.zero_le, Nat.or_zero, Nat.zero_or, Bool.not_true, Bool.not_false, Bool.true_and, Bool.false_and, Bool.and_true, Bool.and_false, ↓reduceIte, if_true, if_false, not_true_eq_false, not_false_eq_true, true_and, and_true, false_and, and_false, and_self, true_or, or_true, false_or, or_false, Nat.reduceEqDiff, Nat.reduceLT, Nat.reduceLeDiff, Nat.reduceAdd, Nat.reduceMul, Nat.reduceSub, Nat.add_zero, Nat.zero_add, Nat.mul_zero, Nat.zero_mul, ne_eq, Bool.not_eq_true, Bool.not_eq_false, reduceCtorEq, decide_true, decide_false, decide_eq_true_eq, decide_eq_false_iff_not, Bool.false_eq_true, if_pos, if_neg, hse, gB_oS, e, lN_i]
        simp only [i_lit, i_neg1] at key
        exact key
      · rw [hD0 k (by omega)] at key
        simp (disch := omega) only [fLt_e, fBd_s, fJn_s, fNn_s, fNu_0, fNu_s, fBo_0, fBo_1, fBo_b, i_lit, i_neg1, nI_add, pk_mul, nI_clamp, i_le, i_lt, i_eq, fIx_n, nI_mI, mI_nI, mI_lt, nI_lt_m, mI_le, nI_le_m, xI_0, xI_s, bI_0, bI_1, bI_t, bI_f, n_31, j_bit, j_one, i_and, i_or, Nat.not_lt_zero, Nat.succ_ne_zero, Nat.add_one_ne_zero, Nat.add_one_sub_one, Nat.zero_le, Nat.or_zero, Nat.zero_or, Bool.not_true, Bool.not_false, Bool.true_and, Bool.false_and, Bool.and_true, Bool.and_false, ↓reduceIte, if_true, if_false, not_true_eq_false, not_false_eq_true, true_and, and_true, false_and, and_false, and_self, true_or, or_true, false_or, or_false, Nat.reduceEqDiff, Nat.reduceLT, Nat.reduceLeDiff, Nat.reduceAdd, Nat.reduceMul, Nat.reduceSub, Nat.add_zero, Nat.zero_add, Nat.mul_zero, Nat.zero_mul, ne_eq, Bool.not_eq_true, Bool.not_eq_false, reduceCtorEq, decide_true, decide_false, decide_eq_true_eq, decide_eq_false_iff_not, Bool.false_eq_true, if_pos, if_neg, hse]
        simp only [i_lit, i_neg1] at key
        exact key
end
