/-! layer 2: the call week -/
section
variable {n : Nat} {c : Nat → Nat} {G : Nat → Nat} {w q : Nat}
theorem lw_step {t : fSt} (h : gI t 12 0 12 = nI 0) (h0 : ¬ gI t 12 0 14 = nI 0) (k7 : fSt → Option (Int32 × fSt)) (F : Nat) : f_X12_week_L28 k7 (F + 1) t = fBd (f_X12_readStep 6 (nI 0) t) fun _ s => f_X12_week_L28 k7 F s := by
  conv => lhs; unfold f_X12_week_L28
  rw [if_neg (fun g => g h), if_neg (show ¬ gI t 12 0 14 = (0 : Int32) from h0)]
  rfl
theorem lw_end {t : fSt} (h : gI t 12 0 12 = nI 0) (h0 : gI t 12 0 14 = nI 0) (k7 : fSt → Option (Int32 × fSt)) (F : Nat) : f_X12_week_L28 k7 (F + 1) t = k7 t := by
  conv => lhs; unfold f_X12_week_L28
  rw [if_neg (fun g => g h), if_pos (show gI t 12 0 14 = (0 : Int32) from h0)]
theorem lw_bad {t : fSt} (h : bad t) (k7 : fSt → Option (Int32 × fSt)) (F : Nat) : f_X12_week_L28 k7 (F + 1) t = k7 t := by
  conv => lhs; unfold f_X12_week_L28
  rw [if_pos (bad_ne h)]
theorem wk_top (hn : n ≤ 300) : ∀ e (s t : fSt) (V : Nat → Nat) i j a0 p so k Fm, 31 ≤ j + e → psR s t n c a0 p so → hsR s t q G → wkZ w i j 0 s t → JJ k p so → (∀ x, x < 4 → V x = G x) → e + 2 < Fm →
    (∃ s' t' d e, flR s' t' d e ∧ xV w (fun _ => True) (stD i 0) s s' ∧ yV (eW j) t t' ∧ (∀ F, 310 ≤ F + k → f_X9_readFrom_L2 w q (wEnd w) F (nI k) s = some (nI 0, s')) ∧ ∀ k7, f_X12_week_L28 k7 Fm t = k7 t') ∨
    (∃ s' t' V' i' j' a' p', psR s' t' n c a' p' 35 ∧ (∀ x, x < 219 + 7 * j → V' x = V x) ∧ cel t' V' j j' ∧ j ≤ j' ∧ (∃ m, rBod s' w V' m 3 j j' i i') ∧ wkZ w i' j' 0 s' t' ∧ xV w (fun _ => True) (stD i 0) s s' ∧ yV (eW j) t t' ∧ (∀ F, 310 ≤ F + k → f_X9_readFrom_L2 w q (wEnd w) F (nI k) s = some (nI 1, s')) ∧ ∀ k7, f_X12_week_L28 k7 Fm t = k7 t') := by
  intro e
  induction e with
  | zero =>
    intro s t V i j a0 p so k Fm he P hs Z J hV hF
    have := Z.2.2.2.1
    omega
  | succ e ih =>
    intro s t V i j a0 p so k Fm he P hs Z J hV hF
    obtain ⟨Fm, rfl⟩ : ∃ F, Fm = F + 2 := ⟨Fm - 2, by omega⟩
    have hso := ps_so P
    have h64 := tok_35 P.2.1
    have hb := P.2.2.2.1
    have hpp := P.2.2.1.2.2.2.2
    have ht := ps_t0 P
    have hJ := J.1
    by_cases h35 : so = 35
    · subst h35
      refine Or.inr ⟨s, t, V, i, j, a0, p, P, fun _ _ => rfl, fun x h1 h2 => by omega, Nat.le_refl _, ⟨0, rfl, rfl⟩, Z, xV_rf s, yV_rf t, fun F hF => ?_, fun k7 => lw_end hb (ht.mpr rfl) k7 _⟩
      obtain ⟨F, rfl⟩ : ∃ F', F = F' + 1 := ⟨F - 1, by omega⟩
      rw [wl_35 (by omega) hso]
      unfold wEnd
      rw [if_pos (show gI s 9 w 7 = (0 : Int32) from Z.1.2.2)]
      exact fBo_ye
    have h0 : ¬ gI t 12 0 14 = nI 0 := fun h => h35 (ht.mp h)
    have hk := J.2 h35
    by_cases h30 : so = 30
    · obtain ⟨s', t', w1, w2, F, f, g⟩ := hd_wrong (rec := f_X12_readStep 5) (a := 0) P (by rw [h30]; rfl)
      refine Or.inl ⟨s', t', _, _, F, xV_x f, yV_y g, fun F hF => ?_, fun k7 => ?_⟩
      · obtain ⟨F, rfl⟩ : ∃ F', F = F' + 1 := ⟨F - 1, by omega⟩
        have i3 := x_isIn (nI 0) (nI 1) (nI 3) s
        rw [nI_toInt (by omega), nI_toInt (by omega), nI_toInt (by omega), inB_f.mpr (by omega)] at i3
        have h7 := Z.1.2.2
        have hre : f_X9_readEnd w s = some (nI 0, s') := by
          unfold f_X9_readEnd
          simp (disch := omega) only [↓fLt_e, fBd_s, ↓fJn_s, fNn_s, fNu_0, fNu_s, fBo_0, fBo_1, fBo_b, i_lit, i_neg1, nI_add, pk_mul, nI_clamp, i_le, i_lt, i_eq, fIx_n, nI_mI, mI_nI, mI_lt, nI_lt_m, mI_le, nI_le_m, xI_0, xI_s, bI_0, bI_1, bI_t, bI_f, n_31, j_bit, j_one, i_and, i_or, Nat.not_lt_zero, Nat.succ_ne_zero, Nat.add_one_ne_zero, Nat.add_one_sub_one, Nat.zero_le, Nat.or_zero, Nat.zero_or, Bool.not_true, Bool.not_false, Bool.true_and, Bool.false_and, Bool.and_true, Bool.and_false, ↓reduceIte, if_true, if_false, not_true_eq_false, not_false_eq_true, true_and, and_true, false_and, and_false, and_self, true_or, or_true, false_or, or_false, Nat.reduceEqDiff, Nat.reduceLT, Nat.reduceLeDiff, Nat.reduceAdd, Nat.reduceMul, Nat.reduceSub, Nat.add_zero, Nat.zero_add, Nat.mul_zero, Nat.zero_mul, ne_eq, Bool.not_eq_true, Bool.not_eq_false, reduceCtorEq, decide_true, decide_false, decide_eq_true_eq, decide_eq_false_iff_not, Bool.false_eq_true, if_pos, if_neg, h7, i3, w1]
        rw [wl_endw (by omega) (by rw [hso, h30]), hre, fBd_s, if_neg (by decide)]
      · rw [lw_step hb h0, show f_X12_readStep 6 (nI 0) t = some ((), t') from w2, fBd_s]
        exact lw_bad (bad_fl F) k7 _
    rcases wk_step hn 3 0 6 (by omega) (by omega) s t V i j a0 p so k P hs Z J h30 h35 hV with ⟨s', t', d, e', F, f, g, hX, hM⟩ | ⟨s1, t1, V1, i1, j1, u1, a1, p1, o1, P1, J1, hV1, hc1, hj1, ⟨m1, hb1⟩, Z1, f1, g1, hX1, hM1⟩
    · refine Or.inl ⟨s', t', d, e', F, f, g, hX, fun k7 => ?_⟩
      rw [lw_step hb h0, hM, fBd_s]
      exact lw_bad (bad_fl F) k7 _
    · have hs1 := hsR_V hs f1 g1 (fun m h => eW_le h)
      have li := (rBod_lx _ _ _ _ _ _ hb1).2
      have hV4 : ∀ x, x < 4 → V1 x = G x := fun x hx => (hV1 x (by omega)).trans (hV x hx)
      have hD : ∀ k m, stD i1 0 k m → stD i 0 k m := fun k m h => by unfold stD at *; omega
      have hE : ∀ m, eW j1 m → eW j m := fun m h => by unfold eW at *; omega
      have hu : k + u1 ≤ 300 := by have := J1.1; have := P1.2.2.1.2.2.2.2; omega
      have hL : ∀ k7, f_X12_week_L28 k7 (Fm + 2) t = f_X12_week_L28 k7 (Fm + 1) t1 := fun k7 => by rw [lw_step hb h0, hM1, fBd_s]
      rcases ih s1 t1 V1 i1 j1 a1 p1 o1 (k + u1) (Fm + 1) (by omega) P1 hs1 Z1 J1 hV4 (by omega) with ⟨s', t', d, e', F, f, g, hX, hM⟩ | ⟨s2, t2, V2, i2, j2, a2, p2, P2, hV2, hc2, hj2, ⟨m2, hb2⟩, Z2, f2, g2, hX2, hM2⟩
      · refine Or.inl ⟨s', t', d, e', F, xV_tr f1 (xV_mono f (fun _ h => h) hD), yV_tr g1 (yV_mono g hE), fun F hF => ?_, fun k7 => (hL k7).trans (hM k7)⟩
        obtain ⟨F, rfl⟩ : ∃ F', F = F' + u1 := ⟨F - u1, by omega⟩
        rw [hX1]
        exact hX F (by omega)
      · obtain ⟨m3, hb3⟩ := rBod_app _ _ _ _ _ _ (rBod_fr (s' := s2) (G' := V2) _ _ _ _ _ _ hb1 (fun k x v1 v2 h1 h2 => f2.2.2.1 _ _ _ _ (fun e => by have := e.2.2; unfold stD at this; omega)) (fun x hx => hV2 x (by omega)) (fun x h1 h2 => hV2 x h2)) _ _ _ hb2
        refine Or.inr ⟨s2, t2, V2, i2, j2, a2, p2, P2, fun x hx => (hV2 x (by omega)).trans (hV1 x hx), cel_app (cel_fr hc1 (fun m h1 h2 => g2.2.2.1 _ _ _ _ (fun e => by have := e.2.2.2; unfold eW at this; omega)) (fun x h1 h2 => hV2 x h2)) hc2, by omega, ⟨m3, hb3⟩, Z2, xV_tr f1 (xV_mono f2 (fun _ h => h) hD), yV_tr g1 (yV_mono g2 hE), fun F hF => ?_, fun k7 => (hL k7).trans (hM2 k7)⟩
        obtain ⟨F, rfl⟩ : ∃ F', F = F' + u1 := ⟨F - u1, by omega⟩
        rw [hX1]
        exact hX2 F (by omega)
end
theorem lm82 {J : Nat} (hJ : J ≤ 30) (t : fSt) (h : gI t 12 0 24 = nI J) : f_X12_week_L82 fF (nI 0) t = some (nI J, sA t 12 0 5 (fun p => if 219 ≤ p ∧ p < 219 + 7 * J then gA t 12 0 5 (1720 + p) else gA t 12 0 5 p)) := by
  obtain ⟨m, e⟩ := lp_run (fun m (z : Int32 × fSt) => f_X12_week_L82 m z.1 z.2) (fun i => (nI i, sA t 12 0 5 (fun p => if 219 ≤ p ∧ p < 219 + i then gA t 12 0 5 (1720 + p) else gA t 12 0 5 p))) (7 * J) (fun m i hi => by
    show f_X12_week_L82 (m + 1) (nI i) (sA t 12 0 5 (fun p => if 219 ≤ p ∧ p < 219 + i then gA t 12 0 5 (1720 + p) else gA t 12 0 5 p)) = f_X12_week_L82 m (nI (i + 1)) (sA t 12 0 5 (fun p => if 219 ≤ p ∧ p < 219 + (i + 1) then gA t 12 0 5 (1720 + p) else gA t 12 0 5 p))
    rw [f_X12_week_L82]
    have hle : ¬ 7 * J ≤ i := by omega
    simp (disch := omega) only [fLt_e, fBd_s, fJn_s, fNn_s, fNu_0, fNu_s, fBo_0, fBo_1, fBo_b, i_lit, i_neg1, nI_add, pk_mul, nI_clamp, i_le, i_lt, i_eq, fIx_n, nI_mI, mI_nI, mI_lt, nI_lt_m, mI_le, nI_le_m, xI_0, xI_s, bI_0, bI_1, bI_t, bI_f, n_31, j_bit, j_one, i_and, i_or, Nat.not_lt_zero, Nat.succ_ne_zero, Nat.add_one_ne_zero, Nat.add_one_sub_one, Nat.zero_le, Nat.or_zero, Nat.zero_or, Bool.not_true, Bool.not_false, Bool.true_and, Bool.false_and, Bool.and_true, Bool.and_false, ↓reduceIte, if_true, if_false, not_true_eq_false, not_false_eq_true, true_and, and_true, false_and, and_false, and_self, true_or, or_true, false_or, or_false, Nat.reduceEqDiff, Nat.reduceLT, Nat.reduceLeDiff, Nat.reduceAdd, Nat.reduceMul, Nat.reduceSub, Nat.add_zero, Nat.zero_add, Nat.mul_zero, Nat.zero_mul, ne_eq, Bool.not_eq_true, Bool.not_eq_false, reduceCtorEq, decide_true, decide_false, decide_eq_true_eq, decide_eq_false_iff_not, Bool.false_eq_true, if_pos, if_neg, gA_same, sA_sA, gI_sA, h, hle]
    congr 2
    funext p
    rw [upd_at]
    by_cases hp : p = 219 + i
    · rw [if_pos hp, if_pos (by omega), hp, show 1720 + (219 + i) = 1939 + i by omega]
    · rw [if_neg hp]
      by_cases hp2 : 219 ≤ p ∧ p < 219 + i
      · rw [if_pos hp2, if_pos (by omega)]
      · rw [if_neg hp2, if_neg (by omega)]) (fF_lt (by omega))
  refine Eq.trans ?_ (Eq.trans e ?_)
  · show _ = f_X12_week_L82 fF (nI 0) (sA t 12 0 5 (fun p => if 219 ≤ p ∧ p < 219 + 0 then gA t 12 0 5 (1720 + p) else gA t 12 0 5 p))
    rw [show (fun p => if 219 ≤ p ∧ p < 219 + 0 then gA t 12 0 5 (1720 + p) else gA t 12 0 5 p) = gA t 12 0 5 from funext fun p => if_neg (by omega), sA_self]
  · show f_X12_week_L82 (m + 1) (nI (7 * J)) (sA t 12 0 5 (fun p => if 219 ≤ p ∧ p < 219 + 7 * J then gA t 12 0 5 (1720 + p) else gA t 12 0 5 p)) = _
    rw [f_X12_week_L82]
    simp (disch := omega) only [fLt_e, fBd_s, fJn_s, fNn_s, fNu_0, fNu_s, fBo_0, fBo_1, fBo_b, i_lit, i_neg1, nI_add, pk_mul, nI_clamp, i_le, i_lt, i_eq, fIx_n, nI_mI, mI_nI, mI_lt, nI_lt_m, mI_le, nI_le_m, xI_0, xI_s, bI_0, bI_1, bI_t, bI_f, n_31, j_bit, j_one, i_and, i_or, Nat.not_lt_zero, Nat.succ_ne_zero, Nat.add_one_ne_zero, Nat.add_one_sub_one, Nat.zero_le, Nat.or_zero, Nat.zero_or, Bool.not_true, Bool.not_false, Bool.true_and, Bool.false_and, Bool.and_true, Bool.and_false, ↓reduceIte, if_true, if_false, not_true_eq_false, not_false_eq_true, true_and, and_true, false_and, and_false, and_self, true_or, or_true, false_or, or_false, Nat.reduceEqDiff, Nat.reduceLT, Nat.reduceLeDiff, Nat.reduceAdd, Nat.reduceMul, Nat.reduceSub, Nat.add_zero, Nat.zero_add, Nat.mul_zero, Nat.zero_mul, ne_eq, Bool.not_eq_true, Bool.not_eq_false, reduceCtorEq, decide_true, decide_false, decide_eq_true_eq, decide_eq_false_iff_not, Bool.false_eq_true, if_pos, if_neg, gI_sA, h]
theorem gWf_cg {G G' : Nat → Nat} (h : ∀ k, k < 217 → G' k = G k) (W : gWf G) : gWf G' := by
  obtain ⟨⟨w0, w1, w2, w3⟩, ⟨w4, w5, w6⟩, u1, u2, u3, u4⟩ := W
  have e0 := h 0 (by omega)
  have e1 := h 1 (by omega)
  have e2 := h 2 (by omega)
  have e3 := h 3 (by omega)
  have e4 := h 4 (by omega)
  have e5 := h 5 (by omega)
  have e6 := h 6 (by omega)
  unfold gWf
  rw [e0, e1, e2, e3, e4, e5, e6]
  refine ⟨⟨w0, w1, w2, w3⟩, ⟨w4, w5, w6⟩, fun a ha => ?_, fun s hs => ?_, fun k hk => ?_, fun i hi => ?_⟩
  · rw [h _ (by omega), h _ (by omega), h _ (by omega)]; exact u1 a ha
  · rw [h _ (by omega), h _ (by omega), h _ (by omega), h _ (by omega), h _ (by omega), h _ (by omega), h _ (by omega), h _ (by omega)]; exact u2 s hs
  · rw [h _ (by omega), h _ (by omega), h _ (by omega), h _ (by omega)]; exact u3 k hk
  · rw [h _ (by omega), h _ (by omega), h _ (by omega), h _ (by omega)]; exact u4 i hi
theorem hsR_of {s t : fSt} {q : Nat} {G : Nat → Nat} (H : rOne s t 0 q G) : hsR s t q G := by
  obtain ⟨⟨⟨w0, w1, w2, w3⟩, -⟩, ⟨-, T, -⟩, B, N, -⟩ := H
  obtain ⟨n0, n1, n2, n3⟩ := N
  refine ⟨⟨w0, w2, w3⟩, ⟨T.1.1, T.1.2.2.1, T.1.2.2.2⟩, ⟨B.1.1, B.1.2.2.1, B.1.2.2.2.1⟩, fun k hk => ?_, fun k hk => ?_, fun k hk => ?_⟩
  · exact (n0 k hk).trans (congrArg (gB t 12 0 7) (by omega))
  · exact (n2 k hk).trans (congrArg (gB t 12 0 7) (by omega))
  · exact (n3 k hk).trans (congrArg (gB t 12 0 7) (by omega))
theorem rOne_rd {d q' : Nat} {sc sm s t : fSt} (f : xH d q' sc s) (g : yH sm t) (hd : (d = 7 ∧ ∀ i, i < 4 → gP sc 2 i 0 ≤ q') ∨ (d = 9 ∧ ∀ i, i < 4 → gP sc 2 i 1 ≤ q')) {h q : Nat} {G : Nat → Nat} (hh : h < 4) (H : rOne sc sm h q G) : rOne s t h q G := by
  obtain ⟨f1, f2, f3, f4, f5⟩ := f
  obtain ⟨g1, g2, g3, g4, g5, g6⟩ := g
  have d79 : d = 7 ∨ d = 9 := by
    rcases hd with ⟨h, -⟩ | ⟨h, -⟩
    · exact Or.inl h
    · exact Or.inr h
  refine rOne_g (by rw [f5]) (by rw [f5]) ⟨f1 _ _ _ (by omega) (by omega), f1 _ _ _ (by omega) (by omega)⟩ ⟨f1 _ _ _ (by omega) (by omega), f3 _ _ _ (by omega)⟩ (fun hp => ?_) (fun w hp => ?_) (fun k hk => g4 _ (by omega)) (fun k hk => g6 _ (by omega)) H
  · have hne : ¬ (7 = d ∧ q = q') := by
      rintro ⟨e1, e2⟩
      rcases hd with ⟨-, hd⟩ | ⟨hd, -⟩
      · have := hd h hh
        omega
      · omega
    exact ⟨fun k => f1 _ _ _ (by omega) hne, fun k => f3 _ _ _ hne, fun k => f4 _ _ _ hne⟩
  · have hne : ¬ (9 = d ∧ w = q') := by
      rintro ⟨e1, e2⟩
      rcases hd with ⟨hd, -⟩ | ⟨-, hd⟩
      · omega
      · have := hd h hh
        omega
    exact ⟨fun k => f1 _ _ _ (by omega) hne, fun k => f3 _ _ _ hne⟩
