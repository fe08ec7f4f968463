/-! layer 2: a play of a week -/
def agB (G G' : Nat → Nat) : Prop := ∀ k, (k < 6 ∨ (7 ≤ k ∧ k < 137) ∨ 217 ≤ k) → G k = G' k
def cFc (i : Nat) (no : Bool) (c j k : Nat) : Prop := (c = 10 ∧ j = i) ∨ (c = 3 ∧ j = i + 1) ∨ (c = 2 ∧ j = 0 ∧ (k = 2 ∨ k = 3)) ∨ (no = true ∧ c = 0 ∧ j = 0)
def cFr (i : Nat) (no : Bool) (s t : fSt) : Prop := (∀ c j k, ¬ cFc i no c j k → gI t c j k = gI s c j k ∧ gL t c j k = gL s c j k ∧ gA t c j k = gA s c j k ∧ gB t c j k = gB s c j k) ∧ ∀ c j k, gP t c j k = gP s c j k
def mFc (c j k : Nat) : Prop := c = 12 ∧ j = 0 ∧ (k = 5 ∨ (25 ≤ k ∧ k < 29) ∨ (57 ≤ k ∧ k < 65))
def mFr (s t : fSt) : Prop := (∀ c j k, ¬ mFc c j k → gI t c j k = gI s c j k ∧ gL t c j k = gL s c j k ∧ gA t c j k = gA s c j k ∧ gB t c j k = gB s c j k ∧ gP t c j k = gP s c j k) ∧ ∀ p, p < 4 ∨ (7 ≤ p ∧ p < 137) ∨ 217 ≤ p → gA t 12 0 5 p = gA s 12 0 5 p
theorem cFr_rf (i : Nat) (no : Bool) (s : fSt) : cFr i no s s := ⟨fun _ _ _ _ => ⟨rfl, rfl, rfl, rfl⟩, fun _ _ _ => rfl⟩
theorem cFr_tr {i : Nat} {no : Bool} {s t u : fSt} (h : cFr i no s t) (g : cFr i no t u) : cFr i no s u := by
  refine ⟨fun c j k hc => ?_, fun c j k => by rw [g.2, h.2]⟩
  obtain ⟨a1, a2, a3, a4⟩ := h.1 c j k hc
  obtain ⟨b1, b2, b3, b4⟩ := g.1 c j k hc
  exact ⟨by rw [b1, a1], by rw [b2, a2], by rw [b3, a3], by rw [b4, a4]⟩
theorem cFr_I {i : Nat} {no : Bool} {s t : fSt} {c j k : Nat} {v : Int32} (hc : cFc i no c j k) (h : cFr i no s t) : cFr i no s (sI t c j k v) := by
  refine ⟨fun c' j' k' hn => ?_, h.2⟩
  obtain ⟨a1, a2, a3, a4⟩ := h.1 c' j' k' hn
  refine ⟨?_, a2, a3, a4⟩
  rw [gI_sI, if_neg (fun e => hn (by rw [e.1, e.2.1, e.2.2]; exact hc)), a1]
theorem cFr_A {i : Nat} {no : Bool} {s t : fSt} {c j k : Nat} {v : Nat → Int32} (hc : cFc i no c j k) (h : cFr i no s t) : cFr i no s (sA t c j k v) := by
  refine ⟨fun c' j' k' hn => ?_, h.2⟩
  obtain ⟨a1, a2, a3, a4⟩ := h.1 c' j' k' hn
  refine ⟨a1, a2, ?_, a4⟩
  rw [gA_sA, if_neg (fun e => hn (by rw [e.1, e.2.1, e.2.2]; exact hc)), a3]
theorem cFr_o {i : Nat} {no : Bool} {s t : fSt} {a : Nat → Int32} (h : cFr i no s t) : cFr i no s (oS t 3 (i + 1) 0 7 a) := by
  refine ⟨fun c' j' k' hn => ?_, h.2⟩
  obtain ⟨a1, a2, a3, a4⟩ := h.1 c' j' k' hn
  refine ⟨?_, a2, a3, a4⟩
  rw [gI_oS, if_neg (fun e => hn (Or.inr (Or.inl ⟨e.1, e.2.1⟩))), a1]
theorem mFr_rf (s : fSt) : mFr s s := ⟨fun _ _ _ _ => ⟨rfl, rfl, rfl, rfl, rfl⟩, fun _ _ => rfl⟩
theorem mFr_tr {s t u : fSt} (h : mFr s t) (g : mFr t u) : mFr s u := by
  refine ⟨fun c j k hc => ?_, fun p hp => by rw [g.2 p hp, h.2 p hp]⟩
  obtain ⟨a1, a2, a3, a4, a5⟩ := h.1 c j k hc
  obtain ⟨b1, b2, b3, b4, b5⟩ := g.1 c j k hc
  exact ⟨by rw [b1, a1], by rw [b2, a2], by rw [b3, a3], by rw [b4, a4], by rw [b5, a5]⟩
theorem mFr_I {s t : fSt} {k : Nat} {v : Int32} (hc : (25 ≤ k ∧ k < 29) ∨ (57 ≤ k ∧ k < 65)) (h : mFr s t) : mFr s (sI t 12 0 k v) := by
  refine ⟨fun c' j' k' hn => ?_, h.2⟩
  obtain ⟨a1, a2, a3, a4, a5⟩ := h.1 c' j' k' hn
  refine ⟨?_, a2, a3, a4, a5⟩
  rw [gI_sI, if_neg (fun e => hn (by rw [e.1, e.2.1, e.2.2]; exact ⟨rfl, rfl, Or.inr hc⟩)), a1]
theorem mFr_o {s t : fSt} {a : Nat → Int32} (h : mFr s t) : mFr s (oS t 12 0 25 29 a) := by
  refine ⟨fun c' j' k' hn => ?_, h.2⟩
  obtain ⟨a1, a2, a3, a4, a5⟩ := h.1 c' j' k' hn
  refine ⟨?_, a2, a3, a4, a5⟩
  rw [gI_oS, if_neg (fun e => hn ⟨e.1, e.2.1, Or.inr (Or.inl e.2.2)⟩), a1]
theorem mFr_A {s t : fSt} {v : Nat → Int32} (hv : ∀ p, p < 4 ∨ (7 ≤ p ∧ p < 137) ∨ 217 ≤ p → v p = gA t 12 0 5 p) (h : mFr s t) : mFr s (sA t 12 0 5 v) := by
  refine ⟨fun c' j' k' hn => ?_, fun p hp => ?_⟩
  · obtain ⟨a1, a2, a3, a4, a5⟩ := h.1 c' j' k' hn
    refine ⟨a1, a2, ?_, a4, a5⟩
    rw [gA_sA, if_neg (fun e => hn ⟨e.1, e.2.1, Or.inl e.2.2⟩), a3]
  · rw [gA_same, hv p hp, h.2 p hp]
-- the same night on both sides
section
variable {G G' : Nat → Nat}
theorem gnx_ag (h : agB G G') (w : gWf G) {s d g : Nat} (hs : s < G 2) (hd : d < 4) : gnx G s d g = gnx G' s d g := by
  have w1 := w.1
  have hw := gway_le w hs hd
  have e1 : gway G s d = gway G' s d := by
    unfold gway
    rw [h (61 + 12 * d + s) (by omega), h (61 + s) (by omega)]
  unfold gnx gpl
  rw [← e1]
  by_cases h0 : gway G s d = 0
  · rw [if_pos h0, if_pos h0]
  · rw [if_neg h0, if_neg h0]
    unfold gcan
    rw [h 4 (by omega), h (37 + (gway G s d - 1)) (by omega)]
theorem gkil_ag (h : agB G G') {s g : Nat} (hs : s < 12) : gkil G s g = gkil G' s g := by
  unfold gkil
  rw [h (109 + s) (by omega)]
theorem gst_ag (h : agB G G') (w : gWf G) {d r : Nat} {t : pSt} (h0 : 0 < t.1) (ht : t.1 ≤ G 2) (hd : d < 4) : gst G d r t = gst G' d r t := by
  have w1 := w.1
  unfold gst gbr
  rw [gkil_ag h (show t.1 - 1 < 12 by omega), gnx_ag h w (show t.1 - 1 < G 2 by omega) hd, h (49 + (t.1 - 1)) (by omega), h (25 + (t.1 - 1)) (by omega), h (37 + (t.1 - 1)) (by omega)]
theorem lsq_ag (h : agB G G') (w : gWf G) {kd : Nat} (hkd : kd < G 3) : ∀ n k t, pOk G t → itq (lsq G kd) n k t = itq (lsq G' kd) n k t := by
  have w1 := w.1
  intro n
  induction n with
  | zero => intro k t _; rfl
  | succ n ih =>
    intro k t ht
    show itq (lsq G kd) n (k + 1) (lsq G kd k t) = itq (lsq G' kd) n (k + 1) (lsq G' kd k t)
    have hda : ∀ v, gda G kd v = gda G' kd v := by
      intro v
      unfold gda
      rw [h (125 + kd) (by omega), h (129 + kd) (by omega), h (133 + kd) (by omega)]
    have hst : lsq G kd k t = lsq G' kd k t := by
      unfold lsq
      by_cases h0 : t.1 = 0
      · rw [if_pos h0, if_pos h0]
      · rw [if_neg h0, if_neg h0, ← hda]
        exact gst_ag h w (by omega) ht.1 (gda_lt G kd _)
    rw [← hst]
    refine ih (k + 1) _ ?_
    unfold lsq
    by_cases h0 : t.1 = 0
    · rw [if_pos h0]; exact ht
    · rw [if_neg h0]
      exact gst_ok w (by omega) ht (gda_lt G kd _) (rnx_lt _)
theorem gln_ag (h : agB G G') (w : gWf G) {kd r : Nat} (hkd : kd < G 3) (hr : r < 65536) : gln G kd r = gln G' kd r := by
  have w1 := w.1
  have w2 := w.2.1
  unfold gln
  rw [lsq_ag h w hkd 12 0 _ ⟨Nat.le_refl _, w2.2.1, by simp, by simp, by simp; omega, by simp; omega⟩, h 2 (by omega), h 5 (by omega)]
theorem gpl_ag (h : agB G G') (w : gWf G) : gpl G (G 2) (G 5) = gpl G' (G' 2) (G' 5) := by
  have w1 := w.1
  rw [← h 2 (by omega), ← h 5 (by omega)]
  unfold gpl
  by_cases h0 : G 2 = 0
  · rw [if_pos h0, if_pos h0]
  · rw [if_neg h0, if_neg h0]
    unfold gcan
    rw [h 4 (by omega), h (37 + (G 2 - 1)) (by omega)]
theorem gdk_ag (h : agB G G') : ∀ n v k, k + n < 16 → gdk G n v k = gdk G' n v k := by
  intro n
  induction n with
  | zero => intro v k _; rfl
  | succ n ih =>
    intro v k hk
    unfold gdk
    rw [h (121 + k) (by omega), ih _ _ (by omega)]
theorem glt_ag (h : agB G G') (w : gWf G) : glt G = glt G' := by
  have w1 := w.1
  unfold glt
  rw [← h 3 (by omega)]
  exact zs_cong (fun k hk => h (121 + k) (by omega))
def kdr (G : Nat → Nat) (a r : Nat) : Nat × Nat := if a = 0 then (gdk G (G 3 - 1) (rnx r / 8 % glt G) 0, rnx r) else (a - 1, r)
theorem kdr_ok (w : gWf G) {a r : Nat} (ha : a ≤ G 3) (h3 : 0 < G 3) (hr : r < 65536) : (kdr G a r).1 < G 3 ∧ (kdr G a r).2 < 65536 := by
  unfold kdr
  split
  · have := gdk_le G (G 3 - 1) (rnx r / 8 % glt G) 0
    exact ⟨by show gdk G (G 3 - 1) (rnx r / 8 % glt G) 0 < G 3; omega, rnx_lt r⟩
  · exact ⟨by show a - 1 < G 3; omega, hr⟩
theorem kdr_ag (h : agB G G') (w : gWf G) (a r : Nat) : kdr G a r = kdr G' a r := by
  have w1 := w.1
  unfold kdr
  rw [glt_ag h w, ← h 3 (by omega), gdk_ag h _ _ _ (by omega)]
def tFn (G : Nat → Nat) (a r : Nat) : pSt := gln G (kdr G a r).1 (kdr G a r).2
theorem tFn_ag (h : agB G G') (w : gWf G) {a r : Nat} (ha : a ≤ G 3) (h3 : 0 < G 3) (hr : r < 65536) : tFn G a r = tFn G' a r := by
  obtain ⟨k1, k2⟩ := kdr_ok w ha h3 hr
  unfold tFn
  rw [← kdr_ag h w, gln_ag h w k1 k2]
theorem tFn_ok (w : gWf G) (hz : ¬ gpl G (G 2) (G 5) = 0) {a r : Nat} (ha : a ≤ G 3) (h3 : 0 < G 3) (hr : r < 65536) : pOk G (tFn G a r) ∧ 0 < (tFn G a r).2.2.1 := by
  unfold tFn
  exact gln_ok w hz (kdr_ok w ha h3 hr).2
end
def ltn (e : Nat) : Nat := if e = 0 then 10 else e
section
variable {sc sm : fSt} {q : Nat} {G : Nat → Nat}
theorem x_playNight (X : rHou sc 0 q G) (w : gWf G) (hz : ¬ gpl G (G 2) (G 5) = 0) (h3 : 0 < G 3) {i a r se en : Nat} {no : Bool} (ha : a ≤ G 3) (hr : gI sc 3 (i + 1) 6 = nI r) (hr2 : r < 65536) (h2 : gI sc 10 i 2 = bI no) (h7 : gI sc 10 i 7 = nI se) (h5 : gI sc 10 i 5 = nI en) :
    ∃ s', f_X10_playNight i 0 (xI a) sc = some ((), s') ∧ cFr i no sc s' ∧ (gI s' 3 (i + 1) 6 = nI (tFn G a r).2.2.2.2.2 ∧ gI s' 10 i 2 = bI no ∧ gI s' 10 i 6 = gI sc 10 i 6 ∧ gI s' 10 i 7 = nI (se ||| (tFn G a r).2.2.1) ∧ gI s' 10 i 5 = nI (en ||| 2 ^ (ltn (tFn G a r).2.2.2.1 - 1)) ∧ gI s' 10 i 10 = xI (ltn (tFn G a r).2.2.2.1) ∧ gI s' 10 i 4 = gI sc 10 i 4 + nI 1 ∧ gI s' 10 i 8 = gI sc 10 i 8 + nI (tFn G a r).2.2.2.2.1 ∧ gI s' 10 i 9 = gI sc 10 i 9) ∧
      (gA s' 10 i 1 = gA sc 10 i 1 ∧ (∀ k, gI s' 2 0 k = gI sc 2 0 k) ∧ ∀ j k, gP s' 2 j k = gP sc 2 j k) ∧
      (no = true → gI s' 0 0 0 = nI (min 20 (G 6 + 1)) ∧ (gA s' 0 0 1 0 = nI (tFn G a r).2.2.1 ∧ gA s' 0 0 1 1 = xI (tFn G a r).2.2.2.1 ∧ gA s' 0 0 1 2 = xI ((kdr G a r).1 + 1) ∧ gA s' 0 0 1 3 = nI (tFn G a r).2.2.2.2.1) ∧ ∀ p, 4 ≤ p → p < 80 → gA s' 0 0 1 p = gA sc 0 0 1 (p - 4)) := by
  have w1 := w.1
  have x1 := x_canOpen X w
  rw [decide_eq_true hz] at x1
  obtain ⟨k1, k2⟩ := kdr_ok w ha h3 hr2
  obtain ⟨⟨f1, f2, f3, f4, f5, f6⟩, hse⟩ := tFn_ok w hz ha h3 hr2
  have hk3 : gI sc 7 q 3 = nI (G 3) := X.2.1.1.2.2.2
  have hne3 : ¬ G 3 = 0 := by omega
  -- whichever kind it is
  have hpl : ∃ A, f_X3_playFor (i + 1) 0 (nI (kdr G a r).1) (oS sc 3 (i + 1) 0 7 A) = some ((), oS sc 3 (i + 1) 0 7 (aNi (tFn G a r) (nI (kdr G a r).1) (nI (tFn G a r).2.2.2.2.2))) ∧ ((a = 0 ∧ f_X3_drawKind (i + 1) q sc = some (nI (kdr G a r).1, oS sc 3 (i + 1) 0 7 A)) ∨ (¬ a = 0 ∧ xI a = nI (kdr G a r).1 ∧ sc = oS sc 3 (i + 1) 0 7 A)) := by
    have hTd : tFn G a r = gln G (kdr G a r).1 (kdr G a r).2 := by unfold tFn; rfl
    rw [hTd]
    by_cases ha0 : a = 0
    · have hkd : kdr G a r = (gdk G (G 3 - 1) (rnx r / 8 % glt G) 0, rnx r) := if_pos ha0
      have e3 := x_drawKind X w h3 (i := i + 1) (r := r) (A := gI sc 3 (i + 1)) hr hr2
      rw [← oS_0] at e3
      refine ⟨upd (gI sc 3 (i + 1)) 6 (nI (rnx r)), ?_, Or.inl ⟨ha0, by rw [e3, hkd]⟩⟩
      refine x_playFor X w hz k1 k2 ?_
      rw [hkd]
      rfl
    · have hkd : kdr G a r = (a - 1, r) := if_neg ha0
      refine ⟨gI sc 3 (i + 1), ?_, Or.inr ⟨ha0, ?_, oS_0 _ _ _ _ _⟩⟩
      · refine x_playFor X w hz k1 k2 ?_
        rw [hkd]
        exact hr
      · rw [hkd]
        obtain ⟨b, rfl⟩ : ∃ b, a = b + 1 := ⟨a - 1, by omega⟩
        rfl
  obtain ⟨A, hp, hk⟩ := hpl
  generalize tFn G a r = T at *
  generalize kdr G a r = K at *
  have hT : ltn T.2.2.2.1 ≤ 10 ∧ 1 ≤ ltn T.2.2.2.1 := by
    unfold ltn
    split <;> omega
  -- behind the play
  have hmid : ∃ s18, (fBd (f_X3_playFor (i + 1) 0 (nI K.1) (oS sc 3 (i + 1) 0 7 A)) fun _ s10 =>
        fLt (sI s10 10 i 4 ((gI s10 10 i 4) + ((1 : Int32)))) fun s11 =>
        fLt (sI s11 10 i 7 ((gI s11 10 i 7) ||| (gI s11 3 ((i + 1)) 0))) fun s12 =>
        fLt (sI s12 10 i 8 ((gI s12 10 i 8) + (gI s12 3 ((i + 1)) 3))) fun s13 =>
        fJn (fun (x14 : Int32) (s15 : fSt) =>
          (fLt (sI s15 10 i 10 x14) fun s17 =>
          fLt (sI s17 10 i 5 ((gI s17 10 i 5) ||| (((1 : Int32)) <<< ((gI s17 10 i 10) &&& 31)))) fun s18 =>
          fJn (fun (s19 : fSt) =>
            (some ((), s19))) fun (j20 : fSt → Option (Unit × fSt)) =>
          if (gI s18 10 i 2) = 0 then
            (j20 s18)
          else
            (fBd (f_X0_note 0 ((i + 1)) s18) fun _ s21 =>
            j20 s21))) fun (j16 : Int32 → fSt → Option (Unit × fSt)) =>
        if ¬ (gI s13 3 ((i + 1)) 1) = ((-1 : Int32)) then
          (j16 (gI s13 3 ((i + 1)) 1) s13)
        else
          (j16 ((9 : Int32)) s13)) = (if gI s18 10 i 2 = 0 then some ((), s18) else (fBd (f_X0_note 0 ((i + 1)) s18) fun _ s21 => some ((), s21))) ∧
      s18 = sI (sI (sI (sI (sI (oS sc 3 (i + 1) 0 7 (aNi T (nI K.1) (nI T.2.2.2.2.2))) 10 i 4 (gI sc 10 i 4 + nI 1)) 10 i 7 (nI (se ||| T.2.2.1))) 10 i 8 (gI sc 10 i 8 + nI T.2.2.2.2.1)) 10 i 10 (xI (ltn T.2.2.2.1))) 10 i 5 (nI (en ||| 2 ^ (ltn T.2.2.2.1 - 1))) := by
    refine ⟨_, ?_, rfl⟩
    obtain ⟨lt, hlt⟩ : ∃ lt, ltn T.2.2.2.1 = lt + 1 := ⟨ltn T.2.2.2.1 - 1, by omega⟩
    have h1l : nI 1 <<< nI lt = nI (2 ^ lt) := j_one (by omega)
    have hl31 : lt &&& 31 = lt := n_31 (by omega)
    rw [hlt, Nat.add_sub_cancel, hp]
    cases hv : T.2.2.2.1 with
    | zero =>
      have hl9 : lt = 9 := by
        unfold ltn at hlt
        rw [hv, if_pos rfl] at hlt
        omega
      subst hl9
      simp (disch := omega) only [fLt_e, fBd_s, fJn_s, fNn_s, fNu_0, fNu_s, fBo_0, fBo_1, fBo_b, i_lit, i_neg1, nI_add, pk_mul, nI_clamp, i_le, i_lt, i_eq, fIx_n, nI_mI, mI_nI, mI_lt, nI_lt_m, mI_le, nI_le_m, xI_0, xI_s, bI_0, bI_1, bI_t, bI_f, n_31, j_bit, j_one, i_and, i_or, Nat.not_lt_zero, Nat.succ_ne_zero, Nat.add_one_ne_zero, Nat.add_one_sub_one, Nat.zero_le, Nat.or_zero, Nat.zero_or, Bool.not_true, Bool.not_false, Bool.true_and, Bool.false_and, Bool.and_true, Bool.and_false, ↓reduceIte, if_true, if_false, not_true_eq_false, not_false_eq_true, true_and, and_true, false_and, and_false, and_self, true_or, or_true, false_or, or_false, Nat.reduceEqDiff, Nat.reduceLT, Nat.reduceLeDiff, Nat.reduceAdd, Nat.reduceMul, Nat.reduceSub, Nat.add_zero, Nat.zero_add, Nat.mul_zero, Nat.zero_mul, ne_eq, Bool.not_eq_true, Bool.not_eq_false, reduceCtorEq, decide_true, decide_false, decide_eq_true_eq, decide_eq_false_iff_not, Bool.false_eq_true, gI_sI, gI_oS, aNi, h7, h5, hv, eq_self]
    | succ e =>
      have hl9 : lt = e := by
        unfold ltn at hlt
        rw [hv, if_neg (by omega)] at hlt
        omega
      subst hl9
      simp (disch := omega) only [fLt_e, fBd_s, fJn_s, fNn_s, fNu_0, fNu_s, fBo_0, fBo_1, fBo_b, i_lit, i_neg1, nI_add, pk_mul, nI_clamp, i_le, i_lt, i_eq, fIx_n, nI_mI, mI_nI, mI_lt, nI_lt_m, mI_le, nI_le_m, xI_0, xI_s, bI_0, bI_1, bI_t, bI_f, n_31, j_bit, j_one, i_and, i_or, Nat.not_lt_zero, Nat.succ_ne_zero, Nat.add_one_ne_zero, Nat.add_one_sub_one, Nat.zero_le, Nat.or_zero, Nat.zero_or, Bool.not_true, Bool.not_false, Bool.true_and, Bool.false_and, Bool.and_true, Bool.and_false, ↓reduceIte, if_true, if_false, not_true_eq_false, not_false_eq_true, true_and, and_true, false_and, and_false, and_self, true_or, or_true, false_or, or_false, Nat.reduceEqDiff, Nat.reduceLT, Nat.reduceLeDiff, Nat.reduceAdd, Nat.reduceMul, Nat.reduceSub, Nat.add_zero, Nat.zero_add, Nat.mul_zero, Nat.zero_mul, ne_eq, Bool.not_eq_true, Bool.not_eq_false, reduceCtorEq, decide_true, decide_false, decide_eq_true_eq, decide_eq_false_iff_not, Bool.false_eq_true, gI_sI, gI_oS, aNi, h7, h5, hv, eq_self]
  obtain ⟨s18, hm, hs18⟩ := hmid
  have hcl : cFr i no sc s18 := by
    rw [hs18]
    refine cFr_I (Or.inl ⟨rfl, rfl⟩) (cFr_I (Or.inl ⟨rfl, rfl⟩) (cFr_I (Or.inl ⟨rfl, rfl⟩) (cFr_I (Or.inl ⟨rfl, rfl⟩) (cFr_I (Or.inl ⟨rfl, rfl⟩) (cFr_o (cFr_rf i no sc))))))
  have hstart : f_X10_playNight i 0 (xI a) sc = (if gI s18 10 i 2 = 0 then some ((), s18) else (fBd (f_X0_note 0 ((i + 1)) s18) fun _ s21 => some ((), s21))) := by
    rw [← hm]
    unfold f_X10_playNight
    rcases hk with ⟨ha0, hk⟩ | ⟨ha0, hk, hs⟩
    · rw [ha0, xI_0]
      simp (disch := omega) only [fLt_e, fBd_s, fJn_s, fNn_s, fNu_0, fNu_s, fBo_0, fBo_1, fBo_b, i_lit, i_neg1, nI_add, pk_mul, nI_clamp, i_le, i_lt, i_eq, fIx_n, nI_mI, mI_nI, mI_lt, nI_lt_m, mI_le, nI_le_m, xI_0, xI_s, bI_0, bI_1, bI_t, bI_f, n_31, j_bit, j_one, i_and, i_or, Nat.not_lt_zero, Nat.succ_ne_zero, Nat.add_one_ne_zero, Nat.add_one_sub_one, Nat.zero_le, Nat.or_zero, Nat.zero_or, Bool.not_true, Bool.not_false, Bool.true_and, Bool.false_and, Bool.and_true, Bool.and_false, ↓reduceIte, if_true, if_false, not_true_eq_false, not_false_eq_true, true_and, and_true, false_and, and_false, and_self, true_or, or_true, false_or, or_false, Nat.reduceEqDiff, Nat.reduceLT, Nat.reduceLeDiff, Nat.reduceAdd, Nat.reduceMul, Nat.reduceSub, Nat.add_zero, Nat.zero_add, Nat.mul_zero, Nat.zero_mul, ne_eq, Bool.not_eq_true, Bool.not_eq_false, reduceCtorEq, decide_true, decide_false, decide_eq_true_eq, decide_eq_false_iff_not, Bool.false_eq_true, if_pos, if_neg, x1, X.1, hk3, hne3, hk]
    · rw [hk]
      simp (disch := omega) only [fLt_e, fBd_s, fJn_s, fNn_s, fNu_0, fNu_s, fBo_0, fBo_1, fBo_b, i_lit, i_neg1, nI_add, pk_mul, nI_clamp, i_le, i_lt, i_eq, fIx_n, nI_mI, mI_nI, mI_lt, nI_lt_m, mI_le, nI_le_m, xI_0, xI_s, bI_0, bI_1, bI_t, bI_f, n_31, j_bit, j_one, i_and, i_or, Nat.not_lt_zero, Nat.succ_ne_zero, Nat.add_one_ne_zero, Nat.add_one_sub_one, Nat.zero_le, Nat.or_zero, Nat.zero_or, Bool.not_true, Bool.not_false, Bool.true_and, Bool.false_and, Bool.and_true, Bool.and_false, ↓reduceIte, if_true, if_false, not_true_eq_false, not_false_eq_true, true_and, and_true, false_and, and_false, and_self, true_or, or_true, false_or, or_false, Nat.reduceEqDiff, Nat.reduceLT, Nat.reduceLeDiff, Nat.reduceAdd, Nat.reduceMul, Nat.reduceSub, Nat.add_zero, Nat.zero_add, Nat.mul_zero, Nat.zero_mul, ne_eq, Bool.not_eq_true, Bool.not_eq_false, reduceCtorEq, decide_true, decide_false, decide_eq_true_eq, decide_eq_false_iff_not, Bool.false_eq_true, if_pos, if_neg, x1, X.1, hk3, hne3]
      rw [← hs]
  have c2 : gI s18 10 i 2 = bI no := by
    rw [hs18]
    simp only [gI_sI, gI_oS, Nat.reduceEqDiff, false_and, and_false, if_false, h2]
  have hcells : gI s18 3 (i + 1) 6 = nI T.2.2.2.2.2 ∧ gI s18 10 i 2 = bI no ∧ gI s18 10 i 6 = gI sc 10 i 6 ∧ gI s18 10 i 7 = nI (se ||| T.2.2.1) ∧ gI s18 10 i 5 = nI (en ||| 2 ^ (ltn T.2.2.2.1 - 1)) ∧ gI s18 10 i 10 = xI (ltn T.2.2.2.1) ∧ gI s18 10 i 4 = gI sc 10 i 4 + nI 1 ∧ gI s18 10 i 8 = gI sc 10 i 8 + nI T.2.2.2.2.1 ∧ gI s18 10 i 9 = gI sc 10 i 9 := by
    refine ⟨?_, c2, ?_, ?_, ?_, ?_, ?_, ?_, ?_⟩ <;> rw [hs18] <;> simp only [gI_sI, gI_oS, Nat.reduceEqDiff, false_and, and_false, if_false, and_self, if_true, Nat.reduceLT, Nat.reduceLeDiff, Nat.zero_le, true_and, aNi]
  have hoth : gA s18 10 i 1 = gA sc 10 i 1 ∧ (∀ k, gI s18 2 0 k = gI sc 2 0 k) ∧ ∀ j k, gP s18 2 j k = gP sc 2 j k := by
    rw [hs18]
    exact ⟨rfl, fun k => rfl, fun j k => rfl⟩
  cases no with
  | false =>
    rw [c2, if_pos (show bI false = 0 from rfl)] at hstart
    exact ⟨s18, hstart, hcl, hcells, hoth, fun h => absurd h (by decide)⟩
  | true =>
    rw [c2, if_neg (by decide)] at hstart
    have X18 : rHou s18 0 q G := by rw [hs18]; exact X
    obtain ⟨e, n1, n2, n3⟩ := x_note X18 w (i + 1) (gI s18 3 (i + 1))
    rw [← oS_0] at n1
    rw [n1, fBd_s] at hstart
    refine ⟨_, hstart, cFr_I (Or.inr (Or.inr (Or.inr ⟨rfl, rfl, rfl⟩))) (cFr_A (Or.inr (Or.inr (Or.inr ⟨rfl, rfl, rfl⟩))) hcl), hcells, ?_, fun _ => ⟨rfl, ?_, ?_⟩⟩
    · exact ⟨hoth.1, hoth.2.1, hoth.2.2⟩
    · have g0 : gI s18 3 (i + 1) 0 = nI T.2.2.1 ∧ gI s18 3 (i + 1) 1 = xI T.2.2.2.1 ∧ gI s18 3 (i + 1) 2 = nI K.1 ∧ gI s18 3 (i + 1) 3 = nI T.2.2.2.2.1 := by
        rw [hs18]
        refine ⟨?_, ?_, ?_, ?_⟩ <;> simp only [gI_sI, gI_oS, Nat.reduceEqDiff, false_and, and_false, if_false, and_self, if_true, Nat.reduceLT, Nat.reduceLeDiff, Nat.zero_le, true_and, aNi]
      refine ⟨?_, ?_, ?_, ?_⟩
      · show e 0 = _
        rw [n2.1, g0.1]
      · show e 1 = _
        rw [n2.2.1, g0.2.1]
      · show e 2 = _
        rw [n2.2.2.1, g0.2.2.1]
        rfl
      · show e 3 = _
        rw [n2.2.2.2, g0.2.2.2]
    · intro p hp1 hp2
      show e p = _
      rw [n3 p hp1 hp2, hs18]
      rfl
theorem m_plays2 (B : rBlk (gA sm 12 0 5) G) (w : gWf G) (hz : ¬ gpl G (G 2) (G 5) = 0) (h3 : 0 < G 3) {a r se en : Nat} (ha : a ≤ G 3) (hr : gI sm 12 0 28 = nI r) (hr2 : r < 65536) (h60 : gI sm 12 0 60 = nI se) (h61 : gI sm 12 0 61 = nI en) :
    ∃ s' g, f_X12_plays2 (xI a) sm = some ((), s') ∧ mFr sm s' ∧ (gI s' 12 0 28 = nI (tFn G a r).2.2.2.2.2 ∧ gI s' 12 0 57 = gI sm 12 0 57 ∧ gI s' 12 0 58 = gI sm 12 0 58 ∧ gI s' 12 0 60 = nI (se ||| (tFn G a r).2.2.1) ∧ gI s' 12 0 61 = nI (en ||| 2 ^ (ltn (tFn G a r).2.2.2.1 - 1)) ∧ gI s' 12 0 64 = xI (ltn (tFn G a r).2.2.2.1) ∧ gI s' 12 0 59 = gI sm 12 0 59 + nI 1 ∧ gI s' 12 0 62 = gI sm 12 0 62 + nI (tFn G a r).2.2.2.2.1 ∧ gI s' 12 0 63 = gI sm 12 0 63) ∧
      gA s' 12 0 5 = g ∧ g 6 = nI (min 20 (G 6 + 1)) ∧ (g 137 = nI (tFn G a r).2.2.1 ∧ g 138 = xI (tFn G a r).2.2.2.1 ∧ g 139 = xI ((kdr G a r).1 + 1) ∧ g 140 = nI (tFn G a r).2.2.2.2.1) ∧ (∀ p, 141 ≤ p → p < 217 → g p = gA sm 12 0 5 (p - 4)) ∧ ∀ p, p < 6 ∨ (7 ≤ p ∧ p < 137) ∨ 217 ≤ p → g p = gA sm 12 0 5 p := by
  have w1 := w.1
  have m1 := m_isDark B w
  rw [decide_eq_false hz] at m1
  obtain ⟨k1, k2⟩ := kdr_ok w ha h3 hr2
  obtain ⟨⟨f1, f2, f3, f4, f5, f6⟩, hse⟩ := tFn_ok w hz ha h3 hr2
  have hg3 : gA sm 12 0 5 3 = nI (G 3) := B.1.2.2.2.1
  have hne3 : ¬ G 3 = 0 := by omega
  have hpl : ∃ A g, f_X12_playFor (nI (kdr G a r).1) (oS sm 12 0 25 29 A) = some ((), sA (oS sm 12 0 25 29 (aM (tFn G a r) (nI (tFn G a r).2.2.2.2.2))) 12 0 5 g) ∧ ((a = 0 ∧ f_X12_drawnKind sm = some (nI (kdr G a r).1, oS sm 12 0 25 29 A)) ∨ (¬ a = 0 ∧ xI a = nI (kdr G a r).1 ∧ sm = oS sm 12 0 25 29 A)) ∧ g 6 = nI (min 20 (G 6 + 1)) ∧ (g 137 = nI (tFn G a r).2.2.1 ∧ g 138 = xI (tFn G a r).2.2.2.1 ∧ g 139 = xI ((kdr G a r).1 + 1) ∧ g 140 = nI (tFn G a r).2.2.2.2.1) ∧ (∀ p, 141 ≤ p → p < 217 → g p = gA sm 12 0 5 (p - 4)) ∧ ∀ p, p < 6 ∨ (7 ≤ p ∧ p < 137) ∨ 217 ≤ p → g p = gA sm 12 0 5 p := by
    have hTd : tFn G a r = gln G (kdr G a r).1 (kdr G a r).2 := by unfold tFn; rfl
    rw [hTd]
    by_cases ha0 : a = 0
    · have hkd : kdr G a r = (gdk G (G 3 - 1) (rnx r / 8 % glt G) 0, rnx r) := if_pos ha0
      have e3 := m_drawnKind B w h3 (r := r) (A := gI sm 12 0) hr hr2
      rw [← oS_0] at e3
      obtain ⟨g, e4, e5⟩ := m_playFor B w hz k1 k2 (A := upd (gI sm 12 0) 28 (nI (rnx r))) (by rw [hkd]; rfl)
      exact ⟨_, g, e4, Or.inl ⟨ha0, by rw [e3, hkd]⟩, e5⟩
    · have hkd : kdr G a r = (a - 1, r) := if_neg ha0
      obtain ⟨g, e4, e5⟩ := m_playFor B w hz k1 k2 (A := gI sm 12 0) (by rw [hkd]; exact hr)
      refine ⟨_, g, e4, Or.inr ⟨ha0, ?_, oS_0 _ _ _ _ _⟩, e5⟩
      rw [hkd]
      obtain ⟨b, rfl⟩ : ∃ b, a = b + 1 := ⟨a - 1, by omega⟩
      rfl
  obtain ⟨A, g, hp, hk, hg⟩ := hpl
  generalize tFn G a r = T at *
  generalize kdr G a r = K at *
  have hT : ltn T.2.2.2.1 ≤ 10 ∧ 1 ≤ ltn T.2.2.2.1 := by
    unfold ltn
    split <;> omega
  have hmid : (fBd (f_X12_playFor (nI K.1) (oS sm 12 0 25 29 A)) fun _ s11 =>
        fLt (sI s11 12 0 59 ((gI s11 12 0 59) + ((1 : Int32)))) fun s12 =>
        fLt (sI s12 12 0 60 ((gI s12 12 0 60) ||| (gI s12 12 0 25))) fun s13 =>
        fJn (fun (x14 : Int32) (s15 : fSt) =>
          (fLt (sI s15 12 0 64 x14) fun s17 =>
          fLt (sI s17 12 0 61 ((gI s17 12 0 61) ||| (((1 : Int32)) <<< ((gI s17 12 0 64) &&& 31)))) fun s18 =>
          fLt (sI s18 12 0 62 ((gI s18 12 0 62) + (gI s18 12 0 27))) fun s19 =>
          some ((), s19))) fun (j16 : Int32 → fSt → Option (Unit × fSt)) =>
        if 0 ≤ (gI s13 12 0 26) then
          (j16 (gI s13 12 0 26) s13)
        else
          (j16 ((9 : Int32)) s13)) = some ((), sI (sI (sI (sI (sI (sA (oS sm 12 0 25 29 (aM T (nI T.2.2.2.2.2))) 12 0 5 g) 12 0 59 (gI sm 12 0 59 + nI 1)) 12 0 60 (nI (se ||| T.2.2.1))) 12 0 64 (xI (ltn T.2.2.2.1))) 12 0 61 (nI (en ||| 2 ^ (ltn T.2.2.2.1 - 1)))) 12 0 62 (gI sm 12 0 62 + nI T.2.2.2.2.1)) := by
    obtain ⟨lt, hlt⟩ : ∃ lt, ltn T.2.2.2.1 = lt + 1 := ⟨ltn T.2.2.2.1 - 1, by omega⟩
    have h1l : nI 1 <<< nI lt = nI (2 ^ lt) := j_one (by omega)
    have hl31 : lt &&& 31 = lt := n_31 (by omega)
    rw [hlt, Nat.add_sub_cancel, hp]
    cases hv : T.2.2.2.1 with
    | zero =>
      have hl9 : lt = 9 := by
        unfold ltn at hlt
        rw [hv, if_pos rfl] at hlt
        omega
      subst hl9
      simp (disch := omega) only [fLt_e, fBd_s, fJn_s, fNn_s, fNu_0, fNu_s, fBo_0, fBo_1, fBo_b, i_lit, i_neg1, nI_add, pk_mul, nI_clamp, i_le, i_lt, i_eq, fIx_n, nI_mI, mI_nI, mI_lt, nI_lt_m, mI_le, nI_le_m, xI_0, xI_s, bI_0, bI_1, bI_t, bI_f, n_31, j_bit, j_one, i_and, i_or, Nat.not_lt_zero, Nat.succ_ne_zero, Nat.add_one_ne_zero, Nat.add_one_sub_one, Nat.zero_le, Nat.or_zero, Nat.zero_or, Bool.not_true, Bool.not_false, Bool.true_and, Bool.false_and, Bool.and_true, Bool.and_false, ↓reduceIte, if_true, if_false, not_true_eq_false, not_false_eq_true, true_and, and_true, false_and, and_false, and_self, true_or, or_true, false_or, or_false, Nat.reduceEqDiff, Nat.reduceLT, Nat.reduceLeDiff, Nat.reduceAdd, Nat.reduceMul, Nat.reduceSub, Nat.add_zero, Nat.zero_add, Nat.mul_zero, Nat.zero_mul, ne_eq, Bool.not_eq_true, Bool.not_eq_false, reduceCtorEq, decide_true, decide_false, decide_eq_true_eq, decide_eq_false_iff_not, Bool.false_eq_true, gI_sI, gI_sA, gI_oS, aM, h60, h61, hv, eq_self]
    | succ e =>
      have hl9 : lt = e := by
        unfold ltn at hlt
        rw [hv, if_neg (by omega)] at hlt
        omega
      subst hl9
      simp (disch := omega) only [fLt_e, fBd_s, fJn_s, fNn_s, fNu_0, fNu_s, fBo_0, fBo_1, fBo_b, i_lit, i_neg1, nI_add, pk_mul, nI_clamp, i_le, i_lt, i_eq, fIx_n, nI_mI, mI_nI, mI_lt, nI_lt_m, mI_le, nI_le_m, xI_0, xI_s, bI_0, bI_1, bI_t, bI_f, n_31, j_bit, j_one, i_and, i_or, Nat.not_lt_zero, Nat.succ_ne_zero, Nat.add_one_ne_zero, Nat.add_one_sub_one, Nat.zero_le, Nat.or_zero, Nat.zero_or, Bool.not_true, Bool.not_false, Bool.true_and, Bool.false_and, Bool.and_true, Bool.and_false, ↓reduceIte, if_true, if_false, not_true_eq_false, not_false_eq_true, true_and, and_true, false_and, and_false, and_self, true_or, or_true, false_or, or_false, Nat.reduceEqDiff, Nat.reduceLT, Nat.reduceLeDiff, Nat.reduceAdd, Nat.reduceMul, Nat.reduceSub, Nat.add_zero, Nat.zero_add, Nat.mul_zero, Nat.zero_mul, ne_eq, Bool.not_eq_true, Bool.not_eq_false, reduceCtorEq, decide_true, decide_false, decide_eq_true_eq, decide_eq_false_iff_not, Bool.false_eq_true, gI_sI, gI_sA, gI_oS, aM, h60, h61, hv, eq_self]
  have hfin : f_X12_plays2 (xI a) sm = some ((), sI (sI (sI (sI (sI (sA (oS sm 12 0 25 29 (aM T (nI T.2.2.2.2.2))) 12 0 5 g) 12 0 59 (gI sm 12 0 59 + nI 1)) 12 0 60 (nI (se ||| T.2.2.1))) 12 0 64 (xI (ltn T.2.2.2.1))) 12 0 61 (nI (en ||| 2 ^ (ltn T.2.2.2.1 - 1)))) 12 0 62 (gI sm 12 0 62 + nI T.2.2.2.2.1)) := by
    rw [← hmid]
    unfold f_X12_plays2
    rcases hk with ⟨ha0, hk⟩ | ⟨ha0, hk, hs⟩
    · rw [ha0, xI_0]
      simp (disch := omega) only [fLt_e, fBd_s, fJn_s, fNn_s, fNu_0, fNu_s, fBo_0, fBo_1, fBo_b, i_lit, i_neg1, nI_add, pk_mul, nI_clamp, i_le, i_lt, i_eq, fIx_n, nI_mI, mI_nI, mI_lt, nI_lt_m, mI_le, nI_le_m, xI_0, xI_s, bI_0, bI_1, bI_t, bI_f, n_31, j_bit, j_one, i_and, i_or, Nat.not_lt_zero, Nat.succ_ne_zero, Nat.add_one_ne_zero, Nat.add_one_sub_one, Nat.zero_le, Nat.or_zero, Nat.zero_or, Bool.not_true, Bool.not_false, Bool.true_and, Bool.false_and, Bool.and_true, Bool.and_false, ↓reduceIte, if_true, if_false, not_true_eq_false, not_false_eq_true, true_and, and_true, false_and, and_false, and_self, true_or, or_true, false_or, or_false, Nat.reduceEqDiff, Nat.reduceLT, Nat.reduceLeDiff, Nat.reduceAdd, Nat.reduceMul, Nat.reduceSub, Nat.add_zero, Nat.zero_add, Nat.mul_zero, Nat.zero_mul, ne_eq, Bool.not_eq_true, Bool.not_eq_false, reduceCtorEq, decide_true, decide_false, decide_eq_true_eq, decide_eq_false_iff_not, Bool.false_eq_true, if_pos, if_neg, m1, hg3, hne3, hk]
    · rw [hk]
      simp (disch := omega) only [fLt_e, fBd_s, fJn_s, fNn_s, fNu_0, fNu_s, fBo_0, fBo_1, fBo_b, i_lit, i_neg1, nI_add, pk_mul, nI_clamp, i_le, i_lt, i_eq, fIx_n, nI_mI, mI_nI, mI_lt, nI_lt_m, mI_le, nI_le_m, xI_0, xI_s, bI_0, bI_1, bI_t, bI_f, n_31, j_bit, j_one, i_and, i_or, Nat.not_lt_zero, Nat.succ_ne_zero, Nat.add_one_ne_zero, Nat.add_one_sub_one, Nat.zero_le, Nat.or_zero, Nat.zero_or, Bool.not_true, Bool.not_false, Bool.true_and, Bool.false_and, Bool.and_true, Bool.and_false, ↓reduceIte, if_true, if_false, not_true_eq_false, not_false_eq_true, true_and, and_true, false_and, and_false, and_self, true_or, or_true, false_or, or_false, Nat.reduceEqDiff, Nat.reduceLT, Nat.reduceLeDiff, Nat.reduceAdd, Nat.reduceMul, Nat.reduceSub, Nat.add_zero, Nat.zero_add, Nat.mul_zero, Nat.zero_mul, ne_eq, Bool.not_eq_true, Bool.not_eq_false, reduceCtorEq, decide_true, decide_false, decide_eq_true_eq, decide_eq_false_iff_not, Bool.false_eq_true, if_pos, if_neg, m1, hg3, hne3]
      rw [← hs]
  refine ⟨_, g, hfin, ?_, ?_, rfl, hg⟩
  · refine mFr_I (by omega) (mFr_I (by omega) (mFr_I (by omega) (mFr_I (by omega) (mFr_I (by omega) (mFr_A ?_ (mFr_o (mFr_rf sm)))))))
    intro p hp
    exact hg.2.2.2 p (by omega)
  · refine ⟨?_, ?_, ?_, ?_, ?_, ?_, ?_, ?_, ?_⟩ <;> simp only [gI_sI, gI_sA, gI_oS, Nat.reduceEqDiff, false_and, and_false, if_false, and_self, if_true, Nat.reduceLT, Nat.reduceLeDiff, true_and, aM]
end
