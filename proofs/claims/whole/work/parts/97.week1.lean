/-! layer 2: reading a week: frames, the pieces of both sides -/
def xV (w : Nat) (I : Nat → Prop) (D : Nat → Nat → Prop) (s t : fSt) : Prop := (∀ c j k, ¬ (c = 5 ∧ j = 0 ∧ 4 ≤ k) → ¬ (c = 9 ∧ j = w ∧ I k) → gI t c j k = gI s c j k) ∧ (∀ c j k, ¬ (c = 5 ∧ j = 0 ∧ k = 7) → gL t c j k = gL s c j k) ∧ (∀ c j k m, ¬ (c = 9 ∧ j = w ∧ D k m) → gA t c j k m = gA s c j k m) ∧ gB t = gB s ∧ gP t = gP s
def yV (E : Nat → Prop) (s t : fSt) : Prop := (∀ c j k, ¬ (c = 12 ∧ j = 0 ∧ ((12 ≤ k ∧ k < 19) ∨ k = 24)) → gI t c j k = gI s c j k) ∧ (∀ c j k, ¬ (c = 12 ∧ j = 0 ∧ k = 19) → gL t c j k = gL s c j k) ∧ (∀ c j k m, ¬ (c = 12 ∧ j = 0 ∧ k = 5 ∧ E m) → gA t c j k m = gA s c j k m) ∧ gB t = gB s ∧ gP t = gP s
section
variable {w : Nat} {I I2 : Nat → Prop} {D D2 : Nat → Nat → Prop} {E E2 : Nat → Prop} {s t u : fSt}
theorem xV_tr (h : xV w I D s t) (g : xV w I D t u) : xV w I D s u := ⟨fun c j k h1 h2 => (g.1 c j k h1 h2).trans (h.1 c j k h1 h2), fun c j k h1 => (g.2.1 c j k h1).trans (h.2.1 c j k h1), fun c j k m h1 => (g.2.2.1 c j k m h1).trans (h.2.2.1 c j k m h1), g.2.2.2.1.trans h.2.2.2.1, g.2.2.2.2.trans h.2.2.2.2⟩
theorem yV_tr (h : yV E s t) (g : yV E t u) : yV E s u := ⟨fun c j k h1 => (g.1 c j k h1).trans (h.1 c j k h1), fun c j k h1 => (g.2.1 c j k h1).trans (h.2.1 c j k h1), fun c j k m h1 => (g.2.2.1 c j k m h1).trans (h.2.2.1 c j k m h1), g.2.2.2.1.trans h.2.2.2.1, g.2.2.2.2.trans h.2.2.2.2⟩
theorem xV_mono (h : xV w I D s t) (hI : ∀ k, I k → I2 k) (hD : ∀ k m, D k m → D2 k m) : xV w I2 D2 s t := ⟨fun c j k h1 h2 => h.1 c j k h1 (fun e => h2 ⟨e.1, e.2.1, hI _ e.2.2⟩), h.2.1, fun c j k m h1 => h.2.2.1 c j k m (fun e => h1 ⟨e.1, e.2.1, hD _ _ e.2.2⟩), h.2.2.2⟩
theorem yV_mono (h : yV E s t) (hE : ∀ m, E m → E2 m) : yV E2 s t := ⟨h.1, h.2.1, fun c j k m h1 => h.2.2.1 c j k m (fun e => h1 ⟨e.1, e.2.1, e.2.2.1, hE _ e.2.2.2⟩), h.2.2.2⟩
theorem xV_x (h : xFr s t) : xV w I D s t := ⟨fun c j k h1 _ => h.1 c j k h1, h.2.1, fun c j k m _ => by rw [h.2.2.1], h.2.2.2.1, h.2.2.2.2⟩
theorem yV_y (h : yFr s t) : yV E s t := ⟨fun c j k h1 => h.1 c j k (by omega), h.2.1, fun c j k m _ => by rw [h.2.2.1], h.2.2.2.1, h.2.2.2.2⟩
theorem xV_A (s : fSt) {k m : Nat} (v : Int32) (hD : D k m) : xV w I D s (sA s 9 w k (upd (gA s 9 w k) m v)) := by
  refine ⟨fun _ _ _ _ _ => rfl, fun _ _ _ _ => rfl, fun c j k' m' h1 => ?_, rfl, rfl⟩
  rw [gA_sA]
  by_cases e : c = 9 ∧ j = w ∧ k' = k
  · obtain ⟨rfl, rfl, rfl⟩ := e
    rw [if_pos ⟨rfl, rfl, rfl⟩, upd_at, if_neg (fun g => h1 ⟨rfl, rfl, by rw [g]; exact hD⟩)]
  · rw [if_neg e]
theorem xV_I (s : fSt) {k : Nat} (v : Int32) (hI : I k) : xV w I D s (sI s 9 w k v) := by
  refine ⟨fun c j k' _ h2 => ?_, fun _ _ _ _ => rfl, fun _ _ _ _ _ => rfl, rfl, rfl⟩
  rw [gI_sI, if_neg (fun e => h2 ⟨e.1, e.2.1, by rw [e.2.2]; exact hI⟩)]
theorem yV_A (s : fSt) {m : Nat} (v : Int32) (hE : E m) : yV E s (wA s m v) := by
  refine ⟨fun _ _ _ _ => rfl, fun _ _ _ _ => rfl, fun c j k' m' h1 => ?_, rfl, rfl⟩
  unfold wA
  rw [gA_sA]
  by_cases e : c = 12 ∧ j = 0 ∧ k' = 5
  · obtain ⟨rfl, rfl, rfl⟩ := e
    rw [if_pos ⟨rfl, rfl, rfl⟩, upd_at, if_neg (fun g => h1 ⟨rfl, rfl, rfl, by rw [g]; exact hE⟩)]
  · rw [if_neg e]
theorem yV_I (s : fSt) (v : Int32) : yV E s (sI s 12 0 24 v) := by
  refine ⟨fun c j k' h2 => ?_, fun _ _ _ _ => rfl, fun _ _ _ _ _ => rfl, rfl, rfl⟩
  rw [gI_sI, if_neg (by omega)]
theorem xV_9 (s : fSt) (v : Int32) : xV w I D s (sI s 5 0 9 v) := xV_x (xFr_I (by omega) (xFr_rf s))
theorem xV_rf (s : fSt) : xV w I D s s := xV_x (xFr_rf s)
theorem yV_rf (s : fSt) : yV E s s := yV_y (yFr_rf s)
theorem xV_w (h : xV w I D s t) : xH 9 w s t := ⟨fun c j k h1 h2 => h.1 c j k (by omega) (fun e => h2 ⟨e.1, e.2.1⟩), fun c j k h1 _ => h.2.1 c j k (by omega), fun c j k h1 => funext fun m => h.2.2.1 c j k m (fun e => h1 ⟨e.1, e.2.1⟩), fun c j k _ => by rw [h.2.2.2.1], h.2.2.2.2⟩
theorem yV_w (h : yV E s t) (hE : ∀ m, E m → 1720 ≤ m) : yH s t := ⟨fun k h1 => h.1 _ _ _ (by omega), fun k h1 => h.2.1 _ _ _ (by omega), fun k h1 => funext fun m => h.2.2.1 _ _ _ _ (by omega), fun m hm => h.2.2.1 _ _ _ _ (fun e => by have := hE m e.2.2.2; omega), fun k _ => by rw [h.2.2.2.1], fun m _ => by rw [h.2.2.2.1]⟩
end
section
variable {sc sm : fSt} {n : Nat} {c : Nat → Nat} {a p so : Nat}
theorem ps_A9 (P : psR sc sm n c a p so) (w k : Nat) (f : Nat → Int32) : psR (sA sc 9 w k f) sm n c a p so := by
  obtain ⟨T, q0, ⟨q1, q2, q3, q4, q5, q6⟩, q7, q8, q9⟩ := P
  refine ⟨tpe_e T rfl rfl rfl ?_ rfl, q0, ⟨q1, q2, q3, q4, q5, q6⟩, q7, q8, q9⟩
  rw [gA_sA, if_neg (by omega)]
theorem ps_I9 (P : psR sc sm n c a p so) (w k : Nat) (v : Int32) : psR (sI sc 9 w k v) sm n c a p so := by
  obtain ⟨T, q0, ⟨q1, q2, q3, q4, q5, q6⟩, q7, q8, q9⟩ := P
  have e : ∀ i, gI (sI sc 9 w k v) 5 0 i = gI sc 5 0 i := fun i => by rw [gI_sI, if_neg (by omega)]
  exact ⟨tpe_e T (e 3) rfl rfl rfl rfl, tok_e q0 ⟨e 6, e 8⟩ rfl ⟨rfl, rfl, rfl⟩ rfl, ⟨(e 4).trans q1, (e 5).trans q2, q3, q4, q5, q6⟩, q7, (e 10).trans q8, (e 11).trans q9⟩
theorem ps_I24 (P : psR sc sm n c a p so) (v : Int32) : psR sc (sI sm 12 0 24 v) n c a p so := by
  obtain ⟨T, q0, ⟨q1, q2, q3, q4, q5, q6⟩, q7, q8, q9⟩ := P
  have e : ∀ i, ¬ i = 24 → gI (sI sm 12 0 24 v) 12 0 i = gI sm 12 0 i := fun i hi => by rw [gI_sI, if_neg (by omega)]
  exact ⟨tpe_e T rfl (e 9 (by omega)) rfl rfl rfl, tok_e q0 ⟨rfl, rfl⟩ rfl ⟨e 14 (by omega), e 17 (by omega), e 18 (by omega)⟩ rfl, ⟨q1, q2, (e 15 (by omega)).trans q3, (e 16 (by omega)).trans q4, q5, q6⟩, (e 12 (by omega)).trans q7, q8, q9⟩
theorem ps_wA (P : psR sc sm n c a p so) (m : Nat) (v : Int32) : psR sc (wA sm m v) n c a p so := ps_A P m v
/-- the sign after a step; the number read stands -/
theorem ps_tail9 (P : psR sc sm n c a p so) : ∃ sc' sm', mTail sm = some ((), sm') ∧ xFr sc sc' ∧ yFr sm sm' ∧ ((f_X5_take (nI 59) sc = some (nI 1, sc') ∧ gI sc' 5 0 9 = gI sc 5 0 9 ∧ ∃ a' p' so', psR sc' sm' n c a' p' so' ∧ (p ≤ a' ∧ (¬ so' = 35 → p < p'))) ∨ (f_X5_take (nI 59) sc = some (nI 0, sc') ∧ ∃ d e, flR sc' sm' d e)) := by
  obtain ⟨s1, t1, e1, f1, g1, h⟩ := ps_take P (k := 59) (by omega)
  refine ⟨s1, t1, ?_, f1, g1, ?_⟩
  · unfold mTail
    rw [ps_sign P (by omega), fBd_s, e1]
  · rcases h with ⟨-, h, a', p', o', P', m, h9⟩ | ⟨-, h, d, F⟩
    · exact Or.inl ⟨h, h9, a', p', o', P', m⟩
    · exact Or.inr ⟨h, d, a, F⟩
end
-- the names and counts of the present stage
def hsR (s t : fSt) (q : Nat) (G : Nat → Nat) : Prop := (G 0 ≤ 6 ∧ G 2 ≤ 12 ∧ G 3 ≤ 4) ∧ (gI s 7 q 0 = nI (G 0) ∧ gI s 7 q 2 = nI (G 2) ∧ gI s 7 q 3 = nI (G 3)) ∧ (gA t 12 0 5 0 = nI (G 0) ∧ gA t 12 0 5 2 = nI (G 2) ∧ gA t 12 0 5 3 = nI (G 3)) ∧ (∀ k, k < G 0 → gB s 7 q 1 k = gB t 12 0 7 k) ∧ (∀ k, k < G 2 → gB s 7 q 3 k = gB t 12 0 7 (12 + k)) ∧ ∀ k, k < G 3 → gB s 7 q 4 k = gB t 12 0 7 (24 + k)
theorem hsR_V {w q : Nat} {I : Nat → Prop} {D : Nat → Nat → Prop} {E : Nat → Prop} {s t s' t' : fSt} {G : Nat → Nat} (h : hsR s t q G) (f : xV w I D s s') (g : yV E t t') (hE : ∀ m, E m → 1939 ≤ m) : hsR s' t' q G := by
  obtain ⟨b, ⟨x0, x2, x3⟩, ⟨y0, y2, y3⟩, n⟩ := h
  have e : ∀ m, m < 1939 → gA t' 12 0 5 m = gA t 12 0 5 m := fun m hm => g.2.2.1 _ _ _ _ (fun e => by have := hE m e.2.2.2; omega)
  refine ⟨b, ⟨?_, ?_, ?_⟩, ⟨?_, ?_, ?_⟩, ?_⟩
  · rw [f.1 _ _ _ (by omega) (by omega)]; exact x0
  · rw [f.1 _ _ _ (by omega) (by omega)]; exact x2
  · rw [f.1 _ _ _ (by omega) (by omega)]; exact x3
  · rw [e 0 (by omega)]; exact y0
  · rw [e 2 (by omega)]; exact y2
  · rw [e 3 (by omega)]; exact y3
  · rw [f.2.2.2.1, g.2.2.2.1]; exact n
-- the pieces of the reference's readStep
noncomputable def mW8 (x14 : Int32) (s24 : fSt) : Option (Unit × fSt) :=
  (fIx (x14 + ((6 : Int32))) 2150 <|
  fLt (sA s24 12 0 5 (upd (gA s24 12 0 5) (x14 + ((6 : Int32))).toNatClampNeg (gI s24 12 0 24))) fun s26 => some ((), s26))
noncomputable def mW7 (x7 x14 : Int32) (s22 : fSt) : Option (Unit × fSt) :=
  if x7 = 0 then mW8 x14 s22 else
    (fBd (f_X12_isEnd s22) fun x27 s28 => fBd (f_X12_must x27 s28) fun _ s29 => fBd (f_X12_isSign ((59 : Int32)) s29) fun x30 s31 => fBd (f_X12_must x30 s31) fun _ s32 => mW8 x14 s32)
noncomputable def mW6 (rec : Int32 → fSt → Option (Unit × fSt)) (a1 x7 x14 : Int32) (s21 : fSt) : Option (Unit × fSt) := f_X12_readStep_L141 rec a1 x7 (mW7 x7 x14) fF s21
noncomputable def mW5 (rec : Int32 → fSt → Option (Unit × fSt)) (a1 x7 x14 : Int32) (s17 : fSt) : Option (Unit × fSt) :=
  fBd (f_X12_readRest x14 s17) fun _ s18 => fBd (f_X12_isSign ((59 : Int32)) s18) fun x19 s20 => fBd (f_X12_must x19 s20) fun _ s21 => mW6 rec a1 x7 x14 s21
noncomputable def mW4 (rec : Int32 → fSt → Option (Unit × fSt)) (a1 x3 x7 : Int32) (s12 : fSt) : Option (Unit × fSt) :=
  if (gI s12 12 0 12) ≤ 0 then
    (fLt (((1939 : Int32)) + (((7 : Int32)) * (gI s12 12 0 24))) fun (x14 : Int32) =>
    fLt (sI s12 12 0 24 ((gI s12 12 0 24) + ((1 : Int32)))) fun s15 =>
    fBd (f_X12_next s15) fun _ s16 =>
    fIx x14 2150 <|
    fLt (sA s16 12 0 5 (upd (gA s16 12 0 5) x14.toNatClampNeg x3)) fun s17 => mW5 rec a1 x7 x14 s17)
  else some ((), s12)
noncomputable def mW3 (rec : Int32 → fSt → Option (Unit × fSt)) (a1 x3 x7 : Int32) (s10 : fSt) : Option (Unit × fSt) :=
  if ¬ (gI s10 12 0 12) = 0 then mW4 rec a1 x3 x7 s10 else if x7 = 0 then mW4 rec a1 x3 x7 s10 else if ¬ a1 = ((3 : Int32)) then mW4 rec a1 x3 x7 s10 else (fBd (f_X12_fail ((7 : Int32)) (gI s10 12 0 15) s10) fun _ s38 => mW4 rec a1 x3 x7 s38)
noncomputable def mW2 (rec : Int32 → fSt → Option (Unit × fSt)) (a1 x3 x7 : Int32) (s8 : fSt) : Option (Unit × fSt) :=
  if ¬ (gI s8 12 0 12) = 0 then mW3 rec a1 x3 x7 s8 else if ¬ (gI s8 12 0 24) = ((30 : Int32)) then mW3 rec a1 x3 x7 s8 else (fBd (f_X12_fail ((6 : Int32)) (gI s8 12 0 15) s8) fun _ s39 => mW3 rec a1 x3 x7 s39)
noncomputable def mW1 (rec : Int32 → fSt → Option (Unit × fSt)) (a1 x3 x7 : Int32) (s5 : fSt) : Option (Unit × fSt) :=
  if 0 ≤ x3 then mW2 rec a1 x3 x7 s5 else (fBd (f_X12_wrong s5) fun _ s40 => mW2 rec a1 x3 x7 s40)
theorem mW_eq (rec : Int32 → fSt → Option (Unit × fSt)) (a1 : Int32) (st : fSt) : f_X12_readStep_b rec a1 st = fBd (f_X12_stepWord st) fun x1 s2 => if x1 = ((5 : Int32)) then mW1 rec a1 x1 ((1 : Int32)) s2 else if ¬ x1 = ((6 : Int32)) then mW1 rec a1 x1 ((0 : Int32)) s2 else mW1 rec a1 x1 ((1 : Int32)) s2 := rfl
theorem mW8_e {j : Nat} (hj : j < 30) (s : fSt) : mW8 (nI (1939 + 7 * j)) s = some ((), wA s (1945 + 7 * j) (gI s 12 0 24)) := by
  unfold mW8 wA
  simp (disch := omega) only [↓fLt_e, i_lit, nI_add, nI_clamp, fIx_n, show 1939 + 7 * j + 6 = 1945 + 7 * j by omega]
-- after a fault
def eW (j m : Nat) : Prop := 1939 + 7 * j ≤ m
def mBW (j : Nat) (M : fSt → Option (Unit × fSt)) : Prop := ∀ s, bad s → ∃ s', M s = some ((), s') ∧ yV (eW j) s s' ∧ gI s' = gI s
section
variable {rec : Int32 → fSt → Option (Unit × fSt)} {j : Nat}
theorem bw_must {w : fSt → Option (Int32 × fSt)} (hw : ∀ s, ∃ x, w s = some (x, s)) {M : fSt → Option (Unit × fSt)} (h : mBW j M) : mBW j (fun s => fBd (w s) fun x s1 => fBd (f_X12_must x s1) fun _ s2 => M s2) := by
  intro s hs
  obtain ⟨b, hb⟩ := hw s
  obtain ⟨k, hk, hk2⟩ := id hs
  obtain ⟨s', e, g⟩ := h s hs
  refine ⟨s', ?_, g⟩
  show (fBd (w s) fun x s1 => fBd (f_X12_must x s1) fun _ s2 => M s2) = some ((), s')
  rw [hb, fBd_s, m_must_no hk hk2, fBd_s, e]
theorem bw_8 (hj : j < 30) : mBW j (mW8 (nI (1939 + 7 * j))) := fun s _ => ⟨_, mW8_e hj s, yV_A s _ (show 1939 + 7 * j ≤ 1945 + 7 * j by omega), rfl⟩
theorem bw_7 (hj : j < 30) (x7 : Int32) : mBW j (mW7 x7 (nI (1939 + 7 * j))) := by
  intro s hs
  unfold mW7
  by_cases h : x7 = 0
  · rw [if_pos h]
    exact bw_8 hj s hs
  · rw [if_neg h]
    exact bw_must (fun s => (an_End s).elim fun b h => ⟨_, h⟩) (bw_must (fun s => m_sign_any (nI 59) s) (bw_8 hj)) s hs
theorem l141_bad {a1 x7 : Int32} {k23 : fSt → Option (Unit × fSt)} {F : Nat} {s : fSt} (hs : bad s) : f_X12_readStep_L141 rec a1 x7 k23 (F + 1) s = k23 s := by
  obtain ⟨k, hk, hk2⟩ := hs
  have k0 : ¬ nI k = nI 0 := by rw [i_eq _ _ (by omega) (by omega)]; omega
  unfold f_X12_readStep_L141
  split
  · rfl
  · rw [if_pos (by rw [hk2]; exact k0)]
theorem bw_6 (hj : j < 30) (a1 x7 : Int32) : mBW j (mW6 rec a1 x7 (nI (1939 + 7 * j))) := by
  intro s hs
  obtain ⟨F, hF⟩ : ∃ F, fF = F + 1 := ⟨fF - 1, by have : 100 < fF := fF_lt (by omega); omega⟩
  unfold mW6
  rw [hF, l141_bad hs]
  exact bw_7 hj x7 s hs
theorem bad_le {s : fSt} (hs : bad s) : ¬ gI s 12 0 12 ≤ (0 : Int32) := by
  obtain ⟨k, hk, hk2⟩ := hs
  rw [hk2]
  show ¬ nI k ≤ nI 0
  rw [i_le _ _ (by omega) (by omega)]
  omega
theorem bad_ne {s : fSt} (hs : bad s) : ¬ gI s 12 0 12 = (0 : Int32) := by
  obtain ⟨k, hk, hk2⟩ := hs
  rw [hk2]
  show ¬ nI k = nI 0
  rw [i_eq _ _ (by omega) (by omega)]
  omega
theorem w4_bad {a1 x3 x7 : Int32} {s : fSt} (hs : bad s) : mW4 rec a1 x3 x7 s = some ((), s) := by
  unfold mW4
  rw [if_neg (bad_le hs)]
theorem w3_bad {a1 x3 x7 : Int32} {s : fSt} (hs : bad s) : mW3 rec a1 x3 x7 s = some ((), s) := by
  unfold mW3
  rw [if_pos (bad_ne hs), w4_bad hs]
theorem w2_bad {a1 x3 x7 : Int32} {s : fSt} (hs : bad s) : mW2 rec a1 x3 x7 s = some ((), s) := by
  unfold mW2
  rw [if_pos (bad_ne hs), w3_bad hs]
end
-- the pieces of the class's readStep
noncomputable def kW7 (w : Nat) (s25 : fSt) : Option (Int32 × fSt) := fLt (sI s25 9 w 0 ((gI s25 9 w 0) + ((1 : Int32)))) fun s27 => fLt (sI s27 9 w 1 ((gI s27 9 w 1) + ((1 : Int32)))) fun s28 => some ((1 : Int32), s28)
noncomputable def kW6 (w : Nat) (x4 : Int32) (s23 : fSt) : Option (Int32 × fSt) :=
  (fIx (gI s23 9 w 0) 60 <| fLt (sA s23 9 w 2 (upd (gA s23 9 w 2) (gI s23 9 w 0).toNatClampNeg (gI s23 5 0 9))) fun s24 =>
  if x4 = 0 then kW7 w s24 else
    (fLt (sI s24 9 w 7 ((gI s24 9 w 7) + ((1 : Int32)))) fun s29 => fIx (gI s24 9 w 7) 3 <| fLt (sA s29 9 w 5 (upd (gA s29 9 w 5) (gI s24 9 w 7).toNatClampNeg (gI s29 9 w 0))) fun s30 => kW7 w s30))
noncomputable def kRS (w q : Nat) (s17 : fSt) : Option (Int32 × fSt) := fBd (f_X9_readRest w q s17) fun x18 s19 => if x18 = 0 then some ((0 : Int32), s19) else f_X5_take ((59 : Int32)) s19
noncomputable def kW5 (w q : Nat) (x4 : Int32) (s13 : fSt) : Option (Int32 × fSt) :=
  (fIx (gI s13 9 w 0) 60 <| fLt (sA s13 9 w 1 (upd (gA s13 9 w 1) (gI s13 9 w 0).toNatClampNeg (gI s13 5 0 6))) fun s15 => fBd (f_X5_advance s15) fun _ s16 => fLt (sI s16 5 0 9 ((-1 : Int32))) fun s17 =>
  fBd (f_X9_readRest w q s17) fun x18 s19 => if x18 = 0 then some ((0 : Int32), s19) else (fBd (f_X5_take ((59 : Int32)) s19) fun x22 s23 => if ¬ x22 = 0 then kW6 w x4 s23 else some ((0 : Int32), s23)))
noncomputable def kW4 (w q : Nat) (x4 : Int32) (s11 : fSt) : Option (Int32 × fSt) :=
  if ¬ (gI s11 5 0 6) = ((24 : Int32)) then kW5 w q x4 s11 else (fBd (f_X5_advance s11) fun _ s31 => fBd (f_X11_isIn (gI s31 5 0 6) ((25 : Int32)) ((28 : Int32)) s31) fun x32 s33 => if ¬ x32 = 0 then kW5 w q x4 s33 else (fBd (f_X5_failHere s33) fun x34 s35 => fBo x34 (some (x34, s35))))
noncomputable def kW3 (w q : Nat) (x4 : Int32) (s5 : fSt) : Option (Int32 × fSt) :=
  if ((30 : Int32)) ≤ (gI s5 9 w 1) then (fBd (f_X5_fail ((6 : Int32)) s5) fun x9 s10 => fBo x9 (some (x9, s10))) else
    if (gI s5 9 w 0) < ((60 : Int32)) then
      (if x4 = 0 then kW4 w q x4 s5 else if (gI s5 9 w 7) < ((3 : Int32)) then kW4 w q x4 s5 else (fBd (f_X5_fail ((7 : Int32)) s5) fun x36 s37 => fBo x36 (some (x36, s37))))
    else (fBd (f_X5_fail ((6 : Int32)) s5) fun x9 s10 => fBo x9 (some (x9, s10)))
noncomputable def kW2 (w q : Nat) (x4 : Int32) (s2 : fSt) : Option (Int32 × fSt) :=
  if ¬ x4 = 0 then kW3 w q x4 s2 else (fBd (f_X11_isIn (gI s2 5 0 6) ((19 : Int32)) ((23 : Int32)) s2) fun x38 s39 => if ¬ x38 = 0 then kW3 w q x4 s39 else if (gI s39 5 0 6) = ((31 : Int32)) then kW3 w q x4 s39 else (fBd (f_X5_failHere s39) fun x40 s41 => fBo x40 (some (x40, s41))))
theorem kW_eq (w q : Nat) (st : fSt) : f_X9_readStep w q st = if (gI st 5 0 6) = ((24 : Int32)) then kW2 w q ((1 : Int32)) st else if ¬ (gI st 5 0 6) = ((29 : Int32)) then kW2 w q ((0 : Int32)) st else kW2 w q ((1 : Int32)) st := rfl
theorem kRS_e (w q : Nat) (x4 : Int32) (s : fSt) : (fBd (f_X9_readRest w q s) fun x18 s19 => if x18 = 0 then some ((0 : Int32), s19) else (fBd (f_X5_take ((59 : Int32)) s19) fun x22 s23 => if ¬ x22 = 0 then kW6 w x4 s23 else some ((0 : Int32), s23))) = fBd (kRS w q s) fun x s1 => if ¬ x = 0 then kW6 w x4 s1 else some ((0 : Int32), s1) := by
  unfold kRS
  rw [fBd_as]
  refine congrArg (fBd (f_X9_readRest w q s)) (funext fun x => funext fun s1 => ?_)
  by_cases h : x = 0
  · rw [if_pos h, if_pos h, fBd_s, if_neg (fun g => g rfl)]
  · rw [if_neg h, if_neg h]
theorem mTail_e (M : fSt → Option (Unit × fSt)) (s : fSt) : (fBd (f_X12_isSign ((59 : Int32)) s) fun x19 s20 => fBd (f_X12_must x19 s20) fun _ s21 => M s21) = fBd (mTail s) fun _ s21 => M s21 := by
  unfold mTail
  rw [fBd_as]
  rfl
