/-! layer 2: reading an actor -/
def bad (s : fSt) : Prop := ∃ k, (1 ≤ k ∧ k ≤ 7) ∧ gI s 12 0 12 = nI k
theorem bad_fl {sc sm : fSt} {d e : Nat} (F : flR sc sm d e) : bad sm := ⟨d, ⟨F.1, F.2.1⟩, F.2.2.2.1⟩
theorem bad_hf {sc sm : fSt} {a : Nat} (F : hfR sc sm a) : bad sm := ⟨2, by omega, F.2.2.2.1⟩
-- after a fault the reference runs on and only writes cells of D, E
def mB (D E : Nat → Prop) (M : fSt → Option (Unit × fSt)) : Prop := ∀ s, bad s → ∃ s', M s = some ((), s') ∧ yS D E s s' ∧ gI s' = gI s
section
variable {D E : Nat → Prop}
theorem yS_rf (s : fSt) : yS D E s s := yS_y (yFr_rf s)
theorem mB_id : mB D E (fun s => some ((), s)) := fun s _ => ⟨s, rfl, yS_rf s, rfl⟩
theorem mB_word {w : fSt → Option (Int32 × fSt)} (hw : ∀ s, ∃ b, w s = some (bI b, s)) {M : fSt → Option (Unit × fSt)} (h : mB D E M) : mB D E (fun s => fBd (w s) fun x s1 => fBd (f_X12_must x s1) fun _ s2 => M s2) := by
  intro s hs
  obtain ⟨b, hb⟩ := hw s
  obtain ⟨k, hk, hk2⟩ := id hs
  obtain ⟨s', e, g⟩ := h s hs
  refine ⟨s', ?_, g⟩
  show (fBd (w s) fun x s1 => fBd (f_X12_must x s1) fun _ s2 => M s2) = some ((), s')
  rw [hb, fBd_s, m_must_no hk hk2, fBd_s, e]
theorem mB_count {x y : Int32} {M : Int32 → fSt → Option (Unit × fSt)} (h : mB D E (M (nI 0))) : mB D E (fun s => fBd (f_X12_count x y s) fun r s1 => M r s1) := by
  intro s hs
  obtain ⟨k, hk, hk2⟩ := id hs
  obtain ⟨s', e, g⟩ := h s hs
  refine ⟨s', ?_, g⟩
  show (fBd (f_X12_count x y s) fun r s1 => M r s1) = some ((), s')
  rw [no_count hk hk2, fBd_s, e]
theorem mB_set {m : Nat} {v : Int32} (hm : D m) {M : fSt → Option (Unit × fSt)} (h : mB D E M) : mB D E (fun s => M (sA s 12 0 5 (upd (gA s 12 0 5) m v))) := by
  intro s hs
  obtain ⟨s', e, g1, g2⟩ := h (sA s 12 0 5 (upd (gA s 12 0 5) m v)) (by obtain ⟨k, hk, hk2⟩ := hs; exact ⟨k, hk, by rw [gI_sA]; exact hk2⟩)
  exact ⟨s', e, yS_tr (yS_A s v hm) g1, g2⟩
theorem mB_fault {M N : fSt → Option (Unit × fSt)} (h : mB D E M) : mB D E (fun s => if ¬ gI s 12 0 12 = nI 0 then M s else N s) := by
  intro s hs
  obtain ⟨k, hk, hk2⟩ := id hs
  obtain ⟨s', e, g⟩ := h s hs
  refine ⟨s', ?_, g⟩
  show (if ¬ gI s 12 0 12 = nI 0 then M s else N s) = some ((), s')
  rw [hk2, if_pos (by rw [i_eq _ _ (by omega) (by omega)]; omega), e]
end
/-- an item that fails -/
theorem it_bad {n : Nat} {c : Nat → Nat} {q : Nat} {sc sm s' t' : fSt} {p d e : Nat} {X : fSt → Option (Int32 × fSt)} {M K : fSt → Option (Unit × fSt)} {D E : Nat → Prop} (hX : X sc = some (nI 0, s')) (F : flR s' t' d e) (hM : M sm = K t') (hK : mB D E K) (fx : xQ q sc s') (fy : yQ sm t') (hD : ∀ m, D m → 1720 ≤ m) (hE : ∀ m, E m → 112 ≤ m) : itR n c q sc sm p X M := by
  obtain ⟨t2, e1, e2, e3⟩ := hK t' (bad_fl F)
  have F2 : flR s' t2 d e := by
    unfold flR at *
    rw [e3]
    exact F
  refine ⟨s', t2, ?_, fx, yQ_tr fy (yQ_S e2 hD hE), Or.inr ⟨hX, d, e, F2⟩⟩
  rw [hM, e1, fBd_s, mTail_no ⟨F2.1, F2.2.1⟩ F2.2.2.2.1]
-- the parts of the reference's readActor
noncomputable def mA6 (x1 x17 : Int32) (s18 : fSt) : Option (Unit × fSt) :=
  (fIx (((1739 : Int32)) + x1) 2150 <|
        fLt (sA s18 12 0 5 (upd (gA s18 12 0 5) (((1739 : Int32)) + x1).toNatClampNeg x17)) fun s20 =>
        if ¬ (gI s20 12 0 12) = 0 then some ((), s20)
        else
          (fIx ((1721 : Int32)) 2150 <|
          fIx ((1721 : Int32)) 2150 <|
          fLt (sA s20 12 0 5 (upd (gA s20 12 0 5) ((1721 : Int32)).toNatClampNeg ((gA s20 12 0 5 ((1721 : Int32)).toNatClampNeg) + ((1 : Int32))))) fun s23 =>
          some ((), s23)))
noncomputable def mA5 (x1 : Int32) (s16 : fSt) : Option (Unit × fSt) :=
      if ¬ (gI s16 12 0 12) = 0 then
        mA6 x1 0 s16
      else
        (fBd (f_X12_isNot  s16) fun x26 s27 =>
        if x26 = 0 then
          mA6 x1 0 s27
        else
          (fBd (f_X12_readRoles  s27) fun x28 s29 =>
          mA6 x1 x28 s29))
noncomputable def mA4 (x1 : Int32) (s13 : fSt) : Option (Unit × fSt) :=
      fBd (f_X12_count ((0 : Int32)) ((999 : Int32)) s13) fun x14 s15 =>
      fIx (((1733 : Int32)) + x1) 2150 <|
      fLt (sA s15 12 0 5 (upd (gA s15 12 0 5) (((1733 : Int32)) + x1).toNatClampNeg x14)) fun s16 => mA5 x1 s16
noncomputable def mA3 (x1 : Int32) (s10 : fSt) : Option (Unit × fSt) :=
      fBd (f_X12_isBreath  s10) fun x11 s12 =>
      fBd (f_X12_must x11 s12) fun _ s13 => mA4 x1 s13
noncomputable def mA2 (x1 : Int32) (s7 : fSt) : Option (Unit × fSt) :=
      fBd (f_X12_count ((0 : Int32)) ((99 : Int32)) s7) fun x8 s9 =>
      fIx (((1727 : Int32)) + x1) 2150 <|
      fLt (sA s9 12 0 5 (upd (gA s9 12 0 5) (((1727 : Int32)) + x1).toNatClampNeg x8)) fun s10 => mA3 x1 s10
noncomputable def mA1 (x1 : Int32) (s4 : fSt) : Option (Unit × fSt) :=
      fBd (f_X12_isPay  s4) fun x5 s6 =>
      fBd (f_X12_must x5 s6) fun _ s7 => mA2 x1 s7
theorem mA_eq (st : fSt) : f_X12_readActor st = fIx ((1721 : Int32)) 2150 (fLt (gA st 12 0 5 ((1721 : Int32)).toNatClampNeg) fun (x1 : Int32) => fJn (fun (s2 : fSt) => (if (gI s2 12 0 12) ≤ 0 then (fBd (f_X12_readNew ((6 : Int32)) x1 s2) fun _ s4 => mA1 x1 s4) else (some ((), s2)))) fun (j3 : fSt → Option (Unit × fSt)) => if ¬ x1 = ((6 : Int32)) then (j3 st) else (fBd (f_X12_fail ((6 : Int32)) (gI st 12 0 15) st) fun _ s30 => j3 s30)) := rfl
section
variable {m : Nat}
theorem mA6_b (hm : m < 6) (x : Int32) (s : fSt) : mA6 (nI m) x s = (fun s => if ¬ gI s 12 0 12 = nI 0 then some ((), s) else some ((), sA s 12 0 5 (upd (gA s 12 0 5) 1721 (gA s 12 0 5 1721 + nI 1)))) (sA s 12 0 5 (upd (gA s 12 0 5) (1739 + m) x)) := by
  unfold mA6
  simp (disch := omega) only [↓fLt_e, i_lit, i_neg1, nI_add, pk_mul, nI_clamp, i_le, i_lt, i_eq, fIx_n, nI_mI, mI_nI, mI_lt, nI_lt_m, mI_le, nI_le_m, xI_0, xI_s, bI_0, bI_1, bI_t, bI_f, n_31, j_bit, j_one, i_and, i_or]
theorem mA6_ok (hm : m < 6) {s : fSt} (h : gI s 12 0 12 = nI 0) (y : gA s 12 0 5 1721 = nI m) (x : Int32) : mA6 (nI m) x s = some ((), sA (sA s 12 0 5 (upd (gA s 12 0 5) (1739 + m) x)) 12 0 5 (upd (gA (sA s 12 0 5 (upd (gA s 12 0 5) (1739 + m) x)) 12 0 5) 1721 (nI (m + 1)))) := by
  have e : ¬ (1721 = 1739 + m) := by omega
  rw [mA6_b hm]
  simp (disch := omega) only [gI_sA, h, not_true_eq_false, if_false, gA_sA, and_self, if_true, ↓reduceIte, upd_at, e, y, nI_add]
theorem mA5_e (s : fSt) : mA5 (nI m) s = if ¬ gI s 12 0 12 = nI 0 then mA6 (nI m) (nI 0) s else (fBd (f_X12_isNot s) fun x s1 => if x = nI 0 then mA6 (nI m) (nI 0) s1 else fBd (f_X12_readRoles s1) fun x2 s2 => mA6 (nI m) x2 s2) := rfl
theorem mA4_e (hm : m < 6) : mA4 (nI m) = fun s => fBd (f_X12_count (nI 0) (nI 999) s) fun x s1 => mA5 (nI m) (sA s1 12 0 5 (upd (gA s1 12 0 5) (1733 + m) x)) := by
  funext s
  unfold mA4
  simp (disch := omega) only [↓fLt_e, i_lit, nI_add, nI_clamp, fIx_n]
theorem mA2_e (hm : m < 6) : mA2 (nI m) = fun s => fBd (f_X12_count (nI 0) (nI 99) s) fun x s1 => mA3 (nI m) (sA s1 12 0 5 (upd (gA s1 12 0 5) (1727 + m) x)) := by
  funext s
  unfold mA2
  simp (disch := omega) only [↓fLt_e, i_lit, nI_add, nI_clamp, fIx_n]
end
def dA (m i : Nat) : Prop := i = 1727 + m ∨ i = 1733 + m ∨ i = 1739 + m
def eA (m i : Nat) : Prop := i = 118 + m
def xA (m k i : Nat) : Prop := i = m ∧ (k = 5 ∨ k = 6 ∨ k = 7 ∨ k = 22)
section
variable {m : Nat}
theorem mA6_B (hm : m < 6) (x : Int32) : mB (dA m) (eA m) (mA6 (nI m) x) := by
  have e : mA6 (nI m) x = fun s => (fun s => if ¬ gI s 12 0 12 = nI 0 then (fun s => some ((), s)) s else (fun s => some ((), sA s 12 0 5 (upd (gA s 12 0 5) 1721 (gA s 12 0 5 1721 + nI 1)))) s) (sA s 12 0 5 (upd (gA s 12 0 5) (1739 + m) x)) := funext fun s => mA6_b hm x s
  rw [e]
  exact mB_set (M := fun s => if ¬ gI s 12 0 12 = nI 0 then (fun s => some ((), s)) s else (fun s => some ((), sA s 12 0 5 (upd (gA s 12 0 5) 1721 (gA s 12 0 5 1721 + nI 1)))) s) (show dA m (1739 + m) from Or.inr (Or.inr rfl)) (mB_fault mB_id)
theorem mA5_B (hm : m < 6) : mB (dA m) (eA m) (mA5 (nI m)) := by
  have e : mA5 (nI m) = fun s => if ¬ gI s 12 0 12 = nI 0 then mA6 (nI m) (nI 0) s else (fun s => (fBd (f_X12_isNot s) fun x s1 => if x = nI 0 then mA6 (nI m) (nI 0) s1 else fBd (f_X12_readRoles s1) fun x2 s2 => mA6 (nI m) x2 s2)) s := funext fun s => mA5_e s
  rw [e]
  exact mB_fault (mA6_B hm _)
theorem mA4_B (hm : m < 6) : mB (dA m) (eA m) (mA4 (nI m)) := by
  rw [mA4_e hm]
  exact mB_count (M := fun x s1 => mA5 (nI m) (sA s1 12 0 5 (upd (gA s1 12 0 5) (1733 + m) x))) (mB_set (Or.inr (Or.inl rfl)) (mA5_B hm))
theorem mA3_B (hm : m < 6) : mB (dA m) (eA m) (mA3 (nI m)) := mB_word an_Breath (mA4_B hm)
theorem mA2_B (hm : m < 6) : mB (dA m) (eA m) (mA2 (nI m)) := by
  rw [mA2_e hm]
  exact mB_count (M := fun x s1 => mA3 (nI m) (sA s1 12 0 5 (upd (gA s1 12 0 5) (1727 + m) x))) (mB_set (Or.inl rfl) (mA3_B hm))
theorem mA1_B (hm : m < 6) : mB (dA m) (eA m) (mA1 (nI m)) := mB_word an_Pay (mA2_B hm)
end
-- the parts of the class's readActor
noncomputable def kA6 (q : Nat) (s16 : fSt) (x17 : Int32) (s18 : fSt) : Option (Int32 × fSt) :=
  fIx (gI s16 7 q 1) 6 <| fLt (sA s18 7 q 7 (upd (gA s18 7 q 7) (gI s16 7 q 1).toNatClampNeg x17)) fun s20 =>
  fIx (gI s20 7 q 1) 6 <| if (gA s20 7 q 7 (gI s20 7 q 1).toNatClampNeg) = ((-1 : Int32)) then some ((0 : Int32), s20) else
    (fBd (f_X5_take ((59 : Int32)) s20) fun x23 s24 => if ¬ x23 = 0 then (fLt (sI s24 7 q 1 ((gI s24 7 q 1) + ((1 : Int32)))) fun s25 => some ((1 : Int32), s25)) else some ((0 : Int32), s24))
noncomputable def kA5 (q : Nat) (s16 : fSt) : Option (Int32 × fSt) :=
  if ¬ (gI s16 5 0 6) = ((4 : Int32)) then kA6 q s16 ((0 : Int32)) s16 else (fBd (f_X7_readRoles q s16) fun x26 s27 => kA6 q s16 x26 s27)
noncomputable def kA4 (q : Nat) (s11 : fSt) : Option (Int32 × fSt) :=
  fBd (f_X5_takeNumber ((0 : Int32)) ((999 : Int32)) s11) fun x14 s15 => if ¬ x14 = 0 then (fIx (gI s15 7 q 1) 6 <| fLt (sA s15 7 q 6 (upd (gA s15 7 q 6) (gI s15 7 q 1).toNatClampNeg (gI s15 5 0 9))) fun s16 => kA5 q s16) else some ((0 : Int32), s15)
noncomputable def kA3 (q : Nat) (s9 : fSt) : Option (Int32 × fSt) :=
  fBd (f_X5_take ((3 : Int32)) s9) fun x10 s11 => if x10 = 0 then some ((0 : Int32), s11) else kA4 q s11
noncomputable def kA2 (q : Nat) (s6 : fSt) : Option (Int32 × fSt) :=
  fBd (f_X5_takeNumber ((0 : Int32)) ((99 : Int32)) s6) fun x7 s8 => if ¬ x7 = 0 then (fIx (gI s8 7 q 1) 6 <| fLt (sA s8 7 q 5 (upd (gA s8 7 q 5) (gI s8 7 q 1).toNatClampNeg (gI s8 5 0 9))) fun s9 => kA3 q s9) else some ((0 : Int32), s8)
noncomputable def kA1 (q : Nat) (s2 : fSt) : Option (Int32 × fSt) :=
  fBd (f_X5_take ((2 : Int32)) s2) fun x5 s6 => if x5 = 0 then some ((0 : Int32), s6) else kA2 q s6
theorem kA_eq (q : Nat) (st : fSt) : f_X7_readActor q st = fBd (f_X7_readNew q 7 q 2 6 (gI st 7 q 1) st) fun x1 s2 => if x1 = 0 then some ((0 : Int32), s2) else kA1 q s2 := rfl
-- a test and a count, both sides
section
variable {n : Nat} {c : Nat → Nat} {s t : fSt} {a p so : Nat}
theorem st_take (P : psR s t n c a p so) {k : Nat} (hk : k < 64) (w : fSt → Option (Int32 × fSt)) (hw : w t = some (bI (decide (so = k)), t)) (K : fSt → Option (Int32 × fSt)) (M : fSt → Option (Unit × fSt)) : ∃ s' t', xFr s s' ∧ yFr t t' ∧ (fBd (w t) fun x t1 => fBd (f_X12_must x t1) fun _ t2 => M t2) = M t' ∧ (((fBd (f_X5_take (nI k) s) fun x s1 => if x = 0 then some ((0 : Int32), s1) else K s1) = K s' ∧ ∃ a' p' so', psR s' t' n c a' p' so' ∧ (p ≤ a' ∧ (¬ so' = 35 → p < p'))) ∨ ((fBd (f_X5_take (nI k) s) fun x s1 => if x = 0 then some ((0 : Int32), s1) else K s1) = some (nI 0, s') ∧ ∃ d e, flR s' t' d e)) := by
  obtain ⟨s1, t1, e1, f1, g1, h⟩ := ps_take P hk
  refine ⟨s1, t1, f1, g1, ?_, ?_⟩
  · rw [hw, fBd_s, e1, fBd_s]
  · rcases h with ⟨-, h, a', p', o', P', m, -⟩ | ⟨-, h, d, F⟩
    · refine Or.inl ⟨?_, a', p', o', P', m⟩
      rw [h, fBd_s, if_neg (by decide)]
    · refine Or.inr ⟨?_, d, a, F⟩
      rw [h, fBd_s, if_pos (by decide)]
      rfl
theorem st_count (P : psR s t n c a p so) {lo hi : Nat} (hl : lo < 10000 ∧ hi < 10000) (K : fSt → Option (Int32 × fSt)) (M : Int32 → fSt → Option (Unit × fSt)) : ∃ s' t' r, xFr s s' ∧ yFr t t' ∧ (fBd (f_X12_count (nI lo) (nI hi) t) fun x t1 => M x t1) = M (nI r) t' ∧ (((fBd (f_X5_takeNumber (nI lo) (nI hi) s) fun x s1 => if ¬ x = 0 then K s1 else some ((0 : Int32), s1)) = K s' ∧ (lo ≤ r ∧ r ≤ hi) ∧ gI s' 5 0 9 = nI r ∧ ∃ a' p' so', psR s' t' n c a' p' so' ∧ (p ≤ a' ∧ (¬ so' = 35 → p < p'))) ∨ ((fBd (f_X5_takeNumber (nI lo) (nI hi) s) fun x s1 => if ¬ x = 0 then K s1 else some ((0 : Int32), s1)) = some (nI 0, s') ∧ r = 0 ∧ ∃ d e, flR s' t' d e)) := by
  obtain ⟨s1, t1, r, e1, f1, g1, h⟩ := ps_count P hl
  refine ⟨s1, t1, r, f1, g1, ?_, ?_⟩
  · rw [e1, fBd_s]
  · rcases h with ⟨h1, h2, h, h9, a', p', o', P', m⟩ | ⟨h, h0, d, F⟩
    · refine Or.inl ⟨?_, ⟨h1, h2⟩, h9, a', p', o', P', m⟩
      rw [h, fBd_s, if_pos (by decide)]
    · refine Or.inr ⟨?_, h0, d, a, F⟩
      rw [h, fBd_s, if_neg (by decide)]
      rfl
end
