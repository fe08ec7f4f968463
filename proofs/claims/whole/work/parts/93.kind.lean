/-! layer 2: reading a kind -/
-- the parts of the reference's readKind
noncomputable def mK6 (x1 x16 x22 x26 : Int32) (s27 : fSt) : Option (Unit × fSt) :=
      fIx (((1853 : Int32)) + x1) 2150 <|
      fLt (sA s27 12 0 5 (upd (gA s27 12 0 5) (((1853 : Int32)) + x1).toNatClampNeg x26)) fun s28 =>
      fIx (((1845 : Int32)) + x1) 2150 <|
      fLt (sA s28 12 0 5 (upd (gA s28 12 0 5) (((1845 : Int32)) + x1).toNatClampNeg x16)) fun s29 =>
      fIx (((1849 : Int32)) + x1) 2150 <|
      fLt (sA s29 12 0 5 (upd (gA s29 12 0 5) (((1849 : Int32)) + x1).toNatClampNeg x22)) fun s30 =>
      if ¬ (gI s30 12 0 12) = 0 then some ((), s30)
      else
        (fIx ((1723 : Int32)) 2150 <|
        fIx ((1723 : Int32)) 2150 <|
        fLt (sA s30 12 0 5 (upd (gA s30 12 0 5) ((1723 : Int32)).toNatClampNeg ((gA s30 12 0 5 ((1723 : Int32)).toNatClampNeg) + ((1 : Int32))))) fun s33 =>
        some ((), s33))
noncomputable def mK5 (x1 x16 x22 : Int32) (s21 : fSt) : Option (Unit × fSt) :=
      fBd (f_X12_isSleeps  s21) fun x23 s24 =>
      fBd (f_X12_must x23 s24) fun _ s25 =>
      fBd (f_X12_count ((0 : Int32)) ((((16 : Int32)) - x16) - x22) s25) fun x26 s27 => mK6 x1 x16 x22 x26 s27
noncomputable def mK4 (x1 x16 : Int32) (s15 : fSt) : Option (Unit × fSt) :=
      fBd (f_X12_isLaughs  s15) fun x17 s18 =>
      fBd (f_X12_must x17 s18) fun _ s19 =>
      fBd (f_X12_count ((0 : Int32)) (((16 : Int32)) - x16) s19) fun x20 s21 => mK5 x1 x16 x20 s21
noncomputable def mK3 (x1 : Int32) (s10 : fSt) : Option (Unit × fSt) :=
      fBd (f_X12_isTears  s10) fun x11 s12 =>
      fBd (f_X12_must x11 s12) fun _ s13 =>
      fBd (f_X12_count ((0 : Int32)) ((16 : Int32)) s13) fun x14 s15 => mK4 x1 x14 s15
noncomputable def mK2 (x1 : Int32) (s7 : fSt) : Option (Unit × fSt) :=
      fBd (f_X12_count ((1 : Int32)) ((30 : Int32)) s7) fun x8 s9 =>
      fIx (((1841 : Int32)) + x1) 2150 <|
      fLt (sA s9 12 0 5 (upd (gA s9 12 0 5) (((1841 : Int32)) + x1).toNatClampNeg x8)) fun s10 => mK3 x1 s10
noncomputable def mK1 (x1 : Int32) (s4 : fSt) : Option (Unit × fSt) :=
      fBd (f_X12_isLots  s4) fun x5 s6 =>
      fBd (f_X12_must x5 s6) fun _ s7 => mK2 x1 s7
theorem mK_eq (st : fSt) : f_X12_readKind st = fIx ((1723 : Int32)) 2150 (fLt (gA st 12 0 5 ((1723 : Int32)).toNatClampNeg) fun (x1 : Int32) => fJn (fun (s2 : fSt) => (if (gI s2 12 0 12) ≤ 0 then (fBd (f_X12_readNew ((24 : Int32)) x1 s2) fun _ s4 => mK1 x1 s4) else (some ((), s2)))) fun (j3 : fSt → Option (Unit × fSt)) => if ¬ x1 = ((4 : Int32)) then (j3 st) else (fBd (f_X12_fail ((6 : Int32)) (gI st 12 0 15) st) fun _ s30 => j3 s30)) := rfl
section
variable {m : Nat}
theorem mK6_e (hm : m < 4) (x y z : Int32) : mK6 (nI m) x y z = fun s => (fun s => if ¬ gI s 12 0 12 = nI 0 then some ((), s) else some ((), wA s 1723 (gA s 12 0 5 1723 + nI 1))) (wA (wA (wA s (1853 + m) z) (1845 + m) x) (1849 + m) y) := by
  funext s
  unfold mK6 wA
  simp (disch := omega) only [↓fLt_e, i_lit, nI_add, nI_clamp, fIx_n]
theorem mK2_e (hm : m < 4) : mK2 (nI m) = fun s => fBd (f_X12_count (nI 1) (nI 30) s) fun x s1 => mK3 (nI m) (wA s1 (1841 + m) x) := by
  funext s
  unfold mK2 wA
  simp (disch := omega) only [↓fLt_e, i_lit, nI_add, nI_clamp, fIx_n]
end
def dK (m i : Nat) : Prop := i = 1841 + m ∨ i = 1845 + m ∨ i = 1849 + m ∨ i = 1853 + m
def eK (m i : Nat) : Prop := i = 136 + m
def xK (m k i : Nat) : Prop := (i = m ∧ (k = 13 ∨ k = 24)) ∨ (k = 14 ∧ m * 4 ≤ i ∧ i < m * 4 + 4)
section
variable {m : Nat}
theorem mK6_B (hm : m < 4) (x y z : Int32) : mB (dK m) (eK m) (mK6 (nI m) x y z) := by
  rw [mK6_e hm]
  refine mB_wA (M := fun s => (fun s => if ¬ gI s 12 0 12 = nI 0 then some ((), s) else some ((), wA s 1723 (gA s 12 0 5 1723 + nI 1))) (wA (wA s (1845 + m) x) (1849 + m) y)) (Or.inr (Or.inr (Or.inr rfl))) ?_
  refine mB_wA (M := fun s => (fun s => if ¬ gI s 12 0 12 = nI 0 then some ((), s) else some ((), wA s 1723 (gA s 12 0 5 1723 + nI 1))) (wA s (1849 + m) y)) (Or.inr (Or.inl rfl)) ?_
  refine mB_wA (M := fun s => if ¬ gI s 12 0 12 = nI 0 then some ((), s) else some ((), wA s 1723 (gA s 12 0 5 1723 + nI 1))) (Or.inr (Or.inr (Or.inl rfl))) ?_
  exact mB_fault (M := fun s => some ((), s)) (N := fun s => some ((), wA s 1723 (gA s 12 0 5 1723 + nI 1))) mB_id
theorem mK5_B (hm : m < 4) (x y : Int32) : mB (dK m) (eK m) (mK5 (nI m) x y) :=
  mB_word an_Sleeps (M := fun s => fBd (f_X12_count (nI 0) ((nI 16 - x) - y) s) fun z s2 => mK6 (nI m) x y z s2) (mB_count (mK6_B hm x y _))
theorem mK4_B (hm : m < 4) (x : Int32) : mB (dK m) (eK m) (mK4 (nI m) x) :=
  mB_word an_Laughs (M := fun s => fBd (f_X12_count (nI 0) (nI 16 - x) s) fun z s2 => mK5 (nI m) x z s2) (mB_count (mK5_B hm x _))
theorem mK3_B (hm : m < 4) : mB (dK m) (eK m) (mK3 (nI m)) :=
  mB_word an_Tears (M := fun s => fBd (f_X12_count (nI 0) (nI 16) s) fun z s2 => mK4 (nI m) z s2) (mB_count (mK4_B hm _))
theorem mK2_B (hm : m < 4) : mB (dK m) (eK m) (mK2 (nI m)) := by
  rw [mK2_e hm]
  exact mB_count (M := fun x s1 => mK3 (nI m) (wA s1 (1841 + m) x)) (mB_wA (Or.inl rfl) (mK3_B hm))
theorem mK1_B (hm : m < 4) : mB (dK m) (eK m) (mK1 (nI m)) := mB_word an_Lots (mK2_B hm)
end
-- the parts of the class's readKind
noncomputable def kK14 (q : Nat) (x12 : Int32) (s13 : fSt) : Option (Int32 × fSt) :=
          (fIx ((gI s13 7 q 3) * ((4 : Int32))) 16 <|
          fLt (sA s13 7 q 14 (upd (gA s13 7 q 14) ((gI s13 7 q 3) * ((4 : Int32))).toNatClampNeg x12)) fun s15 =>
          fBd (f_X5_take ((59 : Int32)) s15) fun x16 s17 =>
          if ¬ x16 = 0 then
            (fLt (sI s17 7 q 3 ((gI s17 7 q 3) + ((1 : Int32)))) fun s18 =>
            some ((1 : Int32), s18))
          else
            (some ((0 : Int32), s17)))
noncomputable def kK20 (s19 : fSt) : Option (Int32 × fSt) := some ((0 : Int32), s19)
noncomputable def kK2 (q : Nat) (s6 : fSt) : Option (Int32 × fSt) :=
  fBd (f_X5_takeNumber ((1 : Int32)) ((30 : Int32)) s6) fun x7 s8 => if ¬ x7 = 0 then (fIx (gI s8 7 q 3) 4 <| fLt (sA s8 7 q 13 (upd (gA s8 7 q 13) (gI s8 7 q 3).toNatClampNeg (gI s8 5 0 9))) fun s9 => f_X7_readKind_L55 q (kK14 q) kK20 fF ((16 : Int32)) ((1 : Int32)) s9) else some ((0 : Int32), s8)
noncomputable def kK1 (q : Nat) (s2 : fSt) : Option (Int32 × fSt) :=
  fBd (f_X5_take ((15 : Int32)) s2) fun x5 s6 => if x5 = 0 then some ((0 : Int32), s6) else kK2 q s6
theorem kK_eq (q : Nat) (st : fSt) : f_X7_readKind q st = fBd (f_X7_readNew q 7 q 4 4 (gI st 7 q 3) st) fun x1 s2 => if x1 = 0 then some ((0 : Int32), s2) else kK1 q s2 := rfl
-- the kind's lots and the first j - 1 of its numbers are read
def kdS (q : Nat) (G : Nat → Nat) (sc sm : fSt) (v1 j : Nat) (V : Nat → Nat) (s t : fSt) : Prop := xS q (xK (G 3)) sc s ∧ yS (dK (G 3)) (eK (G 3)) sm t ∧ gB s 7 q 4 (G 3) = gB t 12 0 7 (136 + G 3) ∧ (gA s 7 q 13 (G 3) = nI v1 ∧ gA t 12 0 5 (1841 + G 3) = nI v1) ∧ ∀ i, 1 ≤ i → i < j → gA s 7 q 14 (G 3 * 4 + i) = nI (V i)
section
variable {n : Nat} {c : Nat → Nat} {q : Nat} {G : Nat → Nat} {sc sm s t s' t' : fSt} {a p so p0 v1 j : Nat} {V : Nat → Nat} {X : fSt → Option (Int32 × fSt)} {M : fSt → Option (Unit × fSt)}
theorem dK_le {m i : Nat} (h : dK m i) : 1720 ≤ i := by
  unfold dK at h
  omega
theorem eK_le {m i : Nat} (h : eK m i) : 112 ≤ i := by
  unfold eK at h
  omega
theorem kdS_Q (Z : kdS q G sc sm v1 j V s t) : xQ q sc s ∧ yQ sm t := ⟨xQ_S Z.1, yQ_S Z.2.1 (fun _ h => dK_le h) (fun _ h => eK_le h)⟩
theorem kdS_x3 (S : sgR sc sm q G) (Z : kdS q G sc sm v1 j V s t) : gI s 7 q 3 = nI (G 3) := (Z.1.1 _ _ _ (by omega)).trans (nmR_of S).2.1.2.2.2
theorem kdS_fr (Z : kdS q G sc sm v1 j V s t) (f : xFr s s') (g : yFr t t') : kdS q G sc sm v1 j V s' t' := by
  obtain ⟨u1, u2, u3, u4, u5⟩ := Z
  refine ⟨xS_tr u1 (xS_x f), yS_tr u2 (yS_y g), ?_, ?_, ?_⟩
  · rw [f.2.2.2.1, g.2.2.2.1]; exact u3
  · rw [f.2.2.1, g.2.2.1]; exact u4
  · rw [f.2.2.1]; exact u5
theorem kdS_zA {v : Nat} (hj : 1 ≤ j ∧ j < 4) (Z : kdS q G sc sm v1 j V s t) : kdS q G sc sm v1 (j + 1) (fun i => if i = j then v else V i) (zA q s 14 (G 3 * 4 + j) (nI v)) t := by
  obtain ⟨u1, u2, u3, u4, u5⟩ := Z
  refine ⟨xS_tr u1 (xS_A s _ (Or.inr ⟨rfl, by omega, by omega⟩)), u2, u3, ⟨?_, u4.2⟩, fun i h1 h2 => ?_⟩
  · unfold zA
    rw [gA_sA, if_neg (by omega)]
    exact u4.1
  · show gA (zA q s 14 (G 3 * 4 + j) (nI v)) 7 q 14 (G 3 * 4 + i) = nI (if i = j then v else V i)
    by_cases h : i = j
    · rw [h, if_pos rfl]
      exact zA_at _ _ _ _ _
    · rw [if_neg h]
      unfold zA
      rw [gA_sA, if_pos ⟨rfl, rfl, rfl⟩, upd_at, if_neg (by omega)]
      exact u5 i h1 (by omega)
theorem knd_bad {d e : Nat} {K : fSt → Option (Unit × fSt)} (Z : kdS q G sc sm v1 j V s t) (hX : X sc = some (nI 0, s)) (F : flR s t d e) (hM : M sm = K t) (hK : mB (dK (G 3)) (eK (G 3)) K) : itR n c q sc sm p0 X M :=
  it_bad hX F hM hK (kdS_Q Z).1 (kdS_Q Z).2 (fun _ h => dK_le h) (fun _ h => eK_le h)
-- the end of a kind
theorem knd_end {r : Nat} (S : sgR sc sm q G) (hm : G 3 < 4) (hv : 1 ≤ v1 ∧ v1 ≤ 30) (hr : V 1 + V 2 + V 3 ≤ 16 ∧ r = 16 - V 1 - V 2 - V 3) (Z : kdS q G sc sm v1 4 V s t) (P : psR s t n c a p so) (hp : p0 ≤ p) (hX : X sc = kK14 q (nI r) s) (hM : M sm = mK6 (nI (G 3)) (nI (V 1)) (nI (V 2)) (nI (V 3)) t) : itR n c q sc sm p0 X M := by
  have N := nmR_of S
  obtain ⟨⟨b0, b1, b2, b3⟩, ⟨x0, x1, x2, x3⟩, ⟨y0, y1, y2, y3⟩, -⟩ := id N
  have hx3 := kdS_x3 S Z
  have Q1 := kdS_Q Z
  obtain ⟨U, W, hn, ⟨z1, w1⟩, hV⟩ := Z
  have hy3 : gA t 12 0 5 1723 = nI (G 3) := (W.2.2.1 _ _ _ _ (fun e => by have := e.2.2.2; unfold dK at this; omega)).trans y3
  have hM2 : M sm = some ((), wA (wA (wA (wA t (1853 + G 3) (nI (V 3))) (1845 + G 3) (nI (V 1))) (1849 + G 3) (nI (V 2))) 1723 (nI (G 3 + 1))) := by
    rw [hM, mK6_e hm]
    have h0 : gI (wA (wA (wA t (1853 + G 3) (nI (V 3))) (1845 + G 3) (nI (V 1))) (1849 + G 3) (nI (V 2))) 12 0 12 = nI 0 := P.2.2.2.1
    have h1 : gA (wA (wA (wA t (1853 + G 3) (nI (V 3))) (1845 + G 3) (nI (V 1))) (1849 + G 3) (nI (V 2))) 12 0 5 1723 = nI (G 3) := by
      have e1 : ¬ (1723 = 1849 + G 3) := by omega
      have e2 : ¬ (1723 = 1845 + G 3) := by omega
      have e3 : ¬ (1723 = 1853 + G 3) := by omega
      unfold wA
      simp only [gA_sA, and_self, if_true, upd_at, e1, e2, e3, if_false]
      exact hy3
    show (if ¬ gI (wA (wA (wA t (1853 + G 3) (nI (V 3))) (1845 + G 3) (nI (V 1))) (1849 + G 3) (nI (V 2))) 12 0 12 = nI 0 then _ else _) = _
    rw [h0, if_neg (fun g => g rfl), h1, nI_add]
  have hX2 : X sc = fBd (f_X5_take (nI 59) (zA q s 14 (G 3 * 4) (nI r))) fun x s => if ¬ x = nI 0 then some (nI 1, sI s 7 q 3 (gI s 7 q 3 + nI 1)) else some (nI 0, s) := by
    rw [hX]
    unfold kK14 zA
    simp (disch := omega) only [↓fLt_e, hx3, i_lit, pk_mul, nI_clamp, fIx_n]
  have P1 := ps_A (ps_A (ps_A (ps_A (ps_A7 P q 14 (upd (gA s 7 q 14) (G 3 * 4) (nI r))) (1853 + G 3) (nI (V 3))) (1845 + G 3) (nI (V 1))) (1849 + G 3) (nI (V 2))) 1723 (nI (G 3 + 1))
  obtain ⟨s2, t2, e2, f2, g2, h⟩ := ps_tail P1
  have hM3 : (fBd (M sm) fun _ s => mTail s) = some ((), t2) := by rw [hM2, fBd_s]; exact e2
  have Q2 : yQ sm t2 := yQ_tr Q1.2 (yQ_tr (yQ_A t (by omega)) (yQ_tr (yQ_A _ (by omega)) (yQ_tr (yQ_A _ (by omega)) (yQ_tr (yQ_A _ (by omega)) (yQ_y g2)))))
  have Q3 : xQ q sc s2 := xQ_tr Q1.1 (xQ_tr (xQ_S (D := fun k' i => k' = 14 ∧ i = G 3 * 4) (xS_A s (nI r) ⟨rfl, rfl⟩)) (xQ_x f2))
  rcases h with ⟨d2, a2, p2, o2, P2, m3, m4⟩ | ⟨d2, d, e, F⟩
  · have xx : gI s2 7 q 3 = nI (G 3) := (f2.1 _ _ _ (by omega)).trans hx3
    refine ⟨sI s2 7 q 3 (nI (G 3 + 1)), t2, hM3, xQ_tr Q3 (xQ_I s2), Q2, Or.inl ⟨?_, fun k => if k = 3 then G 3 + 1 else if k = 121 + G 3 then v1 else if k = 125 + G 3 then V 1 else if k = 129 + G 3 then V 2 else if k = 133 + G 3 then V 3 else G k, a2, p2, o2, ?_, ps_I7 P2 q 3 _, by omega, fun ho => ?_⟩⟩
    · rw [hX2]
      show (fBd (f_X5_take (nI 59) (sA s 7 q 14 (upd (gA s 7 q 14) (G 3 * 4) (nI r)))) fun x s => if ¬ x = nI 0 then some (nI 1, sI s 7 q 3 (gI s 7 q 3 + nI 1)) else some (nI 0, s)) = _
      rw [d2, fBd_s, if_pos (by decide), xx, nI_add]
    · have hA : ∀ k, ¬ (k = 1723 ∨ k = 1845 + G 3 ∨ k = 1849 + G 3 ∨ k = 1853 + G 3) → gA t2 12 0 5 k = gA t 12 0 5 k := fun k hk => by
        rw [g2.2.2.1]
        simp (disch := omega) only [gA_sA, and_self, if_true, upd_at, if_neg]
      have hA1 : gA t2 12 0 5 1723 = nI (G 3 + 1) := by rw [g2.2.2.1, gA_sA, if_pos ⟨rfl, rfl, rfl⟩, upd_at, if_pos rfl]
      have hA2 : gA t2 12 0 5 (1845 + G 3) = nI (V 1) := by
        rw [g2.2.2.1]
        simp (disch := omega) only [gA_sA, and_self, if_true, upd_at, if_neg]
      have hA3 : gA t2 12 0 5 (1849 + G 3) = nI (V 2) := by
        rw [g2.2.2.1]
        simp (disch := omega) only [gA_sA, and_self, if_true, upd_at, if_neg]
      have hA4 : gA t2 12 0 5 (1853 + G 3) = nI (V 3) := by
        rw [g2.2.2.1]
        simp (disch := omega) only [gA_sA, and_self, if_true, upd_at, if_neg]
      have hs : ∀ k i, ¬ (k = 14 ∧ i = G 3 * 4) → gA (sI s2 7 q 3 (nI (G 3 + 1))) 7 q k i = gA s 7 q k i := fun k i hk => by
        rw [gA_sI, f2.2.2.1, gA_sA]
        by_cases h : k = 14
        · subst h
          rw [if_pos ⟨rfl, rfl, rfl⟩, upd_at, if_neg (by omega)]
        · rw [if_neg (by omega)]
      have hs0 : gA (sI s2 7 q 3 (nI (G 3 + 1))) 7 q 14 (G 3 * 4) = nI r := by rw [gA_sI, f2.2.2.1, gA_sA, if_pos ⟨rfl, rfl, rfl⟩, upd_at, if_pos rfl]
      refine stR_knd (v1 := v1) (v2 := V 1) (v3 := V 2) (v4 := V 3) S hm ⟨hv, hr.1⟩ rfl ⟨?_, ?_, ?_, ?_⟩ (fun k hk => ?_) ?_ (fun k hk => ?_) (fun k i hk => ?_) (fun k i hk => ?_) ⟨(hs _ _ (by omega)).trans z1, by rw [hs0, hr.2], (hs _ _ (by omega)).trans (hV 1 (by omega) (by omega)), (hs _ _ (by omega)).trans (hV 2 (by omega) (by omega)), (hs _ _ (by omega)).trans (hV 3 (by omega) (by omega))⟩ hA1 (fun k hk => ?_) (fun i hi => ?_) ⟨?_, ?_, ?_, ?_⟩ ?_
      · simp (disch := omega) only [if_neg, if_pos, if_true]
      · simp (disch := omega) only [if_neg, if_pos, if_true]
      · simp (disch := omega) only [if_neg, if_pos, if_true]
      · simp (disch := omega) only [if_neg, if_pos, if_true]
      · simp (disch := omega) only [if_neg, if_pos, if_true]
      · rw [gI_sI, if_pos ⟨rfl, rfl, rfl⟩]
      · rw [gI_sI, if_neg (by omega), f2.1 _ _ _ (by omega)]
        exact U.1 _ _ _ (by omega)
      · rw [hs _ _ (by omega)]
        exact U.2.2.1 _ _ _ _ (fun e => by have := e.2.2; unfold xK at this; omega)
      · rw [gB_sI, f2.2.2.2.1]
        exact U.2.2.2.1 _ _ _ _ (fun e => by have := e.2.2; unfold xK at this; omega)
      · rw [hA _ (by omega)]
        exact W.2.2.1 _ _ _ _ (fun e => by have := e.2.2.2; unfold dK at this; omega)
      · rw [g2.2.2.2.1]
        exact W.2.2.2.1 _ _ _ _ (fun e => by have := e.2.2.2; unfold eK at this; omega)
      · rw [← Nat.add_assoc, hA _ (by omega)]; exact w1
      · rw [← Nat.add_assoc]; exact hA2
      · rw [← Nat.add_assoc]; exact hA3
      · rw [← Nat.add_assoc]; exact hA4
      · rw [gB_sI, f2.2.2.2.1, g2.2.2.2.1]; exact hn
    · have := m4 ho
      have hpp := P.2.2.1.2.2.2.2
      omega
  · refine ⟨s2, t2, hM3, Q3, Q2, Or.inr ⟨?_, d, e, F⟩⟩
    rw [hX2]
    show (fBd (f_X5_take (nI 59) (sA s 7 q 14 (upd (gA s 7 q 14) (G 3 * 4) (nI r)))) fun x s => if ¬ x = nI 0 then some (nI 1, sI s 7 q 3 (gI s 7 q 3 + nI 1)) else some (nI 0, s)) = _
    rw [d2, fBd_s, if_neg (by decide)]
-- one of the three numbers
theorem knd_step {F r : Nat} (hj : 1 ≤ j ∧ j < 4) (hr : r ≤ 16) {w : fSt → Option (Int32 × fSt)} {M' : Int32 → fSt → Option (Unit × fSt)} (S : sgR sc sm q G) (hm : G 3 < 4) (Z : kdS q G sc sm v1 j V s t) (P : psR s t n c a p so) (hw : w t = some (bI (decide (so = 15 + j)), t)) (hB : mB (dK (G 3)) (eK (G 3)) (M' (nI 0))) (hX : X sc = f_X7_readKind_L55 q (kK14 q) kK20 (F + 1) (nI r) (nI j) s) (hM : M sm = fBd (w t) fun x t1 => fBd (f_X12_must x t1) fun _ t2 => fBd (f_X12_count (nI 0) (nI r) t2) fun v t3 => M' v t3)
    (next : ∀ s' t' v a' p' so', psR s' t' n c a' p' so' → p ≤ p' → v ≤ r → kdS q G sc sm v1 (j + 1) (fun i => if i = j then v else V i) s' t' → X sc = f_X7_readKind_L55 q (kK14 q) kK20 F (nI (r - v)) (nI (j + 1)) s' → M sm = M' (nI v) t' → itR n c q sc sm p0 X M) : itR n c q sc sm p0 X M := by
  have hk4 : ¬ 4 ≤ j := by omega
  have hpp := P.2.2.1.2.2.2.2
  unfold f_X7_readKind_L55 at hX
  rw [show ((4 : Int32)) = nI 4 from rfl, if_neg (nle4 hj.2), show ((16 : Int32)) = nI 16 from rfl, show ((1 : Int32)) = nI 1 from rfl, show ((0 : Int32)) = nI 0 from rfl, nI_add, nI_sub (by omega), show 16 + j - 1 = 15 + j by omega] at hX
  obtain ⟨s1, t1, e1, f1, g1, h⟩ := ps_take P (k := 15 + j) (by omega)
  rw [hw, fBd_s, e1, fBd_s] at hM
  have Z1 := kdS_fr Z f1 g1
  rcases h with ⟨-, d1, a1, p1, o1, P1, m1, -⟩ | ⟨-, d1, d, F⟩
  rotate_left
  · rw [d1, fBd_s, if_pos rfl] at hX
    exact knd_bad (K := fun t2 => fBd (f_X12_count (nI 0) (nI r) t2) fun v t3 => M' v t3) Z1 hX F hM (mB_count hB)
  rw [d1, fBd_s, if_neg (by decide)] at hX
  have hp1 := P1.2.2.1.2.2.2.2
  obtain ⟨s2, t2, v, e2, f2, g2, h⟩ := ps_count P1 (lo := 0) (hi := r) (by omega)
  rw [e2, fBd_s] at hM
  have Z2 := kdS_fr Z1 f2 g2
  rcases h with ⟨-, hv, d2, h9, a2, p2, o2, P2, m3, -⟩ | ⟨d2, h0, d, F⟩
  rotate_left
  · rw [d2, fBd_s, if_neg (fun g => g rfl)] at hX
    rw [h0] at hM
    exact knd_bad Z2 hX F hM hB
  have hp2 := P2.2.2.1.2.2.2.2
  have hx3 := kdS_x3 S Z2
  rw [d2, fBd_s, if_pos (by decide)] at hX
  refine next (zA q s2 14 (G 3 * 4 + j) (nI v)) t2 v a2 p2 o2 (ps_A7 P2 q 14 _) (by omega) hv (kdS_zA hj Z2) (hX.trans ?_) hM
  unfold zA
  simp (disch := omega) only [↓fLt_e, hx3, h9, i_lit, pk_mul, nI_add, nI_clamp, fIx_n, nI_sub, gI_sA]
theorem ps_readKind (P : psR sc sm n c a p so) (S : sgR sc sm q G) : itR n c q sc sm p (f_X7_readKind q) f_X12_readKind := by
  have N := nmR_of S
  obtain ⟨⟨b0, b1, b2, b3⟩, ⟨x0, x1, x2, x3⟩, ⟨y0, y1, y2, y3⟩, -⟩ := id N
  have hb := P.2.2.2.1
  have hpp := P.2.2.1.2.2.2.2
  by_cases hG : G 3 = 4
  · obtain ⟨F, f1, g1⟩ := fl_mk P (k := 6) (by omega)
    obtain ⟨e1, e2⟩ := ps_full P
    refine ⟨_, _, ?_, xQ_x f1, yQ_y g1, Or.inr ⟨?_, _, _, F⟩⟩
    · rw [mK_eq]
      simp (disch := omega) only [↓fLt_e, fBd_s, ↓fJn_s, fNn_s, fNu_0, fNu_s, fBo_0, fBo_1, fBo_b, i_lit, i_neg1, nI_add, pk_mul, nI_clamp, i_le, i_lt, i_eq, fIx_n, nI_mI, mI_nI, mI_lt, nI_lt_m, mI_le, nI_le_m, xI_0, xI_s, bI_0, bI_1, bI_t, bI_f, n_31, j_bit, j_one, i_and, i_or, Nat.not_lt_zero, Nat.succ_ne_zero, Nat.add_one_ne_zero, Nat.add_one_sub_one, Nat.zero_le, Nat.or_zero, Nat.zero_or, Bool.not_true, Bool.not_false, Bool.true_and, Bool.false_and, Bool.and_true, Bool.and_false, ↓reduceIte, if_true, if_false, not_true_eq_false, not_false_eq_true, true_and, and_true, false_and, and_false, and_self, true_or, or_true, false_or, or_false, Nat.reduceEqDiff, Nat.reduceLT, Nat.reduceLeDiff, Nat.reduceAdd, Nat.reduceMul, Nat.reduceSub, Nat.add_zero, Nat.zero_add, Nat.mul_zero, Nat.zero_mul, ne_eq, Bool.not_eq_true, Bool.not_eq_false, reduceCtorEq, decide_true, decide_false, decide_eq_true_eq, decide_eq_false_iff_not, Bool.false_eq_true, if_pos, if_neg, y3, hG, e1, e2]
      exact mTail_no (k := 6) (by omega) e2
    · rw [kK_eq, x3, x_newfull (by omega)]
      rfl
  have hm : G 3 < 4 := by omega
  have hM : f_X12_readKind sm = fBd (f_X12_readNew (nI 24) (nI (G 3)) sm) fun _ s4 => mK1 (nI (G 3)) s4 := by
    rw [mK_eq]
    simp (disch := omega) only [↓fLt_e, fBd_s, ↓fJn_s, fNn_s, fNu_0, fNu_s, fBo_0, fBo_1, fBo_b, i_lit, i_neg1, nI_add, pk_mul, nI_clamp, i_le, i_lt, i_eq, fIx_n, nI_mI, mI_nI, mI_lt, nI_lt_m, mI_le, nI_le_m, xI_0, xI_s, bI_0, bI_1, bI_t, bI_f, n_31, j_bit, j_one, i_and, i_or, Nat.not_lt_zero, Nat.succ_ne_zero, Nat.add_one_ne_zero, Nat.add_one_sub_one, Nat.zero_le, Nat.or_zero, Nat.zero_or, Bool.not_true, Bool.not_false, Bool.true_and, Bool.false_and, Bool.and_true, Bool.and_false, ↓reduceIte, if_true, if_false, not_true_eq_false, not_false_eq_true, true_and, and_true, false_and, and_false, and_self, true_or, or_true, false_or, or_false, Nat.reduceEqDiff, Nat.reduceLT, Nat.reduceLeDiff, Nat.reduceAdd, Nat.reduceMul, Nat.reduceSub, Nat.add_zero, Nat.zero_add, Nat.mul_zero, Nat.zero_mul, ne_eq, Bool.not_eq_true, Bool.not_eq_false, reduceCtorEq, decide_true, decide_false, decide_eq_true_eq, decide_eq_false_iff_not, Bool.false_eq_true, if_pos, if_neg, y3, hG, hb]
  have hX : f_X7_readKind q sc = fBd (f_X7_readNew q 7 q 4 4 (nI (G 3)) sc) fun x1 s2 => if x1 = 0 then some ((0 : Int32), s2) else kK1 q s2 := by rw [kK_eq, x3]
  obtain ⟨s1, t1, e1, h⟩ := ps_new P (jj := 4) (nn := 4) (o := 24) (cnt := G 3) N (by omega)
  rw [e1, fBd_s] at hM
  rcases h with ⟨d1, w, a1, p1, o1, f1, g1, P1, m1, m2⟩ | ⟨d1, f1, g1, d, e, F⟩
  rotate_left
  · refine it_bad (s' := s1) (t' := t1) ?_ F hM (mK1_B hm) (xQ_x f1) (yQ_y g1) (fun _ h => dK_le h) (fun _ h => eK_le h)
    rw [hX, d1]
    rfl
  rw [d1, fBd_s, if_neg (by decide)] at hX
  have hp1 := P1.2.2.1.2.2.2.2
  have U1 : xS q (xK (G 3)) sc s1 := xS_b f1 (Or.inl ⟨rfl, Or.inr rfl⟩)
  have W1 : yS (dK (G 3)) (eK (G 3)) sm t1 := yS_b g1 rfl
  have n1 : gB s1 7 q 4 (G 3) = gB t1 12 0 7 (136 + G 3) := by rw [f1.2.2.2.1, g1.2.2.2.1, if_pos ⟨rfl, rfl, rfl, rfl⟩, if_pos ⟨rfl, rfl, rfl, rfl⟩]
  obtain ⟨s2, t2, f2, g2, e2, h⟩ := st_take P1 (k := 15) (by omega) f_X12_isLots (ps_lots P1) (kK2 q) (mK2 (nI (G 3)))
  have hM := hM.trans e2
  have U2 := xS_tr U1 (xS_x f2)
  have W2 := yS_tr W1 (yS_y g2)
  have n2 : gB s2 7 q 4 (G 3) = gB t2 12 0 7 (136 + G 3) := by rw [f2.2.2.2.1, g2.2.2.2.1]; exact n1
  rcases h with ⟨d2, a2, p2, o2, P2, m3, m4⟩ | ⟨d2, d, e, F⟩
  rotate_left
  · exact it_bad (hX.trans d2) F hM (mK2_B hm) (xQ_S U2) (yQ_S W2 (fun _ h => dK_le h) (fun _ h => eK_le h)) (fun _ h => dK_le h) (fun _ h => eK_le h)
  have hX := hX.trans d2
  have hp2 := P2.2.2.1.2.2.2.2
  have hM := hM.trans (congrFun (mK2_e hm) t2)
  obtain ⟨s3, t3, r1, f3, g3, e3, h⟩ := st_count P2 (lo := 1) (hi := 30) (by omega) (fun s8 => fIx (gI s8 7 q 3) 4 <| fLt (sA s8 7 q 13 (upd (gA s8 7 q 13) (gI s8 7 q 3).toNatClampNeg (gI s8 5 0 9))) fun s9 => f_X7_readKind_L55 q (kK14 q) kK20 fF ((16 : Int32)) ((1 : Int32)) s9) (fun x s1 => mK3 (nI (G 3)) (wA s1 (1841 + G 3) x))
  have hM := hM.trans e3
  have U3 := xS_tr U2 (xS_x f3)
  have W3 := yS_tr W2 (yS_y g3)
  have n3 : gB s3 7 q 4 (G 3) = gB t3 12 0 7 (136 + G 3) := by rw [f3.2.2.2.1, g3.2.2.2.1]; exact n2
  rcases h with ⟨d3, hr1, h9, a3, p3, o3, P3, m5, m6⟩ | ⟨d3, r0, d, e, F⟩
  rotate_left
  · exact it_bad (K := fun s1 => mK3 (nI (G 3)) (wA s1 (1841 + G 3) (nI r1))) (hX.trans d3) F hM (mB_wA (Or.inl rfl) (mK3_B hm)) (xQ_S U3) (yQ_S W3 (fun _ h => dK_le h) (fun _ h => eK_le h)) (fun _ h => dK_le h) (fun _ h => eK_le h)
  have hp3 := P3.2.2.1.2.2.2.2
  have hx3 : gI s3 7 q 3 = nI (G 3) := (U3.1 _ _ _ (by omega)).trans x3
  have hX : f_X7_readKind q sc = f_X7_readKind_L55 q (kK14 q) kK20 fF (nI 16) (nI 1) (zA q s3 13 (G 3) (nI r1)) := by
    refine (hX.trans d3).trans ?_
    unfold zA
    simp (disch := omega) only [↓fLt_e, hx3, h9, nI_clamp, fIx_n, i_lit]
  obtain ⟨F, hF⟩ : ∃ F, fF = F + 4 := ⟨fF - 4, by have : 100 < fF := fF_lt (by omega); omega⟩
  rw [hF] at hX
  have Z4 : kdS q G sc sm r1 1 (fun _ => 0) (zA q s3 13 (G 3) (nI r1)) (wA t3 (1841 + G 3) (nI r1)) := ⟨xS_tr U3 (xS_A s3 _ (Or.inl ⟨rfl, Or.inl rfl⟩)), yS_tr W3 (yS_A t3 _ (Or.inl rfl)), n3, ⟨zA_at _ _ _ _ _, wA_at _ _ _⟩, fun i h1 h2 => by omega⟩
  have P4 := ps_A (ps_A7 P3 q 13 (upd (gA s3 7 q 13) (G 3) (nI r1))) (1841 + G 3) (nI r1)
  refine knd_step (j := 1) (r := 16) (F := F + 3) (M' := fun v t => mK4 (nI (G 3)) v t) (by omega) (by omega) S hm Z4 P4 (ps_tears P4) (mK4_B hm _) hX hM (fun s5 t5 u1 a5 p5 o5 P5 m7 hu1 Z5 hX hM => ?_)
  have hM : f_X12_readKind sm = fBd (f_X12_isLaughs t5) fun x t1 => fBd (f_X12_must x t1) fun _ t2 => fBd (f_X12_count (nI 0) (nI (16 - u1)) t2) fun v t3 => mK5 (nI (G 3)) (nI u1) v t3 := by
    rw [hM, ← nI_sub hu1]
    rfl
  refine knd_step (j := 2) (r := 16 - u1) (F := F + 2) (M' := fun v t => mK5 (nI (G 3)) (nI u1) v t) (by omega) (by omega) S hm Z5 P5 (ps_laughs P5) (mK5_B hm _ _) hX hM (fun s6 t6 u2 a6 p6 o6 P6 m8 hu2 Z6 hX hM => ?_)
  have hM : f_X12_readKind sm = fBd (f_X12_isSleeps t6) fun x t1 => fBd (f_X12_must x t1) fun _ t2 => fBd (f_X12_count (nI 0) (nI (16 - u1 - u2)) t2) fun v t3 => mK6 (nI (G 3)) (nI u1) (nI u2) v t3 := by
    rw [hM, ← nI_sub hu2, ← nI_sub hu1]
    rfl
  refine knd_step (j := 3) (r := 16 - u1 - u2) (F := F + 1) (M' := fun v t => mK6 (nI (G 3)) (nI u1) (nI u2) v t) (by omega) (by omega) S hm Z6 P6 (ps_sleeps P6) (mK6_B hm _ _ _) hX hM (fun s7 t7 u3 a7 p7 o7 P7 m9 hu3 Z7 hX hM => ?_)
  unfold f_X7_readKind_L55 at hX
  rw [show ((4 : Int32)) = nI 4 from rfl, if_pos yle4] at hX
  exact knd_end S hm hr1 (r := 16 - u1 - u2 - u3) ⟨show u1 + u2 + u3 ≤ 16 by omega, rfl⟩ Z7 P7 (by omega) hX hM
end
