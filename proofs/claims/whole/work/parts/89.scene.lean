/-! layer 2: reading a scene, its parts -/
-- the parts of the reference's readScene
noncomputable def mS11 (s39 : fSt) : Option (Unit × fSt) :=
            if ¬ (gI s39 12 0 12) = 0 then
              some ((), s39)
            else
              (fIx ((1722 : Int32)) 2150 <|
              fIx ((1722 : Int32)) 2150 <|
              fLt (sA s39 12 0 5 (upd (gA s39 12 0 5) ((1722 : Int32)).toNatClampNeg ((gA s39 12 0 5 ((1722 : Int32)).toNatClampNeg) + ((1 : Int32))))) fun s43 =>
              some ((), s43))
noncomputable def mS10 (x1 : Int32) (s38 : fSt) : Option (Unit × fSt) :=
          if ¬ (gI s38 12 0 12) = 0 then
            mS11 s38
          else
            (fBd (f_X12_isKills  s38) fun x44 s45 =>
            if x44 = 0 then
              mS11 s45
            else
              (fBd (f_X12_next  s45) fun _ s46 =>
              fIx ((1720 : Int32)) 2150 <|
              fBd (f_X12_readTold ((4 : Int32)) ((0 : Int32)) (gA s46 12 0 5 ((1720 : Int32)).toNatClampNeg) s46) fun x47 s48 =>
              fIx (((1829 : Int32)) + x1) 2150 <|
              fLt (sA s48 12 0 5 (upd (gA s48 12 0 5) (((1829 : Int32)) + x1).toNatClampNeg x47)) fun s49 =>
              mS11 s49))
noncomputable def mS9 (x1 : Int32) (s32 : fSt) : Option (Unit × fSt) :=
          fBd (f_X12_isSleep  s32) fun x33 s34 =>
          fBd (f_X12_readWay x33 s34) fun x35 s36 =>
          fIx (((1817 : Int32)) + x1) 2150 <|
          fLt (sA s36 12 0 5 (upd (gA s36 12 0 5) (((1817 : Int32)) + x1).toNatClampNeg x35)) fun s37 =>
          fIx (((1829 : Int32)) + x1) 2150 <|
          fLt (sA s37 12 0 5 (upd (gA s37 12 0 5) (((1829 : Int32)) + x1).toNatClampNeg ((-1 : Int32)))) fun s38 => mS10 x1 s38
noncomputable def mS8 (x1 : Int32) (s27 : fSt) : Option (Unit × fSt) :=
          fBd (f_X12_isLaugh  s27) fun x28 s29 =>
          fBd (f_X12_readWay x28 s29) fun x30 s31 =>
          fIx (((1805 : Int32)) + x1) 2150 <|
          fLt (sA s31 12 0 5 (upd (gA s31 12 0 5) (((1805 : Int32)) + x1).toNatClampNeg x30)) fun s32 => mS9 x1 s32
noncomputable def mS7 (x1 : Int32) (s22 : fSt) : Option (Unit × fSt) :=
          fBd (f_X12_isTear  s22) fun x23 s24 =>
          fBd (f_X12_readWay x23 s24) fun x25 s26 =>
          fIx (((1793 : Int32)) + x1) 2150 <|
          fLt (sA s26 12 0 5 (upd (gA s26 12 0 5) (((1793 : Int32)) + x1).toNatClampNeg x25)) fun s27 => mS8 x1 s27
noncomputable def mS6 (x1 : Int32) (s16 : fSt) : Option (Unit × fSt) :=
          fBd (f_X12_isThen  s16) fun x18 s19 =>
          fBd (f_X12_readWay x18 s19) fun x20 s21 =>
          fIx (((1781 : Int32)) + x1) 2150 <|
          fLt (sA s21 12 0 5 (upd (gA s21 12 0 5) (((1781 : Int32)) + x1).toNatClampNeg x20)) fun s22 => mS7 x1 s22
noncomputable def mS5 (x1 : Int32) (s15 : fSt) : Option (Unit × fSt) :=
        if ¬ (gI s15 12 0 12) = 0 then
          mS6 x1 s15
        else
          (fBd (f_X12_isEnds  s15) fun x50 s51 =>
          if x50 = 0 then
            mS6 x1 s51
          else
            (fBd (f_X12_next  s51) fun _ s52 =>
            fBd (f_X12_count ((0 : Int32)) ((8 : Int32)) s52) fun x53 s54 =>
            fIx (((1769 : Int32)) + x1) 2150 <|
            fLt (sA s54 12 0 5 (upd (gA s54 12 0 5) (((1769 : Int32)) + x1).toNatClampNeg x53)) fun s55 =>
            mS6 x1 s55))
noncomputable def mS4 (x1 x11 : Int32) (s12 : fSt) : Option (Unit × fSt) :=
        fIx (((1757 : Int32)) + x1) 2150 <|
        fLt (sA s12 12 0 5 (upd (gA s12 12 0 5) (((1757 : Int32)) + x1).toNatClampNeg x11)) fun s14 =>
        fIx (((1769 : Int32)) + x1) 2150 <|
        fLt (sA s14 12 0 5 (upd (gA s14 12 0 5) (((1769 : Int32)) + x1).toNatClampNeg ((-1 : Int32)))) fun s15 => mS5 x1 s15
noncomputable def mS3 (x1 : Int32) (s10 : fSt) : Option (Unit × fSt) :=
      if ¬ (gI s10 12 0 12) = 0 then
        mS4 x1 0 s10
      else
        (fBd (f_X12_isWith  s10) fun x58 s59 =>
        if x58 = 0 then
          mS4 x1 0 s59
        else
          (fBd (f_X12_readRoles  s59) fun x60 s61 =>
          mS4 x1 x60 s61))
noncomputable def mS2 (x1 : Int32) (s7 : fSt) : Option (Unit × fSt) :=
      fBd (f_X12_count ((1 : Int32)) ((20 : Int32)) s7) fun x8 s9 =>
      fIx (((1745 : Int32)) + x1) 2150 <|
      fLt (sA s9 12 0 5 (upd (gA s9 12 0 5) (((1745 : Int32)) + x1).toNatClampNeg x8)) fun s10 => mS3 x1 s10
noncomputable def mS1 (x1 : Int32) (s4 : fSt) : Option (Unit × fSt) :=
      fBd (f_X12_isLines  s4) fun x5 s6 =>
      fBd (f_X12_must x5 s6) fun _ s7 => mS2 x1 s7
theorem mS_eq (st : fSt) : f_X12_readScene st = fIx ((1722 : Int32)) 2150 (fLt (gA st 12 0 5 ((1722 : Int32)).toNatClampNeg) fun (x1 : Int32) => fJn (fun (s2 : fSt) => (if (gI s2 12 0 12) ≤ 0 then (fBd (f_X12_readNew ((12 : Int32)) x1 s2) fun _ s4 => mS1 x1 s4) else (some ((), s2)))) fun (j3 : fSt → Option (Unit × fSt)) => if ¬ x1 = ((12 : Int32)) then (j3 st) else (fBd (f_X12_fail ((6 : Int32)) (gI st 12 0 15) st) fun _ s30 => j3 s30)) := rfl
-- a cell of the reference's block set
noncomputable def wA (s : fSt) (m : Nat) (v : Int32) : fSt := sA s 12 0 5 (upd (gA s 12 0 5) m v)
noncomputable def zA (q : Nat) (s : fSt) (k m : Nat) (v : Int32) : fSt := sA s 7 q k (upd (gA s 7 q k) m v)
section
variable {m : Nat}
theorem mS11_e (s : fSt) : mS11 s = if ¬ gI s 12 0 12 = nI 0 then some ((), s) else some ((), wA s 1722 (gA s 12 0 5 1722 + nI 1)) := by
  unfold mS11 wA
  simp (disch := omega) only [↓fLt_e, i_lit, nI_clamp, fIx_n]
theorem mS10_e (hm : m < 12) (s : fSt) : mS10 (nI m) s = if ¬ gI s 12 0 12 = nI 0 then mS11 s else (fBd (f_X12_isKills s) fun x s1 => if x = nI 0 then mS11 s1 else fBd (f_X12_next s1) fun _ s2 => fBd (f_X12_readTold (nI 4) (nI 0) (gA s2 12 0 5 1720) s2) fun x3 s3 => mS11 (wA s3 (1829 + m) x3)) := by
  unfold mS10 wA
  simp (disch := omega) only [↓fLt_e, i_lit, nI_add, nI_clamp, fIx_n]
theorem mS9_e (hm : m < 12) : mS9 (nI m) = fun s => fBd (f_X12_isSleep s) fun x s1 => fBd (f_X12_readWay x s1) fun x2 s2 => mS10 (nI m) (wA (wA s2 (1817 + m) x2) (1829 + m) mI) := by
  funext s
  unfold mS9 wA
  simp (disch := omega) only [↓fLt_e, i_lit, i_neg1, nI_add, nI_clamp, fIx_n]
theorem mS8_e (hm : m < 12) : mS8 (nI m) = fun s => fBd (f_X12_isLaugh s) fun x s1 => fBd (f_X12_readWay x s1) fun x2 s2 => mS9 (nI m) (wA s2 (1805 + m) x2) := by
  funext s
  unfold mS8 wA
  simp (disch := omega) only [↓fLt_e, i_lit, nI_add, nI_clamp, fIx_n]
theorem mS7_e (hm : m < 12) : mS7 (nI m) = fun s => fBd (f_X12_isTear s) fun x s1 => fBd (f_X12_readWay x s1) fun x2 s2 => mS8 (nI m) (wA s2 (1793 + m) x2) := by
  funext s
  unfold mS7 wA
  simp (disch := omega) only [↓fLt_e, i_lit, nI_add, nI_clamp, fIx_n]
theorem mS6_e (hm : m < 12) : mS6 (nI m) = fun s => fBd (f_X12_isThen s) fun x s1 => fBd (f_X12_readWay x s1) fun x2 s2 => mS7 (nI m) (wA s2 (1781 + m) x2) := by
  funext s
  unfold mS6 wA
  simp (disch := omega) only [↓fLt_e, i_lit, nI_add, nI_clamp, fIx_n]
theorem mS5_e (hm : m < 12) (s : fSt) : mS5 (nI m) s = if ¬ gI s 12 0 12 = nI 0 then mS6 (nI m) s else (fBd (f_X12_isEnds s) fun x s1 => if x = nI 0 then mS6 (nI m) s1 else fBd (f_X12_next s1) fun _ s2 => fBd (f_X12_count (nI 0) (nI 8) s2) fun x3 s3 => mS6 (nI m) (wA s3 (1769 + m) x3)) := by
  unfold mS5 wA
  simp (disch := omega) only [↓fLt_e, i_lit, nI_add, nI_clamp, fIx_n]
theorem mS4_e (hm : m < 12) (x : Int32) : mS4 (nI m) x = fun s => mS5 (nI m) (wA (wA s (1757 + m) x) (1769 + m) mI) := by
  funext s
  unfold mS4 wA
  simp (disch := omega) only [↓fLt_e, i_lit, i_neg1, nI_add, nI_clamp, fIx_n]
theorem mS3_e (s : fSt) : mS3 (nI m) s = if ¬ gI s 12 0 12 = nI 0 then mS4 (nI m) (nI 0) s else (fBd (f_X12_isWith s) fun x s1 => if x = nI 0 then mS4 (nI m) (nI 0) s1 else fBd (f_X12_readRoles s1) fun x2 s2 => mS4 (nI m) x2 s2) := rfl
theorem mS2_e (hm : m < 12) : mS2 (nI m) = fun s => fBd (f_X12_count (nI 1) (nI 20) s) fun x s1 => mS3 (nI m) (wA s1 (1745 + m) x) := by
  funext s
  unfold mS2 wA
  simp (disch := omega) only [↓fLt_e, i_lit, nI_add, nI_clamp, fIx_n]
end
def dS (m i : Nat) : Prop := ∃ j, j < 8 ∧ i = 1745 + 12 * j + m
def eS (m i : Nat) : Prop := i = 124 + m
section
variable {m : Nat} {D E : Nat → Prop}
theorem mB_way {w : fSt → Option (Int32 × fSt)} (hw : ∀ s, ∃ b, w s = some (bI b, s)) {M : Int32 → fSt → Option (Unit × fSt)} (h : mB D E (M mI)) : mB D E (fun s => fBd (w s) fun x s1 => fBd (f_X12_readWay x s1) fun x2 s2 => M x2 s2) := by
  intro s hs
  obtain ⟨b, hb⟩ := hw s
  obtain ⟨k, hk, hk2⟩ := id hs
  obtain ⟨s', e, g⟩ := h s hs
  refine ⟨s', ?_, g⟩
  show (fBd (w s) fun x s1 => fBd (f_X12_readWay x s1) fun x2 s2 => M x2 s2) = some ((), s')
  rw [hb, fBd_s, no_way hk hk2, fBd_s, e]
theorem mB_wA {k : Nat} {v : Int32} (hm : D k) {M : fSt → Option (Unit × fSt)} (h : mB D E M) : mB D E (fun s => M (wA s k v)) := mB_set hm h
theorem mS11_B : mB D E mS11 := by
  have e : mS11 = fun s => if ¬ gI s 12 0 12 = nI 0 then (fun s => some ((), s)) s else (fun s => some ((), wA s 1722 (gA s 12 0 5 1722 + nI 1))) s := funext fun s => mS11_e s
  rw [e]
  exact mB_fault mB_id
theorem mS10_B (hm : m < 12) : mB (dS m) (eS m) (mS10 (nI m)) := by
  have e : mS10 (nI m) = fun s => if ¬ gI s 12 0 12 = nI 0 then mS11 s else (fun s => (fBd (f_X12_isKills s) fun x s1 => if x = nI 0 then mS11 s1 else fBd (f_X12_next s1) fun _ s2 => fBd (f_X12_readTold (nI 4) (nI 0) (gA s2 12 0 5 1720) s2) fun x3 s3 => mS11 (wA s3 (1829 + m) x3))) s := funext fun s => mS10_e hm s
  rw [e]
  exact mB_fault mS11_B
theorem mS9_B (hm : m < 12) : mB (dS m) (eS m) (mS9 (nI m)) := by
  rw [mS9_e hm]
  exact mB_way an_Sleep (M := fun x2 s2 => mS10 (nI m) (wA (wA s2 (1817 + m) x2) (1829 + m) mI)) (mB_wA (M := fun s => mS10 (nI m) (wA s (1829 + m) mI)) ⟨6, by omega, by omega⟩ (mB_wA ⟨7, by omega, by omega⟩ (mS10_B hm)))
theorem mS8_B (hm : m < 12) : mB (dS m) (eS m) (mS8 (nI m)) := by
  rw [mS8_e hm]
  exact mB_way an_Laugh (M := fun x2 s2 => mS9 (nI m) (wA s2 (1805 + m) x2)) (mB_wA ⟨5, by omega, by omega⟩ (mS9_B hm))
theorem mS7_B (hm : m < 12) : mB (dS m) (eS m) (mS7 (nI m)) := by
  rw [mS7_e hm]
  exact mB_way an_Tear (M := fun x2 s2 => mS8 (nI m) (wA s2 (1793 + m) x2)) (mB_wA ⟨4, by omega, by omega⟩ (mS8_B hm))
theorem mS6_B (hm : m < 12) : mB (dS m) (eS m) (mS6 (nI m)) := by
  rw [mS6_e hm]
  exact mB_way an_Then (M := fun x2 s2 => mS7 (nI m) (wA s2 (1781 + m) x2)) (mB_wA ⟨3, by omega, by omega⟩ (mS7_B hm))
theorem mS5_B (hm : m < 12) : mB (dS m) (eS m) (mS5 (nI m)) := by
  have e : mS5 (nI m) = fun s => if ¬ gI s 12 0 12 = nI 0 then mS6 (nI m) s else (fun s => (fBd (f_X12_isEnds s) fun x s1 => if x = nI 0 then mS6 (nI m) s1 else fBd (f_X12_next s1) fun _ s2 => fBd (f_X12_count (nI 0) (nI 8) s2) fun x3 s3 => mS6 (nI m) (wA s3 (1769 + m) x3))) s := funext fun s => mS5_e hm s
  rw [e]
  exact mB_fault (mS6_B hm)
theorem mS4_B (hm : m < 12) (x : Int32) : mB (dS m) (eS m) (mS4 (nI m) x) := by
  rw [mS4_e hm]
  exact mB_wA (M := fun s => mS5 (nI m) (wA s (1769 + m) mI)) ⟨1, by omega, by omega⟩ (mB_wA ⟨2, by omega, by omega⟩ (mS5_B hm))
theorem mS3_B (hm : m < 12) : mB (dS m) (eS m) (mS3 (nI m)) := by
  have e : mS3 (nI m) = fun s => if ¬ gI s 12 0 12 = nI 0 then mS4 (nI m) (nI 0) s else (fun s => (fBd (f_X12_isWith s) fun x s1 => if x = nI 0 then mS4 (nI m) (nI 0) s1 else fBd (f_X12_readRoles s1) fun x2 s2 => mS4 (nI m) x2 s2)) s := funext fun s => mS3_e s
  rw [e]
  exact mB_fault (mS4_B hm _)
theorem mS2_B (hm : m < 12) : mB (dS m) (eS m) (mS2 (nI m)) := by
  rw [mS2_e hm]
  exact mB_count (M := fun x s1 => mS3 (nI m) (wA s1 (1745 + m) x)) (mB_wA ⟨0, by omega, by omega⟩ (mS3_B hm))
theorem mS1_B (hm : m < 12) : mB (dS m) (eS m) (mS1 (nI m)) := mB_word an_Lines (mS2_B hm)
end
-- the parts of the class's readScene
noncomputable def kS7 (q : Nat) (s22 : fSt) : Option (Int32 × fSt) :=
  fBd (f_X5_take ((59 : Int32)) s22) fun x25 s26 => if ¬ x25 = 0 then (fLt (sI s26 7 q 2 ((gI s26 7 q 2) + ((1 : Int32)))) fun s27 => some ((1 : Int32), s27)) else some ((0 : Int32), s26)
noncomputable def kS6 (q : Nat) (s19 : fSt) : Option (Int32 × fSt) :=
  fBd (f_X7_readVictim q s19) fun x21 s22 => if x21 = 0 then some ((0 : Int32), s22) else kS7 q s22
noncomputable def kS4b (q : Nat) (s13 : fSt) : Option (Int32 × fSt) :=
  fBd (f_X7_readEnding q s13) fun x16 s17 => if ¬ x16 = 0 then f_X7_readScene_L102 q (kS6 q) fF (nI 0) s17 else some ((0 : Int32), s17)
noncomputable def kS4 (q : Nat) (s9 : fSt) (x10 : Int32) (s11 : fSt) : Option (Int32 × fSt) :=
  fIx (gI s9 7 q 2) 12 <| fLt (sA s11 7 q 9 (upd (gA s11 7 q 9) (gI s9 7 q 2).toNatClampNeg x10)) fun s13 =>
  fIx (gI s13 7 q 2) 12 <| if (gA s13 7 q 9 (gI s13 7 q 2).toNatClampNeg) = ((-1 : Int32)) then some ((0 : Int32), s13) else kS4b q s13
noncomputable def kS3 (q : Nat) (s9 : fSt) : Option (Int32 × fSt) :=
  if ¬ (gI s9 5 0 6) = ((7 : Int32)) then kS4 q s9 ((0 : Int32)) s9 else (fBd (f_X7_readRoles q s9) fun x34 s35 => kS4 q s9 x34 s35)
noncomputable def kS2 (q : Nat) (s6 : fSt) : Option (Int32 × fSt) :=
  fBd (f_X5_takeNumber ((1 : Int32)) ((20 : Int32)) s6) fun x7 s8 => if ¬ x7 = 0 then (fIx (gI s8 7 q 2) 12 <| fLt (sA s8 7 q 8 (upd (gA s8 7 q 8) (gI s8 7 q 2).toNatClampNeg (gI s8 5 0 9))) fun s9 => kS3 q s9) else some ((0 : Int32), s8)
noncomputable def kS1 (q : Nat) (s2 : fSt) : Option (Int32 × fSt) :=
  fBd (f_X5_take ((6 : Int32)) s2) fun x5 s6 => if x5 = 0 then some ((0 : Int32), s6) else kS2 q s6
theorem kS_eq (q : Nat) (st : fSt) : f_X7_readScene q st = fBd (f_X7_readNew q 7 q 3 12 (gI st 7 q 2) st) fun x1 s2 => if x1 = 0 then some ((0 : Int32), s2) else kS1 q s2 := rfl
section
variable {m q : Nat} {s s0 : fSt}
theorem kS2_k (hm : m < 12) {v : Int32} (h1 : gI s 7 q 2 = nI m) (h9 : gI s 5 0 9 = v) : (fIx (gI s 7 q 2) 12 <| fLt (sA s 7 q 8 (upd (gA s 7 q 8) (gI s 7 q 2).toNatClampNeg (gI s 5 0 9))) fun s9 => kS3 q s9) = kS3 q (zA q s 8 m v) := by
  unfold zA
  simp (disch := omega) only [↓fLt_e, h1, h9, nI_clamp, fIx_n]
theorem kS4_no (hm : m < 12) (h0 : gI s0 7 q 2 = nI m) (h1 : gI s 7 q 2 = nI m) : kS4 q s0 mI s = some (nI 0, zA q s 9 m mI) := by
  unfold kS4 zA
  simp (disch := omega) only [↓fLt_e, h0, h1, nI_clamp, fIx_n, gI_sA, gA_sA, upd_at, and_self, if_true, i_lit, i_neg1]
theorem kS4_ok (hm : m < 12) {mk : Nat} (hmk : mk < 64) (h0 : gI s0 7 q 2 = nI m) (h1 : gI s 7 q 2 = nI m) : kS4 q s0 (nI mk) s = kS4b q (zA q s 9 m (nI mk)) := by
  unfold kS4 zA
  simp (disch := omega) only [↓fLt_e, h0, h1, nI_clamp, fIx_n, gI_sA, gA_sA, upd_at, and_self, if_true, i_lit, i_neg1, nI_mI, if_false, false_and, and_false]
/-- an ending, a way, a victim that isn't told -/
theorem x_end_no (hm : m < 12) (h1 : gI s 7 q 2 = nI m) {so : Nat} (hso : gI s 5 0 6 = nI so) (h : ¬ so = 8 ∧ so < 64) : f_X7_readEnding q s = some (nI 1, zA q s 10 m mI) := by
  have h2 := h.1
  unfold f_X7_readEnding zA
  simp (disch := omega) only [↓fLt_e, fBd_s, ↓fJn_s, fNn_s, fNu_0, fNu_s, fBo_0, fBo_1, fBo_b, i_lit, i_neg1, nI_add, pk_mul, nI_clamp, i_le, i_lt, i_eq, fIx_n, nI_mI, mI_nI, mI_lt, nI_lt_m, mI_le, nI_le_m, xI_0, xI_s, bI_0, bI_1, bI_t, bI_f, n_31, j_bit, j_one, i_and, i_or, Nat.not_lt_zero, Nat.succ_ne_zero, Nat.add_one_ne_zero, Nat.add_one_sub_one, Nat.zero_le, Nat.or_zero, Nat.zero_or, Bool.not_true, Bool.not_false, Bool.true_and, Bool.false_and, Bool.and_true, Bool.and_false, ↓reduceIte, if_true, if_false, not_true_eq_false, not_false_eq_true, true_and, and_true, false_and, and_false, and_self, true_or, or_true, false_or, or_false, Nat.reduceEqDiff, Nat.reduceLT, Nat.reduceLeDiff, Nat.reduceAdd, Nat.reduceMul, Nat.reduceSub, Nat.add_zero, Nat.zero_add, Nat.mul_zero, Nat.zero_mul, ne_eq, Bool.not_eq_true, Bool.not_eq_false, reduceCtorEq, decide_true, decide_false, decide_eq_true_eq, decide_eq_false_iff_not, Bool.false_eq_true, if_pos, if_neg, h1, hso, h2, gI_sA]
theorem x_way_no (hm : m < 12) (h1 : gI s 7 q 2 = nI m) {so k : Nat} (hk : k < 4) (hso : gI s 5 0 6 = nI so) (h : ¬ so = 9 + k ∧ so < 64) : f_X7_readWay q (nI k) s = some (nI 1, zA q s 11 (m * 4 + k) mI) := by
  have h2 := h.1
  unfold f_X7_readWay zA
  simp (disch := omega) only [↓fLt_e, fBd_s, ↓fJn_s, fNn_s, fNu_0, fNu_s, fBo_0, fBo_1, fBo_b, i_lit, i_neg1, nI_add, pk_mul, nI_clamp, i_le, i_lt, i_eq, fIx_n, nI_mI, mI_nI, mI_lt, nI_lt_m, mI_le, nI_le_m, xI_0, xI_s, bI_0, bI_1, bI_t, bI_f, n_31, j_bit, j_one, i_and, i_or, Nat.not_lt_zero, Nat.succ_ne_zero, Nat.add_one_ne_zero, Nat.add_one_sub_one, Nat.zero_le, Nat.or_zero, Nat.zero_or, Bool.not_true, Bool.not_false, Bool.true_and, Bool.false_and, Bool.and_true, Bool.and_false, ↓reduceIte, if_true, if_false, not_true_eq_false, not_false_eq_true, true_and, and_true, false_and, and_false, and_self, true_or, or_true, false_or, or_false, Nat.reduceEqDiff, Nat.reduceLT, Nat.reduceLeDiff, Nat.reduceAdd, Nat.reduceMul, Nat.reduceSub, Nat.add_zero, Nat.zero_add, Nat.mul_zero, Nat.zero_mul, ne_eq, Bool.not_eq_true, Bool.not_eq_false, reduceCtorEq, decide_true, decide_false, decide_eq_true_eq, decide_eq_false_iff_not, Bool.false_eq_true, if_pos, if_neg, h1, hso, h2, gI_sA]
theorem x_vic_no (hm : m < 12) (h1 : gI s 7 q 2 = nI m) {so : Nat} (hso : gI s 5 0 6 = nI so) (h : ¬ so = 13 ∧ so < 64) : f_X7_readVictim q s = some (nI 1, zA q s 12 m mI) := by
  have h2 := h.1
  unfold f_X7_readVictim zA
  simp (disch := omega) only [↓fLt_e, fBd_s, ↓fJn_s, fNn_s, fNu_0, fNu_s, fBo_0, fBo_1, fBo_b, i_lit, i_neg1, nI_add, pk_mul, nI_clamp, i_le, i_lt, i_eq, fIx_n, nI_mI, mI_nI, mI_lt, nI_lt_m, mI_le, nI_le_m, xI_0, xI_s, bI_0, bI_1, bI_t, bI_f, n_31, j_bit, j_one, i_and, i_or, Nat.not_lt_zero, Nat.succ_ne_zero, Nat.add_one_ne_zero, Nat.add_one_sub_one, Nat.zero_le, Nat.or_zero, Nat.zero_or, Bool.not_true, Bool.not_false, Bool.true_and, Bool.false_and, Bool.and_true, Bool.and_false, ↓reduceIte, if_true, if_false, not_true_eq_false, not_false_eq_true, true_and, and_true, false_and, and_false, and_self, true_or, or_true, false_or, or_false, Nat.reduceEqDiff, Nat.reduceLT, Nat.reduceLeDiff, Nat.reduceAdd, Nat.reduceMul, Nat.reduceSub, Nat.add_zero, Nat.zero_add, Nat.mul_zero, Nat.zero_mul, ne_eq, Bool.not_eq_true, Bool.not_eq_false, reduceCtorEq, decide_true, decide_false, decide_eq_true_eq, decide_eq_false_iff_not, Bool.false_eq_true, if_pos, if_neg, h1, hso, h2, gI_sA]
end
