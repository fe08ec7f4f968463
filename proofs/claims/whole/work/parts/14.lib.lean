/-! layer 2: what the relation reads; the small functions of both sides -/
def RX (sc sm : fSt) : Prop := rF sc sm ∧ rQ sc sm ∧ rT sc sm ∧ rP sc sm ∧ rS sc sm ∧ rC sc sm ∧ rW sc sm ∧ rO sc ∧ rH sc sm
def cEq (s t : fSt) : Prop := (∀ c, (c = 0 ∨ c = 2 ∨ c = 7 ∨ c = 8 ∨ c = 9) → ∀ i k, gI t c i k = gI s c i k ∧ gL t c i k = gL s c i k ∧ gA t c i k = gA s c i k ∧ gB t c i k = gB s c i k ∧ gP t c i k = gP s c i k) ∧
  gA t 1 0 1 = gA s 1 0 1 ∧ gB t 4 0 1 = gB s 4 0 1 ∧ (gI t 5 0 2 = gI s 5 0 2 ∧ gA t 5 0 1 = gA s 5 0 1 ∧ gB t 5 0 2 = gB s 5 0 2) ∧
  (gI t 10 0 3 = gI s 10 0 3 ∧ gI t 10 0 5 = gI s 10 0 5 ∧ gI t 10 0 6 = gI s 10 0 6 ∧ gI t 10 0 7 = gI s 10 0 7 ∧ gI t 10 0 8 = gI s 10 0 8 ∧ gI t 10 0 9 = gI s 10 0 9) ∧
  (gI t 11 0 5 = gI s 11 0 5 ∧ gI t 11 0 6 = gI s 11 0 6 ∧ gI t 11 0 9 = gI s 11 0 9 ∧ gI t 11 0 17 = gI s 11 0 17 ∧ gL t 11 0 3 = gL s 11 0 3 ∧ gL t 11 0 4 = gL s 11 0 4 ∧ gA t 11 0 3 = gA s 11 0 3)
def mEq (s t : fSt) : Prop := (gI t 12 0 8 = gI s 12 0 8 ∧ gI t 12 0 10 = gI s 12 0 10 ∧ gI t 12 0 11 = gI s 12 0 11 ∧ gI t 12 0 23 = gI s 12 0 23 ∧ gI t 12 0 46 = gI s 12 0 46 ∧ gI t 12 0 54 = gI s 12 0 54 ∧ gI t 12 0 56 = gI s 12 0 56) ∧
  (gL t 12 0 2 = gL s 12 0 2 ∧ gL t 12 0 3 = gL s 12 0 3) ∧
  (gA t 12 0 1 = gA s 12 0 1 ∧ gA t 12 0 2 = gA s 12 0 2 ∧ gA t 12 0 4 = gA s 12 0 4 ∧ gA t 12 0 5 = gA s 12 0 5 ∧ gA t 12 0 16 = gA s 12 0 16 ∧ gA t 12 0 20 = gA s 12 0 20 ∧ gA t 12 0 22 = gA s 12 0 22) ∧
  (gB t 12 0 3 = gB s 12 0 3 ∧ gB t 12 0 7 = gB s 12 0 7)
theorem cEq_rf (s : fSt) : cEq s s := ⟨fun _ _ _ _ => ⟨rfl, rfl, rfl, rfl, rfl⟩, rfl, rfl, ⟨rfl, rfl, rfl⟩, ⟨rfl, rfl, rfl, rfl, rfl, rfl⟩, rfl, rfl, rfl, rfl, rfl, rfl, rfl⟩
theorem mEq_rf (s : fSt) : mEq s s := ⟨⟨rfl, rfl, rfl, rfl, rfl, rfl, rfl⟩, ⟨rfl, rfl⟩, ⟨rfl, rfl, rfl, rfl, rfl, rfl, rfl⟩, rfl, rfl⟩
theorem rStp_e {sc sc' : fSt} (e : ∀ i k, gA sc' 9 i k = gA sc 9 i k) {w : Nat} {G : Nat → Nat} {j i : Nat} (H : rStp sc w G j i) : rStp sc' w G j i := by
  unfold rStp at *
  simp only [e]
  exact H
theorem rBod_e {sc sc' : fSt} (e : ∀ i k, gA sc' 9 i k = gA sc 9 i k) {w : Nat} {G : Nat → Nat} : ∀ n d a b i i', rBod sc w G n d a b i i' → rBod sc' w G n d a b i i' := by
  intro n
  induction n with
  | zero => intro d a b i i' H; exact H
  | succ n ih =>
    intro d a b i i' H
    rcases H with H | ⟨h1, h2, H⟩
    · exact Or.inl H
    · refine Or.inr ⟨h1, rStp_e e h2, ?_⟩
      rcases H with ⟨a1, a2, a3, a4⟩ | ⟨a1, a0, a2, a3, m, b1, b2, b3, b4, b5, b6⟩
      · exact Or.inl ⟨a1, a2, a3, ih _ _ _ _ _ a4⟩
      · exact Or.inr ⟨a1, a0, a2, a3, m, ih _ _ _ _ _ b1, by rw [e]; exact b2, by rw [e]; exact b3, by rw [e]; exact b4, b5, ih _ _ _ _ _ b6⟩
theorem rOne_e {sc sc' sm sm' : fSt} (h : cEq sc sc') (g : mEq sm sm') {k q : Nat} {G : Nat → Nat} (H : rOne sc sm k q G) : rOne sc' sm' k q G := by
  have h := h.1
  have e2 := fun i k => (h 2 (by decide) i k).1
  have e2p := fun i k => (h 2 (by decide) i k).2.2.2.2
  have e0 := fun i k => (h 0 (by decide) i k).1
  have e0a := fun i k => (h 0 (by decide) i k).2.2.1
  have e7 := fun i k => (h 7 (by decide) i k).1
  have e7a := fun i k => (h 7 (by decide) i k).2.2.1
  have e7b := fun i k => (h 7 (by decide) i k).2.2.2.1
  have e9 := fun i k => (h 9 (by decide) i k).1
  have e9a := fun i k => (h 9 (by decide) i k).2.2.1
  obtain ⟨-, -, ⟨-, -, -, ea, -⟩, -, eb⟩ := g
  obtain ⟨h1, h2, h3, h4, h5⟩ := H
  refine ⟨h1, ?_, ?_, ?_, ?_⟩
  · unfold rHou rStg rBok at *
    simp only [e2, e2p, e0, e0a, e7, e7a]
    exact h2
  · simp only [ea]
    exact h3
  · unfold rNam at *
    simp only [e7b, eb]
    exact h4
  · unfold rWk at *
    simp only [e2p, e9]
    rcases h5 with h5 | ⟨a, w, m, b1, b2, b3, b4, b5⟩
    · exact Or.inl h5
    · exact Or.inr ⟨a, w, m, b1, b2, b3, b4, rBod_e e9a _ _ _ _ _ _ b5⟩
theorem rT_e {sc sc' sm sm' : fSt} (h : cEq sc sc') (g : mEq sm sm') (H : rT sc sm) : rT sc' sm' := by
  have e8 := fun i k => (h.1 8 (by decide) i k).1
  have e8b := fun i k => (h.1 8 (by decide) i k).2.2.2.1
  obtain ⟨-, -, ⟨m1, m2, -⟩, m3, -⟩ := g
  unfold rT at *
  simp only [e8, e8b, m1, m2, m3]
  exact H
theorem rH_e {sc sc' sm sm' : fSt} (h : cEq sc sc') (g : mEq sm sm') (H : rH sc sm) : rH sc' sm' := by
  obtain ⟨n, qq, GG, h10, h11, h12, h13⟩ := H
  refine ⟨n, qq, GG, h10, ?_, ?_, fun k hk => rOne_e h g (h13 k hk)⟩
  · rw [h.2.2.2.2.2.2.2.1]; exact h11
  · rw [g.1.2.2.2.1]; exact h12
theorem RX_e {sc sc' sm sm' : fSt} (h : cEq sc sc') (g : mEq sm sm') (H : RX sc sm) : RX sc' sm' := by
  obtain ⟨h2, h3, h4, h5, h6, h7, h8, h9, h10⟩ := H
  have h0 := h
  have g0 := g
  obtain ⟨-, c1, c2, ⟨c3, c4, c5⟩, ⟨d1, d2, d3, d4, d5, d6⟩, x1, x2, x3, x4, x5, x6, x7⟩ := h
  obtain ⟨⟨m1, m2, m3, m4, m5, m6, m7⟩, ⟨n1, n2⟩, ⟨p1, p2, p3, p4, p5, p6, p7⟩, q1, q2⟩ := g
  refine ⟨?_, ?_, rT_e h0 g0 h4, ?_, ?_, ?_, ?_, ?_, rH_e h0 g0 h10⟩
  · unfold rF at *; rw [x5, x6, n1, n2]; exact h2
  · unfold rQ at *; rw [x1, x2, m2, m3]; exact h3
  · unfold rP at *; rw [c3, c4, c5, m1, p3]; exact h5
  · unfold rS at *; rw [x4, x7, m5, p5]; exact h6
  · unfold rC at *; rw [c1, m6, p6]; exact h7
  · unfold rW at *; rw [d1, d2, d3, d4, d5, d6, m7, p7]; exact h8
  · unfold rO at *; rw [c2]; exact h9
theorem RR_of {sc sm : fSt} (H : RX sc sm) (h : gI sc 11 0 2 = gI sm 12 0 0) : RR sc sm := ⟨h, H⟩
theorem RR_x {sc sm : fSt} (H : RR sc sm) : RX sc sm := H.2
theorem cEq_st (s : fSt) (v : Int32) : cEq s (sI s 11 0 2 v) := ⟨fun c hc i k => by rcases hc with rfl | rfl | rfl | rfl | rfl <;> exact ⟨rfl, rfl, rfl, rfl, rfl⟩, rfl, rfl, ⟨rfl, rfl, rfl⟩, ⟨rfl, rfl, rfl, rfl, rfl, rfl⟩, rfl, rfl, rfl, rfl, rfl, rfl, rfl⟩
theorem mEq_st (s : fSt) (v : Int32) : mEq s (sI s 12 0 0 v) := ⟨⟨rfl, rfl, rfl, rfl, rfl, rfl, rfl⟩, ⟨rfl, rfl⟩, ⟨rfl, rfl, rfl, rfl, rfl, rfl, rfl⟩, rfl, rfl⟩
theorem mEq_th (s : fSt) (v : Int32) : mEq s (sI s 12 0 1 v) := ⟨⟨rfl, rfl, rfl, rfl, rfl, rfl, rfl⟩, ⟨rfl, rfl⟩, ⟨rfl, rfl, rfl, rfl, rfl, rfl, rfl⟩, rfl, rfl⟩
-- the reference's first two writes of a call
def pro (sm : fSt) : fSt := sI (sI sm 12 0 1 0) 12 0 0 0
theorem pro_x {sc sm : fSt} (H : RX sc sm) : RX sc (pro sm) := RX_e (cEq_rf sc) (mEq_st _ _) (RX_e (cEq_rf sc) (mEq_th _ _) H)
theorem pro_0 (sm : fSt) : gI (pro sm) 12 0 0 = 0 := rfl
/-- both sides end with the same STATUS and the rest as it was -/
theorem fin_st {sc sm : fSt} (H : RX sc sm) (v : Int32) : RR (sI sc 11 0 2 v) (sI sm 12 0 0 v) := RR_of (RX_e (cEq_st _ _) (mEq_st _ _) H) (by rw [gI_same, gI_same])
theorem fin_0 {sc sm : fSt} (H : RX sc sm) (h : gI sm 12 0 0 = 0) : RR (sI sc 11 0 2 0) sm := RR_of (RX_e (cEq_st _ _) (mEq_rf _) H) (by rw [gI_same, h])
-- the theatre as it is
theorem RX_cur {sc sm : fSt} (H : RX sc sm) : ∃ q G, gWf G ∧ rHou sc 0 q G ∧ rBlk (gA sm 12 0 5) G ∧ rNam sc q G (gB sm 12 0 7) ∧ rWk sc 0 G := by
  obtain ⟨-, -, -, -, -, -, -, -, n, qq, GG, h1, h2, h3, h4⟩ := H
  obtain ⟨a, b, c, d, e⟩ := h4 0 (Nat.zero_le _)
  simp only [Nat.mul_zero, Nat.zero_add] at c d
  exact ⟨qq 0, GG 0, a, b, c, d, e⟩
-- numbers in bounds
theorem x_isBelow (a : Int32) (n : Nat) (hn : n < 1073741824) (st : fSt) : f_X11_isBelow a (nI n) st = some (bI (inB a.toInt 0 (n - 1)), st) := by
  unfold f_X11_isBelow
  simp only [fJn_s, Int32.lt_iff_toInt_lt, Int32.le_iff_toInt_le, nI_toInt (show n < 2 ^ 31 by omega)]
  have h0 : (0 : Int32).toInt = 0 := rfl
  simp only [h0]
  split
  · rw [show inB a.toInt 0 (n - 1) = false from inB_f.mpr (by omega)]
    rfl
  · split
    · rw [show inB a.toInt 0 (n - 1) = false from inB_f.mpr (by omega)]
      rfl
    · rw [show inB a.toInt 0 (n - 1) = true from inB_t.mpr (by omega)]
      rfl
theorem x_isIn (a lo hi : Int32) (st : fSt) : f_X11_isIn a lo hi st = some (bI (inB a.toInt lo.toInt hi.toInt), st) := by
  unfold f_X11_isIn
  simp only [fJn_s, Int32.lt_iff_toInt_lt, Int32.le_iff_toInt_le]
  split
  · rw [show inB a.toInt lo.toInt hi.toInt = false from inB_f.mpr (by omega)]
    rfl
  · split
    · rw [show inB a.toInt lo.toInt hi.toInt = false from inB_f.mpr (by omega)]
      rfl
    · rw [show inB a.toInt lo.toInt hi.toInt = true from inB_t.mpr (by omega)]
      rfl
theorem m_isIn (a lo hi : Int64) (st : fSt) : f_X12_isIn a lo hi st = some (bI (inB a.toInt lo.toInt hi.toInt), st) := by
  unfold f_X12_isIn
  simp only [fJn_s, lg_lt, lg_gt]
  split
  · rw [show inB a.toInt lo.toInt hi.toInt = false from inB_f.mpr (by omega)]
    rfl
  · split
    · rw [show inB a.toInt lo.toInt hi.toInt = false from inB_f.mpr (by omega)]
      rfl
    · rw [show inB a.toInt lo.toInt hi.toInt = true from inB_t.mpr (by omega)]
      rfl
theorem m_isIn_n (a : Int32) (n : Nat) (hn : n < 1073741824) (st : fSt) : f_X12_isIn a.toInt64 0 (nI n - nI 1).toInt64 st = some (bI (inB a.toInt 0 (n - 1)), st) := by
  rw [m_isIn, Int32.toInt_toInt64, Int32.toInt_toInt64, nI_subI (by omega) (by omega)]
  rfl
theorem m_isIn_c (a : Int32) (lo hi : Int64) (st : fSt) : f_X12_isIn a.toInt64 lo hi st = some (bI (inB a.toInt lo.toInt hi.toInt), st) := by
  rw [m_isIn, Int32.toInt_toInt64]
section
variable {sc sm : fSt} {q : Nat} {G : Nat → Nat}
theorem m_isRoleAt (B : rBlk (gA sm 12 0 5) G) (w : gWf G) (a : Int32) : f_X12_isRoleAt a sm = some (bI (inB a.toInt 0 (G 0 - 1)), sm) := by
  have h := w.1
  unfold f_X12_isRoleAt
  rw [show (0 : Int32) = nI 0 from rfl, fIx_n (by omega) (by omega), nI_clamp (by omega), B.1.1, show (1 : Int32) = nI 1 from rfl, m_isIn_n _ _ (by omega)]
  simp only [fBd_s, fBo_b]
theorem m_isActorAt (B : rBlk (gA sm 12 0 5) G) (w : gWf G) (a : Int32) : f_X12_isActorAt a sm = some (bI (inB a.toInt 0 (G 1 - 1)), sm) := by
  have h := w.1
  unfold f_X12_isActorAt
  rw [show (1 : Int32) = nI 1 from rfl, fIx_n (by omega) (by omega), nI_clamp (by omega), B.1.2.1, m_isIn_n _ _ (by omega)]
  simp only [fBd_s, fBo_b]
theorem m_isSceneAt (B : rBlk (gA sm 12 0 5) G) (w : gWf G) (a : Int32) : f_X12_isSceneAt a sm = some (bI (inB a.toInt 0 (G 2 - 1)), sm) := by
  have h := w.1
  unfold f_X12_isSceneAt
  rw [show (2 : Int32) = nI 2 from rfl, fIx_n (by omega) (by omega), nI_clamp (by omega), B.1.2.2.1, show (1 : Int32) = nI 1 from rfl, m_isIn_n _ _ (by omega)]
  simp only [fBd_s, fBo_b]
theorem m_isKindAt (B : rBlk (gA sm 12 0 5) G) (w : gWf G) (a : Int32) : f_X12_isKindAt a sm = some (bI (inB a.toInt 0 (G 3 - 1)), sm) := by
  have h := w.1
  unfold f_X12_isKindAt
  rw [show (3 : Int32) = nI 3 from rfl, fIx_n (by omega) (by omega), nI_clamp (by omega), B.1.2.2.2.1, show (1 : Int32) = nI 1 from rfl, m_isIn_n _ _ (by omega)]
  simp only [fBd_s, fBo_b]
theorem x_hasRole (H : rHou sc 0 q G) (w : gWf G) (a : Int32) : f_X11_hasRole a sc = some (bI (inB a.toInt 0 (G 0 - 1)), sc) := by
  have h := w.1
  unfold f_X11_hasRole
  rw [H.1]
  simp only [fNn_s, H.2.1.1.1, x_isBelow a (G 0) (by omega), fBd_s, fBo_b]
theorem x_hasScene (H : rHou sc 0 q G) (w : gWf G) (a : Int32) : f_X11_hasScene a sc = some (bI (inB a.toInt 0 (G 2 - 1)), sc) := by
  have h := w.1
  unfold f_X11_hasScene
  rw [H.1]
  simp only [fNn_s, H.2.1.1.2.2.1, x_isBelow a (G 2) (by omega), fBd_s, fBo_b]
theorem x_hasKind (H : rHou sc 0 q G) (w : gWf G) (a : Int32) : f_X11_hasKind a sc = some (bI (inB a.toInt 0 (G 3 - 1)), sc) := by
  have h := w.1
  unfold f_X11_hasKind
  rw [H.1]
  simp only [fNn_s, H.2.1.1.2.2.2, x_isBelow a (G 3) (by omega), fBd_s, fBo_b]
theorem m_has {a k : Nat} (ha : a < 2 ^ 31) (hk : k < 31) (st : fSt) : f_X12_has (nI a) (nI k) st = some (bI (a.testBit k), st) := by
  unfold f_X12_has
  simp only [fJn_s, i_lit, i_bit ha hk, bI_1]
  cases a.testBit k <;> rfl
def gkil (G : Nat → Nat) (s g : Nat) : Nat := if G (109 + s) = 0 then g else g ||| 2 ^ (G (109 + s) - 1)
def gcan (G : Nat → Nat) (s g : Nat) : Bool := !(G 4).testBit s && decide (G (37 + s) &&& g = 0)
def gway (G : Nat → Nat) (s d : Nat) : Nat := if G (61 + 12 * d + s) = 0 then G (61 + s) else G (61 + 12 * d + s)
/-- the scene that can be played, told as n + 1: 0 none -/
def gpl (G : Nat → Nat) (t g : Nat) : Nat := if t = 0 then 0 else if gcan G (t - 1) g then t else 0
def gnx (G : Nat → Nat) (s d g : Nat) : Nat := gpl G (gway G s d) g
theorem gpl_le (G : Nat → Nat) (t g : Nat) : gpl G t g ≤ t := by
  unfold gpl
  split
  · omega
  · split <;> omega
theorem w_way (w : gWf G) {s d : Nat} (hs : s < G 2) (hd : d < 4) : G (61 + 12 * d + s) ≤ s := by
  obtain ⟨-, -, -, w, -⟩ := w
  obtain ⟨-, -, -, ⟨h1, h2, h3, h4⟩, -⟩ := w s hs
  rcases (show d = 0 ∨ d = 1 ∨ d = 2 ∨ d = 3 by omega) with rfl | rfl | rfl | rfl
  · exact h1
  · exact h2
  · exact h3
  · exact h4
theorem gway_le (w : gWf G) {s d : Nat} (hs : s < G 2) (hd : d < 4) : gway G s d ≤ s := by
  have h1 := w_way w hs hd
  have h2 := w_way w hs (show 0 < 4 by omega)
  rw [Nat.mul_zero, Nat.add_zero] at h2
  unfold gway
  split <;> assumption
theorem gnx_le (w : gWf G) {s d : Nat} (hs : s < G 2) (hd : d < 4) (g : Nat) : gnx G s d g ≤ s := Nat.le_trans (gpl_le _ _ _) (gway_le w hs hd)
theorem gkil_lt (w : gWf G) {s g : Nat} (hs : s < G 2) (hg : g < 64) : gkil G s g < 64 := by
  obtain ⟨-, -, -, w, -⟩ := w
  have h := (w s hs).2.2.2.2
  unfold gkil
  split
  · exact hg
  · refine Nat.or_lt_two_pow (n := 6) hg ?_
    exact Nat.pow_lt_pow_right (by omega) (by omega)
theorem gkil_or (G : Nat → Nat) (s a b : Nat) : gkil G s (a ||| b) = a ||| gkil G s b := by
  unfold gkil
  split
  · rfl
  · rw [Nat.or_assoc]
theorem w_pl (w : gWf G) {s : Nat} (hs : s < G 2) : G (37 + s) < 64 := by
  obtain ⟨h, -, -, w, -⟩ := w
  have h1 := (w s hs).2.1
  have h2 : 2 ^ G 0 ≤ 2 ^ 6 := Nat.pow_le_pow_right (by omega) h.1
  omega
theorem and_lt64 {a : Nat} (b : Nat) (ha : a < 64) : a &&& b < 64 := Nat.lt_of_le_of_lt Nat.and_le_left ha
theorem x_playable (H : rHou sc 0 q G) (w : gWf G) {t g : Nat} (ht : t ≤ G 2) (hg : g < 64) : f_X2_playable 0 (xI t) (nI g) sc = some (xI (gpl G t g), sc) := by
  have hw := w.1
  have hb := w.2.1
  unfold f_X2_playable
  simp only [fJn_s, H.1, fNn_s, H.2.1.1.2.2.1, H.2.2.1.1, i_lit]
  cases t with
  | zero => simp (disch := omega) only [fLt_e, fBd_s, fJn_s, fNn_s, fNu_0, fNu_s, fBo_0, fBo_1, fBo_b, i_lit, i_neg1, nI_add, pk_mul, nI_clamp, i_le, i_lt, i_eq, fIx_n, nI_mI, mI_nI, mI_lt, nI_lt_m, mI_le, nI_le_m, xI_0, xI_s, bI_0, bI_1, bI_t, bI_f, n_31, j_bit, j_one, i_and, i_or, Nat.not_lt_zero, Nat.succ_ne_zero, Nat.add_one_ne_zero, Nat.add_one_sub_one, Nat.zero_le, Nat.or_zero, Nat.zero_or, Bool.not_true, Bool.not_false, Bool.true_and, Bool.false_and, Bool.and_true, Bool.and_false, ↓reduceIte, if_true, if_false, not_true_eq_false, not_false_eq_true, true_and, and_true, false_and, and_false, and_self, true_or, or_true, false_or, or_false, Nat.reduceEqDiff, Nat.reduceLT, Nat.reduceLeDiff, Nat.reduceAdd, Nat.reduceMul, Nat.reduceSub, Nat.add_zero, Nat.zero_add, Nat.mul_zero, Nat.zero_mul, ne_eq, Bool.not_eq_true, Bool.not_eq_false, reduceCtorEq, decide_true, decide_false, decide_eq_true_eq, decide_eq_false_iff_not, Bool.false_eq_true, if_pos, if_neg, gpl]
  | succ t =>
    have hs : t < G 2 := by omega
    have hp := w_pl w hs
    have ha := and_lt64 g hp
    have e := (H.2.1.2.2.1 t hs).2.1
    unfold gpl gcan
    cases hB : (G 4).testBit t <;> by_cases hz : G (37 + t) &&& g = 0 <;> simp (disch := omega) only [fLt_e, fBd_s, fJn_s, fNn_s, fNu_0, fNu_s, fBo_0, fBo_1, fBo_b, i_lit, i_neg1, nI_add, pk_mul, nI_clamp, i_le, i_lt, i_eq, fIx_n, nI_mI, mI_nI, mI_lt, nI_lt_m, mI_le, nI_le_m, xI_0, xI_s, bI_0, bI_1, bI_t, bI_f, n_31, j_bit, j_one, i_and, i_or, Nat.not_lt_zero, Nat.succ_ne_zero, Nat.add_one_ne_zero, Nat.add_one_sub_one, Nat.zero_le, Nat.or_zero, Nat.zero_or, Bool.not_true, Bool.not_false, Bool.true_and, Bool.false_and, Bool.and_true, Bool.and_false, ↓reduceIte, if_true, if_false, not_true_eq_false, not_false_eq_true, true_and, and_true, false_and, and_false, and_self, true_or, or_true, false_or, or_false, Nat.reduceEqDiff, Nat.reduceLT, Nat.reduceLeDiff, Nat.reduceAdd, Nat.reduceMul, Nat.reduceSub, Nat.add_zero, Nat.zero_add, Nat.mul_zero, Nat.zero_mul, ne_eq, Bool.not_eq_true, Bool.not_eq_false, reduceCtorEq, decide_true, decide_false, decide_eq_true_eq, decide_eq_false_iff_not, Bool.false_eq_true, if_pos, if_neg, e, hB, hz]
theorem x_playable_n (H : rHou sc 0 q G) (w : gWf G) {t g : Nat} (ht : t < G 2) (hg : g < 64) : f_X2_playable 0 (nI t) (nI g) sc = some (xI (gpl G (t + 1) g), sc) := x_playable H w (t := t + 1) ht hg
theorem m_canPlay (B : rBlk (gA sm 12 0 5) G) (w : gWf G) {t k : Nat} (ht : t ≤ G 2) (hk : k < 64) : f_X12_canPlay (xI t) (nI k) sm = some (bI (decide (gpl G t (G 5 ||| k) ≠ 0)), sm) := by
  have hw := w.1
  have hb := w.2.1
  unfold f_X12_canPlay
  cases t with
  | zero => simp (disch := omega) only [fLt_e, fBd_s, fJn_s, fNn_s, fNu_0, fNu_s, fBo_0, fBo_1, fBo_b, i_lit, i_neg1, nI_add, pk_mul, nI_clamp, i_le, i_lt, i_eq, fIx_n, nI_mI, mI_nI, mI_lt, nI_lt_m, mI_le, nI_le_m, xI_0, xI_s, bI_0, bI_1, bI_t, bI_f, n_31, j_bit, j_one, i_and, i_or, Nat.not_lt_zero, Nat.succ_ne_zero, Nat.add_one_ne_zero, Nat.add_one_sub_one, Nat.zero_le, Nat.or_zero, Nat.zero_or, Bool.not_true, Bool.not_false, Bool.true_and, Bool.false_and, Bool.and_true, Bool.and_false, ↓reduceIte, if_true, if_false, not_true_eq_false, not_false_eq_true, true_and, and_true, false_and, and_false, and_self, true_or, or_true, false_or, or_false, Nat.reduceEqDiff, Nat.reduceLT, Nat.reduceLeDiff, Nat.reduceAdd, Nat.reduceMul, Nat.reduceSub, Nat.add_zero, Nat.zero_add, Nat.mul_zero, Nat.zero_mul, ne_eq, Bool.not_eq_true, Bool.not_eq_false, reduceCtorEq, decide_true, decide_false, decide_eq_true_eq, decide_eq_false_iff_not, Bool.false_eq_true, if_pos, if_neg, gpl]
  | succ t =>
    have hs : t < G 2 := by omega
    have hp := w_pl w hs
    have ha := and_lt64 (G 5 ||| k) hp
    have e := (B.2.2.1 t hs).2.1
    unfold gpl gcan
    cases hB : (G 4).testBit t <;> by_cases hz : G (37 + t) &&& (G 5 ||| k) = 0 <;> simp (disch := omega) only [fLt_e, fBd_s, fJn_s, fNn_s, fNu_0, fNu_s, fBo_0, fBo_1, fBo_b, i_lit, i_neg1, nI_add, pk_mul, nI_clamp, i_le, i_lt, i_eq, fIx_n, nI_mI, mI_nI, mI_lt, nI_lt_m, mI_le, nI_le_m, xI_0, xI_s, bI_0, bI_1, bI_t, bI_f, n_31, j_bit, j_one, i_and, i_or, Nat.not_lt_zero, Nat.succ_ne_zero, Nat.add_one_ne_zero, Nat.add_one_sub_one, Nat.zero_le, Nat.or_zero, Nat.zero_or, Bool.not_true, Bool.not_false, Bool.true_and, Bool.false_and, Bool.and_true, Bool.and_false, ↓reduceIte, if_true, if_false, not_true_eq_false, not_false_eq_true, true_and, and_true, false_and, and_false, and_self, true_or, or_true, false_or, or_false, Nat.reduceEqDiff, Nat.reduceLT, Nat.reduceLeDiff, Nat.reduceAdd, Nat.reduceMul, Nat.reduceSub, Nat.add_zero, Nat.zero_add, Nat.mul_zero, Nat.zero_mul, ne_eq, Bool.not_eq_true, Bool.not_eq_false, reduceCtorEq, decide_true, decide_false, decide_eq_true_eq, decide_eq_false_iff_not, Bool.false_eq_true, if_pos, if_neg, m_has, B.1.2.2.2.2.1, B.1.2.2.2.2.2.1, e, hB, hz]
end
