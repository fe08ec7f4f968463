/-! layer 2: the call week, both sides -/
def GF (G V : Nat → Nat) (J : Nat) : Nat → Nat := fun k => if k < 217 then G k else if k = 217 then 1 else if k = 218 then J else V k
section
variable {G V : Nat → Nat} {J : Nat}
theorem GF_lt {k : Nat} (h : k < 217) : GF G V J k = G k := if_pos h
theorem GF_ge {k : Nat} (h : 219 ≤ k) : GF G V J k = V k := by
  unfold GF
  rw [if_neg (by omega), if_neg (by omega), if_neg (by omega)]
theorem GF_217 : GF G V J 217 = 1 := rfl
theorem GF_218 : GF G V J 218 = J := rfl
theorem rStg_cg {sc : fSt} {q : Nat} {G' : Nat → Nat} (w : gWf G) (h : ∀ k, k < 217 → G' k = G k) (H : rStg sc q G) : rStg sc q G' := by
  have w := w.1
  obtain ⟨h1, h2, h3, h4⟩ := H
  have e0 := h 0 (by omega)
  have e1 := h 1 (by omega)
  have e2 := h 2 (by omega)
  have e3 := h 3 (by omega)
  unfold rStg
  rw [e0, e1, e2, e3]
  refine ⟨h1, fun a ha => ?_, fun s hs => ?_, fun k hk => ?_⟩
  · simp (disch := omega) only [h]; exact h2 a ha
  · simp (disch := omega) only [h]; exact h3 s hs
  · simp (disch := omega) only [h]; exact h4 k hk
theorem rBlk_wk {f f' : Nat → Int32} (w : gWf G) (B : rBlk f G) (hf : ∀ k, k < 217 → f' k = f k) (h217 : f' 217 = nI 1) (h218 : f' 218 = nI J) (hJ : J ≤ 30) (hc : ∀ x, x < J → (f' (219 + 7 * x) = nI (V (219 + 7 * x)) ∧ f' (220 + 7 * x) = xI (V (220 + 7 * x)) ∧ f' (225 + 7 * x) = nI (V (225 + 7 * x))) ∧ (V (219 + 7 * x) = 5 → f' (221 + 7 * x) = nI (V (221 + 7 * x)) ∧ (V (221 + 7 * x) = 3 → f' (222 + 7 * x) = nI (V (222 + 7 * x)) ∧ f' (223 + 7 * x) = nI (V (223 + 7 * x))))) : rBlk f' (GF G V J) := by
  have w1 := w.1
  have w2 := w.2.1
  have e0 : GF G V J 0 = G 0 := GF_lt (by omega)
  have e1 : GF G V J 1 = G 1 := GF_lt (by omega)
  have e2 : GF G V J 2 = G 2 := GF_lt (by omega)
  have e3 : GF G V J 3 = G 3 := GF_lt (by omega)
  have e4 : GF G V J 4 = G 4 := GF_lt (by omega)
  have e5 : GF G V J 5 = G 5 := GF_lt (by omega)
  have e6 : GF G V J 6 = G 6 := GF_lt (by omega)
  have h : ∀ k, k < 217 → GF G V J k = G k := fun k hk => GF_lt hk
  obtain ⟨b1, b2, b3, b4, b5, b6, b7⟩ := B
  unfold rBlk
  rw [e0, e1, e2, e3, e4, e5, e6, GF_217, GF_218]
  refine ⟨?_, fun a ha => ?_, fun s hs => ?_, fun k hk => ?_, fun i hi => ?_, ⟨h217, h218, Nat.le_refl _, fun h => absurd h (by omega), hJ⟩, fun j hj => ?_⟩
  · simp (disch := omega) only [hf]; exact b1
  · simp (disch := omega) only [hf, h]; exact b2 a ha
  · simp (disch := omega) only [hf, h]; exact b3 s hs
  · simp (disch := omega) only [hf, h]; exact b4 k hk
  · simp (disch := omega) only [hf, h]; exact b5 i hi
  · obtain ⟨⟨c0, c1, c6⟩, c2⟩ := hc j hj
    rw [GF_ge (by omega), GF_ge (by omega), GF_ge (by omega), GF_ge (by omega), GF_ge (by omega), GF_ge (by omega)]
    exact ⟨c0, c1, c6, c2⟩
theorem rOne_wk {s t s' t' : fSt} {q w M : Nat} (R0 : rOne s t 0 q G) (hJ : J ≤ 30) (hM : M ≤ 60) (hb : ∃ m, rBod s w V m 3 0 J 0 M) (hV : ∀ x, x < 219 → V x = G x) (hc : cel t V 0 J) (i0 : gI s 9 w 0 = nI M) (i1 : gI s 9 w 1 = nI J)
    (fp : gP s' 2 0 0 = gP s 2 0 0 ∧ gP s' 2 0 1 = w + 1) (fI : gI s' = gI s) (fA : gA s' = gA s) (fB : gB s' = gB s)
    (ga : ∀ m, m < 217 → gA t' 12 0 5 m = gA t 12 0 5 m) (g7 : gA t' 12 0 5 217 = nI 1) (g8 : gA t' 12 0 5 218 = nI J) (g9 : ∀ p, 219 ≤ p → p < 219 + 7 * J → gA t' 12 0 5 p = gA t 12 0 5 (1720 + p)) (gb : gB t' = gB t) : rOne s' t' 0 q (GF G V J) := by
  obtain ⟨W, X, B, N, K⟩ := R0
  have h : ∀ k, k < 217 → GF G V J k = G k := fun k hk => GF_lt hk
  have w1 := W.1
  have w2 := W.2.1
  obtain ⟨m, hb⟩ := hb
  refine ⟨gWf_cg h W, ⟨fp.1.trans X.1, ?_, ?_, ?_⟩, rBlk_wk W B (fun k hk => ?_) ?_ ?_ hJ (fun x hx => ?_), ?_, Or.inr ⟨GF_217, w, M, fp.2, ?_, hM, ?_, ?_⟩⟩
  · have := rStg_cg W h X.2.1
    unfold rStg at *
    rw [fI, fA]
    exact this
  · rw [fI, h 4 (by omega), h 5 (by omega)]
    exact X.2.2.1
  · obtain ⟨-, -, -, c1, c2⟩ := X
    unfold rBok
    rw [fI, fA, h 6 (by omega)]
    refine ⟨c1, fun i hi => ?_⟩
    rw [h _ (by omega), h _ (by omega), h _ (by omega), h _ (by omega)]
    exact c2 i hi
  · show gA t' 12 0 5 (430 * 0 + k) = gA t 12 0 5 (430 * 0 + k)
    exact ga _ (by omega)
  · exact g7
  · exact g8
  · show (gA t' 12 0 5 (430 * 0 + (219 + 7 * x)) = nI (V (219 + 7 * x)) ∧ gA t' 12 0 5 (430 * 0 + (220 + 7 * x)) = xI (V (220 + 7 * x)) ∧ gA t' 12 0 5 (430 * 0 + (225 + 7 * x)) = nI (V (225 + 7 * x))) ∧ (V (219 + 7 * x) = 5 → gA t' 12 0 5 (430 * 0 + (221 + 7 * x)) = nI (V (221 + 7 * x)) ∧ (V (221 + 7 * x) = 3 → gA t' 12 0 5 (430 * 0 + (222 + 7 * x)) = nI (V (222 + 7 * x)) ∧ gA t' 12 0 5 (430 * 0 + (223 + 7 * x)) = nI (V (223 + 7 * x))))
    have hcx := hc x (by omega) hx
    simp only [Nat.mul_zero, Nat.zero_add]
    rw [g9 _ (by omega) (by omega), g9 _ (by omega) (by omega), g9 _ (by omega) (by omega), g9 _ (by omega) (by omega), g9 _ (by omega) (by omega), g9 _ (by omega) (by omega), show 1720 + (219 + 7 * x) = 1939 + 7 * x by omega, show 1720 + (220 + 7 * x) = 1940 + 7 * x by omega, show 1720 + (221 + 7 * x) = 1941 + 7 * x by omega, show 1720 + (222 + 7 * x) = 1942 + 7 * x by omega, show 1720 + (223 + 7 * x) = 1943 + 7 * x by omega, show 1720 + (225 + 7 * x) = 1945 + 7 * x by omega]
    exact hcx
  · unfold rNam at *
    rw [fB, gb, h 0 (by omega), h 1 (by omega), h 2 (by omega), h 3 (by omega)]
    exact N
  · rw [fI]; exact i0
  · rw [fI, GF_218]; exact i1
  · rw [GF_218]
    refine rBod_lim _ _ _ _ _ _ (rBod_fr (s' := s') (G' := GF G V J) _ _ _ _ _ _ hb (fun k x _ _ _ _ => by rw [fA]) (fun x hx => ?_) (fun x hx _ => GF_ge (by omega))) 31 (by omega)
    rw [h _ (by omega), hV _ (by omega)]
end
theorem rOne_Q {s t : fSt} {h q : Nat} {G : Nat → Nat} (H : rOne s t h q G) (x y : Int32) : rOne (sI (sI s 11 0 5 x) 11 0 6 y) (sI (sI t 12 0 10 x) 12 0 11 y) h q G := by
  have e : ∀ c i k, c ≠ 11 → gI (sI (sI s 11 0 5 x) 11 0 6 y) c i k = gI s c i k := fun c i k hc => by rw [gI_sI, if_neg (by omega), gI_sI, if_neg (by omega)]
  have eA : gA (sI (sI s 11 0 5 x) 11 0 6 y) = gA s := rfl
  have eB : gB (sI (sI s 11 0 5 x) 11 0 6 y) = gB s := rfl
  have eP : gP (sI (sI s 11 0 5 x) 11 0 6 y) = gP s := rfl
  have mA : gA (sI (sI t 12 0 10 x) 12 0 11 y) = gA t := rfl
  have mB : gB (sI (sI t 12 0 10 x) 12 0 11 y) = gB t := rfl
  exact rOne_g (by rw [eP]) (by rw [eP]) ⟨e _ _ _ (by omega), e _ _ _ (by omega)⟩ ⟨e _ _ _ (by omega), by rw [eA]⟩ (fun _ => ⟨fun k => e _ _ _ (by omega), fun k => by rw [eA], fun k => by rw [eB]⟩) (fun _ _ => ⟨fun k => e _ _ _ (by omega), fun k => by rw [eA]⟩) (fun k hk => by rw [mA]) (fun k hk => by rw [mB]) H
noncomputable def tA (v : fSt) (J : Nat) : fSt := sA (sA v 12 0 5 (upd (gA v 12 0 5) 217 (nI 1))) 12 0 5 (upd (gA (sA v 12 0 5 (upd (gA v 12 0 5) 217 (nI 1))) 12 0 5) 218 (nI J))
theorem tA_at (v : fSt) (J p : Nat) : gA (tA v J) 12 0 5 p = if p = 218 then nI J else if p = 217 then nI 1 else gA v 12 0 5 p := by
  unfold tA
  simp only [gA_sA, and_self, if_true, upd_at]
theorem wk_fin {G V : Nat → Nat} {J q w M : Nat} {u v : fSt} (HQ : RX u v) (RQ : rOne u v 0 q G) (hJ : J ≤ 30) (hM : M ≤ 60) (hb : ∃ m, rBod u w V m 3 0 J 0 M) (hV : ∀ x, x < 219 → V x = G x) (hc : cel v V 0 J) (i0 : gI u 9 w 0 = nI M) (i1 : gI u 9 w 1 = nI J) (h0 : gI v 12 0 0 = 0) :
    RR (sI (sP u 2 0 1 (w + 1)) 11 0 2 (nI 0)) (sA (tA v J) 12 0 5 (fun p => if 219 ≤ p ∧ p < 219 + 7 * J then gA (tA v J) 12 0 5 (1720 + p) else gA (tA v J) 12 0 5 p)) := by
  have hF : ∀ p, gA (sA (tA v J) 12 0 5 (fun p => if 219 ≤ p ∧ p < 219 + 7 * J then gA (tA v J) 12 0 5 (1720 + p) else gA (tA v J) 12 0 5 p)) 12 0 5 p = if 219 ≤ p ∧ p < 219 + 7 * J then gA v 12 0 5 (1720 + p) else if p = 218 then nI J else if p = 217 then nI 1 else gA v 12 0 5 p := by
    intro p
    rw [gA_sA, if_pos ⟨rfl, rfl, rfl⟩, tA_at, tA_at]
    by_cases h : 219 ≤ p ∧ p < 219 + 7 * J
    · rw [if_pos h, if_pos h, if_neg (by omega), if_neg (by omega)]
    · rw [if_neg h, if_neg h]
  have hk : ∀ k, k ≠ 5 → gA (sA (tA v J) 12 0 5 (fun p => if 219 ≤ p ∧ p < 219 + 7 * J then gA (tA v J) 12 0 5 (1720 + p) else gA (tA v J) 12 0 5 p)) 12 0 k = gA v 12 0 k := by
    intro k hk
    unfold tA
    rw [gA_sA, if_neg (by omega), gA_sA, if_neg (by omega), gA_sA, if_neg (by omega)]
  have hI : gI (sA (tA v J) 12 0 5 (fun p => if 219 ≤ p ∧ p < 219 + 7 * J then gA (tA v J) 12 0 5 (1720 + p) else gA (tA v J) 12 0 5 p)) = gI v := rfl
  have hL : gL (sA (tA v J) 12 0 5 (fun p => if 219 ≤ p ∧ p < 219 + 7 * J then gA (tA v J) 12 0 5 (1720 + p) else gA (tA v J) 12 0 5 p)) = gL v := rfl
  have hB : gB (sA (tA v J) 12 0 5 (fun p => if 219 ≤ p ∧ p < 219 + 7 * J then gA (tA v J) 12 0 5 (1720 + p) else gA (tA v J) 12 0 5 p)) = gB v := rfl
  generalize sA (tA v J) 12 0 5 (fun p => if 219 ≤ p ∧ p < 219 + 7 * J then gA (tA v J) 12 0 5 (1720 + p) else gA (tA v J) 12 0 5 p) = v' at *
  have N : rOne (sP u 2 0 1 (w + 1)) v' 0 q (GF G V J) := by
    refine rOne_wk RQ hJ hM hb hV hc i0 i1 ⟨?_, ?_⟩ rfl rfl rfl (fun k h => ?_) ?_ ?_ (fun k h h2 => ?_) hB
    · rw [gP_sP, if_neg (by omega)]
    · rw [gP_sP, if_pos ⟨rfl, rfl, rfl⟩]
    · rw [hF, if_neg (by omega), if_neg (by omega), if_neg (by omega)]
    · rw [hF, if_neg (by omega), if_neg (by omega), if_pos rfl]
    · rw [hF, if_neg (by omega), if_pos rfl]
    · rw [hF, if_pos ⟨h, h2⟩]
  refine fin_0 (RX_one HQ N ⟨fun c i k hc => rfl, rfl, rfl, rfl, fun c i k hc => ?_⟩ ⟨hI, hL, hk, fun k h => ?_, fun k h => by rw [hB], fun k h => by rw [hB]⟩) (by rw [hI]; exact h0)
  · rw [gP_sP, if_neg (by omega)]
  · rw [hF, if_neg (by omega), if_neg (by omega), if_neg (by omega)]
/-- week -/
theorem call_week (b : Int32) (n0 : Nat) (sc sm : fSt) (R : RR sc sm) (hp : ∀ i, i < 4 → gP sc 2 i 1 ≤ n0) : ∃ r sc' sm', f_X11_week n0 b sc = some (r, sc') ∧ f_X12_week b sm = some (r, sm') ∧ RR sc' sm' := by
  obtain ⟨hA, H⟩ := R
  have H := pro_x H
  have z := pro_0 sm
  unfold f_X11_week f_X11_week_1 f_X12_week
  simp only [fLt_e, pro_eq]
  generalize pro sm = s2 at *
  simp only [i_lit]
  obtain ⟨m, hm9, hx2, hm8, -⟩ := H.2.2.2.1.1
  have hcnt : (if nI 300 < gI sc 5 0 2 then nI 300 else gI sc 5 0 2) = nI (min m 300) := by
    rw [hx2]
    by_cases h : 300 < m
    · rw [if_pos (by rw [i_lt _ _ (by omega) (by omega)]; exact h), Nat.min_eq_right (by omega)]
    · rw [if_neg (by rw [i_lt _ _ (by omega) (by omega)]; exact h), Nat.min_eq_left (by omega)]
  rw [hcnt, x_isIn, nI_toInt (by omega), nI_toInt (by omega), fBd_s]
  by_cases hb : 0 ≤ b.toInt ∧ b.toInt ≤ m ∧ b.toInt ≤ 300
  · rw [inB_t.mpr (by omega), if_pos (by decide)]
    obtain ⟨r, hr, rfl, -⟩ := nI_ofInt (n := m + 1) hb.1 (by omega)
    have hr3 : r ≤ 300 := by
      have := hb.2.2
      rw [nI_toInt (by omega)] at this
      omega
    obtain ⟨s, t, c, a, p, so, e1, e2, P, hp0, f, g, h5, h8, hB⟩ := rd_open (r := r) (lim := 300) (m := m) H.2.2.2.1 ⟨hm8, hm9⟩ (by omega)
    rw [e1, fBd_s, e2, fBd_s, if_pos (by decide)]
    simp only [fJn_s]
    have P1 := ps_I24 (ps_N (d := 9) (q := n0) P (by omega)) (nI 0)
    have f1 : xH 9 n0 sc (fNewO 9 n0 s) := xH_tr (f 9 n0) (xH_new s)
    have g1 : yH s2 (sI t 12 0 24 (nI 0)) := by
      refine yH_tr g ⟨fun k hk => ?_, fun _ _ => rfl, fun _ _ => rfl, fun _ _ => rfl, fun _ _ => rfl, fun _ _ => rfl⟩
      rw [gI_sI, if_neg (by omega)]
    have h5' : gI (fNewO 9 n0 s) 5 0 2 = nI 0 := (fNewO_I (by omega)).trans h5
    have h8' : gI (sI t 12 0 24 (nI 0)) 12 0 8 = nI 0 := by
      rw [gI_sI, if_neg (by omega)]
      exact h8
    have z0 : ∀ k, gI (fNewO 9 n0 s) 9 n0 k = nI 0 := fun k => fNewO_Is 9 n0 s k
    have z24 : gI (sI t 12 0 24 (nI 0)) 12 0 24 = nI 0 := by rw [gI_sI, if_pos ⟨rfl, rfl, rfl⟩]
    generalize fNewO 9 n0 s = s1 at *
    generalize sI t 12 0 24 (nI 0) = t1 at *
    obtain ⟨q, G, W, X, B, N, K⟩ := RX_cur H
    have R0 : rOne sc s2 0 q G := ⟨W, X, by simpa only [Nat.mul_zero, Nat.zero_add] using B, by simpa only [Nat.mul_zero, Nat.zero_add] using N, K⟩
    have hd : (9 = 7 ∧ ∀ i, i < 4 → gP sc 2 i 0 ≤ n0) ∨ (9 = 9 ∧ ∀ i, i < 4 → gP sc 2 i 1 ≤ n0) := Or.inr ⟨rfl, hp⟩
    have R1 := rOne_rd f1 g1 hd (by omega) R0
    have hs1 := hsR_of R1
    have hF : 3000 < fF := fF_lt (by omega)
    have htop := wk_top (w := n0) (q := q) (G := G) hr3 31 s1 t1 G 0 0 a p so 0 fF (by omega) P1 hs1 ⟨⟨z0 0, z0 1, z0 7⟩, z24, by omega, by omega, by omega⟩ ⟨by omega, hp0⟩ (fun _ _ => rfl) (by omega)
    have hP2 : gP s1 2 0 0 = q + 1 := by rw [f1.2.2.2.2]; exact X.1
    unfold f_X11_week_2
    rw [hP2, fNn_s, rdF_eq]
    have hEW : ∀ m, eW 0 m → 1720 ≤ m := fun m h => by have := eW_le h; omega
    rcases htop with ⟨s3, t3, d, e, Fl, f3, g3, hX, hM⟩ | ⟨s3, t3, V, i', J, a', p', P3, hV, hc, -, hbd, Z3, f3, g3, hX, hM⟩
    · have f4 := xH_tr f1 (xV_w f3)
      have g4 := yH_tr g1 (yV_w g3 hEW)
      have h53 : gI s3 5 0 2 = nI 0 := (f3.1 _ _ _ (by omega) (by omega)).trans h5'
      have h83 : gI t3 12 0 8 = nI 0 := (g3.1 _ _ _ (by omega)).trans h8'
      have H3 : RX s3 t3 := RX_rd H f4 g4 hd h53 h83 ⟨by rw [f4.1 _ _ _ (by omega) (by omega), g4.1 _ (by omega)]; exact H.2.1.1, by rw [f4.1 _ _ _ (by omega) (by omega), g4.1 _ (by omega)]; exact H.2.1.2⟩
      obtain ⟨k1, k2, k3, u1, u2, u3, u4⟩ := Fl
      rw [show f_X9_readFrom_L2 n0 q (wEnd n0) fF ((0 : Int32)) s1 = some (nI 0, s3) from hX fF (by omega), hM, fBd_s, m_unwell ⟨k1, k2⟩ u1 u2, fBd_s, if_neg (by decide)]
      unfold f_X11_keepFault f_X11_fail
      simp only [fLt_e, fBd_s]
      rw [if_neg (by decide)]
      simp only [fBd_s, i_lit, i_neg1]
      refine ⟨_, _, _, rfl, rfl, ?_⟩
      have hy : gI (sI s3 11 0 5 (gI s3 5 0 10)) 5 0 11 = nI e := u4
      rw [hy, u3]
      exact fin_st (RX_Q H3 (nI d) (nI e)) (nI 10)
    · have f4 := xH_tr f1 (xV_w f3)
      have g4 := yH_tr g1 (yV_w g3 hEW)
      have h53 : gI s3 5 0 2 = nI 0 := (f3.1 _ _ _ (by omega) (by omega)).trans h5'
      have h83 : gI t3 12 0 8 = nI 0 := (g3.1 _ _ _ (by omega)).trans h8'
      have H3 : RX s3 t3 := RX_rd H f4 g4 hd h53 h83 ⟨by rw [f4.1 _ _ _ (by omega) (by omega), g4.1 _ (by omega)]; exact H.2.1.1, by rw [f4.1 _ _ _ (by omega) (by omega), g4.1 _ (by omega)]; exact H.2.1.2⟩
      have R3 := rOne_rd f4 g4 hd (by omega) R0
      have hb0 := P3.2.2.2.1
      obtain ⟨⟨i0, i1, i7⟩, i24, hij, hJ, -⟩ := Z3
      rw [show f_X9_readFrom_L2 n0 q (wEnd n0) fF ((0 : Int32)) s1 = some (nI 1, s3) from hX fF (by omega), hM, fBd_s, m_well hb0, fBd_s, if_pos (by decide)]
      unfold f_X11_keepFault f_X11_answer
      simp only [fLt_e, fBd_s]
      rw [if_pos (by decide)]
      have hx : gI s3 5 0 10 = nI 0 := P3.2.2.2.2.1
      have hy : gI (sI s3 11 0 5 (gI s3 5 0 10)) 5 0 11 = mI := P3.2.2.2.2.2
      rw [hy, hx]
      have w24 : gI (sI (sI t3 12 0 10 (nI 0)) 12 0 11 mI) 12 0 24 = nI J := by
        rw [gI_sI, if_neg (by omega), gI_sI, if_neg (by omega)]
        exact i24
      have hcl : nI 217 = nI 217 := rfl
      simp (disch := omega) only [fIx_n, nI_clamp, gI_sA, w24]
      rw [lm82 hJ]
      rotate_left
      · exact w24
      have h0 : gI t3 12 0 0 = 0 := (g4.1 _ (by omega)).trans z
      have HQ := RX_Q H3 (nI 0) mI
      have RQ := rOne_Q R3 (nI 0) mI
      obtain ⟨mm, hbd⟩ := hbd
      have hbd' := rBod_w (sc := s3) (sc' := sI (sI s3 11 0 5 (nI 0)) 11 0 6 mI) (fun _ => rfl) _ _ _ _ _ _ hbd
      have hc' : cel (sI (sI t3 12 0 10 (nI 0)) 12 0 11 mI) V 0 J := hc
      have e0' : gI (sI (sI s3 11 0 5 (nI 0)) 11 0 6 mI) 9 n0 0 = nI i' := by
        rw [gI_sI, if_neg (by omega), gI_sI, if_neg (by omega)]
        exact i0
      have e1' : gI (sI (sI s3 11 0 5 (nI 0)) 11 0 6 mI) 9 n0 1 = nI J := by
        rw [gI_sI, if_neg (by omega), gI_sI, if_neg (by omega)]
        exact i1
      have h00 : gI (sI (sI t3 12 0 10 (nI 0)) 12 0 11 mI) 12 0 0 = 0 := by
        rw [gI_sI, if_neg (by omega), gI_sI, if_neg (by omega)]
        exact h0
      generalize sI (sI s3 11 0 5 (nI 0)) 11 0 6 mI = u at *
      generalize sI (sI t3 12 0 10 (nI 0)) 12 0 11 mI = v at *
      have hfin := wk_fin HQ RQ hJ (M := i') (w := n0) (by omega) ⟨mm, hbd'⟩ (fun x hx => hV x (by omega)) hc' e0' e1' h00
      refine ⟨nI J, _, _, ?_, rfl, hfin⟩
      rw [gI_sP, e1']
      rfl
  · rw [inB_f.mpr (by omega), if_neg (by decide), rd_shut (lim := 300) ⟨hm8, hm9⟩ (by omega) (by omega), fBd_s, if_neg (by decide)]
    unfold f_X11_fail
    simp only [fLt_e, fBd_s, i_lit, i_neg1]
    exact ⟨_, _, _, rfl, rfl, fin_st H _⟩
