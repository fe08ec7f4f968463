noncomputable def f_X5_init_L28 (k5 : fSt → Option (Unit × fSt)) : Nat → Int32 → Int64 → Int32 → fSt → Option (Unit × fSt)
  | 0, _, _, _, _ => none
  | n10 + 1, x6, x7, x8, s9 =>
      if ((172 : Int32)) ≤ x8 then
        (k5 s9)
      else
        (if ((32 : Int32)) ≤ x6 then
          (k5 s9)
        else
          (fIx x8 172 <|
          fLt (sTx.getD x8.toNatClampNeg 0) fun (x11 : Int32) =>
          fJn (fun (x12 : Int32) (x13 : Int64) (s14 : fSt) =>
            (fLt (x8 + (1 : Int32)) fun (x16 : Int32) =>
            f_X5_init_L28 k5 n10 x12 x13 x16 s14)) fun (j15 : Int32 → Int64 → fSt → Option (Unit × fSt)) =>
          if ¬ x11 = ((32 : Int32)) then
            (fBd (f_X5_withLetter x7 x11 s9) fun x17 s18 =>
            fLt x17 fun (x19 : Int64) =>
            j15 x6 x19 s18)
          else
            (fLt (x6 + (1 : Int32)) fun (x20 : Int32) =>
            fIx x6 32 <|
            fLt (sB s9 5 0 2 (vp_updL (gB s9 5 0 2) x6.toNatClampNeg x7)) fun s21 =>
            fLt ((0 : Int64)) fun (x22 : Int64) =>
            j15 x20 x22 s21)))

noncomputable def f_X5_init_t (st : fSt) : Option (Unit × fSt) :=
  fLt ((0 : Int32)) fun (x1 : Int32) =>
  fLt ((0 : Int64)) fun (x2 : Int64) =>
  fLt ((0 : Int32)) fun (x3 : Int32) =>
  fJn (fun (s4 : fSt) =>
    (some ((), s4))) fun (k5 : fSt → Option (Unit × fSt)) =>
  f_X5_init_L28 k5 fF x1 x2 x3 st

/-! the words that are no NAMES, as the reader's constructor reads them off the text -/
def wdL (l : Int64) (c : Int32) : Int64 := (l <<< (((5 : Int32)).toInt64 &&& 63)) ||| (((c - ((97 : Int32))) + ((1 : Int32))).toInt64)
def wdS (a : List Int64 × Int64) (c : Int32) : List Int64 × Int64 := if c = 32 then (a.1 ++ [a.2], 0) else (a.1, wdL a.2 c)
def fWds : List Int64 := (sTx.foldl wdS ([], 0)).1
def fWd (k : Nat) : Int64 := fWds.getD k 0
theorem wd_run (k5 : fSt → Option (Unit × fSt)) : ∀ (rest : List Int32) (k : Nat) (ws : List Int64) (l : Int64) (st : fSt) (fu : Nat), sTx.drop k = rest → k + rest.length = 172 → ws.length + rest.count 32 ≤ 32 → (rest = [] ∨ rest.getLast? = some 32) → (∀ q, q < 32 → gB st 5 0 2 q = ws.getD q 0) → rest.length < fu → ∃ st1, f_X5_init_L28 k5 fu (nI ws.length) l (nI k) st = k5 st1 ∧ (∀ q, q < 32 → gB st1 5 0 2 q = (rest.foldl wdS (ws, l)).1.getD q 0) ∧ ∃ g, st1 = sB st 5 0 2 g := by
  intro rest
  induction rest with
  | nil =>
    intro k ws l st fu hd hk hc _ hq hfu
    obtain ⟨m, rfl⟩ : ∃ m, fu = m + 1 := ⟨fu - 1, by simp at hfu; omega⟩
    rw [f_X5_init_L28]
    have : k = 172 := by simpa using hk
    subst this
    exact ⟨st, by rw [if_pos (by decide)], hq, _, (sB_self st 5 0 2).symm⟩
  | cons c rest ih =>
    intro k ws l st fu hd hk hc hl hq hfu
    obtain ⟨m, rfl⟩ : ∃ m, fu = m + 1 := ⟨fu - 1, by simp at hfu; omega⟩
    have hk2 : k < 172 := by simp at hk; omega
    have hk3 : k + 1 + rest.length = 172 := by
      simp only [List.length_cons] at hk
      omega
    have hfu3 : rest.length < m := by
      simp only [List.length_cons] at hfu
      omega
    have hlast : (c :: rest).getLast? = some 32 := by
      rcases hl with h | h
      · cases h
      · exact h
    have hcnt : 1 ≤ (c :: rest).count 32 := List.count_pos_iff.mpr (List.mem_of_getLast? hlast)
    have hw : ws.length < 32 := by omega
    have hch : sTx.getD k 0 = c := by
      have : sTx[k]? = some c := by
        have h0 : (sTx.drop k)[0]? = some c := by rw [hd]; rfl
        simpa using h0
      simp [this]
    have hd2 : sTx.drop (k + 1) = rest := by
      rw [← List.drop_drop, hd]
      rfl
    have hl2 : rest = [] ∨ rest.getLast? = some 32 := by
      cases rest with
      | nil => exact Or.inl rfl
      | cons a b => exact Or.inr (by rw [List.getLast?_cons_cons] at hlast; exact hlast)
    rw [f_X5_init_L28]
    have h172 : ¬ (172 : Int32) ≤ nI k := nI_ge (b := 172) hk2 (by decide)
    have h032 : ¬ (32 : Int32) ≤ nI ws.length := nI_ge (b := 32) hw (by decide)
    rw [if_neg h172, if_neg h032, fIx_nI hk2 (by omega)]
    dsimp only [fLt, fJn]
    rw [nI_clamp (by omega), hch]
    by_cases h32 : c = 32
    · rw [if_neg (fun h => h h32), fIx_nI hw (by omega)]
      rw [show nI ws.length + (1 : Int32) = nI (ws.length + 1) from nI_1 _, show nI k + (1 : Int32) = nI (k + 1) from nI_1 _, nI_clamp (by omega)]
      obtain ⟨st1, e1, e2, g, e3⟩ := ih (k + 1) (ws ++ [l]) 0 (sB st 5 0 2 (vp_updL (gB st 5 0 2) ws.length l)) m hd2 hk3 (by rw [h32, List.count_cons_self] at hc; rw [List.length_append, List.length_singleton]; omega) hl2 (by
        intro q hq1
        rw [gB_same]
        unfold vp_updL
        by_cases h1 : q = ws.length
        · subst h1
          simp
        · rw [if_neg h1, hq q hq1]
          rcases Nat.lt_or_ge q ws.length with h2 | h2
          · simp [List.getElem?_append_left h2]
          · simp [List.getElem?_append_right h2, show ¬ q < ws.length by omega, show q - ws.length ≠ 0 by omega, List.getElem?_eq_none h2]) hfu3
      refine ⟨st1, ?_, ?_, g, by rw [e3, sB_sB]⟩
      · rw [← e1]
        simp
      · intro q hq1
        rw [e2 q hq1]
        rw [List.foldl_cons, show wdS (ws, l) c = (ws ++ [l], 0) from by unfold wdS; rw [if_pos h32]]
    · rw [if_pos h32]
      unfold f_X5_withLetter
      dsimp only [fBd]
      rw [show nI k + (1 : Int32) = nI (k + 1) from nI_1 _]
      obtain ⟨st1, e1, e2, g, e3⟩ := ih (k + 1) ws (wdL l c) st m hd2 hk3 (by rw [List.count_cons_of_ne (fun h => h32 h)] at hc; exact hc) hl2 hq hfu3
      refine ⟨st1, e1, ?_, g, e3⟩
      intro q hq1
      rw [e2 q hq1, List.foldl_cons, show wdS (ws, l) c = (ws, wdL l c) from by unfold wdS; rw [if_neg h32]]
theorem wd_init : ∃ g : Nat → Int64, f_X5_init_t fz = some ((), sB fz 5 0 2 g) ∧ ∀ q, q < 32 → g q = fWd q := by
  have hln : sTx.length = 172 := by decide +kernel
  have hfl : sTx.length < fF := by
    have := fF_ge
    omega
  obtain ⟨st1, e1, e2, g, e3⟩ := wd_run (fun s => some ((), s)) sTx 0 [] 0 fz fF rfl (by decide +kernel) (by decide +kernel) (Or.inr (by decide +kernel)) (fun q _ => by simp [gB, fz]) hfl
  refine ⟨g, ?_, fun q hq => ?_⟩
  · unfold f_X5_init_t
    dsimp only [fLt, fJn]
    rw [e3] at e1
    exact e1
  · have h9 := e2 q hq
    rw [e3, gB_same] at h9
    exact h9
set_option maxHeartbeats 4000000 in
set_option maxRecDepth 100000 in
theorem t_X5_init {aS aV : Nat} (Δ : fDl) (Γ : fGm) (hN1 : 0 < fN Δ 5) (hS : sE aS aV Γ.2.2.2.2.2.2.2.2.2.2.1 Γ.2.2.2.1) (C : fC Δ Γ cX5_init RX5 6 none 6) (st : fSt) : fW Δ Γ 6 (fQ eV Δ Γ) 21 [(0, .ref (fad Δ 5 0 0))] [] st (f_X5_init_t st) := by
  unfold f_X5_init_t
  refine r_iconst (q := 22) (v := 0) C dX5_init_21 rfl (by decide) ?_
  refine r_istore_n (q := 23) (i := 1) [(0, .ref (fad Δ 5 0 0))] C dX5_init_22 rfl rfl (by decide) rfl (fun x1 => ?_)
  refine r_lconst (q := 24) (v := 0) C dX5_init_23 rfl (by decide) ?_
  refine r_lstore_n (q := 25) (i := 2) [(1, .int x1), (0, .ref (fad Δ 5 0 0))] C dX5_init_24 rfl rfl (by decide) rfl (fun x2 => ?_)
  refine r_iconst (q := 26) (v := 0) C dX5_init_25 rfl (by decide) ?_
  refine r_istore (q := 28) (i := 4) [(2, .long x2), (1, .int x1), (0, .ref (fad Δ 5 0 0))] C dX5_init_26 rfl (by decide) rfl (fun x3 => ?_)
  refine r_join (fun k5 => ∀  (s4 : fSt), fW Δ Γ 6 (fQ eV Δ Γ) 88 [] [] s4 (k5 s4)) ?_ (fun k5 hk5 => ?_)
  · intro s4
    exact r_vret C dX5_init_88
  refine r_locs (lc' := [(0, .ref (fad Δ 5 0 0)), (1, .int x1), (2, .long x2), (4, .int x3)]) [3, 2, 1, 0] rfl ?_
  have L28 : ∀ (n10 : Nat) (x6 : Int32) (x7 : Int64) (x8 : Int32) (s9 : fSt), fW Δ Γ 6 (fQ eV Δ Γ) 28 [(0, .ref (fad Δ 5 0 0)), (1, .int x6), (2, .long x7), (4, .int x8)] [] s9 (f_X5_init_L28 k5 n10 x6 x7 x8 s9) := by
    intro n10
    induction n10 with
    | zero =>
      intro x6 x7 x8 s9
      rw [f_X5_init_L28]
      exact r_none
    | succ n10 ih_n10 =>
      intro x6 x7 x8 s9
      rw [f_X5_init_L28]
      refine r_iload (q := 30) (i := 4) (z := 3) C dX5_init_28 rfl rfl ?_
      refine r_ldcS (q := 32) hS C dX5_init_30 rfl ?_
      refine r_sLen (q := 35) hS wm_X5_21 C (by decide) (Nat.le_of_ble_eq_true rfl) dX5_init_32 rfl ?_
      refine r_icmp_ge (q := 38) (tgt := 88) C dX5_init_35 (by decide) rfl ?_ ?_
      · refine r_locs (lc' := []) [] rfl ?_
        exact hk5 s9
      · refine r_iload_n (q := 39) (i := 1) (z := 1) C dX5_init_38 rfl rfl rfl ?_
        refine r_bipush (q := 41) (v := 32) C dX5_init_39 rfl (by decide) ?_
        refine r_icmp_ge (q := 44) (tgt := 88) C dX5_init_41 (by decide) rfl ?_ ?_
        · refine r_locs (lc' := []) [] rfl ?_
          exact hk5 s9
        · refine r_ldcS (q := 46) hS C dX5_init_44 rfl ?_
          refine r_iload (q := 48) (i := 4) (z := 3) C dX5_init_46 rfl rfl ?_
          refine r_sCh (q := 51) hS wm_X5_27 C (by decide) (Nat.le_of_ble_eq_true rfl) dX5_init_48 rfl ?_
          refine r_istore (q := 53) (i := 5) [(0, .ref (fad Δ 5 0 0)), (1, .int x6), (2, .long x7), (4, .int x8)] C dX5_init_51 rfl (by decide) rfl (fun x11 => ?_)
          refine r_iload (q := 55) (i := 5) (z := 0) C dX5_init_53 rfl rfl ?_
          refine r_bipush (q := 57) (v := 32) C dX5_init_55 rfl (by decide) ?_
          refine r_join (fun j15 => ∀ (x12 : Int32) (x13 : Int64) (s14 : fSt), fW Δ Γ 6 (fQ eV Δ Γ) 82 [(0, .ref (fad Δ 5 0 0)), (1, .int x12), (2, .long x13), (4, .int x8)] [] s14 (j15 x12 x13 s14)) ?_ (fun j15 hj15 => ?_)
          · intro x12 x13 s14
            refine r_iinc (q := 85) (z := 3) (d := 1) [(0, .ref (fad Δ 5 0 0)), (1, .int x12), (2, .long x13)] C dX5_init_82 rfl rfl (by decide) (by decide) rfl (fun x16 => ?_)
            refine r_goto (q := 28) C dX5_init_85 (by decide) ?_
            refine r_locs (lc' := [(0, .ref (fad Δ 5 0 0)), (1, .int x12), (2, .long x13), (4, .int x16)]) [1, 2, 3, 0] rfl ?_
            exact ih_n10 x12 x13 x16 s14
          refine r_icmp_ne (q := 60) (tgt := 75) C dX5_init_57 (by decide) rfl ?_ ?_
          · refine r_lload_n (q := 76) (i := 2) (z := 3) C dX5_init_75 rfl rfl rfl ?_
            refine r_iload (q := 78) (i := 5) (z := 0) C dX5_init_76 rfl rfl ?_
            refine r_callSL (q := 81) (As := [.long x7, .int x11]) wm_X5_31 ysX5_withLetter (c_X5_withLetter Δ x7 x11 s9) C (by decide) rfl (Nat.le_of_ble_eq_true rfl) dX5_init_78 rfl (fun x17 s18 => ?_)
            refine r_lstore_n (q := 82) (i := 2) [(5, .int x11), (0, .ref (fad Δ 5 0 0)), (1, .int x6), (4, .int x8)] C dX5_init_81 rfl rfl (by decide) rfl (fun x19 => ?_)
            refine r_locs (lc' := [(0, .ref (fad Δ 5 0 0)), (1, .int x6), (2, .long x19), (4, .int x8)]) [2, 3, 0, 4] rfl ?_
            exact hj15 x6 x19 s18
          · refine r_aload_n (q := 61) (i := 0) (z := 1) C dX5_init_60 rfl rfl rfl ?_
            refine g_X5_15 (q := 64) C hN1 dX5_init_61 rfl ?_
            refine r_iload_n (q := 65) (i := 1) (z := 2) C dX5_init_64 rfl rfl rfl ?_
            refine r_iinc (q := 68) (z := 2) (d := 1) [(5, .int x11), (0, .ref (fad Δ 5 0 0)), (2, .long x7), (4, .int x8)] C dX5_init_65 rfl rfl (by decide) (by decide) rfl (fun x20 => ?_)
            refine r_lload_n (q := 69) (i := 2) (z := 3) C dX5_init_68 rfl rfl rfl ?_
            refine r_lst (q := 70) q_5_2 h_5_2 C hN1 dX5_init_69 rfl (fun s21 => ?_)
            refine r_lconst (q := 71) (v := 0) C dX5_init_70 rfl (by decide) ?_
            refine r_lstore_n (q := 72) (i := 2) [(1, .int x20), (5, .int x11), (0, .ref (fad Δ 5 0 0)), (4, .int x8)] C dX5_init_71 rfl rfl (by decide) rfl (fun x22 => ?_)
            refine r_goto (q := 82) C dX5_init_72 (by decide) ?_
            refine r_locs (lc' := [(0, .ref (fad Δ 5 0 0)), (1, .int x20), (2, .long x22), (4, .int x8)]) [3, 1, 0, 4] rfl ?_
            exact hj15 x20 x22 s21
  exact L28 fF x1 x2 x3 st
theorem pt_X5_init : ∃ st1, f_X5_init_t (fz) = some ((), st1) ∧ ∀ (cA : Nat → ClassId) (h0 q1 q2 : Nat), (fun ws1 => ∃ q1 q2 : Nat, ∃ g1 : Nat → Int64, (∀ k, k < 32 → g1 k = fWd k) ∧ ws1 = [(h0, .inr (5, [.ref q1, .ref q2, .int 0, .int 0, .int 0, .int 0, .int 0, .long 0, .int 0, .int 0, .int 0, .int 0])), (q1, .inl (cA 1, 900, .inl (fun _ => 0))), (q2, .inl (cA 3, 32, .inr (.inl g1)))]) (fWs cA (fun _ _ j => [h0, q1, q2].getD j 0) (fun c => if c = 5 then 1 else 0) st1) := by
  obtain ⟨g, e, h⟩ := wd_init
  exact ⟨_, e, fun cA h0 q1 q2 => ⟨q1, q2, g, h, rfl⟩⟩
set_option maxHeartbeats 4000000 in
set_option maxRecDepth 100000 in
theorem k_X5_init (aS aV : Nat) (l : Launch) (D : va_G) (cA : Nat → ClassId) (h0 sz : Nat) : nMe aS aV l D cA yX5_init cX5_init 6 6 2 932 sz [.ref h0] [(h0, .inr (5, [.null, .null, .int 0, .int 0, .int 0, .int 0, .int 0, .long 0, .int 0, .int 0, .int 0, .int 0]))] (fun ws1 => ∃ q1 q2 : Nat, ∃ g1 : Nat → Int64, (∀ k, k < 32 → g1 k = fWd k) ∧ ws1 = [(h0, .inr (5, [.ref q1, .ref q2, .int 0, .int 0, .int 0, .int 0, .int 0, .long 0, .int 0, .int 0, .int 0, .int 0])), (q1, .inl (cA 1, 900, .inl (fun _ => 0))), (q2, .inl (cA 3, 32, .inr (.inl g1)))]) := by
  refine n_methodE (by decide +kernel) rfl (Nat.le_of_ble_eq_true rfl) (fun Γ R s hΓ hsz C hE => ?_)
  obtain ⟨p, e, m, args, below, meth, c, rfl⟩ := hΓ
  have C : nC (l, D, cA, p, e, R, s, m, args, below, meth, c, s.heap, va_A [(h0, .inr (5, [.null, .null, .int 0, .int 0, .int 0, .int 0, .int 0, .long 0, .int 0, .int 0, .int 0, .int 0]))] sz) cX5_init RX5 6 6 2 932 := C
  refine n_locs (lc' := [(0, .ref h0)]) [0] rfl ?_
  refine n_aload_n (q := 1) (i := 0) (z := 0) C dX5_init_0 rfl rfl rfl ?_
  refine n_obj (q := 4) wo_X5_3 wo_1.1 wo_1.2 C (by decide) (Nat.le_of_ble_eq_true rfl) dX5_init_1 rfl ?_
  refine n_aload_n (q := 5) (i := 0) (z := 0) C dX5_init_4 rfl rfl rfl ?_
  refine n_sipush (q := 8) (v := 900) C dX5_init_5 rfl (by decide) ?_
  refine n_newa (q := 10) (ty := .byte) (atype := .byte) 1 (900, .inl (fun _ => 0)) wa_byte rfl (fun _ h => by cases h) (fun _ => rfl) (fun _ => rfl) (by decide) rfl (Nat.le_of_ble_eq_true rfl) C (by decide) (by decide) dX5_init_8 rfl (fun q1 => ?_)
  refine n_ws (ws' := [(h0, .inr (5, [.null, .null, .int 0, .int 0, .int 0, .int 0, .int 0, .long 0, .int 0, .int 0, .int 0, .int 0])), (q1, .inl (cA 1, 900, .inl (fun _ => 0)))]) rfl ?_
  refine n_putF (ty := (.array .byte)) (q := 13) 0 0 [(h0, .inr (5, [.ref q1, .null, .int 0, .int 0, .int 0, .int 0, .int 0, .long 0, .int 0, .int 0, .int 0, .int 0])), (q1, .inl (cA 1, 900, .inl (fun _ => 0)))] KX5 rfl (by decide) wf_X5_9 rfl rfl (by decide +kernel) rfl rfl (Nat.le_of_ble_eq_true rfl) rfl (by decide) C dX5_init_10 rfl ?_
  refine n_aload_n (q := 14) (i := 0) (z := 0) C dX5_init_13 rfl rfl rfl ?_
  refine n_bipush (q := 16) (v := 32) C dX5_init_14 rfl (by decide) ?_
  refine n_newa (q := 18) (ty := .long) (atype := .long) 3 (32, .inr (.inl (fun _ => 0))) wa_long rfl (fun _ h => by cases h) (fun _ => rfl) (fun _ => rfl) (by decide) rfl (Nat.le_of_ble_eq_true rfl) C (by decide) (by decide) dX5_init_16 rfl (fun q2 => ?_)
  refine n_ws (ws' := [(h0, .inr (5, [.ref q1, .null, .int 0, .int 0, .int 0, .int 0, .int 0, .long 0, .int 0, .int 0, .int 0, .int 0])), (q1, .inl (cA 1, 900, .inl (fun _ => 0))), (q2, .inl (cA 3, 32, .inr (.inl (fun _ => 0))))]) rfl ?_
  refine n_putF (ty := (.array .long)) (q := 21) 0 1 [(h0, .inr (5, [.ref q1, .ref q2, .int 0, .int 0, .int 0, .int 0, .int 0, .long 0, .int 0, .int 0, .int 0, .int 0])), (q1, .inl (cA 1, 900, .inl (fun _ => 0))), (q2, .inl (cA 3, 32, .inr (.inl (fun _ => 0))))] KX5 rfl (by decide) wf_X5_15 rfl rfl (by decide +kernel) rfl rfl (Nat.le_of_ble_eq_true rfl) rfl (by decide) C dX5_init_18 rfl ?_
  obtain ⟨st1, e1, g1⟩ := pt_X5_init
  refine n_toFE (fun _ _ j => [h0, q1, q2].getD j 0) (fun c => if c = 5 then 1 else 0) (f_X5_init_t (fz)) rfl hsz rfl (fun i hi => absurd hi (Nat.not_lt_zero i)) e1 ?_ (by decide) (by decide) (by decide) C hE (fun hE C => t_X5_init _ _ (Nat.le_of_ble_eq_true rfl) hE C _)
  exact g1 cA h0 q1 q2
