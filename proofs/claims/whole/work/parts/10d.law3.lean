
set_option maxHeartbeats 4000000 in
set_option maxRecDepth 100000 in
theorem lw_alloc8 {R : fSt → Prop} (S : SIM_8 R) {Z : State → Prop} {b L : Nat} {xs : Nat → Int32} {l : Launch} {D : va_G} {cA : Nat → ClassId} {ad : Nat → Nat → Nat → Nat} {N : Nat → Nat} {p : Program} {e : Env} {R0 : Room} {s : State} {m : MethodId} {args : Array Value} {below : List Frame} {meth : Method} {c : Code} {H0 : Heap} {A : Nat → Prop} {cells slots : Nat} (hAz : ∀ q, H0.size ≤ q → A q) (hN : fNx (l, D, cA, ad, N)) (hM : fNm (l, D, cA, ad, N)) (C : fC (l, D, cA, ad, N) (p, e, R0, s, m, args, below, meth, c, H0, A, cells, slots) cL_law RL 4 (some .boolean) 21) (hX : lX b L xs (p, e, R0, s, m, args, below, meth, c, H0, A, cells, slots)) (i : Int32) (h1 : 0 ≤ i + (1 : Int32) ∧ (i + (1 : Int32)).toNatClampNeg < L) (hc1 : cells + 15 ≤ R0.cells) (hc2 : slots + 180 ≤ R0.slots) {st : fSt} (hR : R st)
    (J : ∀ ad' N', fNx (l, D, cA, ad', N') → fNm (l, D, cA, ad', N') → fC (l, D, cA, ad', N') (p, e, R0, s, m, args, below, meth, c, H0, A, cells + 15, slots + 180) cL_law RL 4 (some .boolean) 21 → ∀ s', R s' → lwJ (l, D, cA, ad', N') (p, e, R0, s, m, args, below, meth, c, H0, A, cells + 15, slots + 180) b i Z s') :
    fW (l, D, cA, ad, N) (p, e, R0, s, m, args, below, meth, c, H0, A, cells, slots) 4 (fun (_ : Unit) (_ : fSt) => Z) 541 [(0, .ref b), (1, .ref (fad (l, D, cA, ad, N) 11 0 0)), (2, .ref (fad (l, D, cA, ad, N) 12 0 0)), (3, .int i)] [] st (fE st) := by
  have n2 : N 2 = 4 := hN.2.2.1
  have n11 : N 11 = 1 := hN.2.2.2.2.2.2.2.2.2
  have n12 : N 12 = 1 := hM
  have hpk : (fPok N st → fW (l, D, cA, ad, N) (p, e, R0, s, m, args, below, meth, c, H0, A, cells, slots) 4 (fun (_ : Unit) (_ : fSt) => Z) 541 [(0, .ref b), (1, .ref (fad (l, D, cA, ad, N) 11 0 0)), (2, .ref (fad (l, D, cA, ad, N) 12 0 0)), (3, .int i)] [] st (fE st)) → fW (l, D, cA, ad, N) (p, e, R0, s, m, args, below, meth, c, H0, A, cells, slots) 4 (fun (_ : Unit) (_ : fSt) => Z) 541 [(0, .ref b), (1, .ref (fad (l, D, cA, ad, N) 11 0 0)), (2, .ref (fad (l, D, cA, ad, N) 12 0 0)), (3, .int i)] [] st (fE st) := fun h r st' hk H locs ls hl hR hS => h hR.2 r st' hk H locs ls hl hR hS
  refine hpk (fun hP => ?_)
  obtain ⟨rb, s1, s2, e1, e2, hR2⟩ := S (N 7) (xs (i + (1 : Int32)).toNatClampNeg) st hR (fun j hj => (hP j (by omega)).1)
  refine r_aload_n (q := 542) (i := 1) (z := 1) C dL_law_541 rfl rfl rfl ?_
  refine r_aload_n (q := 543) (i := 0) (z := 0) C dL_law_542 rfl rfl rfl ?_
  refine r_iload_n (q := 544) (i := 3) (z := 3) C dL_law_543 rfl rfl rfl ?_
  refine r_iconst (q := 545) (v := 1) C dL_law_544 rfl (by decide) ?_
  refine r_iadd (q := 546) C dL_law_545 rfl ?_
  suffices K : fW (l, D, cA, ad, N) (p, e, R0, s, m, args, below, meth, c, H0, A, cells, slots) 4 (fun (_ : Unit) (_ : fSt) => Z) 547 [(0, .ref b), (1, .ref (fad (l, D, cA, ad, N) 11 0 0)), (2, .ref (fad (l, D, cA, ad, N) 12 0 0)), (3, .int i)] [.int (xs (i + (1 : Int32)).toNatClampNeg), .ref (fad (l, D, cA, ad, N) 11 0 0)] st (fE st) by
    have K' := r_sld (q := 547) hX C dL_law_546 rfl K
    rw [fIx_in h1] at K'
    exact K'
  refine r_callMa (q := 550) (As := [.int (xs (i + (1 : Int32)).toNatClampNeg)]) (stk := []) wm_L_54 yvX11_stage (c_X11_stage (l, D, cA, ad, N) hN (xs (i + (1 : Int32)).toNatClampNeg) st) e1 rfl C hAz (by omega) (by decide) hc1 hc2 rfl (Nat.le_of_ble_eq_true rfl) dL_law_547 rfl (fun ad' N' k1 k2 k3 k4 => ?_)
  have hN' : fNx (l, D, cA, ad', N') := by
    rcases k2 with rfl | rfl
    · exact hN
    · exact hN
  have hM' : fNm (l, D, cA, ad', N') := by
    rcases k2 with rfl | rfl
    · exact hM
    · exact hM
  obtain ⟨hx, hb, hml, hown, hts, hK, hI, hA, hr, hlk, hf1, hf2, hcc1, hcc2, h00, hNs⟩ := C
  have C' : fC (l, D, cA, ad', N') (p, e, R0, s, m, args, below, meth, c, H0, A, cells + 15, slots + 180) cL_law RL 4 (some .boolean) 21 := ⟨hx, hb, hml, hown, hts, hK, k3, k4, hr, hlk, hf1, hf2, hc1, hc2, h00, hNs⟩
  have T := lw_use (tl_8 (l, D, cA, ad', N') (p, e, R0, s, m, args, below, meth, c, H0, A, cells + 15, slots + 180) hN' hM' C' hX i (fun s => lwE s) rb s1) (fl_8_ok h1 e2) (J ad' N' hN' hM' C' s2 hR2)
  have e11 : fad (l, D, cA, ad', N') 11 0 0 = fad (l, D, cA, ad, N) 11 0 0 := k1 11 0 0 (by omega)
  have e12 : fad (l, D, cA, ad', N') 12 0 0 = fad (l, D, cA, ad, N) 12 0 0 := k1 12 0 0 (by omega)
  rw [e11, e12] at T
  exact T

set_option maxHeartbeats 4000000 in
set_option maxRecDepth 100000 in
theorem lw_alloc9 {R : fSt → Prop} (S : SIM_9 R) {Z : State → Prop} {b L : Nat} {xs : Nat → Int32} {l : Launch} {D : va_G} {cA : Nat → ClassId} {ad : Nat → Nat → Nat → Nat} {N : Nat → Nat} {p : Program} {e : Env} {R0 : Room} {s : State} {m : MethodId} {args : Array Value} {below : List Frame} {meth : Method} {c : Code} {H0 : Heap} {A : Nat → Prop} {cells slots : Nat} (hAz : ∀ q, H0.size ≤ q → A q) (hN : fNx (l, D, cA, ad, N)) (hM : fNm (l, D, cA, ad, N)) (C : fC (l, D, cA, ad, N) (p, e, R0, s, m, args, below, meth, c, H0, A, cells, slots) cL_law RL 4 (some .boolean) 21) (hX : lX b L xs (p, e, R0, s, m, args, below, meth, c, H0, A, cells, slots)) (i : Int32) (h1 : 0 ≤ i + (1 : Int32) ∧ (i + (1 : Int32)).toNatClampNeg < L) (hc1 : cells + 6 ≤ R0.cells) (hc2 : slots + 251 ≤ R0.slots) {st : fSt} (hR : R st)
    (J : ∀ ad' N', fNx (l, D, cA, ad', N') → fNm (l, D, cA, ad', N') → fC (l, D, cA, ad', N') (p, e, R0, s, m, args, below, meth, c, H0, A, cells + 6, slots + 251) cL_law RL 4 (some .boolean) 21 → ∀ s', R s' → lwJ (l, D, cA, ad', N') (p, e, R0, s, m, args, below, meth, c, H0, A, cells + 6, slots + 251) b i Z s') :
    fW (l, D, cA, ad, N) (p, e, R0, s, m, args, below, meth, c, H0, A, cells, slots) 4 (fun (_ : Unit) (_ : fSt) => Z) 564 [(0, .ref b), (1, .ref (fad (l, D, cA, ad, N) 11 0 0)), (2, .ref (fad (l, D, cA, ad, N) 12 0 0)), (3, .int i)] [] st (fE st) := by
  have n2 : N 2 = 4 := hN.2.2.1
  have n11 : N 11 = 1 := hN.2.2.2.2.2.2.2.2.2
  have n12 : N 12 = 1 := hM
  have hpk : (fPok N st → fW (l, D, cA, ad, N) (p, e, R0, s, m, args, below, meth, c, H0, A, cells, slots) 4 (fun (_ : Unit) (_ : fSt) => Z) 564 [(0, .ref b), (1, .ref (fad (l, D, cA, ad, N) 11 0 0)), (2, .ref (fad (l, D, cA, ad, N) 12 0 0)), (3, .int i)] [] st (fE st)) → fW (l, D, cA, ad, N) (p, e, R0, s, m, args, below, meth, c, H0, A, cells, slots) 4 (fun (_ : Unit) (_ : fSt) => Z) 564 [(0, .ref b), (1, .ref (fad (l, D, cA, ad, N) 11 0 0)), (2, .ref (fad (l, D, cA, ad, N) 12 0 0)), (3, .int i)] [] st (fE st) := fun h r st' hk H locs ls hl hR hS => h hR.2 r st' hk H locs ls hl hR hS
  refine hpk (fun hP => ?_)
  obtain ⟨rb, s1, s2, e1, e2, hR2⟩ := S (N 9) (xs (i + (1 : Int32)).toNatClampNeg) st hR (fun j hj => (hP j (by omega)).2)
  refine r_aload_n (q := 565) (i := 1) (z := 1) C dL_law_564 rfl rfl rfl ?_
  refine r_aload_n (q := 566) (i := 0) (z := 0) C dL_law_565 rfl rfl rfl ?_
  refine r_iload_n (q := 567) (i := 3) (z := 3) C dL_law_566 rfl rfl rfl ?_
  refine r_iconst (q := 568) (v := 1) C dL_law_567 rfl (by decide) ?_
  refine r_iadd (q := 569) C dL_law_568 rfl ?_
  suffices K : fW (l, D, cA, ad, N) (p, e, R0, s, m, args, below, meth, c, H0, A, cells, slots) 4 (fun (_ : Unit) (_ : fSt) => Z) 570 [(0, .ref b), (1, .ref (fad (l, D, cA, ad, N) 11 0 0)), (2, .ref (fad (l, D, cA, ad, N) 12 0 0)), (3, .int i)] [.int (xs (i + (1 : Int32)).toNatClampNeg), .ref (fad (l, D, cA, ad, N) 11 0 0)] st (fE st) by
    have K' := r_sld (q := 570) hX C dL_law_569 rfl K
    rw [fIx_in h1] at K'
    exact K'
  refine r_callMa (q := 573) (As := [.int (xs (i + (1 : Int32)).toNatClampNeg)]) (stk := []) wm_L_59 yvX11_week (c_X11_week (l, D, cA, ad, N) hN (xs (i + (1 : Int32)).toNatClampNeg) st) e1 rfl C hAz (by omega) (by decide) hc1 hc2 rfl (Nat.le_of_ble_eq_true rfl) dL_law_570 rfl (fun ad' N' k1 k2 k3 k4 => ?_)
  have hN' : fNx (l, D, cA, ad', N') := by
    rcases k2 with rfl | rfl
    · exact hN
    · exact hN
  have hM' : fNm (l, D, cA, ad', N') := by
    rcases k2 with rfl | rfl
    · exact hM
    · exact hM
  obtain ⟨hx, hb, hml, hown, hts, hK, hI, hA, hr, hlk, hf1, hf2, hcc1, hcc2, h00, hNs⟩ := C
  have C' : fC (l, D, cA, ad', N') (p, e, R0, s, m, args, below, meth, c, H0, A, cells + 6, slots + 251) cL_law RL 4 (some .boolean) 21 := ⟨hx, hb, hml, hown, hts, hK, k3, k4, hr, hlk, hf1, hf2, hc1, hc2, h00, hNs⟩
  have T := lw_use (tl_9 (l, D, cA, ad', N') (p, e, R0, s, m, args, below, meth, c, H0, A, cells + 6, slots + 251) hN' hM' C' hX i (fun s => lwE s) rb s1) (fl_9_ok h1 e2) (J ad' N' hN' hM' C' s2 hR2)
  have e11 : fad (l, D, cA, ad', N') 11 0 0 = fad (l, D, cA, ad, N) 11 0 0 := k1 11 0 0 (by omega)
  have e12 : fad (l, D, cA, ad', N') 12 0 0 = fad (l, D, cA, ad, N) 12 0 0 := k1 12 0 0 (by omega)
  rw [e11, e12] at T
  exact T

theorem lw_head {a L : Nat} (hL : L ≤ 3072) (ha : a ≤ L + 5) : Int32.ofNat L - 6 < nI a ↔ ¬ a + 6 ≤ L := by
  have h6 : (6 : Int32) = nI 6 := rfl
  have e : (Int32.ofNat L - 6 : Int32).toInt = (L : Int) - 6 := by
    rw [show Int32.ofNat L - 6 = Int32.ofInt ((L : Int) - 6) by rw [Int32.ofInt_sub, Int32.ofInt_eq_ofNat]; rfl]
    exact Int32.toInt_ofInt_of_le (by omega) (by omega)
  rw [Int32.lt_iff_toInt_lt, e, nI_toInt (by omega)]
  omega
set_option maxHeartbeats 4000000 in
set_option maxRecDepth 100000 in
theorem law_loop {R : fSt → Prop} (S : SIM R) {Z : State → Prop} {b L : Nat} {xs : Nat → Int32} (hL : L ≤ 3072) {l : Launch} {D : va_G} {cA : Nat → ClassId} {p : Program} {e : Env} {R0 : Room} {s : State} {m : MethodId} {args : Array Value} {below : List Frame} {meth : Method} {c : Code} {H0 : Heap} {A : Nat → Prop} (hAz : ∀ q, H0.size ≤ q → A q) {mc ms : Nat} (hmc : mc ≤ R0.cells) (hms : ms ≤ R0.slots)
    (hEnd : ∀ ad N cells slots st, cells ≤ mc → slots ≤ ms → fW (l, D, cA, ad, N) (p, e, R0, s, m, args, below, meth, c, H0, A, cells, slots) 4 (fun (_ : Unit) (_ : fSt) => Z) 1487 [] [] st (fE st)) : ∀ n t, t + n = 513 → ∀ ad N cells slots st, fNx (l, D, cA, ad, N) → fNm (l, D, cA, ad, N) → 6 * t ≤ L + 5 → R st → cells + 15 * n ≤ mc → slots + 251 * n ≤ ms → fC (l, D, cA, ad, N) (p, e, R0, s, m, args, below, meth, c, H0, A, cells, slots) cL_law RL 4 (some .boolean) 21 → lX b L xs (p, e, R0, s, m, args, below, meth, c, H0, A, cells, slots) → fW (l, D, cA, ad, N) (p, e, R0, s, m, args, below, meth, c, H0, A, cells, slots) 4 (fun (_ : Unit) (_ : fSt) => Z) 18 [(0, .ref b), (1, .ref (fad (l, D, cA, ad, N) 11 0 0)), (2, .ref (fad (l, D, cA, ad, N) 12 0 0)), (3, .int (nI (6 * t)))] [] st (fE st) := by
  intro n
  induction n with
  | zero => intro t ht ad N cells slots st hN hM h6; omega
  | succ n ih =>
    intro t ht ad N cells slots st hN hM h6 hR hc1 hc2 C hX
    refine r_iload_n (q := 19) (i := 3) (z := 3) C dL_law_18 rfl rfl rfl ?_
    refine r_aload_n (q := 20) (i := 0) (z := 0) C dL_law_19 rfl rfl rfl ?_
    refine r_slen (q := 21) hX C dL_law_20 rfl ?_
    refine r_bipush (q := 23) (v := 6) C dL_law_21 rfl (by decide) ?_
    refine r_isub (q := 24) C dL_law_23 rfl ?_
    by_cases hh : Int32.ofNat L - (6 : Int32) < nI (6 * t)
    · have K := r_icmp_gt (x := nI (6 * t)) (y := Int32.ofNat L - 6) (q := 27) (tgt := 1487) (k1 := fE st) (k2 := none) C dL_law_24 (by decide) rfl (r_locs (lc' := []) (lc := [(0, .ref b), (1, .ref (fad (l, D, cA, ad, N) 11 0 0)), (2, .ref (fad (l, D, cA, ad, N) 12 0 0)), (3, .int (nI (6 * t)))]) [] rfl (hEnd ad N cells slots st (by omega) (by omega))) r_none
      rw [if_pos hh] at K
      exact K
    have hlt : 6 * t + 6 ≤ L := by
      have := (not_congr (lw_head hL h6)).mp hh
      omega
    have h0 := lw_in (a := 6 * t) (c := 0) (L := L) (by omega) hL
    have h1 : 0 ≤ nI (6 * t) + (1 : Int32) ∧ (nI (6 * t) + (1 : Int32)).toNatClampNeg < L := lw_in (a := 6 * t) (c := 1) (L := L) (by omega) hL
    have h2 : 0 ≤ nI (6 * t) + (2 : Int32) ∧ (nI (6 * t) + (2 : Int32)).toNatClampNeg < L := lw_in (a := 6 * t) (c := 2) (L := L) (by omega) hL
    have h3 : 0 ≤ nI (6 * t) + (3 : Int32) ∧ (nI (6 * t) + (3 : Int32)).toNatClampNeg < L := lw_in (a := 6 * t) (c := 3) (L := L) (by omega) hL
    have h4 : 0 ≤ nI (6 * t) + (4 : Int32) ∧ (nI (6 * t) + (4 : Int32)).toNatClampNeg < L := lw_in (a := 6 * t) (c := 4) (L := L) (by omega) hL
    have h5 : 0 ≤ nI (6 * t) + (5 : Int32) ∧ (nI (6 * t) + (5 : Int32)).toNatClampNeg < L := lw_in (a := 6 * t) (c := 5) (L := L) (by omega) hL
    rw [nI_add, Nat.add_zero] at h0
    have J : ∀ ad' N' cells' slots', fNx (l, D, cA, ad', N') → fNm (l, D, cA, ad', N') → cells' + 15 * n ≤ mc → slots' + 251 * n ≤ ms → fC (l, D, cA, ad', N') (p, e, R0, s, m, args, below, meth, c, H0, A, cells', slots') cL_law RL 4 (some .boolean) 21 → ∀ s', R s' → lwJ (l, D, cA, ad', N') (p, e, R0, s, m, args, below, meth, c, H0, A, cells', slots') b (nI (6 * t)) Z s' := by
      intro ad' N' cells' slots' hN' hM' hc1' hc2' C' s' hR'
      unfold lwJ
      have K := r_iinc (k := fun x' => if x' = nI (6 * t) + 6 then fE s' else none) (q := 1484) (z := 3) (d := 6) (st := s') (stk := []) (nL := 4) (lc := [(0, .ref b), (1, .ref (fad (l, D, cA, ad', N') 11 0 0)), (2, .ref (fad (l, D, cA, ad', N') 12 0 0)), (3, .int (nI (6 * t)))]) (Q := fun (_ : Unit) (_ : fSt) => Z) [(0, .ref b), (1, .ref (fad (l, D, cA, ad', N') 11 0 0)), (2, .ref (fad (l, D, cA, ad', N') 12 0 0))] C' dL_law_1481 rfl rfl (by decide) (by decide) rfl (fun x' => by
        by_cases hx' : x' = nI (6 * t) + 6
        · rw [if_pos hx']
          subst hx'
          refine r_goto (q := 18) C' dL_law_1484 (by decide) ?_
          refine r_locs (lc' := [(0, .ref b), (1, .ref (fad (l, D, cA, ad', N') 11 0 0)), (2, .ref (fad (l, D, cA, ad', N') 12 0 0)), (3, .int (nI (6 * t) + 6))]) [1, 2, 3, 0] rfl ?_
          have T := ih (t + 1) (by omega) ad' N' cells' slots' s' hN' hM' (by omega) hR' hc1' hc2' C' hX
          have e6 : nI (6 * t) + (6 : Int32) = nI (6 * (t + 1)) := nI_add (6 * t) 6
          rw [e6]
          exact T
        · rw [if_neg hx']
          exact r_none)
      have e : fLt (nI (6 * t) + 6) (fun x' => if x' = nI (6 * t) + 6 then fE s' else none) = fE s' := if_pos rfl
      rw [e] at K
      exact K
    have C0 := C
    obtain ⟨hx, hb, hml, hown, hts, hK, hI, hA, hr, hlk, hf1, hf2, hcc1, hcc2, h00, hNs⟩ := C0
    have K2 : fW (l, D, cA, ad, N) (p, e, R0, s, m, args, below, meth, c, H0, A, cells, slots) 4 (fun (_ : Unit) (_ : fSt) => Z) 27 [(0, .ref b), (1, .ref (fad (l, D, cA, ad, N) 11 0 0)), (2, .ref (fad (l, D, cA, ad, N) 12 0 0)), (3, .int (nI (6 * t)))] [] st (fE st) := by
      refine r_aload_n (q := 28) (i := 0) (z := 0) C dL_law_27 rfl rfl rfl ?_
      refine r_iload_n (q := 29) (i := 3) (z := 3) C dL_law_28 rfl rfl rfl ?_
      suffices K3 : fW (l, D, cA, ad, N) (p, e, R0, s, m, args, below, meth, c, H0, A, cells, slots) 4 (fun (_ : Unit) (_ : fSt) => Z) 30 [(0, .ref b), (1, .ref (fad (l, D, cA, ad, N) 11 0 0)), (2, .ref (fad (l, D, cA, ad, N) 12 0 0)), (3, .int (nI (6 * t)))] [.int (xs (nI (6 * t)).toNatClampNeg)] st (fE st) by
        have K' := r_sld (q := 30) hX C dL_law_29 rfl K3
        rw [fIx_in h0] at K'
        exact K'
      refine r_bipush (q := 32) (v := 63) C dL_law_30 rfl (by decide) ?_
      refine r_iand (q := 33) C dL_law_32 rfl ?_
      have S0 := S
      obtain ⟨S0, S1, S2, S3, S4, S5, S6, S7, S8, S9, -⟩ := S0
      exact lw_case S (l, D, cA, ad, N) (p, e, R0, s, m, args, below, meth, c, H0, A, cells, slots) hN hM C hX (nI (6 * t)) h1 h2 h3 h4 h5 hR (J ad N cells slots hN hM (by omega) (by omega) C) (lw_alloc8 S8 hAz hN hM C hX (nI (6 * t)) h1 (by omega) (by omega) hR (fun ad' N' a1 a2 a3 => J ad' N' (cells + 15) (slots + 180) a1 a2 (by omega) (by omega) a3)) (lw_alloc9 S9 hAz hN hM C hX (nI (6 * t)) h1 (by omega) (by omega) hR (fun ad' N' a1 a2 a3 => J ad' N' (cells + 6) (slots + 251) a1 a2 (by omega) (by omega) a3)) _
    have K := r_icmp_gt (x := nI (6 * t)) (y := Int32.ofNat L - 6) (q := 27) (tgt := 1487) (k1 := none) (k2 := fE st) C dL_law_24 (by decide) rfl r_none K2
    rw [if_neg hh] at K
    exact K
