/-! the law: its rows -/
def lX (b L : Nat) (xs : Nat → Int32) (Γ : fGm) : Prop := match Γ with
  | (_, _, _, s, _, _, _, _, _, H0, A, _, _) => H0 = s.heap ∧ va_X b L xs s H0 ∧ b < H0.size ∧ ¬ A b
theorem r_sld {α : Type} {Δ : fDl} {Γ : fGm} {nL : Nat} {Q : α → fSt → State → Prop} {cc : ByteArray} {own : String} {ret : Option FieldType} {lev pc q : Nat} {lc : List (Nat × Value)} {stk : List Value} {st : fSt} {k : Option (α × fSt)} {b L : Nat} {xs : Nat → Int32} {x : Int32} (X : lX b L xs Γ) (C : fC Δ Γ cc own nL ret lev) (hd : decode cc pc = .ok (.iaload, 1)) (hq : pc + 1 = q)
    (K : fW Δ Γ nL Q q lc (.int (xs x.toNatClampNeg) :: stk) st k) : fW Δ Γ nL Q pc lc (.int x :: .ref b :: stk) st (fIx x L k) := by
  subst hq
  obtain ⟨l, D, cA, ad, N⟩ := Δ
  obtain ⟨p, e, R, s, m, args, below, meth, c, H0, A, cells, slots⟩ := Γ
  obtain ⟨hx, hb, hml, hown, hts, hK, hI, hA, hr, hlk, hf1, hf2, hc1, hc2, h00, hNs⟩ := C
  obtain ⟨X0, X1, X2, X3⟩ := X
  intro r st' hk H locs ls hl hR hS
  obtain ⟨hin, hk⟩ := fIx_some hk
  exact va_sld hx hb X1 X2 X3 hS hin hd (K r st' hk H locs ls hl hR hS)
theorem r_slen {α : Type} {Δ : fDl} {Γ : fGm} {nL : Nat} {Q : α → fSt → State → Prop} {cc : ByteArray} {own : String} {ret : Option FieldType} {lev pc q : Nat} {lc : List (Nat × Value)} {stk : List Value} {st : fSt} {k : Option (α × fSt)} {b L : Nat} {xs : Nat → Int32} (X : lX b L xs Γ) (C : fC Δ Γ cc own nL ret lev) (hd : decode cc pc = .ok (.arraylength, 1)) (hq : pc + 1 = q)
    (K : fW Δ Γ nL Q q lc (.int (Int32.ofNat L) :: stk) st k) : fW Δ Γ nL Q pc lc (.ref b :: stk) st k := by
  subst hq
  obtain ⟨l, D, cA, ad, N⟩ := Δ
  obtain ⟨p, e, R, s, m, args, below, meth, c, H0, A, cells, slots⟩ := Γ
  obtain ⟨hx, hb, hml, hown, hts, hK, hI, hA, hr, hlk, hf1, hf2, hc1, hc2, h00, hNs⟩ := C
  obtain ⟨X0, X1, X2, X3⟩ := X
  intro r st' hk H locs ls hl hR hS
  exact va_slen hx hb X1 X2 X3 hS hd (K r st' hk H locs ls hl hR hS)
theorem n_astore_n {Γ : nGm} {nL cells slots pc q lev mc ms : Nat} {Q : State → Prop} {cc : ByteArray} {own : String} {lc : List (Nat × Value)} {stk : List Value} {ws : va_W} {n : Fin 4} {i x : Nat} (lr : List (Nat × Value)) (C : nC Γ cc own nL lev mc ms) (hd : decode cc pc = .ok (.astore_n n, 1)) (hq : pc + 1 = q) (hi : (n : Nat) = i) (hn : i < nL) (hlc : lc.filter (fun q => !(q.1 == i) && !(q.1 + 1 == i && q.2.category == 2)) = lr)
    (K : nW Γ nL Q cells slots q ((i, .ref x) :: lr) stk ws) : nW Γ nL Q cells slots pc lc (.ref x :: stk) ws := by
  subst hq
  subst hlc
  obtain ⟨l, D, cA, p, e, R, s, m, args, below, meth, c, H0, A⟩ := Γ
  obtain ⟨hx, hb, hml, hown, hts, hK, hr, hlk, hin, hf1, hf2, hm1, hm2, h00, hNs, hA⟩ := C
  intro H locs ls hl hP hD hS
  exact lv_astore_n hx hb hd hi hl hn rfl (fun ls hl => K H locs ls hl hP hD hS)
def fE (s : fSt) : Option (Unit × fSt) := some ((), s)
def lwJ (Δ : fDl) (Γ : fGm) (b : Nat) (i : Int32) (Z : State → Prop) (st : fSt) : Prop := fW Δ Γ 4 (fun (_ : Unit) (_ : fSt) => Z) 1481 [(0, .ref b), (1, .ref (fad Δ 11 0 0)), (2, .ref (fad Δ 12 0 0)), (3, .int i)] [] st (fE st)
def lwQ (Δ : fDl) (Γ : fGm) (b : Nat) (i : Int32) (Z : State → Prop) : Unit → fSt → State → Prop := fun _ s' t => lwJ Δ Γ b i Z s' → Z t
theorem lwE {Δ : fDl} {Γ : fGm} {b : Nat} {i : Int32} {Z : State → Prop} (s : fSt) : fW Δ Γ 4 (lwQ Δ Γ b i Z) 1481 [(0, .ref b), (1, .ref (fad Δ 11 0 0)), (2, .ref (fad Δ 12 0 0)), (3, .int i)] [] s (fE s) := by
  by_cases h : lwJ Δ Γ b i Z s
  · have h' := h
    unfold lwJ at h'
    obtain ⟨l, D, cA, ad, N⟩ := Δ
    obtain ⟨p, e, R, s0, m, args, below, meth, c, H0, A, cells, slots⟩ := Γ
    intro r st' hk H locs ls hl hR hS
    exact W_mono (fun t ht _ => ht) (h' r st' hk H locs ls hl hR hS)
  · have h' := h
    obtain ⟨l, D, cA, ad, N⟩ := Δ
    obtain ⟨p, e, R, s0, m, args, below, meth, c, H0, A, cells, slots⟩ := Γ
    intro r st' hk H locs ls hl hR hS T hT X
    cases hk
    exact ⟨_, Steps.refl _, fun q => absurd q h'⟩
theorem lw_use {Δ : fDl} {Γ : fGm} {b pc : Nat} {i : Int32} {Z : State → Prop} {lc : List (Nat × Value)} {stk : List Value} {st st' : fSt} {k : Option (Unit × fSt)} (h : fW Δ Γ 4 (lwQ Δ Γ b i Z) pc lc stk st k) (hk : k = some ((), st')) (J : lwJ Δ Γ b i Z st') : fW Δ Γ 4 (fun (_ : Unit) (_ : fSt) => Z) pc lc stk st (fE st) := by
  obtain ⟨l, D, cA, ad, N⟩ := Δ
  obtain ⟨p, e, R, s0, m, args, below, meth, c, H0, A, cells, slots⟩ := Γ
  intro r s2 _ H locs ls hl hR hS
  exact W_mono (fun t ht => ht J) (h () st' hk H locs ls hl hR hS)
/-- a call that may make an object, from the law -/
theorem r_callMa {l : Launch} {D : va_G} {cA : Nat → ClassId} {ad : Nat → Nat → Nat → Nat} {N : Nat → Nat} {p : Program} {e : Env} {R : Room} {s : State} {m : MethodId} {args : Array Value} {below : List Frame} {meth : Method} {c : Code} {H0 : Heap} {A : Nat → Prop} {cells slots nL : Nat} {Z : State → Prop} {cc : ByteArray} {own : String} {ret : Option FieldType} {lev pc q : Nat} {lc : List (Nat × Value)} {stk : List Value} {st : fSt} {o : Option (Int32 × fSt)} {y : MethodName} {cb : ByteArray} {maxL lev' mc ms c0 n0 ix : Nat} {As stk0 : List Value} {T0 : u_T} {rb : Int32} {stb : fSt} (hl0 : Cond.methodLink own ix y ∈ fT) (Y : fYv y cb maxL (some .int) As.length) (hM : fMa (l, D, cA, ad, N) y cb maxL lev' mc ms c0 (.ref (ad 11 0 0) :: As) st o) (ho : o = some (rb, stb)) (hc0 : vwCl[11]? = some (y.cls, T0, n0)) (C : fC (l, D, cA, ad, N) (p, e, R, s, m, args, below, meth, c, H0, A, cells, slots) cc own nL ret lev) (hAz : ∀ q, H0.size ≤ q → A q) (hi : 0 < N 11) (hlev : lev' + 1 ≤ lev) (h1 : cells + mc ≤ R.cells) (h2 : slots + ms ≤ R.slots) (hst : stk0 = As.reverse ++ .ref (ad 11 0 0) :: stk) (hcat : (stk.map fun v => v.category).sum ≤ 8) (hd : decode cc pc = .ok (.invokevirtual ix, 3)) (hq : pc + 3 = q)
    (K : ∀ ad' N', (∀ c i j, i < N c → ad' c i j = ad c i j) → (N' = N ∨ N' = fNN N c0) → fInj ad' N' → (∀ q, fAd ad' N' q → A q) → fW (l, D, cA, ad', N') (p, e, R, s, m, args, below, meth, c, H0, A, cells + mc, slots + ms) nL (fun (_ : Unit) (_ : fSt) => Z) q lc (.int rb :: stk) stb (fE stb)) : fW (l, D, cA, ad, N) (p, e, R, s, m, args, below, meth, c, H0, A, cells, slots) nL (fun (_ : Unit) (_ : fSt) => Z) pc lc stk0 st (fE st) := by
  subst hq
  subst hst
  obtain ⟨hx, hb, hml, hown, hts, hK, hI, hA, hr, hlk, hf1, hf2, hc1, hc2, h00, hNs⟩ := C
  obtain ⟨Y1, Y2, Y3, Y4, Y5, Y6, Y7⟩ := Y
  intro r st' _ H locs ls hl hR hS
  obtain ⟨z, hz⟩ := List.getElem?_of_mem (fAll_mem.mpr ⟨by decide, hi, Nat.zero_le _⟩ : (11, 0, 0) ∈ fAll N)
  have hG : GoodIn fT (.code y cb maxL (some .int) :: fT) := fT_good (fun _ h => h) (fun w hw => by
    rcases List.mem_cons.mp hw with h | h
    · rw [h]; exact Y4
    · exact h)
  have hcb : CallB R s args own ix y cb maxL (some .int) (.code y cb maxL (some .int) :: fT) (nrm lev' mc ms) mc ms As.length := callB_of (Ts := fT) As.length hts hG rfl rfl rfl (hts _ Y3) (hts _ hl0) ⟨Y5.1, Y5.2, Y6⟩ ⟨by show lev' + 1 ≤ _; omega, by show 8 + (maxL + 11) + 64 * lev' ≤ _; omega⟩
  have hrun := va_runV (C := y.cls) (As := As) (rest := stk) (Ts := fT) (l := l) (p := p) (e := e) (below := below) (meth := meth) (locs := locs) (cells := cells) (slots := slots) (g := F0 m pc ls (As.reverse ++ .ref (ad 11 0 0) :: stk)) ⟨hx, hb, hml, hown, hts⟩ (hM rb stb ho hI H.size) ⟨hcb, hts _ Y1, hts _ Y2⟩ ⟨fun a U g mk q => ⟨q.1, q.2.1, q.2.2.1, va_K.moved (u := U) (U := U.calling g mk a) (Vm.Alike.refl U.vm) q.2.2.2.1, fNst_call q.2.2.2.2⟩, va_recv hK hR.1 (ci := 11) (q0 := z) hc0 (fWs_at hz), fun U hU hW => ⟨rfl, by rw [hU], by rw [hU]; exact hR, va_K.moved hW.alike hK, fNst_warm hW hNs⟩⟩ rfl rfl hl.1 rfl (lv_room hcat) hd ⟨h1, h2⟩
  have hfr : ∀ q, (fAd ad N q ∨ H.size ≤ q) → A q := fun q h => h.elim (hA q) (fun h => hAz q (Nat.le_trans hS.1 h))
  intro T hT X
  obtain ⟨v, st₀, t, T', L', g0, X', hL, e1, e2, ⟨hv, ⟨ad', N', k1, k2, k3, k4, k5⟩, hF⟩, sg⟩ := hrun T hT X
  cases hv
  obtain ⟨hz1, hkk⟩ := hF
  rw [g0] at hz1 hkk
  obtain ⟨t2, a1, b1⟩ := K ad' N' k1 k2 k3 (fun q hq => hfr q (k4 q hq)) () stb rfl T'.heap (locs ++ L') ls hl (by rw [e1]; exact k5) ⟨Nat.le_trans hS.1 (by rw [e1]; exact hz1), fun q h1 h2 => by rw [e1, hkk q (Nat.lt_of_lt_of_le h1 hS.1) (fun z => h2 (hfr q z))]; exact hS.2.1 q h1 h2, fun q hq => by
      rcases List.mem_append.mp hq with h | h
      · exact hS.2.2 q h
      · exact hfr _ (hL q h)⟩ T' rfl X'
  exact ⟨t2, sg t2 a1, b1⟩
