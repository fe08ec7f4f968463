/-! the same with the words' text at hand -/
def sTxt : String := "role actor pay breath not scene lines with ends then tear laugh sleep kills kind lots tears laughs sleeps play bar open buy spare when seen dead nights ended loop end stop "
def sE (aS aV : Nat) (A : Nat → Prop) (U : State) : Prop := sKo aS aV A U U.heap ∧ vk_R RX5 19 sTxt aS U
theorem sE_warm {aS aV : Nat} {A B : Nat → Prop} {s U : State} {H0 : Heap} {locs : List Loc} (h : sE aS aV A s) (h0 : H0 = s.heap) (hS : va_S A H0 U.heap locs) (hW : s.WarmedH U.vm) (hB : ∀ q, B q → A q) : sE aS aV B U := by
  subst h0
  exact ⟨((h.1.kept hS.2.1).moved hW.alike).narrow hB, vk_R.warm hW h.2⟩
theorem sE_call {aS aV : Nat} {A : Nat → Prop} {U : State} {g : JFrame} {mk : MethodId} {a : Array Value} (h : sE aS aV A U) : sE aS aV A (U.calling g mk a) := ⟨h.1.moved (u := U) (U := U.calling g mk a) (Vm.Alike.refl U.vm), vk_R.same rfl h.2⟩
/-- a constructor's contract: from the cells ws0 to cells of which B holds, mc more of ms slots -/
def nMe (aS aV : Nat) (l : Launch) (D : va_G) (cA : Nat → ClassId) (y : MethodName) (cb : ByteArray) (maxL lev mc ms sz : Nat) (av : List Value) (ws0 : va_W) (B : va_W → Prop) : Prop :=
  Met l y (.code y cb maxL none :: fT) (nrm lev mc ms) (va_Pc av (fun U => U.heap.size = sz ∧ va_P D vwCl ws0 U.heap ∧ va_K D vwCl (fTys cA) U ∧ fNst U ∧ sE aS aV (va_A ws0 sz) U ∧ va_D (fun _ => True) ws0)) (fun _ s0 oc t => oc = .returned none ∧ (∃ ws1, B ws1 ∧ va_P D vwCl ws1 t.heap ∧ va_D (va_A ws0 sz) ws1) ∧ va_F (va_A ws0 sz) s0 t) mc ms (va_A ws0 sz)
theorem n_methodE {aS aV : Nat} {l : Launch} {D : va_G} {cA : Nat → ClassId} {y : MethodName} {cb : ByteArray} {maxL lev mc ms sz : Nat} {av : List Value} {ws0 : va_W} {B : va_W → Prop} (hpl : plainName y.cls = true) (hnm : y.name = "<init>") (hlen : (lg_sl av).length ≤ maxL)
    (h : ∀ (Γ : nGm) (R : Room) (s : State) (hΓ : ∃ p e m args below meth c, Γ = (l, D, cA, p, e, R, s, m, args, below, meth, c, s.heap, va_A ws0 sz)), s.heap.size = sz → nC Γ cb y.cls maxL lev mc ms → sE aS aV (va_A ws0 sz) s → nW Γ maxL (nQ Γ mc ms sz ws0 B) 0 0 0 (lv_args 0 av) [] ws0) : nMe aS aV l D cA y cb maxL lev mc ms sz av ws0 B := by
  refine Met.ofW (cc := cb) (maxL := maxL) (ret := none) hpl rfl ?_
  intro p e s m args below meth c s₁ Bd hml hv
  obtain ⟨rfl, hsz, hP, hK, hNs, hE, hD⟩ := hv
  have hts := atoms_spec (ws := .code y cb maxL none :: fT) Bd.pre
  have hl := lv_entry av hlen
  rw [lg_entry_eq]
  have hin : meth.name = "<init>" := (name_of_methodNamed Bd.named Bd.method).1.trans hnm
  have hA : ∀ q : Nat, s.heap.size ≤ q → va_A ws0 sz q := fun q h => by rw [← hsz]; exact Or.inr h
  exact h (l, D, cA, p, e, nrm lev mc ms, s, m, av.toArray, below, meth, c, s.heap, va_A ws0 sz) _ s ⟨p, e, m, _, below, meth, c, rfl⟩ hsz ⟨Bd.exec, Bd.bytes, hml, findClass_of_methodNamed Bd.named, fun w hw => hts w (List.mem_cons_of_mem _ hw), hK, fun _ => Bd.returns, Bd.notSynchronized, fun _ => hin, Nat.le_refl _, Nat.le_refl _, Nat.le_refl _, Nat.le_refl _, rfl, hNs, hA⟩ hE s.heap [] _ hl hP hD.self va_S.rf
theorem nBlindE {aS aV : Nat} {D : va_G} {cA : Nat → ClassId} {sz : Nat} {ws0 : va_W} {av : List Value} : FrameBlind (va_Pc av (fun U => U.heap.size = sz ∧ va_P D vwCl ws0 U.heap ∧ va_K D vwCl (fTys cA) U ∧ fNst U ∧ sE aS aV (va_A ws0 sz) U ∧ va_D (fun _ => True) ws0)) := fun a U g mk q => ⟨q.1, q.2.1, q.2.2.1, va_K.moved (u := U) (U := U.calling g mk a) (Vm.Alike.refl U.vm) q.2.2.2.1, fNst_call q.2.2.2.2.1, sE_call q.2.2.2.2.2.1, q.2.2.2.2.2.2⟩
theorem n_callE {aS aV : Nat} {Γ : nGm} {nL cells slots pc q lev lev' mc ms mc' ms' ix maxL b : Nat} {Q : State → Prop} {cc cb : ByteArray} {own : String} {y : MethodName} {lc : List (Nat × Value)} {stk stk0 As : List Value} {ws wc wr : va_W} {B : va_W → Prop} (isC isR : List Nat) (hl0 : Cond.methodLink own ix y ∈ fT ∨ ∃ host, Cond.methodLinkNest own ix y host ∈ lw_tbl) (Y : nY y cb maxL As.length) (hM : ∀ (l : Launch) (D : va_G) (cA : Nat → ClassId) (sz : Nat), Γ.1 = l → Γ.2.1 = D → Γ.2.2.1 = cA → nMe aS aV l D cA y cb maxL lev' mc' ms' sz (.ref b :: As) wc B) (hc1 : isC.map (fun i => ws[i]?) = wc.map some) (hr1 : isR.map (fun i => ws[i]?) = wr.map some) (hn1 : va_nd isC = true) (hn2 : va_nd isR = true) (hdis : ∀ i ∈ isR, i ∉ isC) (C : nC Γ cc own nL lev mc ms) (hE : sE aS aV Γ.2.2.2.2.2.2.2.2.2.2.2.2.2 Γ.2.2.2.2.2.2.1) (hlev : lev' + 1 ≤ lev) (h1 : cells + mc' ≤ mc) (h2 : slots + ms' ≤ ms) (hst : stk0 = As.reverse ++ .ref b :: stk) (hcat : (stk.map fun v => v.category).sum ≤ 8) (hd : decode cc pc = .ok (.invokespecial ix, 3)) (hq : pc + 3 = q)
    (K : ∀ ws1, B ws1 → nW Γ nL Q (cells + mc') (slots + ms') q lc stk (wr ++ ws1)) : nW Γ nL Q cells slots pc lc stk0 ws := by
  subst hq
  subst hst
  obtain ⟨l, D, cA, p, e, R, s, m, args, below, meth, c, H0, A⟩ := Γ
  obtain ⟨hx, hb, hml, hown, hts, hK, hr, hlk, hin, hf1, hf2, hm1, hm2, h00, hNs, hA⟩ := C
  obtain ⟨Y1, Y3, Y4, Y5, Y6, Y7, Y8⟩ := Y
  intro H locs ls hl hP hD hS
  have hcs : isC.filterMap (fun i => ws[i]?) = wc := n_fm hc1
  have hPc := hP.sub isC hcs
  have hDc := hD.sub isC hn1 hc1
  have hFc := va_free (wc := wc) hD hS hA isC hc1
  have hR2 : (nrm lev' mc' ms').frames + 1 ≤ R.frames ∧ 8 + (maxL + 11) + (nrm lev' mc' ms').locals ≤ R.locals := ⟨by show lev' + 1 ≤ _; omega, by show 8 + (maxL + 11) + 64 * lev' ≤ _; omega⟩
  have hpre : PreS s H (va_Pc (.ref b :: As) (fun U => U.heap.size = H.size ∧ va_P D vwCl wc U.heap ∧ va_K D vwCl (fTys cA) U ∧ fNst U ∧ sE aS aV (va_A wc H.size) U ∧ va_D (fun _ => True) wc)) (.ref b :: As) := ⟨nBlindE, fun U hU hW => ⟨rfl, by rw [hU], by rw [hU]; exact hPc, va_K.moved hW.alike hK, fNst_warm hW hNs, sE_warm hE h00 (by rw [hU]; exact hS) hW hFc, hDc.weaken (fun _ _ _ _ => trivial)⟩⟩
  have hrun : va_Run p l e R s m args below meth c H locs cells slots mc' ms' (F0 m pc ls (As.reverse ++ .ref b :: stk)) stk (fun s0 oc t => oc = .returned none ∧ (∃ ws1, B ws1 ∧ va_P D vwCl ws1 t.heap ∧ va_D (va_A wc H.size) ws1) ∧ va_F (va_A wc H.size) s0 t) (va_A wc H.size) := by
    rcases hl0 with hl0 | ⟨host, hl0⟩
    · exact va_runI (As := As) (rest := stk) (Ts := fT) ⟨hx, hb, hml, hown, hts⟩ (hM l D cA H.size rfl rfl rfl) (cwI As.length hts (nG Y4) rfl rfl rfl (hts _ Y3) (hts _ hl0) (hts _ Y1) Y8 ⟨Y5.1, Y5.2, Y6⟩ hR2) hpre rfl rfl hl.1 rfl (lv_room hcat) hd ⟨by omega, by omega⟩
    · exact va_runIN (As := As) (rest := stk) (Ts := fT) ⟨hx, hb, hml, hown, hts⟩ (hM l D cA H.size rfl rfl rfl) ⟨va_cnB As.length hts (nG Y4) rfl rfl rfl (hNs.1 _ _ _ _ hl0) (hts _ Y3) ⟨Y5.1, Y5.2, Y6⟩ hR2, Y8, hts _ Y1⟩ hpre rfl rfl hl.1 rfl (lv_room hcat) hd ⟨by omega, by omega⟩
  intro T hT X
  obtain ⟨v, st₀, t, T', L, h0, X', hL, e1, e2, ⟨hv, ⟨ws1, hB, hP1, hD1⟩, hF⟩, st⟩ := hrun T hT X
  cases hv
  obtain ⟨hz, hkk⟩ := hF
  rw [h0] at hz hkk
  rw [← e1] at hz hkk hP1
  obtain ⟨hP2, hD2⟩ := va_join (wr := wr) hP hD isC isR hc1 hr1 hn2 hdis hkk hFc hP1 hD1
  obtain ⟨t2, a1, b1⟩ := K ws1 hB T'.heap (locs ++ L) ls hl hP2 hD2 ⟨Nat.le_trans hS.1 hz, fun q h1 h2 => by rw [hkk q (Nat.lt_of_lt_of_le h1 hS.1) (fun z => h2 (hFc q z))]; exact hS.2.1 q h1 h2, fun q hq => by
      rcases List.mem_append.mp hq with h | h
      · exact hS.2.2 q h
      · exact hFc _ (hL q h)⟩ T' rfl X'
  exact ⟨t2, st t2 a1, b1⟩
theorem n_toFE {aS aV : Nat} {l : Launch} {D : va_G} {cA : Nat → ClassId} {p : Program} {e : Env} {R : Room} {s : State} {m : MethodId} {args : Array Value} {below : List Frame} {meth : Method} {c : Code} {A0 : Nat → Prop} {nL pc sz lev mc ms cells slots : Nat} {cc : ByteArray} {own : String} {lc : List (Nat × Value)} {stk : List Value} {ws ws0 : va_W} {B : va_W → Prop} {st st' : fSt} (ad : Nat → Nat → Nat → Nat) (N : Nat → Nat) (k : Option (Unit × fSt)) (hA0 : A0 = va_A ws0 sz) (hsz : s.heap.size = sz) (hws : fWs cA ad N st = ws) (hpk : fPok N st) (hk : k = some ((), st')) (hB : B (fWs cA ad N st')) (h1 : cells ≤ mc) (h2 : slots ≤ ms) (ho : lev ≤ 7) (C : nC (l, D, cA, p, e, R, s, m, args, below, meth, c, s.heap, A0) cc own nL lev mc ms)
    (hE : sE aS aV A0 s) (K : sE aS aV A0 s → fC (l, D, cA, ad, N) (p, e, R, s, m, args, below, meth, c, s.heap, A0, mc, ms) cc own nL none lev → fW (l, D, cA, ad, N) (p, e, R, s, m, args, below, meth, c, s.heap, A0, mc, ms) nL (fQ eV (l, D, cA, ad, N) (p, e, R, s, m, args, below, meth, c, s.heap, A0, mc, ms)) pc lc stk st k) : nW (l, D, cA, p, e, R, s, m, args, below, meth, c, s.heap, A0) nL (nQ (l, D, cA, p, e, R, s, m, args, below, meth, c, s.heap, A0) mc ms sz ws0 B) cells slots pc lc stk ws := by
  refine n_widen h1 h2 ?_
  subst hws
  obtain ⟨hx, hb, hml, hown, hts, hK, hr, hlk, hin, hf1, hf2, hm1, hm2, h00, hNs, hA⟩ := C
  intro H locs ls hl hP hD hS
  have hI := fInj_of hD
  have hAd := fAd_of hD
  refine W_mono ?_ (K hE ⟨hx, hb, hml, hown, hts, hK, hI, hAd, hr ho, hlk, hf1, hf2, hm1, hm2, rfl, hNs⟩ () st' hk H locs ls hl ⟨hP, hpk⟩ hS)
  rintro t ⟨o, q1, q2, ⟨q3, q4, q5⟩, q6⟩
  subst hA0
  exact ⟨o, q1, q2, ⟨q3, ⟨_, hB, q4.1, fWs_D hI (fun q hq => hAd q hq)⟩, q5⟩, q6⟩
theorem n_vretE {aS aV : Nat} {Γ : nGm} {nL cells slots pc sz lev mc ms : Nat} {cc : ByteArray} {own : String} {lc : List (Nat × Value)} {ws ws0 : va_W} {B : va_W → Prop} (hΓ : ∃ l D cA p e R s m args below meth c, Γ = (l, D, cA, p, e, R, s, m, args, below, meth, c, s.heap, va_A ws0 sz)) (hc1 : cells ≤ mc) (hc2 : slots ≤ ms) (hB : B ws) (ho : lev ≤ 7) (C : nC Γ cc own nL lev mc ms) (hd : decode cc pc = .ok (.return_, 1)) : nW Γ nL (nQ Γ mc ms sz ws0 B) cells slots pc lc [] ws := n_vret hΓ hc1 hc2 hB ho C hd
theorem r_ldcS {α : Type} {Δ : fDl} {Γ : fGm} {nL : Nat} {Q : α → fSt → State → Prop} {cc : ByteArray} {ret : Option FieldType} {lev pc q : Nat} {lc : List (Nat × Value)} {stk : List Value} {st : fSt} {aS aV : Nat} {k : Option (α × fSt)} (S : sE aS aV Γ.2.2.2.2.2.2.2.2.2.2.1 Γ.2.2.2.1) (C : fC Δ Γ cc RX5 nL ret lev) (hd : decode cc pc = .ok (.ldc 19, 2)) (hq : pc + 2 = q)
    (K : fW Δ Γ nL Q q lc (.ref aS :: stk) st k) : fW Δ Γ nL Q pc lc stk st k := by
  subst hq
  obtain ⟨l, D, cA, ad, N⟩ := Δ
  obtain ⟨p, e, R, s, m, args, below, meth, c, H0, A, cells, slots⟩ := Γ
  obtain ⟨hx, hb, hml, hown, hts, hK, hI, hA, hr, hlk, hf1, hf2, hc1, hc2, h00, hNs⟩ := C
  intro r st' hk H locs ls hl hR hS
  exact va_ldcS hx hb hown S.2 hd (K r st' hk H locs ls hl hR hS)
theorem r_sLen {α : Type} {Δ : fDl} {Γ : fGm} {nL : Nat} {Q : α → fSt → State → Prop} {cc : ByteArray} {ret : Option FieldType} {lev pc q : Nat} {lc : List (Nat × Value)} {stk : List Value} {st : fSt} {aS aV : Nat} {k : Option (α × fSt)} (S : sE aS aV Γ.2.2.2.2.2.2.2.2.2.2.1 Γ.2.2.2.1) (hw : Cond.methodLink RX5 21 yJ0_length_8abf5 ∈ fT) (C : fC Δ Γ cc RX5 nL ret lev) (hlv : 3 ≤ lev) (hst : (stk.map fun v => v.category).sum ≤ 8) (hd : decode cc pc = .ok (.invokevirtual 21, 3)) (hq : pc + 3 = q)
    (K : fW Δ Γ nL Q q lc (.int 172 :: stk) st k) : fW Δ Γ nL Q pc lc (.ref aS :: stk) st k := by
  subst hq
  obtain ⟨l, D, cA, ad, N⟩ := Δ
  obtain ⟨p, e, R, s, m, args, below, meth, c, H0, A, cells, slots⟩ := Γ
  obtain ⟨hx, hb, hml, hown, hts, hK, hI, hA, hr, hlk, hf1, hf2, hc1, hc2, h00, hNs⟩ := C
  intro r st' hk H locs ls hl hR hS
  subst h00
  exact s_callV (As := []) hw yvJ0_length_8abf5 rfl (s_length l aS aV) hx hb hml hown hts hf1 hf2 hc1 hc2 ((S.1.kept hS.2.1).narrow (fun _ h => h.elim)) hl.1 hlv rfl hst hd (K r st' hk H locs ls hl hR hS)
theorem r_sCh {α : Type} {Δ : fDl} {Γ : fGm} {nL : Nat} {Q : α → fSt → State → Prop} {cc : ByteArray} {ret : Option FieldType} {lev pc q : Nat} {lc : List (Nat × Value)} {stk : List Value} {st : fSt} {aS aV : Nat} {k : Option (α × fSt)} {x : Int32} (S : sE aS aV Γ.2.2.2.2.2.2.2.2.2.2.1 Γ.2.2.2.1) (hw : Cond.methodLink RX5 27 yJ0_charAt_5068e ∈ fT) (C : fC Δ Γ cc RX5 nL ret lev) (hlv : 5 ≤ lev) (hst : (stk.map fun v => v.category).sum ≤ 8) (hd : decode cc pc = .ok (.invokevirtual 27, 3)) (hq : pc + 3 = q)
    (K : fW Δ Γ nL Q q lc (.int (sTx.getD x.toNatClampNeg 0) :: stk) st k) : fW Δ Γ nL Q pc lc (.int x :: .ref aS :: stk) st (fIx x 172 k) := by
  subst hq
  obtain ⟨l, D, cA, ad, N⟩ := Δ
  obtain ⟨p, e, R, s, m, args, below, meth, c, H0, A, cells, slots⟩ := Γ
  obtain ⟨hx, hb, hml, hown, hts, hK, hI, hA, hr, hlk, hf1, hf2, hc1, hc2, h00, hNs⟩ := C
  intro r st' hk H locs ls hl hR hS
  subst h00
  obtain ⟨hin, hk2⟩ := fIx_some hk
  clear hk
  obtain ⟨j, hj, rfl⟩ := vp_in_of hin (by omega)
  rw [nI_clamp (by omega)] at K
  exact s_callV (As := [.int (nI j)]) hw yvJ0_charAt_5068e rfl (s_charAt l aS aV j hj) hx hb hml hown hts hf1 hf2 hc1 hc2 ((S.1.kept hS.2.1).narrow (fun _ h => h.elim)) hl.1 hlv rfl hst hd (K r st' hk2 H locs ls hl hR hS)
