/-! making objects: nW, a walk over a list of cells that grows -/
theorem W_mono {p : Program} {l : Launch} {e : Env} {R : Room} {s : State} {m : MethodId} {args : Array Value} {below : List Frame} {meth : Method} {c : Code} {H : Heap} {locs : List Loc} {cells slots : Nat} {Q Q' : State → Prop} {g : JFrame} (h : ∀ t, Q t → Q' t) (k : W p l e R s m args below meth c H locs cells slots Q g) : W p l e R s m args below meth c H locs cells slots Q' g := by
  intro T hT X
  obtain ⟨t, a, b⟩ := k T hT X
  exact ⟨t, a, h t b⟩
abbrev nGm : Type := Launch × va_G × (Nat → ClassId) × Program × Env × Room × State × MethodId × Array Value × List Frame × Method × Code × Heap × (Nat → Prop)
def nW (Γ : nGm) (nL : Nat) (Q : State → Prop) (cells slots pc : Nat) (lc : List (Nat × Value)) (stk : List Value) (ws : va_W) : Prop :=
  match Γ with
  | (l, D, _, p, e, R, s, m, args, below, meth, c, H0, A) => ∀ (H : Heap) (locs : List Loc) (ls : Array Slot), lv_has ls nL lc → va_P D vwCl ws H → va_D A ws → va_S A H0 H locs → W p l e R s m args below meth c H locs cells slots Q (F0 m pc ls stk)
def nC (Γ : nGm) (cc : ByteArray) (own : String) (nL : Nat) (lev mc ms : Nat) : Prop :=
  match Γ with
  | (_, D, cA, p, _, R, s, m, args, _, meth, c, H0, A) => p.tables.exec = Jvm.exec ∧ c.code = cc ∧ c.maxLocals = nL ∧ s.vm.findClass own = some m.cls ∧ (∀ w ∈ fT, w.before args s = true) ∧ va_K D vwCl (fTys cA) s ∧ (lev ≤ 7 → meth.sig.returnType = none) ∧ meth.locks = false ∧ (lev ≤ 7 → meth.name = "<init>") ∧ lev ≤ R.frames ∧ 64 * lev ≤ R.locals ∧ mc ≤ R.cells ∧ ms ≤ R.slots ∧ H0 = s.heap ∧ fNst s ∧ (∀ q, H0.size ≤ q → A q)
def nrm (lev mc ms : Nat) : Room := { frames := lev, cells := mc, slots := ms, locals := 64 * lev }
/-- a constructor's contract: from the cells ws0 to cells of which B holds, mc more of ms slots -/
def nM (l : Launch) (D : va_G) (cA : Nat → ClassId) (y : MethodName) (cb : ByteArray) (maxL lev mc ms sz : Nat) (av : List Value) (ws0 : va_W) (B : va_W → Prop) : Prop :=
  Met l y (.code y cb maxL none :: fT) (nrm lev mc ms) (va_Pc av (fun U => U.heap.size = sz ∧ va_P D vwCl ws0 U.heap ∧ va_K D vwCl (fTys cA) U ∧ fNst U ∧ va_D (fun _ => True) ws0)) (fun _ s0 oc t => oc = .returned none ∧ (∃ ws1, B ws1 ∧ va_P D vwCl ws1 t.heap ∧ va_D (va_A ws0 sz) ws1) ∧ va_F (va_A ws0 sz) s0 t) mc ms (va_A ws0 sz)
def nQ (Γ : nGm) (mc ms sz : Nat) (ws0 : va_W) (B : va_W → Prop) : State → Prop :=
  match Γ with
  | (_, D, _, _, _, _, s, _, args, below, _, _, _, A) => MQ below (fun _ s0 oc t => oc = .returned none ∧ (∃ ws1, B ws1 ∧ va_P D vwCl ws1 t.heap ∧ va_D (va_A ws0 sz) ws1) ∧ va_F (va_A ws0 sz) s0 t) args s mc ms A
theorem n_method {l : Launch} {D : va_G} {cA : Nat → ClassId} {y : MethodName} {cb : ByteArray} {maxL lev mc ms sz : Nat} {av : List Value} {ws0 : va_W} {B : va_W → Prop} (hpl : plainName y.cls = true) (hnm : y.name = "<init>") (hlen : (lg_sl av).length ≤ maxL)
    (h : ∀ (Γ : nGm) (R : Room) (s : State) (hΓ : ∃ p e m args below meth c, Γ = (l, D, cA, p, e, R, s, m, args, below, meth, c, s.heap, va_A ws0 sz)), s.heap.size = sz → nC Γ cb y.cls maxL lev mc ms → nW Γ maxL (nQ Γ mc ms sz ws0 B) 0 0 0 (lv_args 0 av) [] ws0) : nM l D cA y cb maxL lev mc ms sz av ws0 B := by
  refine Met.ofW (cc := cb) (maxL := maxL) (ret := none) hpl rfl ?_
  intro p e s m args below meth c s₁ Bd hml hv
  obtain ⟨rfl, hsz, hP, hK, hNs, hD⟩ := hv
  have hts := atoms_spec (ws := .code y cb maxL none :: fT) Bd.pre
  have hl := lv_entry av hlen
  rw [lg_entry_eq]
  have hin : meth.name = "<init>" := (name_of_methodNamed Bd.named Bd.method).1.trans hnm
  have hA : ∀ q : Nat, s.heap.size ≤ q → va_A ws0 sz q := fun q h => by rw [← hsz]; exact Or.inr h
  exact h (l, D, cA, p, e, nrm lev mc ms, s, m, av.toArray, below, meth, c, s.heap, va_A ws0 sz) _ s ⟨p, e, m, _, below, meth, c, rfl⟩ hsz ⟨Bd.exec, Bd.bytes, hml, findClass_of_methodNamed Bd.named, fun w hw => hts w (List.mem_cons_of_mem _ hw), hK, fun _ => Bd.returns, Bd.notSynchronized, fun _ => hin, Nat.le_refl _, Nat.le_refl _, Nat.le_refl _, Nat.le_refl _, rfl, hNs, hA⟩ s.heap [] _ hl hP hD.self va_S.rf

theorem n_iconst {Γ : nGm} {nL cells slots pc q lev mc ms : Nat} {Q : State → Prop} {cc : ByteArray} {own : String} {lc : List (Nat × Value)} {stk : List Value} {ws : va_W} {n : Int} {v : Int32} (C : nC Γ cc own nL lev mc ms) (hd : decode cc pc = .ok (.iconst n, 1)) (hq : pc + 1 = q) (hv : Int32.ofInt n = v)
    (K : nW Γ nL Q cells slots q lc (.int v :: stk) ws) : nW Γ nL Q cells slots pc lc (stk) ws := by
  subst hq
  obtain ⟨l, D, cA, p, e, R, s, m, args, below, meth, c, H0, A⟩ := Γ
  obtain ⟨hx, hb, hml, hown, hts, hK, hr, hlk, hin, hf1, hf2, hm1, hm2, h00, hNs, hA⟩ := C
  intro H locs ls hl hP hD hS
  exact lv_iconst hx hb hd hv (K H locs ls hl hP hD hS)

theorem n_bipush {Γ : nGm} {nL cells slots pc q lev mc ms : Nat} {Q : State → Prop} {cc : ByteArray} {own : String} {lc : List (Nat × Value)} {stk : List Value} {ws : va_W} {n : Int} {v : Int32} (C : nC Γ cc own nL lev mc ms) (hd : decode cc pc = .ok (.bipush n, 2)) (hq : pc + 2 = q) (hv : (Int8.ofInt n).toInt32 = v)
    (K : nW Γ nL Q cells slots q lc (.int v :: stk) ws) : nW Γ nL Q cells slots pc lc (stk) ws := by
  subst hq
  obtain ⟨l, D, cA, p, e, R, s, m, args, below, meth, c, H0, A⟩ := Γ
  obtain ⟨hx, hb, hml, hown, hts, hK, hr, hlk, hin, hf1, hf2, hm1, hm2, h00, hNs, hA⟩ := C
  intro H locs ls hl hP hD hS
  exact lv_bipush hx hb hd hv (K H locs ls hl hP hD hS)

theorem n_sipush {Γ : nGm} {nL cells slots pc q lev mc ms : Nat} {Q : State → Prop} {cc : ByteArray} {own : String} {lc : List (Nat × Value)} {stk : List Value} {ws : va_W} {n : Int} {v : Int32} (C : nC Γ cc own nL lev mc ms) (hd : decode cc pc = .ok (.sipush n, 3)) (hq : pc + 3 = q) (hv : (Int16.ofInt n).toInt32 = v)
    (K : nW Γ nL Q cells slots q lc (.int v :: stk) ws) : nW Γ nL Q cells slots pc lc (stk) ws := by
  subst hq
  obtain ⟨l, D, cA, p, e, R, s, m, args, below, meth, c, H0, A⟩ := Γ
  obtain ⟨hx, hb, hml, hown, hts, hK, hr, hlk, hin, hf1, hf2, hm1, hm2, h00, hNs, hA⟩ := C
  intro H locs ls hl hP hD hS
  exact lv_sipush hx hb hd hv (K H locs ls hl hP hD hS)

theorem n_lconst {Γ : nGm} {nL cells slots pc q lev mc ms : Nat} {Q : State → Prop} {cc : ByteArray} {own : String} {lc : List (Nat × Value)} {stk : List Value} {ws : va_W} {n : Fin 2} {v : Int64} (C : nC Γ cc own nL lev mc ms) (hd : decode cc pc = .ok (.lconst n, 1)) (hq : pc + 1 = q) (hv : Int64.ofNat (n : Nat) = v)
    (K : nW Γ nL Q cells slots q lc (.long v :: stk) ws) : nW Γ nL Q cells slots pc lc (stk) ws := by
  subst hq
  obtain ⟨l, D, cA, p, e, R, s, m, args, below, meth, c, H0, A⟩ := Γ
  obtain ⟨hx, hb, hml, hown, hts, hK, hr, hlk, hin, hf1, hf2, hm1, hm2, h00, hNs, hA⟩ := C
  intro H locs ls hl hP hD hS
  exact lv_lconst hx hb hd hv (K H locs ls hl hP hD hS)

theorem n_iload_n {Γ : nGm} {nL cells slots pc q lev mc ms : Nat} {Q : State → Prop} {cc : ByteArray} {own : String} {lc : List (Nat × Value)} {stk : List Value} {ws : va_W} {n : Fin 4} {i z : Nat} {x : Int32} (C : nC Γ cc own nL lev mc ms) (hd : decode cc pc = .ok (.iload_n n, 1)) (hq : pc + 1 = q) (hi : (n : Nat) = i) (hz : lc[z]? = some (i, .int x))
    (K : nW Γ nL Q cells slots q lc (.int x :: stk) ws) : nW Γ nL Q cells slots pc lc (stk) ws := by
  subst hq
  obtain ⟨l, D, cA, p, e, R, s, m, args, below, meth, c, H0, A⟩ := Γ
  obtain ⟨hx, hb, hml, hown, hts, hK, hr, hlk, hin, hf1, hf2, hm1, hm2, h00, hNs, hA⟩ := C
  intro H locs ls hl hP hD hS
  exact lv_iload_n hx hb hd hi (lv_at hl z hz) (K H locs ls hl hP hD hS)

theorem n_aload_n {Γ : nGm} {nL cells slots pc q lev mc ms : Nat} {Q : State → Prop} {cc : ByteArray} {own : String} {lc : List (Nat × Value)} {stk : List Value} {ws : va_W} {n : Fin 4} {i z : Nat} {x : Nat} (C : nC Γ cc own nL lev mc ms) (hd : decode cc pc = .ok (.aload_n n, 1)) (hq : pc + 1 = q) (hi : (n : Nat) = i) (hz : lc[z]? = some (i, .ref x))
    (K : nW Γ nL Q cells slots q lc (.ref x :: stk) ws) : nW Γ nL Q cells slots pc lc (stk) ws := by
  subst hq
  obtain ⟨l, D, cA, p, e, R, s, m, args, below, meth, c, H0, A⟩ := Γ
  obtain ⟨hx, hb, hml, hown, hts, hK, hr, hlk, hin, hf1, hf2, hm1, hm2, h00, hNs, hA⟩ := C
  intro H locs ls hl hP hD hS
  exact lv_aload_n hx hb hd hi (lv_at hl z hz) (K H locs ls hl hP hD hS)

theorem n_dup {Γ : nGm} {nL cells slots pc q lev mc ms : Nat} {Q : State → Prop} {cc : ByteArray} {own : String} {lc : List (Nat × Value)} {stk : List Value} {ws : va_W} {va : Value} (C : nC Γ cc own nL lev mc ms) (hd : decode cc pc = .ok (.dup, 1)) (hq : pc + 1 = q) (hva : va.category = 1)
    (K : nW Γ nL Q cells slots q lc (va :: va :: stk) ws) : nW Γ nL Q cells slots pc lc (va :: stk) ws := by
  subst hq
  obtain ⟨l, D, cA, p, e, R, s, m, args, below, meth, c, H0, A⟩ := Γ
  obtain ⟨hx, hb, hml, hown, hts, hK, hr, hlk, hin, hf1, hf2, hm1, hm2, h00, hNs, hA⟩ := C
  intro H locs ls hl hP hD hS
  exact lv_dup hx hb hd hva (K H locs ls hl hP hD hS)

theorem n_istore_n {Γ : nGm} {nL cells slots pc q lev mc ms : Nat} {Q : State → Prop} {cc : ByteArray} {own : String} {lc : List (Nat × Value)} {stk : List Value} {ws : va_W} {n : Fin 4} {i : Nat} {x : Int32} (lr : List (Nat × Value)) (C : nC Γ cc own nL lev mc ms) (hd : decode cc pc = .ok (.istore_n n, 1)) (hq : pc + 1 = q) (hi : (n : Nat) = i) (hn : i < nL) (hlc : lc.filter (fun q => !(q.1 == i) && !(q.1 + 1 == i && q.2.category == 2)) = lr)
    (K : nW Γ nL Q cells slots q ((i, .int x) :: lr) stk ws) : nW Γ nL Q cells slots pc lc (.int x :: stk) ws := by
  subst hq
  subst hlc
  obtain ⟨l, D, cA, p, e, R, s, m, args, below, meth, c, H0, A⟩ := Γ
  obtain ⟨hx, hb, hml, hown, hts, hK, hr, hlk, hin, hf1, hf2, hm1, hm2, h00, hNs, hA⟩ := C
  intro H locs ls hl hP hD hS
  exact lv_istore_n hx hb hd hi hl hn rfl (fun ls hl => K H locs ls hl hP hD hS)

theorem n_iinc {Γ : nGm} {nL cells slots pc q lev mc ms : Nat} {Q : State → Prop} {cc : ByteArray} {own : String} {lc : List (Nat × Value)} {stk : List Value} {ws : va_W} {i z : Nat} {n : Int} {x v : Int32} (lr : List (Nat × Value)) (C : nC Γ cc own nL lev mc ms) (hd : decode cc pc = .ok (.iinc i n, 3)) (hq : pc + 3 = q) (hz : lc[z]? = some (i, .int x)) (hv : x + Int32.ofInt n = v) (hn : i < nL) (hlc : lc.filter (fun q => !(q.1 == i) && !(q.1 + 1 == i && q.2.category == 2)) = lr)
    (K : nW Γ nL Q cells slots q ((i, .int v) :: lr) stk ws) : nW Γ nL Q cells slots pc lc stk ws := by
  subst hq
  subst hlc
  subst hv
  obtain ⟨l, D, cA, p, e, R, s, m, args, below, meth, c, H0, A⟩ := Γ
  obtain ⟨hx, hb, hml, hown, hts, hK, hr, hlk, hin, hf1, hf2, hm1, hm2, h00, hNs, hA⟩ := C
  intro H locs ls hl hP hD hS
  exact lv_iinc hx hb hd hl hz rfl hn rfl (fun ls hl => K H locs ls hl hP hD hS)

theorem n_ge_t {Γ : nGm} {nL cells slots pc q lev mc ms : Nat} {Q : State → Prop} {cc : ByteArray} {own : String} {lc : List (Nat × Value)} {stk : List Value} {ws : va_W} {x y : Int32} {off : Int} (h : y ≤ x) (C : nC Γ cc own nL lev mc ms) (hd : decode cc pc = .ok (.if_icmp .ge off, 3)) (ht : (pc : Int) + off = (q : Int))
    (K : nW Γ nL Q cells slots q lc stk ws) : nW Γ nL Q cells slots pc lc (.int y :: .int x :: stk) ws := by
  obtain ⟨l, D, cA, p, e, R, s, m, args, below, meth, c, H0, A⟩ := Γ
  obtain ⟨hx, hb, hml, hown, hts, hK, hr, hlk, hin, hf1, hf2, hm1, hm2, h00, hNs, hA⟩ := C
  intro H locs ls hl hP hD hS
  exact lv_icmp_ge hx hb hd ht (fun _ => (K H locs ls hl hP hD hS)) (fun g => absurd h g)

theorem n_ge_f {Γ : nGm} {nL cells slots pc q lev mc ms : Nat} {Q : State → Prop} {cc : ByteArray} {own : String} {lc : List (Nat × Value)} {stk : List Value} {ws : va_W} {x y : Int32} {off : Int} {tgt : Nat} (h : ¬ y ≤ x) (C : nC Γ cc own nL lev mc ms) (hd : decode cc pc = .ok (.if_icmp .ge off, 3)) (ht : (pc : Int) + off = (tgt : Int)) (hq : pc + 3 = q)
    (K : nW Γ nL Q cells slots q lc stk ws) : nW Γ nL Q cells slots pc lc (.int y :: .int x :: stk) ws := by
  subst hq
  obtain ⟨l, D, cA, p, e, R, s, m, args, below, meth, c, H0, A⟩ := Γ
  obtain ⟨hx, hb, hml, hown, hts, hK, hr, hlk, hin, hf1, hf2, hm1, hm2, h00, hNs, hA⟩ := C
  intro H locs ls hl hP hD hS
  exact lv_icmp_ge hx hb hd ht (fun g => absurd g h) (fun _ => (K H locs ls hl hP hD hS))

theorem n_goto {Γ : nGm} {nL cells slots pc q lev mc ms : Nat} {Q : State → Prop} {cc : ByteArray} {own : String} {lc : List (Nat × Value)} {stk : List Value} {ws : va_W} {off : Int} (C : nC Γ cc own nL lev mc ms) (hd : decode cc pc = .ok (.goto off, 3)) (ht : (pc : Int) + off = (q : Int))
    (K : nW Γ nL Q cells slots q lc stk ws) : nW Γ nL Q cells slots pc lc stk ws := by
  obtain ⟨l, D, cA, p, e, R, s, m, args, below, meth, c, H0, A⟩ := Γ
  obtain ⟨hx, hb, hml, hown, hts, hK, hr, hlk, hin, hf1, hf2, hm1, hm2, h00, hNs, hA⟩ := C
  intro H locs ls hl hP hD hS
  exact lv_goto hx hb hd ht (K H locs ls hl hP hD hS)

theorem n_widen {Γ : nGm} {nL k n cells slots pc : Nat} {Q : State → Prop} {lc : List (Nat × Value)} {stk : List Value} {ws : va_W} (h1 : cells ≤ k) (h2 : slots ≤ n) (K : nW Γ nL Q k n pc lc stk ws) : nW Γ nL Q cells slots pc lc stk ws := by
  obtain ⟨l, D, cA, p, e, R, s, m, args, below, meth, c, H0, A⟩ := Γ
  intro H locs ls hl hP hD hS
  exact W.widen h1 h2 (K H locs ls hl hP hD hS)
theorem n_ws {Γ : nGm} {nL cells slots pc : Nat} {Q : State → Prop} {lc : List (Nat × Value)} {stk : List Value} {ws ws' : va_W} (h : ws = ws') (K : nW Γ nL Q cells slots pc lc stk ws') : nW Γ nL Q cells slots pc lc stk ws := h ▸ K
theorem n_locs {Γ : nGm} {nL cells slots pc : Nat} {Q : State → Prop} {lc lc' : List (Nat × Value)} {stk : List Value} {ws : va_W} (ps : List Nat) (h : lv_pick lc ps = lc') (K : nW Γ nL Q cells slots pc lc' stk ws) : nW Γ nL Q cells slots pc lc stk ws := by
  obtain ⟨l, D, cA, p, e, R, s, m, args, below, meth, c, H0, A⟩ := Γ
  intro H locs ls hl hP hD hS
  exact K H locs ls (lv_sub hl ps h) hP hD hS
theorem n_vret {Γ : nGm} {nL cells slots pc sz lev mc ms : Nat} {cc : ByteArray} {own : String} {lc : List (Nat × Value)} {ws ws0 : va_W} {B : va_W → Prop} (hΓ : ∃ l D cA p e R s m args below meth c, Γ = (l, D, cA, p, e, R, s, m, args, below, meth, c, s.heap, va_A ws0 sz)) (hc1 : cells ≤ mc) (hc2 : slots ≤ ms) (hB : B ws) (ho : lev ≤ 7) (C : nC Γ cc own nL lev mc ms) (hd : decode cc pc = .ok (.return_, 1)) : nW Γ nL (nQ Γ mc ms sz ws0 B) cells slots pc lc [] ws := by
  obtain ⟨l, D, cA, p, e, R, s, m, args, below, meth, c, rfl⟩ := hΓ
  refine n_widen hc1 hc2 ?_
  obtain ⟨hx, hb, hml, hown, hts, hK, hr, hlk, hin, hf1, hf2, hm1, hm2, h00, hNs, hA⟩ := C
  intro H locs ls hl hP hD hS
  dsimp only [nQ]
  exact W.vret hx hb (hr ho) (fun t ht hW => ⟨rfl, ⟨ws, hB, by rw [ht]; exact hP, hD⟩, hS.F ht⟩) hS.2.2 hd hlk
theorem n_fm {α : Type} {is : List Nat} {ws wc : List α} (h : is.map (fun i => ws[i]?) = wc.map some) : is.filterMap (fun i => ws[i]?) = wc := by
  have := congrArg (List.filterMap id) h
  rw [List.filterMap_map, List.filterMap_map] at this
  simpa using this
theorem n_sub {Γ : nGm} {nL cells slots pc : Nat} {Q : State → Prop} {lc : List (Nat × Value)} {stk : List Value} {ws : va_W} (is : List Nat) (ws' : va_W) (hn : va_nd is = true) (hs : is.map (fun i => ws[i]?) = ws'.map some) (K : nW Γ nL Q cells slots pc lc stk ws') : nW Γ nL Q cells slots pc lc stk ws := by
  obtain ⟨l, D, cA, p, e, R, s, m, args, below, meth, c, H0, A⟩ := Γ
  intro H locs ls hl hP hD hS
  exact K H locs ls hl (hP.sub is (n_fm hs)) (hD.sub is hn hs) hS
theorem n_obj {Γ : nGm} {nL cells slots pc q lev mc ms ix : Nat} {Q : State → Prop} {cc : ByteArray} {own : String} {lc : List (Nat × Value)} {stk : List Value} {ws : va_W} {a : Nat} (hl0 : Cond.methodLink own ix Lib.objectInit ∈ fT) (hin0 : Cond.instanceMethod Lib.objectInit ∈ fT) (hc0 : Cond.code Lib.objectInit ⟨#[0xb1]⟩ 1 none ∈ fT) (C : nC Γ cc own nL lev mc ms) (hlv : 1 ≤ lev) (hst : (stk.map fun v => v.category).sum ≤ 8) (hd : decode cc pc = .ok (.invokespecial ix, 3)) (hq : pc + 3 = q)
    (K : nW Γ nL Q cells slots q lc stk ws) : nW Γ nL Q cells slots pc lc (.ref a :: stk) ws := by
  subst hq
  obtain ⟨l, D, cA, p, e, R, s, m, args, below, meth, c, H0, A⟩ := Γ
  obtain ⟨hx, hb, hml, hown, hts, hK, hr, hlk, hin, hf1, hf2, hm1, hm2, h00, hNs, hA⟩ := C
  intro H locs ls hl hP hD hS
  refine W.objInit hx hb hown (hts _ hl0) (hts _ hin0) (hts _ hc0) rfl (hl.1.trans hml.symm) rfl hd (by omega) (by show 2 * 0 + _ + 12 ≤ _; omega) ?_
  exact K H locs ls hl hP hD hS
theorem n_new {Γ : nGm} {nL cells slots pc q lev mc ms ix c0 n : Nat} {Q : State → Prop} {cc : ByteArray} {own C0 : String} {T : u_T} {ty0 : Nat → FieldType} {lc : List (Nat × Value)} {stk : List Value} {ws : va_W} (fs : List Value) (F : fK c0 C0 T n ty0) (hl0 : Cond.classLink own ix C0 ∈ fT) (hi0 : Cond.instantiable C0 n ∈ fT) (hn0 : Cond.initialized C0 ∈ fT) (hfs : ((List.range n).all fun j => decide (defaultValue (ty0 j) = vp_V fs j)) = true) (C : nC Γ cc own nL lev mc ms) (h1 : cells + 1 ≤ mc) (h2 : slots + n ≤ ms) (hd : decode cc pc = .ok (.new ix, 3)) (hq : pc + 3 = q)
    (K : ∀ a : Nat, nW Γ nL Q (cells + 1) (slots + n) q lc (.ref a :: stk) (ws ++ [(a, .inr (c0, fs))])) : nW Γ nL Q cells slots pc lc stk ws := by
  subst hq
  obtain ⟨l, D, cA, p, e, R, s, m, args, below, meth, c, H0, A⟩ := Γ
  obtain ⟨hx, hb, hml, hown, hts, hK, hr, hlk, hin, hf1, hf2, hm1, hm2, h00, hNs, hA⟩ := C
  obtain ⟨F1, F2, F3, F4, F5, F6⟩ := F
  intro H locs ls hl hP hD hS
  refine va_new (ci := c0) (fs := fs) (T := T) (N := n) hx hb hts F4 ty0 F5 hown (hts _ hl0) (hts _ hi0) (hts _ hn0) hK hP hD hS hA F1 (fun j hj => ?_) (by omega) (by omega) hd (fun a H1 hP1 hD1 hS1 => K a H1 locs ls hl hP1 hD1 hS1)
  have := List.all_eq_true.mp hfs j (List.mem_range.mpr hj)
  exact of_decide_eq_true this
theorem fTys_eq {D : va_G} {cA : Nat → ClassId} {s : State} {t : Nat} {ty : FieldType} {c' : ClassId} (hp : ∀ C, ty ≠ .object C) (hK : va_K D vwCl (fTys cA) s) (hK1 : va_K D vwCl (fTys cA ++ [(c', ty)]) s) (ht : (fTys cA)[t]? = some (cA t, ty)) : c' = cA t := by
  have a := (hK.2 t _ ht).2
  have b := (hK1.2 6 (c', ty) rfl).2
  have a' : s.vm.findClass ("[" ++ ty.toString) = some (cA t) := by
    cases ty <;> first | exact a | exact absurd rfl (hp _)
  have b' : s.vm.findClass ("[" ++ ty.toString) = some c' := by
    cases ty <;> first | exact b | exact absurd rfl (hp _)
  exact Option.some.inj (b'.symm.trans a')
theorem n_newa {Γ : nGm} {nL cells slots pc q lev mc ms N' : Nat} {Q : State → Prop} {cc : ByteArray} {own : String} {lc : List (Nat × Value)} {stk : List Value} {ws : va_W} {n : Int32} {ty : FieldType} {atype : ArrayType} (t : Nat) (a0 : vp_A) (hw : Cond.arrayClass (newarray.typeOf atype) ∈ fT) (hty : newarray.typeOf atype = ty) (hp : ∀ C, ty ≠ .object C) (ht : ∀ cA, (fTys cA)[t]? = some (cA t, ty)) (ha : ∀ cA : ClassId, vp_cell cA a0 = arrV cA N' (fun _ => defaultValue ty)) (hn : ¬ n < 0) (hN : n.toNatClampNeg = N') (hby : N' * componentBytes ty ≤ 536870912) (C : nC Γ cc own nL lev mc ms) (h1 : cells + 1 ≤ mc) (h2 : slots + N' ≤ ms) (hd : decode cc pc = .ok (.newarray atype, 2)) (hq : pc + 2 = q)
    (K : ∀ a : Nat, nW Γ nL Q (cells + 1) (slots + N') q lc (.ref a :: stk) (ws ++ [(a, .inl (Γ.2.2.1 t, a0))])) : nW Γ nL Q cells slots pc lc (.int n :: stk) ws := by
  subst hq
  obtain ⟨l, D, cA, p, e, R, s, m, args, below, meth, c, H0, A⟩ := Γ
  obtain ⟨hx, hb, hml, hown, hts, hK, hr, hlk, hin, hf1, hf2, hm1, hm2, h00, hNs, hA⟩ := C
  intro H locs ls hl hP hD hS
  refine va_newa hx hb (hts _ hw) hty hK hP hD hS hA ha hn hN hby (by omega) (by omega) hd (fun a cA' H1 hK1 hP1 hD1 hS1 => ?_)
  obtain rfl := fTys_eq hp hK hK1 (ht cA)
  exact K a H1 locs ls hl hP1 hD1 hS1
theorem n_newq {Γ : nGm} {nL cells slots pc q lev mc ms N' ix : Nat} {Q : State → Prop} {cc : ByteArray} {own C0 : String} {lc : List (Nat × Value)} {stk : List Value} {ws : va_W} {n : Int32} (t : Nat) (hl0 : Cond.classLink own ix C0 ∈ fT) (hw : Cond.arrayOver (.object C0) ∈ lw_tbl) (ht : ∀ cA, (fTys cA)[t]? = some (cA t, .object C0)) (hn : ¬ n < 0) (hN : n.toNatClampNeg = N') (hby : N' * 4 ≤ 536870912) (C : nC Γ cc own nL lev mc ms) (h1 : cells + 1 ≤ mc) (h2 : slots + N' ≤ ms) (hd : decode cc pc = .ok (.anewarray ix, 3)) (hq : pc + 3 = q)
    (K : ∀ a : Nat, nW Γ nL Q (cells + 1) (slots + N') q lc (.ref a :: stk) (ws ++ [(a, .inl (Γ.2.2.1 t, N', .inr (.inr (.inr (.inr (fun _ => none))))))])) : nW Γ nL Q cells slots pc lc (.int n :: stk) ws := by
  subst hq
  obtain ⟨l, D, cA, p, e, R, s, m, args, below, meth, c, H0, A⟩ := Γ
  obtain ⟨hx, hb, hml, hown, hts, hK, hr, hlk, hin, hf1, hf2, hm1, hm2, h00, hNs, hA⟩ := C
  intro H locs ls hl hP hD hS
  refine va_newq hx hb hown (hts _ hl0) (hNs.2 _ hw) hK hP hD hS hA hn hN hby (by omega) (by omega) hd (fun a cA' H1 hK1 hP1 hD1 hS1 => ?_)
  obtain rfl : cA' = cA t := by
    obtain ⟨_, _, _, _, _, g1⟩ := (hK.2 t _ (ht cA)).2
    obtain ⟨_, _, _, _, _, g2⟩ := (hK1.2 6 (cA', .object C0) rfl).2
    exact Option.some.inj (g2.symm.trans g1)
  exact K a H1 locs ls hl hP1 hD1 hS1
theorem n_putF {Γ : nGm} {nL cells slots pc q lev mc ms c0 n ix a : Nat} {Q : State → Prop} {cc : ByteArray} {own : String} {T : u_T} {ty0 : Nat → FieldType} {lc : List (Nat × Value)} {stk : List Value} {ws : va_W} {fs : List Value} {v : Value} {ty : FieldType} (z f : Nat) (ws' : va_W) (F : fK c0 own T n ty0) (hz : ws[z]? = some (a, .inr (c0, fs))) (hf : f < n) (hw : Cond.fieldLink own ix (T f).1 (T f).2.1 (T f).2.2.1 ∈ fT) (hfin : (T f).2.2.2 = true) (hdc : (T f).1 = own) (hty : parseFieldDescriptor (T f).2.2.1 = some ty) (hn : narrow ty v = v) (hfit : fits ty v = true) (hlen : f < fs.length) (hs : ws.set z (a, .inr (c0, fs.set f v)) = ws') (ho : lev ≤ 7) (C : nC Γ cc own nL lev mc ms) (hd : decode cc pc = .ok (.putfield ix, 3)) (hq : pc + 3 = q)
    (K : nW Γ nL Q cells slots q lc stk ws') : nW Γ nL Q cells slots pc lc (v :: .ref a :: stk) ws := by
  subst hq
  subst hs
  obtain ⟨l, D, cA, p, e, R, s, m, args, below, meth, c, H0, A⟩ := Γ
  obtain ⟨hx, hb, hml, hown, hts, hK, hr, hlk, hin, hf1, hf2, hm1, hm2, h00, hNs, hA⟩ := C
  obtain ⟨F1, F2, F3, F4, F5, F6⟩ := F
  intro H locs ls hl hP hD hS
  exact va_putF (D := D) (cl := vwCl) (ci := c0) (T := T) (N := n) (fs := fs) hx hb hts F4 ty0 F5 F6 hown hK hP hD hS z hz F1 f hf (hts _ hw) (fun _ h9 => h9) hfin (hin ho) hdc hty hn hfit hlen hd (fun H1 locs1 hP1 hD1 hS1 => K H1 locs1 ls hl hP1 hD1 hS1)
theorem n_put {Γ : nGm} {nL cells slots pc q lev mc ms c0 n ix a : Nat} {Q : State → Prop} {cc : ByteArray} {own C0 : String} {T : u_T} {ty0 : Nat → FieldType} {lc : List (Nat × Value)} {stk : List Value} {ws : va_W} {fs : List Value} {v : Value} {ty : FieldType} (z f : Nat) (ws' : va_W) (F : fK c0 C0 T n ty0) (hz : ws[z]? = some (a, .inr (c0, fs))) (hf : f < n) (hw : Cond.fieldLink own ix (T f).1 (T f).2.1 (T f).2.2.1 ∈ fT) (hfin : (T f).2.2.2 = false) (hty : parseFieldDescriptor (T f).2.2.1 = some ty) (hn : narrow ty v = v) (hfit : fits ty v = true) (hlen : f < fs.length) (hs : ws.set z (a, .inr (c0, fs.set f v)) = ws') (C : nC Γ cc own nL lev mc ms) (hd : decode cc pc = .ok (.putfield ix, 3)) (hq : pc + 3 = q)
    (K : nW Γ nL Q cells slots q lc stk ws') : nW Γ nL Q cells slots pc lc (v :: .ref a :: stk) ws := by
  subst hq
  subst hs
  obtain ⟨l, D, cA, p, e, R, s, m, args, below, meth, c, H0, A⟩ := Γ
  obtain ⟨hx, hb, hml, hown, hts, hK, hr, hlk, hin, hf1, hf2, hm1, hm2, h00, hNs, hA⟩ := C
  obtain ⟨F1, F2, F3, F4, F5, F6⟩ := F
  intro H locs ls hl hP hD hS
  exact va_put (D := D) (cl := vwCl) (ci := c0) (T := T) (N := n) (fs := fs) hx hb hts F4 ty0 F5 F6 hown hK hP hD hS z hz F1 f hf (hts _ hw) (fun _ h9 => h9) hfin hty hn hfit hlen hd (fun H1 locs1 hP1 hD1 hS1 => K H1 locs1 ls hl hP1 hD1 hS1)
theorem n_get {Γ : nGm} {nL cells slots pc q lev mc ms c0 n ix a : Nat} {Q : State → Prop} {cc : ByteArray} {own C0 : String} {T : u_T} {ty0 : Nat → FieldType} {lc : List (Nat × Value)} {stk : List Value} {ws : va_W} {fs : List Value} {v : Value} (z f : Nat) (F : fK c0 C0 T n ty0) (hz : ws[z]? = some (a, .inr (c0, fs))) (hf : f < n) (hw : Cond.fieldLink own ix (T f).1 (T f).2.1 (T f).2.2.1 ∈ fT) (hv : fs[f]? = some v) (C : nC Γ cc own nL lev mc ms) (hd : decode cc pc = .ok (.getfield ix, 3)) (hq : pc + 3 = q)
    (K : nW Γ nL Q cells slots q lc (v :: stk) ws) : nW Γ nL Q cells slots pc lc (.ref a :: stk) ws := by
  subst hq
  obtain ⟨l, D, cA, p, e, R, s, m, args, below, meth, c, H0, A⟩ := Γ
  obtain ⟨hx, hb, hml, hown, hts, hK, hr, hlk, hin, hf1, hf2, hm1, hm2, h00, hNs, hA⟩ := C
  obtain ⟨F1, F2, F3, F4, F5, F6⟩ := F
  intro H locs ls hl hP hD hS
  exact va_get (D := D) (cl := vwCl) (ci := c0) (T := T) (N := n) (fs := fs) hx hb hts F4 hown hK hP z hz F1 f hf (hts _ hw) (fun _ h9 => h9) hv hd (K H locs ls hl hP hD hS)
theorem n_astq {Γ : nGm} {nL cells slots pc q lev mc ms ci n a v : Nat} {Q : State → Prop} {cc : ByteArray} {own : String} {r : vw_C} {vs : List Value} {lc : List (Nat × Value)} {stk : List Value} {ws : va_W} {f : Nat → Option Nat} {i : Int32} (z y t : Nat) (ws' : va_W) (hz : ws[z]? = some (a, .inl (Γ.2.2.1 t, n, .inr (.inr (.inr (.inr f)))))) (ht : ∀ cA, (fTys cA)[t]? = some (cA t, .object r.1)) (hy : ws[y]? = some (v, .inr (ci, vs))) (hci : vwCl[ci]? = some r) (hin0 : vp_in i n) (hs : ws.set z (a, .inl (Γ.2.2.1 t, n, .inr (.inr (.inr (.inr (va_up f i.toNatClampNeg (some v))))))) = ws') (C : nC Γ cc own nL lev mc ms) (hd : decode cc pc = .ok (.aastore, 1)) (hq : pc + 1 = q)
    (K : nW Γ nL Q cells slots q lc stk ws') : nW Γ nL Q cells slots pc lc (.ref v :: .int i :: .ref a :: stk) ws := by
  subst hq
  subst hs
  obtain ⟨l, D, cA, p, e, R, s, m, args, below, meth, c, H0, A⟩ := Γ
  obtain ⟨hx, hb, hml, hown, hts, hK, hr, hlk, hin, hf1, hf2, hm1, hm2, h00, hNs, hA⟩ := C
  intro H locs ls hl hP hD hS
  exact va_astq hx hb hK hP hD hS z t y ci hz (ht cA) hy hci hin0 hd (fun H1 locs1 hP1 hD1 hS1 => K H1 locs1 ls hl hP1 hD1 hS1)
theorem nBlind {D : va_G} {cA : Nat → ClassId} {sz : Nat} {ws0 : va_W} {av : List Value} : FrameBlind (va_Pc av (fun U => U.heap.size = sz ∧ va_P D vwCl ws0 U.heap ∧ va_K D vwCl (fTys cA) U ∧ fNst U ∧ va_D (fun _ => True) ws0)) := fun a U g mk q => ⟨q.1, q.2.1, q.2.2.1, va_K.moved (u := U) (U := U.calling g mk a) (Vm.Alike.refl U.vm) q.2.2.2.1, fNst_call q.2.2.2.2.1, q.2.2.2.2.2⟩
abbrev nY (y : MethodName) (cb : ByteArray) (maxL n : Nat) : Prop := nYw y cb maxL n
theorem nG {y : MethodName} {cb : ByteArray} {maxL : Nat} (h : Cond.code y cb maxL none ∈ fT) : GoodIn fT (.code y cb maxL none :: fT) := fT_good (fun _ h => h) (fun w hw => by
  rcases List.mem_cons.mp hw with h' | h'
  · rw [h']; exact h
  · exact h')
theorem n_call {Γ : nGm} {nL cells slots pc q lev lev' mc ms mc' ms' ix maxL b : Nat} {Q : State → Prop} {cc cb : ByteArray} {own : String} {y : MethodName} {lc : List (Nat × Value)} {stk stk0 As : List Value} {ws wc wr : va_W} {B : va_W → Prop} (isC isR : List Nat) (hl0 : Cond.methodLink own ix y ∈ fT ∨ ∃ host, Cond.methodLinkNest own ix y host ∈ lw_tbl) (Y : nY y cb maxL As.length) (hM : ∀ (l : Launch) (D : va_G) (cA : Nat → ClassId) (sz : Nat), Γ.1 = l → Γ.2.1 = D → Γ.2.2.1 = cA → nM l D cA y cb maxL lev' mc' ms' sz (.ref b :: As) wc B) (hc1 : isC.map (fun i => ws[i]?) = wc.map some) (hr1 : isR.map (fun i => ws[i]?) = wr.map some) (hn1 : va_nd isC = true) (hn2 : va_nd isR = true) (hdis : ∀ i ∈ isR, i ∉ isC) (C : nC Γ cc own nL lev mc ms) (hlev : lev' + 1 ≤ lev) (h1 : cells + mc' ≤ mc) (h2 : slots + ms' ≤ ms) (hst : stk0 = As.reverse ++ .ref b :: stk) (hcat : (stk.map fun v => v.category).sum ≤ 8) (hd : decode cc pc = .ok (.invokespecial ix, 3)) (hq : pc + 3 = q)
    (K : ∀ ws1, B ws1 → nW Γ nL Q (cells + mc') (slots + ms') q lc stk (wr ++ ws1)) : nW Γ nL Q cells slots pc lc stk0 ws := by
  subst hq
  subst hst
  obtain ⟨l, D, cA, p, e, R, s, m, args, below, meth, c, H0, A⟩ := Γ
  obtain ⟨hx, hb, hml, hown, hts, hK, hr, hlk, hin, hf1, hf2, hm1, hm2, h00, hNs, hA⟩ := C
  obtain ⟨Y1, Y3, Y4, Y5, Y6, Y7, Y8⟩ := Y
  intro H locs ls hl hP hD hS
  have hcs : isC.filterMap (fun i => ws[i]?) = wc := n_fm hc1
  have hPc := hP.sub isC hcs
  have hDc := hD.sub isC hn1 hc1
  have hFc := va_free (wc := wc) hD hS hA isC hc1
  have hR2 : (nrm lev' mc' ms').frames + 1 ≤ R.frames ∧ 8 + (maxL + 11) + (nrm lev' mc' ms').locals ≤ R.locals := ⟨by show lev' + 1 ≤ _; omega, by show 8 + (maxL + 11) + 64 * lev' ≤ _; omega⟩
  have hpre : PreS s H (va_Pc (.ref b :: As) (fun U => U.heap.size = H.size ∧ va_P D vwCl wc U.heap ∧ va_K D vwCl (fTys cA) U ∧ fNst U ∧ va_D (fun _ => True) wc)) (.ref b :: As) := ⟨nBlind, fun U hU hW => ⟨rfl, by rw [hU], by rw [hU]; exact hPc, va_K.moved hW.alike hK, fNst_warm hW hNs, hDc.weaken (fun _ _ _ _ => trivial)⟩⟩
  have hrun : va_Run p l e R s m args below meth c H locs cells slots mc' ms' (F0 m pc ls (As.reverse ++ .ref b :: stk)) stk (fun s0 oc t => oc = .returned none ∧ (∃ ws1, B ws1 ∧ va_P D vwCl ws1 t.heap ∧ va_D (va_A wc H.size) ws1) ∧ va_F (va_A wc H.size) s0 t) (va_A wc H.size) := by
    rcases hl0 with hl0 | ⟨host, hl0⟩
    · exact va_runI (As := As) (rest := stk) (Ts := fT) ⟨hx, hb, hml, hown, hts⟩ (hM l D cA H.size rfl rfl rfl) (cwI As.length hts (nG Y4) rfl rfl rfl (hts _ Y3) (hts _ hl0) (hts _ Y1) Y8 ⟨Y5.1, Y5.2, Y6⟩ hR2) hpre rfl rfl hl.1 rfl (lv_room hcat) hd ⟨by omega, by omega⟩
    · exact va_runIN (As := As) (rest := stk) (Ts := fT) ⟨hx, hb, hml, hown, hts⟩ (hM l D cA H.size rfl rfl rfl) ⟨va_cnB As.length hts (nG Y4) rfl rfl rfl (hNs.1 _ _ _ _ hl0) (hts _ Y3) ⟨Y5.1, Y5.2, Y6⟩ hR2, Y8, hts _ Y1⟩ hpre rfl rfl hl.1 rfl (lv_room hcat) hd ⟨by omega, by omega⟩
  intro T hT X
  obtain ⟨v, st₀, t, T', L, h0, X', hL, e1, e2, ⟨hv, ⟨ws1, hB, hP1, hD1⟩, hF⟩, st⟩ := hrun T hT X
  cases hv
  obtain ⟨hz, hkk⟩ := hF
  rw [h0] at hz hkk
  rw [← e1] at hz hkk hP1
  obtain ⟨hP2, hD2⟩ := va_join (wr := wr) hP hD isC isR hc1 hr1 hn2 hdis hkk hFc hP1 hD1
  obtain ⟨t2, a1, b1⟩ := K ws1 hB T'.heap (locs ++ L) ls hl hP2 hD2 ⟨Nat.le_trans hS.1 hz, fun q h1 h2 => by rw [hkk q (Nat.lt_of_lt_of_le h1 hS.1) (fun z => h2 (hFc q z))]; exact hS.2.1 q h1 h2, fun q hq => by
      rcases List.mem_append.mp hq with h | h
      · exact hS.2.2 q h
      · exact hFc _ (hL q h)⟩ T' rfl X'
  exact ⟨t2, st t2 a1, b1⟩

-- from a list of cells to a state, for a constructor's last stretch
theorem fInj_of {cA : Nat → ClassId} {ad : Nat → Nat → Nat → Nat} {N : Nat → Nat} {st : fSt} {A : Nat → Prop} (h : va_D A (fWs cA ad N st)) : fInj ad N := by
  intro t u ht hu he
  obtain ⟨i, hi⟩ := List.getElem?_of_mem ht
  obtain ⟨j, hj⟩ := List.getElem?_of_mem hu
  obtain ⟨c, i0, j0⟩ := t
  obtain ⟨c', i1, j1⟩ := u
  have e := h.1 i j _ _ (fWs_at (cA := cA) (ad := ad) (st := st) hi) (fWs_at (cA := cA) (ad := ad) (st := st) hj) he
  subst e
  exact Option.some.inj (hi.symm.trans hj)
theorem fAd_of {cA : Nat → ClassId} {ad : Nat → Nat → Nat → Nat} {N : Nat → Nat} {st : fSt} {A : Nat → Prop} (h : va_D A (fWs cA ad N st)) : ∀ q, fAd ad N q → A q := by
  rintro q ⟨c, i, j, hm, rfl⟩
  obtain ⟨z, hz⟩ := List.getElem?_of_mem hm
  exact h.2 z _ (fWs_at (cA := cA) (ad := ad) (st := st) hz)
def fz : fSt := (fun _ _ _ => 0, fun _ _ _ => 0, fun _ _ _ _ => 0, fun _ _ _ _ => 0, fun _ _ _ => 0)
theorem n_toF {l : Launch} {D : va_G} {cA : Nat → ClassId} {p : Program} {e : Env} {R : Room} {s : State} {m : MethodId} {args : Array Value} {below : List Frame} {meth : Method} {c : Code} {A0 : Nat → Prop} {nL pc sz lev mc ms cells slots : Nat} {cc : ByteArray} {own : String} {lc : List (Nat × Value)} {stk : List Value} {ws ws0 : va_W} {B : va_W → Prop} {st st' : fSt} (ad : Nat → Nat → Nat → Nat) (N : Nat → Nat) (k : Option (Unit × fSt)) (hA0 : A0 = va_A ws0 sz) (hsz : s.heap.size = sz) (hws : fWs cA ad N st = ws) (hpk : fPok N st) (hk : k = some ((), st')) (hB : B (fWs cA ad N st')) (h1 : cells ≤ mc) (h2 : slots ≤ ms) (ho : lev ≤ 7) (C : nC (l, D, cA, p, e, R, s, m, args, below, meth, c, s.heap, A0) cc own nL lev mc ms)
    (K : fC (l, D, cA, ad, N) (p, e, R, s, m, args, below, meth, c, s.heap, A0, mc, ms) cc own nL none lev → fW (l, D, cA, ad, N) (p, e, R, s, m, args, below, meth, c, s.heap, A0, mc, ms) nL (fQ eV (l, D, cA, ad, N) (p, e, R, s, m, args, below, meth, c, s.heap, A0, mc, ms)) pc lc stk st k) : nW (l, D, cA, p, e, R, s, m, args, below, meth, c, s.heap, A0) nL (nQ (l, D, cA, p, e, R, s, m, args, below, meth, c, s.heap, A0) mc ms sz ws0 B) cells slots pc lc stk ws := by
  refine n_widen h1 h2 ?_
  subst hws
  obtain ⟨hx, hb, hml, hown, hts, hK, hr, hlk, hin, hf1, hf2, hm1, hm2, h00, hNs, hA⟩ := C
  intro H locs ls hl hP hD hS
  have hI := fInj_of hD
  have hAd := fAd_of hD
  refine W_mono ?_ (K ⟨hx, hb, hml, hown, hts, hK, hI, hAd, hr ho, hlk, hf1, hf2, hm1, hm2, rfl, hNs⟩ () st' hk H locs ls hl ⟨hP, hpk⟩ hS)
  rintro t ⟨o, q1, q2, ⟨q3, q4, q5⟩, q6⟩
  subst hA0
  exact ⟨o, q1, q2, ⟨q3, ⟨_, hB, q4.1, fWs_D hI (fun q hq => hAd q hq)⟩, q5⟩, q6⟩
