/-! the text of the words: a String constant outside the worlds; its length and its letters -/
def sTx : List Int32 := [114, 111, 108, 101, 32, 97, 99, 116, 111, 114, 32, 112, 97, 121, 32, 98, 114, 101, 97, 116, 104, 32, 110, 111, 116, 32, 115, 99, 101, 110, 101, 32, 108, 105, 110, 101, 115, 32, 119, 105, 116, 104, 32, 101, 110, 100, 115, 32, 116, 104, 101, 110, 32, 116, 101, 97, 114, 32, 108, 97, 117, 103, 104, 32, 115, 108, 101, 101, 112, 32, 107, 105, 108, 108, 115, 32, 107, 105, 110, 100, 32, 108, 111, 116, 115, 32, 116, 101, 97, 114, 115, 32, 108, 97, 117, 103, 104, 115, 32, 115, 108, 101, 101, 112, 115, 32, 112, 108, 97, 121, 32, 98, 97, 114, 32, 111, 112, 101, 110, 32, 98, 117, 121, 32, 115, 112, 97, 114, 101, 32, 119, 104, 101, 110, 32, 115, 101, 101, 110, 32, 100, 101, 97, 100, 32, 110, 105, 103, 104, 116, 115, 32, 101, 110, 100, 101, 100, 32, 108, 111, 111, 112, 32, 101, 110, 100, 32, 115, 116, 111, 112, 32]
def sFm : String := "Ljava/util/function/BiFunction;"
def sKo (aS aV : Nat) (A : Nat → Prop) (U : State) (H : Heap) : Prop := va_Z "java/lang/String" "COMPACT_STRINGS" "Z" (.int 1) A U H ∧ va_Zq "jdk/internal/util/Preconditions" "SIOOBE_FORMATTER" "Ljava/util/function/BiFunction;" A U H ∧ vk_S 1 [172] [sTx] (fun _ => aS) (fun _ => aV) A U H
theorem sKo.moved {aS aV : Nat} {A : Nat → Prop} {u U : State} {H : Heap} (hvm : u.vm.Alike U.vm) (h : sKo aS aV A u H) : sKo aS aV A U H := ⟨h.1.moved hvm, h.2.1.moved hvm, h.2.2.moved hvm⟩
theorem sKo.kept {aS aV : Nat} {A : Nat → Prop} {U : State} {H H1 : Heap} (h : sKo aS aV A U H) (hq : ∀ a : Nat, a < H.size → ¬ A a → H1[a]? = H[a]?) : sKo aS aV A U H1 := ⟨h.1.kept hq, h.2.1.kept hq, h.2.2.kept hq⟩
theorem sKo.narrow {aS aV : Nat} {A B : Nat → Prop} {U : State} {H : Heap} (h : sKo aS aV A U H) (hAB : ∀ q, B q → A q) : sKo aS aV B U H := ⟨h.1.narrow hAB, h.2.1.narrow hAB, h.2.2.narrow hAB⟩
abbrev sNo : Nat → Prop := fun _ => False
def sM (l : Launch) (aS aV : Nat) (y : MethodName) (cb : ByteArray) (maxL : Nat) (ret : Option FieldType) (lev : Nat) (av : List Value) (v : Option Value) : Prop :=
  Met l y (.code y cb maxL ret :: fT) (frm lev) (va_Pc av (fun U => sKo aS aV sNo U U.heap)) (fun _ s0 oc t => oc = .returned v ∧ t.heap = s0.heap) 0 0 sNo
theorem s_method {l : Launch} {aS aV : Nat} {y : MethodName} {cb : ByteArray} {maxL : Nat} {ret : Option FieldType} {lev : Nat} {av : List Value} {v : Option Value} (hpl : plainName y.cls = true) (hlen : (lg_sl av).length ≤ maxL)
    (h : ∀ (p : Program) (e : Env) (R : Room) (s : State) (m : MethodId) (args : Array Value) (below : List Frame) (meth : Method) (c : Code) (ls : Array Slot), p.tables.exec = Jvm.exec → c.code = cb → c.maxLocals = maxL → s.vm.findClass y.cls = some m.cls → (∀ w ∈ fT, w.before args s = true) → meth.sig.returnType = ret → meth.locks = false → lev ≤ R.frames → 64 * lev ≤ R.locals → sKo aS aV sNo s s.heap → lv_has ls maxL (lv_args 0 av) → W p l e R s m args below meth c s.heap [] 0 0 (MQ below (fun _ s0 oc t => oc = .returned v ∧ t.heap = s0.heap) args s 0 0 sNo) (F0 m 0 ls [])) : sM l aS aV y cb maxL ret lev av v := by
  refine Met.ofW (cc := cb) (maxL := maxL) (ret := ret) hpl rfl ?_
  intro p e s m args below meth c s₁ B hml hv
  obtain ⟨rfl, hK⟩ := hv
  have hts := atoms_spec (ws := .code y cb maxL ret :: fT) B.pre
  have hl := lv_entry av hlen
  rw [lg_entry_eq]
  exact h p e (frm lev) s m av.toArray below meth c _ B.exec B.bytes hml (findClass_of_methodNamed B.named) (fun w hw => hts w (List.mem_cons_of_mem _ hw)) B.returns B.notSynchronized (Nat.le_refl _) (Nat.le_refl _) hK hl
theorem s_blind {aS aV : Nat} {av : List Value} : FrameBlind (va_Pc av (fun U => sKo aS aV sNo U U.heap)) := fun a U g mk q => ⟨q.1, q.2.moved (u := U) (U := U.calling g mk a) (Vm.Alike.refl U.vm)⟩
theorem s_after {p : Program} {l : Launch} {e : Env} {R : Room} {s : State} {m : MethodId} {args : Array Value} {below : List Frame} {meth : Method} {c : Code} {H : Heap} {locs : List Loc} {cells slots pc : Nat} {ls : Array Slot} {st0 stk : List Value} {Q : State → Prop} {v : Option Value} (hr : va_Run p l e R s m args below meth c H locs cells slots 0 0 (F0 m pc ls st0) stk (fun s0 oc t => oc = .returned v ∧ t.heap = s0.heap) sNo) (K : W p l e R s m args below meth c H locs cells slots Q (F0 m (pc + 3) ls (v.toList ++ stk))) : W p l e R s m args below meth c H locs cells slots Q (F0 m pc ls st0) := by
  intro T hT X
  obtain ⟨v', st₀, t, T', L, h0, X', hL, e1, e2, ⟨hv, hh⟩, st⟩ := hr T hT X
  cases hv
  have hL0 : L = [] := by
    cases L with
    | nil => rfl
    | cons a r => exact absurd (hL a List.mem_cons_self) (fun q => q)
  subst hL0
  rw [List.append_nil] at X'
  obtain ⟨t2, a1, b1⟩ := K T' (by rw [e1, hh, h0]) X'
  exact ⟨t2, st t2 a1, b1⟩
theorem s_callV {p : Program} {l : Launch} {e : Env} {R : Room} {s : State} {m : MethodId} {args : Array Value} {below : List Frame} {meth : Method} {c : Code} {H : Heap} {locs : List Loc} {cells slots pc nL lev lev' maxL ix : Nat} {ls : Array Slot} {st0 stk As : List Value} {Q : State → Prop} {cc cb : ByteArray} {own : String} {y : MethodName} {ret' : Option FieldType} {v : Option Value} {aS aV : Nat} (hl0 : Cond.methodLink own ix y ∈ fT) (Y : fYv y cb maxL ret' As.length) (hyS : y.cls = "java/lang/String") (hM : sM l aS aV y cb maxL ret' lev' (.ref aS :: As) v) (hx : p.tables.exec = Jvm.exec) (hb : c.code = cc) (hml : c.maxLocals = nL) (hown : s.vm.findClass own = some m.cls) (hts : ∀ w ∈ fT, w.before args s = true) (hf1 : lev ≤ R.frames) (hf2 : 64 * lev ≤ R.locals) (hc1 : cells ≤ R.cells) (hc2 : slots ≤ R.slots) (hKo : sKo aS aV sNo s H) (hsz : ls.size = nL) (hlev : lev' + 1 ≤ lev) (hst : st0 = As.reverse ++ .ref aS :: stk) (hcat : (stk.map fun v => v.category).sum ≤ 8) (hd : decode cc pc = .ok (.invokevirtual ix, 3))
    (K : W p l e R s m args below meth c H locs cells slots Q (F0 m (pc + 3) ls (v.toList ++ stk))) : W p l e R s m args below meth c H locs cells slots Q (F0 m pc ls st0) := by
  subst hst
  obtain ⟨Y1, Y2, Y3, Y4, Y5, Y6, Y7⟩ := Y
  obtain ⟨cell, g1, g2, g3, -⟩ := (hKo.2.2.1 0 (by decide)).1
  exact s_after (va_runV (C := y.cls) (As := As) (rest := stk) (Ts := fT) ⟨hx, hb, hml, hown, hts⟩ hM ⟨fCallB hts hl0 Y3 Y4 Y5 Y6 Y7 hlev hf1 hf2, hts _ Y1, hts _ Y2⟩ ⟨s_blind, ⟨cell, g1, g2, by rw [hyS]; exact g3⟩, fun U hU hW => ⟨rfl, by show sKo aS aV sNo U U.heap; rw [hU]; exact hKo.moved hW.alike⟩⟩ rfl rfl hsz rfl (lv_room hcat) hd ⟨by omega, by omega⟩) K
theorem s_callS {p : Program} {l : Launch} {e : Env} {R : Room} {s : State} {m : MethodId} {args : Array Value} {below : List Frame} {meth : Method} {c : Code} {H : Heap} {locs : List Loc} {cells slots pc nL lev lev' maxL ix : Nat} {ls : Array Slot} {st0 stk As : List Value} {Q : State → Prop} {cc cb : ByteArray} {own : String} {y : MethodName} {ret' : Option FieldType} {v : Option Value} {aS aV : Nat} (hl0 : Cond.methodLink own ix y ∈ fT) (Y : fYs y cb maxL ret' As.length) (hM : sM l aS aV y cb maxL ret' lev' As v) (hx : p.tables.exec = Jvm.exec) (hb : c.code = cc) (hml : c.maxLocals = nL) (hown : s.vm.findClass own = some m.cls) (hts : ∀ w ∈ fT, w.before args s = true) (hf1 : lev ≤ R.frames) (hf2 : 64 * lev ≤ R.locals) (hc1 : cells ≤ R.cells) (hc2 : slots ≤ R.slots) (hKo : sKo aS aV sNo s H) (hsz : ls.size = nL) (hlev : lev' + 1 ≤ lev) (hst : st0 = As.reverse ++ stk) (hcat : (stk.map fun v => v.category).sum ≤ 8) (hd : decode cc pc = .ok (.invokestatic ix, 3))
    (K : W p l e R s m args below meth c H locs cells slots Q (F0 m (pc + 3) ls (v.toList ++ stk))) : W p l e R s m args below meth c H locs cells slots Q (F0 m pc ls st0) := by
  subst hst
  obtain ⟨Y2, Y3, Y4, Y5, Y6, Y7⟩ := Y
  exact s_after (va_runS (As := As) (rest := stk) (Ts := fT) ⟨hx, hb, hml, hown, hts⟩ hM ⟨fCallB hts hl0 Y3 Y4 Y5 Y6 Y7 hlev hf1 hf2, hts _ Y2⟩ ⟨s_blind, fun U hU hW => ⟨rfl, by show sKo aS aV sNo U U.heap; rw [hU]; exact hKo.moved hW.alike⟩⟩ rfl rfl hsz rfl (lv_room hcat) hd ⟨by omega, by omega⟩) K
set_option maxHeartbeats 4000000 in
set_option maxRecDepth 100000 in
theorem s_coder (l : Launch) (aS aV : Nat) : sM l aS aV yJ0_coder_7d493 cJ0_coder_7d493 1 (some .byte) 1 [.ref aS] (some (.int 0)) := by
  refine s_method (by decide +kernel) (Nat.le_of_ble_eq_true rfl) ?_
  intro p e R s m args below meth c ls hx hb hml hown hts hr hlk hf1 hf2 hKo hl
  have hS : va_S sNo s.heap s.heap [] := va_S.rf
  obtain ⟨k1, k2, k3⟩ := id hKo
  obtain ⟨kO, kC, kV, kT⟩ := k3.1 0 (by decide)
  refine va_gets hx hb k1 hS hown (hts _ wt_1) (fun _ h9 => h9) dJ0_coder_7d493_0 ?_
  refine lv_if_eq (tgt := 13) hx hb dJ0_coder_7d493_3 (by decide) (fun g => absurd g (by decide)) (fun _ => ?_)
  refine lv_aload_n hx hb dJ0_coder_7d493_6 rfl (lv_at hl 0 rfl) ?_
  refine vk_getf hx hb kC hS hown (hts _ wt_2) (fun _ h9 => h9) dJ0_coder_7d493_7 ?_
  refine lv_goto (tgt := 14) hx hb dJ0_coder_7d493_10 (by decide) ?_
  exact W.zret hx hb hr rfl (fun t ht hW => ⟨rfl, by rw [ht]⟩) (fun _ h => by cases h) dJ0_coder_7d493_14 hlk
set_option maxHeartbeats 4000000 in
set_option maxRecDepth 100000 in
theorem s_isLatin1 (l : Launch) (aS aV : Nat) : sM l aS aV yJ0_isLatin1_aae02 cJ0_isLatin1_aae02 1 (some .boolean) 1 [.ref aS] (some (.int 1)) := by
  refine s_method (by decide +kernel) (Nat.le_of_ble_eq_true rfl) ?_
  intro p e R s m args below meth c ls hx hb hml hown hts hr hlk hf1 hf2 hKo hl
  have hS : va_S sNo s.heap s.heap [] := va_S.rf
  obtain ⟨k1, k2, k3⟩ := id hKo
  obtain ⟨kO, kC, kV, kT⟩ := k3.1 0 (by decide)
  refine va_gets hx hb k1 hS hown (hts _ wt_1) (fun _ h9 => h9) dJ0_isLatin1_aae02_0 ?_
  refine lv_if_eq (tgt := 17) hx hb dJ0_isLatin1_aae02_3 (by decide) (fun g => absurd g (by decide)) (fun _ => ?_)
  refine lv_aload_n hx hb dJ0_isLatin1_aae02_6 rfl (lv_at hl 0 rfl) ?_
  refine vk_getf hx hb kC hS hown (hts _ wt_2) (fun _ h9 => h9) dJ0_isLatin1_aae02_7 ?_
  refine lv_if_ne (tgt := 17) hx hb dJ0_isLatin1_aae02_10 (by decide) (fun g => absurd rfl g) (fun _ => ?_)
  refine lv_iconst (v := 1) hx hb dJ0_isLatin1_aae02_13 (by decide) ?_
  refine lv_goto (tgt := 18) hx hb dJ0_isLatin1_aae02_14 (by decide) ?_
  exact W.zret hx hb hr rfl (fun t ht hW => ⟨rfl, by rw [ht]⟩) (fun _ h => by cases h) dJ0_isLatin1_aae02_18 hlk
set_option maxHeartbeats 4000000 in
set_option maxRecDepth 100000 in
theorem s_length (l : Launch) (aS aV : Nat) : sM l aS aV yJ0_length_8abf5 cJ0_length_8abf5 1 (some .int) 2 [.ref aS] (some (.int 172)) := by
  refine s_method (by decide +kernel) (Nat.le_of_ble_eq_true rfl) ?_
  intro p e R s m args below meth c ls hx hb hml hown hts hr hlk hf1 hf2 hKo hl
  have hS : va_S sNo s.heap s.heap [] := va_S.rf
  obtain ⟨k1, k2, k3⟩ := id hKo
  obtain ⟨kO, kC, kV, kT⟩ := k3.1 0 (by decide)
  refine lv_aload_n hx hb dJ0_length_8abf5_0 rfl (lv_at hl 0 rfl) ?_
  refine vk_getf hx hb kV hS hown (hts _ wt_3) (fun _ h9 => h9) dJ0_length_8abf5_1 ?_
  refine va_tlen (v := 172) hx hb kT hS rfl dJ0_length_8abf5_4 ?_
  refine lv_aload_n hx hb dJ0_length_8abf5_5 rfl (lv_at hl 0 rfl) ?_
  refine s_callV (As := []) wm_J0_335 yvJ0_coder_7d493 rfl (s_coder l aS aV) hx hb hml hown hts hf1 hf2 (Nat.zero_le _) (Nat.zero_le _) hKo hl.1 (by decide) rfl (Nat.le_of_ble_eq_true rfl) dJ0_length_8abf5_6 ?_
  refine lv_ishr hx hb dJ0_length_8abf5_9 ?_
  exact W.iret hx hb hr (fun t ht hW => ⟨rfl, by rw [ht]⟩) (fun _ h => by cases h) dJ0_length_8abf5_10 hlk
set_option maxHeartbeats 4000000 in
set_option maxRecDepth 100000 in
theorem s_pre (l : Launch) (aS aV : Nat) (k n : Int32) (v : Value) (hv : v = .null ∨ ∃ t, v = .ref t) (h0 : 0 ≤ k) (h1 : k < n) : sM l aS aV yJ3_checkIndex_8e157 cJ3_checkIndex_8e157 3 (some .int) 1 [.int k, .int n, v] (some (.int k)) := by
  refine s_method (by decide +kernel) (by rcases hv with rfl | ⟨t, rfl⟩ <;> exact Nat.le_of_ble_eq_true rfl) ?_
  intro p e R s m args below meth c ls hx hb hml hown hts hr hlk hf1 hf2 hKo hl
  have hl : lv_has ls 3 [(0, .int k), (1, .int n)] := by rcases hv with rfl | ⟨t, rfl⟩ <;> exact lv_sub hl [0, 1] rfl
  refine lv_iload_n hx hb dJ3_checkIndex_8e157_0 rfl (lv_at hl 0 rfl) ?_
  refine lv_if_lt (tgt := 9) hx hb dJ3_checkIndex_8e157_1 (by decide) (fun g => absurd g (Int32.not_lt.mpr h0)) (fun _ => ?_)
  refine lv_iload_n hx hb dJ3_checkIndex_8e157_4 rfl (lv_at hl 0 rfl) ?_
  refine lv_iload_n hx hb dJ3_checkIndex_8e157_5 rfl (lv_at hl 1 rfl) ?_
  refine lv_icmp_lt (tgt := 16) hx hb dJ3_checkIndex_8e157_6 (by decide) (fun _ => ?_) (fun g => absurd h1 g)
  refine lv_iload_n hx hb dJ3_checkIndex_8e157_16 rfl (lv_at hl 0 rfl) ?_
  exact W.iret hx hb hr (fun t ht hW => ⟨rfl, by rw [ht]⟩) (fun _ h => by cases h) dJ3_checkIndex_8e157_17 hlk
set_option maxHeartbeats 4000000 in
set_option maxRecDepth 100000 in
theorem s_check (l : Launch) (aS aV : Nat) (k n : Int32) (h0 : 0 ≤ k) (h1 : k < n) : sM l aS aV yJ0_checkIndex_df160 cJ0_checkIndex_df160 2 none 2 [.int k, .int n] none := by
  refine s_method (by decide +kernel) (Nat.le_of_ble_eq_true rfl) ?_
  intro p e R s m args below meth c ls hx hb hml hown hts hr hlk hf1 hf2 hKo hl
  have hS : va_S sNo s.heap s.heap [] := va_S.rf
  obtain ⟨k1, k2, k3⟩ := id hKo
  obtain ⟨kO, kC, kV, kT⟩ := k3.1 0 (by decide)
  refine lv_iload_n hx hb dJ0_checkIndex_df160_0 rfl (lv_at hl 0 rfl) ?_
  refine lv_iload_n hx hb dJ0_checkIndex_df160_1 rfl (lv_at hl 1 rfl) ?_
  obtain ⟨v, hv, kz⟩ : ∃ v : Value, (v = .null ∨ ∃ t, v = .ref t) ∧ va_Z "jdk/internal/util/Preconditions" "SIOOBE_FORMATTER" "Ljava/util/function/BiFunction;" v sNo s s.heap := by
    rcases k2 with h | ⟨t, h⟩
    · exact ⟨_, Or.inl rfl, h⟩
    · exact ⟨_, Or.inr ⟨t, rfl⟩, h⟩
  refine va_gets hx hb kz hS hown (hts _ wt_4) (fun _ h9 => h9) dJ0_checkIndex_df160_2 ?_
  refine s_callS (As := [.int k, .int n, v]) wm_J0_1059 ysJ3_checkIndex_8e157 (s_pre l aS aV k n v hv h0 h1) hx hb hml hown hts hf1 hf2 (Nat.zero_le _) (Nat.zero_le _) hKo hl.1 (by decide) rfl (Nat.le_of_ble_eq_true rfl) dJ0_checkIndex_df160_5 ?_
  refine lv_pop hx hb dJ0_checkIndex_df160_8 rfl ?_
  exact W.vret hx hb hr (fun t ht hW => ⟨rfl, by rw [ht]⟩) (fun _ h => by cases h) dJ0_checkIndex_df160_9 hlk
set_option maxHeartbeats 4000000 in
set_option maxRecDepth 100000 in
theorem s_lat (l : Launch) (aS aV : Nat) (k : Nat) (hk : k < 172) : sM l aS aV yJ1_charAt_3b067 cJ1_charAt_3b067 2 (some .char) 3 [.ref aV, .int (nI k)] (some (.int (sTx.getD k 0))) := by
  refine s_method (by decide +kernel) (Nat.le_of_ble_eq_true rfl) ?_
  intro p e R s m args below meth c ls hx hb hml hown hts hr hlk hf1 hf2 hKo hl
  have hS : va_S sNo s.heap s.heap [] := va_S.rf
  obtain ⟨k1, k2, k3⟩ := id hKo
  obtain ⟨kO, kC, kV, kT⟩ := k3.1 0 (by decide)
  refine lv_iload_n hx hb dJ1_charAt_3b067_0 rfl (lv_at hl 1 rfl) ?_
  refine lv_aload_n hx hb dJ1_charAt_3b067_1 rfl (lv_at hl 0 rfl) ?_
  refine va_tlen (v := nI 172) hx hb kT hS rfl dJ1_charAt_3b067_2 ?_
  refine s_callS (As := [.int (nI k), .int (nI 172)]) wm_J1_9 ysJ0_checkIndex_df160 (s_check l aS aV (nI k) (nI 172) (nI_pos' (by omega)) (nI_lt hk (by omega))) hx hb hml hown hts hf1 hf2 (Nat.zero_le _) (Nat.zero_le _) hKo hl.1 (by decide) rfl (Nat.le_of_ble_eq_true rfl) dJ1_charAt_3b067_3 ?_
  refine lv_aload_n hx hb dJ1_charAt_3b067_6 rfl (lv_at hl 0 rfl) ?_
  refine lv_iload_n hx hb dJ1_charAt_3b067_7 rfl (lv_at hl 1 rfl) ?_
  refine va_tb hx hb kT hS (show vp_in (nI k) 172 from vp_in_nI hk (by omega)) rfl dJ1_charAt_3b067_8 ?_
  rw [nI_clamp (by omega)]
  refine lv_sipush (v := 255) hx hb dJ1_charAt_3b067_9 (by decide) ?_
  refine lv_iand hx hb dJ1_charAt_3b067_12 ?_
  have hch : ∀ k, k < 172 → (([sTx].getD 0 []).getD k 0 &&& 255).toUInt32 % 65536 = (sTx.getD k 0).toUInt32 ∧ narrow .char (.int (sTx.getD k 0)) = .int (sTx.getD k 0) := by decide +kernel
  refine lv_i2c (v := sTx.getD k 0) hx hb dJ1_charAt_3b067_13 (by rw [(hch k hk).1]; rfl) ?_
  exact W.zret hx hb hr (hch k hk).2 (fun t ht hW => ⟨rfl, by rw [ht]⟩) (fun _ h => by cases h) dJ1_charAt_3b067_14 hlk
set_option maxHeartbeats 4000000 in
set_option maxRecDepth 100000 in
theorem s_charAt (l : Launch) (aS aV : Nat) (k : Nat) (hk : k < 172) : sM l aS aV yJ0_charAt_5068e cJ0_charAt_5068e 2 (some .char) 4 [.ref aS, .int (nI k)] (some (.int (sTx.getD k 0))) := by
  refine s_method (by decide +kernel) (Nat.le_of_ble_eq_true rfl) ?_
  intro p e R s m args below meth c ls hx hb hml hown hts hr hlk hf1 hf2 hKo hl
  have hS : va_S sNo s.heap s.heap [] := va_S.rf
  obtain ⟨k1, k2, k3⟩ := id hKo
  obtain ⟨kO, kC, kV, kT⟩ := k3.1 0 (by decide)
  refine lv_aload_n hx hb dJ0_charAt_5068e_0 rfl (lv_at hl 0 rfl) ?_
  refine s_callV (As := []) wm_J0_492 yvJ0_isLatin1_aae02 rfl (s_isLatin1 l aS aV) hx hb hml hown hts hf1 hf2 (Nat.zero_le _) (Nat.zero_le _) hKo hl.1 (by decide) rfl (Nat.le_of_ble_eq_true rfl) dJ0_charAt_5068e_1 ?_
  refine lv_if_eq (tgt := 16) hx hb dJ0_charAt_5068e_4 (by decide) (fun g => absurd g (by decide)) (fun _ => ?_)
  refine lv_aload_n hx hb dJ0_charAt_5068e_7 rfl (lv_at hl 0 rfl) ?_
  refine vk_getf hx hb kV hS hown (hts _ wt_3) (fun _ h9 => h9) dJ0_charAt_5068e_8 ?_
  refine lv_iload_n hx hb dJ0_charAt_5068e_11 rfl (lv_at hl 1 rfl) ?_
  refine s_callS (As := [.ref aV, .int (nI k)]) wm_J0_495 ysJ1_charAt_3b067 (s_lat l aS aV k hk) hx hb hml hown hts hf1 hf2 (Nat.zero_le _) (Nat.zero_le _) hKo hl.1 (by decide) rfl (Nat.le_of_ble_eq_true rfl) dJ0_charAt_5068e_12 ?_
  have hch : ∀ k, k < 172 → narrow .char (.int (sTx.getD k 0)) = .int (sTx.getD k 0) := by decide +kernel
  exact W.zret hx hb hr (hch k hk) (fun t ht hW => ⟨rfl, by rw [ht]⟩) (fun _ h => by cases h) dJ0_charAt_5068e_15 hlk
