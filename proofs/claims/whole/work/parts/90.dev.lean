/-! layer 2: the call can, its answer -/
theorem cs_eq {G : Nat → Nat} (w : gWf G) {Q : List nT} (h : Q.Perm (allR G)) : Q.foldl (fun a x => a ||| fwd G x) 0 &&& 4095 = (gCu G 0).foldl (fun a c => a ||| c.2.1) 0 := by
  have w1 := w.1
  have e1 : (gCu G 0).foldl (fun a c => a ||| c.2.1) 0 = (ovl G (allR G)).foldl (fun a p => a ||| p.2) 0 := by
    rw [pfold (fun a p r => by show a ||| p.2 ||| r.2 = a ||| r.2 ||| p.2; rw [Nat.or_assoc, Nat.or_assoc, Nat.or_comm p.2]) (all_perm w (kp := 0)), List.foldl_map]
  rw [e1]
  have hov : ∀ x ∈ allR G, ∃ z ∈ allR G, ovr G z = true ∧ ∀ b, x.2.1.testBit b = true → z.2.1.testBit b = true := by
    intro x hx
    unfold allR at hx ⊢
    split at hx
    · exact absurd hx (by simp)
    · rename_i h0
      rw [if_neg h0]
      exact sub_over w 13 _ (rtn_ok w (gpl_pos h0)) (show G 2 - 1 < 13 by omega) x hx
  have hfw : ∀ x, nok G x → ∀ b, b < 12 → (fwd G x).testBit b = x.2.1.testBit b := by
    intro x hx b hb
    unfold fwd
    split
    · rw [show (1048576 : Nat) = 2 ^ 20 from rfl, Nat.testBit_or, Nat.testBit_two_pow, decide_eq_false (by omega), Bool.or_false]
    · rfl
  apply Nat.eq_of_testBit_eq
  intro b
  rw [show (4095 : Nat) = 2 ^ 12 - 1 from rfl, Nat.and_two_pow_sub_one_eq_mod, Nat.testBit_mod_two_pow]
  have k1 := foldor_bit (fwd G) b Q 0
  have k2 := foldor_bit (fun p : Nat × Nat => p.2) b (ovl G (allR G)) 0
  have key : (decide (b < 12) && (Q.foldl (fun a x => a ||| fwd G x) 0).testBit b) = true ↔ ((ovl G (allR G)).foldl (fun a p => a ||| p.2) 0).testBit b = true := by
    rw [Bool.and_eq_true, k1, k2, decide_eq_true_eq, Nat.zero_testBit]
    constructor
    · rintro ⟨hb, hh⟩
      rcases hh with hh | ⟨x, hx, hxb⟩
      · exact absurd hh (by decide)
      · have hxA := h.mem_iff.mp hx
        rw [hfw x (allR_ok w x hxA) b hb] at hxb
        obtain ⟨z, z1, z2, z3⟩ := hov x hxA
        refine Or.inr ⟨pr2 z, ?_, z3 b hxb⟩
        unfold ovl
        exact List.mem_map.mpr ⟨z, List.mem_filter.mpr ⟨z1, z2⟩, rfl⟩
    · rintro (hh | ⟨p, hp, hpb⟩)
      · exact absurd hh (by decide)
      · unfold ovl at hp
        obtain ⟨z, hz, rfl⟩ := List.mem_map.mp hp
        obtain ⟨z1, z2⟩ := List.mem_filter.mp hz
        have hok := allR_ok w z z1
        have hb : b < 12 := by
          refine Nat.lt_of_not_le (fun hle => ?_)
          have : (pr2 z).2.testBit b = false := Nat.testBit_lt_two_pow (Nat.lt_of_lt_of_le hok.2.1 (Nat.pow_le_pow_right (n := 2) (i := 12) (by omega) hle))
          rw [this] at hpb
          exact absurd hpb (by decide)
        refine ⟨hb, Or.inr ⟨z, h.mem_iff.mpr z1, ?_⟩⟩
        rw [hfw z hok b hb]
        exact hpb
  cases h3 : (decide (b < 12) && (Q.foldl (fun a x => a ||| fwd G x) 0).testBit b) <;> cases h4 : ((ovl G (allR G)).foldl (fun a p => a ||| p.2) 0).testBit b <;> simp_all
