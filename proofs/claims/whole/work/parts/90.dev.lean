/-! layer 2: the call death -/
def gG (G : Nat → Nat) (g : Nat) : Nat → Nat := fun i => if i = 5 then g else G i
theorem gG_n {G : Nat → Nat} {g i : Nat} (h : ¬ i = 5) : gG G g i = G i := if_neg h
theorem gG_5 (G : Nat → Nat) (g : Nat) : gG G g 5 = g := rfl
section
variable {G : Nat → Nat} {g : Nat}
theorem gG_wf (w : gWf G) (hg : g < 64) : gWf (gG G g) := by
  obtain ⟨h1, h2, h3, h4, h5, h6⟩ := w
  refine ⟨h1, ⟨h2.1, hg, h2.2.2⟩, ?_, ?_, ?_, ?_⟩
  · intro a ha
    simp (disch := omega) only [gG_n] at ha ⊢
    exact h3 a ha
  · intro a ha
    simp (disch := omega) only [gG_n] at ha ⊢
    exact h4 a ha
  · intro a ha
    simp (disch := omega) only [gG_n] at ha ⊢
    exact h5 a ha
  · intro a ha
    simp (disch := omega) only [gG_n] at ha ⊢
    exact h6 a ha
theorem gG_blk {f : Nat → Int32} (B : rBlk f G) : rBlk (upd f 5 (nI g)) (gG G g) := by
  have hu : ∀ i, ¬ i = 5 → upd f 5 (nI g) i = f i := fun i h => if_neg h
  obtain ⟨⟨a0, a1, a2, a3, a4, a5, a6⟩, h2, h3, h4, h5, ⟨h6, h7, h8, h9, h10⟩, h11⟩ := B
  refine ⟨⟨a0, a1, a2, a3, a4, rfl, a6⟩, ?_, ?_, ?_, ?_, ⟨h6, h7, h8, h9, h10⟩, ?_⟩
  · intro a ha
    simp (disch := omega) only [gG_n, hu] at ha ⊢
    exact h2 a ha
  · intro a ha
    simp (disch := omega) only [gG_n, hu] at ha ⊢
    exact h3 a ha
  · intro a ha
    simp (disch := omega) only [gG_n, hu] at ha ⊢
    exact h4 a ha
  · intro a ha
    simp (disch := omega) only [gG_n, hu] at ha ⊢
    exact h5 a ha
  · intro a ha
    simp (disch := omega) only [gG_n, hu] at ha ⊢
    exact h11 a ha
theorem gG_gpl (t x : Nat) : gpl (gG G g) t x = gpl G t x := by
  unfold gpl gcan
  simp (disch := omega) only [gG_n]
theorem gG_nx (s d x : Nat) : gnx (gG G g) s d x = gnx G s d x := by
  unfold gnx gway
  rw [gG_gpl]
  simp (disch := omega) only [gG_n]
theorem gG_kil (s x : Nat) : gkil (gG G g) s x = gkil G s x := by
  unfold gkil
  simp (disch := omega) only [gG_n]
theorem gG_sl (s : Nat) : gsl (gG G g) s = gsl G s := by
  unfold gsl
  simp (disch := omega) only [gG_n]
theorem gG_sx (kp : Nat) : gsx (gG G g) kp = gsx G kp := by
  funext d
  unfold gsx
  simp (disch := omega) only [gG_n]
theorem gG_oc (sh a b : Nat → Nat) : ∀ n sp x, oc (gG G g) sh a b n sp x = oc G sh a b n sp x := by
  intro n
  induction n with
  | zero => intro sp x; rfl
  | succ n ih =>
    intro sp x
    unfold oc
    simp only [gG_nx, gG_kil, ih]
theorem gG_spv (kp x xn : Nat) (a b : Nat → Nat) : spv (gG G g) kp x xn a b = spv G kp x xn a b := by
  unfold spv cc
  simp (disch := omega) only [gG_n, gG_gpl, gG_oc, gG_sx, gG_sl]
def dV (G : Nat → Nat) (e g : Nat) : Nat := ksm G 0 (fun κ => spv G κ g fWh (fun _ => 0) (fun k => if k = e then 1 else 0)) (G 3)
theorem dV_eq (w : gWf G) (hg : g < 64) (e : Nat) : ksm (gG G g) 0 (vE (gG G g) e) (gG G g 3) = dV G e g := by
  have w' := gG_wf w hg
  rw [gG_n (by omega)]
  unfold dV ksm
  apply zs_cong
  intro k hk
  rw [vE_spv w' (by rw [gG_n (by omega)]; omega), gG_spv, gG_5]
  unfold mlt
  simp (disch := omega) only [gG_n]
theorem dV_lt (w : gWf G) (hg : g < 64) (e : Nat) : dV G e g < 2 ^ 51 := by
  have w' := gG_wf w hg
  rw [← dV_eq w hg]
  exact ksm_b1 w' (fun k hk => vE_le w' (by omega) e)
theorem dV_0 (h : G 3 = 0) (e : Nat) : dV G e g = 0 := by
  unfold dV
  rw [h]
  rfl
end
def ds (a b : Nat) : Nat := (a - b) + (b - a)
theorem lN_ds {a b : Nat} (ha : a < 2 ^ 62) (hb : b < 2 ^ 62) : (if 0 < lN a - lN b then lN a - lN b else -(lN a - lN b)) = lN (ds a b) := by
  unfold ds
  have l0 : (0 : Int64) = lN 0 := rfl
  have key : ∀ c d, lN (c + d) - lN d = lN c := by
    intro c d
    rw [← lN_add]
    exact Int64.add_sub_cancel _ _
  by_cases h : b < a
  · obtain ⟨c, rfl⟩ : ∃ c, a = c + b := ⟨a - b, by omega⟩
    rw [key, l0, if_pos ((pk_lLT (by omega) (by omega)).mpr (by omega))]
    congr 1
    omega
  · obtain ⟨c, rfl⟩ : ∃ c, b = c + a := ⟨b - a, by omega⟩
    have e : -(lN a - lN (c + a)) = lN c := by
      rw [Int64.neg_sub, key]
    by_cases hc : c = 0
    · subst hc
      rw [Nat.zero_add, show lN a - lN a = lN 0 from (by have := key 0 a; rwa [Nat.zero_add] at this), Nat.sub_self]
      rfl
    · have hn : ¬ 0 < lN a - lN (c + a) := by
        intro hlt
        have h2 : lN a - lN (c + a) = -lN c := by rw [← e, Int64.neg_neg]
        rw [h2, Int64.lt_iff_toInt_lt, Int64.toInt_neg, pk_lT (by omega)] at hlt
        have h3 : (0 : Int64).toInt = 0 := rfl
        rw [h3] at hlt
        have h4 : (-(c : Int)).bmod (2 ^ 64) = -(c : Int) := by
          apply Int.bmod_eq_of_le
          · omega
          · omega
        rw [h4] at hlt
        omega
      rw [if_neg hn, e]
      congr 1
      omega
def dB (G : Nat → Nat) (e : Nat) : Nat → Nat × Nat
  | 0 => (0, 0)
  | n + 1 => if (dB G e n).2 < ds (dV G e (G 5 ||| 2 ^ n)) (dV G e (G 5)) then (n + 1, ds (dV G e (G 5 ||| 2 ^ n)) (dV G e (G 5))) else dB G e n
theorem dB_s (G : Nat → Nat) (e n : Nat) : dB G e (n + 1) = if (dB G e n).2 < ds (dV G e (G 5 ||| 2 ^ n)) (dV G e (G 5)) then (n + 1, ds (dV G e (G 5 ||| 2 ^ n)) (dV G e (G 5))) else dB G e n := rfl
theorem or_bit {g r : Nat} (hg : g < 64) (hr : r < 6) : g ||| 2 ^ r < 64 := Nat.or_lt_two_pow (n := 6) hg (Nat.pow_lt_pow_right (by omega) hr)
theorem ds_lt {a b c : Nat} (ha : a < c) (hb : b < c) : ds a b < c := by unfold ds; omega
theorem dB_lt {G : Nat → Nat} (w : gWf G) (e : Nat) : ∀ n, n ≤ 6 → (dB G e n).1 ≤ n ∧ (dB G e n).2 < 2 ^ 51 := by
  intro n
  induction n with
  | zero => intro _; exact ⟨Nat.le_refl _, by show 0 < _; omega⟩
  | succ n ih =>
    intro hn
    obtain ⟨h1, h2⟩ := ih (by omega)
    rw [dB_s]
    split
    · exact ⟨Nat.le_refl _, ds_lt (dV_lt w (or_bit w.2.1.2.1 (by omega)) e) (dV_lt w w.2.1.2.1 e)⟩
    · exact ⟨by omega, h2⟩
theorem dB_0 {G : Nat → Nat} (h : G 3 = 0) (e : Nat) : ∀ n, (dB G e n).1 = 0 := by
  have key : ∀ n, dB G e n = (0, 0) := by
    intro n
    induction n with
    | zero => rfl
    | succ n ih => rw [dB_s, ih, dV_0 h, dV_0 h]; rfl
  intro n
  rw [key]
theorem or_self {g r : Nat} (h : g.testBit r = true) : g ||| 2 ^ r = g := by
  apply Nat.eq_of_testBit_eq
  intro i
  rw [Nat.testBit_or, Nat.testBit_two_pow]
  by_cases hi : r = i
  · subst hi; rw [h]; rfl
  · simp [hi]
theorem or_back {g r : Nat} (h : g.testBit r = false) : (g ||| 2 ^ r) ^^^ ((g ||| 2 ^ r) &&& 2 ^ r) = g := by
  apply Nat.eq_of_testBit_eq
  intro i
  rw [Nat.testBit_xor, Nat.testBit_and, Nat.testBit_or, Nat.testBit_two_pow]
  by_cases hi : r = i
  · subst hi; rw [h]; simp
  · simp [hi]
