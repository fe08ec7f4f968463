/-! layer 2: the lowest bit and the number of bits of a row -/
noncomputable def ntV (x1 : Int32) : Int32 := ((if 0 < x1 then
    (fLt ((1 : Int32)) fun (x2 : Int32) =>
    fJn (fun (x3 : Int32) (x4 : Int32) (s5 : fSt) =>
      (fJn (fun (x7 : Int32) (x8 : Int32) (s9 : fSt) =>
        (fJn (fun (x11 : Int32) (x12 : Int32) (s13 : fSt) =>
          (fJn (fun (x15 : Int32) (x16 : Int32) (s17 : fSt) =>
            (some (x16 + ((x15.toUInt32 >>> (((1 : Int32)).toUInt32 &&& Int32.toUInt32 31)).toInt32), s17))) fun (j18 : Int32 → Int32 → fSt → Option (Int32 × fSt)) =>
          if x11 ≤ ((4 : Int32)) then
            (j18 x11 x12 s13)
          else
            (fLt (x12 + (2 : Int32)) fun (x19 : Int32) =>
            fLt ((x11.toUInt32 >>> (((2 : Int32)).toUInt32 &&& Int32.toUInt32 31)).toInt32) fun (x20 : Int32) =>
            j18 x20 x19 s13))) fun (j14 : Int32 → Int32 → fSt → Option (Int32 × fSt)) =>
        if x7 ≤ ((16 : Int32)) then
          (j14 x7 x8 s9)
        else
          (fLt (x8 + (4 : Int32)) fun (x21 : Int32) =>
          fLt ((x7.toUInt32 >>> (((4 : Int32)).toUInt32 &&& Int32.toUInt32 31)).toInt32) fun (x22 : Int32) =>
          j14 x22 x21 s9))) fun (j10 : Int32 → Int32 → fSt → Option (Int32 × fSt)) =>
      if x3 ≤ ((256 : Int32)) then
        (j10 x3 x4 s5)
      else
        (fLt (x4 + (8 : Int32)) fun (x23 : Int32) =>
        fLt ((x3.toUInt32 >>> (((8 : Int32)).toUInt32 &&& Int32.toUInt32 31)).toInt32) fun (x24 : Int32) =>
        j10 x24 x23 s5))) fun (j6 : Int32 → Int32 → fSt → Option (Int32 × fSt)) =>
    if x1 ≤ ((65536 : Int32)) then
      (j6 x1 x2 z0)
    else
      (fLt (x2 + (16 : Int32)) fun (x25 : Int32) =>
      fLt ((x1.toUInt32 >>> (((16 : Int32)).toUInt32 &&& Int32.toUInt32 31)).toInt32) fun (x26 : Int32) =>
      j6 x26 x25 z0))
  else
    (some (x1 &&& ((32 : Int32)), z0))).getD (0, z0)).1
theorem nt_ok (a : Int32) (st : fSt) : f_J6_numberOfTrailingZeros_0f7a4 a st = some (ntV ((a ^^^ ((-1 : Int32))) &&& (a - ((1 : Int32)))), st) := by
  unfold f_J6_numberOfTrailingZeros_0f7a4 ntV
  simp only [fLt_e, fJn_s]
  generalize (a ^^^ ((-1 : Int32))) &&& (a - ((1 : Int32))) = x1
  repeat' (first | rfl | split)
theorem nt_tab : ∀ k, k < 24 → ntV (nI (2 ^ k - 1)) = nI k := by
  decide +kernel
theorem low_split {x s : Nat} (h1 : x.testBit s = true) (h2 : ∀ j, j < s → x.testBit j = false) : (x - 1) ^^^ ((x - 1) &&& x) = 2 ^ s - 1 := by
  have hp : 0 < 2 ^ s := Nat.two_pow_pos s
  have hm : x % 2 ^ s = 0 := by
    apply Nat.eq_of_testBit_eq
    intro i
    rw [Nat.testBit_mod_two_pow, Nat.zero_testBit]
    by_cases hi : i < s
    · rw [h2 i hi]; simp
    · simp [hi]
  obtain ⟨y, rfl⟩ : 2 ^ s ∣ x := Nat.dvd_of_mod_eq_zero hm
  have hy : y % 2 = 1 := by
    rw [Nat.testBit_eq_decide_div_mod_eq] at h1
    rw [Nat.mul_div_cancel_left _ hp] at h1
    simpa using h1
  obtain ⟨m, rfl⟩ : ∃ m, y = 2 * m + 1 := ⟨y / 2, by omega⟩
  have e1 : 2 ^ s * (2 * m + 1) - 1 = 2 ^ s * (2 * m) + (2 ^ s - 1) := by
    rw [Nat.mul_add, Nat.mul_one]
    omega
  have e2 : 2 ^ s * (2 * m + 1) = 2 ^ s * (2 * m + 1) + 0 := rfl
  rw [e1]
  apply Nat.eq_of_testBit_eq
  intro i
  rw [Nat.testBit_xor, Nat.testBit_and, Nat.testBit_two_pow_sub_one]
  rw [Nat.testBit_two_pow_mul_add _ (show 2 ^ s - 1 < 2 ^ s by omega)]
  rw [e2, Nat.testBit_two_pow_mul_add _ hp]
  by_cases hi : i < s
  · simp [hi, Nat.testBit_two_pow_sub_one]
  · simp only [if_neg hi, hi, decide_false]
    obtain ⟨j, hj⟩ : ∃ j, i - s = j := ⟨_, rfl⟩
    rw [hj]
    cases j with
    | zero => simp
    | succ j =>
      rw [Nat.testBit_succ, Nat.testBit_succ, show 2 * m / 2 = m by omega, show (2 * m + 1) / 2 = m by omega]
      cases m.testBit j <;> rfl
theorem x_lastOf {x s : Nat} (hs : s < 24) (h1 : x.testBit s = true) (h2 : ∀ j, j < s → x.testBit j = false) (st : fSt) : f_X6_lastOf (nI x) st = some (nI s, st) := by
  have hx : 1 ≤ x := by
    cases x with
    | zero => rw [Nat.zero_testBit] at h1; exact absurd h1 (by decide)
    | succ n => omega
  have e : (nI x ^^^ mI) &&& (nI x - nI 1) = nI (2 ^ s - 1) := by
    rw [nI_sub hx, Int32.and_comm, i_andn, low_split h1 h2]
  unfold f_X6_lastOf
  rw [nt_ok]
  simp only [fBd_s, i_lit, i_neg1, e, nt_tab s hs]
theorem bc_tab : ∀ a, a < 64 → ∀ b, b < 64 → bcV (nI (64 * a + b)) = nI (pcn (64 * a + b)) ∧ bcV (nI (64 * a + b + 1048576)) = nI (pcn (64 * a + b) + 1) := by
  decide +kernel
theorem bc_w {x : Nat} (hx : x < 4096) (st : fSt) : f_J6_bitCount_0f7a4 (nI x) st = some (nI (pcn x), st) ∧ f_J6_bitCount_0f7a4 (nI (x + 1048576)) st = some (nI (pcn x + 1), st) := by
  have h := bc_tab (x / 64) (by omega) (x % 64) (by omega)
  rw [show 64 * (x / 64) + x % 64 = x by omega] at h
  rw [bc_ok, bc_ok, h.1, h.2]
  exact ⟨rfl, rfl⟩
