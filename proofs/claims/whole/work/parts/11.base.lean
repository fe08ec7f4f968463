/-! layer 2: the state read and written, the words of a function, small numbers -/
theorem st_ext {s t : fSt} (h1 : ∀ c i k, gI s c i k = gI t c i k) (h2 : ∀ c i k, gL s c i k = gL t c i k) (h3 : ∀ c i k, gA s c i k = gA t c i k) (h4 : ∀ c i k, gB s c i k = gB t c i k) (h5 : ∀ c i k, gP s c i k = gP t c i k) : s = t := by
  obtain ⟨a1, a2, a3, a4, a5⟩ := s
  obtain ⟨b1, b2, b3, b4, b5⟩ := t
  have e1 : a1 = b1 := funext fun c => funext fun i => funext fun k => h1 c i k
  have e2 : a2 = b2 := funext fun c => funext fun i => funext fun k => h2 c i k
  have e3 : a3 = b3 := funext fun c => funext fun i => funext fun k => h3 c i k
  have e4 : a4 = b4 := funext fun c => funext fun i => funext fun k => h4 c i k
  have e5 : a5 = b5 := funext fun c => funext fun i => funext fun k => h5 c i k
  rw [e1, e2, e3, e4, e5]
-- the words of a function
theorem fLt_e {α β : Type} (e : α) (f : α → β) : fLt e f = f e := rfl
theorem fNn_s {β : Type} (q : Nat) (f : Nat → Option β) : fNn (q + 1) f = f q := rfl
theorem fNu_0 {β : Type} (k : Option β) (f : Nat → Option β) : fNu 0 k f = k := rfl
theorem fNu_s {β : Type} (q : Nat) (k : Option β) (f : Nat → Option β) : fNu (q + 1) k f = f q := rfl
theorem fIx_n {β : Type} {a n : Nat} {k : Option β} (h : a < n) (hn : n < 2 ^ 31) : fIx (nI a) n k = k := by
  apply fIx_in
  rw [nI_clamp (Nat.lt_trans h hn)]
  exact ⟨nI_pos' (Nat.lt_trans h hn), h⟩
theorem fNz_n {β : Type} {a : Nat} {k : Option β} (h0 : 0 < a) (h : a < 2 ^ 31) : fNz (nI a) k = k := if_neg (nI_ne0 h0 h)
theorem lN_ne0 {a : Nat} (h0 : 0 < a) (h : a < 2 ^ 63) : ¬ lN a = 0 := by
  intro q
  have e : (lN a).toInt = (0 : Int64).toInt := by rw [q]
  rw [pk_lT h] at e
  have : (0 : Int64).toInt = 0 := rfl
  omega
theorem fNzl_n {β : Type} {a : Nat} {k : Option β} (h0 : 0 < a) (h : a < 2 ^ 63) : fNz (lN a) k = k := if_neg (lN_ne0 h0 h)
theorem fBo_0 {β : Type} {k : Option β} : fBo (nI 0) k = k := if_pos (Or.inl rfl)
theorem fBo_1 {β : Type} {k : Option β} : fBo (nI 1) k = k := if_pos (Or.inr rfl)
theorem fCp_n {β : Type} {sp dp n n0 n1 : Nat} {k : Option β} (h1 : sp + n ≤ n0) (h2 : dp + n ≤ n1) (h3 : n0 < 2 ^ 31) (h4 : n1 < 2 ^ 31) : fCp (nI sp) (nI dp) (nI n) n0 n1 k = k := by
  unfold fCp
  rw [if_pos]
  rw [nI_clamp (by omega), nI_clamp (by omega), nI_clamp (by omega)]
  exact ⟨nI_pos' (by omega), nI_pos' (by omega), nI_pos' (by omega), h1, h2⟩
-- numbers as they are written
theorem i_lit (n : Nat) : (no_index (OfNat.ofNat n) : Int32) = nI (@OfNat.ofNat Nat n (instOfNatNat n)) := Eq.trans rfl rfl
theorem l_lit (n : Nat) : (no_index (OfNat.ofNat n) : Int64) = lN (@OfNat.ofNat Nat n (instOfNatNat n)) := Eq.trans rfl rfl
def mI : Int32 := -1
theorem i_neg1 : (-(nI 1) : Int32) = mI := Eq.trans rfl rfl
def xI (n : Nat) : Int32 := match n with
  | 0 => mI
  | n + 1 => nI n
theorem xI_0 : xI 0 = mI := Eq.trans rfl rfl
theorem xI_s (n : Nat) : xI (n + 1) = nI n := Eq.trans rfl rfl
theorem mI_toInt : mI.toInt = -1 := rfl
theorem nI_mI {a : Nat} (h : a < 2 ^ 31) : (nI a = mI) = False := by
  apply eq_false
  intro e
  have : (nI a).toInt = mI.toInt := by rw [e]
  rw [nI_toInt h, mI_toInt] at this
  omega
theorem mI_nI {a : Nat} (h : a < 2 ^ 31) : (mI = nI a) = False := by
  rw [show (mI = nI a) = (nI a = mI) from propext ⟨Eq.symm, Eq.symm⟩]
  exact nI_mI h
theorem mI_lt {a : Nat} (h : a < 2 ^ 31) : (mI < nI a) = True := by
  apply eq_true
  rw [Int32.lt_iff_toInt_lt, nI_toInt h, mI_toInt]
  omega
theorem nI_lt_m {a : Nat} (h : a < 2 ^ 31) : (nI a < mI) = False := by
  apply eq_false
  rw [Int32.lt_iff_toInt_lt, nI_toInt h, mI_toInt]
  omega
theorem mI_le {a : Nat} (h : a < 2 ^ 31) : (mI ≤ nI a) = True := by
  apply eq_true
  rw [Int32.le_iff_toInt_le, nI_toInt h, mI_toInt]
  omega
theorem nI_le_m {a : Nat} (h : a < 2 ^ 31) : (nI a ≤ mI) = False := by
  apply eq_false
  rw [Int32.le_iff_toInt_le, nI_toInt h, mI_toInt]
  omega
theorem xI_eq {a b : Nat} (ha : a < 2 ^ 31) (hb : b < 2 ^ 31) : xI a = xI b ↔ a = b := by
  cases a with
  | zero =>
    cases b with
    | zero => simp
    | succ b => simp [xI_0, xI_s, mI_nI (show b < 2 ^ 31 by omega)]
  | succ a =>
    cases b with
    | zero => simp [xI_0, xI_s, nI_mI (show a < 2 ^ 31 by omega)]
    | succ b => rw [xI_s, xI_s, nI_eq (by omega) (by omega)]; omega
theorem i_le (a b : Nat) (ha : a < 2 ^ 31) (hb : b < 2 ^ 31) : (nI a ≤ nI b) = (a ≤ b) := propext (nI_leI ha hb)
theorem i_lt (a b : Nat) (ha : a < 2 ^ 31) (hb : b < 2 ^ 31) : (nI a < nI b) = (a < b) := propext (nI_ltI ha hb)
theorem i_eq (a b : Nat) (ha : a < 2 ^ 31) (hb : b < 2 ^ 31) : (nI a = nI b) = (a = b) := propext (nI_eq ha hb)
theorem l_le (a b : Nat) (ha : a < 2 ^ 63) (hb : b < 2 ^ 63) : (lN a ≤ lN b) = (a ≤ b) := propext (pk_lLE ha hb)
theorem l_lt (a b : Nat) (ha : a < 2 ^ 63) (hb : b < 2 ^ 63) : (lN a < lN b) = (a < b) := propext (pk_lLT ha hb)
theorem l_eq (a b : Nat) (ha : a < 2 ^ 63) (hb : b < 2 ^ 63) : (lN a = lN b) = (a = b) := propext (pk_lEQ ha hb)
def bI (b : Bool) : Int32 := nI b.toNat
theorem bI_t : bI true = nI 1 := rfl
theorem bI_f : bI false = nI 0 := rfl
theorem bI_0 (b : Bool) : (bI b = nI 0) = (b = false) := by
  cases b
  · simp [bI]
  · simp only [bI, Bool.toNat_true]
    rw [i_eq 1 0 (by omega) (by omega)]
    simp
theorem bI_1 (b : Bool) : (bI b = nI 1) = (b = true) := by
  cases b
  · simp only [bI, Bool.toNat_false]
    rw [i_eq 0 1 (by omega) (by omega)]
    simp
  · simp [bI]
theorem bI_or (b : Bool) : bI b = 0 ∨ bI b = 1 := by
  cases b
  · exact Or.inl rfl
  · exact Or.inr rfl
theorem fBo_b {β : Type} (b : Bool) {k : Option β} : fBo (bI b) k = k := if_pos (bI_or b)
theorem nI_bv (n : Nat) : (nI n).toBitVec = BitVec.ofNat 32 n := rfl
theorem i_and (a b : Nat) : nI a &&& nI b = nI (a &&& b) := by
  apply Int32.toBitVec_inj.mp
  simp only [Int32.toBitVec_and, nI_bv]
  apply BitVec.eq_of_getLsbD_eq
  intro i hi
  simp [hi]
theorem i_or (a b : Nat) : nI a ||| nI b = nI (a ||| b) := by
  apply Int32.toBitVec_inj.mp
  simp only [Int32.toBitVec_or, nI_bv]
  apply BitVec.eq_of_getLsbD_eq
  intro i hi
  simp [hi]
theorem i_xor (a b : Nat) : nI a ^^^ nI b = nI (a ^^^ b) := by
  apply Int32.toBitVec_inj.mp
  simp only [Int32.toBitVec_xor, nI_bv]
  apply BitVec.eq_of_getLsbD_eq
  intro i hi
  simp [hi]
theorem i_andn (a b : Nat) : nI a &&& (nI b ^^^ mI) = nI (a ^^^ (a &&& b)) := by
  apply Int32.toBitVec_inj.mp
  have e : mI.toBitVec = BitVec.allOnes 32 := by decide
  simp only [Int32.toBitVec_and, Int32.toBitVec_xor, nI_bv, e]
  apply BitVec.eq_of_getLsbD_eq
  intro i hi
  simp only [BitVec.getLsbD_and, BitVec.getLsbD_xor, BitVec.getLsbD_ofNat, BitVec.getLsbD_allOnes, Nat.testBit_xor, Nat.testBit_and, hi, decide_true, Bool.true_and]
  cases a.testBit i <;> cases b.testBit i <;> rfl
theorem sh_31 {k : Nat} (h : k < 32) : nI k &&& nI 31 = nI k := by
  rw [i_and]
  congr 1
  rw [show (31 : Nat) = 2 ^ 5 - 1 from rfl, Nat.and_two_pow_sub_one_eq_mod]
  exact Nat.mod_eq_of_lt h
theorem sh_k {k : Nat} (h : k < 31) : ((nI k).toBitVec.smod 32).toNat = k := by
  have : ∀ q : Fin 31, ((nI q.val).toBitVec.smod 32).toNat = q.val := by decide
  exact this ⟨k, h⟩
theorem i_shr {a k : Nat} (ha : a < 2 ^ 31) (hk : k < 31) : nI a >>> nI k = nI (a / 2 ^ k) := pk_shrN ha _ k (sh_k hk)
theorem i_shl {a k : Nat} (hk : k < 31) (h : a * 2 ^ k < 2 ^ 32) : nI a <<< nI k = nI (a * 2 ^ k) := pk_shlN _ k (sh_k hk) h
theorem i_one {k : Nat} (hk : k < 31) : nI 1 <<< (nI k &&& nI 31) = nI (2 ^ k) := by
  rw [sh_31 (by omega), i_shl hk, Nat.one_mul]
  rw [Nat.one_mul]
  exact Nat.pow_lt_pow_right (by omega) (by omega)
theorem n_bit (a k : Nat) : a / 2 ^ k &&& 1 = (a.testBit k).toNat := by
  rw [Nat.and_one_is_mod, ← Nat.shiftRight_eq_div_pow]
  rw [Nat.testBit, Nat.and_comm, Nat.and_one_is_mod]
  rcases Nat.mod_two_eq_zero_or_one (a >>> k) with h | h <;> simp [h]
theorem i_bit {a k : Nat} (ha : a < 2 ^ 31) (hk : k < 31) : (nI a >>> (nI k &&& nI 31)) &&& nI 1 = bI (a.testBit k) := by
  rw [sh_31 (by omega), i_shr ha hk, i_and, n_bit]
  rfl
-- what the comparisons of longs say
theorem lg_lt (x y : Int64) : (lg_cmp x y < 0) = (x.toInt < y.toInt) := by
  apply propext
  unfold lg_cmp
  simp only [gt_iff_lt, Int64.lt_iff_toInt_lt, ← Int64.toInt_inj]
  split
  · constructor
    · intro h; exact absurd h (by decide)
    · intro h; omega
  · split
    · constructor
      · intro h; exact absurd h (by decide)
      · intro h; omega
    · constructor
      · intro _; omega
      · intro _; decide
theorem lg_gt (x y : Int64) : (0 < lg_cmp x y) = (y.toInt < x.toInt) := by
  apply propext
  unfold lg_cmp
  simp only [gt_iff_lt, Int64.lt_iff_toInt_lt, ← Int64.toInt_inj]
  split
  · constructor
    · intro _; assumption
    · intro _; decide
  · split
    · constructor
      · intro h; exact absurd h (by decide)
      · intro h; omega
    · constructor
      · intro h; exact absurd h (by decide)
      · intro h; omega
theorem lg_eq (x y : Int64) : (lg_cmp x y = 0) = (x = y) := by
  apply propext
  unfold lg_cmp
  simp only [gt_iff_lt, Int64.lt_iff_toInt_lt, ← Int64.toInt_inj]
  split
  · constructor
    · intro h; exact absurd h (by decide)
    · intro h; omega
  · split
    · constructor
      · intro _; assumption
      · intro _; rfl
    · constructor
      · intro h; exact absurd h (by decide)
      · intro h; omega
theorem wd_add (a b : Int32) : (a.toInt64 + b.toInt64).toInt = a.toInt + b.toInt := by
  have h1 := Int32.toInt_lt a
  have h2 := Int32.le_toInt a
  have h3 := Int32.toInt_lt b
  have h4 := Int32.le_toInt b
  rw [Int64.toInt_add, Int32.toInt_toInt64, Int32.toInt_toInt64]
  apply Int.bmod_eq_of_le <;> omega
theorem nI_subI {a b : Nat} (ha : a < 2 ^ 30) (hb : b < 2 ^ 30) : (nI a - nI b).toInt = (a : Int) - b := pk_sub_toInt ha hb
def inB (a lo hi : Int) : Bool := decide (lo ≤ a ∧ a ≤ hi)
theorem inB_t {a lo hi : Int} : inB a lo hi = true ↔ lo ≤ a ∧ a ≤ hi := by simp [inB]
theorem inB_f {a lo hi : Int} : inB a lo hi = false ↔ ¬ (lo ≤ a ∧ a ≤ hi) := by simp [inB]
theorem nI_ofInt {a : Int32} {n : Nat} (h : 0 ≤ a.toInt) (h2 : a.toInt < n) : ∃ j, j < n ∧ a = nI j ∧ j < 2 ^ 31 := by
  have h1 := Int32.toInt_lt a
  refine ⟨a.toInt.toNat, by omega, ?_, by omega⟩
  apply Int32.toInt_inj.mp
  rw [nI_toInt (by omega)]
  omega
theorem n_31 {k : Nat} (h : k < 32) : k &&& 31 = k := by
  rw [show (31 : Nat) = 2 ^ 5 - 1 from rfl, Nat.and_two_pow_sub_one_eq_mod]
  exact Nat.mod_eq_of_lt h
theorem j_bit {a k : Nat} (ha : a < 2 ^ 31) (hk : k < 31) : (nI a >>> nI k) &&& nI 1 = bI (a.testBit k) := by
  rw [i_shr ha hk, i_and, n_bit]
  rfl
theorem j_one {k : Nat} (hk : k < 31) : nI 1 <<< nI k = nI (2 ^ k) := by
  rw [i_shl hk, Nat.one_mul]
  rw [Nat.one_mul]
  exact Nat.pow_lt_pow_right (by omega) (by omega)
-- loops
theorem fF_lt {n : Nat} (h : n < 4000000) : n < fF := Nat.lt_of_lt_of_le h fF_ge
theorem fF_s {n : Nat} (h : n < 4000000) : ∃ m, fF = n + m + 1 := ⟨fF - n - 1, by have := fF_lt h; omega⟩
theorem lp_run {σ ρ : Type} (L : Nat → σ → ρ) (S : Nat → σ) (N : Nat) (hs : ∀ m t, t < N → L (m + 1) (S t) = L m (S (t + 1))) {F : Nat} (hF : N < F) : ∃ m, L F (S 0) = L (m + 1) (S N) := by
  have key : ∀ d t m, t + d = N → L (m + d) (S t) = L m (S N) := by
    intro d
    induction d with
    | zero => intro t m h; simp at h; rw [h]; rfl
    | succ d ih =>
      intro t m h
      rw [← Nat.add_assoc, hs _ _ (by omega), ih (t + 1) m (by omega)]
  refine ⟨F - N - 1, ?_⟩
  have := key N 0 (F - N - 1 + 1) (by omega)
  rw [show F - N - 1 + 1 + N = F by omega] at this
  exact this
theorem lp_ex {σ ρ : Type} (L : Nat → σ → ρ) (P : Nat → σ → Prop) (N : Nat) (hs : ∀ t s, t < N → P t s → ∃ s', P (t + 1) s' ∧ ∀ m, L (m + 1) s = L m s') {F : Nat} (hF : N < F) {s : σ} (h0 : P 0 s) : ∃ s' m, P N s' ∧ L F s = L (m + 1) s' := by
  have key : ∀ d t m s, t + d = N → P t s → ∃ s', P N s' ∧ L (m + d) s = L m s' := by
    intro d
    induction d with
    | zero => intro t m s h hp; simp at h; rw [h] at hp; exact ⟨s, hp, rfl⟩
    | succ d ih =>
      intro t m s h hp
      obtain ⟨s1, h1, h2⟩ := hs t s (by omega) hp
      obtain ⟨s2, h3, h4⟩ := ih (t + 1) m s1 (by omega) h1
      exact ⟨s2, h3, by rw [← Nat.add_assoc, h2, h4]⟩
  obtain ⟨s', h1, h2⟩ := key N 0 (F - N - 1 + 1) s (by omega) h0
  refine ⟨s', F - N - 1, h1, ?_⟩
  rw [show F - N - 1 + 1 + N = F by omega] at h2
  exact h2
/-- a fold over t, t+1 .. -/
def rng {β : Type} (f : Nat → β → β) : Nat → β → β
  | 0, b => b
  | n + 1, b => f n (rng f n b)
theorem rng_0 {β : Type} (f : Nat → β → β) (b : β) : rng f 0 b = b := rfl
theorem rng_s {β : Type} (f : Nat → β → β) (n : Nat) (b : β) : rng f (n + 1) b = f n (rng f n b) := rfl
theorem rng_cong {β : Type} {f g : Nat → β → β} {n : Nat} (h : ∀ k, k < n → ∀ b, f k b = g k b) (b : β) : rng f n b = rng g n b := by
  induction n with
  | zero => rfl
  | succ n ih => rw [rng_s, rng_s, ih (fun k hk => h k (by omega)), h n (by omega)]
theorem rng_inv {β : Type} {f : Nat → β → β} (P : Nat → β → Prop) {n : Nat} {b : β} (h0 : P 0 b) (hs : ∀ k b, k < n → P k b → P (k + 1) (f k b)) : P n (rng f n b) := by
  induction n with
  | zero => exact h0
  | succ n ih => exact hs n _ (by omega) (ih (fun k b hk => hs k b (by omega)))
/-! frames: what a function leaves alone -/
def kF (P : Nat → Prop) (s t : fSt) : Prop := ∀ c, P c → ∀ i k, gI t c i k = gI s c i k ∧ gL t c i k = gL s c i k ∧ gA t c i k = gA s c i k ∧ gB t c i k = gB s c i k ∧ gP t c i k = gP s c i k
def kpO {α : Type} (P : Nat → Prop) (s0 : fSt) (o : Option (α × fSt)) : Prop := ∀ a s, o = some (a, s) → kF P s0 s
theorem kF_rf {P : Nat → Prop} (s : fSt) : kF P s s := fun _ _ _ _ => ⟨rfl, rfl, rfl, rfl, rfl⟩
theorem kF_I {P : Nat → Prop} {s0 s : fSt} {c i k : Nat} {v : Int32} (hc : ¬ P c) (h : kF P s0 s) : kF P s0 (sI s c i k v) := by
  intro c' hp i' k'
  obtain ⟨h1, h2, h3, h4, h5⟩ := h c' hp i' k'
  refine ⟨?_, h2, h3, h4, h5⟩
  rw [gI_sI, if_neg (show ¬ (c' = c ∧ i' = i ∧ k' = k) from fun q => hc (q.1 ▸ hp)), h1]
theorem kF_L {P : Nat → Prop} {s0 s : fSt} {c i k : Nat} {v : Int64} (hc : ¬ P c) (h : kF P s0 s) : kF P s0 (sL s c i k v) := by
  intro c' hp i' k'
  obtain ⟨h1, h2, h3, h4, h5⟩ := h c' hp i' k'
  refine ⟨h1, ?_, h3, h4, h5⟩
  rw [gL_sL, if_neg (show ¬ (c' = c ∧ i' = i ∧ k' = k) from fun q => hc (q.1 ▸ hp)), h2]
theorem kF_A {P : Nat → Prop} {s0 s : fSt} {c i k : Nat} {v : Nat → Int32} (hc : ¬ P c) (h : kF P s0 s) : kF P s0 (sA s c i k v) := by
  intro c' hp i' k'
  obtain ⟨h1, h2, h3, h4, h5⟩ := h c' hp i' k'
  refine ⟨h1, h2, ?_, h4, h5⟩
  rw [gA_sA, if_neg (show ¬ (c' = c ∧ i' = i ∧ k' = k) from fun q => hc (q.1 ▸ hp)), h3]
theorem kF_B {P : Nat → Prop} {s0 s : fSt} {c i k : Nat} {v : Nat → Int64} (hc : ¬ P c) (h : kF P s0 s) : kF P s0 (sB s c i k v) := by
  intro c' hp i' k'
  obtain ⟨h1, h2, h3, h4, h5⟩ := h c' hp i' k'
  refine ⟨h1, h2, h3, ?_, h5⟩
  rw [gB_sB, if_neg (show ¬ (c' = c ∧ i' = i ∧ k' = k) from fun q => hc (q.1 ▸ hp)), h4]
theorem kF_P {P : Nat → Prop} {s0 s : fSt} {c i k : Nat} {v : Nat} (hc : ¬ P c) (h : kF P s0 s) : kF P s0 (sP s c i k v) := by
  intro c' hp i' k'
  obtain ⟨h1, h2, h3, h4, h5⟩ := h c' hp i' k'
  refine ⟨h1, h2, h3, h4, ?_⟩
  rw [gP_sP, if_neg (show ¬ (c' = c ∧ i' = i ∧ k' = k) from fun q => hc (q.1 ▸ hp)), h5]
theorem kp_none {α : Type} {P : Nat → Prop} {s0 : fSt} : kpO P s0 (none : Option (α × fSt)) := fun _ _ h => by cases h
theorem kp_some {α : Type} {P : Nat → Prop} {s0 s : fSt} {a : α} (h : kF P s0 s) : kpO P s0 (some (a, s)) := fun _ _ e => by cases e; exact h
theorem kp_ite {α : Type} {P : Nat → Prop} {s0 : fSt} {c : Prop} [Decidable c] {a b : Option (α × fSt)} (h1 : kpO P s0 a) (h2 : kpO P s0 b) : kpO P s0 (if c then a else b) := by
  split
  · exact h1
  · exact h2
theorem kp_ix {α : Type} {P : Nat → Prop} {s0 : fSt} {x : Int32} {n : Nat} {k : Option (α × fSt)} (h : kpO P s0 k) : kpO P s0 (fIx x n k) := fun a s e => h a s (fIx_some e).2
theorem kp_nz {α ν : Type} [OfNat ν 0] [DecidableEq ν] {P : Nat → Prop} {s0 : fSt} {x : ν} {k : Option (α × fSt)} (h : kpO P s0 k) : kpO P s0 (fNz x k) := fun a s e => h a s (fNz_some e).2
theorem kp_bo {α : Type} {P : Nat → Prop} {s0 : fSt} {x : Int32} {k : Option (α × fSt)} (h : kpO P s0 k) : kpO P s0 (fBo x k) := fun a s e => h a s (fBo_some e).2
theorem kp_cp {α : Type} {P : Nat → Prop} {s0 : fSt} {x y z : Int32} {n m : Nat} {k : Option (α × fSt)} (h : kpO P s0 k) : kpO P s0 (fCp x y z n m k) := fun a s e => h a s (fCp_some e).2
theorem kp_nn {α : Type} {P : Nat → Prop} {s0 : fSt} {q : Nat} {f : Nat → Option (α × fSt)} (h : ∀ y, kpO P s0 (f y)) : kpO P s0 (fNn q f) := by
  cases q with
  | zero => exact kp_none
  | succ q => exact h q
theorem kp_nu {α : Type} {P : Nat → Prop} {s0 : fSt} {q : Nat} {k : Option (α × fSt)} {f : Nat → Option (α × fSt)} (h0 : kpO P s0 k) (h : ∀ y, kpO P s0 (f y)) : kpO P s0 (fNu q k f) := by
  cases q with
  | zero => exact h0
  | succ q => exact h q
theorem kp_bd {α β : Type} {P : Nat → Prop} {s0 : fSt} {o : Option (α × fSt)} {f : α → fSt → Option (β × fSt)} (h1 : kpO P s0 o) (h2 : ∀ a s, kF P s0 s → kpO P s0 (f a s)) : kpO P s0 (fBd o f) := by
  cases o with
  | none => exact kp_none
  | some q => exact h2 q.1 q.2 (h1 q.1 q.2 rfl)
theorem kp_lts {α : Type} {P : Nat → Prop} {s0 e : fSt} {f : fSt → Option (α × fSt)} (h1 : kF P s0 e) (h2 : ∀ s, kF P s0 s → kpO P s0 (f s)) : kpO P s0 (fLt e f) := h2 e h1
theorem kp_ltv {α ν : Type} {P : Nat → Prop} {s0 : fSt} {e : ν} {f : ν → Option (α × fSt)} (h2 : ∀ x, kpO P s0 (f x)) : kpO P s0 (fLt e f) := h2 e
theorem kp_j0 {α : Type} {P : Nat → Prop} {s0 : fSt} {f : fSt → Option (α × fSt)} {b : (fSt → Option (α × fSt)) → Option (α × fSt)} (h1 : ∀ s, kF P s0 s → kpO P s0 (f s)) (h2 : ∀ j, (∀ s, kF P s0 s → kpO P s0 (j s)) → kpO P s0 (b j)) : kpO P s0 (fJn f b) := h2 f h1
theorem kp_j1 {α ν : Type} {P : Nat → Prop} {s0 : fSt} {f : ν → fSt → Option (α × fSt)} {b : (ν → fSt → Option (α × fSt)) → Option (α × fSt)} (h1 : ∀ x s, kF P s0 s → kpO P s0 (f x s)) (h2 : ∀ j, (∀ x s, kF P s0 s → kpO P s0 (j x s)) → kpO P s0 (b j)) : kpO P s0 (fJn f b) := h2 f h1
theorem kp_j2 {α ν ξ : Type} {P : Nat → Prop} {s0 : fSt} {f : ν → ξ → fSt → Option (α × fSt)} {b : (ν → ξ → fSt → Option (α × fSt)) → Option (α × fSt)} (h1 : ∀ x y s, kF P s0 s → kpO P s0 (f x y s)) (h2 : ∀ j, (∀ x y s, kF P s0 s → kpO P s0 (j x y s)) → kpO P s0 (b j)) : kpO P s0 (fJn f b) := h2 f h1
