/-! layer 2: the state read and written, the words of a function, small numbers -/
theorem st_ext {s t : fSt} (h1 : ∀ c i k, gI s c i k = gI t c i k) (h2 : ∀ c i k, gL s c i k = gL t c i k) (h3 : ∀ c i k, gA s c i k = gA t c i k) (h4 : ∀ c i k, gB s c i k = gB t c i k) (h5 : ∀ c i k, gP s c i k = gP t c i k) : s = t := by
  obtain ⟨a1, a2, a3, a4, a5⟩ := s
  obtain ⟨b1, b2, b3, b4, b5⟩ := t
  have e1 : a1 = b1 := funext fun c => funext fun i => funext fun k => h1 c i k
  have e2 : a2 = b2 := funext fun c => funext fun i => funext fun k => h2 c i k
  have e3 : a3 = b3 := funext fun c => funext fun i => funext fun k => h3 c i k
  have e4 : a4 = b4 := funext fun c => funext fun i => funext fun k => h4 c i k
  have e5 : a5 = b5 := funext fun c => funext fun i => funext fun k => h5 c i k
  rw [e1, e2, e3, e4, e5]
-- the words of a function
theorem fLt_e {α β : Type} (e : α) (f : α → β) : fLt e f = f e := rfl
theorem fNn_s {β : Type} (q : Nat) (f : Nat → Option β) : fNn (q + 1) f = f q := rfl
theorem fNu_0 {β : Type} (k : Option β) (f : Nat → Option β) : fNu 0 k f = k := rfl
theorem fNu_s {β : Type} (q : Nat) (k : Option β) (f : Nat → Option β) : fNu (q + 1) k f = f q := rfl
theorem fIx_n {β : Type} {a n : Nat} {k : Option β} (h : a < n) (hn : n < 2 ^ 31) : fIx (nI a) n k = k := by
  apply fIx_in
  rw [nI_clamp (Nat.lt_trans h hn)]
  exact ⟨nI_pos' (Nat.lt_trans h hn), h⟩
theorem fNz_n {β : Type} {a : Nat} {k : Option β} (h0 : 0 < a) (h : a < 2 ^ 31) : fNz (nI a) k = k := if_neg (nI_ne0 h0 h)
theorem lN_ne0 {a : Nat} (h0 : 0 < a) (h : a < 2 ^ 63) : ¬ lN a = 0 := by
  intro q
  have e : (lN a).toInt = (0 : Int64).toInt := by rw [q]
  rw [pk_lT h] at e
  have : (0 : Int64).toInt = 0 := rfl
  omega
theorem fNzl_n {β : Type} {a : Nat} {k : Option β} (h0 : 0 < a) (h : a < 2 ^ 63) : fNz (lN a) k = k := if_neg (lN_ne0 h0 h)
theorem fBo_0 {β : Type} {k : Option β} : fBo (nI 0) k = k := if_pos (Or.inl rfl)
theorem fBo_1 {β : Type} {k : Option β} : fBo (nI 1) k = k := if_pos (Or.inr rfl)
theorem fCp_n {β : Type} {sp dp n n0 n1 : Nat} {k : Option β} (h1 : sp + n ≤ n0) (h2 : dp + n ≤ n1) (h3 : n0 < 2 ^ 31) (h4 : n1 < 2 ^ 31) : fCp (nI sp) (nI dp) (nI n) n0 n1 k = k := by
  unfold fCp
  rw [if_pos]
  rw [nI_clamp (by omega), nI_clamp (by omega), nI_clamp (by omega)]
  exact ⟨nI_pos' (by omega), nI_pos' (by omega), nI_pos' (by omega), h1, h2⟩
-- numbers as they are written
theorem i_lit (n : Nat) : (no_index (OfNat.ofNat n) : Int32) = nI (@OfNat.ofNat Nat n (instOfNatNat n)) := Eq.trans rfl rfl
theorem l_lit (n : Nat) : (no_index (OfNat.ofNat n) : Int64) = lN (@OfNat.ofNat Nat n (instOfNatNat n)) := Eq.trans rfl rfl
def mI : Int32 := -1
theorem i_neg1 : (-(nI 1) : Int32) = mI := Eq.trans rfl rfl
def xI (n : Nat) : Int32 := match n with
  | 0 => mI
  | n + 1 => nI n
theorem xI_0 : xI 0 = mI := Eq.trans rfl rfl
theorem xI_s (n : Nat) : xI (n + 1) = nI n := Eq.trans rfl rfl
theorem mI_toInt : mI.toInt = -1 := rfl
theorem nI_mI {a : Nat} (h : a < 2 ^ 31) : (nI a = mI) = False := by
  apply eq_false
  intro e
  have : (nI a).toInt = mI.toInt := by rw [e]
  rw [nI_toInt h, mI_toInt] at this
  omega
theorem mI_nI {a : Nat} (h : a < 2 ^ 31) : (mI = nI a) = False := by
  rw [show (mI = nI a) = (nI a = mI) from propext ⟨Eq.symm, Eq.symm⟩]
  exact nI_mI h
theorem mI_lt {a : Nat} (h : a < 2 ^ 31) : (mI < nI a) = True := by
  apply eq_true
  rw [Int32.lt_iff_toInt_lt, nI_toInt h, mI_toInt]
  omega
theorem nI_lt_m {a : Nat} (h : a < 2 ^ 31) : (nI a < mI) = False := by
  apply eq_false
  rw [Int32.lt_iff_toInt_lt, nI_toInt h, mI_toInt]
  omega
theorem mI_le {a : Nat} (h : a < 2 ^ 31) : (mI ≤ nI a) = True := by
  apply eq_true
  rw [Int32.le_iff_toInt_le, nI_toInt h, mI_toInt]
  omega
theorem nI_le_m {a : Nat} (h : a < 2 ^ 31) : (nI a ≤ mI) = False := by
  apply eq_false
  rw [Int32.le_iff_toInt_le, nI_toInt h, mI_toInt]
  omega
theorem xI_eq {a b : Nat} (ha : a < 2 ^ 31) (hb : b < 2 ^ 31) : xI a = xI b ↔ a = b := by
  cases a with
  | zero =>
    cases b with
    | zero => simp
    | succ b => simp [xI_0, xI_s, mI_nI (show b < 2 ^ 31 by omega)]
  | succ a =>
    cases b with
    | zero => simp [xI_0, xI_s, nI_mI (show a < 2 ^ 31 by omega)]
    | succ b => rw [xI_s, xI_s, nI_eq (by omega) (by omega)]; omega
theorem i_le (a b : Nat) (ha : a < 2 ^ 31) (hb : b < 2 ^ 31) : (nI a ≤ nI b) = (a ≤ b) := propext (nI_leI ha hb)
theorem i_lt (a b : Nat) (ha : a < 2 ^ 31) (hb : b < 2 ^ 31) : (nI a < nI b) = (a < b) := propext (nI_ltI ha hb)
theorem i_eq (a b : Nat) (ha : a < 2 ^ 31) (hb : b < 2 ^ 31) : (nI a = nI b) = (a = b) := propext (nI_eq ha hb)
theorem l_le (a b : Nat) (ha : a < 2 ^ 63) (hb : b < 2 ^ 63) : (lN a ≤ lN b) = (a ≤ b) := propext (pk_lLE ha hb)
theorem l_lt (a b : Nat) (ha : a < 2 ^ 63) (hb : b < 2 ^ 63) : (lN a < lN b) = (a < b) := propext (pk_lLT ha hb)
theorem l_eq (a b : Nat) (ha : a < 2 ^ 63) (hb : b < 2 ^ 63) : (lN a = lN b) = (a = b) := propext (pk_lEQ ha hb)
def bI (b : Bool) : Int32 := nI b.toNat
theorem bI_t : bI true = nI 1 := rfl
theorem bI_f : bI false = nI 0 := rfl
theorem bI_0 (b : Bool) : (bI b = nI 0) = (b = false) := by
  cases b
  · simp [bI]
  · simp only [bI, Bool.toNat_true]
    rw [i_eq 1 0 (by omega) (by omega)]
    simp
theorem bI_1 (b : Bool) : (bI b = nI 1) = (b = true) := by
  cases b
  · simp only [bI, Bool.toNat_false]
    rw [i_eq 0 1 (by omega) (by omega)]
    simp
  · simp [bI]
theorem bI_or (b : Bool) : bI b = 0 ∨ bI b = 1 := by
  cases b
  · exact Or.inl rfl
  · exact Or.inr rfl
theorem fBo_b {β : Type} (b : Bool) {k : Option β} : fBo (bI b) k = k := if_pos (bI_or b)
theorem nI_bv (n : Nat) : (nI n).toBitVec = BitVec.ofNat 32 n := rfl
theorem i_and (a b : Nat) : nI a &&& nI b = nI (a &&& b) := by
  apply Int32.toBitVec_inj.mp
  simp only [Int32.toBitVec_and, nI_bv]
  apply BitVec.eq_of_getLsbD_eq
  intro i hi
  simp [hi]
theorem i_or (a b : Nat) : nI a ||| nI b = nI (a ||| b) := by
  apply Int32.toBitVec_inj.mp
  simp only [Int32.toBitVec_or, nI_bv]
  apply BitVec.eq_of_getLsbD_eq
  intro i hi
  simp [hi]
theorem i_xor (a b : Nat) : nI a ^^^ nI b = nI (a ^^^ b) := by
  apply Int32.toBitVec_inj.mp
  simp only [Int32.toBitVec_xor, nI_bv]
  apply BitVec.eq_of_getLsbD_eq
  intro i hi
  simp [hi]
theorem i_andn (a b : Nat) : nI a &&& (nI b ^^^ mI) = nI (a ^^^ (a &&& b)) := by
  apply Int32.toBitVec_inj.mp
  have e : mI.toBitVec = BitVec.allOnes 32 := by decide
  simp only [Int32.toBitVec_and, Int32.toBitVec_xor, nI_bv, e]
  apply BitVec.eq_of_getLsbD_eq
  intro i hi
  simp only [BitVec.getLsbD_and, BitVec.getLsbD_xor, BitVec.getLsbD_ofNat, BitVec.getLsbD_allOnes, Nat.testBit_xor, Nat.testBit_and, hi, decide_true, Bool.true_and]
  cases a.testBit i <;> cases b.testBit i <;> rfl
theorem sh_31 {k : Nat} (h : k < 32) : nI k &&& nI 31 = nI k := by
  rw [i_and]
  congr 1
  rw [show (31 : Nat) = 2 ^ 5 - 1 from rfl, Nat.and_two_pow_sub_one_eq_mod]
  exact Nat.mod_eq_of_lt h
theorem sh_k {k : Nat} (h : k < 31) : ((nI k).toBitVec.smod 32).toNat = k := by
  have : ∀ q : Fin 31, ((nI q.val).toBitVec.smod 32).toNat = q.val := by decide
  exact this ⟨k, h⟩
theorem i_shr {a k : Nat} (ha : a < 2 ^ 31) (hk : k < 31) : nI a >>> nI k = nI (a / 2 ^ k) := pk_shrN ha _ k (sh_k hk)
theorem i_shl {a k : Nat} (hk : k < 31) (h : a * 2 ^ k < 2 ^ 32) : nI a <<< nI k = nI (a * 2 ^ k) := pk_shlN _ k (sh_k hk) h
theorem i_one {k : Nat} (hk : k < 31) : nI 1 <<< (nI k &&& nI 31) = nI (2 ^ k) := by
  rw [sh_31 (by omega), i_shl hk, Nat.one_mul]
  rw [Nat.one_mul]
  exact Nat.pow_lt_pow_right (by omega) (by omega)
theorem n_bit (a k : Nat) : a / 2 ^ k &&& 1 = (a.testBit k).toNat := by
  rw [Nat.and_one_is_mod, ← Nat.shiftRight_eq_div_pow]
  rw [Nat.testBit, Nat.and_comm, Nat.and_one_is_mod]
  rcases Nat.mod_two_eq_zero_or_one (a >>> k) with h | h <;> simp [h]
theorem i_bit {a k : Nat} (ha : a < 2 ^ 31) (hk : k < 31) : (nI a >>> (nI k &&& nI 31)) &&& nI 1 = bI (a.testBit k) := by
  rw [sh_31 (by omega), i_shr ha hk, i_and, n_bit]
  rfl
-- what the comparisons of longs say
theorem lg_lt (x y : Int64) : (lg_cmp x y < 0) = (x.toInt < y.toInt) := by
  apply propext
  unfold lg_cmp
  simp only [gt_iff_lt, Int64.lt_iff_toInt_lt, ← Int64.toInt_inj]
  split
  · constructor
    · intro h; exact absurd h (by decide)
    · intro h; omega
  · split
    · constructor
      · intro h; exact absurd h (by decide)
      · intro h; omega
    · constructor
      · intro _; omega
      · intro _; decide
theorem lg_gt (x y : Int64) : (0 < lg_cmp x y) = (y.toInt < x.toInt) := by
  apply propext
  unfold lg_cmp
  simp only [gt_iff_lt, Int64.lt_iff_toInt_lt, ← Int64.toInt_inj]
  split
  · constructor
    · intro _; assumption
    · intro _; decide
  · split
    · constructor
      · intro h; exact absurd h (by decide)
      · intro h; omega
    · constructor
      · intro h; exact absurd h (by decide)
      · intro h; omega
theorem lg_eq (x y : Int64) : (lg_cmp x y = 0) = (x = y) := by
  apply propext
  unfold lg_cmp
  simp only [gt_iff_lt, Int64.lt_iff_toInt_lt, ← Int64.toInt_inj]
  split
  · constructor
    · intro h; exact absurd h (by decide)
    · intro h; omega
  · split
    · constructor
      · intro _; assumption
      · intro _; rfl
    · constructor
      · intro h; exact absurd h (by decide)
      · intro h; omega
theorem wd_add (a b : Int32) : (a.toInt64 + b.toInt64).toInt = a.toInt + b.toInt := by
  have h1 := Int32.toInt_lt a
  have h2 := Int32.le_toInt a
  have h3 := Int32.toInt_lt b
  have h4 := Int32.le_toInt b
  rw [Int64.toInt_add, Int32.toInt_toInt64, Int32.toInt_toInt64]
  apply Int.bmod_eq_of_le <;> omega
theorem nI_subI {a b : Nat} (ha : a < 2 ^ 30) (hb : b < 2 ^ 30) : (nI a - nI b).toInt = (a : Int) - b := pk_sub_toInt ha hb
def inB (a lo hi : Int) : Bool := decide (lo ≤ a ∧ a ≤ hi)
theorem inB_t {a lo hi : Int} : inB a lo hi = true ↔ lo ≤ a ∧ a ≤ hi := by simp [inB]
theorem inB_f {a lo hi : Int} : inB a lo hi = false ↔ ¬ (lo ≤ a ∧ a ≤ hi) := by simp [inB]
theorem nI_ofInt {a : Int32} {n : Nat} (h : 0 ≤ a.toInt) (h2 : a.toInt < n) : ∃ j, j < n ∧ a = nI j ∧ j < 2 ^ 31 := by
  have h1 := Int32.toInt_lt a
  refine ⟨a.toInt.toNat, by omega, ?_, by omega⟩
  apply Int32.toInt_inj.mp
  rw [nI_toInt (by omega)]
  omega
theorem n_31 {k : Nat} (h : k < 32) : k &&& 31 = k := by
  rw [show (31 : Nat) = 2 ^ 5 - 1 from rfl, Nat.and_two_pow_sub_one_eq_mod]
  exact Nat.mod_eq_of_lt h
theorem j_bit {a k : Nat} (ha : a < 2 ^ 31) (hk : k < 31) : (nI a >>> nI k) &&& nI 1 = bI (a.testBit k) := by
  rw [i_shr ha hk, i_and, n_bit]
  rfl
theorem j_one {k : Nat} (hk : k < 31) : nI 1 <<< nI k = nI (2 ^ k) := by
  rw [i_shl hk, Nat.one_mul]
  rw [Nat.one_mul]
  exact Nat.pow_lt_pow_right (by omega) (by omega)
-- loops
theorem fF_lt {n : Nat} (h : n < 4000000) : n < fF := Nat.lt_of_lt_of_le h fF_ge
theorem fF_s {n : Nat} (h : n < 4000000) : ∃ m, fF = n + m + 1 := ⟨fF - n - 1, by have := fF_lt h; omega⟩
theorem lp_run {σ ρ : Type} (L : Nat → σ → ρ) (S : Nat → σ) (N : Nat) (hs : ∀ m t, t < N → L (m + 1) (S t) = L m (S (t + 1))) {F : Nat} (hF : N < F) : ∃ m, L F (S 0) = L (m + 1) (S N) := by
  have key : ∀ d t m, t + d = N → L (m + d) (S t) = L m (S N) := by
    intro d
    induction d with
    | zero => intro t m h; simp at h; rw [h]; rfl
    | succ d ih =>
      intro t m h
      rw [← Nat.add_assoc, hs _ _ (by omega), ih (t + 1) m (by omega)]
  refine ⟨F - N - 1, ?_⟩
  have := key N 0 (F - N - 1 + 1) (by omega)
  rw [show F - N - 1 + 1 + N = F by omega] at this
  exact this
theorem lp_ex {σ ρ : Type} (L : Nat → σ → ρ) (P : Nat → σ → Prop) (N : Nat) (hs : ∀ t s, t < N → P t s → ∃ s', P (t + 1) s' ∧ ∀ m, L (m + 1) s = L m s') {F : Nat} (hF : N < F) {s : σ} (h0 : P 0 s) : ∃ s' m, P N s' ∧ L F s = L (m + 1) s' := by
  have key : ∀ d t m s, t + d = N → P t s → ∃ s', P N s' ∧ L (m + d) s = L m s' := by
    intro d
    induction d with
    | zero => intro t m s h hp; simp at h; rw [h] at hp; exact ⟨s, hp, rfl⟩
    | succ d ih =>
      intro t m s h hp
      obtain ⟨s1, h1, h2⟩ := hs t s (by omega) hp
      obtain ⟨s2, h3, h4⟩ := ih (t + 1) m s1 (by omega) h1
      exact ⟨s2, h3, by rw [← Nat.add_assoc, h2, h4]⟩
  obtain ⟨s', h1, h2⟩ := key N 0 (F - N - 1 + 1) s (by omega) h0
  refine ⟨s', F - N - 1, h1, ?_⟩
  rw [show F - N - 1 + 1 + N = F by omega] at h2
  exact h2
/-- a fold over t, t+1 .. -/
def rng {β : Type} (f : Nat → β → β) : Nat → β → β
  | 0, b => b
  | n + 1, b => f n (rng f n b)
theorem rng_0 {β : Type} (f : Nat → β → β) (b : β) : rng f 0 b = b := rfl
theorem rng_s {β : Type} (f : Nat → β → β) (n : Nat) (b : β) : rng f (n + 1) b = f n (rng f n b) := rfl
theorem rng_cong {β : Type} {f g : Nat → β → β} {n : Nat} (h : ∀ k, k < n → ∀ b, f k b = g k b) (b : β) : rng f n b = rng g n b := by
  induction n with
  | zero => rfl
  | succ n ih => rw [rng_s, rng_s, ih (fun k hk => h k (by omega)), h n (by omega)]
theorem rng_inv {β : Type} {f : Nat → β → β} (P : Nat → β → Prop) {n : Nat} {b : β} (h0 : P 0 b) (hs : ∀ k b, k < n → P k b → P (k + 1) (f k b)) : P n (rng f n b) := by
  induction n with
  | zero => exact h0
  | succ n ih => exact hs n _ (by omega) (ih (fun k b hk => hs k b (by omega)))
/-! frames: what a function leaves alone -/
def kF (P : Nat → Prop) (s t : fSt) : Prop := ∀ c, P c → ∀ i k, gI t c i k = gI s c i k ∧ gL t c i k = gL s c i k ∧ gA t c i k = gA s c i k ∧ gB t c i k = gB s c i k ∧ gP t c i k = gP s c i k
def kpO {α : Type} (P : Nat → Prop) (s0 : fSt) (o : Option (α × fSt)) : Prop := ∀ a s, o = some (a, s) → kF P s0 s
theorem kF_rf {P : Nat → Prop} (s : fSt) : kF P s s := fun _ _ _ _ => ⟨rfl, rfl, rfl, rfl, rfl⟩
theorem kF_I {P : Nat → Prop} {s0 s : fSt} {c i k : Nat} {v : Int32} (hc : ¬ P c) (h : kF P s0 s) : kF P s0 (sI s c i k v) := by
  intro c' hp i' k'
  obtain ⟨h1, h2, h3, h4, h5⟩ := h c' hp i' k'
  refine ⟨?_, h2, h3, h4, h5⟩
  rw [gI_sI, if_neg (show ¬ (c' = c ∧ i' = i ∧ k' = k) from fun q => hc (q.1 ▸ hp)), h1]
theorem kF_L {P : Nat → Prop} {s0 s : fSt} {c i k : Nat} {v : Int64} (hc : ¬ P c) (h : kF P s0 s) : kF P s0 (sL s c i k v) := by
  intro c' hp i' k'
  obtain ⟨h1, h2, h3, h4, h5⟩ := h c' hp i' k'
  refine ⟨h1, ?_, h3, h4, h5⟩
  rw [gL_sL, if_neg (show ¬ (c' = c ∧ i' = i ∧ k' = k) from fun q => hc (q.1 ▸ hp)), h2]
theorem kF_A {P : Nat → Prop} {s0 s : fSt} {c i k : Nat} {v : Nat → Int32} (hc : ¬ P c) (h : kF P s0 s) : kF P s0 (sA s c i k v) := by
  intro c' hp i' k'
  obtain ⟨h1, h2, h3, h4, h5⟩ := h c' hp i' k'
  refine ⟨h1, h2, ?_, h4, h5⟩
  rw [gA_sA, if_neg (show ¬ (c' = c ∧ i' = i ∧ k' = k) from fun q => hc (q.1 ▸ hp)), h3]
theorem kF_B {P : Nat → Prop} {s0 s : fSt} {c i k : Nat} {v : Nat → Int64} (hc : ¬ P c) (h : kF P s0 s) : kF P s0 (sB s c i k v) := by
  intro c' hp i' k'
  obtain ⟨h1, h2, h3, h4, h5⟩ := h c' hp i' k'
  refine ⟨h1, h2, h3, ?_, h5⟩
  rw [gB_sB, if_neg (show ¬ (c' = c ∧ i' = i ∧ k' = k) from fun q => hc (q.1 ▸ hp)), h4]
theorem kF_P {P : Nat → Prop} {s0 s : fSt} {c i k : Nat} {v : Nat} (hc : ¬ P c) (h : kF P s0 s) : kF P s0 (sP s c i k v) := by
  intro c' hp i' k'
  obtain ⟨h1, h2, h3, h4, h5⟩ := h c' hp i' k'
  refine ⟨h1, h2, h3, h4, ?_⟩
  rw [gP_sP, if_neg (show ¬ (c' = c ∧ i' = i ∧ k' = k) from fun q => hc (q.1 ▸ hp)), h5]
theorem kp_none {α : Type} {P : Nat → Prop} {s0 : fSt} : kpO P s0 (none : Option (α × fSt)) := fun _ _ h => by cases h
theorem kp_some {α : Type} {P : Nat → Prop} {s0 s : fSt} {a : α} (h : kF P s0 s) : kpO P s0 (some (a, s)) := fun _ _ e => by cases e; exact h
theorem kp_ite {α : Type} {P : Nat → Prop} {s0 : fSt} {c : Prop} [Decidable c] {a b : Option (α × fSt)} (h1 : kpO P s0 a) (h2 : kpO P s0 b) : kpO P s0 (if c then a else b) := by
  split
  · exact h1
  · exact h2
theorem kp_ix {α : Type} {P : Nat → Prop} {s0 : fSt} {x : Int32} {n : Nat} {k : Option (α × fSt)} (h : kpO P s0 k) : kpO P s0 (fIx x n k) := fun a s e => h a s (fIx_some e).2
theorem kp_nz {α ν : Type} [OfNat ν 0] [DecidableEq ν] {P : Nat → Prop} {s0 : fSt} {x : ν} {k : Option (α × fSt)} (h : kpO P s0 k) : kpO P s0 (fNz x k) := fun a s e => h a s (fNz_some e).2
theorem kp_bo {α : Type} {P : Nat → Prop} {s0 : fSt} {x : Int32} {k : Option (α × fSt)} (h : kpO P s0 k) : kpO P s0 (fBo x k) := fun a s e => h a s (fBo_some e).2
theorem kp_cp {α : Type} {P : Nat → Prop} {s0 : fSt} {x y z : Int32} {n m : Nat} {k : Option (α × fSt)} (h : kpO P s0 k) : kpO P s0 (fCp x y z n m k) := fun a s e => h a s (fCp_some e).2
theorem kp_nn {α : Type} {P : Nat → Prop} {s0 : fSt} {q : Nat} {f : Nat → Option (α × fSt)} (h : ∀ y, kpO P s0 (f y)) : kpO P s0 (fNn q f) := by
  cases q with
  | zero => exact kp_none
  | succ q => exact h q
theorem kp_nu {α : Type} {P : Nat → Prop} {s0 : fSt} {q : Nat} {k : Option (α × fSt)} {f : Nat → Option (α × fSt)} (h0 : kpO P s0 k) (h : ∀ y, kpO P s0 (f y)) : kpO P s0 (fNu q k f) := by
  cases q with
  | zero => exact h0
  | succ q => exact h q
theorem kp_bd {α β : Type} {P : Nat → Prop} {s0 : fSt} {o : Option (α × fSt)} {f : α → fSt → Option (β × fSt)} (h1 : kpO P s0 o) (h2 : ∀ a s, kF P s0 s → kpO P s0 (f a s)) : kpO P s0 (fBd o f) := by
  cases o with
  | none => exact kp_none
  | some q => exact h2 q.1 q.2 (h1 q.1 q.2 rfl)
theorem kp_lts {α : Type} {P : Nat → Prop} {s0 e : fSt} {f : fSt → Option (α × fSt)} (h1 : kF P s0 e) (h2 : ∀ s, kF P s0 s → kpO P s0 (f s)) : kpO P s0 (fLt e f) := h2 e h1
theorem kp_ltv {α ν : Type} {P : Nat → Prop} {s0 : fSt} {e : ν} {f : ν → Option (α × fSt)} (h2 : ∀ x, kpO P s0 (f x)) : kpO P s0 (fLt e f) := h2 e
theorem kp_j0 {α : Type} {P : Nat → Prop} {s0 : fSt} {f : fSt → Option (α × fSt)} {b : (fSt → Option (α × fSt)) → Option (α × fSt)} (h1 : ∀ s, kF P s0 s → kpO P s0 (f s)) (h2 : ∀ j, (∀ s, kF P s0 s → kpO P s0 (j s)) → kpO P s0 (b j)) : kpO P s0 (fJn f b) := h2 f h1
theorem kp_j1 {α ν : Type} {P : Nat → Prop} {s0 : fSt} {f : ν → fSt → Option (α × fSt)} {b : (ν → fSt → Option (α × fSt)) → Option (α × fSt)} (h1 : ∀ x s, kF P s0 s → kpO P s0 (f x s)) (h2 : ∀ j, (∀ x s, kF P s0 s → kpO P s0 (j x s)) → kpO P s0 (b j)) : kpO P s0 (fJn f b) := h2 f h1
theorem kp_j2 {α ν ξ : Type} {P : Nat → Prop} {s0 : fSt} {f : ν → ξ → fSt → Option (α × fSt)} {b : (ν → ξ → fSt → Option (α × fSt)) → Option (α × fSt)} (h1 : ∀ x y s, kF P s0 s → kpO P s0 (f x y s)) (h2 : ∀ j, (∀ x y s, kF P s0 s → kpO P s0 (j x y s)) → kpO P s0 (b j)) : kpO P s0 (fJn f b) := h2 f h1
/-! layer 2: the relation of the class's state (sc) and the reference's (sm) -/
-- a theatre as numbers: G k is the reference's cell k of a block; 49..120, 138 + 4 i, 139 + 4 i and 220 + 7 j are told as n + 1, 0: none
def gWf (G : Nat → Nat) : Prop :=
  (G 0 ≤ 6 ∧ G 1 ≤ 6 ∧ G 2 ≤ 12 ∧ G 3 ≤ 4) ∧ (G 4 < 4096 ∧ G 5 < 64 ∧ G 6 ≤ 20) ∧
  (∀ a, a < G 1 → G (7 + a) ≤ 99 ∧ G (13 + a) ≤ 999 ∧ G (19 + a) < 64) ∧
  (∀ s, s < G 2 → (1 ≤ G (25 + s) ∧ G (25 + s) ≤ 20) ∧ G (37 + s) < 2 ^ G 0 ∧ G (49 + s) ≤ 9 ∧ (G (61 + s) ≤ s ∧ G (73 + s) ≤ s ∧ G (85 + s) ≤ s ∧ G (97 + s) ≤ s) ∧ G (109 + s) ≤ 6) ∧
  (∀ k, k < G 3 → (1 ≤ G (121 + k) ∧ G (121 + k) ≤ 30) ∧ G (125 + k) + G (129 + k) + G (133 + k) ≤ 16) ∧
  (∀ i, i < G 6 → 0 < G (137 + 4 * i) ∧ G (137 + 4 * i) < 4096 ∧ G (138 + 4 * i) ≤ 9 ∧ G (139 + 4 * i) ≤ 4 ∧ G (140 + 4 * i) < 1048576)
-- a block of the reference
def rBlk (f : Nat → Int32) (G : Nat → Nat) : Prop :=
  (f 0 = nI (G 0) ∧ f 1 = nI (G 1) ∧ f 2 = nI (G 2) ∧ f 3 = nI (G 3) ∧ f 4 = nI (G 4) ∧ f 5 = nI (G 5) ∧ f 6 = nI (G 6)) ∧
  (∀ a, a < G 1 → f (7 + a) = nI (G (7 + a)) ∧ f (13 + a) = nI (G (13 + a)) ∧ f (19 + a) = nI (G (19 + a))) ∧
  (∀ s, s < G 2 → f (25 + s) = nI (G (25 + s)) ∧ f (37 + s) = nI (G (37 + s)) ∧ f (49 + s) = xI (G (49 + s)) ∧ f (61 + s) = xI (G (61 + s)) ∧ f (73 + s) = xI (G (73 + s)) ∧ f (85 + s) = xI (G (85 + s)) ∧ f (97 + s) = xI (G (97 + s)) ∧ f (109 + s) = xI (G (109 + s))) ∧
  (∀ k, k < G 3 → f (121 + k) = nI (G (121 + k)) ∧ f (125 + k) = nI (G (125 + k)) ∧ f (129 + k) = nI (G (129 + k)) ∧ f (133 + k) = nI (G (133 + k))) ∧
  (∀ i, i < G 6 → f (137 + 4 * i) = nI (G (137 + 4 * i)) ∧ f (138 + 4 * i) = xI (G (138 + 4 * i)) ∧ f (139 + 4 * i) = xI (G (139 + 4 * i)) ∧ f (140 + 4 * i) = nI (G (140 + 4 * i))) ∧
  ((f 217 = nI (G 217) ∧ f 218 = nI (G 218) ∧ G 217 ≤ 1 ∧ (G 217 = 0 → G 218 = 0) ∧ G 218 ≤ 30) ∧
  (∀ j, j < G 218 → f (219 + 7 * j) = nI (G (219 + 7 * j)) ∧ f (220 + 7 * j) = xI (G (220 + 7 * j)) ∧ f (225 + 7 * j) = nI (G (225 + 7 * j)) ∧
    (G (219 + 7 * j) = 5 → f (221 + 7 * j) = nI (G (221 + 7 * j)) ∧ (G (221 + 7 * j) = 3 → f (222 + 7 * j) = nI (G (222 + 7 * j)) ∧ f (223 + 7 * j) = nI (G (223 + 7 * j))))))
-- a Stage of the class
def rStg (sc : fSt) (q : Nat) (G : Nat → Nat) : Prop :=
  (gI sc 7 q 0 = nI (G 0) ∧ gI sc 7 q 1 = nI (G 1) ∧ gI sc 7 q 2 = nI (G 2) ∧ gI sc 7 q 3 = nI (G 3)) ∧
  (∀ a, a < G 1 → gA sc 7 q 5 a = nI (G (7 + a)) ∧ gA sc 7 q 6 a = nI (G (13 + a)) ∧ gA sc 7 q 7 a = nI (G (19 + a))) ∧
  (∀ s, s < G 2 → gA sc 7 q 8 s = nI (G (25 + s)) ∧ gA sc 7 q 9 s = nI (G (37 + s)) ∧ gA sc 7 q 10 s = xI (G (49 + s)) ∧ gA sc 7 q 11 (s * 4) = xI (G (61 + s)) ∧ gA sc 7 q 11 (s * 4 + 1) = xI (G (73 + s)) ∧ gA sc 7 q 11 (s * 4 + 2) = xI (G (85 + s)) ∧ gA sc 7 q 11 (s * 4 + 3) = xI (G (97 + s)) ∧ gA sc 7 q 12 s = xI (G (109 + s))) ∧
  (∀ k, k < G 3 → gA sc 7 q 13 k = nI (G (121 + k)) ∧ gA sc 7 q 14 (k * 4) = nI (16 - G (125 + k) - G (129 + k) - G (133 + k)) ∧ gA sc 7 q 14 (k * 4 + 1) = nI (G (125 + k)) ∧ gA sc 7 q 14 (k * 4 + 2) = nI (G (129 + k)) ∧ gA sc 7 q 14 (k * 4 + 3) = nI (G (133 + k)))
-- its names
def rNam (sc : fSt) (q : Nat) (G : Nat → Nat) (W : Nat → Int64) : Prop :=
  (∀ k, k < G 0 → gB sc 7 q 1 k = W k) ∧ (∀ k, k < G 1 → gB sc 7 q 2 k = W (6 + k)) ∧ (∀ k, k < G 2 → gB sc 7 q 3 k = W (12 + k)) ∧ (∀ k, k < G 3 → gB sc 7 q 4 k = W (24 + k))
-- a Week's item i is step j
def rStp (sc : fSt) (w : Nat) (G : Nat → Nat) (j i : Nat) : Prop :=
  let k := G (219 + 7 * j)
  let a := G (220 + 7 * j)
  let t := G (221 + 7 * j)
  gA sc 9 w 2 i = xI a ∧
  ((k = 0 ∧ gA sc 9 w 1 i = nI 19 ∧ a ≤ G 3) ∨ (k = 1 ∧ gA sc 9 w 1 i = nI 20 ∧ 0 < a ∧ a ≤ G 2) ∨ (k = 2 ∧ gA sc 9 w 1 i = nI 21 ∧ 0 < a ∧ a ≤ G 2) ∨ (k = 3 ∧ gA sc 9 w 1 i = nI 22 ∧ 0 < a ∧ a ≤ G 0) ∨ (k = 4 ∧ gA sc 9 w 1 i = nI 23 ∧ 0 < a ∧ a ≤ G 0) ∨ (k = 6 ∧ gA sc 9 w 1 i = nI 29 ∧ 1 < a ∧ a ≤ 100) ∨ (k = 7 ∧ gA sc 9 w 1 i = nI 31)) ∨
  (k = 5 ∧ ((t = 0 ∧ gA sc 9 w 2 i = xI a ∧ gA sc 9 w 1 i = nI 25 ∧ 0 < a ∧ a ≤ G 2) ∨ (t = 1 ∧ gA sc 9 w 2 i = xI a ∧ gA sc 9 w 1 i = nI 26 ∧ 0 < a ∧ a ≤ G 0) ∨ (t = 2 ∧ gA sc 9 w 2 i = xI a ∧ gA sc 9 w 1 i = nI 28 ∧ 0 < a ∧ a ≤ 10) ∨
    (t = 3 ∧ gA sc 9 w 1 i = nI 27 ∧ gA sc 9 w 2 i = nI (G (223 + 7 * j)) ∧ gA sc 9 w 3 i = nI (G (222 + 7 * j)) ∧ G (223 + 7 * j) ≤ 99 ∧ G (222 + 7 * j) < 128)))
-- the steps from .. to - 1 are the items i .. i' - 1
def rBod (sc : fSt) (w : Nat) (G : Nat → Nat) : Nat → Nat → Nat → Nat → Nat → Prop
  | 0, from', to, i, i' => from' = to ∧ i' = i
  | n + 1, from', to, i, i' => (from' = to ∧ i' = i) ∨ (from' < to ∧ rStp sc w G from' i ∧
      ((G (219 + 7 * from') ≠ 5 ∧ G (219 + 7 * from') ≠ 6 ∧ G (225 + 7 * from') = from' + 1 ∧ rBod sc w G n (from' + 1) to (i + 1) i') ∨
       ((G (219 + 7 * from') = 5 ∨ G (219 + 7 * from') = 6) ∧ from' < G (225 + 7 * from') ∧ G (225 + 7 * from') ≤ to ∧ ∃ m, rBod sc w G n (from' + 1) (G (225 + 7 * from')) (i + 1) m ∧ gA sc 9 w 1 m = nI 30 ∧ gA sc 9 w 4 m = nI i ∧ gA sc 9 w 4 i = nI m ∧ m < 60 ∧ rBod sc w G n (G (225 + 7 * from')) to (m + 1) i')))
def rWk (sc : fSt) (h : Nat) (G : Nat → Nat) : Prop :=
  (G 217 = 0 ∧ gP sc 2 h 1 = 0) ∨ (G 217 = 1 ∧ ∃ w m, gP sc 2 h 1 = w + 1 ∧ gI sc 9 w 0 = nI m ∧ m ≤ 60 ∧ gI sc 9 w 1 = nI (G 218) ∧ rBod sc w G 31 0 (G 218) 0 m)
-- a House of the class
def rBok (sc : fSt) (h : Nat) (G : Nat → Nat) : Prop :=
  gI sc 0 h 0 = nI (G 6) ∧ ∀ i, i < G 6 → gA sc 0 h 1 (i * 4) = nI (G (137 + 4 * i)) ∧ gA sc 0 h 1 (i * 4 + 1) = xI (G (138 + 4 * i)) ∧ gA sc 0 h 1 (i * 4 + 2) = xI (G (139 + 4 * i)) ∧ gA sc 0 h 1 (i * 4 + 3) = nI (G (140 + 4 * i))
def rHou (sc : fSt) (h q : Nat) (G : Nat → Nat) : Prop :=
  gP sc 2 h 0 = q + 1 ∧ rStg sc q G ∧ (gI sc 2 h 2 = nI (G 4) ∧ gI sc 2 h 3 = nI (G 5)) ∧ rBok sc h G
def rOne (sc sm : fSt) (h q : Nat) (G : Nat → Nat) : Prop :=
  gWf G ∧ rHou sc h q G ∧ rBlk (fun k => gA sm 12 0 5 (430 * h + k)) G ∧ rNam sc q G (fun k => gB sm 12 0 7 (28 * h + k)) ∧ rWk sc h G
-- the rest
def rA (sc sm : fSt) : Prop := gI sc 11 0 2 = gI sm 12 0 0
def rF (sc sm : fSt) : Prop := gL sc 11 0 3 = gL sm 12 0 2 ∧ gL sc 11 0 4 = gL sm 12 0 3
def rQ (sc sm : fSt) : Prop := gI sc 11 0 5 = gI sm 12 0 10 ∧ gI sc 11 0 6 = gI sm 12 0 11
def rT (sc sm : fSt) : Prop := ∀ t, t < 4 → (gI sc 8 t 1 = nI 0 ∧ gA sm 12 0 2 t = mI) ∨
  (gI sc 8 t 1 = nI 1 ∧ ∃ so ma, so ≤ 3 ∧ ma ≤ 60 ∧ gI sc 8 t 2 = nI so ∧ gA sm 12 0 1 t = nI so ∧ gI sc 8 t 3 = nI ma ∧ gA sm 12 0 2 t = nI ma ∧ ∀ k, k < ma → gB sc 8 t 1 k = gB sm 12 0 3 (60 * t + k))
def rP (sc sm : fSt) : Prop := (∃ n, n ≤ 900 ∧ gI sc 5 0 2 = nI n ∧ gI sm 12 0 8 = nI n ∧ ∀ k, k < n → gA sc 5 0 1 k = gA sm 12 0 4 k ∧ -128 ≤ (gA sm 12 0 4 k).toInt ∧ (gA sm 12 0 4 k).toInt ≤ 127) ∧ ∀ k, k < 32 → gB sc 5 0 2 k = fWd k
def rS (sc sm : fSt) : Prop := ∃ n, n ≤ 12 ∧ gI sc 11 0 17 = nI n ∧ gI sm 12 0 46 = nI n ∧ ∀ k, k < n → gA sc 11 0 3 k = gA sm 12 0 16 k
def rC (sc sm : fSt) : Prop := (gI sm 12 0 54 = nI 0 ∧ ∀ r, r < 6 → gA sc 1 0 1 r = mI) ∨ (gI sm 12 0 54 = nI 1 ∧ ∀ r, r < 6 → ∃ p, p ≤ 6 ∧ gA sc 1 0 1 r = xI p ∧ gA sm 12 0 20 r = xI p)
def rW (sc sm : fSt) : Prop := (gI sc 10 0 3 = nI 0 ∧ gI sm 12 0 56 = nI 0) ∨
  (gI sc 10 0 3 = nI 1 ∧ gI sm 12 0 56 = nI 1 ∧ gI sc 10 0 6 = gA sm 12 0 22 0 ∧ gI sc 10 0 7 = gA sm 12 0 22 1 ∧ gI sc 10 0 5 = gA sm 12 0 22 2 ∧ gI sc 10 0 8 = gA sm 12 0 22 3 ∧ gI sc 10 0 9 = gA sm 12 0 22 4)
def rO (sc : fSt) : Prop := ∀ k, k < 768 → gB sc 4 0 1 k = 0
def rH (sc sm : fSt) : Prop := ∃ (n : Nat) (qq : Nat → Nat) (GG : Nat → Nat → Nat), n ≤ 3 ∧ gI sc 11 0 9 = nI n ∧ gI sm 12 0 23 = nI n ∧ ∀ h, h ≤ n → rOne sc sm h (qq h) (GG h)
def RR (sc sm : fSt) : Prop := rA sc sm ∧ rF sc sm ∧ rQ sc sm ∧ rT sc sm ∧ rP sc sm ∧ rS sc sm ∧ rC sc sm ∧ rW sc sm ∧ rO sc ∧ rH sc sm
def RS (st : fSt) : Prop := RR st st
-- the relation reads only the class's cells of the one, the reference's of the other
theorem rStp_c {sc sc' : fSt} (h : kF (fun c => c ≠ 12) sc sc') {w : Nat} {G : Nat → Nat} {j i : Nat} (H : rStp sc w G j i) : rStp sc' w G j i := by
  have e := fun i k => (h 9 (by decide) i k).2.2.1
  unfold rStp at *
  simp only [e]
  exact H
theorem rBod_c {sc sc' : fSt} (h : kF (fun c => c ≠ 12) sc sc') {w : Nat} {G : Nat → Nat} : ∀ n a b i i', rBod sc w G n a b i i' → rBod sc' w G n a b i i' := by
  have e := fun i k => (h 9 (by decide) i k).2.2.1
  intro n
  induction n with
  | zero => intro a b i i' H; exact H
  | succ n ih =>
    intro a b i i' H
    rcases H with H | ⟨h1, h2, H⟩
    · exact Or.inl H
    · refine Or.inr ⟨h1, rStp_c h h2, ?_⟩
      rcases H with ⟨a1, a2, a3, a4⟩ | ⟨a1, a2, a3, m, b1, b2, b3, b4, b5, b6⟩
      · exact Or.inl ⟨a1, a2, a3, ih _ _ _ _ a4⟩
      · exact Or.inr ⟨a1, a2, a3, m, ih _ _ _ _ b1, by rw [e]; exact b2, by rw [e]; exact b3, by rw [e]; exact b4, b5, ih _ _ _ _ b6⟩
theorem rOne_c {sc sc' sm sm' : fSt} (h : kF (fun c => c ≠ 12) sc sc') (g : kF (fun c => c = 12) sm sm') {k q : Nat} {G : Nat → Nat} (H : rOne sc sm k q G) : rOne sc' sm' k q G := by
  have e2 := fun i k => (h 2 (by decide) i k).1
  have e2p := fun i k => (h 2 (by decide) i k).2.2.2.2
  have e0 := fun i k => (h 0 (by decide) i k).1
  have e0a := fun i k => (h 0 (by decide) i k).2.2.1
  have e7 := fun i k => (h 7 (by decide) i k).1
  have e7a := fun i k => (h 7 (by decide) i k).2.2.1
  have e7b := fun i k => (h 7 (by decide) i k).2.2.2.1
  have e9 := fun i k => (h 9 (by decide) i k).1
  have ea := fun i k => (g 12 rfl i k).2.2.1
  have eb := fun i k => (g 12 rfl i k).2.2.2.1
  obtain ⟨h1, h2, h3, h4, h5⟩ := H
  refine ⟨h1, ?_, ?_, ?_, ?_⟩
  · unfold rHou rStg rBok at *
    simp only [e2, e2p, e0, e0a, e7, e7a]
    exact h2
  · simp only [ea]
    exact h3
  · unfold rNam at *
    simp only [e7b, eb]
    exact h4
  · unfold rWk at *
    simp only [e2p, e9]
    rcases h5 with h5 | ⟨a, w, m, b1, b2, b3, b4, b5⟩
    · exact Or.inl h5
    · exact Or.inr ⟨a, w, m, b1, b2, b3, b4, rBod_c h _ _ _ _ _ b5⟩
theorem RR_c {sc sc' sm sm' : fSt} (h : kF (fun c => c ≠ 12) sc sc') (g : kF (fun c => c = 12) sm sm') (H : RR sc sm) : RR sc' sm' := by
  have e11 := fun i k => (h 11 (by decide) i k).1
  have e11l := fun i k => (h 11 (by decide) i k).2.1
  have e11a := fun i k => (h 11 (by decide) i k).2.2.1
  have e8 := fun i k => (h 8 (by decide) i k).1
  have e8b := fun i k => (h 8 (by decide) i k).2.2.2.1
  have e5 := fun i k => (h 5 (by decide) i k).1
  have e5a := fun i k => (h 5 (by decide) i k).2.2.1
  have e5b := fun i k => (h 5 (by decide) i k).2.2.2.1
  have e1a := fun i k => (h 1 (by decide) i k).2.2.1
  have e10 := fun i k => (h 10 (by decide) i k).1
  have e4b := fun i k => (h 4 (by decide) i k).2.2.2.1
  have m1 := fun i k => (g 12 rfl i k).1
  have m2 := fun i k => (g 12 rfl i k).2.1
  have m3 := fun i k => (g 12 rfl i k).2.2.1
  have m4 := fun i k => (g 12 rfl i k).2.2.2.1
  obtain ⟨h1, h2, h3, h4, h5, h6, h7, h8, h9, n, qq, GG, h10, h11, h12, h13⟩ := H
  refine ⟨?_, ?_, ?_, ?_, ?_, ?_, ?_, ?_, ?_, n, qq, GG, h10, ?_, ?_, fun k hk => rOne_c h g (h13 k hk)⟩
  · unfold rA at *; simp only [e11, m1]; exact h1
  · unfold rF at *; simp only [e11l, m2]; exact h2
  · unfold rQ at *; simp only [e11, m1]; exact h3
  · unfold rT at *; simp only [e8, e8b, m3, m4]; exact h4
  · unfold rP at *; simp only [e5, e5a, e5b, m1, m3]; exact h5
  · unfold rS at *; simp only [e11, e11a, m1, m3]; exact h6
  · unfold rC at *; simp only [e1a, m1, m3]; exact h7
  · unfold rW at *; simp only [e10, m1, m3]; exact h8
  · unfold rO at *; simp only [e4b]; exact h9
  · simp only [e11]; exact h11
  · simp only [m1]; exact h12
def CALL {α : Type} (x m : fSt → Option (α × fSt)) : Prop := ∀ sc sm, RR sc sm → ∃ r sc' sm', x sc = some (r, sc') ∧ m sm = some (r, sm') ∧ RR sc' sm'
theorem call_sim {α : Type} {x m : fSt → Option (α × fSt)} (hx : ∀ st, kpO (fun c => c = 12) st (x st)) (hm : ∀ st, kpO (fun c => c ≠ 12) st (m st)) (h : CALL x m) (st : fSt) (hR : RS st) : ∃ r s1 s2, x st = some (r, s1) ∧ m s1 = some (r, s2) ∧ RS s2 := by
  obtain ⟨r, s1, _, e1, _, _⟩ := h st st hR
  have k1 := hx st r s1 e1
  obtain ⟨r', s1', s2, e1', e2, H⟩ := h st s1 (RR_c (kF_rf st) k1 hR)
  rw [e1] at e1'
  cases e1'
  exact ⟨r, s1, s2, e1, e2, RR_c (hm s1 r s2 e2) (kF_rf s2) H⟩
/-! layer 2: what the relation reads; the small functions of both sides -/
def RX (sc sm : fSt) : Prop := rF sc sm ∧ rQ sc sm ∧ rT sc sm ∧ rP sc sm ∧ rS sc sm ∧ rC sc sm ∧ rW sc sm ∧ rO sc ∧ rH sc sm
def cEq (s t : fSt) : Prop := (∀ c, (c = 0 ∨ c = 2 ∨ c = 7 ∨ c = 8 ∨ c = 9) → ∀ i k, gI t c i k = gI s c i k ∧ gL t c i k = gL s c i k ∧ gA t c i k = gA s c i k ∧ gB t c i k = gB s c i k ∧ gP t c i k = gP s c i k) ∧
  gA t 1 0 1 = gA s 1 0 1 ∧ gB t 4 0 1 = gB s 4 0 1 ∧ (gI t 5 0 2 = gI s 5 0 2 ∧ gA t 5 0 1 = gA s 5 0 1 ∧ gB t 5 0 2 = gB s 5 0 2) ∧
  (gI t 10 0 3 = gI s 10 0 3 ∧ gI t 10 0 5 = gI s 10 0 5 ∧ gI t 10 0 6 = gI s 10 0 6 ∧ gI t 10 0 7 = gI s 10 0 7 ∧ gI t 10 0 8 = gI s 10 0 8 ∧ gI t 10 0 9 = gI s 10 0 9) ∧
  (gI t 11 0 5 = gI s 11 0 5 ∧ gI t 11 0 6 = gI s 11 0 6 ∧ gI t 11 0 9 = gI s 11 0 9 ∧ gI t 11 0 17 = gI s 11 0 17 ∧ gL t 11 0 3 = gL s 11 0 3 ∧ gL t 11 0 4 = gL s 11 0 4 ∧ gA t 11 0 3 = gA s 11 0 3)
def mEq (s t : fSt) : Prop := (gI t 12 0 8 = gI s 12 0 8 ∧ gI t 12 0 10 = gI s 12 0 10 ∧ gI t 12 0 11 = gI s 12 0 11 ∧ gI t 12 0 23 = gI s 12 0 23 ∧ gI t 12 0 46 = gI s 12 0 46 ∧ gI t 12 0 54 = gI s 12 0 54 ∧ gI t 12 0 56 = gI s 12 0 56) ∧
  (gL t 12 0 2 = gL s 12 0 2 ∧ gL t 12 0 3 = gL s 12 0 3) ∧
  (gA t 12 0 1 = gA s 12 0 1 ∧ gA t 12 0 2 = gA s 12 0 2 ∧ gA t 12 0 4 = gA s 12 0 4 ∧ gA t 12 0 5 = gA s 12 0 5 ∧ gA t 12 0 16 = gA s 12 0 16 ∧ gA t 12 0 20 = gA s 12 0 20 ∧ gA t 12 0 22 = gA s 12 0 22) ∧
  (gB t 12 0 3 = gB s 12 0 3 ∧ gB t 12 0 7 = gB s 12 0 7)
theorem cEq_rf (s : fSt) : cEq s s := ⟨fun _ _ _ _ => ⟨rfl, rfl, rfl, rfl, rfl⟩, rfl, rfl, ⟨rfl, rfl, rfl⟩, ⟨rfl, rfl, rfl, rfl, rfl, rfl⟩, rfl, rfl, rfl, rfl, rfl, rfl, rfl⟩
theorem mEq_rf (s : fSt) : mEq s s := ⟨⟨rfl, rfl, rfl, rfl, rfl, rfl, rfl⟩, ⟨rfl, rfl⟩, ⟨rfl, rfl, rfl, rfl, rfl, rfl, rfl⟩, rfl, rfl⟩
theorem rStp_e {sc sc' : fSt} (e : ∀ i k, gA sc' 9 i k = gA sc 9 i k) {w : Nat} {G : Nat → Nat} {j i : Nat} (H : rStp sc w G j i) : rStp sc' w G j i := by
  unfold rStp at *
  simp only [e]
  exact H
theorem rBod_e {sc sc' : fSt} (e : ∀ i k, gA sc' 9 i k = gA sc 9 i k) {w : Nat} {G : Nat → Nat} : ∀ n a b i i', rBod sc w G n a b i i' → rBod sc' w G n a b i i' := by
  intro n
  induction n with
  | zero => intro a b i i' H; exact H
  | succ n ih =>
    intro a b i i' H
    rcases H with H | ⟨h1, h2, H⟩
    · exact Or.inl H
    · refine Or.inr ⟨h1, rStp_e e h2, ?_⟩
      rcases H with ⟨a1, a2, a3, a4⟩ | ⟨a1, a2, a3, m, b1, b2, b3, b4, b5, b6⟩
      · exact Or.inl ⟨a1, a2, a3, ih _ _ _ _ a4⟩
      · exact Or.inr ⟨a1, a2, a3, m, ih _ _ _ _ b1, by rw [e]; exact b2, by rw [e]; exact b3, by rw [e]; exact b4, b5, ih _ _ _ _ b6⟩
theorem rOne_e {sc sc' sm sm' : fSt} (h : cEq sc sc') (g : mEq sm sm') {k q : Nat} {G : Nat → Nat} (H : rOne sc sm k q G) : rOne sc' sm' k q G := by
  have h := h.1
  have e2 := fun i k => (h 2 (by decide) i k).1
  have e2p := fun i k => (h 2 (by decide) i k).2.2.2.2
  have e0 := fun i k => (h 0 (by decide) i k).1
  have e0a := fun i k => (h 0 (by decide) i k).2.2.1
  have e7 := fun i k => (h 7 (by decide) i k).1
  have e7a := fun i k => (h 7 (by decide) i k).2.2.1
  have e7b := fun i k => (h 7 (by decide) i k).2.2.2.1
  have e9 := fun i k => (h 9 (by decide) i k).1
  have e9a := fun i k => (h 9 (by decide) i k).2.2.1
  obtain ⟨-, -, ⟨-, -, -, ea, -⟩, -, eb⟩ := g
  obtain ⟨h1, h2, h3, h4, h5⟩ := H
  refine ⟨h1, ?_, ?_, ?_, ?_⟩
  · unfold rHou rStg rBok at *
    simp only [e2, e2p, e0, e0a, e7, e7a]
    exact h2
  · simp only [ea]
    exact h3
  · unfold rNam at *
    simp only [e7b, eb]
    exact h4
  · unfold rWk at *
    simp only [e2p, e9]
    rcases h5 with h5 | ⟨a, w, m, b1, b2, b3, b4, b5⟩
    · exact Or.inl h5
    · exact Or.inr ⟨a, w, m, b1, b2, b3, b4, rBod_e e9a _ _ _ _ _ b5⟩
theorem rT_e {sc sc' sm sm' : fSt} (h : cEq sc sc') (g : mEq sm sm') (H : rT sc sm) : rT sc' sm' := by
  have e8 := fun i k => (h.1 8 (by decide) i k).1
  have e8b := fun i k => (h.1 8 (by decide) i k).2.2.2.1
  obtain ⟨-, -, ⟨m1, m2, -⟩, m3, -⟩ := g
  unfold rT at *
  simp only [e8, e8b, m1, m2, m3]
  exact H
theorem rH_e {sc sc' sm sm' : fSt} (h : cEq sc sc') (g : mEq sm sm') (H : rH sc sm) : rH sc' sm' := by
  obtain ⟨n, qq, GG, h10, h11, h12, h13⟩ := H
  refine ⟨n, qq, GG, h10, ?_, ?_, fun k hk => rOne_e h g (h13 k hk)⟩
  · rw [h.2.2.2.2.2.2.2.1]; exact h11
  · rw [g.1.2.2.2.1]; exact h12
theorem RX_e {sc sc' sm sm' : fSt} (h : cEq sc sc') (g : mEq sm sm') (H : RX sc sm) : RX sc' sm' := by
  obtain ⟨h2, h3, h4, h5, h6, h7, h8, h9, h10⟩ := H
  have h0 := h
  have g0 := g
  obtain ⟨-, c1, c2, ⟨c3, c4, c5⟩, ⟨d1, d2, d3, d4, d5, d6⟩, x1, x2, x3, x4, x5, x6, x7⟩ := h
  obtain ⟨⟨m1, m2, m3, m4, m5, m6, m7⟩, ⟨n1, n2⟩, ⟨p1, p2, p3, p4, p5, p6, p7⟩, q1, q2⟩ := g
  refine ⟨?_, ?_, rT_e h0 g0 h4, ?_, ?_, ?_, ?_, ?_, rH_e h0 g0 h10⟩
  · unfold rF at *; rw [x5, x6, n1, n2]; exact h2
  · unfold rQ at *; rw [x1, x2, m2, m3]; exact h3
  · unfold rP at *; rw [c3, c4, c5, m1, p3]; exact h5
  · unfold rS at *; rw [x4, x7, m5, p5]; exact h6
  · unfold rC at *; rw [c1, m6, p6]; exact h7
  · unfold rW at *; rw [d1, d2, d3, d4, d5, d6, m7, p7]; exact h8
  · unfold rO at *; rw [c2]; exact h9
theorem RR_of {sc sm : fSt} (H : RX sc sm) (h : gI sc 11 0 2 = gI sm 12 0 0) : RR sc sm := ⟨h, H⟩
theorem RR_x {sc sm : fSt} (H : RR sc sm) : RX sc sm := H.2
theorem cEq_st (s : fSt) (v : Int32) : cEq s (sI s 11 0 2 v) := ⟨fun c hc i k => by rcases hc with rfl | rfl | rfl | rfl | rfl <;> exact ⟨rfl, rfl, rfl, rfl, rfl⟩, rfl, rfl, ⟨rfl, rfl, rfl⟩, ⟨rfl, rfl, rfl, rfl, rfl, rfl⟩, rfl, rfl, rfl, rfl, rfl, rfl, rfl⟩
theorem mEq_st (s : fSt) (v : Int32) : mEq s (sI s 12 0 0 v) := ⟨⟨rfl, rfl, rfl, rfl, rfl, rfl, rfl⟩, ⟨rfl, rfl⟩, ⟨rfl, rfl, rfl, rfl, rfl, rfl, rfl⟩, rfl, rfl⟩
theorem mEq_th (s : fSt) (v : Int32) : mEq s (sI s 12 0 1 v) := ⟨⟨rfl, rfl, rfl, rfl, rfl, rfl, rfl⟩, ⟨rfl, rfl⟩, ⟨rfl, rfl, rfl, rfl, rfl, rfl, rfl⟩, rfl, rfl⟩
-- the reference's first two writes of a call
def pro (sm : fSt) : fSt := sI (sI sm 12 0 1 0) 12 0 0 0
theorem pro_x {sc sm : fSt} (H : RX sc sm) : RX sc (pro sm) := RX_e (cEq_rf sc) (mEq_st _ _) (RX_e (cEq_rf sc) (mEq_th _ _) H)
theorem pro_0 (sm : fSt) : gI (pro sm) 12 0 0 = 0 := rfl
/-- both sides end with the same STATUS and the rest as it was -/
theorem fin_st {sc sm : fSt} (H : RX sc sm) (v : Int32) : RR (sI sc 11 0 2 v) (sI sm 12 0 0 v) := RR_of (RX_e (cEq_st _ _) (mEq_st _ _) H) (by rw [gI_same, gI_same])
theorem fin_0 {sc sm : fSt} (H : RX sc sm) (h : gI sm 12 0 0 = 0) : RR (sI sc 11 0 2 0) sm := RR_of (RX_e (cEq_st _ _) (mEq_rf _) H) (by rw [gI_same, h])
-- the theatre as it is
theorem RX_cur {sc sm : fSt} (H : RX sc sm) : ∃ q G, gWf G ∧ rHou sc 0 q G ∧ rBlk (gA sm 12 0 5) G ∧ rNam sc q G (gB sm 12 0 7) ∧ rWk sc 0 G := by
  obtain ⟨-, -, -, -, -, -, -, -, n, qq, GG, h1, h2, h3, h4⟩ := H
  obtain ⟨a, b, c, d, e⟩ := h4 0 (Nat.zero_le _)
  simp only [Nat.mul_zero, Nat.zero_add] at c d
  exact ⟨qq 0, GG 0, a, b, c, d, e⟩
-- numbers in bounds
theorem x_isBelow (a : Int32) (n : Nat) (hn : n < 1073741824) (st : fSt) : f_X11_isBelow a (nI n) st = some (bI (inB a.toInt 0 (n - 1)), st) := by
  unfold f_X11_isBelow
  simp only [fJn_s, Int32.lt_iff_toInt_lt, Int32.le_iff_toInt_le, nI_toInt (show n < 2 ^ 31 by omega)]
  have h0 : (0 : Int32).toInt = 0 := rfl
  simp only [h0]
  split
  · rw [show inB a.toInt 0 (n - 1) = false from inB_f.mpr (by omega)]
    rfl
  · split
    · rw [show inB a.toInt 0 (n - 1) = false from inB_f.mpr (by omega)]
      rfl
    · rw [show inB a.toInt 0 (n - 1) = true from inB_t.mpr (by omega)]
      rfl
theorem x_isIn (a lo hi : Int32) (st : fSt) : f_X11_isIn a lo hi st = some (bI (inB a.toInt lo.toInt hi.toInt), st) := by
  unfold f_X11_isIn
  simp only [fJn_s, Int32.lt_iff_toInt_lt, Int32.le_iff_toInt_le]
  split
  · rw [show inB a.toInt lo.toInt hi.toInt = false from inB_f.mpr (by omega)]
    rfl
  · split
    · rw [show inB a.toInt lo.toInt hi.toInt = false from inB_f.mpr (by omega)]
      rfl
    · rw [show inB a.toInt lo.toInt hi.toInt = true from inB_t.mpr (by omega)]
      rfl
theorem m_isIn (a lo hi : Int64) (st : fSt) : f_X12_isIn a lo hi st = some (bI (inB a.toInt lo.toInt hi.toInt), st) := by
  unfold f_X12_isIn
  simp only [fJn_s, lg_lt, lg_gt]
  split
  · rw [show inB a.toInt lo.toInt hi.toInt = false from inB_f.mpr (by omega)]
    rfl
  · split
    · rw [show inB a.toInt lo.toInt hi.toInt = false from inB_f.mpr (by omega)]
      rfl
    · rw [show inB a.toInt lo.toInt hi.toInt = true from inB_t.mpr (by omega)]
      rfl
theorem m_isIn_n (a : Int32) (n : Nat) (hn : n < 1073741824) (st : fSt) : f_X12_isIn a.toInt64 0 (nI n - nI 1).toInt64 st = some (bI (inB a.toInt 0 (n - 1)), st) := by
  rw [m_isIn, Int32.toInt_toInt64, Int32.toInt_toInt64, nI_subI (by omega) (by omega)]
  rfl
theorem m_isIn_c (a : Int32) (lo hi : Int64) (st : fSt) : f_X12_isIn a.toInt64 lo hi st = some (bI (inB a.toInt lo.toInt hi.toInt), st) := by
  rw [m_isIn, Int32.toInt_toInt64]
section
variable {sc sm : fSt} {q : Nat} {G : Nat → Nat}
theorem m_isRoleAt (B : rBlk (gA sm 12 0 5) G) (w : gWf G) (a : Int32) : f_X12_isRoleAt a sm = some (bI (inB a.toInt 0 (G 0 - 1)), sm) := by
  have h := w.1
  unfold f_X12_isRoleAt
  rw [show (0 : Int32) = nI 0 from rfl, fIx_n (by omega) (by omega), nI_clamp (by omega), B.1.1, show (1 : Int32) = nI 1 from rfl, m_isIn_n _ _ (by omega)]
  simp only [fBd_s, fBo_b]
theorem m_isActorAt (B : rBlk (gA sm 12 0 5) G) (w : gWf G) (a : Int32) : f_X12_isActorAt a sm = some (bI (inB a.toInt 0 (G 1 - 1)), sm) := by
  have h := w.1
  unfold f_X12_isActorAt
  rw [show (1 : Int32) = nI 1 from rfl, fIx_n (by omega) (by omega), nI_clamp (by omega), B.1.2.1, m_isIn_n _ _ (by omega)]
  simp only [fBd_s, fBo_b]
theorem m_isSceneAt (B : rBlk (gA sm 12 0 5) G) (w : gWf G) (a : Int32) : f_X12_isSceneAt a sm = some (bI (inB a.toInt 0 (G 2 - 1)), sm) := by
  have h := w.1
  unfold f_X12_isSceneAt
  rw [show (2 : Int32) = nI 2 from rfl, fIx_n (by omega) (by omega), nI_clamp (by omega), B.1.2.2.1, show (1 : Int32) = nI 1 from rfl, m_isIn_n _ _ (by omega)]
  simp only [fBd_s, fBo_b]
theorem m_isKindAt (B : rBlk (gA sm 12 0 5) G) (w : gWf G) (a : Int32) : f_X12_isKindAt a sm = some (bI (inB a.toInt 0 (G 3 - 1)), sm) := by
  have h := w.1
  unfold f_X12_isKindAt
  rw [show (3 : Int32) = nI 3 from rfl, fIx_n (by omega) (by omega), nI_clamp (by omega), B.1.2.2.2.1, show (1 : Int32) = nI 1 from rfl, m_isIn_n _ _ (by omega)]
  simp only [fBd_s, fBo_b]
theorem x_hasRole (H : rHou sc 0 q G) (w : gWf G) (a : Int32) : f_X11_hasRole a sc = some (bI (inB a.toInt 0 (G 0 - 1)), sc) := by
  have h := w.1
  unfold f_X11_hasRole
  rw [H.1]
  simp only [fNn_s, H.2.1.1.1, x_isBelow a (G 0) (by omega), fBd_s, fBo_b]
theorem x_hasScene (H : rHou sc 0 q G) (w : gWf G) (a : Int32) : f_X11_hasScene a sc = some (bI (inB a.toInt 0 (G 2 - 1)), sc) := by
  have h := w.1
  unfold f_X11_hasScene
  rw [H.1]
  simp only [fNn_s, H.2.1.1.2.2.1, x_isBelow a (G 2) (by omega), fBd_s, fBo_b]
theorem x_hasKind (H : rHou sc 0 q G) (w : gWf G) (a : Int32) : f_X11_hasKind a sc = some (bI (inB a.toInt 0 (G 3 - 1)), sc) := by
  have h := w.1
  unfold f_X11_hasKind
  rw [H.1]
  simp only [fNn_s, H.2.1.1.2.2.2, x_isBelow a (G 3) (by omega), fBd_s, fBo_b]
theorem m_has {a k : Nat} (ha : a < 2 ^ 31) (hk : k < 31) (st : fSt) : f_X12_has (nI a) (nI k) st = some (bI (a.testBit k), st) := by
  unfold f_X12_has
  simp only [fJn_s, i_lit, i_bit ha hk, bI_1]
  cases a.testBit k <;> rfl
def gkil (G : Nat → Nat) (s g : Nat) : Nat := if G (109 + s) = 0 then g else g ||| 2 ^ (G (109 + s) - 1)
def gcan (G : Nat → Nat) (s g : Nat) : Bool := !(G 4).testBit s && decide (G (37 + s) &&& g = 0)
def gway (G : Nat → Nat) (s d : Nat) : Nat := if G (61 + 12 * d + s) = 0 then G (61 + s) else G (61 + 12 * d + s)
/-- the scene that can be played, told as n + 1: 0 none -/
def gpl (G : Nat → Nat) (t g : Nat) : Nat := if t = 0 then 0 else if gcan G (t - 1) g then t else 0
def gnx (G : Nat → Nat) (s d g : Nat) : Nat := gpl G (gway G s d) g
theorem gpl_le (G : Nat → Nat) (t g : Nat) : gpl G t g ≤ t := by
  unfold gpl
  split
  · omega
  · split <;> omega
theorem w_way (w : gWf G) {s d : Nat} (hs : s < G 2) (hd : d < 4) : G (61 + 12 * d + s) ≤ s := by
  obtain ⟨-, -, -, w, -⟩ := w
  obtain ⟨-, -, -, ⟨h1, h2, h3, h4⟩, -⟩ := w s hs
  rcases (show d = 0 ∨ d = 1 ∨ d = 2 ∨ d = 3 by omega) with rfl | rfl | rfl | rfl
  · exact h1
  · exact h2
  · exact h3
  · exact h4
theorem gway_le (w : gWf G) {s d : Nat} (hs : s < G 2) (hd : d < 4) : gway G s d ≤ s := by
  have h1 := w_way w hs hd
  have h2 := w_way w hs (show 0 < 4 by omega)
  rw [Nat.mul_zero, Nat.add_zero] at h2
  unfold gway
  split <;> assumption
theorem gnx_le (w : gWf G) {s d : Nat} (hs : s < G 2) (hd : d < 4) (g : Nat) : gnx G s d g ≤ s := Nat.le_trans (gpl_le _ _ _) (gway_le w hs hd)
theorem gkil_lt (w : gWf G) {s g : Nat} (hs : s < G 2) (hg : g < 64) : gkil G s g < 64 := by
  obtain ⟨-, -, -, w, -⟩ := w
  have h := (w s hs).2.2.2.2
  unfold gkil
  split
  · exact hg
  · refine Nat.or_lt_two_pow (n := 6) hg ?_
    exact Nat.pow_lt_pow_right (by omega) (by omega)
theorem gkil_or (G : Nat → Nat) (s a b : Nat) : gkil G s (a ||| b) = a ||| gkil G s b := by
  unfold gkil
  split
  · rfl
  · rw [Nat.or_assoc]
theorem w_pl (w : gWf G) {s : Nat} (hs : s < G 2) : G (37 + s) < 64 := by
  obtain ⟨h, -, -, w, -⟩ := w
  have h1 := (w s hs).2.1
  have h2 : 2 ^ G 0 ≤ 2 ^ 6 := Nat.pow_le_pow_right (by omega) h.1
  omega
theorem and_lt64 {a : Nat} (b : Nat) (ha : a < 64) : a &&& b < 64 := Nat.lt_of_le_of_lt Nat.and_le_left ha
theorem x_playable (H : rHou sc 0 q G) (w : gWf G) {t g : Nat} (ht : t ≤ G 2) (hg : g < 64) : f_X2_playable 0 (xI t) (nI g) sc = some (xI (gpl G t g), sc) := by
  have hw := w.1
  have hb := w.2.1
  unfold f_X2_playable
  simp only [fJn_s, H.1, fNn_s, H.2.1.1.2.2.1, H.2.2.1.1, i_lit]
  cases t with
  | zero => simp (disch := omega) only [fLt_e, fBd_s, fJn_s, fNn_s, fNu_0, fNu_s, fBo_0, fBo_1, fBo_b, i_lit, i_neg1, nI_add, pk_mul, nI_clamp, i_le, i_lt, i_eq, fIx_n, nI_mI, mI_nI, mI_lt, nI_lt_m, mI_le, nI_le_m, xI_0, xI_s, bI_0, bI_1, bI_t, bI_f, n_31, j_bit, j_one, i_and, i_or, Nat.not_lt_zero, Nat.succ_ne_zero, Nat.add_one_ne_zero, Nat.add_one_sub_one, Nat.zero_le, Nat.or_zero, Nat.zero_or, Bool.not_true, Bool.not_false, Bool.true_and, Bool.false_and, Bool.and_true, Bool.and_false, ↓reduceIte, if_true, if_false, not_true_eq_false, not_false_eq_true, true_and, and_true, false_and, and_false, and_self, true_or, or_true, false_or, or_false, Nat.reduceEqDiff, Nat.reduceLT, Nat.reduceLeDiff, Nat.reduceAdd, Nat.reduceMul, Nat.reduceSub, Nat.add_zero, Nat.zero_add, Nat.mul_zero, Nat.zero_mul, ne_eq, Bool.not_eq_true, Bool.not_eq_false, reduceCtorEq, decide_true, decide_false, decide_eq_true_eq, decide_eq_false_iff_not, Bool.false_eq_true, if_pos, if_neg, gpl]
  | succ t =>
    have hs : t < G 2 := by omega
    have hp := w_pl w hs
    have ha := and_lt64 g hp
    have e := (H.2.1.2.2.1 t hs).2.1
    unfold gpl gcan
    cases hB : (G 4).testBit t <;> by_cases hz : G (37 + t) &&& g = 0 <;> simp (disch := omega) only [fLt_e, fBd_s, fJn_s, fNn_s, fNu_0, fNu_s, fBo_0, fBo_1, fBo_b, i_lit, i_neg1, nI_add, pk_mul, nI_clamp, i_le, i_lt, i_eq, fIx_n, nI_mI, mI_nI, mI_lt, nI_lt_m, mI_le, nI_le_m, xI_0, xI_s, bI_0, bI_1, bI_t, bI_f, n_31, j_bit, j_one, i_and, i_or, Nat.not_lt_zero, Nat.succ_ne_zero, Nat.add_one_ne_zero, Nat.add_one_sub_one, Nat.zero_le, Nat.or_zero, Nat.zero_or, Bool.not_true, Bool.not_false, Bool.true_and, Bool.false_and, Bool.and_true, Bool.and_false, ↓reduceIte, if_true, if_false, not_true_eq_false, not_false_eq_true, true_and, and_true, false_and, and_false, and_self, true_or, or_true, false_or, or_false, Nat.reduceEqDiff, Nat.reduceLT, Nat.reduceLeDiff, Nat.reduceAdd, Nat.reduceMul, Nat.reduceSub, Nat.add_zero, Nat.zero_add, Nat.mul_zero, Nat.zero_mul, ne_eq, Bool.not_eq_true, Bool.not_eq_false, reduceCtorEq, decide_true, decide_false, decide_eq_true_eq, decide_eq_false_iff_not, Bool.false_eq_true, if_pos, if_neg, e, hB, hz]
theorem x_playable_n (H : rHou sc 0 q G) (w : gWf G) {t g : Nat} (ht : t < G 2) (hg : g < 64) : f_X2_playable 0 (nI t) (nI g) sc = some (xI (gpl G (t + 1) g), sc) := x_playable H w (t := t + 1) ht hg
theorem m_canPlay (B : rBlk (gA sm 12 0 5) G) (w : gWf G) {t k : Nat} (ht : t ≤ G 2) (hk : k < 64) : f_X12_canPlay (xI t) (nI k) sm = some (bI (decide (gpl G t (G 5 ||| k) ≠ 0)), sm) := by
  have hw := w.1
  have hb := w.2.1
  unfold f_X12_canPlay
  cases t with
  | zero => simp (disch := omega) only [fLt_e, fBd_s, fJn_s, fNn_s, fNu_0, fNu_s, fBo_0, fBo_1, fBo_b, i_lit, i_neg1, nI_add, pk_mul, nI_clamp, i_le, i_lt, i_eq, fIx_n, nI_mI, mI_nI, mI_lt, nI_lt_m, mI_le, nI_le_m, xI_0, xI_s, bI_0, bI_1, bI_t, bI_f, n_31, j_bit, j_one, i_and, i_or, Nat.not_lt_zero, Nat.succ_ne_zero, Nat.add_one_ne_zero, Nat.add_one_sub_one, Nat.zero_le, Nat.or_zero, Nat.zero_or, Bool.not_true, Bool.not_false, Bool.true_and, Bool.false_and, Bool.and_true, Bool.and_false, ↓reduceIte, if_true, if_false, not_true_eq_false, not_false_eq_true, true_and, and_true, false_and, and_false, and_self, true_or, or_true, false_or, or_false, Nat.reduceEqDiff, Nat.reduceLT, Nat.reduceLeDiff, Nat.reduceAdd, Nat.reduceMul, Nat.reduceSub, Nat.add_zero, Nat.zero_add, Nat.mul_zero, Nat.zero_mul, ne_eq, Bool.not_eq_true, Bool.not_eq_false, reduceCtorEq, decide_true, decide_false, decide_eq_true_eq, decide_eq_false_iff_not, Bool.false_eq_true, if_pos, if_neg, gpl]
  | succ t =>
    have hs : t < G 2 := by omega
    have hp := w_pl w hs
    have ha := and_lt64 (G 5 ||| k) hp
    have e := (B.2.2.1 t hs).2.1
    unfold gpl gcan
    cases hB : (G 4).testBit t <;> by_cases hz : G (37 + t) &&& (G 5 ||| k) = 0 <;> simp (disch := omega) only [fLt_e, fBd_s, fJn_s, fNn_s, fNu_0, fNu_s, fBo_0, fBo_1, fBo_b, i_lit, i_neg1, nI_add, pk_mul, nI_clamp, i_le, i_lt, i_eq, fIx_n, nI_mI, mI_nI, mI_lt, nI_lt_m, mI_le, nI_le_m, xI_0, xI_s, bI_0, bI_1, bI_t, bI_f, n_31, j_bit, j_one, i_and, i_or, Nat.not_lt_zero, Nat.succ_ne_zero, Nat.add_one_ne_zero, Nat.add_one_sub_one, Nat.zero_le, Nat.or_zero, Nat.zero_or, Bool.not_true, Bool.not_false, Bool.true_and, Bool.false_and, Bool.and_true, Bool.and_false, ↓reduceIte, if_true, if_false, not_true_eq_false, not_false_eq_true, true_and, and_true, false_and, and_false, and_self, true_or, or_true, false_or, or_false, Nat.reduceEqDiff, Nat.reduceLT, Nat.reduceLeDiff, Nat.reduceAdd, Nat.reduceMul, Nat.reduceSub, Nat.add_zero, Nat.zero_add, Nat.mul_zero, Nat.zero_mul, ne_eq, Bool.not_eq_true, Bool.not_eq_false, reduceCtorEq, decide_true, decide_false, decide_eq_true_eq, decide_eq_false_iff_not, Bool.false_eq_true, if_pos, if_neg, m_has, B.1.2.2.2.2.1, B.1.2.2.2.2.2.1, e, hB, hz]
end
/-! layer 2: a night is played, on both sides -/
theorem upd_at (f : Nat → Int32) (k : Nat) (x : Int32) (j : Nat) : upd f k x j = if j = k then x else f j := rfl
theorem updL_at (f : Nat → Int64) (k : Nat) (x : Int64) (j : Nat) : vp_updL f k x j = if j = k then x else f j := rfl
def oS (st : fSt) (c i lo hi : Nat) (a : Nat → Int32) : fSt := (fun c' i' k' => if c' = c ∧ i' = i ∧ (lo ≤ k' ∧ k' < hi) then a k' else st.1 c' i' k', st.2)
theorem gI_oS (st : fSt) (c i lo hi : Nat) (a : Nat → Int32) (c' i' k' : Nat) : gI (oS st c i lo hi a) c' i' k' = if c' = c ∧ i' = i ∧ (lo ≤ k' ∧ k' < hi) then a k' else gI st c' i' k' := rfl
theorem gL_oS (st : fSt) (c i lo hi : Nat) (a : Nat → Int32) : gL (oS st c i lo hi a) = gL st := rfl
theorem gA_oS (st : fSt) (c i lo hi : Nat) (a : Nat → Int32) : gA (oS st c i lo hi a) = gA st := rfl
theorem gB_oS (st : fSt) (c i lo hi : Nat) (a : Nat → Int32) : gB (oS st c i lo hi a) = gB st := rfl
theorem gP_oS (st : fSt) (c i lo hi : Nat) (a : Nat → Int32) : gP (oS st c i lo hi a) = gP st := rfl
theorem oS_sI {st : fSt} {c i lo hi k : Nat} {a : Nat → Int32} {v : Int32} (hk : lo ≤ k ∧ k < hi) : sI (oS st c i lo hi a) c i k v = oS st c i lo hi (upd a k v) := by
  refine Prod.ext (funext fun c' => funext fun i' => funext fun k' => ?_) rfl
  show (if c' = c ∧ i' = i ∧ k' = k then v else if c' = c ∧ i' = i ∧ (lo ≤ k' ∧ k' < hi) then a k' else st.1 c' i' k') = if c' = c ∧ i' = i ∧ (lo ≤ k' ∧ k' < hi) then (if k' = k then v else a k') else st.1 c' i' k'
  by_cases h1 : c' = c
  · by_cases h2 : i' = i
    · by_cases h3 : k' = k
      · simp [h1, h2, h3, hk]
      · simp [h1, h2, h3]
    · simp [h2]
  · simp [h1]
theorem oS_ext {st : fSt} {c i lo hi : Nat} {a b : Nat → Int32} (h : ∀ k, lo ≤ k → k < hi → a k = b k) : oS st c i lo hi a = oS st c i lo hi b := by
  refine Prod.ext (funext fun c' => funext fun i' => funext fun k' => ?_) rfl
  show (if c' = c ∧ i' = i ∧ (lo ≤ k' ∧ k' < hi) then a k' else st.1 c' i' k') = if c' = c ∧ i' = i ∧ (lo ≤ k' ∧ k' < hi) then b k' else st.1 c' i' k'
  split
  · rename_i g
    exact h k' g.2.2.1 g.2.2.2
  · rfl
theorem oS_0 (st : fSt) (c i lo hi : Nat) : st = oS st c i lo hi (gI st c i) := by
  refine Prod.ext (funext fun c' => funext fun i' => funext fun k' => ?_) rfl
  show st.1 c' i' k' = if c' = c ∧ i' = i ∧ (lo ≤ k' ∧ k' < hi) then st.1 c i k' else st.1 c' i' k'
  split
  · rename_i g
    rw [g.1, g.2.1]
  · rfl
theorem rStg_oS {sc : fSt} {q : Nat} {G : Nat → Nat} {i lo hi : Nat} {a : Nat → Int32} (H : rStg sc q G) : rStg (oS sc 3 i lo hi a) q G := H
theorem rHou_oS {sc : fSt} {q : Nat} {G : Nat → Nat} {i lo hi : Nat} {a : Nat → Int32} (H : rHou sc 0 q G) : rHou (oS sc 3 i lo hi a) 0 q G := H
-- sums
def zs (f : Nat → Nat) : Nat → Nat
  | 0 => 0
  | n + 1 => zs f n + f n
theorem zs_0 (f : Nat → Nat) : zs f 0 = 0 := rfl
theorem zs_s (f : Nat → Nat) (n : Nat) : zs f (n + 1) = zs f n + f n := rfl
theorem zs_le {f : Nat → Nat} {b : Nat} {n : Nat} (h : ∀ k, k < n → f k ≤ b) : zs f n ≤ n * b := by
  induction n with
  | zero => simp [zs]
  | succ n ih =>
    rw [zs_s, Nat.succ_mul]
    have := ih (fun k hk => h k (by omega))
    have := h n (by omega)
    omega
theorem zs_cong {f g : Nat → Nat} {n : Nat} (h : ∀ k, k < n → f k = g k) : zs f n = zs g n := by
  induction n with
  | zero => rfl
  | succ n ih => rw [zs_s, zs_s, ih (fun k hk => h k (by omega)), h n (by omega)]
theorem zs_mono (f : Nat → Nat) {a b : Nat} (h : a ≤ b) : zs f a ≤ zs f b := by
  induction b with
  | zero => rw [Nat.le_zero.mp h]; exact Nat.le_refl _
  | succ b ih =>
    rcases Nat.eq_or_lt_of_le h with h | h
    · rw [h]; exact Nat.le_refl _
    · rw [zs_s]
      have := ih (by omega)
      omega
-- bits
def pcn (a : Nat) : Nat := zs (fun k => (a.testBit k).toNat) 12
theorem pcn_le (a : Nat) : pcn a ≤ 12 := by
  have := zs_le (f := fun k => (a.testBit k).toNat) (b := 1) (n := 12) (fun k _ => Bool.toNat_le _)
  unfold pcn
  omega
def z0 : fSt := (fun _ _ _ => 0, fun _ _ _ => 0, fun _ _ _ _ => 0, fun _ _ _ _ => 0, fun _ _ _ => 0)
noncomputable def bcV (a : Int32) : Int32 := ((f_J6_bitCount_0f7a4 a z0).getD (0, z0)).1
theorem bc_ok (a : Int32) (st : fSt) : f_J6_bitCount_0f7a4 a st = some (bcV a, st) := rfl
set_option maxRecDepth 100000 in
theorem bc_64 : (List.range 64).all (fun a => decide (bcV (nI a) = nI (pcn a))) = true := by decide +kernel
theorem bc_n {a : Nat} (h : a < 64) : bcV (nI a) = nI (pcn a) := co_dec (P := fun a => bcV (nI a) = nI (pcn a)) bc_64 h
def gbr (G : Nat → Nat) (s : Nat) : Nat := G (25 + s) * pcn (G (37 + s))
section
variable {sc sm : fSt} {q : Nat} {G : Nat → Nat}
theorem gbr_le (w : gWf G) {s : Nat} (hs : s < G 2) : gbr G s ≤ 240 := by
  have h := (w.2.2.2.1 s hs).1
  have := pcn_le (G (37 + s))
  unfold gbr
  exact Nat.mul_le_mul (show G (25 + s) ≤ 20 by omega) this
theorem x_breathsOfScene (H : rStg sc q G) (w : gWf G) {s : Nat} (hs : s < G 2) : f_X7_breathsOfScene q (nI s) sc = some (nI (gbr G s), sc) := by
  have h := w.1
  have h2 := (w.2.2.2.1 s hs).1
  obtain ⟨e1, e2, -⟩ := H.2.2.1 s hs
  unfold f_X7_breathsOfScene
  rw [fIx_n (by omega) (by omega), fIx_n (by omega) (by omega), nI_clamp (by omega), e1, e2, bc_ok, bc_n (w_pl w hs), fBd_s, pk_mul]
  rfl
theorem m_bits {a : Nat} (ha : a < 2 ^ 31) (st : fSt) : f_X12_bits (nI a) st = some (nI (pcn a), st) := by
  unfold f_X12_bits
  obtain ⟨m, e⟩ := lp_run (fun m (t : Int32 × Int32) => f_X12_bits_L4 (nI a) m t.1 t.2 st) (fun t => (nI (zs (fun k => (a.testBit k).toNat) t), nI t)) 12 (fun m t ht => by
    show f_X12_bits_L4 (nI a) (m + 1) (nI (zs (fun k => (a.testBit k).toNat) t)) (nI t) st = f_X12_bits_L4 (nI a) m (nI (zs (fun k => (a.testBit k).toNat) (t + 1))) (nI (t + 1)) st
    rw [f_X12_bits_L4]
    simp (disch := omega) only [fLt_e, fBd_s, fJn_s, fNn_s, fNu_0, fNu_s, fBo_0, fBo_1, fBo_b, i_lit, i_neg1, nI_add, pk_mul, nI_clamp, i_le, i_lt, i_eq, fIx_n, nI_mI, mI_nI, mI_lt, nI_lt_m, mI_le, nI_le_m, xI_0, xI_s, bI_0, bI_1, bI_t, bI_f, n_31, j_bit, j_one, i_and, i_or, Nat.not_lt_zero, Nat.succ_ne_zero, Nat.add_one_ne_zero, Nat.add_one_sub_one, Nat.zero_le, Nat.or_zero, Nat.zero_or, Bool.not_true, Bool.not_false, Bool.true_and, Bool.false_and, Bool.and_true, Bool.and_false, ↓reduceIte, if_true, if_false, not_true_eq_false, not_false_eq_true, true_and, and_true, false_and, and_false, and_self, true_or, or_true, false_or, or_false, Nat.reduceEqDiff, Nat.reduceLT, Nat.reduceLeDiff, Nat.reduceAdd, Nat.reduceMul, Nat.reduceSub, Nat.add_zero, Nat.zero_add, Nat.mul_zero, Nat.zero_mul, ne_eq, Bool.not_eq_true, Bool.not_eq_false, reduceCtorEq, decide_true, decide_false, decide_eq_true_eq, decide_eq_false_iff_not, Bool.false_eq_true, if_pos, if_neg, bI, zs_s]) (fF_lt (by omega))
  refine Eq.trans e ?_
  show f_X12_bits_L4 (nI a) (m + 1) (nI (zs (fun k => (a.testBit k).toNat) 12)) (nI 12) st = _
  rw [f_X12_bits_L4]
  simp (disch := omega) only [fLt_e, fBd_s, fJn_s, fNn_s, fNu_0, fNu_s, fBo_0, fBo_1, fBo_b, i_lit, i_neg1, nI_add, pk_mul, nI_clamp, i_le, i_lt, i_eq, fIx_n, nI_mI, mI_nI, mI_lt, nI_lt_m, mI_le, nI_le_m, xI_0, xI_s, bI_0, bI_1, bI_t, bI_f, n_31, j_bit, j_one, i_and, i_or, Nat.not_lt_zero, Nat.succ_ne_zero, Nat.add_one_ne_zero, Nat.add_one_sub_one, Nat.zero_le, Nat.or_zero, Nat.zero_or, Bool.not_true, Bool.not_false, Bool.true_and, Bool.false_and, Bool.and_true, Bool.and_false, ↓reduceIte, if_true, if_false, not_true_eq_false, not_false_eq_true, true_and, and_true, false_and, and_false, and_self, true_or, or_true, false_or, or_false, Nat.reduceEqDiff, Nat.reduceLT, Nat.reduceLeDiff, Nat.reduceAdd, Nat.reduceMul, Nat.reduceSub, Nat.add_zero, Nat.zero_add, Nat.mul_zero, Nat.zero_mul, ne_eq, Bool.not_eq_true, Bool.not_eq_false, reduceCtorEq, decide_true, decide_false, decide_eq_true_eq, decide_eq_false_iff_not, Bool.false_eq_true, if_pos, if_neg]
  rfl
theorem m_breathsOf (B : rBlk (gA sm 12 0 5) G) (w : gWf G) {s : Nat} (hs : s < G 2) : f_X12_breathsOf (nI s) sm = some (nI (gbr G s), sm) := by
  have h := w.1
  have h2 := w_pl w hs
  obtain ⟨e1, e2, -⟩ := B.2.2.1 s hs
  unfold f_X12_breathsOf
  simp only [i_lit, nI_add]
  rw [fIx_n (by omega) (by omega), fIx_n (by omega) (by omega), nI_clamp (by omega), nI_clamp (by omega), e1, e2, m_bits (by omega), fBd_s, pk_mul]
  rfl
theorem x_killedIn (H : rStg sc q G) (w : gWf G) {s g : Nat} (hs : s < G 2) : ∃ v, f_X7_killedIn q (nI s) sc = some (v, sc) ∧ nI g ||| v = nI (gkil G s g) := by
  have h := w.1
  have h2 := (w.2.2.2.1 s hs).2.2.2.2
  obtain ⟨-, -, -, -, -, -, -, e⟩ := H.2.2.1 s hs
  unfold f_X7_killedIn gkil
  cases hv : G (109 + s) with
  | zero => exact ⟨nI 0, by simp (disch := omega) only [fLt_e, fBd_s, fJn_s, fNn_s, fNu_0, fNu_s, fBo_0, fBo_1, fBo_b, i_lit, i_neg1, nI_add, pk_mul, nI_clamp, i_le, i_lt, i_eq, fIx_n, nI_mI, mI_nI, mI_lt, nI_lt_m, mI_le, nI_le_m, xI_0, xI_s, bI_0, bI_1, bI_t, bI_f, n_31, j_bit, j_one, i_and, i_or, Nat.not_lt_zero, Nat.succ_ne_zero, Nat.add_one_ne_zero, Nat.add_one_sub_one, Nat.zero_le, Nat.or_zero, Nat.zero_or, Bool.not_true, Bool.not_false, Bool.true_and, Bool.false_and, Bool.and_true, Bool.and_false, ↓reduceIte, if_true, if_false, not_true_eq_false, not_false_eq_true, true_and, and_true, false_and, and_false, and_self, true_or, or_true, false_or, or_false, Nat.reduceEqDiff, Nat.reduceLT, Nat.reduceLeDiff, Nat.reduceAdd, Nat.reduceMul, Nat.reduceSub, Nat.add_zero, Nat.zero_add, Nat.mul_zero, Nat.zero_mul, ne_eq, Bool.not_eq_true, Bool.not_eq_false, reduceCtorEq, decide_true, decide_false, decide_eq_true_eq, decide_eq_false_iff_not, Bool.false_eq_true, if_pos, if_neg, e, hv], by simp (disch := omega) only [fLt_e, fBd_s, fJn_s, fNn_s, fNu_0, fNu_s, fBo_0, fBo_1, fBo_b, i_lit, i_neg1, nI_add, pk_mul, nI_clamp, i_le, i_lt, i_eq, fIx_n, nI_mI, mI_nI, mI_lt, nI_lt_m, mI_le, nI_le_m, xI_0, xI_s, bI_0, bI_1, bI_t, bI_f, n_31, j_bit, j_one, i_and, i_or, Nat.not_lt_zero, Nat.succ_ne_zero, Nat.add_one_ne_zero, Nat.add_one_sub_one, Nat.zero_le, Nat.or_zero, Nat.zero_or, Bool.not_true, Bool.not_false, Bool.true_and, Bool.false_and, Bool.and_true, Bool.and_false, ↓reduceIte, if_true, if_false, not_true_eq_false, not_false_eq_true, true_and, and_true, false_and, and_false, and_self, true_or, or_true, false_or, or_false, Nat.reduceEqDiff, Nat.reduceLT, Nat.reduceLeDiff, Nat.reduceAdd, Nat.reduceMul, Nat.reduceSub, Nat.add_zero, Nat.zero_add, Nat.mul_zero, Nat.zero_mul, ne_eq, Bool.not_eq_true, Bool.not_eq_false, reduceCtorEq, decide_true, decide_false, decide_eq_true_eq, decide_eq_false_iff_not, Bool.false_eq_true, if_pos, if_neg, hv]⟩
  | succ v => exact ⟨nI (2 ^ v), by simp (disch := omega) only [fLt_e, fBd_s, fJn_s, fNn_s, fNu_0, fNu_s, fBo_0, fBo_1, fBo_b, i_lit, i_neg1, nI_add, pk_mul, nI_clamp, i_le, i_lt, i_eq, fIx_n, nI_mI, mI_nI, mI_lt, nI_lt_m, mI_le, nI_le_m, xI_0, xI_s, bI_0, bI_1, bI_t, bI_f, n_31, j_bit, j_one, i_and, i_or, Nat.not_lt_zero, Nat.succ_ne_zero, Nat.add_one_ne_zero, Nat.add_one_sub_one, Nat.zero_le, Nat.or_zero, Nat.zero_or, Bool.not_true, Bool.not_false, Bool.true_and, Bool.false_and, Bool.and_true, Bool.and_false, ↓reduceIte, if_true, if_false, not_true_eq_false, not_false_eq_true, true_and, and_true, false_and, and_false, and_self, true_or, or_true, false_or, or_false, Nat.reduceEqDiff, Nat.reduceLT, Nat.reduceLeDiff, Nat.reduceAdd, Nat.reduceMul, Nat.reduceSub, Nat.add_zero, Nat.zero_add, Nat.mul_zero, Nat.zero_mul, ne_eq, Bool.not_eq_true, Bool.not_eq_false, reduceCtorEq, decide_true, decide_false, decide_eq_true_eq, decide_eq_false_iff_not, Bool.false_eq_true, if_pos, if_neg, e, hv], by simp (disch := omega) only [fLt_e, fBd_s, fJn_s, fNn_s, fNu_0, fNu_s, fBo_0, fBo_1, fBo_b, i_lit, i_neg1, nI_add, pk_mul, nI_clamp, i_le, i_lt, i_eq, fIx_n, nI_mI, mI_nI, mI_lt, nI_lt_m, mI_le, nI_le_m, xI_0, xI_s, bI_0, bI_1, bI_t, bI_f, n_31, j_bit, j_one, i_and, i_or, Nat.not_lt_zero, Nat.succ_ne_zero, Nat.add_one_ne_zero, Nat.add_one_sub_one, Nat.zero_le, Nat.or_zero, Nat.zero_or, Bool.not_true, Bool.not_false, Bool.true_and, Bool.false_and, Bool.and_true, Bool.and_false, ↓reduceIte, if_true, if_false, not_true_eq_false, not_false_eq_true, true_and, and_true, false_and, and_false, and_self, true_or, or_true, false_or, or_false, Nat.reduceEqDiff, Nat.reduceLT, Nat.reduceLeDiff, Nat.reduceAdd, Nat.reduceMul, Nat.reduceSub, Nat.add_zero, Nat.zero_add, Nat.mul_zero, Nat.zero_mul, ne_eq, Bool.not_eq_true, Bool.not_eq_false, reduceCtorEq, decide_true, decide_false, decide_eq_true_eq, decide_eq_false_iff_not, Bool.false_eq_true, if_pos, if_neg, hv]⟩
theorem m_kills (B : rBlk (gA sm 12 0 5) G) (w : gWf G) {s g : Nat} (hs : s < G 2) : f_X12_kills (nI s) (nI g) sm = some (nI (gkil G s g), sm) := by
  have h := w.1
  have h2 := (w.2.2.2.1 s hs).2.2.2.2
  obtain ⟨-, -, -, -, -, -, -, e⟩ := B.2.2.1 s hs
  unfold f_X12_kills gkil
  cases hv : G (109 + s) with
  | zero => simp (disch := omega) only [fLt_e, fBd_s, fJn_s, fNn_s, fNu_0, fNu_s, fBo_0, fBo_1, fBo_b, i_lit, i_neg1, nI_add, pk_mul, nI_clamp, i_le, i_lt, i_eq, fIx_n, nI_mI, mI_nI, mI_lt, nI_lt_m, mI_le, nI_le_m, xI_0, xI_s, bI_0, bI_1, bI_t, bI_f, n_31, j_bit, j_one, i_and, i_or, Nat.not_lt_zero, Nat.succ_ne_zero, Nat.add_one_ne_zero, Nat.add_one_sub_one, Nat.zero_le, Nat.or_zero, Nat.zero_or, Bool.not_true, Bool.not_false, Bool.true_and, Bool.false_and, Bool.and_true, Bool.and_false, ↓reduceIte, if_true, if_false, not_true_eq_false, not_false_eq_true, true_and, and_true, false_and, and_false, and_self, true_or, or_true, false_or, or_false, Nat.reduceEqDiff, Nat.reduceLT, Nat.reduceLeDiff, Nat.reduceAdd, Nat.reduceMul, Nat.reduceSub, Nat.add_zero, Nat.zero_add, Nat.mul_zero, Nat.zero_mul, ne_eq, Bool.not_eq_true, Bool.not_eq_false, reduceCtorEq, decide_true, decide_false, decide_eq_true_eq, decide_eq_false_iff_not, Bool.false_eq_true, if_pos, if_neg, e, hv]
  | succ v => simp (disch := omega) only [fLt_e, fBd_s, fJn_s, fNn_s, fNu_0, fNu_s, fBo_0, fBo_1, fBo_b, i_lit, i_neg1, nI_add, pk_mul, nI_clamp, i_le, i_lt, i_eq, fIx_n, nI_mI, mI_nI, mI_lt, nI_lt_m, mI_le, nI_le_m, xI_0, xI_s, bI_0, bI_1, bI_t, bI_f, n_31, j_bit, j_one, i_and, i_or, Nat.not_lt_zero, Nat.succ_ne_zero, Nat.add_one_ne_zero, Nat.add_one_sub_one, Nat.zero_le, Nat.or_zero, Nat.zero_or, Bool.not_true, Bool.not_false, Bool.true_and, Bool.false_and, Bool.and_true, Bool.and_false, ↓reduceIte, if_true, if_false, not_true_eq_false, not_false_eq_true, true_and, and_true, false_and, and_false, and_self, true_or, or_true, false_or, or_false, Nat.reduceEqDiff, Nat.reduceLT, Nat.reduceLeDiff, Nat.reduceAdd, Nat.reduceMul, Nat.reduceSub, Nat.add_zero, Nat.zero_add, Nat.mul_zero, Nat.zero_mul, ne_eq, Bool.not_eq_true, Bool.not_eq_false, reduceCtorEq, decide_true, decide_false, decide_eq_true_eq, decide_eq_false_iff_not, Bool.false_eq_true, if_pos, if_neg, e, hv]
theorem x_way (H : rStg sc q G) {s d : Nat} (hs : s < G 2) (hd : d < 4) : gA sc 7 q 11 (s * 4 + d) = xI (G (61 + 12 * d + s)) := by
  obtain ⟨-, -, -, e0, e1, e2, e3, -⟩ := H.2.2.1 s hs
  rcases (show d = 0 ∨ d = 1 ∨ d = 2 ∨ d = 3 by omega) with rfl | rfl | rfl | rfl
  · exact e0
  · exact e1
  · exact e2
  · exact e3
theorem x_onward (H : rHou sc 0 q G) (w : gWf G) {s d g : Nat} (hs : s < G 2) (hd : d < 4) (hg : g < 64) : f_X2_onward 0 (nI s) (nI d) (nI g) sc = some (xI (gnx G s d g), sc) := by
  have h := w.1
  have h1 := w_way w hs hd
  have h2 := w_way w hs (show 0 < 4 by omega)
  have e := x_way H.2.1 hs hd
  have e0 := x_way H.2.1 hs (show 0 < 4 by omega)
  simp only [Nat.mul_zero, Nat.add_zero] at e0 h2
  unfold f_X2_onward gnx gway
  cases hv : G (61 + 12 * d + s) with
  | zero => simp (disch := omega) only [fLt_e, fBd_s, fJn_s, fNn_s, fNu_0, fNu_s, fBo_0, fBo_1, fBo_b, i_lit, i_neg1, nI_add, pk_mul, nI_clamp, i_le, i_lt, i_eq, fIx_n, nI_mI, mI_nI, mI_lt, nI_lt_m, mI_le, nI_le_m, xI_0, xI_s, bI_0, bI_1, bI_t, bI_f, n_31, j_bit, j_one, i_and, i_or, Nat.not_lt_zero, Nat.succ_ne_zero, Nat.add_one_ne_zero, Nat.add_one_sub_one, Nat.zero_le, Nat.or_zero, Nat.zero_or, Bool.not_true, Bool.not_false, Bool.true_and, Bool.false_and, Bool.and_true, Bool.and_false, ↓reduceIte, if_true, if_false, not_true_eq_false, not_false_eq_true, true_and, and_true, false_and, and_false, and_self, true_or, or_true, false_or, or_false, Nat.reduceEqDiff, Nat.reduceLT, Nat.reduceLeDiff, Nat.reduceAdd, Nat.reduceMul, Nat.reduceSub, Nat.add_zero, Nat.zero_add, Nat.mul_zero, Nat.zero_mul, ne_eq, Bool.not_eq_true, Bool.not_eq_false, reduceCtorEq, decide_true, decide_false, decide_eq_true_eq, decide_eq_false_iff_not, Bool.false_eq_true, if_pos, if_neg, H.1, e, e0, hv, x_playable H w]
  | succ v => simp (disch := omega) only [fLt_e, fBd_s, fJn_s, fNn_s, fNu_0, fNu_s, fBo_0, fBo_1, fBo_b, i_lit, i_neg1, nI_add, pk_mul, nI_clamp, i_le, i_lt, i_eq, fIx_n, nI_mI, mI_nI, mI_lt, nI_lt_m, mI_le, nI_le_m, xI_0, xI_s, bI_0, bI_1, bI_t, bI_f, n_31, j_bit, j_one, i_and, i_or, Nat.not_lt_zero, Nat.succ_ne_zero, Nat.add_one_ne_zero, Nat.add_one_sub_one, Nat.zero_le, Nat.or_zero, Nat.zero_or, Bool.not_true, Bool.not_false, Bool.true_and, Bool.false_and, Bool.and_true, Bool.and_false, ↓reduceIte, if_true, if_false, not_true_eq_false, not_false_eq_true, true_and, and_true, false_and, and_false, and_self, true_or, or_true, false_or, or_false, Nat.reduceEqDiff, Nat.reduceLT, Nat.reduceLeDiff, Nat.reduceAdd, Nat.reduceMul, Nat.reduceSub, Nat.add_zero, Nat.zero_add, Nat.mul_zero, Nat.zero_mul, ne_eq, Bool.not_eq_true, Bool.not_eq_false, reduceCtorEq, decide_true, decide_false, decide_eq_true_eq, decide_eq_false_iff_not, Bool.false_eq_true, if_pos, if_neg, H.1, e, e0, hv, x_playable_n H w]
theorem x_opening (H : rHou sc 0 q G) (w : gWf G) {g : Nat} (hg : g < 64) : f_X2_opening 0 (nI g) sc = some (xI (gpl G (G 2) g), sc) := by
  have h := w.1
  unfold f_X2_opening
  rw [H.1, fNn_s, H.2.1.1.2.2.1]
  have e : nI (G 2) - (1 : Int32) = xI (G 2) := by
    cases G 2 with
    | zero => rfl
    | succ n => exact nI_pred n
  rw [e, x_playable H w (Nat.le_refl _) hg]
  rfl
theorem x_canOpen (H : rHou sc 0 q G) (w : gWf G) : f_X2_canOpen 0 sc = some (bI (decide (gpl G (G 2) (G 5) ≠ 0)), sc) := by
  have h := w.1
  have h2 := w.2.1
  have h3 := gpl_le G (G 2) (G 5)
  unfold f_X2_canOpen
  rw [H.2.2.1.2, x_opening H w (by omega)]
  cases hv : gpl G (G 2) (G 5) with
  | zero => simp (disch := omega) only [fLt_e, fBd_s, fJn_s, fNn_s, fNu_0, fNu_s, fBo_0, fBo_1, fBo_b, i_lit, i_neg1, nI_add, pk_mul, nI_clamp, i_le, i_lt, i_eq, fIx_n, nI_mI, mI_nI, mI_lt, nI_lt_m, mI_le, nI_le_m, xI_0, xI_s, bI_0, bI_1, bI_t, bI_f, n_31, j_bit, j_one, i_and, i_or, Nat.not_lt_zero, Nat.succ_ne_zero, Nat.add_one_ne_zero, Nat.add_one_sub_one, Nat.zero_le, Nat.or_zero, Nat.zero_or, Bool.not_true, Bool.not_false, Bool.true_and, Bool.false_and, Bool.and_true, Bool.and_false, ↓reduceIte, if_true, if_false, not_true_eq_false, not_false_eq_true, true_and, and_true, false_and, and_false, and_self, true_or, or_true, false_or, or_false, Nat.reduceEqDiff, Nat.reduceLT, Nat.reduceLeDiff, Nat.reduceAdd, Nat.reduceMul, Nat.reduceSub, Nat.add_zero, Nat.zero_add, Nat.mul_zero, Nat.zero_mul, ne_eq, Bool.not_eq_true, Bool.not_eq_false, reduceCtorEq, decide_true, decide_false, decide_eq_true_eq, decide_eq_false_iff_not, Bool.false_eq_true, if_pos, if_neg, hv]
  | succ v => simp (disch := omega) only [fLt_e, fBd_s, fJn_s, fNn_s, fNu_0, fNu_s, fBo_0, fBo_1, fBo_b, i_lit, i_neg1, nI_add, pk_mul, nI_clamp, i_le, i_lt, i_eq, fIx_n, nI_mI, mI_nI, mI_lt, nI_lt_m, mI_le, nI_le_m, xI_0, xI_s, bI_0, bI_1, bI_t, bI_f, n_31, j_bit, j_one, i_and, i_or, Nat.not_lt_zero, Nat.succ_ne_zero, Nat.add_one_ne_zero, Nat.add_one_sub_one, Nat.zero_le, Nat.or_zero, Nat.zero_or, Bool.not_true, Bool.not_false, Bool.true_and, Bool.false_and, Bool.and_true, Bool.and_false, ↓reduceIte, if_true, if_false, not_true_eq_false, not_false_eq_true, true_and, and_true, false_and, and_false, and_self, true_or, or_true, false_or, or_false, Nat.reduceEqDiff, Nat.reduceLT, Nat.reduceLeDiff, Nat.reduceAdd, Nat.reduceMul, Nat.reduceSub, Nat.add_zero, Nat.zero_add, Nat.mul_zero, Nat.zero_mul, ne_eq, Bool.not_eq_true, Bool.not_eq_false, reduceCtorEq, decide_true, decide_false, decide_eq_true_eq, decide_eq_false_iff_not, Bool.false_eq_true, if_pos, if_neg, hv]
theorem m_isDark (B : rBlk (gA sm 12 0 5) G) (w : gWf G) : f_X12_isDark sm = some (bI (decide (gpl G (G 2) (G 5) = 0)), sm) := by
  have h := w.1
  unfold f_X12_isDark
  simp only [i_lit, fJn_s]
  rw [fIx_n (by omega) (by omega), nI_clamp (by omega), B.1.2.2.1]
  have e : nI (G 2) - nI 1 = xI (G 2) := by
    cases G 2 with
    | zero => rfl
    | succ n => exact nI_pred n
  rw [e, m_canPlay B w (Nat.le_refl _) (by omega), Nat.or_zero, fBd_s]
  by_cases hz : gpl G (G 2) (G 5) = 0
  · simp (disch := omega) only [fLt_e, fBd_s, fJn_s, fNn_s, fNu_0, fNu_s, fBo_0, fBo_1, fBo_b, i_lit, i_neg1, nI_add, pk_mul, nI_clamp, i_le, i_lt, i_eq, fIx_n, nI_mI, mI_nI, mI_lt, nI_lt_m, mI_le, nI_le_m, xI_0, xI_s, bI_0, bI_1, bI_t, bI_f, n_31, j_bit, j_one, i_and, i_or, Nat.not_lt_zero, Nat.succ_ne_zero, Nat.add_one_ne_zero, Nat.add_one_sub_one, Nat.zero_le, Nat.or_zero, Nat.zero_or, Bool.not_true, Bool.not_false, Bool.true_and, Bool.false_and, Bool.and_true, Bool.and_false, ↓reduceIte, if_true, if_false, not_true_eq_false, not_false_eq_true, true_and, and_true, false_and, and_false, and_self, true_or, or_true, false_or, or_false, Nat.reduceEqDiff, Nat.reduceLT, Nat.reduceLeDiff, Nat.reduceAdd, Nat.reduceMul, Nat.reduceSub, Nat.add_zero, Nat.zero_add, Nat.mul_zero, Nat.zero_mul, ne_eq, Bool.not_eq_true, Bool.not_eq_false, reduceCtorEq, decide_true, decide_false, decide_eq_true_eq, decide_eq_false_iff_not, Bool.false_eq_true, if_pos, if_neg, hz]
  · simp (disch := omega) only [fLt_e, fBd_s, fJn_s, fNn_s, fNu_0, fNu_s, fBo_0, fBo_1, fBo_b, i_lit, i_neg1, nI_add, pk_mul, nI_clamp, i_le, i_lt, i_eq, fIx_n, nI_mI, mI_nI, mI_lt, nI_lt_m, mI_le, nI_le_m, xI_0, xI_s, bI_0, bI_1, bI_t, bI_f, n_31, j_bit, j_one, i_and, i_or, Nat.not_lt_zero, Nat.succ_ne_zero, Nat.add_one_ne_zero, Nat.add_one_sub_one, Nat.zero_le, Nat.or_zero, Nat.zero_or, Bool.not_true, Bool.not_false, Bool.true_and, Bool.false_and, Bool.and_true, Bool.and_false, ↓reduceIte, if_true, if_false, not_true_eq_false, not_false_eq_true, true_and, and_true, false_and, and_false, and_self, true_or, or_true, false_or, or_false, Nat.reduceEqDiff, Nat.reduceLT, Nat.reduceLeDiff, Nat.reduceAdd, Nat.reduceMul, Nat.reduceSub, Nat.add_zero, Nat.zero_add, Nat.mul_zero, Nat.zero_mul, ne_eq, Bool.not_eq_true, Bool.not_eq_false, reduceCtorEq, decide_true, decide_false, decide_eq_true_eq, decide_eq_false_iff_not, Bool.false_eq_true, if_pos, if_neg, hz]
theorem m_behind2 (B : rBlk (gA sm 12 0 5) G) (w : gWf G) {s d k : Nat} (hs : s < G 2) (hd : d < 4) (hk : k < 64) : f_X12_behind2 (nI s) (nI d) (nI k) sm = some (xI (gnx G s d (G 5 ||| gkil G s k)), sm) := by
  have h := w.1
  have h0 := (w.2.2.2.1 s hs).2.2.2.1
  obtain ⟨-, -, -, e0, e1, e2, e3, -⟩ := B.2.2.1 s hs
  have hk' := gkil_lt w hs hk
  -- what follows once the way told is known
  have key : ∀ t, t ≤ s → (fBd (f_X12_kills (nI s) (nI k) sm) fun x8 s9 => fBd (f_X12_canPlay (xI t) x8 s9) fun x10 s11 => if x10 = nI 0 then some (mI, s11) else some (xI t, s11)) = some (xI (gpl G t (G 5 ||| gkil G s k)), sm) := by
    intro t ht
    rw [m_kills B w hs, fBd_s, m_canPlay B w (by omega) hk', fBd_s]
    simp only [bI_0]
    unfold gpl
    by_cases ht0 : t = 0
    · simp [ht0, xI_0]
    · by_cases hc : gcan G (t - 1) (G 5 ||| gkil G s k) = true
      · simp [ht0, hc]
      · simp [ht0, hc, xI_0]
  have key2 : ∀ t, t ≤ s → (if nI 0 ≤ xI t then (fBd (f_X12_kills (nI s) (nI k) sm) fun x8 s9 => fBd (f_X12_canPlay (xI t) x8 s9) fun x10 s11 => if x10 = nI 0 then some (mI, s11) else some (xI t, s11)) else fBd (f_X12_kills (nI s) (nI k) sm) fun x8 s9 => fBd (f_X12_canPlay (xI (G (61 + s))) x8 s9) fun x10 s11 => if x10 = nI 0 then some (mI, s11) else some (xI (G (61 + s)), s11)) = some (xI (gpl G (if t = 0 then G (61 + s) else t) (G 5 ||| gkil G s k)), sm) := by
    intro t ht
    cases t with
    | zero => rw [if_neg (by rw [xI_0, nI_le_m (by omega)]; simp), if_pos rfl, key _ h0.1]
    | succ t =>
      rw [if_pos (show nI 0 ≤ xI (t + 1) from nI_le (Nat.zero_le _) (by omega)), if_neg (by omega)]
      exact key _ ht
  unfold f_X12_behind2 gnx gway
  simp only [fJn_s, fLt_e, i_lit, i_neg1, nI_add]
  rw [fIx_n (a := 97 + s) (by omega) (by omega), fIx_n (a := 85 + s) (by omega) (by omega), fIx_n (a := 73 + s) (by omega) (by omega)]
  rw [nI_clamp (n := 97 + s) (by omega), nI_clamp (n := 85 + s) (by omega), nI_clamp (n := 73 + s) (by omega), nI_clamp (n := 61 + s) (by omega), e1, e2, e3]
  simp only [fIx_n (show 61 + s < 2150 by omega) (show 2150 < 2 ^ 31 by omega), e0]
  rcases (show d = 0 ∨ d = 1 ∨ d = 2 ∨ d = 3 by omega) with rfl | rfl | rfl | rfl
  · rw [if_pos (by decide), if_pos (by decide), if_pos (by decide)]
    have e : (if G (61 + 12 * 0 + s) = 0 then G (61 + s) else G (61 + 12 * 0 + s)) = G (61 + s) := by
      rw [Nat.mul_zero, Nat.add_zero]
      split
      · rfl
      · rfl
    rw [e]
    exact key2 0 (by omega)
  · rw [if_neg (by decide)]
    exact key2 _ h0.2.1
  · rw [if_pos (by decide), if_neg (by decide)]
    exact key2 _ h0.2.2.1
  · rw [if_pos (by decide), if_pos (by decide), if_neg (by decide)]
    exact key2 _ h0.2.2.2
end
