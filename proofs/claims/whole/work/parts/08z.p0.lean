/-! the state's own laws -/
theorem gI_sI (st : fSt) (c i k : Nat) (v : Int32) (c' i' k' : Nat) : gI (sI st c i k v) c' i' k' = if c' = c ∧ i' = i ∧ k' = k then v else gI st c' i' k' := rfl
theorem gL_sL (st : fSt) (c i k : Nat) (v : Int64) (c' i' k' : Nat) : gL (sL st c i k v) c' i' k' = if c' = c ∧ i' = i ∧ k' = k then v else gL st c' i' k' := rfl
theorem gA_sA (st : fSt) (c i k : Nat) (v : Nat → Int32) (c' i' k' : Nat) : gA (sA st c i k v) c' i' k' = if c' = c ∧ i' = i ∧ k' = k then v else gA st c' i' k' := rfl
theorem gB_sB (st : fSt) (c i k : Nat) (v : Nat → Int64) (c' i' k' : Nat) : gB (sB st c i k v) c' i' k' = if c' = c ∧ i' = i ∧ k' = k then v else gB st c' i' k' := rfl
theorem gP_sP (st : fSt) (c i k : Nat) (v : Nat) (c' i' k' : Nat) : gP (sP st c i k v) c' i' k' = if c' = c ∧ i' = i ∧ k' = k then v else gP st c' i' k' := rfl
theorem gI_sL (st : fSt) (c i k : Nat) (v : Int64) : gI (sL st c i k v) = gI st := rfl
theorem gI_sA (st : fSt) (c i k : Nat) (v : Nat → Int32) : gI (sA st c i k v) = gI st := rfl
theorem gI_sB (st : fSt) (c i k : Nat) (v : Nat → Int64) : gI (sB st c i k v) = gI st := rfl
theorem gI_sP (st : fSt) (c i k : Nat) (v : Nat) : gI (sP st c i k v) = gI st := rfl
theorem gL_sI (st : fSt) (c i k : Nat) (v : Int32) : gL (sI st c i k v) = gL st := rfl
theorem gL_sA (st : fSt) (c i k : Nat) (v : Nat → Int32) : gL (sA st c i k v) = gL st := rfl
theorem gL_sB (st : fSt) (c i k : Nat) (v : Nat → Int64) : gL (sB st c i k v) = gL st := rfl
theorem gL_sP (st : fSt) (c i k : Nat) (v : Nat) : gL (sP st c i k v) = gL st := rfl
theorem gA_sI (st : fSt) (c i k : Nat) (v : Int32) : gA (sI st c i k v) = gA st := rfl
theorem gA_sL (st : fSt) (c i k : Nat) (v : Int64) : gA (sL st c i k v) = gA st := rfl
theorem gA_sB (st : fSt) (c i k : Nat) (v : Nat → Int64) : gA (sB st c i k v) = gA st := rfl
theorem gA_sP (st : fSt) (c i k : Nat) (v : Nat) : gA (sP st c i k v) = gA st := rfl
theorem gB_sI (st : fSt) (c i k : Nat) (v : Int32) : gB (sI st c i k v) = gB st := rfl
theorem gB_sL (st : fSt) (c i k : Nat) (v : Int64) : gB (sL st c i k v) = gB st := rfl
theorem gB_sA (st : fSt) (c i k : Nat) (v : Nat → Int32) : gB (sA st c i k v) = gB st := rfl
theorem gB_sP (st : fSt) (c i k : Nat) (v : Nat) : gB (sP st c i k v) = gB st := rfl
theorem gP_sI (st : fSt) (c i k : Nat) (v : Int32) : gP (sI st c i k v) = gP st := rfl
theorem gP_sL (st : fSt) (c i k : Nat) (v : Int64) : gP (sL st c i k v) = gP st := rfl
theorem gP_sA (st : fSt) (c i k : Nat) (v : Nat → Int32) : gP (sA st c i k v) = gP st := rfl
theorem gP_sB (st : fSt) (c i k : Nat) (v : Nat → Int64) : gP (sB st c i k v) = gP st := rfl
theorem f3_f3 {α : Type} (f : Nat → Nat → Nat → α) (c i k : Nat) (v w : α) : f3 (f3 f c i k v) c i k w = f3 f c i k w := by
  funext a b d
  unfold f3
  split <;> rfl
theorem f3_self {α : Type} (f : Nat → Nat → Nat → α) (c i k : Nat) : f3 f c i k (f c i k) = f := by
  funext a b d
  unfold f3
  split
  · rename_i h
    obtain ⟨rfl, rfl, rfl⟩ := h
    rfl
  · rfl
theorem sA_sA (st : fSt) (c i k : Nat) (v w : Nat → Int32) : sA (sA st c i k v) c i k w = sA st c i k w := by unfold sA; rw [f3_f3]
theorem sB_sB (st : fSt) (c i k : Nat) (v w : Nat → Int64) : sB (sB st c i k v) c i k w = sB st c i k w := by unfold sB; rw [f3_f3]
theorem sI_sI (st : fSt) (c i k : Nat) (v w : Int32) : sI (sI st c i k v) c i k w = sI st c i k w := by unfold sI; rw [f3_f3]
theorem sL_sL (st : fSt) (c i k : Nat) (v w : Int64) : sL (sL st c i k v) c i k w = sL st c i k w := by unfold sL; rw [f3_f3]
theorem sA_self (st : fSt) (c i k : Nat) : sA st c i k (gA st c i k) = st := by
  unfold sA gA
  rw [f3_self]
theorem sB_self (st : fSt) (c i k : Nat) : sB st c i k (gB st c i k) = st := by
  unfold sB gB
  rw [f3_self]
theorem gI_same (st : fSt) (c i k : Nat) (v : Int32) : gI (sI st c i k v) c i k = v := f3_s _ _ _ _ _
theorem gL_same (st : fSt) (c i k : Nat) (v : Int64) : gL (sL st c i k v) c i k = v := f3_s _ _ _ _ _
theorem gA_same (st : fSt) (c i k : Nat) (v : Nat → Int32) : gA (sA st c i k v) c i k = v := f3_s _ _ _ _ _
theorem gB_same (st : fSt) (c i k : Nat) (v : Nat → Int64) : gB (sB st c i k v) c i k = v := f3_s _ _ _ _ _
theorem gP_same (st : fSt) (c i k : Nat) (v : Nat) : gP (sP st c i k v) c i k = v := f3_s _ _ _ _ _
theorem fIx_nI {β : Type} {k n : Nat} {x : Option β} (h : k < n) (hn : n < 2 ^ 31) : fIx (nI k) n x = x := by
  unfold fIx
  rw [if_pos ⟨nI_pos' (by omega), by rw [nI_clamp (by omega)]; exact h⟩]
theorem fill_I (c i j n : Nat) (hn : n < 2 ^ 31) (v : Int32) : ∀ (fu k : Nat) (st : fSt), k ≤ n → n - k < fu → f_J7_fill_53178_L5 c i j n v (nI n) fu (nI k) st = some ((), sA st c i j (fun q => if k ≤ q ∧ q < n then v else gA st c i j q)) := by
  intro fu
  induction fu with
  | zero => intro k st _ h; omega
  | succ fu ih =>
    intro k st hk hf
    rw [f_J7_fill_53178_L5]
    rcases Nat.lt_or_ge k n with h | h
    · rw [if_neg (nI_ge h hn), fIx_nI h hn]
      dsimp only [fLt]
      rw [show nI k + (1 : Int32) = nI (k + 1) from nI_1 k, ih (k + 1) _ (by omega) (by omega), sA_sA, nI_clamp (by omega)]
      refine congrArg (fun f => some ((), sA st c i j f)) (funext fun q => ?_)
      rw [gA_same]
      unfold upd
      by_cases h1 : q = k
      · subst h1
        rw [if_neg (by omega), if_pos rfl, if_pos (by omega)]
      · by_cases h2 : k + 1 ≤ q ∧ q < n
        · rw [if_pos h2, if_pos (by omega)]
        · rw [if_neg h2, if_neg h1, if_neg (by omega)]
    · have e : k = n := by omega
      subst e
      rw [if_pos (nI_le (Nat.le_refl _) hn)]
      refine congrArg (fun s => some ((), s)) ?_
      rw [show (fun q => if k ≤ q ∧ q < k then v else gA st c i j q) = gA st c i j from funext fun q => if_neg (by omega)]
      exact (sA_self st c i j).symm
theorem p_fillI (c i j n : Nat) (hn : n < 4000000) (v : Int32) (st : fSt) : f_J7_fill_53178 c i j n v st = some ((), sA st c i j (fun q => if q < n then v else gA st c i j q)) := by
  unfold f_J7_fill_53178
  dsimp only [fLt]
  have h := fill_I c i j n (by omega) v fF 0 st (by omega) (by have := fF_ge; omega)
  simp only [Nat.zero_le, true_and] at h
  rw [nI_0] at h
  exact h
theorem fill_L (c i j n : Nat) (hn : n < 2 ^ 31) (v : Int64) : ∀ (fu k : Nat) (st : fSt), k ≤ n → n - k < fu → f_J7_fill_d0a16_L6 c i j n v (nI n) fu (nI k) st = some ((), sB st c i j (fun q => if k ≤ q ∧ q < n then v else gB st c i j q)) := by
  intro fu
  induction fu with
  | zero => intro k st _ h; omega
  | succ fu ih =>
    intro k st hk hf
    rw [f_J7_fill_d0a16_L6]
    rcases Nat.lt_or_ge k n with h | h
    · rw [if_neg (nI_ge h hn), fIx_nI h hn]
      dsimp only [fLt]
      rw [show nI k + (1 : Int32) = nI (k + 1) from nI_1 k, ih (k + 1) _ (by omega) (by omega), sB_sB, nI_clamp (by omega)]
      refine congrArg (fun f => some ((), sB st c i j f)) (funext fun q => ?_)
      rw [gB_same]
      unfold vp_updL
      by_cases h1 : q = k
      · subst h1
        rw [if_neg (by omega), if_pos rfl, if_pos (by omega)]
      · by_cases h2 : k + 1 ≤ q ∧ q < n
        · rw [if_pos h2, if_pos (by omega)]
        · rw [if_neg h2, if_neg h1, if_neg (by omega)]
    · have e : k = n := by omega
      subst e
      rw [if_pos (nI_le (Nat.le_refl _) hn)]
      refine congrArg (fun s => some ((), s)) ?_
      rw [show (fun q => if k ≤ q ∧ q < k then v else gB st c i j q) = gB st c i j from funext fun q => if_neg (by omega)]
      exact (sB_self st c i j).symm
theorem p_fillL (c i j n : Nat) (hn : n < 4000000) (v : Int64) (st : fSt) : f_J7_fill_d0a16 c i j n v st = some ((), sB st c i j (fun q => if q < n then v else gB st c i j q)) := by
  unfold f_J7_fill_d0a16
  dsimp only [fLt]
  have h := fill_L c i j n (by omega) v fF 0 st (by omega) (by have := fF_ge; omega)
  simp only [Nat.zero_le, true_and] at h
  rw [nI_0] at h
  exact h
