/-! layer 2: frames with a set of changed cells; readRoles -/
def xS (q : Nat) (D : Nat → Nat → Prop) (s t : fSt) : Prop := (∀ c j k, ¬ (c = 5 ∧ j = 0 ∧ 4 ≤ k) → gI t c j k = gI s c j k) ∧ (∀ c j k, ¬ (c = 5 ∧ j = 0 ∧ k = 7) → gL t c j k = gL s c j k) ∧ (∀ c j k m, ¬ (c = 7 ∧ j = q ∧ D k m) → gA t c j k m = gA s c j k m) ∧ (∀ c j k m, ¬ (c = 7 ∧ j = q ∧ D (20 + k) m) → gB t c j k m = gB s c j k m) ∧ gP t = gP s
def yS (D E : Nat → Prop) (s t : fSt) : Prop := (∀ c j k, ¬ (c = 12 ∧ j = 0 ∧ 12 ≤ k ∧ k < 19) → gI t c j k = gI s c j k) ∧ (∀ c j k, ¬ (c = 12 ∧ j = 0 ∧ k = 19) → gL t c j k = gL s c j k) ∧ (∀ c j k m, ¬ (c = 12 ∧ j = 0 ∧ k = 5 ∧ D m) → gA t c j k m = gA s c j k m) ∧ (∀ c j k m, ¬ (c = 12 ∧ j = 0 ∧ k = 7 ∧ E m) → gB t c j k m = gB s c j k m) ∧ gP t = gP s
section
variable {q : Nat} {D : Nat → Nat → Prop} {D' E : Nat → Prop} {s t u : fSt}
theorem xS_tr (h : xS q D s t) (g : xS q D t u) : xS q D s u := ⟨fun c j k h1 => (g.1 c j k h1).trans (h.1 c j k h1), fun c j k h1 => (g.2.1 c j k h1).trans (h.2.1 c j k h1), fun c j k m h1 => (g.2.2.1 c j k m h1).trans (h.2.2.1 c j k m h1), fun c j k m h1 => (g.2.2.2.1 c j k m h1).trans (h.2.2.2.1 c j k m h1), g.2.2.2.2.trans h.2.2.2.2⟩
theorem yS_tr (h : yS D' E s t) (g : yS D' E t u) : yS D' E s u := ⟨fun c j k h1 => (g.1 c j k h1).trans (h.1 c j k h1), fun c j k h1 => (g.2.1 c j k h1).trans (h.2.1 c j k h1), fun c j k m h1 => (g.2.2.1 c j k m h1).trans (h.2.2.1 c j k m h1), fun c j k m h1 => (g.2.2.2.1 c j k m h1).trans (h.2.2.2.1 c j k m h1), g.2.2.2.2.trans h.2.2.2.2⟩
theorem xS_x (h : xFr s t) : xS q D s t := by
  refine ⟨h.1, h.2.1, fun c j k m _ => ?_, fun c j k m _ => ?_, h.2.2.2.2⟩
  · rw [h.2.2.1]
  · rw [h.2.2.2.1]
theorem yS_y (h : yFr s t) : yS D' E s t := by
  refine ⟨h.1, h.2.1, fun c j k m _ => ?_, fun c j k m _ => ?_, h.2.2.2.2⟩
  · rw [h.2.2.1]
  · rw [h.2.2.2.1]
theorem xS_b {jj cnt : Nat} {w : Int64} (h : xFb s t q jj cnt w) (hD : D (20 + jj) cnt) : xS q D s t := by
  refine ⟨h.1, h.2.1, fun c j k m _ => ?_, fun c j k m h1 => ?_, h.2.2.2.2⟩
  · rw [h.2.2.1]
  · rw [h.2.2.2.1, if_neg (fun e => h1 ⟨e.1, e.2.1, by rw [e.2.2.1, e.2.2.2]; exact hD⟩)]
theorem yS_b {m : Nat} {w : Int64} (h : yFb s t m w) (hE : E m) : yS D' E s t := by
  refine ⟨h.1, h.2.1, fun c j k m _ => ?_, fun c j k m h1 => ?_, h.2.2.2.2⟩
  · rw [h.2.2.1]
  · rw [h.2.2.2.1, if_neg (fun e => h1 ⟨e.1, e.2.1, e.2.2.1, by rw [e.2.2.2]; exact hE⟩)]
theorem xS_A (s : fSt) {k m : Nat} (v : Int32) (hD : D k m) : xS q D s (sA s 7 q k (upd (gA s 7 q k) m v)) := by
  refine ⟨fun _ _ _ _ => rfl, fun _ _ _ _ => rfl, fun c j k' m' h1 => ?_, fun _ _ _ _ _ => rfl, rfl⟩
  rw [gA_sA]
  by_cases e : c = 7 ∧ j = q ∧ k' = k
  · obtain ⟨rfl, rfl, rfl⟩ := e
    rw [if_pos ⟨rfl, rfl, rfl⟩, upd_at, if_neg (fun g => h1 ⟨rfl, rfl, by rw [g]; exact hD⟩)]
  · rw [if_neg e]
theorem yS_A (s : fSt) {m : Nat} (v : Int32) (hD : D' m) : yS D' E s (sA s 12 0 5 (upd (gA s 12 0 5) m v)) := by
  refine ⟨fun _ _ _ _ => rfl, fun _ _ _ _ => rfl, fun c j k' m' h1 => ?_, fun _ _ _ _ _ => rfl, rfl⟩
  rw [gA_sA]
  by_cases e : c = 12 ∧ j = 0 ∧ k' = 5
  · obtain ⟨rfl, rfl, rfl⟩ := e
    rw [if_pos ⟨rfl, rfl, rfl⟩, upd_at, if_neg (fun g => h1 ⟨rfl, rfl, rfl, by rw [g]; exact hD⟩)]
  · rw [if_neg e]
theorem xQ_S (h : xS q D s t) : xQ q s t := by
  refine ⟨fun c j k h1 _ => h.1 c j k h1, h.2.1, fun c j k h1 => funext fun m => h.2.2.1 c j k m (fun e => h1 ⟨e.1, e.2.1⟩), fun c j k h1 => funext fun m => h.2.2.2.1 c j k m (fun e => h1 ⟨e.1, e.2.1⟩), h.2.2.2.2⟩
theorem yQ_S (h : yS D' E s t) (hD : ∀ m, D' m → 1720 ≤ m) (hE : ∀ m, E m → 112 ≤ m) : yQ s t := by
  refine ⟨h.1, h.2.1, fun c j k h1 => funext fun m => h.2.2.1 c j k m (fun e => h1 ⟨e.1, e.2.1, e.2.2.1⟩), fun m hm => h.2.2.1 _ _ _ _ (fun e => ?_), fun c j k h1 => funext fun m => h.2.2.2.1 c j k m (fun e => h1 ⟨e.1, e.2.1, e.2.2.1⟩), fun m hm => h.2.2.2.1 _ _ _ _ (fun e => ?_), h.2.2.2.2⟩
  · have := hD m e.2.2.2
    omega
  · have := hE m e.2.2.2
    omega
/-- counts and names stand while only later cells change -/
theorem nmR_S {s' t' : fSt} {G : Nat → Nat} (N : nmR s t q G) (f : xS q D s s') (g : yS D' E t t') (hD : ∀ m, (D 21 m → G 0 ≤ m) ∧ (D 22 m → G 1 ≤ m) ∧ (D 23 m → G 2 ≤ m) ∧ (D 24 m → G 3 ≤ m)) (hE : ∀ m, E m → (112 + G 0 ≤ m ∧ 118 ≤ m ∨ 140 ≤ m) ∧ (m < 118 ∨ 118 + G 1 ≤ m) ∧ (m < 124 ∨ 124 + G 2 ≤ m) ∧ (m < 136 ∨ 136 + G 3 ≤ m)) (hA : ∀ m, D' m → 1724 ≤ m) : nmR s' t' q G := by
  obtain ⟨b, ⟨x0, x1, x2, x3⟩, ⟨y0, y1, y2, y3⟩, ⟨n0, n1, n2, n3⟩⟩ := N
  have hA' : ∀ m, m < 1724 → gA t' 12 0 5 m = gA t 12 0 5 m := fun m hm => g.2.2.1 _ _ _ _ (fun e => by have := hA m e.2.2.2; omega)
  refine ⟨b, ⟨?_, ?_, ?_, ?_⟩, ⟨?_, ?_, ?_, ?_⟩, ⟨fun k hk => ?_, fun k hk => ?_, fun k hk => ?_, fun k hk => ?_⟩⟩
  · rw [f.1 _ _ _ (by omega)]; exact x0
  · rw [f.1 _ _ _ (by omega)]; exact x1
  · rw [f.1 _ _ _ (by omega)]; exact x2
  · rw [f.1 _ _ _ (by omega)]; exact x3
  · rw [hA' _ (by omega)]; exact y0
  · rw [hA' _ (by omega)]; exact y1
  · rw [hA' _ (by omega)]; exact y2
  · rw [hA' _ (by omega)]; exact y3
  · show gB s' 7 q 1 k = gB t' 12 0 7 (112 + k)
    rw [f.2.2.2.1 _ _ _ _ (fun e => by have := (hD k).1 e.2.2; omega), g.2.2.2.1 _ _ _ _ (fun e => by have := (hE _ e.2.2.2); omega)]
    exact n0 k hk
  · show gB s' 7 q 2 k = gB t' 12 0 7 (112 + (6 + k))
    rw [f.2.2.2.1 _ _ _ _ (fun e => by have := (hD k).2.1 e.2.2; omega), g.2.2.2.1 _ _ _ _ (fun e => by have := (hE _ e.2.2.2); omega)]
    exact n1 k hk
  · show gB s' 7 q 3 k = gB t' 12 0 7 (112 + (12 + k))
    rw [f.2.2.2.1 _ _ _ _ (fun e => by have := (hD k).2.2.1 e.2.2; omega), g.2.2.2.1 _ _ _ _ (fun e => by have := (hE _ e.2.2.2); omega)]
    exact n2 k hk
  · show gB s' 7 q 4 k = gB t' 12 0 7 (112 + (24 + k))
    rw [f.2.2.2.1 _ _ _ _ (fun e => by have := (hD k).2.2.2 e.2.2; omega), g.2.2.2.1 _ _ _ _ (fun e => by have := (hE _ e.2.2.2); omega)]
    exact n3 k hk
end
section
variable {sc sm : fSt} {n : Nat} {c : Nat → Nat} {a p so : Nat}
theorem ps_A7 (P : psR sc sm n c a p so) (q k : Nat) (f : Nat → Int32) : psR (sA sc 7 q k f) sm n c a p so := by
  obtain ⟨T, q0, ⟨q1, q2, q3, q4, q5, q6⟩, q7, q8, q9⟩ := P
  refine ⟨tpe_e T rfl rfl rfl ?_ rfl, q0, ⟨q1, q2, q3, q4, q5, q6⟩, q7, q8, q9⟩
  rw [gA_sA, if_neg (by omega)]
theorem ps_roles (P : psR sc sm n c a p so) {q : Nat} {G : Nat → Nat} (N : nmR sc sm q G) : ∃ sc' sm', xFr sc sc' ∧ yFr sm sm' ∧ ((∃ mk a' p' so', mk < 2 ^ G 0 ∧ psR sc' sm' n c a' p' so' ∧ (p ≤ a' ∧ (¬ so' = 35 → p < p')) ∧ f_X7_readRoles q sc = some (nI mk, sc') ∧ f_X12_readRoles sm = some (nI mk, sm')) ∨ (∃ r d e, flR sc' sm' d e ∧ f_X7_readRoles q sc = some (mI, sc') ∧ f_X12_readRoles sm = some (nI r, sm')) ∨ (∃ mk a', mk < 2 ^ G 0 ∧ hfR sc' sm' a' ∧ f_X7_readRoles q sc = some (nI mk, sc') ∧ f_X12_readRoles sm = some (nI mk, sm'))) := by
  obtain ⟨s1, t1, a1, p1, o1, e1, d1, P1, f1, g1, m1, -⟩ := ps_adv P
  have hF : 100 < fF := fF_lt (by omega)
  have hpq := P1.2.2.1.2.2.2.2
  obtain ⟨s2, t2, f2, g2, h⟩ := ps_rolesL (q := q) (G := G) 7 0 0 s1 t1 a1 p1 o1 fF fF (by omega) P1 (nmR_fr N f1 g1) (Nat.two_pow_pos _) (by decide) (Or.inl rfl) (by omega) (by omega)
  have hx : f_X7_readRoles q sc = f_X7_readRoles_L8 q (fun x s => some (x, s)) fF (nI 0) (nI 0) s1 := by
    unfold f_X7_readRoles
    rw [e1, fBd_s]
    rfl
  have hm : f_X12_readRoles sm = f_X12_readRoles_L8 (fun x s => some (x, s)) fF (nI 0) (nI 1) t1 := by
    unfold f_X12_readRoles
    rw [d1, fBd_s]
    rfl
  rw [hx, hm]
  refine ⟨s2, t2, xFr_tr f1 f2, yFr_tr g1 g2, ?_⟩
  rcases h with ⟨mk, a', p', o', u1, u2, u3, u4⟩ | ⟨r, d, e, u1, u2⟩ | ⟨mk, a', u1, u2, u3⟩
  · have u5 := u4 (fun x s => some (x, s)) (fun x s => some (x, s))
    refine Or.inl ⟨mk, a', p', o', u1, u2, ⟨by omega, fun h => ?_⟩, u5.1, u5.2⟩
    have := u3.2 h
    omega
  · have u5 := u2 (fun x s => some (x, s)) (fun x s => some (x, s))
    exact Or.inr (Or.inl ⟨r, d, e, u1, u5.1, u5.2⟩)
  · have u5 := u3 (fun x s => some (x, s)) (fun x s => some (x, s))
    exact Or.inr (Or.inr ⟨mk, a', u1, u2, u5.1, u5.2⟩)
end
