/-! what the pure side owes: SIM; a step of the law under it -/
def simI (x m : fSt → Option (Int32 × fSt)) (R : fSt → Prop) : Prop := ∀ st, R st → ∃ r s1 s2, x st = some (r, s1) ∧ m s1 = some (r, s2) ∧ R s2
def simL (x m : fSt → Option (Int64 × fSt)) (R : fSt → Prop) : Prop := ∀ st, R st → ∃ r s1 s2, x st = some (r, s1) ∧ m s1 = some (r, s2) ∧ R s2
theorem fIx_in {β : Type} {x : Int32} {n : Nat} {k : Option β} (h : 0 ≤ x ∧ x.toNatClampNeg < n) : fIx x n k = k := if_pos h
theorem lg_cmp_rf (x : Int64) : lg_cmp x x = 0 := by
  unfold lg_cmp
  rw [if_neg (by show ¬ x < x; exact Int64.lt_irrefl), if_pos rfl]
theorem fBd_s {α β : Type} (a : α) (s : fSt) (f : α → fSt → Option β) : fBd (some (a, s)) f = f a s := rfl
theorem fJn_s {β γ : Type} (f : β) (b : β → γ) : fJn f b = b f := rfl
theorem lw_in {a c L : Nat} (h : a + c < L) (hL : L ≤ 3072) : 0 ≤ nI a + nI c ∧ (nI a + nI c).toNatClampNeg < L := by
  rw [nI_add]
  constructor
  · rw [show (0 : Int32) = nI 0 from rfl, nI_leI (by omega) (by omega)]
    omega
  · rw [show nI (a + c) = Int32.ofNat (a + c) from rfl, Int32.toNatClampNeg_ofNat_of_lt (by omega)]
    exact h

def SIM_0 (R : fSt → Prop) : Prop := simI (f_X11_status) (f_X12_status) R
def SIM_1 (R : fSt → Prop) : Prop := simL (f_X11_top) (f_X12_top) R
def SIM_2 (R : fSt → Prop) : Prop := simL (f_X11_bottom) (f_X12_bottom) R
def SIM_3 (R : fSt → Prop) : Prop := ∀ (a1 : Int32) (a2 : Int32) (a3 : Int32), simI (f_X11_tray a1 a2 a3) (f_X12_tray a1 a2 a3) R
def SIM_4 (R : fSt → Prop) : Prop := ∀ (a1 : Int32) (a2 : Int32) (a3 : Int64), simI (f_X11_write a1 a2 a3) (f_X12_write a1 a2 a3) R
def SIM_5 (R : fSt → Prop) : Prop := ∀ (a1 : Int32) (a2 : Int32), simL (f_X11_read a1 a2) (f_X12_read a1 a2) R
def SIM_6 (R : fSt → Prop) : Prop := ∀ (a1 : Int32) (a2 : Int32) (a3 : Int32) (a4 : Int32) (a5 : Int32), simI (f_X11_pour a1 a2 a3 a4 a5) (f_X12_pour a1 a2 a3 a4 a5) R
def SIM_7 (R : fSt → Prop) : Prop := ∀ (a1 : Int32) (a2 : Int32) (a3 : Int32) (a4 : Int32) (a5 : Int32), simI (f_X11_feed a1 a2 a3 a4 a5) (f_X12_feed a1 a2 a3 a4 a5) R
def SIM_8 (R : fSt → Prop) : Prop := ∀ (n0 : Nat) (a1 : Int32) (st : fSt), R st → (∀ i, i < 4 → gP st 2 i 0 ≤ n0) → ∃ r s1 s2, f_X11_stage n0 a1 st = some (r, s1) ∧ f_X12_stage a1 s1 = some (r, s2) ∧ R s2
def SIM_9 (R : fSt → Prop) : Prop := ∀ (n0 : Nat) (a1 : Int32) (st : fSt), R st → (∀ i, i < 4 → gP st 2 i 1 ≤ n0) → ∃ r s1 s2, f_X11_week n0 a1 st = some (r, s1) ∧ f_X12_week a1 s1 = some (r, s2) ∧ R s2
def SIM_10 (R : fSt → Prop) : Prop := ∀ (a1 : Int32), simI (f_X11_fault a1) (f_X12_fault a1) R
def SIM_11 (R : fSt → Prop) : Prop := ∀ (a1 : Int32), simI (f_X11_many a1) (f_X12_many a1) R
def SIM_12 (R : fSt → Prop) : Prop := ∀ (a1 : Int32) (a2 : Int32), simI (f_X11_scene a1 a2) (f_X12_scene a1 a2) R
def SIM_13 (R : fSt → Prop) : Prop := ∀ (a1 : Int32) (a2 : Int32), simI (f_X11_kind a1 a2) (f_X12_kind a1 a2) R
def SIM_14 (R : fSt → Prop) : Prop := ∀ (a1 : Int32) (a2 : Int32), simI (f_X11_actor a1 a2) (f_X12_actor a1 a2) R
def SIM_15 (R : fSt → Prop) : Prop := ∀ (a1 : Int32) (a2 : Int32), (a2 = 0 ∨ a2 = 1) → simI (f_X11_bar a1 a2) (f_X12_bar a1 a2) R
def SIM_16 (R : fSt → Prop) : Prop := ∀ (a1 : Int32) (a2 : Int32), (a2 = 0 ∨ a2 = 1) → simI (f_X11_kill a1 a2) (f_X12_kill a1 a2) R
def SIM_17 (R : fSt → Prop) : Prop := ∀ (a1 : Int32) (a2 : Int32), simI (f_X11_night a1 a2) (f_X12_night a1 a2) R
def SIM_18 (R : fSt → Prop) : Prop := ∀ (a1 : Int32), simI (f_X11_lot a1) (f_X12_lot a1) R
def SIM_19 (R : fSt → Prop) : Prop := ∀ (a1 : Int32) (a2 : Int32), simI (f_X11_book a1 a2) (f_X12_book a1 a2) R
def SIM_20 (R : fSt → Prop) : Prop := simI (f_X11_unseen) (f_X12_unseen) R
def SIM_21 (R : fSt → Prop) : Prop := ∀ (a1 : Int32), simI (f_X11_led a1) (f_X12_led a1) R
def SIM_22 (R : fSt → Prop) : Prop := ∀ (a1 : Int32), simI (f_X11_heard a1) (f_X12_heard a1) R
def SIM_23 (R : fSt → Prop) : Prop := ∀ (a1 : Int32), simI (f_X11_suspects a1) (f_X12_suspects a1) R
def SIM_24 (R : fSt → Prop) : Prop := ∀ (a1 : Int32) (a2 : Int32), simI (f_X11_odds a1 a2) (f_X12_odds a1 a2) R
def SIM_25 (R : fSt → Prop) : Prop := ∀ (a1 : Int32) (a2 : Int32), simI (f_X11_seen a1 a2) (f_X12_seen a1 a2) R
def SIM_26 (R : fSt → Prop) : Prop := ∀ (a1 : Int32) (a2 : Int32), simI (f_X11_who a1 a2) (f_X12_who a1 a2) R
def SIM_27 (R : fSt → Prop) : Prop := ∀ (a1 : Int32), simI (f_X11_mean a1) (f_X12_mean a1) R
def SIM_28 (R : fSt → Prop) : Prop := simI (f_X11_ways) (f_X12_ways) R
def SIM_29 (R : fSt → Prop) : Prop := ∀ (a1 : Int32), simI (f_X11_length a1) (f_X12_length a1) R
def SIM_30 (R : fSt → Prop) : Prop := ∀ (a1 : Int32), simI (f_X11_can a1) (f_X12_can a1) R
def SIM_31 (R : fSt → Prop) : Prop := ∀ (a1 : Int32), simI (f_X11_by a1) (f_X12_by a1) R
def SIM_32 (R : fSt → Prop) : Prop := simI (f_X11_fewest) (f_X12_fewest) R
def SIM_33 (R : fSt → Prop) : Prop := ∀ (a1 : Int32), simI (f_X11_steer a1) (f_X12_steer a1) R
def SIM_34 (R : fSt → Prop) : Prop := ∀ (a1 : Int32), simI (f_X11_steerAt a1) (f_X12_steerAt a1) R
def SIM_35 (R : fSt → Prop) : Prop := ∀ (a1 : Int32), simI (f_X11_death a1) (f_X12_death a1) R
def SIM_36 (R : fSt → Prop) : Prop := ∀ (a1 : Int32), simI (f_X11_cast a1) (f_X12_cast a1) R
def SIM_37 (R : fSt → Prop) : Prop := ∀ (a1 : Int32), simI (f_X11_castAt a1) (f_X12_castAt a1) R
def SIM_38 (R : fSt → Prop) : Prop := ∀ (a1 : Int32) (a2 : Int32), simI (f_X11_breaths a1 a2) (f_X12_breaths a1 a2) R
def SIM_39 (R : fSt → Prop) : Prop := ∀ (a1 : Int32), simI (f_X11_run a1) (f_X12_run a1) R
def SIM_40 (R : fSt → Prop) : Prop := ∀ (a1 : Int32), simI (f_X11_ran a1) (f_X12_ran a1) R
def SIM_41 (R : fSt → Prop) : Prop := ∀ (a1 : Int32) (a2 : Int32) (a3 : Int32), simI (f_X11_often a1 a2 a3) (f_X12_often a1 a2 a3) R
def SIM_42 (R : fSt → Prop) : Prop := simI (f_X11_mark) (f_X12_mark) R
def SIM_43 (R : fSt → Prop) : Prop := simI (f_X11_back) (f_X12_back) R
def SIM (R : fSt → Prop) : Prop := SIM_0 R ∧ SIM_1 R ∧ SIM_2 R ∧ SIM_3 R ∧ SIM_4 R ∧ SIM_5 R ∧ SIM_6 R ∧ SIM_7 R ∧ SIM_8 R ∧ SIM_9 R ∧ SIM_10 R ∧ SIM_11 R ∧ SIM_12 R ∧ SIM_13 R ∧ SIM_14 R ∧ SIM_15 R ∧ SIM_16 R ∧ SIM_17 R ∧ SIM_18 R ∧ SIM_19 R ∧ SIM_20 R ∧ SIM_21 R ∧ SIM_22 R ∧ SIM_23 R ∧ SIM_24 R ∧ SIM_25 R ∧ SIM_26 R ∧ SIM_27 R ∧ SIM_28 R ∧ SIM_29 R ∧ SIM_30 R ∧ SIM_31 R ∧ SIM_32 R ∧ SIM_33 R ∧ SIM_34 R ∧ SIM_35 R ∧ SIM_36 R ∧ SIM_37 R ∧ SIM_38 R ∧ SIM_39 R ∧ SIM_40 R ∧ SIM_41 R ∧ SIM_42 R ∧ SIM_43 R
set_option maxHeartbeats 1000000 in
theorem fl_0_ok {R : fSt → Prop} (S : SIM_0 R) {xs : Nat → Int32} {L : Nat} {i : Int32} (h1 : 0 ≤ i + (1 : Int32) ∧ (i + (1 : Int32)).toNatClampNeg < L) (h2 : 0 ≤ i + (2 : Int32) ∧ (i + (2 : Int32)).toNatClampNeg < L) (h3 : 0 ≤ i + (3 : Int32) ∧ (i + (3 : Int32)).toNatClampNeg < L) (h4 : 0 ≤ i + (4 : Int32) ∧ (i + (4 : Int32)).toNatClampNeg < L) (h5 : 0 ≤ i + (5 : Int32) ∧ (i + (5 : Int32)).toNatClampNeg < L) {st : fSt} (hR : R st) : ∃ st', fl_0 xs L i st = some ((), st') ∧ R st' := by
  obtain ⟨r, s1, s2, e1, e2, hR'⟩ := S st hR
  refine ⟨s2, ?_, hR'⟩
  unfold fl_0
  simp only [fIx_in h1, fIx_in h2, fIx_in h3, fIx_in h4, fIx_in h5, fJn_s, e1, e2, fBd_s, lg_cmp_rf, if_true, fE]
set_option maxHeartbeats 1000000 in
theorem fl_1_ok {R : fSt → Prop} (S : SIM_1 R) {xs : Nat → Int32} {L : Nat} {i : Int32} (h1 : 0 ≤ i + (1 : Int32) ∧ (i + (1 : Int32)).toNatClampNeg < L) (h2 : 0 ≤ i + (2 : Int32) ∧ (i + (2 : Int32)).toNatClampNeg < L) (h3 : 0 ≤ i + (3 : Int32) ∧ (i + (3 : Int32)).toNatClampNeg < L) (h4 : 0 ≤ i + (4 : Int32) ∧ (i + (4 : Int32)).toNatClampNeg < L) (h5 : 0 ≤ i + (5 : Int32) ∧ (i + (5 : Int32)).toNatClampNeg < L) {st : fSt} (hR : R st) : ∃ st', fl_1 xs L i st = some ((), st') ∧ R st' := by
  obtain ⟨r, s1, s2, e1, e2, hR'⟩ := S st hR
  refine ⟨s2, ?_, hR'⟩
  unfold fl_1
  generalize f_X11_top st = z at e1 ⊢
  subst e1
  rw [fBd_s]
  generalize f_X12_top s1 = z at e2 ⊢
  subst e2
  rw [fBd_s, lg_cmp_rf, if_pos rfl]
  rfl
set_option maxHeartbeats 1000000 in
theorem fl_2_ok {R : fSt → Prop} (S : SIM_2 R) {xs : Nat → Int32} {L : Nat} {i : Int32} (h1 : 0 ≤ i + (1 : Int32) ∧ (i + (1 : Int32)).toNatClampNeg < L) (h2 : 0 ≤ i + (2 : Int32) ∧ (i + (2 : Int32)).toNatClampNeg < L) (h3 : 0 ≤ i + (3 : Int32) ∧ (i + (3 : Int32)).toNatClampNeg < L) (h4 : 0 ≤ i + (4 : Int32) ∧ (i + (4 : Int32)).toNatClampNeg < L) (h5 : 0 ≤ i + (5 : Int32) ∧ (i + (5 : Int32)).toNatClampNeg < L) {st : fSt} (hR : R st) : ∃ st', fl_2 xs L i st = some ((), st') ∧ R st' := by
  obtain ⟨r, s1, s2, e1, e2, hR'⟩ := S st hR
  refine ⟨s2, ?_, hR'⟩
  unfold fl_2
  generalize f_X11_bottom st = z at e1 ⊢
  subst e1
  rw [fBd_s]
  generalize f_X12_bottom s1 = z at e2 ⊢
  subst e2
  rw [fBd_s, lg_cmp_rf, if_pos rfl]
  rfl
set_option maxHeartbeats 1000000 in
theorem fl_3_ok {R : fSt → Prop} (S : SIM_3 R) {xs : Nat → Int32} {L : Nat} {i : Int32} (h1 : 0 ≤ i + (1 : Int32) ∧ (i + (1 : Int32)).toNatClampNeg < L) (h2 : 0 ≤ i + (2 : Int32) ∧ (i + (2 : Int32)).toNatClampNeg < L) (h3 : 0 ≤ i + (3 : Int32) ∧ (i + (3 : Int32)).toNatClampNeg < L) (h4 : 0 ≤ i + (4 : Int32) ∧ (i + (4 : Int32)).toNatClampNeg < L) (h5 : 0 ≤ i + (5 : Int32) ∧ (i + (5 : Int32)).toNatClampNeg < L) {st : fSt} (hR : R st) : ∃ st', fl_3 xs L i st = some ((), st') ∧ R st' := by
  obtain ⟨r, s1, s2, e1, e2, hR'⟩ := S ((xs (i + ((1 : Int32))).toNatClampNeg)) ((xs (i + ((2 : Int32))).toNatClampNeg)) ((xs (i + ((3 : Int32))).toNatClampNeg)) st hR
  refine ⟨s2, ?_, hR'⟩
  unfold fl_3
  simp only [fIx_in h1, fIx_in h2, fIx_in h3, fIx_in h4, fIx_in h5, fJn_s, e1, e2, fBd_s, lg_cmp_rf, if_true, fE]
set_option maxHeartbeats 1000000 in
theorem fl_4_ok {R : fSt → Prop} (S : SIM_4 R) {xs : Nat → Int32} {L : Nat} {i : Int32} (h1 : 0 ≤ i + (1 : Int32) ∧ (i + (1 : Int32)).toNatClampNeg < L) (h2 : 0 ≤ i + (2 : Int32) ∧ (i + (2 : Int32)).toNatClampNeg < L) (h3 : 0 ≤ i + (3 : Int32) ∧ (i + (3 : Int32)).toNatClampNeg < L) (h4 : 0 ≤ i + (4 : Int32) ∧ (i + (4 : Int32)).toNatClampNeg < L) (h5 : 0 ≤ i + (5 : Int32) ∧ (i + (5 : Int32)).toNatClampNeg < L) {st : fSt} (hR : R st) : ∃ st', fl_4 xs L i st = some ((), st') ∧ R st' := by
  obtain ⟨r, s1, s2, e1, e2, hR'⟩ := S ((xs (i + ((1 : Int32))).toNatClampNeg)) ((xs (i + ((2 : Int32))).toNatClampNeg)) (((((xs (i + ((3 : Int32))).toNatClampNeg).toInt64) <<< (((32 : Int32)).toInt64 &&& 63)) ||| (((xs (i + ((4 : Int32))).toNatClampNeg).toInt64) &&& ((4294967295 : Int64))))) st hR
  refine ⟨s2, ?_, hR'⟩
  unfold fl_4
  simp only [fIx_in h1, fIx_in h2, fIx_in h3, fIx_in h4, fIx_in h5, fJn_s, e1, e2, fBd_s, lg_cmp_rf, if_true, fE]
set_option maxHeartbeats 1000000 in
theorem fl_5_ok {R : fSt → Prop} (S : SIM_5 R) {xs : Nat → Int32} {L : Nat} {i : Int32} (h1 : 0 ≤ i + (1 : Int32) ∧ (i + (1 : Int32)).toNatClampNeg < L) (h2 : 0 ≤ i + (2 : Int32) ∧ (i + (2 : Int32)).toNatClampNeg < L) (h3 : 0 ≤ i + (3 : Int32) ∧ (i + (3 : Int32)).toNatClampNeg < L) (h4 : 0 ≤ i + (4 : Int32) ∧ (i + (4 : Int32)).toNatClampNeg < L) (h5 : 0 ≤ i + (5 : Int32) ∧ (i + (5 : Int32)).toNatClampNeg < L) {st : fSt} (hR : R st) : ∃ st', fl_5 xs L i st = some ((), st') ∧ R st' := by
  obtain ⟨r, s1, s2, e1, e2, hR'⟩ := S ((xs (i + ((1 : Int32))).toNatClampNeg)) ((xs (i + ((2 : Int32))).toNatClampNeg)) st hR
  refine ⟨s2, ?_, hR'⟩
  unfold fl_5
  simp only [fIx_in h1, fIx_in h2, fIx_in h3, fIx_in h4, fIx_in h5, fJn_s, e1, e2, fBd_s, lg_cmp_rf, if_true, fE]
set_option maxHeartbeats 1000000 in
theorem fl_6_ok {R : fSt → Prop} (S : SIM_6 R) {xs : Nat → Int32} {L : Nat} {i : Int32} (h1 : 0 ≤ i + (1 : Int32) ∧ (i + (1 : Int32)).toNatClampNeg < L) (h2 : 0 ≤ i + (2 : Int32) ∧ (i + (2 : Int32)).toNatClampNeg < L) (h3 : 0 ≤ i + (3 : Int32) ∧ (i + (3 : Int32)).toNatClampNeg < L) (h4 : 0 ≤ i + (4 : Int32) ∧ (i + (4 : Int32)).toNatClampNeg < L) (h5 : 0 ≤ i + (5 : Int32) ∧ (i + (5 : Int32)).toNatClampNeg < L) {st : fSt} (hR : R st) : ∃ st', fl_6 xs L i st = some ((), st') ∧ R st' := by
  obtain ⟨r, s1, s2, e1, e2, hR'⟩ := S ((xs (i + ((1 : Int32))).toNatClampNeg)) ((xs (i + ((2 : Int32))).toNatClampNeg)) ((xs (i + ((3 : Int32))).toNatClampNeg)) ((xs (i + ((4 : Int32))).toNatClampNeg)) ((xs (i + ((5 : Int32))).toNatClampNeg)) st hR
  refine ⟨s2, ?_, hR'⟩
  unfold fl_6
  simp only [fIx_in h1, fIx_in h2, fIx_in h3, fIx_in h4, fIx_in h5, fJn_s, e1, e2, fBd_s, lg_cmp_rf, if_true, fE]
set_option maxHeartbeats 1000000 in
theorem fl_7_ok {R : fSt → Prop} (S : SIM_7 R) {xs : Nat → Int32} {L : Nat} {i : Int32} (h1 : 0 ≤ i + (1 : Int32) ∧ (i + (1 : Int32)).toNatClampNeg < L) (h2 : 0 ≤ i + (2 : Int32) ∧ (i + (2 : Int32)).toNatClampNeg < L) (h3 : 0 ≤ i + (3 : Int32) ∧ (i + (3 : Int32)).toNatClampNeg < L) (h4 : 0 ≤ i + (4 : Int32) ∧ (i + (4 : Int32)).toNatClampNeg < L) (h5 : 0 ≤ i + (5 : Int32) ∧ (i + (5 : Int32)).toNatClampNeg < L) {st : fSt} (hR : R st) : ∃ st', fl_7 xs L i st = some ((), st') ∧ R st' := by
  obtain ⟨r, s1, s2, e1, e2, hR'⟩ := S ((xs (i + ((1 : Int32))).toNatClampNeg)) ((xs (i + ((2 : Int32))).toNatClampNeg)) ((xs (i + ((3 : Int32))).toNatClampNeg)) ((xs (i + ((4 : Int32))).toNatClampNeg)) ((xs (i + ((5 : Int32))).toNatClampNeg)) st hR
  refine ⟨s2, ?_, hR'⟩
  unfold fl_7
  simp only [fIx_in h1, fIx_in h2, fIx_in h3, fIx_in h4, fIx_in h5, fJn_s, e1, e2, fBd_s, lg_cmp_rf, if_true, fE]
theorem fl_8_ok {xs : Nat → Int32} {L : Nat} {i rx : Int32} {s1 s2 : fSt} (h1 : 0 ≤ i + (1 : Int32) ∧ (i + (1 : Int32)).toNatClampNeg < L) (e : f_X12_stage (xs (i + (1 : Int32)).toNatClampNeg) s1 = some (rx, s2)) : fl_8 xs L i rx s1 = some ((), s2) := by
  unfold fl_8
  simp only [fIx_in h1, e, fBd_s, if_true, fE]
theorem fl_9_ok {xs : Nat → Int32} {L : Nat} {i rx : Int32} {s1 s2 : fSt} (h1 : 0 ≤ i + (1 : Int32) ∧ (i + (1 : Int32)).toNatClampNeg < L) (e : f_X12_week (xs (i + (1 : Int32)).toNatClampNeg) s1 = some (rx, s2)) : fl_9 xs L i rx s1 = some ((), s2) := by
  unfold fl_9
  simp only [fIx_in h1, e, fBd_s, if_true, fE]
set_option maxHeartbeats 1000000 in
theorem fl_10_ok {R : fSt → Prop} (S : SIM_10 R) {xs : Nat → Int32} {L : Nat} {i : Int32} (h1 : 0 ≤ i + (1 : Int32) ∧ (i + (1 : Int32)).toNatClampNeg < L) (h2 : 0 ≤ i + (2 : Int32) ∧ (i + (2 : Int32)).toNatClampNeg < L) (h3 : 0 ≤ i + (3 : Int32) ∧ (i + (3 : Int32)).toNatClampNeg < L) (h4 : 0 ≤ i + (4 : Int32) ∧ (i + (4 : Int32)).toNatClampNeg < L) (h5 : 0 ≤ i + (5 : Int32) ∧ (i + (5 : Int32)).toNatClampNeg < L) {st : fSt} (hR : R st) : ∃ st', fl_10 xs L i st = some ((), st') ∧ R st' := by
  obtain ⟨r, s1, s2, e1, e2, hR'⟩ := S ((xs (i + ((1 : Int32))).toNatClampNeg)) st hR
  refine ⟨s2, ?_, hR'⟩
  unfold fl_10
  simp only [fIx_in h1, fIx_in h2, fIx_in h3, fIx_in h4, fIx_in h5, fJn_s, e1, e2, fBd_s, lg_cmp_rf, if_true, fE]
set_option maxHeartbeats 1000000 in
theorem fl_11_ok {R : fSt → Prop} (S : SIM_11 R) {xs : Nat → Int32} {L : Nat} {i : Int32} (h1 : 0 ≤ i + (1 : Int32) ∧ (i + (1 : Int32)).toNatClampNeg < L) (h2 : 0 ≤ i + (2 : Int32) ∧ (i + (2 : Int32)).toNatClampNeg < L) (h3 : 0 ≤ i + (3 : Int32) ∧ (i + (3 : Int32)).toNatClampNeg < L) (h4 : 0 ≤ i + (4 : Int32) ∧ (i + (4 : Int32)).toNatClampNeg < L) (h5 : 0 ≤ i + (5 : Int32) ∧ (i + (5 : Int32)).toNatClampNeg < L) {st : fSt} (hR : R st) : ∃ st', fl_11 xs L i st = some ((), st') ∧ R st' := by
  obtain ⟨r, s1, s2, e1, e2, hR'⟩ := S ((xs (i + ((1 : Int32))).toNatClampNeg)) st hR
  refine ⟨s2, ?_, hR'⟩
  unfold fl_11
  simp only [fIx_in h1, fIx_in h2, fIx_in h3, fIx_in h4, fIx_in h5, fJn_s, e1, e2, fBd_s, lg_cmp_rf, if_true, fE]
set_option maxHeartbeats 1000000 in
theorem fl_12_ok {R : fSt → Prop} (S : SIM_12 R) {xs : Nat → Int32} {L : Nat} {i : Int32} (h1 : 0 ≤ i + (1 : Int32) ∧ (i + (1 : Int32)).toNatClampNeg < L) (h2 : 0 ≤ i + (2 : Int32) ∧ (i + (2 : Int32)).toNatClampNeg < L) (h3 : 0 ≤ i + (3 : Int32) ∧ (i + (3 : Int32)).toNatClampNeg < L) (h4 : 0 ≤ i + (4 : Int32) ∧ (i + (4 : Int32)).toNatClampNeg < L) (h5 : 0 ≤ i + (5 : Int32) ∧ (i + (5 : Int32)).toNatClampNeg < L) {st : fSt} (hR : R st) : ∃ st', fl_12 xs L i st = some ((), st') ∧ R st' := by
  obtain ⟨r, s1, s2, e1, e2, hR'⟩ := S ((xs (i + ((1 : Int32))).toNatClampNeg)) ((xs (i + ((2 : Int32))).toNatClampNeg)) st hR
  refine ⟨s2, ?_, hR'⟩
  unfold fl_12
  simp only [fIx_in h1, fIx_in h2, fIx_in h3, fIx_in h4, fIx_in h5, fJn_s, e1, e2, fBd_s, lg_cmp_rf, if_true, fE]
set_option maxHeartbeats 1000000 in
theorem fl_13_ok {R : fSt → Prop} (S : SIM_13 R) {xs : Nat → Int32} {L : Nat} {i : Int32} (h1 : 0 ≤ i + (1 : Int32) ∧ (i + (1 : Int32)).toNatClampNeg < L) (h2 : 0 ≤ i + (2 : Int32) ∧ (i + (2 : Int32)).toNatClampNeg < L) (h3 : 0 ≤ i + (3 : Int32) ∧ (i + (3 : Int32)).toNatClampNeg < L) (h4 : 0 ≤ i + (4 : Int32) ∧ (i + (4 : Int32)).toNatClampNeg < L) (h5 : 0 ≤ i + (5 : Int32) ∧ (i + (5 : Int32)).toNatClampNeg < L) {st : fSt} (hR : R st) : ∃ st', fl_13 xs L i st = some ((), st') ∧ R st' := by
  obtain ⟨r, s1, s2, e1, e2, hR'⟩ := S ((xs (i + ((1 : Int32))).toNatClampNeg)) ((xs (i + ((2 : Int32))).toNatClampNeg)) st hR
  refine ⟨s2, ?_, hR'⟩
  unfold fl_13
  simp only [fIx_in h1, fIx_in h2, fIx_in h3, fIx_in h4, fIx_in h5, fJn_s, e1, e2, fBd_s, lg_cmp_rf, if_true, fE]
set_option maxHeartbeats 1000000 in
theorem fl_14_ok {R : fSt → Prop} (S : SIM_14 R) {xs : Nat → Int32} {L : Nat} {i : Int32} (h1 : 0 ≤ i + (1 : Int32) ∧ (i + (1 : Int32)).toNatClampNeg < L) (h2 : 0 ≤ i + (2 : Int32) ∧ (i + (2 : Int32)).toNatClampNeg < L) (h3 : 0 ≤ i + (3 : Int32) ∧ (i + (3 : Int32)).toNatClampNeg < L) (h4 : 0 ≤ i + (4 : Int32) ∧ (i + (4 : Int32)).toNatClampNeg < L) (h5 : 0 ≤ i + (5 : Int32) ∧ (i + (5 : Int32)).toNatClampNeg < L) {st : fSt} (hR : R st) : ∃ st', fl_14 xs L i st = some ((), st') ∧ R st' := by
  obtain ⟨r, s1, s2, e1, e2, hR'⟩ := S ((xs (i + ((1 : Int32))).toNatClampNeg)) ((xs (i + ((2 : Int32))).toNatClampNeg)) st hR
  refine ⟨s2, ?_, hR'⟩
  unfold fl_14
  simp only [fIx_in h1, fIx_in h2, fIx_in h3, fIx_in h4, fIx_in h5, fJn_s, e1, e2, fBd_s, lg_cmp_rf, if_true, fE]
set_option maxHeartbeats 1000000 in
theorem fl_15_ok {R : fSt → Prop} (S : SIM_15 R) {xs : Nat → Int32} {L : Nat} {i : Int32} (h1 : 0 ≤ i + (1 : Int32) ∧ (i + (1 : Int32)).toNatClampNeg < L) (h2 : 0 ≤ i + (2 : Int32) ∧ (i + (2 : Int32)).toNatClampNeg < L) (h3 : 0 ≤ i + (3 : Int32) ∧ (i + (3 : Int32)).toNatClampNeg < L) (h4 : 0 ≤ i + (4 : Int32) ∧ (i + (4 : Int32)).toNatClampNeg < L) (h5 : 0 ≤ i + (5 : Int32) ∧ (i + (5 : Int32)).toNatClampNeg < L) {st : fSt} (hR : R st) : ∃ st', fl_15 xs L i st = some ((), st') ∧ R st' := by
  by_cases hz : xs (i + (2 : Int32)).toNatClampNeg = 0
  · obtain ⟨r, s1, s2, e1, e2, hR'⟩ := S ((xs (i + ((1 : Int32))).toNatClampNeg)) 0 (Or.inl rfl) st hR
    refine ⟨s2, ?_, hR'⟩
    unfold fl_15
    simp only [fIx_in h1, fIx_in h2, fJn_s, if_pos hz, e1, e2, fBd_s, if_true, fE]
  · obtain ⟨r, s1, s2, e1, e2, hR'⟩ := S ((xs (i + ((1 : Int32))).toNatClampNeg)) 1 (Or.inr rfl) st hR
    refine ⟨s2, ?_, hR'⟩
    unfold fl_15
    simp only [fIx_in h1, fIx_in h2, fJn_s, if_neg hz, e1, e2, fBd_s, if_true, fE]
set_option maxHeartbeats 1000000 in
theorem fl_16_ok {R : fSt → Prop} (S : SIM_16 R) {xs : Nat → Int32} {L : Nat} {i : Int32} (h1 : 0 ≤ i + (1 : Int32) ∧ (i + (1 : Int32)).toNatClampNeg < L) (h2 : 0 ≤ i + (2 : Int32) ∧ (i + (2 : Int32)).toNatClampNeg < L) (h3 : 0 ≤ i + (3 : Int32) ∧ (i + (3 : Int32)).toNatClampNeg < L) (h4 : 0 ≤ i + (4 : Int32) ∧ (i + (4 : Int32)).toNatClampNeg < L) (h5 : 0 ≤ i + (5 : Int32) ∧ (i + (5 : Int32)).toNatClampNeg < L) {st : fSt} (hR : R st) : ∃ st', fl_16 xs L i st = some ((), st') ∧ R st' := by
  by_cases hz : xs (i + (2 : Int32)).toNatClampNeg = 0
  · obtain ⟨r, s1, s2, e1, e2, hR'⟩ := S ((xs (i + ((1 : Int32))).toNatClampNeg)) 0 (Or.inl rfl) st hR
    refine ⟨s2, ?_, hR'⟩
    unfold fl_16
    simp only [fIx_in h1, fIx_in h2, fJn_s, if_pos hz, e1, e2, fBd_s, if_true, fE]
  · obtain ⟨r, s1, s2, e1, e2, hR'⟩ := S ((xs (i + ((1 : Int32))).toNatClampNeg)) 1 (Or.inr rfl) st hR
    refine ⟨s2, ?_, hR'⟩
    unfold fl_16
    simp only [fIx_in h1, fIx_in h2, fJn_s, if_neg hz, e1, e2, fBd_s, if_true, fE]
set_option maxHeartbeats 1000000 in
theorem fl_17_ok {R : fSt → Prop} (S : SIM_17 R) {xs : Nat → Int32} {L : Nat} {i : Int32} (h1 : 0 ≤ i + (1 : Int32) ∧ (i + (1 : Int32)).toNatClampNeg < L) (h2 : 0 ≤ i + (2 : Int32) ∧ (i + (2 : Int32)).toNatClampNeg < L) (h3 : 0 ≤ i + (3 : Int32) ∧ (i + (3 : Int32)).toNatClampNeg < L) (h4 : 0 ≤ i + (4 : Int32) ∧ (i + (4 : Int32)).toNatClampNeg < L) (h5 : 0 ≤ i + (5 : Int32) ∧ (i + (5 : Int32)).toNatClampNeg < L) {st : fSt} (hR : R st) : ∃ st', fl_17 xs L i st = some ((), st') ∧ R st' := by
  obtain ⟨r, s1, s2, e1, e2, hR'⟩ := S ((xs (i + ((1 : Int32))).toNatClampNeg)) ((xs (i + ((2 : Int32))).toNatClampNeg)) st hR
  refine ⟨s2, ?_, hR'⟩
  unfold fl_17
  simp only [fIx_in h1, fIx_in h2, fIx_in h3, fIx_in h4, fIx_in h5, fJn_s, e1, e2, fBd_s, lg_cmp_rf, if_true, fE]
set_option maxHeartbeats 1000000 in
theorem fl_18_ok {R : fSt → Prop} (S : SIM_18 R) {xs : Nat → Int32} {L : Nat} {i : Int32} (h1 : 0 ≤ i + (1 : Int32) ∧ (i + (1 : Int32)).toNatClampNeg < L) (h2 : 0 ≤ i + (2 : Int32) ∧ (i + (2 : Int32)).toNatClampNeg < L) (h3 : 0 ≤ i + (3 : Int32) ∧ (i + (3 : Int32)).toNatClampNeg < L) (h4 : 0 ≤ i + (4 : Int32) ∧ (i + (4 : Int32)).toNatClampNeg < L) (h5 : 0 ≤ i + (5 : Int32) ∧ (i + (5 : Int32)).toNatClampNeg < L) {st : fSt} (hR : R st) : ∃ st', fl_18 xs L i st = some ((), st') ∧ R st' := by
  obtain ⟨r, s1, s2, e1, e2, hR'⟩ := S ((xs (i + ((1 : Int32))).toNatClampNeg)) st hR
  refine ⟨s2, ?_, hR'⟩
  unfold fl_18
  simp only [fIx_in h1, fIx_in h2, fIx_in h3, fIx_in h4, fIx_in h5, fJn_s, e1, e2, fBd_s, lg_cmp_rf, if_true, fE]
set_option maxHeartbeats 1000000 in
theorem fl_19_ok {R : fSt → Prop} (S : SIM_19 R) {xs : Nat → Int32} {L : Nat} {i : Int32} (h1 : 0 ≤ i + (1 : Int32) ∧ (i + (1 : Int32)).toNatClampNeg < L) (h2 : 0 ≤ i + (2 : Int32) ∧ (i + (2 : Int32)).toNatClampNeg < L) (h3 : 0 ≤ i + (3 : Int32) ∧ (i + (3 : Int32)).toNatClampNeg < L) (h4 : 0 ≤ i + (4 : Int32) ∧ (i + (4 : Int32)).toNatClampNeg < L) (h5 : 0 ≤ i + (5 : Int32) ∧ (i + (5 : Int32)).toNatClampNeg < L) {st : fSt} (hR : R st) : ∃ st', fl_19 xs L i st = some ((), st') ∧ R st' := by
  obtain ⟨r, s1, s2, e1, e2, hR'⟩ := S ((xs (i + ((1 : Int32))).toNatClampNeg)) ((xs (i + ((2 : Int32))).toNatClampNeg)) st hR
  refine ⟨s2, ?_, hR'⟩
  unfold fl_19
  simp only [fIx_in h1, fIx_in h2, fIx_in h3, fIx_in h4, fIx_in h5, fJn_s, e1, e2, fBd_s, lg_cmp_rf, if_true, fE]
set_option maxHeartbeats 1000000 in
theorem fl_20_ok {R : fSt → Prop} (S : SIM_20 R) {xs : Nat → Int32} {L : Nat} {i : Int32} (h1 : 0 ≤ i + (1 : Int32) ∧ (i + (1 : Int32)).toNatClampNeg < L) (h2 : 0 ≤ i + (2 : Int32) ∧ (i + (2 : Int32)).toNatClampNeg < L) (h3 : 0 ≤ i + (3 : Int32) ∧ (i + (3 : Int32)).toNatClampNeg < L) (h4 : 0 ≤ i + (4 : Int32) ∧ (i + (4 : Int32)).toNatClampNeg < L) (h5 : 0 ≤ i + (5 : Int32) ∧ (i + (5 : Int32)).toNatClampNeg < L) {st : fSt} (hR : R st) : ∃ st', fl_20 xs L i st = some ((), st') ∧ R st' := by
  obtain ⟨r, s1, s2, e1, e2, hR'⟩ := S st hR
  refine ⟨s2, ?_, hR'⟩
  unfold fl_20
  simp only [fIx_in h1, fIx_in h2, fIx_in h3, fIx_in h4, fIx_in h5, fJn_s, e1, e2, fBd_s, lg_cmp_rf, if_true, fE]
set_option maxHeartbeats 1000000 in
theorem fl_21_ok {R : fSt → Prop} (S : SIM_21 R) {xs : Nat → Int32} {L : Nat} {i : Int32} (h1 : 0 ≤ i + (1 : Int32) ∧ (i + (1 : Int32)).toNatClampNeg < L) (h2 : 0 ≤ i + (2 : Int32) ∧ (i + (2 : Int32)).toNatClampNeg < L) (h3 : 0 ≤ i + (3 : Int32) ∧ (i + (3 : Int32)).toNatClampNeg < L) (h4 : 0 ≤ i + (4 : Int32) ∧ (i + (4 : Int32)).toNatClampNeg < L) (h5 : 0 ≤ i + (5 : Int32) ∧ (i + (5 : Int32)).toNatClampNeg < L) {st : fSt} (hR : R st) : ∃ st', fl_21 xs L i st = some ((), st') ∧ R st' := by
  obtain ⟨r, s1, s2, e1, e2, hR'⟩ := S ((xs (i + ((1 : Int32))).toNatClampNeg)) st hR
  refine ⟨s2, ?_, hR'⟩
  unfold fl_21
  simp only [fIx_in h1, fIx_in h2, fIx_in h3, fIx_in h4, fIx_in h5, fJn_s, e1, e2, fBd_s, lg_cmp_rf, if_true, fE]
set_option maxHeartbeats 1000000 in
theorem fl_22_ok {R : fSt → Prop} (S : SIM_22 R) {xs : Nat → Int32} {L : Nat} {i : Int32} (h1 : 0 ≤ i + (1 : Int32) ∧ (i + (1 : Int32)).toNatClampNeg < L) (h2 : 0 ≤ i + (2 : Int32) ∧ (i + (2 : Int32)).toNatClampNeg < L) (h3 : 0 ≤ i + (3 : Int32) ∧ (i + (3 : Int32)).toNatClampNeg < L) (h4 : 0 ≤ i + (4 : Int32) ∧ (i + (4 : Int32)).toNatClampNeg < L) (h5 : 0 ≤ i + (5 : Int32) ∧ (i + (5 : Int32)).toNatClampNeg < L) {st : fSt} (hR : R st) : ∃ st', fl_22 xs L i st = some ((), st') ∧ R st' := by
  obtain ⟨r, s1, s2, e1, e2, hR'⟩ := S ((xs (i + ((1 : Int32))).toNatClampNeg)) st hR
  refine ⟨s2, ?_, hR'⟩
  unfold fl_22
  simp only [fIx_in h1, fIx_in h2, fIx_in h3, fIx_in h4, fIx_in h5, fJn_s, e1, e2, fBd_s, lg_cmp_rf, if_true, fE]
set_option maxHeartbeats 1000000 in
theorem fl_23_ok {R : fSt → Prop} (S : SIM_23 R) {xs : Nat → Int32} {L : Nat} {i : Int32} (h1 : 0 ≤ i + (1 : Int32) ∧ (i + (1 : Int32)).toNatClampNeg < L) (h2 : 0 ≤ i + (2 : Int32) ∧ (i + (2 : Int32)).toNatClampNeg < L) (h3 : 0 ≤ i + (3 : Int32) ∧ (i + (3 : Int32)).toNatClampNeg < L) (h4 : 0 ≤ i + (4 : Int32) ∧ (i + (4 : Int32)).toNatClampNeg < L) (h5 : 0 ≤ i + (5 : Int32) ∧ (i + (5 : Int32)).toNatClampNeg < L) {st : fSt} (hR : R st) : ∃ st', fl_23 xs L i st = some ((), st') ∧ R st' := by
  obtain ⟨r, s1, s2, e1, e2, hR'⟩ := S ((xs (i + ((1 : Int32))).toNatClampNeg)) st hR
  refine ⟨s2, ?_, hR'⟩
  unfold fl_23
  simp only [fIx_in h1, fIx_in h2, fIx_in h3, fIx_in h4, fIx_in h5, fJn_s, e1, e2, fBd_s, lg_cmp_rf, if_true, fE]
set_option maxHeartbeats 1000000 in
theorem fl_24_ok {R : fSt → Prop} (S : SIM_24 R) {xs : Nat → Int32} {L : Nat} {i : Int32} (h1 : 0 ≤ i + (1 : Int32) ∧ (i + (1 : Int32)).toNatClampNeg < L) (h2 : 0 ≤ i + (2 : Int32) ∧ (i + (2 : Int32)).toNatClampNeg < L) (h3 : 0 ≤ i + (3 : Int32) ∧ (i + (3 : Int32)).toNatClampNeg < L) (h4 : 0 ≤ i + (4 : Int32) ∧ (i + (4 : Int32)).toNatClampNeg < L) (h5 : 0 ≤ i + (5 : Int32) ∧ (i + (5 : Int32)).toNatClampNeg < L) {st : fSt} (hR : R st) : ∃ st', fl_24 xs L i st = some ((), st') ∧ R st' := by
  obtain ⟨r, s1, s2, e1, e2, hR'⟩ := S ((xs (i + ((1 : Int32))).toNatClampNeg)) ((xs (i + ((2 : Int32))).toNatClampNeg)) st hR
  refine ⟨s2, ?_, hR'⟩
  unfold fl_24
  simp only [fIx_in h1, fIx_in h2, fIx_in h3, fIx_in h4, fIx_in h5, fJn_s, e1, e2, fBd_s, lg_cmp_rf, if_true, fE]
set_option maxHeartbeats 1000000 in
theorem fl_25_ok {R : fSt → Prop} (S : SIM_25 R) {xs : Nat → Int32} {L : Nat} {i : Int32} (h1 : 0 ≤ i + (1 : Int32) ∧ (i + (1 : Int32)).toNatClampNeg < L) (h2 : 0 ≤ i + (2 : Int32) ∧ (i + (2 : Int32)).toNatClampNeg < L) (h3 : 0 ≤ i + (3 : Int32) ∧ (i + (3 : Int32)).toNatClampNeg < L) (h4 : 0 ≤ i + (4 : Int32) ∧ (i + (4 : Int32)).toNatClampNeg < L) (h5 : 0 ≤ i + (5 : Int32) ∧ (i + (5 : Int32)).toNatClampNeg < L) {st : fSt} (hR : R st) : ∃ st', fl_25 xs L i st = some ((), st') ∧ R st' := by
  obtain ⟨r, s1, s2, e1, e2, hR'⟩ := S ((xs (i + ((1 : Int32))).toNatClampNeg)) ((xs (i + ((2 : Int32))).toNatClampNeg)) st hR
  refine ⟨s2, ?_, hR'⟩
  unfold fl_25
  simp only [fIx_in h1, fIx_in h2, fIx_in h3, fIx_in h4, fIx_in h5, fJn_s, e1, e2, fBd_s, lg_cmp_rf, if_true, fE]
set_option maxHeartbeats 1000000 in
theorem fl_26_ok {R : fSt → Prop} (S : SIM_26 R) {xs : Nat → Int32} {L : Nat} {i : Int32} (h1 : 0 ≤ i + (1 : Int32) ∧ (i + (1 : Int32)).toNatClampNeg < L) (h2 : 0 ≤ i + (2 : Int32) ∧ (i + (2 : Int32)).toNatClampNeg < L) (h3 : 0 ≤ i + (3 : Int32) ∧ (i + (3 : Int32)).toNatClampNeg < L) (h4 : 0 ≤ i + (4 : Int32) ∧ (i + (4 : Int32)).toNatClampNeg < L) (h5 : 0 ≤ i + (5 : Int32) ∧ (i + (5 : Int32)).toNatClampNeg < L) {st : fSt} (hR : R st) : ∃ st', fl_26 xs L i st = some ((), st') ∧ R st' := by
  obtain ⟨r, s1, s2, e1, e2, hR'⟩ := S ((xs (i + ((1 : Int32))).toNatClampNeg)) ((xs (i + ((2 : Int32))).toNatClampNeg)) st hR
  refine ⟨s2, ?_, hR'⟩
  unfold fl_26
  simp only [fIx_in h1, fIx_in h2, fIx_in h3, fIx_in h4, fIx_in h5, fJn_s, e1, e2, fBd_s, lg_cmp_rf, if_true, fE]
set_option maxHeartbeats 1000000 in
theorem fl_27_ok {R : fSt → Prop} (S : SIM_27 R) {xs : Nat → Int32} {L : Nat} {i : Int32} (h1 : 0 ≤ i + (1 : Int32) ∧ (i + (1 : Int32)).toNatClampNeg < L) (h2 : 0 ≤ i + (2 : Int32) ∧ (i + (2 : Int32)).toNatClampNeg < L) (h3 : 0 ≤ i + (3 : Int32) ∧ (i + (3 : Int32)).toNatClampNeg < L) (h4 : 0 ≤ i + (4 : Int32) ∧ (i + (4 : Int32)).toNatClampNeg < L) (h5 : 0 ≤ i + (5 : Int32) ∧ (i + (5 : Int32)).toNatClampNeg < L) {st : fSt} (hR : R st) : ∃ st', fl_27 xs L i st = some ((), st') ∧ R st' := by
  obtain ⟨r, s1, s2, e1, e2, hR'⟩ := S ((xs (i + ((1 : Int32))).toNatClampNeg)) st hR
  refine ⟨s2, ?_, hR'⟩
  unfold fl_27
  simp only [fIx_in h1, fIx_in h2, fIx_in h3, fIx_in h4, fIx_in h5, fJn_s, e1, e2, fBd_s, lg_cmp_rf, if_true, fE]
set_option maxHeartbeats 1000000 in
theorem fl_28_ok {R : fSt → Prop} (S : SIM_28 R) {xs : Nat → Int32} {L : Nat} {i : Int32} (h1 : 0 ≤ i + (1 : Int32) ∧ (i + (1 : Int32)).toNatClampNeg < L) (h2 : 0 ≤ i + (2 : Int32) ∧ (i + (2 : Int32)).toNatClampNeg < L) (h3 : 0 ≤ i + (3 : Int32) ∧ (i + (3 : Int32)).toNatClampNeg < L) (h4 : 0 ≤ i + (4 : Int32) ∧ (i + (4 : Int32)).toNatClampNeg < L) (h5 : 0 ≤ i + (5 : Int32) ∧ (i + (5 : Int32)).toNatClampNeg < L) {st : fSt} (hR : R st) : ∃ st', fl_28 xs L i st = some ((), st') ∧ R st' := by
  obtain ⟨r, s1, s2, e1, e2, hR'⟩ := S st hR
  refine ⟨s2, ?_, hR'⟩
  unfold fl_28
  simp only [fIx_in h1, fIx_in h2, fIx_in h3, fIx_in h4, fIx_in h5, fJn_s, e1, e2, fBd_s, lg_cmp_rf, if_true, fE]
set_option maxHeartbeats 1000000 in
theorem fl_29_ok {R : fSt → Prop} (S : SIM_29 R) {xs : Nat → Int32} {L : Nat} {i : Int32} (h1 : 0 ≤ i + (1 : Int32) ∧ (i + (1 : Int32)).toNatClampNeg < L) (h2 : 0 ≤ i + (2 : Int32) ∧ (i + (2 : Int32)).toNatClampNeg < L) (h3 : 0 ≤ i + (3 : Int32) ∧ (i + (3 : Int32)).toNatClampNeg < L) (h4 : 0 ≤ i + (4 : Int32) ∧ (i + (4 : Int32)).toNatClampNeg < L) (h5 : 0 ≤ i + (5 : Int32) ∧ (i + (5 : Int32)).toNatClampNeg < L) {st : fSt} (hR : R st) : ∃ st', fl_29 xs L i st = some ((), st') ∧ R st' := by
  obtain ⟨r, s1, s2, e1, e2, hR'⟩ := S ((xs (i + ((1 : Int32))).toNatClampNeg)) st hR
  refine ⟨s2, ?_, hR'⟩
  unfold fl_29
  simp only [fIx_in h1, fIx_in h2, fIx_in h3, fIx_in h4, fIx_in h5, fJn_s, e1, e2, fBd_s, lg_cmp_rf, if_true, fE]
set_option maxHeartbeats 1000000 in
theorem fl_30_ok {R : fSt → Prop} (S : SIM_30 R) {xs : Nat → Int32} {L : Nat} {i : Int32} (h1 : 0 ≤ i + (1 : Int32) ∧ (i + (1 : Int32)).toNatClampNeg < L) (h2 : 0 ≤ i + (2 : Int32) ∧ (i + (2 : Int32)).toNatClampNeg < L) (h3 : 0 ≤ i + (3 : Int32) ∧ (i + (3 : Int32)).toNatClampNeg < L) (h4 : 0 ≤ i + (4 : Int32) ∧ (i + (4 : Int32)).toNatClampNeg < L) (h5 : 0 ≤ i + (5 : Int32) ∧ (i + (5 : Int32)).toNatClampNeg < L) {st : fSt} (hR : R st) : ∃ st', fl_30 xs L i st = some ((), st') ∧ R st' := by
  obtain ⟨r, s1, s2, e1, e2, hR'⟩ := S ((xs (i + ((1 : Int32))).toNatClampNeg)) st hR
  refine ⟨s2, ?_, hR'⟩
  unfold fl_30
  simp only [fIx_in h1, fIx_in h2, fIx_in h3, fIx_in h4, fIx_in h5, fJn_s, e1, e2, fBd_s, lg_cmp_rf, if_true, fE]
set_option maxHeartbeats 1000000 in
theorem fl_31_ok {R : fSt → Prop} (S : SIM_31 R) {xs : Nat → Int32} {L : Nat} {i : Int32} (h1 : 0 ≤ i + (1 : Int32) ∧ (i + (1 : Int32)).toNatClampNeg < L) (h2 : 0 ≤ i + (2 : Int32) ∧ (i + (2 : Int32)).toNatClampNeg < L) (h3 : 0 ≤ i + (3 : Int32) ∧ (i + (3 : Int32)).toNatClampNeg < L) (h4 : 0 ≤ i + (4 : Int32) ∧ (i + (4 : Int32)).toNatClampNeg < L) (h5 : 0 ≤ i + (5 : Int32) ∧ (i + (5 : Int32)).toNatClampNeg < L) {st : fSt} (hR : R st) : ∃ st', fl_31 xs L i st = some ((), st') ∧ R st' := by
  obtain ⟨r, s1, s2, e1, e2, hR'⟩ := S ((xs (i + ((1 : Int32))).toNatClampNeg)) st hR
  refine ⟨s2, ?_, hR'⟩
  unfold fl_31
  simp only [fIx_in h1, fIx_in h2, fIx_in h3, fIx_in h4, fIx_in h5, fJn_s, e1, e2, fBd_s, lg_cmp_rf, if_true, fE]
set_option maxHeartbeats 1000000 in
theorem fl_32_ok {R : fSt → Prop} (S : SIM_32 R) {xs : Nat → Int32} {L : Nat} {i : Int32} (h1 : 0 ≤ i + (1 : Int32) ∧ (i + (1 : Int32)).toNatClampNeg < L) (h2 : 0 ≤ i + (2 : Int32) ∧ (i + (2 : Int32)).toNatClampNeg < L) (h3 : 0 ≤ i + (3 : Int32) ∧ (i + (3 : Int32)).toNatClampNeg < L) (h4 : 0 ≤ i + (4 : Int32) ∧ (i + (4 : Int32)).toNatClampNeg < L) (h5 : 0 ≤ i + (5 : Int32) ∧ (i + (5 : Int32)).toNatClampNeg < L) {st : fSt} (hR : R st) : ∃ st', fl_32 xs L i st = some ((), st') ∧ R st' := by
  obtain ⟨r, s1, s2, e1, e2, hR'⟩ := S st hR
  refine ⟨s2, ?_, hR'⟩
  unfold fl_32
  simp only [fIx_in h1, fIx_in h2, fIx_in h3, fIx_in h4, fIx_in h5, fJn_s, e1, e2, fBd_s, lg_cmp_rf, if_true, fE]
set_option maxHeartbeats 1000000 in
theorem fl_33_ok {R : fSt → Prop} (S : SIM_33 R) {xs : Nat → Int32} {L : Nat} {i : Int32} (h1 : 0 ≤ i + (1 : Int32) ∧ (i + (1 : Int32)).toNatClampNeg < L) (h2 : 0 ≤ i + (2 : Int32) ∧ (i + (2 : Int32)).toNatClampNeg < L) (h3 : 0 ≤ i + (3 : Int32) ∧ (i + (3 : Int32)).toNatClampNeg < L) (h4 : 0 ≤ i + (4 : Int32) ∧ (i + (4 : Int32)).toNatClampNeg < L) (h5 : 0 ≤ i + (5 : Int32) ∧ (i + (5 : Int32)).toNatClampNeg < L) {st : fSt} (hR : R st) : ∃ st', fl_33 xs L i st = some ((), st') ∧ R st' := by
  obtain ⟨r, s1, s2, e1, e2, hR'⟩ := S ((xs (i + ((1 : Int32))).toNatClampNeg)) st hR
  refine ⟨s2, ?_, hR'⟩
  unfold fl_33
  simp only [fIx_in h1, fIx_in h2, fIx_in h3, fIx_in h4, fIx_in h5, fJn_s, e1, e2, fBd_s, lg_cmp_rf, if_true, fE]
set_option maxHeartbeats 1000000 in
theorem fl_34_ok {R : fSt → Prop} (S : SIM_34 R) {xs : Nat → Int32} {L : Nat} {i : Int32} (h1 : 0 ≤ i + (1 : Int32) ∧ (i + (1 : Int32)).toNatClampNeg < L) (h2 : 0 ≤ i + (2 : Int32) ∧ (i + (2 : Int32)).toNatClampNeg < L) (h3 : 0 ≤ i + (3 : Int32) ∧ (i + (3 : Int32)).toNatClampNeg < L) (h4 : 0 ≤ i + (4 : Int32) ∧ (i + (4 : Int32)).toNatClampNeg < L) (h5 : 0 ≤ i + (5 : Int32) ∧ (i + (5 : Int32)).toNatClampNeg < L) {st : fSt} (hR : R st) : ∃ st', fl_34 xs L i st = some ((), st') ∧ R st' := by
  obtain ⟨r, s1, s2, e1, e2, hR'⟩ := S ((xs (i + ((1 : Int32))).toNatClampNeg)) st hR
  refine ⟨s2, ?_, hR'⟩
  unfold fl_34
  simp only [fIx_in h1, fIx_in h2, fIx_in h3, fIx_in h4, fIx_in h5, fJn_s, e1, e2, fBd_s, lg_cmp_rf, if_true, fE]
set_option maxHeartbeats 1000000 in
theorem fl_35_ok {R : fSt → Prop} (S : SIM_35 R) {xs : Nat → Int32} {L : Nat} {i : Int32} (h1 : 0 ≤ i + (1 : Int32) ∧ (i + (1 : Int32)).toNatClampNeg < L) (h2 : 0 ≤ i + (2 : Int32) ∧ (i + (2 : Int32)).toNatClampNeg < L) (h3 : 0 ≤ i + (3 : Int32) ∧ (i + (3 : Int32)).toNatClampNeg < L) (h4 : 0 ≤ i + (4 : Int32) ∧ (i + (4 : Int32)).toNatClampNeg < L) (h5 : 0 ≤ i + (5 : Int32) ∧ (i + (5 : Int32)).toNatClampNeg < L) {st : fSt} (hR : R st) : ∃ st', fl_35 xs L i st = some ((), st') ∧ R st' := by
  obtain ⟨r, s1, s2, e1, e2, hR'⟩ := S ((xs (i + ((1 : Int32))).toNatClampNeg)) st hR
  refine ⟨s2, ?_, hR'⟩
  unfold fl_35
  simp only [fIx_in h1, fIx_in h2, fIx_in h3, fIx_in h4, fIx_in h5, fJn_s, e1, e2, fBd_s, lg_cmp_rf, if_true, fE]
set_option maxHeartbeats 1000000 in
theorem fl_36_ok {R : fSt → Prop} (S : SIM_36 R) {xs : Nat → Int32} {L : Nat} {i : Int32} (h1 : 0 ≤ i + (1 : Int32) ∧ (i + (1 : Int32)).toNatClampNeg < L) (h2 : 0 ≤ i + (2 : Int32) ∧ (i + (2 : Int32)).toNatClampNeg < L) (h3 : 0 ≤ i + (3 : Int32) ∧ (i + (3 : Int32)).toNatClampNeg < L) (h4 : 0 ≤ i + (4 : Int32) ∧ (i + (4 : Int32)).toNatClampNeg < L) (h5 : 0 ≤ i + (5 : Int32) ∧ (i + (5 : Int32)).toNatClampNeg < L) {st : fSt} (hR : R st) : ∃ st', fl_36 xs L i st = some ((), st') ∧ R st' := by
  obtain ⟨r, s1, s2, e1, e2, hR'⟩ := S ((xs (i + ((1 : Int32))).toNatClampNeg)) st hR
  refine ⟨s2, ?_, hR'⟩
  unfold fl_36
  simp only [fIx_in h1, fIx_in h2, fIx_in h3, fIx_in h4, fIx_in h5, fJn_s, e1, e2, fBd_s, lg_cmp_rf, if_true, fE]
set_option maxHeartbeats 1000000 in
theorem fl_37_ok {R : fSt → Prop} (S : SIM_37 R) {xs : Nat → Int32} {L : Nat} {i : Int32} (h1 : 0 ≤ i + (1 : Int32) ∧ (i + (1 : Int32)).toNatClampNeg < L) (h2 : 0 ≤ i + (2 : Int32) ∧ (i + (2 : Int32)).toNatClampNeg < L) (h3 : 0 ≤ i + (3 : Int32) ∧ (i + (3 : Int32)).toNatClampNeg < L) (h4 : 0 ≤ i + (4 : Int32) ∧ (i + (4 : Int32)).toNatClampNeg < L) (h5 : 0 ≤ i + (5 : Int32) ∧ (i + (5 : Int32)).toNatClampNeg < L) {st : fSt} (hR : R st) : ∃ st', fl_37 xs L i st = some ((), st') ∧ R st' := by
  obtain ⟨r, s1, s2, e1, e2, hR'⟩ := S ((xs (i + ((1 : Int32))).toNatClampNeg)) st hR
  refine ⟨s2, ?_, hR'⟩
  unfold fl_37
  simp only [fIx_in h1, fIx_in h2, fIx_in h3, fIx_in h4, fIx_in h5, fJn_s, e1, e2, fBd_s, lg_cmp_rf, if_true, fE]
set_option maxHeartbeats 1000000 in
theorem fl_38_ok {R : fSt → Prop} (S : SIM_38 R) {xs : Nat → Int32} {L : Nat} {i : Int32} (h1 : 0 ≤ i + (1 : Int32) ∧ (i + (1 : Int32)).toNatClampNeg < L) (h2 : 0 ≤ i + (2 : Int32) ∧ (i + (2 : Int32)).toNatClampNeg < L) (h3 : 0 ≤ i + (3 : Int32) ∧ (i + (3 : Int32)).toNatClampNeg < L) (h4 : 0 ≤ i + (4 : Int32) ∧ (i + (4 : Int32)).toNatClampNeg < L) (h5 : 0 ≤ i + (5 : Int32) ∧ (i + (5 : Int32)).toNatClampNeg < L) {st : fSt} (hR : R st) : ∃ st', fl_38 xs L i st = some ((), st') ∧ R st' := by
  obtain ⟨r, s1, s2, e1, e2, hR'⟩ := S ((xs (i + ((1 : Int32))).toNatClampNeg)) ((xs (i + ((2 : Int32))).toNatClampNeg)) st hR
  refine ⟨s2, ?_, hR'⟩
  unfold fl_38
  simp only [fIx_in h1, fIx_in h2, fIx_in h3, fIx_in h4, fIx_in h5, fJn_s, e1, e2, fBd_s, lg_cmp_rf, if_true, fE]
set_option maxHeartbeats 1000000 in
theorem fl_39_ok {R : fSt → Prop} (S : SIM_39 R) {xs : Nat → Int32} {L : Nat} {i : Int32} (h1 : 0 ≤ i + (1 : Int32) ∧ (i + (1 : Int32)).toNatClampNeg < L) (h2 : 0 ≤ i + (2 : Int32) ∧ (i + (2 : Int32)).toNatClampNeg < L) (h3 : 0 ≤ i + (3 : Int32) ∧ (i + (3 : Int32)).toNatClampNeg < L) (h4 : 0 ≤ i + (4 : Int32) ∧ (i + (4 : Int32)).toNatClampNeg < L) (h5 : 0 ≤ i + (5 : Int32) ∧ (i + (5 : Int32)).toNatClampNeg < L) {st : fSt} (hR : R st) : ∃ st', fl_39 xs L i st = some ((), st') ∧ R st' := by
  obtain ⟨r, s1, s2, e1, e2, hR'⟩ := S ((xs (i + ((1 : Int32))).toNatClampNeg)) st hR
  refine ⟨s2, ?_, hR'⟩
  unfold fl_39
  simp only [fIx_in h1, fIx_in h2, fIx_in h3, fIx_in h4, fIx_in h5, fJn_s, e1, e2, fBd_s, lg_cmp_rf, if_true, fE]
set_option maxHeartbeats 1000000 in
theorem fl_40_ok {R : fSt → Prop} (S : SIM_40 R) {xs : Nat → Int32} {L : Nat} {i : Int32} (h1 : 0 ≤ i + (1 : Int32) ∧ (i + (1 : Int32)).toNatClampNeg < L) (h2 : 0 ≤ i + (2 : Int32) ∧ (i + (2 : Int32)).toNatClampNeg < L) (h3 : 0 ≤ i + (3 : Int32) ∧ (i + (3 : Int32)).toNatClampNeg < L) (h4 : 0 ≤ i + (4 : Int32) ∧ (i + (4 : Int32)).toNatClampNeg < L) (h5 : 0 ≤ i + (5 : Int32) ∧ (i + (5 : Int32)).toNatClampNeg < L) {st : fSt} (hR : R st) : ∃ st', fl_40 xs L i st = some ((), st') ∧ R st' := by
  obtain ⟨r, s1, s2, e1, e2, hR'⟩ := S ((xs (i + ((1 : Int32))).toNatClampNeg)) st hR
  refine ⟨s2, ?_, hR'⟩
  unfold fl_40
  simp only [fIx_in h1, fIx_in h2, fIx_in h3, fIx_in h4, fIx_in h5, fJn_s, e1, e2, fBd_s, lg_cmp_rf, if_true, fE]
set_option maxHeartbeats 1000000 in
theorem fl_41_ok {R : fSt → Prop} (S : SIM_41 R) {xs : Nat → Int32} {L : Nat} {i : Int32} (h1 : 0 ≤ i + (1 : Int32) ∧ (i + (1 : Int32)).toNatClampNeg < L) (h2 : 0 ≤ i + (2 : Int32) ∧ (i + (2 : Int32)).toNatClampNeg < L) (h3 : 0 ≤ i + (3 : Int32) ∧ (i + (3 : Int32)).toNatClampNeg < L) (h4 : 0 ≤ i + (4 : Int32) ∧ (i + (4 : Int32)).toNatClampNeg < L) (h5 : 0 ≤ i + (5 : Int32) ∧ (i + (5 : Int32)).toNatClampNeg < L) {st : fSt} (hR : R st) : ∃ st', fl_41 xs L i st = some ((), st') ∧ R st' := by
  obtain ⟨r, s1, s2, e1, e2, hR'⟩ := S ((xs (i + ((1 : Int32))).toNatClampNeg)) ((xs (i + ((2 : Int32))).toNatClampNeg)) ((xs (i + ((3 : Int32))).toNatClampNeg)) st hR
  refine ⟨s2, ?_, hR'⟩
  unfold fl_41
  simp only [fIx_in h1, fIx_in h2, fIx_in h3, fIx_in h4, fIx_in h5, fJn_s, e1, e2, fBd_s, lg_cmp_rf, if_true, fE]
set_option maxHeartbeats 1000000 in
theorem fl_42_ok {R : fSt → Prop} (S : SIM_42 R) {xs : Nat → Int32} {L : Nat} {i : Int32} (h1 : 0 ≤ i + (1 : Int32) ∧ (i + (1 : Int32)).toNatClampNeg < L) (h2 : 0 ≤ i + (2 : Int32) ∧ (i + (2 : Int32)).toNatClampNeg < L) (h3 : 0 ≤ i + (3 : Int32) ∧ (i + (3 : Int32)).toNatClampNeg < L) (h4 : 0 ≤ i + (4 : Int32) ∧ (i + (4 : Int32)).toNatClampNeg < L) (h5 : 0 ≤ i + (5 : Int32) ∧ (i + (5 : Int32)).toNatClampNeg < L) {st : fSt} (hR : R st) : ∃ st', fl_42 xs L i st = some ((), st') ∧ R st' := by
  obtain ⟨r, s1, s2, e1, e2, hR'⟩ := S st hR
  refine ⟨s2, ?_, hR'⟩
  unfold fl_42
  simp only [fIx_in h1, fIx_in h2, fIx_in h3, fIx_in h4, fIx_in h5, fJn_s, e1, e2, fBd_s, lg_cmp_rf, if_true, fE]
set_option maxHeartbeats 1000000 in
theorem fl_43_ok {R : fSt → Prop} (S : SIM_43 R) {xs : Nat → Int32} {L : Nat} {i : Int32} (h1 : 0 ≤ i + (1 : Int32) ∧ (i + (1 : Int32)).toNatClampNeg < L) (h2 : 0 ≤ i + (2 : Int32) ∧ (i + (2 : Int32)).toNatClampNeg < L) (h3 : 0 ≤ i + (3 : Int32) ∧ (i + (3 : Int32)).toNatClampNeg < L) (h4 : 0 ≤ i + (4 : Int32) ∧ (i + (4 : Int32)).toNatClampNeg < L) (h5 : 0 ≤ i + (5 : Int32) ∧ (i + (5 : Int32)).toNatClampNeg < L) {st : fSt} (hR : R st) : ∃ st', fl_43 xs L i st = some ((), st') ∧ R st' := by
  obtain ⟨r, s1, s2, e1, e2, hR'⟩ := S st hR
  refine ⟨s2, ?_, hR'⟩
  unfold fl_43
  simp only [fIx_in h1, fIx_in h2, fIx_in h3, fIx_in h4, fIx_in h5, fJn_s, e1, e2, fBd_s, lg_cmp_rf, if_true, fE]
set_option maxHeartbeats 4000000 in
theorem lw_case {R : fSt → Prop} (S : SIM R) {Z : State → Prop} {b L : Nat} {xs : Nat → Int32} (Δ : fDl) (Γ : fGm) (hN : fNx Δ) (hM : fNm Δ) (C : fC Δ Γ cL_law RL 4 (some .boolean) 21) (hX : lX b L xs Γ) (i : Int32) (h1 : 0 ≤ i + (1 : Int32) ∧ (i + (1 : Int32)).toNatClampNeg < L) (h2 : 0 ≤ i + (2 : Int32) ∧ (i + (2 : Int32)).toNatClampNeg < L) (h3 : 0 ≤ i + (3 : Int32) ∧ (i + (3 : Int32)).toNatClampNeg < L) (h4 : 0 ≤ i + (4 : Int32) ∧ (i + (4 : Int32)).toNatClampNeg < L) (h5 : 0 ≤ i + (5 : Int32) ∧ (i + (5 : Int32)).toNatClampNeg < L) {st : fSt} (hR : R st) (J : ∀ s, R s → lwJ Δ Γ b i Z s) (h8 : fW Δ Γ 4 (fun (_ : Unit) (_ : fSt) => Z) 541 [(0, .ref b), (1, .ref (fad Δ 11 0 0)), (2, .ref (fad Δ 12 0 0)), (3, .int i)] [] st (fE st)) (h9 : fW Δ Γ 4 (fun (_ : Unit) (_ : fSt) => Z) 564 [(0, .ref b), (1, .ref (fad Δ 11 0 0)), (2, .ref (fad Δ 12 0 0)), (3, .int i)] [] st (fE st)) (x : Int32) : fW Δ Γ 4 (fun (_ : Unit) (_ : fSt) => Z) 33 [(0, .ref b), (1, .ref (fad Δ 11 0 0)), (2, .ref (fad Δ 12 0 0)), (3, .int i)] [.int x] st (fE st) := by
  obtain ⟨S0, S1, S2, S3, S4, S5, S6, S7, S8, S9, S10, S11, S12, S13, S14, S15, S16, S17, S18, S19, S20, S21, S22, S23, S24, S25, S26, S27, S28, S29, S30, S31, S32, S33, S34, S35, S36, S37, S38, S39, S40, S41, S42, S43⟩ := S
  by_cases e0 : x = 0
  · refine r_tsHit (tgt := 224) (n := 0) C dL_law_33 e0 (by decide) (by decide) (by decide) rfl (by decide) ?_
    obtain ⟨st', f1, f2⟩ := fl_0_ok S0 (xs := xs) (L := L) h1 h2 h3 h4 h5 hR
    exact lw_use (tl_0 Δ Γ hN hM C hX i (fun s => lwE s) st) f1 (J st' f2)
  by_cases e1 : x = 1
  · refine r_tsHit (tgt := 237) (n := 1) C dL_law_33 e1 (by decide) (by decide) (by decide) rfl (by decide) ?_
    obtain ⟨st', f1, f2⟩ := fl_1_ok S1 (xs := xs) (L := L) h1 h2 h3 h4 h5 hR
    exact lw_use (tl_1 Δ Γ hN hM C hX i (fun s => lwE s) st) f1 (J st' f2)
  by_cases e2 : x = 2
  · refine r_tsHit (tgt := 251) (n := 2) C dL_law_33 e2 (by decide) (by decide) (by decide) rfl (by decide) ?_
    obtain ⟨st', f1, f2⟩ := fl_2_ok S2 (xs := xs) (L := L) h1 h2 h3 h4 h5 hR
    exact lw_use (tl_2 Δ Γ hN hM C hX i (fun s => lwE s) st) f1 (J st' f2)
  by_cases e3 : x = 3
  · refine r_tsHit (tgt := 265) (n := 3) C dL_law_33 e3 (by decide) (by decide) (by decide) rfl (by decide) ?_
    obtain ⟨st', f1, f2⟩ := fl_3_ok S3 (xs := xs) (L := L) h1 h2 h3 h4 h5 hR
    exact lw_use (tl_3 Δ Γ hN hM C hX i (fun s => lwE s) st) f1 (J st' f2)
  by_cases e4 : x = 4
  · refine r_tsHit (tgt := 308) (n := 4) C dL_law_33 e4 (by decide) (by decide) (by decide) rfl (by decide) ?_
    obtain ⟨st', f1, f2⟩ := fl_4_ok S4 (xs := xs) (L := L) h1 h2 h3 h4 h5 hR
    exact lw_use (tl_4 Δ Γ hN hM C hX i (fun s => lwE s) st) f1 (J st' f2)
  by_cases e5 : x = 5
  · refine r_tsHit (tgt := 381) (n := 5) C dL_law_33 e5 (by decide) (by decide) (by decide) rfl (by decide) ?_
    obtain ⟨st', f1, f2⟩ := fl_5_ok S5 (xs := xs) (L := L) h1 h2 h3 h4 h5 hR
    exact lw_use (tl_5 Δ Γ hN hM C hX i (fun s => lwE s) st) f1 (J st' f2)
  by_cases e6 : x = 6
  · refine r_tsHit (tgt := 415) (n := 6) C dL_law_33 e6 (by decide) (by decide) (by decide) rfl (by decide) ?_
    obtain ⟨st', f1, f2⟩ := fl_6_ok S6 (xs := xs) (L := L) h1 h2 h3 h4 h5 hR
    exact lw_use (tl_6 Δ Γ hN hM C hX i (fun s => lwE s) st) f1 (J st' f2)
  by_cases e7 : x = 7
  · refine r_tsHit (tgt := 478) (n := 7) C dL_law_33 e7 (by decide) (by decide) (by decide) rfl (by decide) ?_
    obtain ⟨st', f1, f2⟩ := fl_7_ok S7 (xs := xs) (L := L) h1 h2 h3 h4 h5 hR
    exact lw_use (tl_7 Δ Γ hN hM C hX i (fun s => lwE s) st) f1 (J st' f2)
  by_cases e8 : x = 8
  · refine r_tsHit (tgt := 541) (n := 8) C dL_law_33 e8 (by decide) (by decide) (by decide) rfl (by decide) ?_
    exact h8
  by_cases e9 : x = 9
  · refine r_tsHit (tgt := 564) (n := 9) C dL_law_33 e9 (by decide) (by decide) (by decide) rfl (by decide) ?_
    exact h9
  by_cases e10 : x = 10
  · refine r_tsHit (tgt := 587) (n := 10) C dL_law_33 e10 (by decide) (by decide) (by decide) rfl (by decide) ?_
    obtain ⟨st', f1, f2⟩ := fl_10_ok S10 (xs := xs) (L := L) h1 h2 h3 h4 h5 hR
    exact lw_use (tl_10 Δ Γ hN hM C hX i (fun s => lwE s) st) f1 (J st' f2)
  by_cases e11 : x = 11
  · refine r_tsHit (tgt := 610) (n := 11) C dL_law_33 e11 (by decide) (by decide) (by decide) rfl (by decide) ?_
    obtain ⟨st', f1, f2⟩ := fl_11_ok S11 (xs := xs) (L := L) h1 h2 h3 h4 h5 hR
    exact lw_use (tl_11 Δ Γ hN hM C hX i (fun s => lwE s) st) f1 (J st' f2)
  by_cases e12 : x = 12
  · refine r_tsHit (tgt := 633) (n := 12) C dL_law_33 e12 (by decide) (by decide) (by decide) rfl (by decide) ?_
    obtain ⟨st', f1, f2⟩ := fl_12_ok S12 (xs := xs) (L := L) h1 h2 h3 h4 h5 hR
    exact lw_use (tl_12 Δ Γ hN hM C hX i (fun s => lwE s) st) f1 (J st' f2)
  by_cases e13 : x = 13
  · refine r_tsHit (tgt := 666) (n := 13) C dL_law_33 e13 (by decide) (by decide) (by decide) rfl (by decide) ?_
    obtain ⟨st', f1, f2⟩ := fl_13_ok S13 (xs := xs) (L := L) h1 h2 h3 h4 h5 hR
    exact lw_use (tl_13 Δ Γ hN hM C hX i (fun s => lwE s) st) f1 (J st' f2)
  by_cases e14 : x = 14
  · refine r_tsHit (tgt := 699) (n := 14) C dL_law_33 e14 (by decide) (by decide) (by decide) rfl (by decide) ?_
    obtain ⟨st', f1, f2⟩ := fl_14_ok S14 (xs := xs) (L := L) h1 h2 h3 h4 h5 hR
    exact lw_use (tl_14 Δ Γ hN hM C hX i (fun s => lwE s) st) f1 (J st' f2)
  by_cases e15 : x = 15
  · refine r_tsHit (tgt := 732) (n := 15) C dL_law_33 e15 (by decide) (by decide) (by decide) rfl (by decide) ?_
    obtain ⟨st', f1, f2⟩ := fl_15_ok S15 (xs := xs) (L := L) h1 h2 h3 h4 h5 hR
    exact lw_use (tl_15 Δ Γ hN hM C hX i (fun s => lwE s) st) f1 (J st' f2)
  by_cases e16 : x = 16
  · refine r_tsHit (tgt := 781) (n := 16) C dL_law_33 e16 (by decide) (by decide) (by decide) rfl (by decide) ?_
    obtain ⟨st', f1, f2⟩ := fl_16_ok S16 (xs := xs) (L := L) h1 h2 h3 h4 h5 hR
    exact lw_use (tl_16 Δ Γ hN hM C hX i (fun s => lwE s) st) f1 (J st' f2)
  by_cases e17 : x = 17
  · refine r_tsHit (tgt := 830) (n := 17) C dL_law_33 e17 (by decide) (by decide) (by decide) rfl (by decide) ?_
    obtain ⟨st', f1, f2⟩ := fl_17_ok S17 (xs := xs) (L := L) h1 h2 h3 h4 h5 hR
    exact lw_use (tl_17 Δ Γ hN hM C hX i (fun s => lwE s) st) f1 (J st' f2)
  by_cases e18 : x = 18
  · refine r_tsHit (tgt := 863) (n := 18) C dL_law_33 e18 (by decide) (by decide) (by decide) rfl (by decide) ?_
    obtain ⟨st', f1, f2⟩ := fl_18_ok S18 (xs := xs) (L := L) h1 h2 h3 h4 h5 hR
    exact lw_use (tl_18 Δ Γ hN hM C hX i (fun s => lwE s) st) f1 (J st' f2)
  by_cases e19 : x = 19
  · refine r_tsHit (tgt := 886) (n := 19) C dL_law_33 e19 (by decide) (by decide) (by decide) rfl (by decide) ?_
    obtain ⟨st', f1, f2⟩ := fl_19_ok S19 (xs := xs) (L := L) h1 h2 h3 h4 h5 hR
    exact lw_use (tl_19 Δ Γ hN hM C hX i (fun s => lwE s) st) f1 (J st' f2)
  by_cases e20 : x = 20
  · refine r_tsHit (tgt := 919) (n := 20) C dL_law_33 e20 (by decide) (by decide) (by decide) rfl (by decide) ?_
    obtain ⟨st', f1, f2⟩ := fl_20_ok S20 (xs := xs) (L := L) h1 h2 h3 h4 h5 hR
    exact lw_use (tl_20 Δ Γ hN hM C hX i (fun s => lwE s) st) f1 (J st' f2)
  by_cases e21 : x = 21
  · refine r_tsHit (tgt := 932) (n := 21) C dL_law_33 e21 (by decide) (by decide) (by decide) rfl (by decide) ?_
    obtain ⟨st', f1, f2⟩ := fl_21_ok S21 (xs := xs) (L := L) h1 h2 h3 h4 h5 hR
    exact lw_use (tl_21 Δ Γ hN hM C hX i (fun s => lwE s) st) f1 (J st' f2)
  by_cases e22 : x = 22
  · refine r_tsHit (tgt := 955) (n := 22) C dL_law_33 e22 (by decide) (by decide) (by decide) rfl (by decide) ?_
    obtain ⟨st', f1, f2⟩ := fl_22_ok S22 (xs := xs) (L := L) h1 h2 h3 h4 h5 hR
    exact lw_use (tl_22 Δ Γ hN hM C hX i (fun s => lwE s) st) f1 (J st' f2)
  by_cases e23 : x = 23
  · refine r_tsHit (tgt := 978) (n := 23) C dL_law_33 e23 (by decide) (by decide) (by decide) rfl (by decide) ?_
    obtain ⟨st', f1, f2⟩ := fl_23_ok S23 (xs := xs) (L := L) h1 h2 h3 h4 h5 hR
    exact lw_use (tl_23 Δ Γ hN hM C hX i (fun s => lwE s) st) f1 (J st' f2)
  by_cases e24 : x = 24
  · refine r_tsHit (tgt := 1001) (n := 24) C dL_law_33 e24 (by decide) (by decide) (by decide) rfl (by decide) ?_
    obtain ⟨st', f1, f2⟩ := fl_24_ok S24 (xs := xs) (L := L) h1 h2 h3 h4 h5 hR
    exact lw_use (tl_24 Δ Γ hN hM C hX i (fun s => lwE s) st) f1 (J st' f2)
  by_cases e25 : x = 25
  · refine r_tsHit (tgt := 1034) (n := 25) C dL_law_33 e25 (by decide) (by decide) (by decide) rfl (by decide) ?_
    obtain ⟨st', f1, f2⟩ := fl_25_ok S25 (xs := xs) (L := L) h1 h2 h3 h4 h5 hR
    exact lw_use (tl_25 Δ Γ hN hM C hX i (fun s => lwE s) st) f1 (J st' f2)
  by_cases e26 : x = 26
  · refine r_tsHit (tgt := 1067) (n := 26) C dL_law_33 e26 (by decide) (by decide) (by decide) rfl (by decide) ?_
    obtain ⟨st', f1, f2⟩ := fl_26_ok S26 (xs := xs) (L := L) h1 h2 h3 h4 h5 hR
    exact lw_use (tl_26 Δ Γ hN hM C hX i (fun s => lwE s) st) f1 (J st' f2)
  by_cases e27 : x = 27
  · refine r_tsHit (tgt := 1100) (n := 27) C dL_law_33 e27 (by decide) (by decide) (by decide) rfl (by decide) ?_
    obtain ⟨st', f1, f2⟩ := fl_27_ok S27 (xs := xs) (L := L) h1 h2 h3 h4 h5 hR
    exact lw_use (tl_27 Δ Γ hN hM C hX i (fun s => lwE s) st) f1 (J st' f2)
  by_cases e28 : x = 28
  · refine r_tsHit (tgt := 1123) (n := 28) C dL_law_33 e28 (by decide) (by decide) (by decide) rfl (by decide) ?_
    obtain ⟨st', f1, f2⟩ := fl_28_ok S28 (xs := xs) (L := L) h1 h2 h3 h4 h5 hR
    exact lw_use (tl_28 Δ Γ hN hM C hX i (fun s => lwE s) st) f1 (J st' f2)
  by_cases e29 : x = 29
  · refine r_tsHit (tgt := 1136) (n := 29) C dL_law_33 e29 (by decide) (by decide) (by decide) rfl (by decide) ?_
    obtain ⟨st', f1, f2⟩ := fl_29_ok S29 (xs := xs) (L := L) h1 h2 h3 h4 h5 hR
    exact lw_use (tl_29 Δ Γ hN hM C hX i (fun s => lwE s) st) f1 (J st' f2)
  by_cases e30 : x = 30
  · refine r_tsHit (tgt := 1159) (n := 30) C dL_law_33 e30 (by decide) (by decide) (by decide) rfl (by decide) ?_
    obtain ⟨st', f1, f2⟩ := fl_30_ok S30 (xs := xs) (L := L) h1 h2 h3 h4 h5 hR
    exact lw_use (tl_30 Δ Γ hN hM C hX i (fun s => lwE s) st) f1 (J st' f2)
  by_cases e31 : x = 31
  · refine r_tsHit (tgt := 1182) (n := 31) C dL_law_33 e31 (by decide) (by decide) (by decide) rfl (by decide) ?_
    obtain ⟨st', f1, f2⟩ := fl_31_ok S31 (xs := xs) (L := L) h1 h2 h3 h4 h5 hR
    exact lw_use (tl_31 Δ Γ hN hM C hX i (fun s => lwE s) st) f1 (J st' f2)
  by_cases e32 : x = 32
  · refine r_tsHit (tgt := 1205) (n := 32) C dL_law_33 e32 (by decide) (by decide) (by decide) rfl (by decide) ?_
    obtain ⟨st', f1, f2⟩ := fl_32_ok S32 (xs := xs) (L := L) h1 h2 h3 h4 h5 hR
    exact lw_use (tl_32 Δ Γ hN hM C hX i (fun s => lwE s) st) f1 (J st' f2)
  by_cases e33 : x = 33
  · refine r_tsHit (tgt := 1218) (n := 33) C dL_law_33 e33 (by decide) (by decide) (by decide) rfl (by decide) ?_
    obtain ⟨st', f1, f2⟩ := fl_33_ok S33 (xs := xs) (L := L) h1 h2 h3 h4 h5 hR
    exact lw_use (tl_33 Δ Γ hN hM C hX i (fun s => lwE s) st) f1 (J st' f2)
  by_cases e34 : x = 34
  · refine r_tsHit (tgt := 1241) (n := 34) C dL_law_33 e34 (by decide) (by decide) (by decide) rfl (by decide) ?_
    obtain ⟨st', f1, f2⟩ := fl_34_ok S34 (xs := xs) (L := L) h1 h2 h3 h4 h5 hR
    exact lw_use (tl_34 Δ Γ hN hM C hX i (fun s => lwE s) st) f1 (J st' f2)
  by_cases e35 : x = 35
  · refine r_tsHit (tgt := 1264) (n := 35) C dL_law_33 e35 (by decide) (by decide) (by decide) rfl (by decide) ?_
    obtain ⟨st', f1, f2⟩ := fl_35_ok S35 (xs := xs) (L := L) h1 h2 h3 h4 h5 hR
    exact lw_use (tl_35 Δ Γ hN hM C hX i (fun s => lwE s) st) f1 (J st' f2)
  by_cases e36 : x = 36
  · refine r_tsHit (tgt := 1287) (n := 36) C dL_law_33 e36 (by decide) (by decide) (by decide) rfl (by decide) ?_
    obtain ⟨st', f1, f2⟩ := fl_36_ok S36 (xs := xs) (L := L) h1 h2 h3 h4 h5 hR
    exact lw_use (tl_36 Δ Γ hN hM C hX i (fun s => lwE s) st) f1 (J st' f2)
  by_cases e37 : x = 37
  · refine r_tsHit (tgt := 1310) (n := 37) C dL_law_33 e37 (by decide) (by decide) (by decide) rfl (by decide) ?_
    obtain ⟨st', f1, f2⟩ := fl_37_ok S37 (xs := xs) (L := L) h1 h2 h3 h4 h5 hR
    exact lw_use (tl_37 Δ Γ hN hM C hX i (fun s => lwE s) st) f1 (J st' f2)
  by_cases e38 : x = 38
  · refine r_tsHit (tgt := 1333) (n := 38) C dL_law_33 e38 (by decide) (by decide) (by decide) rfl (by decide) ?_
    obtain ⟨st', f1, f2⟩ := fl_38_ok S38 (xs := xs) (L := L) h1 h2 h3 h4 h5 hR
    exact lw_use (tl_38 Δ Γ hN hM C hX i (fun s => lwE s) st) f1 (J st' f2)
  by_cases e39 : x = 39
  · refine r_tsHit (tgt := 1366) (n := 39) C dL_law_33 e39 (by decide) (by decide) (by decide) rfl (by decide) ?_
    obtain ⟨st', f1, f2⟩ := fl_39_ok S39 (xs := xs) (L := L) h1 h2 h3 h4 h5 hR
    exact lw_use (tl_39 Δ Γ hN hM C hX i (fun s => lwE s) st) f1 (J st' f2)
  by_cases e40 : x = 40
  · refine r_tsHit (tgt := 1389) (n := 40) C dL_law_33 e40 (by decide) (by decide) (by decide) rfl (by decide) ?_
    obtain ⟨st', f1, f2⟩ := fl_40_ok S40 (xs := xs) (L := L) h1 h2 h3 h4 h5 hR
    exact lw_use (tl_40 Δ Γ hN hM C hX i (fun s => lwE s) st) f1 (J st' f2)
  by_cases e41 : x = 41
  · refine r_tsHit (tgt := 1412) (n := 41) C dL_law_33 e41 (by decide) (by decide) (by decide) rfl (by decide) ?_
    obtain ⟨st', f1, f2⟩ := fl_41_ok S41 (xs := xs) (L := L) h1 h2 h3 h4 h5 hR
    exact lw_use (tl_41 Δ Γ hN hM C hX i (fun s => lwE s) st) f1 (J st' f2)
  by_cases e42 : x = 42
  · refine r_tsHit (tgt := 1455) (n := 42) C dL_law_33 e42 (by decide) (by decide) (by decide) rfl (by decide) ?_
    obtain ⟨st', f1, f2⟩ := fl_42_ok S42 (xs := xs) (L := L) h1 h2 h3 h4 h5 hR
    exact lw_use (tl_42 Δ Γ hN hM C hX i (fun s => lwE s) st) f1 (J st' f2)
  by_cases e43 : x = 43
  · refine r_tsHit (tgt := 1468) (n := 43) C dL_law_33 e43 (by decide) (by decide) (by decide) rfl (by decide) ?_
    obtain ⟨st', f1, f2⟩ := fl_43_ok S43 (xs := xs) (L := L) h1 h2 h3 h4 h5 hR
    exact lw_use (tl_43 Δ Γ hN hM C hX i (fun s => lwE s) st) f1 (J st' f2)
  refine r_tsDef (tgt := 1481) C dL_law_33 (by have q0 := fNe e0 0 (by decide); have q1 := fNe e1 1 (by decide); have q2 := fNe e2 2 (by decide); have q3 := fNe e3 3 (by decide); have q4 := fNe e4 4 (by decide); have q5 := fNe e5 5 (by decide); have q6 := fNe e6 6 (by decide); have q7 := fNe e7 7 (by decide); have q8 := fNe e8 8 (by decide); have q9 := fNe e9 9 (by decide); have q10 := fNe e10 10 (by decide); have q11 := fNe e11 11 (by decide); have q12 := fNe e12 12 (by decide); have q13 := fNe e13 13 (by decide); have q14 := fNe e14 14 (by decide); have q15 := fNe e15 15 (by decide); have q16 := fNe e16 16 (by decide); have q17 := fNe e17 17 (by decide); have q18 := fNe e18 18 (by decide); have q19 := fNe e19 19 (by decide); have q20 := fNe e20 20 (by decide); have q21 := fNe e21 21 (by decide); have q22 := fNe e22 22 (by decide); have q23 := fNe e23 23 (by decide); have q24 := fNe e24 24 (by decide); have q25 := fNe e25 25 (by decide); have q26 := fNe e26 26 (by decide); have q27 := fNe e27 27 (by decide); have q28 := fNe e28 28 (by decide); have q29 := fNe e29 29 (by decide); have q30 := fNe e30 30 (by decide); have q31 := fNe e31 31 (by decide); have q32 := fNe e32 32 (by decide); have q33 := fNe e33 33 (by decide); have q34 := fNe e34 34 (by decide); have q35 := fNe e35 35 (by decide); have q36 := fNe e36 36 (by decide); have q37 := fNe e37 37 (by decide); have q38 := fNe e38 38 (by decide); have q39 := fNe e39 39 (by decide); have q40 := fNe e40 40 (by decide); have q41 := fNe e41 41 (by decide); have q42 := fNe e42 42 (by decide); have q43 := fNe e43 43 (by decide); omega) (by decide) ?_
  have h := J st hR
  unfold lwJ at h
  exact h
