theorem bi_t {b : Bool} (h : b = true) : nI 1 = bi b := by subst h; rfl
theorem bi_f {b : Bool} (h : b = false) : nI 0 = bi b := by subst h; rfl
theorem i32_lt (a b : Int32) : a < b ↔ a.toInt < b.toInt := Int32.lt_iff_toInt_lt
theorem i32_le (a b : Int32) : a ≤ b ↔ a.toInt ≤ b.toInt := Int32.le_iff_toInt_le
theorem i32_0 : (0 : Int32).toInt = 0 := by decide
theorem i32_eq {a b : Int32} (h : a.toInt = b.toInt) : a = b := Int32.toInt_inj.mp h
/-- in range -/
def inr (x : Int32) (n : Nat) : Bool := decide (0 ≤ x.toInt ∧ x.toInt < n)
theorem inr_t {x : Int32} {n : Nat} (hn : n < 2 ^ 31) (h1 : ¬ x < 0) (h2 : ¬ nI n ≤ x) : inr x n = true := by
  rw [i32_lt, i32_0] at h1
  rw [i32_le, nI_toInt hn] at h2
  unfold inr
  exact decide_eq_true ⟨by omega, by omega⟩
theorem inr_f1 {x : Int32} {n : Nat} (h1 : x < 0) : inr x n = false := by
  rw [i32_lt, i32_0] at h1
  unfold inr
  exact decide_eq_false (by omega)
theorem inr_f2 {x : Int32} {n : Nat} (hn : n < 2 ^ 31) (h2 : nI n ≤ x) : inr x n = false := by
  rw [i32_le, nI_toInt hn] at h2
  unfold inr
  exact decide_eq_false (by omega)
theorem inr_of {x : Int32} {n : Nat} (h : inr x n = true) (hn : n < 2 ^ 31) : ∃ j : Nat, j < n ∧ x = nI j := by
  have h := of_decide_eq_true h
  refine ⟨x.toInt.toNat, by omega, i32_eq ?_⟩
  rw [nI_toInt (by omega)]
  omega
theorem inr_nI {j n : Nat} (hj : j < 2 ^ 31) : inr (nI j) n = decide (j < n) := by
  unfold inr
  rw [nI_toInt hj]
  by_cases h : j < n
  · rw [decide_eq_true (show (0 : Int) ≤ j ∧ (j : Int) < n by omega), decide_eq_true h]
  · rw [decide_eq_false (show ¬ ((0 : Int) ≤ j ∧ (j : Int) < n) by omega), decide_eq_false h]
theorem inr_lt {j n : Nat} (h : j < n) (hn : n < 2 ^ 31) : inr (nI j) n = true := by
  rw [inr_nI (by omega)]; exact decide_eq_true h
/-- a place or none, as the class writes it -/
def oI : Option Nat → Int32 | none => -1 | some j => nI j
theorem oI_m1 {o : Option Nat} (h : ∀ j, o = some j → j < 2 ^ 31) : oI o = -1 ↔ o = none := by
  cases o with
  | none => exact ⟨fun _ => rfl, fun _ => rfl⟩
  | some j =>
    refine ⟨fun q => ?_, fun q => by cases q⟩
    have h1 : (nI j).toInt = (-1 : Int32).toInt := by rw [show nI j = -1 from q]
    rw [nI_toInt (h j rfl), show (-1 : Int32).toInt = -1 by decide] at h1
    omega
/-- the first place from d on, among k, where f is g -/
def fst (f : Nat → Nat) (g : Nat) : Nat → Nat → Option Nat
  | _, 0 => none
  | d, k + 1 => if f d = g then some d else fst f g (d + 1) k
theorem fst_some {f : Nat → Nat} {g : Nat} : ∀ {k d j : Nat}, fst f g d k = some j → d ≤ j ∧ j < d + k ∧ f j = g ∧ ∀ i, d ≤ i → i < j → f i ≠ g
  | 0, _, _, h => by cases h
  | k + 1, d, j, h => by
    unfold fst at h
    split at h
    · rename_i q
      cases h
      exact ⟨Nat.le_refl _, by omega, q, fun i a b => by omega⟩
    · rename_i q
      obtain ⟨h1, h2, h3, h4⟩ := fst_some h
      refine ⟨by omega, by omega, h3, fun i a b => ?_⟩
      by_cases e : i = d
      · subst e; exact q
      · exact h4 i (by omega) b
theorem fst_none {f : Nat → Nat} {g : Nat} : ∀ {k d : Nat}, fst f g d k = none ↔ ∀ i, d ≤ i → i < d + k → f i ≠ g
  | 0, d => ⟨fun _ i a b => by omega, fun _ => rfl⟩
  | k + 1, d => by
    unfold fst
    split
    · rename_i q
      exact ⟨fun h => (by cases h), fun h => absurd q (h d (Nat.le_refl _) (by omega))⟩
    · rename_i q
      rw [fst_none]
      refine ⟨fun h i a b => ?_, fun h i a b => h i (by omega) (by omega)⟩
      by_cases e : i = d
      · subst e; exact q
      · exact h i (by omega) (by omega)
theorem fst_lt {f : Nat → Nat} {g d k j : Nat} (h : fst f g d k = some j) : j < d + k := (fst_some h).2.1
theorem fst_eq {f : Nat → Nat} {g d k j : Nat} (h1 : d ≤ j) (h2 : j < d + k) (h3 : f j = g) (h4 : ∀ i, d ≤ i → i < j → f i ≠ g) : fst f g d k = some j := by
  cases h : fst f g d k with
  | none => exact absurd h3 (fst_none.mp h j h1 h2)
  | some i =>
    obtain ⟨a1, a2, a3, a4⟩ := fst_some h
    rcases Nat.lt_trichotomy i j with q | q | q
    · exact absurd a3 (h4 i a1 q)
    · rw [q]
    · exact absurd h3 (a4 j h1 q)
theorem fst_cong {f f' : Nat → Nat} {g : Nat} : ∀ {k d : Nat}, (∀ i, d ≤ i → i < d + k → f i = f' i) → fst f g d k = fst f' g d k
  | 0, _, _ => rfl
  | k + 1, d, h => by
    unfold fst
    rw [h d (Nat.le_refl _) (by omega), fst_cong (k := k) (d := d + 1) (fun i a b => h i (by omega) (by omega))]
/-- the digit of the place d -/
def dg (P a d : Nat) : Nat := a / P ^ d % P
theorem dg_lt {P a d : Nat} (h : 0 < P) : dg P a d < P := Nat.mod_lt _ h
theorem dg_pegIn {P a d : Nat} (hP : 0 < P) (hP2 : P < 2 ^ 31) (ha : a < 2 ^ 31) (hd : P ^ d < 2 ^ 31) : nI a / nI (P ^ d) - nI a / nI (P ^ d) / nI P * nI P = nI (dg P a d) := by
  rw [pk_div ha (Nat.pow_pos hP) hd]
  exact pk_rem (Nat.lt_of_le_of_lt (Nat.div_le_self _ _) ha) hP hP2
theorem pw_mono {P d N : Nat} (hP : 0 < P) (h : d ≤ N) : P ^ d ≤ P ^ N := Nat.pow_le_pow_right hP h
theorem nI_nlt0 {j : Nat} (h : j < 2 ^ 31) : ¬ nI j < 0 := nI_pos h
theorem nI_nlt1 {j : Nat} (h : j < 2 ^ 31) (h0 : 0 < j) : ¬ nI j < 1 := by
  rw [show (1 : Int32) = nI 1 by rfl, nI_ltI h (by omega)]; omega
