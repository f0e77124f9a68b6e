/-- the first place from i on, below N, where f is g -/
def frm (f : Nat → Nat) (g i N : Nat) : Option Nat := fst f g i (N - i)
theorem frm_end {f : Nat → Nat} {g i N : Nat} (h : N ≤ i) : frm f g i N = none := by
  unfold frm; rw [Nat.sub_eq_zero_of_le h]; rfl
theorem frm_hit {f : Nat → Nat} {g i N : Nat} (h : i < N) (e : f i = g) : frm f g i N = some i := by
  unfold frm
  obtain ⟨k, hk⟩ : ∃ k, N - i = k + 1 := ⟨N - i - 1, by omega⟩
  rw [hk, fst, if_pos e]
theorem frm_step {f : Nat → Nat} {g i N : Nat} (h : i < N) (e : f i ≠ g) : frm f g i N = frm f g (i + 1) N := by
  unfold frm
  obtain ⟨k, hk⟩ : ∃ k, N - i = k + 1 := ⟨N - i - 1, by omega⟩
  rw [hk, fst, if_neg e, show N - (i + 1) = k by omega]
theorem frm_some {f : Nat → Nat} {g i N j : Nat} (h : frm f g i N = some j) : i ≤ j ∧ j < N ∧ f j = g ∧ ∀ q, i ≤ q → q < j → f q ≠ g := by
  obtain ⟨h1, h2, h3, h4⟩ := fst_some h
  exact ⟨h1, by omega, h3, h4⟩
theorem frm_none {f : Nat → Nat} {g i N : Nat} : frm f g i N = none ↔ ∀ q, i ≤ q → q < N → f q ≠ g := by
  unfold frm
  rw [fst_none]
  exact ⟨fun h q a b => h q a (by omega), fun h q a b => h q a (by omega)⟩
theorem frm_eq {f : Nat → Nat} {g i N j : Nat} (h1 : i ≤ j) (h2 : j < N) (h3 : f j = g) (h4 : ∀ q, i ≤ q → q < j → f q ≠ g) : frm f g i N = some j := fst_eq h1 (by omega) h3 h4
theorem frm_cong {f f' : Nat → Nat} {g i N : Nat} (h : ∀ q, i ≤ q → q < N → f q = f' q) : frm f g i N = frm f' g i N := fst_cong (fun q a b => h q a (by omega))
/-- all from i on, below N -/
def alf (q : Nat → Bool) : Nat → Nat → Bool
  | _, 0 => true
  | d, k + 1 => q d && alf q (d + 1) k
def alB (q : Nat → Bool) (i N : Nat) : Bool := alf q i (N - i)
theorem alB_end {q : Nat → Bool} {i N : Nat} (h : N ≤ i) : alB q i N = true := by
  unfold alB; rw [Nat.sub_eq_zero_of_le h]; rfl
theorem alB_step {q : Nat → Bool} {i N : Nat} (h : i < N) : alB q i N = (q i && alB q (i + 1) N) := by
  unfold alB
  obtain ⟨k, hk⟩ : ∃ k, N - i = k + 1 := ⟨N - i - 1, by omega⟩
  rw [hk, alf, show N - (i + 1) = k by omega]
theorem alf_iff {q : Nat → Bool} : ∀ {k d : Nat}, alf q d k = true ↔ ∀ i, d ≤ i → i < d + k → q i = true
  | 0, d => ⟨fun _ i a b => by omega, fun _ => rfl⟩
  | k + 1, d => by
    rw [alf, Bool.and_eq_true, alf_iff]
    refine ⟨fun h i a b => ?_, fun h => ⟨h d (Nat.le_refl _) (by omega), fun i a b => h i (by omega) (by omega)⟩⟩
    by_cases e : i = d
    · subst e; exact h.1
    · exact h.2 i (by omega) (by omega)
theorem alB_iff {q : Nat → Bool} {i N : Nat} : alB q i N = true ↔ ∀ d, i ≤ d → d < N → q d = true := by
  unfold alB
  rw [alf_iff]
  exact ⟨fun h d a b => h d a (by omega), fun h d a b => h d a (by omega)⟩
/-- may the disk d lie on the disk below it -/
def mlo (ru : Bool) (cb : Nat → Bool) (d : Nat) (o : Option Nat) : Bool := !ru || (match o with | none => true | some j => cb d != cb j)
/-- lawful -/
def lawF (N : Nat) (ru : Bool) (cb : Nat → Bool) (f : Nat → Nat) : Bool := alB (fun d => mlo ru cb d (frm f (f d) (d + 1) N)) 0 N
def lawB (P N : Nat) (ru : Bool) (cb : Nat → Bool) (a : Nat) : Bool := lawF N ru cb (dg P a)
/-- the top disk of a peg -/
def tp (P N a g : Nat) : Option Nat := frm (dg P a) g 0 N
def ftB (f t : Nat) (o1 o2 : Option Nat) : Bool := decide (f ≠ t) && (match o1 with | none => false | some d => match o2 with | none => true | some e => decide (d < e))
/-- the number with the digit of d put to t -/
def sd (P a d t : Nat) : Nat := a + t * P ^ d - dg P a d * P ^ d
def mv (P N a f t : Nat) : Nat := match tp P N a f with | none => a | some d => sd P a d t
def psB (P N : Nat) (ru : Bool) (cb al : Nat → Bool) (a f t : Nat) : Bool := ftB f t (tp P N a f) (tp P N a t) && al (f * 5 + t) && lawB P N ru cb (mv P N a f t)
def tpOf (P N a : Nat) (to : Nat → Int32) : Prop := ∀ g, g < 5 → to g = oI (tp P N a g)
def stB (P N : Nat) (ru : Bool) (cb al : Nat → Bool) (a f t : Nat) (bw : Bool) : Bool := ftB f t (tp P N a f) (tp P N a t) && al (if bw then t * 5 + f else f * 5 + t) && (match tp P N a f with | none => true | some d => mlo ru cb d (tp P N a t))
def cfg (P N : Nat) : Prop := 3 ≤ P ∧ P ≤ 5 ∧ 1 ≤ N ∧ N ≤ 6
theorem cfg_pw {P N d : Nat} (h : cfg P N) (hd : d ≤ 6) : P ^ d ≤ 15625 := by
  obtain ⟨h1, h2, -, -⟩ := h
  refine Nat.le_trans (Nat.pow_le_pow_right (by omega) hd) ?_
  rcases (show P = 3 ∨ P = 4 ∨ P = 5 by omega) with rfl | rfl | rfl <;> decide
theorem cfg_pos {P N d : Nat} (h : cfg P N) : 0 < P ^ d := Nat.pow_pos (by have := h.1; omega)
theorem dg_le {P a d : Nat} : dg P a d * P ^ d ≤ a := by
  unfold dg
  exact Nat.le_trans (Nat.mul_le_mul_right _ (Nat.mod_le _ _)) (Nat.div_mul_le_self a _)
theorem tp_lt {P N a g j : Nat} (h : tp P N a g = some j) : j < N := (frm_some h).2.1
theorem tp_dg {P N a g j : Nat} (h : tp P N a g = some j) : dg P a j = g := (frm_some h).2.2.1
theorem nI_m1 (x : Int32) : x + Int32.ofInt (-1) = x - nI 1 := by
  rw [Int32.sub_eq_add_neg]; rfl
theorem nI_p1 (j : Nat) : nI j + Int32.ofInt 1 = nI (j + 1) := nI_1 j
theorem nI_pr (j : Nat) : nI (j + 1) - nI 1 = nI j := nI_pred j
theorem nI_move {a f t w : Nat} (h : f * w ≤ a) : nI a + (nI t - nI f) * nI w = nI (a + t * w - f * w) := by
  have e : a + t * w - f * w + f * w = a + t * w := by omega
  have e2 := congrArg nI e
  rw [← nI_add, ← nI_add, ← pk_mul, ← pk_mul] at e2
  generalize nI (a + t * w - f * w) = X at e2 ⊢
  generalize nI a = A at e2 ⊢
  generalize nI f = F at e2 ⊢
  generalize nI t = T at e2 ⊢
  generalize nI w = V at e2 ⊢
  grind
