/-- the number of the digits f 0 .. f (N - 1) -/
def nm (P : Nat) (f : Nat → Nat) : Nat → Nat
  | 0 => 0
  | N + 1 => nm P f N + f N * P ^ N
theorem nm_lt {P : Nat} {f : Nat → Nat} (hP : 0 < P) : ∀ {N : Nat}, (∀ d, d < N → f d < P) → nm P f N < P ^ N
  | 0, _ => by simp [nm]
  | N + 1, h => by
    have h1 := nm_lt hP (N := N) (fun d q => h d (by omega))
    have h2 : f N * P ^ N ≤ (P - 1) * P ^ N := Nat.mul_le_mul_right _ (by have := h N (by omega); omega)
    have h3 : (P - 1) * P ^ N + P ^ N = P ^ (N + 1) := by
      rw [Nat.pow_succ, Nat.mul_comm (P ^ N) P]
      obtain ⟨q, rfl⟩ : ∃ q, P = q + 1 := ⟨P - 1, by omega⟩
      rw [Nat.add_sub_cancel, Nat.succ_mul]
    rw [nm]; omega
theorem nm_cong {P : Nat} {f g : Nat → Nat} : ∀ {N : Nat}, (∀ d, d < N → f d = g d) → nm P f N = nm P g N
  | 0, _ => rfl
  | N + 1, h => by rw [nm, nm, nm_cong (N := N) (fun d q => h d (by omega)), h N (by omega)]
theorem dg_nm {P : Nat} {f : Nat → Nat} (hP : 0 < P) : ∀ {N : Nat}, (∀ d, d < N → f d < P) → ∀ {d : Nat}, d < N → dg P (nm P f N) d = f d
  | 0, _, d, h => by omega
  | N + 1, hf, d, h => by
    have hpd : 0 < P ^ d := Nat.pow_pos hP
    rw [nm]
    unfold dg
    by_cases e : d = N
    · subst e
      rw [Nat.add_mul_div_right _ _ hpd, Nat.div_eq_of_lt (nm_lt hP (fun d q => hf d (by omega))), Nat.zero_add, Nat.mod_eq_of_lt (hf d h)]
    · have ih := dg_nm hP (N := N) (fun d q => hf d (by omega)) (d := d) (by omega)
      unfold dg at ih
      obtain ⟨k, rfl⟩ : ∃ k, N = d + (k + 1) := ⟨N - d - 1, by omega⟩
      rw [show f (d + (k + 1)) * P ^ (d + (k + 1)) = (f (d + (k + 1)) * P ^ k * P) * P ^ d by rw [Nat.pow_add, Nat.pow_succ]; simp only [Nat.mul_comm, Nat.mul_left_comm, Nat.mul_assoc], Nat.add_mul_div_right _ _ hpd, Nat.add_mul_mod_self_right]
      exact ih
theorem nm_dg {P a : Nat} : ∀ {N : Nat}, nm P (dg P a) N = a % P ^ N
  | 0 => by rw [nm, Nat.pow_zero, Nat.mod_one]
  | N + 1 => by
    rw [nm, nm_dg, Nat.pow_succ, Nat.mod_mul]
    unfold dg
    rw [Nat.mul_comm (P ^ N)]
theorem nm_self {P a N : Nat} (h : a < P ^ N) : nm P (dg P a) N = a := by rw [nm_dg, Nat.mod_eq_of_lt h]
def updN (f : Nat → Nat) (k : Nat) (x : Nat) : Nat → Nat := fun j => if j = k then x else f j
theorem updN_s {f : Nat → Nat} {k x : Nat} : updN f k x k = x := if_pos rfl
theorem updN_n {f : Nat → Nat} {k x j : Nat} (h : j ≠ k) : updN f k x j = f j := if_neg h
theorem nm_updN {P : Nat} {f : Nat → Nat} {d t : Nat} : ∀ {N : Nat}, d < N → nm P (updN f d t) N + f d * P ^ d = nm P f N + t * P ^ d
  | 0, h => by omega
  | N + 1, h => by
    rw [nm, nm]
    by_cases e : d = N
    · subst e
      rw [updN_s, nm_cong (g := f) (fun j q => updN_n (by omega))]
      omega
    · rw [updN_n (fun q => e q.symm)]
      have ih := nm_updN (P := P) (f := f) (d := d) (t := t) (N := N) (by omega)
      omega
theorem sd_nm {P a d t N : Nat} (ha : a < P ^ N) (hd : d < N) : sd P a d t = nm P (updN (dg P a) d t) N := by
  have h := nm_updN (P := P) (f := dg P a) (d := d) (t := t) hd
  rw [nm_self ha] at h
  unfold sd
  have := dg_le (P := P) (a := a) (d := d)
  omega
theorem sd_lt {P a d t N : Nat} (hP : 0 < P) (ha : a < P ^ N) (hd : d < N) (ht : t < P) : sd P a d t < P ^ N := by
  rw [sd_nm ha hd]
  refine nm_lt hP (fun j hj => ?_)
  by_cases e : j = d
  · rw [e, updN_s]; exact ht
  · rw [updN_n e]; exact dg_lt hP
theorem dg_sd {P a d t N j : Nat} (hP : 0 < P) (ha : a < P ^ N) (hd : d < N) (ht : t < P) (hj : j < N) : dg P (sd P a d t) j = if j = d then t else dg P a j := by
  rw [sd_nm ha hd, dg_nm hP (fun q hq => ?_) hj]
  · rfl
  · by_cases e : q = d
    · rw [e, updN_s]; exact ht
    · rw [updN_n e]; exact dg_lt hP
theorem dg_sdS {P a d t N : Nat} (hP : 0 < P) (ha : a < P ^ N) (hd : d < N) (ht : t < P) : dg P (sd P a d t) d = t := by rw [dg_sd hP ha hd ht hd, if_pos rfl]
theorem dg_sdN {P a d t N j : Nat} (hP : 0 < P) (ha : a < P ^ N) (hd : d < N) (ht : t < P) (hj : j < N) (e : j ≠ d) : dg P (sd P a d t) j = dg P a j := by rw [dg_sd hP ha hd ht hj, if_neg e]
theorem dg_inj {P a b N : Nat} (ha : a < P ^ N) (hb : b < P ^ N) (h : ∀ d, d < N → dg P a d = dg P b d) : a = b := by
  rw [← nm_self ha, ← nm_self hb]; exact nm_cong h
theorem mv_lt {P N a f t : Nat} (hP : 0 < P) (ha : a < P ^ N) (ht : t < P) : mv P N a f t < P ^ N := by
  unfold mv
  split
  · exact ha
  · rename_i d h
    exact sd_lt hP ha (tp_lt h) ht
theorem ftB_some {f t : Nat} {o1 o2 : Option Nat} (h : ftB f t o1 o2 = true) : f ≠ t ∧ ∃ d, o1 = some d ∧ ∀ e, o2 = some e → d < e := by
  unfold ftB at h
  rw [Bool.and_eq_true] at h
  refine ⟨of_decide_eq_true h.1, ?_⟩
  cases o1 with
  | none => exact absurd h.2 (by simp)
  | some d =>
    refine ⟨d, rfl, fun e he => ?_⟩
    subst he
    exact of_decide_eq_true h.2
theorem mv_some {P N a f t d : Nat} (h : tp P N a f = some d) : mv P N a f t = a + t * P ^ d - f * P ^ d := by
  unfold mv
  rw [h]
  show sd P a d t = _
  unfold sd
  rw [tp_dg h]
theorem tp_le {P N a f d : Nat} (h : tp P N a f = some d) : f * P ^ d ≤ a := by
  have h2 := dg_le (P := P) (a := a) (d := d)
  rw [tp_dg h] at h2
  exact h2
/-- from the highest digit down -/
def hor (P : Nat) (f : Nat → Nat) : Nat → Nat → Nat
  | _, 0 => 0
  | i, k + 1 => P * hor P f (i + 1) k + f i
theorem nm_hor {P : Nat} {f : Nat → Nat} : ∀ {k i : Nat}, nm P f (i + k) = nm P f i + P ^ i * hor P f i k
  | 0, i => by rw [hor, Nat.mul_zero]; rfl
  | k + 1, i => by
    rw [show i + (k + 1) = (i + 1) + k by omega, nm_hor, nm, hor, Nat.mul_add, Nat.pow_succ, Nat.mul_assoc, Nat.mul_comm (P ^ i) (f i)]
    omega
theorem nm_hor0 {P : Nat} {f : Nat → Nat} {N : Nat} : nm P f N = hor P f 0 N := by
  have h := nm_hor (P := P) (f := f) (k := N) (i := 0)
  rw [Nat.zero_add] at h
  rw [h, nm, Nat.pow_zero]; omega
