/-! the law's state: both sides hold the same bench -/
def sqn (mv0 : Nat) (tr : Nat → Nat) (a k : Nat) : Nat := if k < mv0 then tr k else a
def HI (P N a mv0 : Nat) (tr fr tt : Nat → Nat) : Prop := ∀ k, k < mv0 → fr k < P ∧ tt k < P ∧ ∃ d, tp P N (sqn mv0 tr a (k + 1)) (tt k) = some d ∧ dg P (tr k) d = fr k ∧ ∀ j, j < N → j ≠ d → dg P (tr k) j = dg P (sqn mv0 tr a (k + 1)) j
def INV (P N a b mv0 st0 : Nat) (ru me : Bool) (cb al ba : Nat → Bool) (tr nf gf fr tt : Nat → Nat) (fa : Nat → Int32) : Prop :=
  cfg P N ∧ a < P ^ N ∧ b < P ^ N ∧ mv0 ≤ 500 ∧ (me = true → farOk P N ru cb al b fa) ∧ (∀ k, ba k = !al k) ∧ (∀ d, d < N → nf d = dg P a d) ∧ (∀ d, d < N → gf d = dg P b d) ∧ (∀ k, k < mv0 → tr k < P ^ N) ∧ (0 < mv0 → st0 = tr 0) ∧ HI P N a mv0 tr fr tt
def lwA (Y : jy_T) (ad : Nat → Nat) (P N a b mv0 : Nat) (ru me : Bool) (cb al : Nat → Bool) (tr : Nat → Nat) (to fa se qu : Nat → Int32) : va_W :=
  wA Y ad (nI P) (nI N) (bi ru) (nI a) (nI b) (nI mv0) (bi me) (fun d => nI (P ^ d)) (fun d => bi (cb d)) (fun k => bi (al k)) (fun k => nI (tr k)) to fa se qu (fun i => nI (spT i))
def lwM (Y : jy_T) (ad : Nat → Nat) (P N mv0 st0 : Nat) (ru : Bool) (cb ba : Nat → Bool) (nf gf fr tt : Nat → Nat) (th qd : Int32) (lk fa qu nb : Nat → Int32) : va_W :=
  wM Y ad th (nI P) (nI N) (bi ru) (nI mv0) (nI st0) qd (fun d => nI (nf d)) (fun d => nI (gf d)) (fun d => bi (cb d)) (fun k => bi (ba k)) (fun k => nI (fr k)) (fun k => nI (tt k)) lk fa qu nb
def lwS (Y : jy_T) (ad ad2 : Nat → Nat) (ho : Nat) (ws : va_W) : Prop :=
  ∃ (lo0 : Nat → Int64) (P N a b mv0 st0 : Nat) (ru me : Bool) (cb al ba : Nat → Bool) (tr nf gf fr tt : Nat → Nat) (to fa se qu : Nat → Int32) (th qd : Int32) (lk fa2 qu2 nb : Nat → Int32),
    INV P N a b mv0 st0 ru me cb al ba tr nf gf fr tt fa ∧ ws = oC Y ho lo0 :: (lwA Y ad P N a b mv0 ru me cb al tr to fa se qu ++ lwM Y ad2 P N mv0 st0 ru cb ba nf gf fr tt th qd lk fa2 qu2 nb)
theorem lwS_of {Y : jy_T} {ad ad2 : Nat → Nat} {ho : Nat} {lo0 : Nat → Int64} {P N a b mv0 st0 : Nat} {ru me : Bool} {cb al ba : Nat → Bool} {tr nf gf fr tt : Nat → Nat} {to fa se qu : Nat → Int32} {th qd : Int32} {lk fa2 qu2 nb : Nat → Int32} (I : INV P N a b mv0 st0 ru me cb al ba tr nf gf fr tt fa) :
    lwS Y ad ad2 ho ((oC Y ho lo0 :: lwA Y ad P N a b mv0 ru me cb al tr to fa se qu) ++ lwM Y ad2 P N mv0 st0 ru cb ba nf gf fr tt th qd lk fa2 qu2 nb) :=
  ⟨lo0, P, N, a, b, mv0, st0, ru, me, cb, al, ba, tr, nf, gf, fr, tt, to, fa, se, qu, th, qd, lk, fa2, qu2, nb, I, rfl⟩
theorem HI_0 {P N a : Nat} {tr fr tt : Nat → Nat} : HI P N a 0 tr fr tt := fun k hk => absurd hk (Nat.not_lt_zero k)
theorem HI_move {P N a mv0 f t : Nat} {ru : Bool} {cb al : Nat → Bool} {tr fr tt : Nat → Nat} (hP : 0 < P) (ha : a < P ^ N) (hf : f < P) (ht : t < P) (H : HI P N a mv0 tr fr tt) (hps : psB P N ru cb al a f t = true) : HI P N (mv P N a f t) (mv0 + 1) (updN tr mv0 a) (updN fr mv0 f) (updN tt mv0 t) := by
  intro k hk
  by_cases e : k = mv0
  · subst e
    obtain ⟨h1, -, -⟩ := psB_iff.mp hps
    obtain ⟨-, d, hd, -⟩ := ftB_some h1
    rw [updN_s, updN_s, updN_s]
    have hs : sqn (k + 1) (updN tr k a) (mv P N a f t) (k + 1) = mv P N a f t := by unfold sqn; rw [if_neg (by omega)]
    rw [hs]
    refine ⟨hf, ht, d, tp_mv hP ha ht h1 hd, tp_dg hd, fun j hj hjd => ?_⟩
    rw [mv_sd hd, dg_sdN hP ha (tp_lt hd) ht hj hjd]
  · obtain ⟨h1, h2, d, h3, h4, h5⟩ := H k (by omega)
    rw [updN_n e, updN_n e, updN_n e]
    have hs : sqn (mv0 + 1) (updN tr mv0 a) (mv P N a f t) (k + 1) = sqn mv0 tr a (k + 1) := by
      unfold sqn
      rw [if_pos (by omega)]
      by_cases w : k + 1 = mv0
      · rw [w, updN_s, if_neg (by omega)]
      · rw [updN_n w, if_pos (by omega)]
    rw [hs]
    exact ⟨h1, h2, d, h3, h4, h5⟩
theorem HI_back {P N a m : Nat} {tr fr tt : Nat → Nat} (H : HI P N a (m + 1) tr fr tt) : HI P N (tr m) m tr fr tt := by
  intro k hk
  have hs : sqn m tr (tr m) (k + 1) = sqn (m + 1) tr a (k + 1) := by
    unfold sqn
    rw [if_pos (show k + 1 < m + 1 by omega)]
    by_cases w : k + 1 < m
    · rw [if_pos w]
    · rw [if_neg w, show m = k + 1 by omega]
  rw [hs]
  exact H k (by omega)
theorem HI_last {P N a m : Nat} {tr fr tt : Nat → Nat} (H : HI P N a (m + 1) tr fr tt) : fr m < P ∧ tt m < P ∧ ∃ d, tp P N a (tt m) = some d ∧ ∀ j, j < N → updN (dg P a) d (fr m) j = dg P (tr m) j := by
  obtain ⟨h1, h2, d, h3, h4, h5⟩ := H m (by omega)
  have hs : sqn (m + 1) tr a (m + 1) = a := by unfold sqn; rw [if_neg (by omega)]
  rw [hs] at h3 h5
  refine ⟨h1, h2, d, h3, fun j hj => ?_⟩
  by_cases e : j = d
  · rw [e, updN_s]; exact h4.symm
  · rw [updN_n e]; exact (h5 j hj e).symm
theorem bg_t {x y : Int32} {P1 N1 : Nat} (hx : x = nI P1) (hy : y = nI N1) (h : cfg P1 N1) : (rg x 3 5 && rg y 1 6) = true := by
  obtain ⟨h1, h2, h3, h4⟩ := h
  rw [hx, hy]
  unfold rg
  rw [nI_toInt (by omega), nI_toInt (by omega), decide_eq_true (by omega), decide_eq_true (by omega)]; rfl
theorem sp_t {x y : Int32} {d q : Nat} (hx : x = nI d) (hy : y = nI q) (h1 : d ≤ 20) (h2 : 3 ≤ q) (h3 : q ≤ 5) : (rg x 0 20 && rg y 3 5) = true := by
  rw [hx, hy]
  unfold rg
  rw [nI_toInt (by omega), nI_toInt (by omega), decide_eq_true (by omega), decide_eq_true (by omega)]; rfl
theorem in_t {x : Int32} {d N : Nat} (hx : x = nI d) (hd : d < N) (hN : N < 2 ^ 31) : inr x N = true := by rw [hx]; exact inr_lt hd hN
theorem in_2 {x y : Int32} {d t N P : Nat} (hx : x = nI d) (hd : d < N) (hy : y = nI t) (ht : t < P) (hN : N < 2 ^ 31) (hP : P < 2 ^ 31) : (inr x N && inr y P) = true := by rw [in_t hx hd hN, in_t hy ht hP]; rfl
theorem nI_e {x : Int32} {a b n : Nat} (h1 : x = nI a) (h2 : x = nI b) (ha : a < n) (hb : b < n) (hn : n ≤ 2 ^ 31) : b = a := (nI_eq (by omega) (by omega)).mp (h2.symm.trans h1)
theorem i2b_bi (z : Bool) : i2b (bi z) = if z = true then 1 else 0 := by cases z <;> rfl
theorem farOk_no {P N b : Nat} {ru : Bool} {cb al : Nat → Bool} {fa : Nat → Int32} : false = true → farOk P N ru cb al b fa := fun h => absurd h (by decide)
theorem dg0 {P d : Nat} : dg P 0 d = 0 := by unfold dg; rw [Nat.zero_div, Nat.zero_mod]
theorem dg_last {P N d : Nat} (hP : 0 < P) (hd : d < N) : dg P (P ^ N - 1) d = P - 1 := by
  have h : ∀ n, nm P (fun _ => P - 1) n + 1 = P ^ n := by
    intro n
    induction n with
    | zero => rw [nm, Nat.pow_zero]
    | succ n ih =>
      rw [nm, Nat.pow_succ, Nat.mul_comm (P ^ n) P]
      obtain ⟨q, rfl⟩ : ∃ q, P = q + 1 := ⟨P - 1, by omega⟩
      rw [Nat.add_sub_cancel] at ih ⊢
      rw [Nat.succ_mul]
      omega
  have e : P ^ N - 1 = nm P (fun _ => P - 1) N := by have := h N; omega
  rw [e, dg_nm hP (fun q _ => by omega) hd]
theorem INV_fresh {P N : Nat} (hc : cfg P N) {st0 : Nat} {tr fr tt : Nat → Nat} {fa : Nat → Int32} : INV P N 0 (P ^ N - 1) 0 st0 false false (fun _ => false) (fun _ => true) (fun _ => false) tr (fun _ => 0) (fun _ => P - 1) fr tt fa := by
  have hP : 0 < P := by have := hc.1; omega
  have hp : 0 < P ^ N := Nat.pow_pos hP
  exact ⟨hc, hp, by omega, by omega, fun h => absurd h (by decide), fun _ => rfl, fun d _ => dg0.symm, fun d hd => (dg_last hP hd).symm, fun k hk => absurd hk (Nat.not_lt_zero k), fun h => absurd h (Nat.lt_irrefl 0), HI_0⟩
