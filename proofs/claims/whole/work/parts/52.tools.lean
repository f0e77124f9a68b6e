/-! the law's cases: what each needs -/
abbrev rm_L_law : Room := { frames := 10, cells := 601024, slots := 7293034, locals := 350 }
section LT
variable {K : jk_T} {cc : ByteArray} {own : String} {Y : jy_T} {rm : Room} {nL k n pc : Nat} {lo : List (Option Value)} {st : List Value} {ws : va_W}
theorem j_bz (C : jC cc own Y rm nL K) {x : Int32} (h1 : decode cc pc = .ok (.ifCond .eq 7, 3)) (h2 : decode cc (pc + 3) = .ok (.iconst 1, 1)) (h3 : decode cc (pc + 3 + 1) = .ok (.goto 4, 3)) (h4 : decode cc (pc + 7) = .ok (.iconst 0, 1)) (kk : jJ K k n (pc + 8) lo (.int (bi (x != 0)) :: st) ws) : jJ K k n pc lo (.int x :: st) ws := by
  refine j_if_eq C (pc + 7) h1 (by omega) (fun c => ?_) (fun c => ?_)
  · refine j_iconst C (bi (x != 0)) h4 (by subst c; decide) kk
  · refine j_iconst C (bi (x != 0)) h2 (by rw [show (x != 0) = true from by simpa using c]; decide) ?_
    exact j_goto C (pc + 8) h3 (by omega) kk
theorem j_bl (C : jC cc own Y rm nL K) {x : Int32} (h1 : decode cc pc = .ok (.ifCond .eq 7, 3)) (h2 : decode cc (pc + 3) = .ok (.lconst 1, 1)) (h3 : decode cc (pc + 3 + 1) = .ok (.goto 4, 3)) (h4 : decode cc (pc + 7) = .ok (.lconst 0, 1)) (kk : jJ K k n (pc + 8) lo (.long (i2b x) :: st) ws) : jJ K k n pc lo (.int x :: st) ws := by
  refine j_if_eq C (pc + 7) h1 (by omega) (fun c => ?_) (fun c => ?_)
  · refine j_lconst C (i2b x) h4 (by unfold i2b; rw [if_pos c]; rfl) kk
  · refine j_lconst C (i2b x) h2 (by unfold i2b; rw [if_neg c]; rfl) ?_
    exact j_goto C (pc + 8) h3 (by omega) kk
end LT
abbrev lwL (ad ad2 : Nat → Nat) (ho b i : Nat) (l5 l6 : Option Value) : List (Option Value) := [some (.ref b), some (.ref (ad 0)), some (.ref (ad2 0)), some (.ref ho), some (.int (nI i)), l5, l6]
def lwK (K : jk_T) (Y : jy_T) (b L : Nat) (xs : Nat → Int32) (i k n : Nat) : Prop :=
  jC cL_law RL Y rm_L_law 7 K ∧ jX K ∧ K.1.2.1.stackTraces = false ∧ va_X b L xs K.1.2.2.2.2 K.1.2.2.2.2.heap ∧ b < K.1.2.2.2.2.heap.size ∧ ¬ K.2.2.1.1 b ∧ L < 2 ^ 31 ∧ i + 4 ≤ L ∧ k + 1 ≤ 601024 ∧ n + 6 ≤ 7293034
def lwN (K : jk_T) (Y : jy_T) (ad ad2 : Nat → Nat) (ho b i k n : Nat) : Prop := ∀ (ws : va_W) (l5 l6 : Option Value), lwS Y ad ad2 ho ws → jJ K (k + 1) (n + 6) 1149 (lwL ad ad2 ho b i l5 l6) [] ws
theorem lw_dd {P N a mv0 : Nat} {tr fr tt : Nat → Nat} (H : HI P N a mv0 tr fr tt) : ∃ dd, (0 < mv0 → tp P N a (tt (mv0 - 1)) = some dd) ∧ (0 < mv0 → tt (mv0 - 1) < P) ∧ (0 < mv0 → ∀ j, j < N → updN (dg P a) dd (fr (mv0 - 1)) j = dg P (tr (mv0 - 1)) j) := by
  by_cases h : 0 < mv0
  · obtain ⟨m, rfl⟩ : ∃ m, mv0 = m + 1 := ⟨mv0 - 1, by omega⟩
    obtain ⟨-, h2, d, h3, h4⟩ := HI_last H
    exact ⟨d, fun _ => h3, fun _ => h2, fun _ => h4⟩
  · exact ⟨0, fun q => absurd q h, fun q => absurd q h, fun q => absurd q h⟩
theorem lw_al {al ba : Nat → Bool} (h : ∀ k, ba k = !al k) : (fun k => !ba k) = al := funext fun k => by rw [h, Bool.not_not]
theorem lw_nb {P N a f t : Nat} {ru : Bool} {cb al ba : Nat → Bool} (h : ∀ k, ba k = !al k) : (nbM P N ru cb ba a f t).isSome = psB P N ru cb al a f t := by
  unfold nbM
  rw [lw_al h]
  cases psB P N ru cb al a f t <;> rfl
theorem lw_ba {al ba : Nat → Bool} {q : Nat} {z : Bool} (h : ∀ k, ba k = !al k) : ∀ k, va_up ba q (!z) k = !va_up al q z k := by
  intro k
  unfold va_up
  split
  · rfl
  · exact h k
theorem lw_st {a mv0 st0 : Nat} {tr : Nat → Nat} (h : 0 < mv0 → st0 = tr 0) : stM mv0 st0 a = stA mv0 tr a := by
  unfold stM stA
  by_cases q : mv0 = 0
  · rw [if_pos q, if_neg (by omega)]
  · rw [if_neg q, if_pos (by omega), h (by omega)]
theorem INV_put {P N a b mv0 st0 d t : Nat} {ru me : Bool} {cb al ba : Nat → Bool} {tr nf gf fr tt : Nat → Nat} {fa : Nat → Int32} (I : INV P N a b mv0 st0 ru me cb al ba tr nf gf fr tt fa) (hd : d < N) (ht : t < P) (hz : mv0 = 0) : INV P N (sd P a d t) b mv0 st0 ru me cb al ba tr (updN nf d t) gf fr tt fa := by
  obtain ⟨hc, ha, hb, hm0, hme, hba, hnf, hgf, htr, hst, hH⟩ := I
  have hP0 : 0 < P := by have := hc.1; omega
  refine ⟨hc, sd_lt hP0 ha hd ht, hb, hm0, hme, hba, fun j hj => ?_, hgf, htr, hst, fun k hk => absurd hk (by omega)⟩
  rw [dg_sd hP0 ha hd ht hj]
  unfold updN
  split
  · rfl
  · exact hnf j hj
theorem INV_aim {P N a b mv0 st0 d t : Nat} {ru me : Bool} {cb al ba : Nat → Bool} {tr nf gf fr tt : Nat → Nat} {fa : Nat → Int32} (I : INV P N a b mv0 st0 ru me cb al ba tr nf gf fr tt fa) (hd : d < N) (ht : t < P) : INV P N a (sd P b d t) mv0 st0 ru false cb al ba tr nf (updN gf d t) fr tt fa := by
  obtain ⟨hc, ha, hb, hm0, hme, hba, hnf, hgf, htr, hst, hH⟩ := I
  have hP0 : 0 < P := by have := hc.1; omega
  refine ⟨hc, ha, sd_lt hP0 hb hd ht, hm0, fun h => absurd h (by decide), hba, hnf, fun j hj => ?_, htr, hst, hH⟩
  rw [dg_sd hP0 hb hd ht hj]
  unfold updN
  split
  · rfl
  · exact hgf j hj
theorem INV_allow {P N a b mv0 st0 q : Nat} {ru me z : Bool} {cb al ba : Nat → Bool} {tr nf gf fr tt : Nat → Nat} {fa : Nat → Int32} (I : INV P N a b mv0 st0 ru me cb al ba tr nf gf fr tt fa) : INV P N a b mv0 st0 ru false cb (va_up al q z) (va_up ba q (!z)) tr nf gf fr tt fa := by
  obtain ⟨hc, ha, hb, hm0, hme, hba, hnf, hgf, htr, hst, hH⟩ := I
  exact ⟨hc, ha, hb, hm0, fun h => absurd h (by decide), lw_ba hba, hnf, hgf, htr, hst, hH⟩
theorem INV_rule {P N a b mv0 st0 : Nat} {ru me ru2 : Bool} {cb cb2 al ba : Nat → Bool} {tr nf gf fr tt : Nat → Nat} {fa : Nat → Int32} (I : INV P N a b mv0 st0 ru me cb al ba tr nf gf fr tt fa) : INV P N a b mv0 st0 ru2 false cb2 al ba tr nf gf fr tt fa := by
  obtain ⟨hc, ha, hb, hm0, hme, hba, hnf, hgf, htr, hst, hH⟩ := I
  exact ⟨hc, ha, hb, hm0, fun h => absurd h (by decide), hba, hnf, hgf, htr, hst, hH⟩
theorem INV_lay {P N a b mv0 st0 : Nat} {ru me : Bool} {cb al ba : Nat → Bool} {tr nf gf fr tt : Nat → Nat} {fa : Nat → Int32} (I : INV P N a b mv0 st0 ru me cb al ba tr nf gf fr tt fa) : INV P N a b 0 st0 ru me cb al ba tr nf gf fr tt fa := by
  obtain ⟨hc, ha, hb, hm0, hme, hba, hnf, hgf, htr, hst, hH⟩ := I
  exact ⟨hc, ha, hb, by omega, hme, hba, hnf, hgf, fun k hk => absurd hk (Nat.not_lt_zero k), fun h => absurd h (Nat.lt_irrefl 0), HI_0⟩
theorem INV_far {P N a b mv0 st0 : Nat} {ru me : Bool} {cb al ba : Nat → Bool} {tr nf gf fr tt : Nat → Nat} {fa fa1 : Nat → Int32} (I : INV P N a b mv0 st0 ru me cb al ba tr nf gf fr tt fa) (h : farOk P N ru cb al b fa1) : INV P N a b mv0 st0 ru true cb al ba tr nf gf fr tt fa1 := by
  obtain ⟨hc, ha, hb, hm0, hme, hba, hnf, hgf, htr, hst, hH⟩ := I
  exact ⟨hc, ha, hb, hm0, fun _ => h, hba, hnf, hgf, htr, hst, hH⟩
theorem INV_move {P N a b mv0 st0 f t d : Nat} {ru me : Bool} {cb al ba : Nat → Bool} {tr nf gf fr tt : Nat → Nat} {fa : Nat → Int32} (I : INV P N a b mv0 st0 ru me cb al ba tr nf gf fr tt fa) (hf : f < P) (ht : t < P) (hm : mv0 < 500) (hps : psB P N ru cb al a f t = true) (hd : tp P N a f = some d) : INV P N (mv P N a f t) b (mv0 + 1) (if mv0 = 0 then a else st0) ru me cb al ba (updN tr mv0 a) (updN nf d t) gf (updN fr mv0 f) (updN tt mv0 t) fa := by
  obtain ⟨hc, ha, hb, hm0, hme, hba, hnf, hgf, htr, hst, hH⟩ := I
  have hP0 : 0 < P := by have := hc.1; omega
  refine ⟨hc, mv_lt hP0 ha ht, hb, hm, hme, hba, fun j hj => ?_, hgf, fun k hk => ?_, fun _ => ?_, HI_move hP0 ha hf ht hH hps⟩
  · rw [mv_sd hd, dg_sd hP0 ha (tp_lt hd) ht hj]
    unfold updN
    split
    · rfl
    · exact hnf j hj
  · by_cases e : k = mv0
    · rw [e, updN_s]; exact ha
    · rw [updN_n e]; exact htr k (by omega)
  · by_cases e : mv0 = 0
    · rw [if_pos e]; subst e; exact updN_s.symm
    · rw [if_neg e, updN_n (by omega)]; exact hst (by omega)
theorem INV_back {P N a b mv0 st0 dd : Nat} {ru me : Bool} {cb al ba : Nat → Bool} {tr nf gf fr tt : Nat → Nat} {fa : Nat → Int32} (I : INV P N a b mv0 st0 ru me cb al ba tr nf gf fr tt fa) (hp : 0 < mv0) (hk : ∀ j, j < N → updN (dg P a) dd (fr (mv0 - 1)) j = dg P (tr (mv0 - 1)) j) : INV P N (tr (mv0 - 1)) b (mv0 - 1) st0 ru me cb al ba tr (updN nf dd (fr (mv0 - 1))) gf fr tt fa := by
  obtain ⟨hc, ha, hb, hm0, hme, hba, hnf, hgf, htr, hst, hH⟩ := I
  refine ⟨hc, htr _ (by omega), hb, by omega, hme, hba, fun j hj => ?_, hgf, fun k hk => htr k (by omega), fun h => hst hp, HI_back (m := mv0 - 1) (a := a) (by rw [Nat.sub_add_cancel hp]; exact hH)⟩
  rw [← hk j hj]
  by_cases e : j = dd
  · rw [e, updN_s, updN_s]
  · rw [updN_n e, updN_n e, hnf j hj]
