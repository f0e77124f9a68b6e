/-! a bench: its state, its world, what its calls do -/
abbrev sT : Type := Nat × Nat × Nat × Nat × Nat × Bool × (Nat → Bool) × (Nat → Bool) × (Nat → Nat)
abbrev sP (s : sT) : Nat := s.1
abbrev sN (s : sT) : Nat := s.2.1
abbrev sA (s : sT) : Nat := s.2.2.1
abbrev sB (s : sT) : Nat := s.2.2.2.1
abbrev sM (s : sT) : Nat := s.2.2.2.2.1
abbrev sRu (s : sT) : Bool := s.2.2.2.2.2.1
abbrev sCb (s : sT) : Nat → Bool := s.2.2.2.2.2.2.1
abbrev sAl (s : sT) : Nat → Bool := s.2.2.2.2.2.2.2.1
abbrev sTr (s : sT) : Nat → Nat := s.2.2.2.2.2.2.2.2
def GD (s : sT) : Prop := cfg (sP s) (sN s) ∧ sA s < sP s ^ sN s ∧ sB s < sP s ^ sN s ∧ sM s ≤ 500 ∧ ∀ k, k < sM s → sTr s k < sP s ^ sN s
def bw (Y : jy_T) (ad : Nat → Nat) (s : sT) (tr : Nat → Nat) (me : Bool) (to fa se qu : Nat → Int32) : va_W :=
  wA Y ad (nI (sP s)) (nI (sN s)) (bi (sRu s)) (nI (sA s)) (nI (sB s)) (nI (sM s)) (bi me) (fun d => nI (sP s ^ d)) (fun d => bi (sCb s d)) (fun k => bi (sAl s k)) (fun k => nI (tr k)) to fa se qu (fun i => nI (spT i))
/-- what a bench holds beside its state: the rows of the search, and old moves -/
def Hd (s : sT) (tr : Nat → Nat) (me : Bool) (fa : Nat → Int32) : Prop :=
  (me = true → farOk (sP s) (sN s) (sRu s) (sCb s) (sAl s) (sB s) fa) ∧ ∀ k, k < sM s → tr k = sTr s k
def Bw (Y : jy_T) (ad : Nat → Nat) (s : sT) (w : va_W) : Prop := ∃ (tr : Nat → Nat) (me : Bool) (to fa se qu : Nat → Int32), Hd s tr me fa ∧ w = bw Y ad s tr me to fa se qu
theorem Bw.of {Y : jy_T} {ad : Nat → Nat} {s : sT} {tr : Nat → Nat} {me : Bool} {to fa se qu : Nat → Int32} (H : Hd s tr me fa) : Bw Y ad s (bw Y ad s tr me to fa se qu) := ⟨tr, me, to, fa, se, qu, H, rfl⟩
def WY (s : sT) (ds : Nat → Option Nat) : Prop := srD (sP s ^ sN s) (sP s) (nbC (sP s) (sN s) (sRu s) (sCb s) (sAl s) true) (sB s) (lawB (sP s) (sN s) (sRu s) (sCb s) (sB s)) ds
def RC (s : sT) (fo : Nat) : Prop := ∃ ds, srF (sP s ^ sN s) (sP s) (nbC (sP s) (sN s) (sRu s) (sCb s) (sAl s) false) (sA s) (lawB (sP s) (sN s) (sRu s) (sCb s) (sA s)) fo ds
def sPs (s : sT) (f t : Nat) : Bool := psB (sP s) (sN s) (sRu s) (sCb s) (sAl s) (sA s) f t
def sLw (s : sT) : Bool := lawB (sP s) (sN s) (sRu s) (sCb s) (sA s)
def sTp (s : sT) (g : Nat) : Option Nat := tp (sP s) (sN s) (sA s) g
def sDg (s : sT) (d : Nat) : Nat := dg (sP s) (sA s) d
def sMv (s : sT) (f t : Nat) : sT := (sP s, sN s, mv (sP s) (sN s) (sA s) f t, sB s, sM s + 1, sRu s, sCb s, sAl s, updN (sTr s) (sM s) (sA s))
def sBk (s : sT) : sT := (sP s, sN s, sTr s (sM s - 1), sB s, sM s - 1, sRu s, sCb s, sAl s, sTr s)
theorem GD.P0 {s : sT} (G : GD s) : 0 < sP s := by have := G.1.1; omega
theorem GD.P5 {s : sT} (G : GD s) : sP s ≤ 5 := G.1.2.1
theorem GD.N6 {s : sT} (G : GD s) : sN s ≤ 6 := G.1.2.2.2
theorem GD.M {s : sT} (G : GD s) : sP s ^ sN s ≤ 15625 := cfg_pw G.1 G.N6
theorem GD.mv {s : sT} {f t : Nat} (G : GD s) (ht : t < sP s) (hm : sM s < 500) : GD (sMv s f t) := by
  obtain ⟨h1, h2, h3, h4, h5⟩ := id G
  refine ⟨h1, mv_lt G.P0 h2 ht, h3, hm, fun k hk => ?_⟩
  show updN (sTr s) (sM s) (sA s) k < _
  by_cases e : k = sM s
  · rw [e, updN_s]; exact h2
  · rw [updN_n e]; exact h5 k (by have : k < sM s + 1 := hk; omega)
theorem GD.bk {s : sT} (G : GD s) (hm : 0 < sM s) : GD (sBk s) := by
  obtain ⟨h1, h2, h3, h4, h5⟩ := id G
  exact ⟨h1, h5 _ (by omega), h3, (by show sM s - 1 ≤ 500; omega), fun k hk => h5 k (by have : k < sM s - 1 := hk; omega)⟩
/-- a move taken back -/
theorem Bw.back {Y : jy_T} {ad : Nat → Nat} {s : sT} {f t : Nat} {w : va_W} (h : Bw Y ad (sBk (sMv s f t)) w) : Bw Y ad s w := by
  obtain ⟨tr, me, to, fa, se, qu, H, rfl⟩ := h
  refine ⟨tr, me, to, fa, se, qu, ⟨H.1, fun k hk => ?_⟩, ?_⟩
  · have h2 := H.2 k (show k < sM s + 1 - 1 by omega)
    rw [h2]
    exact updN_n (by omega)
  · show bw Y ad (sP s, sN s, updN (sTr s) (sM s) (sA s) (sM s + 1 - 1), sB s, sM s + 1 - 1, sRu s, sCb s, sAl s, _) tr me to fa se qu = _
    rw [Nat.add_sub_cancel, updN_s]; rfl
theorem stA_eq {s : sT} {tr : Nat → Nat} (h : ∀ k, k < sM s → tr k = sTr s k) : stA (sM s) tr (sA s) = stA (sM s) (sTr s) (sA s) := by
  unfold stA
  split
  · rw [h 0 (by assumption)]
  · rfl
/-- the start stays by a move -/
theorem stA_mv {s : sT} {f t : Nat} : stA (sM (sMv s f t)) (sTr (sMv s f t)) (sA (sMv s f t)) = stA (sM s) (sTr s) (sA s) := by
  show (if 0 < sM s + 1 then updN (sTr s) (sM s) (sA s) 0 else _) = (if 0 < sM s then sTr s 0 else sA s)
  rw [if_pos (by omega)]
  by_cases e : sM s = 0
  · rw [if_neg (by omega), e, updN_s]
  · rw [if_pos (by omega), updN_n (by omega)]
theorem nIj {i j n : Nat} (h : nI i = nI j) (hi : i < n) (hj : j < n) (hn : n ≤ 2 ^ 31) : j = i := ((nI_eq (by omega) (by omega)).mp h).symm
theorem in2_no {P N i j : Nat} (hi : i < N) (hj : j < P) (hN : N < 2 ^ 31) (hP : P < 2 ^ 31) (h : (inr (nI i) N && inr (nI j) P) = false) : False := by
  rw [inr_lt hi hN, inr_lt hj hP] at h; cases h
section BZ
variable {l : Launch} {D : va_G} {Y : jy_T} {ad : Nat → Nat} {s : sT} {tr : Nat → Nat} {me : Bool} {to fa se qu : Nat → Int32}
theorem bz_pegs : MZ l yX0_pegs cX0_pegs 1 (some .int) rm_X0_pegs D Y [.ref (ad 0)] (bw Y ad s tr me to fa se qu) (jI (fun r w => r = nI (sP s) ∧ w = bw Y ad s tr me to fa se qu)) :=
  MZ.ofJ (fun _ _ h => h) ct_X0_pegs
theorem bz_disks : MZ l yX0_disks cX0_disks 1 (some .int) rm_X0_disks D Y [.ref (ad 0)] (bw Y ad s tr me to fa se qu) (jI (fun r w => r = nI (sN s) ∧ w = bw Y ad s tr me to fa se qu)) :=
  MZ.ofJ (fun _ _ h => h) ct_X0_disks
theorem bz_moves : MZ l yX0_moves cX0_moves 1 (some .int) rm_X0_moves D Y [.ref (ad 0)] (bw Y ad s tr me to fa se qu) (jI (fun r w => r = nI (sM s) ∧ w = bw Y ad s tr me to fa se qu)) :=
  MZ.ofJ (fun _ _ h => h) ct_X0_moves
theorem bz_arrangement : MZ l yX0_arrangement cX0_arrangement 1 (some .int) rm_X0_arrangement D Y [.ref (ad 0)] (bw Y ad s tr me to fa se qu) (jI (fun r w => r = nI (sA s) ∧ w = bw Y ad s tr me to fa se qu)) :=
  MZ.ofJ (fun _ _ h => h) ct_X0_arrangement
theorem bz_goal : MZ l yX0_goal cX0_goal 1 (some .int) rm_X0_goal D Y [.ref (ad 0)] (bw Y ad s tr me to fa se qu) (jI (fun r w => r = nI (sB s) ∧ w = bw Y ad s tr me to fa se qu)) :=
  MZ.ofJ (fun _ _ h => h) ct_X0_goal
theorem bz_isLawful (G : GD s) : MZ l yX0_isLawful cX0_isLawful 1 (some .boolean) rm_X0_isLawful D Y [.ref (ad 0)] (bw Y ad s tr me to fa se qu) (jI (fun r w => r = bi (sLw s) ∧ w = bw Y ad s tr me to fa se qu)) :=
  MZ.ofJ (fun _ _ h => h) (ct_X0_isLawful G.1 G.2.1)
theorem bz_way (G : GD s) (H : Hd s tr me fa) : MZ l yX0_way cX0_way 1 (some .int) rm_X0_way D Y [.ref (ad 0)] (bw Y ad s tr me to fa se qu) (jI (fun r w => ∃ ds, WY s ds ∧ r = oI (ds (sA s)) ∧ Bw Y ad s w)) :=
  MZ.ofJ (fun r w h => by
    obtain ⟨x, rfl, ds1, fa1, qu1, to1, rfl, h1, h2, rfl⟩ := h
    exact ⟨_, rfl, ds1, h1, rfl, tr, true, to1, fa1, se, qu1, ⟨fun _ => ⟨ds1, h1, h2⟩, H.2⟩, rfl⟩) (ct_X0_way G.1 G.2.1 G.2.2.1 H.1)
theorem bz_next (G : GD s) (H : Hd s tr me fa) : MZ l yX0_next cX0_next 4 (some .int) rm_X0_next D Y [.ref (ad 0)] (bw Y ad s tr me to fa se qu) (jI (fun r w => ∃ ds, WY s ds ∧ r = nxC (sP s) (sN s) (sRu s) (sCb s) (sAl s) ds (sA s) ∧ Bw Y ad s w)) :=
  MZ.ofJ (fun r w h => by
    obtain ⟨x, rfl, ds1, fa1, qu1, to1, rfl, h1, h2, rfl⟩ := h
    exact ⟨_, rfl, ds1, h1, rfl, tr, true, to1, fa1, se, qu1, ⟨fun _ => ⟨ds1, h1, h2⟩, H.2⟩, rfl⟩) (ct_X0_next G.1 G.2.1 G.2.2.1 H.1)
theorem bz_reachable (G : GD s) (H : Hd s tr me fa) : MZ l yX0_reachable cX0_reachable 1 (some .int) rm_X0_reachable D Y [.ref (ad 0)] (bw Y ad s tr me to fa se qu) (jI (fun r w => ∃ fo, RC s fo ∧ r = nI fo ∧ Bw Y ad s w)) :=
  MZ.ofJ (fun r w h => by
    obtain ⟨x, rfl, fo1, ds1, s1, qu1, to1, rfl, h1, rfl⟩ := h
    exact ⟨_, rfl, fo1, ⟨ds1, h1⟩, rfl, tr, me, to1, fa, s1, qu1, H, rfl⟩) (ct_X0_reachable G.1 G.2.1)
theorem bz_pegOf (G : GD s) (hl : l.stackTraces = false) {d : Nat} (hd : d < sN s) : MZ l yX0_pegOf cX0_pegOf 2 (some .int) rm_X0_pegOf D Y [.ref (ad 0), .int (nI d)] (bw Y ad s tr me to fa se qu) (jI (fun r w => r = nI (sDg s d) ∧ w = bw Y ad s tr me to fa se qu)) :=
  MZ.ofX (fun r w h => by
    obtain ⟨x, rfl, d2, e, hd2, rfl, rfl⟩ := h
    have := nIj (n := 10) e (by have := G.N6; omega) (by have := G.N6; omega) (by decide)
    subst this
    exact ⟨_, rfl, rfl, rfl⟩) (fun E w h => by
    have h2 := h.2.1
    rw [inr_lt hd (by have := G.N6; omega)] at h2; cases h2) (ct_X0_pegOf G.1 G.2.1 G.2.2.1 hl)
theorem bz_top (G : GD s) (H : Hd s tr me fa) (hl : l.stackTraces = false) {g : Nat} (hg : g < sP s) : MZ l yX0_top cX0_top 2 (some .int) rm_X0_top D Y [.ref (ad 0), .int (nI g)] (bw Y ad s tr me to fa se qu) (jI (fun r w => r = oI (sTp s g) ∧ Bw Y ad s w)) :=
  MZ.ofX (fun r w h => by
    obtain ⟨x, rfl, g2, to1, e, hg2, rfl, rfl⟩ := h
    have := nIj (n := 10) e (by have := G.P5; omega) (by have := G.P5; omega) (by decide)
    subst this
    exact ⟨_, rfl, rfl, tr, me, to1, fa, se, qu, H, rfl⟩) (fun E w h => by
    have h2 := h.2.1
    rw [inr_lt hg (by have := G.P5; omega)] at h2; cases h2) (ct_X0_top G.1 G.2.1 G.2.2.1 hl)
theorem bz_canMove (G : GD s) (H : Hd s tr me fa) (hl : l.stackTraces = false) {f t : Nat} (hf : f < sP s) (ht : t < sP s) : MZ l yX0_canMove cX0_canMove 3 (some .boolean) rm_X0_canMove D Y [.ref (ad 0), .int (nI f), .int (nI t)] (bw Y ad s tr me to fa se qu) (jI (fun r w => r = bi (sPs s f t) ∧ Bw Y ad s w)) :=
  MZ.ofX (fun r w h => by
    obtain ⟨x, rfl, f2, t2, to1, e1, hf2, e2, ht2, rfl, rfl⟩ := h
    have := G.P5
    have q1 := nIj (n := 10) e1 (by omega) (by omega) (by decide)
    have q2 := nIj (n := 10) e2 (by omega) (by omega) (by decide)
    subst q1; subst q2
    exact ⟨_, rfl, rfl, tr, me, to1, fa, se, qu, H, rfl⟩) (fun E w h => in2_no hf ht (by have := G.P5; omega) (by have := G.P5; omega) h.2.1) (ct_X0_canMove G.1 G.2.1 G.2.2.1 hl)
theorem bz_move (G : GD s) (H : Hd s tr me fa) (hl : l.stackTraces = false) {f t : Nat} (hf : f < sP s) (ht : t < sP s) (hm : sM s < 500) (hps : sPs s f t = true) : MZ l yX0_move cX0_move 4 (some .int) rm_X0_move D Y [.ref (ad 0), .int (nI f), .int (nI t)] (bw Y ad s tr me to fa se qu) (jI (fun r w => (∃ d, d < 6 ∧ r = nI d) ∧ Bw Y ad (sMv s f t) w)) :=
  MZ.ofX (fun r w h => by
    obtain ⟨x, rfl, f2, t2, d, to1, e1, hf2, e2, ht2, -, -, h4, rfl, rfl⟩ := h
    have := G.P5
    have q1 := nIj (n := 10) e1 (by omega) (by omega) (by decide)
    have q2 := nIj (n := 10) e2 (by omega) (by omega) (by decide)
    subst q1; subst q2
    refine ⟨_, rfl, ⟨d, by have := tp_lt h4; have := G.N6; omega, rfl⟩, updN tr (sM s) (sA s), me, to1, fa, se, qu, ⟨H.1, fun k hk => ?_⟩, rfl⟩
    show updN tr (sM s) (sA s) k = updN (sTr s) (sM s) (sA s) k
    by_cases e : k = sM s
    · rw [e, updN_s, updN_s]
    · rw [updN_n e, updN_n e]; exact H.2 k (by have : k < sM s + 1 := hk; omega)) (fun E w h => by
    have := G.P5
    rcases h with ⟨-, h, -⟩ | ⟨-, f2, t2, to1, e1, hf2, e2, ht2, h, -⟩
    · exact in2_no hf ht (by omega) (by omega) h
    · have q1 := nIj (n := 10) e1 (by omega) (by omega) (by decide)
      have q2 := nIj (n := 10) e2 (by omega) (by omega) (by decide)
      subst q1; subst q2
      rcases h with h | h
      · exact absurd h (by omega)
      · have hps : psB (sP s) (sN s) (sRu s) (sCb s) (sAl s) (sA s) f2 t2 = true := hps
        rw [h] at hps; cases hps) (ct_X0_move G.1 G.2.1 G.2.2.1 G.2.2.2.1 hl)
theorem bz_takeBack (G : GD s) (H : Hd s tr me fa) (hl : l.stackTraces = false) (hm : 0 < sM s) : MZ l yX0_takeBack cX0_takeBack 1 (some .int) rm_X0_takeBack D Y [.ref (ad 0)] (bw Y ad s tr me to fa se qu) (jI (fun r w => r = nI (sM s - 1) ∧ Bw Y ad (sBk s) w)) :=
  MZ.ofX (fun r w h => by
    obtain ⟨x, rfl, -, rfl, rfl⟩ := h
    refine ⟨_, rfl, rfl, tr, me, to, fa, se, qu, ⟨H.1, fun k hk => H.2 k (by have : k < sM s - 1 := hk; omega)⟩, ?_⟩
    show _ = bw Y ad (sP s, sN s, sTr s (sM s - 1), sB s, sM s - 1, sRu s, sCb s, sAl s, sTr s) tr me to fa se qu
    rw [← H.2 (sM s - 1) (by omega)]; rfl) (fun E w h => absurd h.2.1 (by omega)) (ct_X0_takeBack G.1 G.2.1 G.2.2.1 G.2.2.2.1 hl)
/-- the way, and lost, and disk by disk, as the law's own methods tell them -/
theorem bz_lost (G : GD s) (H : Hd s tr me fa) (hl : l.stackTraces = false) : MW l yL_lost cL_lost 2 (some .int) [(0, 4, 5, 22)] rm_L_lost D Y [.ref (ad 0)] (bw Y ad s tr me to fa se qu) (jI (fun r w => (r = -99999 ∨ ∃ ds, WY s ds ∧ ds (sA s) ≠ none ∧ r = nI (sM s) + oI (ds (sA s)) - oI (ds (stA (sM s) (sTr s) (sA s)))) ∧ Bw Y ad s w)) := by
  refine MW.mono (fun r w h => ?_) (ct_L_lost (ct_X0_lost (tr := tr) G.1 G.2.1 G.2.2.1 H.1 G.2.2.2.1 (fun k hk => by rw [H.2 k hk]; exact G.2.2.2.2 k hk) hl) (fun E w h => h.1))
  obtain ⟨x, rfl, h⟩ := h
  rcases h with ⟨v, rfl, ds1, fa1, qu1, to1, h1, h2, h3, -, rfl, rfl⟩ | ⟨E, rfl, -, ds1, fa1, qu1, to1, h1, h2, -, rfl⟩
  · refine ⟨_, rfl, Or.inr ⟨ds1, h1, h3, by rw [stA_eq H.2]⟩, tr, true, to1, fa1, se, qu1, ⟨fun _ => ⟨ds1, h1, h2⟩, H.2⟩, rfl⟩
  · exact ⟨_, rfl, Or.inl rfl, tr, true, to1, fa1, se, qu1, ⟨fun _ => ⟨ds1, h1, h2⟩, H.2⟩, rfl⟩
theorem bz_wayByDisks (G : GD s) (hl : l.stackTraces = false) : MW l yL_wayByDisks cL_wayByDisks 2 (some .int) [(0, 4, 5, 22)] rm_L_wayByDisks D Y [.ref (ad 0)] (bw Y ad s tr me to fa se qu) (jI (fun r w => (r = -1 ∨ (sP s = 3 ∧ sRu s = false ∧ alB (sAl s) 0 25 = true ∧ r = nI (wbV (dg 3 (sA s)) (dg 3 (sB s)) (sN s)))) ∧ w = bw Y ad s tr me to fa se qu)) := by
  refine MW.mono (fun r w h => ?_) (ct_L_wayByDisks (ct_X0_wayByDisks G.1 G.2.1 G.2.2.1 hl) (fun E w h => h.1))
  obtain ⟨x, rfl, h⟩ := h
  rcases h with ⟨v, rfl, h1, h2, h3, h4, rfl⟩ | ⟨E, rfl, -, -, rfl⟩
  · exact ⟨_, rfl, Or.inr ⟨h1, h2, h3, h4⟩, rfl⟩
  · exact ⟨_, rfl, Or.inl rfl, rfl⟩
end BZ
