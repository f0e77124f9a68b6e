/-! what the law's acts do -/
def tN (x : Int32) : Nat := x.toInt.toNat
theorem tN_nI {j : Nat} (h : j < 2 ^ 31) : tN (nI j) = j := by unfold tN; rw [nI_toInt h]; omega
def rv : Option (Nat × sT) → Int32
  | none => -99999
  | some q => nI q.1
def rs (s : sT) : Option (Nat × sT) → sT
  | none => s
  | some q => q.2
def b2 (b : Bool) : Nat := if b then 1 else 0
theorem b2_bi (b : Bool) : nI (b2 b) = bi b := by cases b <;> rfl
theorem b2_if (b : Bool) : (if bi b = 0 then nI 0 else nI 1) = nI (b2 b) := by cases b <;> decide
def okA (s : sT) (o : Option (Nat × sT)) : Prop := ∀ q, o = some q → q.1 < 100000 ∧ GD q.2
theorem okA_none {s : sT} : okA s none := fun q h => by cases h
theorem okA_some {s s2 : sT} {v : Nat} (h1 : v < 100000) (h2 : GD s2) : okA s (some (v, s2)) := fun q h => by cases h; exact ⟨h1, h2⟩
def acBegin (s : sT) (x y : Int32) : Option (Nat × sT) :=
  if (rg x 3 5 && rg y 1 6) = true then some (tN x ^ tN y, (tN x, tN y, 0, tN x ^ tN y - 1, 0, false, (fun _ => false), (fun _ => true), sTr s)) else none
def acPut (s : sT) (x y : Int32) : Option (Nat × sT) :=
  if (inr x (sN s) && inr y (sP s)) = true ∧ sM s = 0 then some (dg (sP s) (sA s) (tN x), (sP s, sN s, sd (sP s) (sA s) (tN x) (tN y), sB s, sM s, sRu s, sCb s, sAl s, sTr s)) else none
def acAim (s : sT) (x y : Int32) : Option (Nat × sT) :=
  if (inr x (sN s) && inr y (sP s)) = true then some (dg (sP s) (sB s) (tN x), (sP s, sN s, sA s, sd (sP s) (sB s) (tN x) (tN y), sM s, sRu s, sCb s, sAl s, sTr s)) else none
def acAllow (s : sT) (x y : Int32) (z : Bool) : Option (Nat × sT) :=
  if (inr x (sP s) && inr y (sP s)) = true ∧ ¬ x = y then some (b2 (sAl s (tN x * 5 + tN y)), (sP s, sN s, sA s, sB s, sM s, sRu s, sCb s, va_up (sAl s) (tN x * 5 + tN y) z, sTr s)) else none
def acColour (s : sT) (x y : Int32) : Option (Nat × sT) :=
  if inr x (sN s) = true ∧ rg y 0 1 = true then some (b2 (sCb s (tN x)), (sP s, sN s, sA s, sB s, sM s, sRu s, va_up (sCb s) (tN x) (decide (y = 1)), sAl s, sTr s)) else none
def acRule (s : sT) (on : Bool) : Option (Nat × sT) := some (b2 (sRu s), (sP s, sN s, sA s, sB s, sM s, on, sCb s, sAl s, sTr s))
def acLay (s : sT) : Option (Nat × sT) := some (sM s, (sP s, sN s, sA s, sB s, 0, sRu s, sCb s, sAl s, sTr s))
def acBack (s : sT) : Option (Nat × sT) := if 0 < sM s then some (sM s - 1, sBk s) else none
def acMove (s : sT) (x y : Int32) : Option (Nat × sT) :=
  if ((inr x (sP s) && inr y (sP s)) = true ∧ sM s < 500) ∧ sPs s (tN x) (tN y) = true then some ((sTp s (tN x)).getD 0, sMv s (tN x) (tN y)) else none
section OK
variable {s : sT}
theorem ok_begin {x y : Int32} : okA s (acBegin s x y) := by
  unfold acBegin
  split
  · rename_i h
    rw [Bool.and_eq_true] at h
    obtain ⟨P1, a1, a2, rfl⟩ := rg_of (by omega) h.1
    obtain ⟨N1, a3, a4, rfl⟩ := rg_of (by omega) h.2
    rw [tN_nI (by omega), tN_nI (by omega)]
    have hc : cfg P1 N1 := ⟨a1, a2, a3, a4⟩
    have h1 := cfg_pw hc a4
    have h2 := cfg_pos (d := N1) hc
    exact okA_some (by omega) ⟨hc, h2, by show P1 ^ N1 - 1 < P1 ^ N1; omega, by show 0 ≤ 500; omega, fun k hk => absurd (show k < 0 from hk) (Nat.not_lt_zero k)⟩
  · exact okA_none
theorem ok_put (G : GD s) {x y : Int32} : okA s (acPut s x y) := by
  unfold acPut
  split
  · rename_i h
    obtain ⟨h, hm⟩ := h
    rw [Bool.and_eq_true] at h
    have h6 := G.N6
    have h5 := G.P5
    obtain ⟨d, a1, rfl⟩ := inr_of h.1 (by omega)
    obtain ⟨t, a2, rfl⟩ := inr_of h.2 (by omega)
    rw [tN_nI (by omega), tN_nI (by omega)]
    exact okA_some (by have := dg_lt (a := sA s) (d := d) G.P0; omega) ⟨G.1, sd_lt G.P0 G.2.1 a1 a2, G.2.2.1, G.2.2.2.1, G.2.2.2.2⟩
  · exact okA_none
theorem ok_aim (G : GD s) {x y : Int32} : okA s (acAim s x y) := by
  unfold acAim
  split
  · rename_i h
    rw [Bool.and_eq_true] at h
    have h6 := G.N6
    have h5 := G.P5
    obtain ⟨d, a1, rfl⟩ := inr_of h.1 (by omega)
    obtain ⟨t, a2, rfl⟩ := inr_of h.2 (by omega)
    rw [tN_nI (by omega), tN_nI (by omega)]
    exact okA_some (by have := dg_lt (a := sB s) (d := d) G.P0; omega) ⟨G.1, G.2.1, sd_lt G.P0 G.2.2.1 a1 a2, G.2.2.2.1, G.2.2.2.2⟩
  · exact okA_none
theorem b2_lt (b : Bool) : b2 b < 100000 := by cases b <;> decide
theorem ok_allow (G : GD s) {x y : Int32} {z : Bool} : okA s (acAllow s x y z) := by
  unfold acAllow
  split
  · exact okA_some (b2_lt _) G
  · exact okA_none
theorem ok_colour (G : GD s) {x y : Int32} : okA s (acColour s x y) := by
  unfold acColour
  split
  · exact okA_some (b2_lt _) G
  · exact okA_none
theorem ok_rule (G : GD s) {on : Bool} : okA s (acRule s on) := okA_some (b2_lt _) G
theorem ok_lay (G : GD s) : okA s (acLay s) := okA_some (by have := G.2.2.2.1; omega) ⟨G.1, G.2.1, G.2.2.1, by show 0 ≤ 500; omega, fun k hk => absurd (show k < 0 from hk) (Nat.not_lt_zero k)⟩
theorem ok_back (G : GD s) : okA s (acBack s) := by
  unfold acBack
  split
  · rename_i h
    exact okA_some (by have := G.2.2.2.1; omega) (G.bk h)
  · exact okA_none
theorem ok_move (G : GD s) {x y : Int32} : okA s (acMove s x y) := by
  unfold acMove
  split
  · rename_i h
    obtain ⟨⟨h, hm⟩, -⟩ := h
    rw [Bool.and_eq_true] at h
    have h6 := G.N6
    have h5 := G.P5
    obtain ⟨t, a2, rfl⟩ := inr_of h.2 (by omega)
    rw [tN_nI (j := t) (by omega)]
    refine okA_some ?_ (G.mv a2 hm)
    cases e : sTp s (tN x) with
    | none => decide
    | some d =>
      have e : tp (sP s) (sN s) (sA s) (tN x) = some d := e
      have := tp_lt e
      show d < 100000
      omega
  · exact okA_none
end OK
section HZ
variable {l : Launch} {D : va_G} {Y : jy_T} {ad : Nat → Nat} {s : sT} {tr : Nat → Nat} {me : Bool} {to fa se qu : Nat → Int32}
theorem hz_begin (G : GD s) (H : Hd s tr me fa) (hl : l.stackTraces = false) {x y : Int32} : MW l yL_begin cL_begin 4 (some .int) [(0, 6, 7, 14)] rm_L_begin D Y [.ref (ad 0), .int x, .int y] (bw Y ad s tr me to fa se qu) (jI (fun r w => r = rv (acBegin s x y) ∧ Bw Y ad (rs s (acBegin s x y)) w)) := by
  refine MW.mono (fun r w h => ?_) (ct_L_begin (ct_X0_begin hl) (fun E w h => h.1))
  obtain ⟨q, rfl, h⟩ := h
  rcases h with ⟨v, rfl, P1, N1, rfl, rfl, hc, rfl, rfl⟩ | ⟨E, rfl, -, h, rfl⟩
  · have b1 := hc.2.1
    have b2 := hc.2.2.2
    have e : acBegin s (nI P1) (nI N1) = some (P1 ^ N1, (P1, N1, 0, P1 ^ N1 - 1, 0, false, (fun _ => false), (fun _ => true), sTr s)) := by
      unfold acBegin
      rw [tN_nI (by omega), tN_nI (by omega), if_pos]
      unfold rg
      have b3 := hc.1
      have b4 := hc.2.2.1
      rw [nI_toInt (by omega), nI_toInt (by omega), decide_eq_true (by omega), decide_eq_true (by omega)]; rfl
    refine ⟨_, rfl, by rw [e]; rfl, ?_⟩
    rw [e]
    exact ⟨tr, false, to, fa, se, qu, ⟨fun h => (by cases h), fun k hk => absurd (show k < 0 from hk) (Nat.not_lt_zero k)⟩, rfl⟩
  · have e : acBegin s x y = none := by unfold acBegin; rw [if_neg (by rw [h]; decide)]
    refine ⟨_, rfl, by rw [e]; rfl, ?_⟩
    rw [e]
    exact Bw.of H
theorem hz_put (G : GD s) (H : Hd s tr me fa) (hl : l.stackTraces = false) {x y : Int32} : MW l yL_put cL_put 4 (some .int) [(0, 6, 7, 20), (0, 6, 11, 22)] rm_L_put D Y [.ref (ad 0), .int x, .int y] (bw Y ad s tr me to fa se qu) (jI (fun r w => r = rv (acPut s x y) ∧ Bw Y ad (rs s (acPut s x y)) w)) := by
  refine MW.mono (fun r w h => ?_) (ct_L_put (ct_X0_put G.1 G.2.1 G.2.2.1 (by have := G.2.2.2.1; omega) hl) (fun E w h => Or.imp (fun z => z.1) (fun z => z.1) h.2))
  obtain ⟨q, rfl, h⟩ := h
  have h6 := G.N6
  have h5 := G.P5
  rcases h with ⟨v, rfl, d, t, rfl, hd, rfl, ht, hm, rfl, rfl⟩ | ⟨E, rfl, rfl, h⟩
  · have e : acPut s (nI d) (nI t) = some (dg (sP s) (sA s) d, (sP s, sN s, sd (sP s) (sA s) d t, sB s, sM s, sRu s, sCb s, sAl s, sTr s)) := by
      unfold acPut
      rw [tN_nI (by omega), tN_nI (by omega), if_pos ⟨by rw [inr_lt hd (by omega), inr_lt ht (by omega)]; rfl, hm⟩]
    refine ⟨_, rfl, by rw [e]; rfl, ?_⟩
    rw [e]
    exact ⟨tr, me, to, fa, se, qu, H, rfl⟩
  · have e : acPut s x y = none := by
      unfold acPut
      refine if_neg (fun z => ?_)
      rcases h with ⟨-, h⟩ | ⟨-, -, h⟩
      · rw [h] at z; exact absurd z.1 (by decide)
      · omega
    refine ⟨_, rfl, by rw [e]; rfl, ?_⟩
    rw [e]
    exact Bw.of H
theorem hz_aim (G : GD s) (H : Hd s tr me fa) (hl : l.stackTraces = false) {x y : Int32} : MW l yL_aim cL_aim 4 (some .int) [(0, 6, 7, 20)] rm_L_aim D Y [.ref (ad 0), .int x, .int y] (bw Y ad s tr me to fa se qu) (jI (fun r w => r = rv (acAim s x y) ∧ Bw Y ad (rs s (acAim s x y)) w)) := by
  refine MW.mono (fun r w h => ?_) (ct_L_aim (ct_X0_aim G.1 G.2.1 G.2.2.1 hl) (fun E w h => h.1))
  obtain ⟨q, rfl, h⟩ := h
  have h6 := G.N6
  have h5 := G.P5
  rcases h with ⟨v, rfl, d, t, rfl, hd, rfl, ht, rfl, rfl⟩ | ⟨E, rfl, -, h, rfl⟩
  · have e : acAim s (nI d) (nI t) = some (dg (sP s) (sB s) d, (sP s, sN s, sA s, sd (sP s) (sB s) d t, sM s, sRu s, sCb s, sAl s, sTr s)) := by
      unfold acAim
      rw [tN_nI (by omega), tN_nI (by omega), if_pos (by rw [inr_lt hd (by omega), inr_lt ht (by omega)]; rfl)]
    refine ⟨_, rfl, by rw [e]; rfl, ?_⟩
    rw [e]
    exact ⟨tr, false, to, fa, se, qu, ⟨fun h => (by cases h), H.2⟩, rfl⟩
  · have e : acAim s x y = none := by unfold acAim; rw [if_neg (by rw [h]; decide)]
    refine ⟨_, rfl, by rw [e]; rfl, ?_⟩
    rw [e]
    exact Bw.of H
theorem hz_allow (G : GD s) (H : Hd s tr me fa) (hl : l.stackTraces = false) {x y : Int32} {z : Bool} : MW l yL_allow cL_allow 5 (some .int) [(0, 15, 16, 20), (0, 15, 21, 14)] rm_L_allow D Y [.ref (ad 0), .int x, .int y, .int (bi z)] (bw Y ad s tr me to fa se qu) (jI (fun r w => r = rv (acAllow s x y z) ∧ Bw Y ad (rs s (acAllow s x y z)) w)) := by
  refine MW.mono (fun r w h => ?_) (ct_L_allow (ct_X0_allow G.1 G.2.1 G.2.2.1 hl) (fun E w h => Or.imp (fun z => z.1) (fun z => z.1) h.2))
  obtain ⟨q, rfl, h⟩ := h
  have h5 := G.P5
  rcases h with ⟨v, rfl, f, t, rfl, hf, rfl, ht, hne, rfl, rfl⟩ | ⟨E, rfl, rfl, h⟩
  · have e : acAllow s (nI f) (nI t) z = some (b2 (sAl s (f * 5 + t)), (sP s, sN s, sA s, sB s, sM s, sRu s, sCb s, va_up (sAl s) (f * 5 + t) z, sTr s)) := by
      unfold acAllow
      rw [tN_nI (by omega), tN_nI (by omega), if_pos ⟨by rw [inr_lt hf (by omega), inr_lt ht (by omega)]; rfl, fun q => hne ((nI_eq (by omega) (by omega)).mp q)⟩]
    refine ⟨_, rfl, by rw [e, b2_if]; rfl, ?_⟩
    rw [e]
    exact ⟨tr, false, to, fa, se, qu, ⟨fun h => (by cases h), H.2⟩, rfl⟩
  · have e : acAllow s x y z = none := by
      unfold acAllow
      refine if_neg (fun q => ?_)
      rcases h with ⟨-, h⟩ | ⟨-, -, h⟩
      · rw [h] at q; exact absurd q.1 (by decide)
      · exact q.2 h
    refine ⟨_, rfl, by rw [e]; rfl, ?_⟩
    rw [e]
    exact Bw.of H
theorem hz_setColour (G : GD s) (H : Hd s tr me fa) (hl : l.stackTraces = false) {x y : Int32} : MW l yL_setColour cL_setColour 4 (some .int) [(0, 6, 7, 20), (0, 6, 11, 14)] rm_L_setColour D Y [.ref (ad 0), .int x, .int y] (bw Y ad s tr me to fa se qu) (jI (fun r w => r = rv (acColour s x y) ∧ Bw Y ad (rs s (acColour s x y)) w)) := by
  refine MW.mono (fun r w h => ?_) (ct_L_setColour (ct_X0_setColour G.1 G.2.1 G.2.2.1 hl) (fun E w h => Or.imp (fun z => z.1) (fun z => z.1) h.2))
  obtain ⟨q, rfl, h⟩ := h
  have h6 := G.N6
  rcases h with ⟨v, rfl, d, z, rfl, hd, rfl, hz, rfl, rfl⟩ | ⟨E, rfl, rfl, h⟩
  · have e : acColour s (nI d) (bi z) = some (b2 (sCb s d), (sP s, sN s, sA s, sB s, sM s, sRu s, va_up (sCb s) d z, sAl s, sTr s)) := by
      unfold acColour
      rw [tN_nI (by omega), if_pos ⟨inr_lt hd (by omega), hz⟩, show decide (bi z = 1) = z by cases z <;> decide]
    refine ⟨_, rfl, by rw [e]; exact (b2_bi _).symm, ?_⟩
    rw [e]
    exact ⟨tr, false, to, fa, se, qu, ⟨fun h => (by cases h), H.2⟩, rfl⟩
  · have e : acColour s x y = none := by
      unfold acColour
      refine if_neg (fun q => ?_)
      rcases h with ⟨-, h⟩ | ⟨-, -, h⟩
      · rw [h] at q; exact absurd q.1 (by decide)
      · rw [h] at q; exact absurd q.2 (by decide)
    refine ⟨_, rfl, by rw [e]; rfl, ?_⟩
    rw [e]
    exact Bw.of H
theorem hz_takeBack (G : GD s) (H : Hd s tr me fa) (hl : l.stackTraces = false) : MW l yL_takeBack cL_takeBack 2 (some .int) [(0, 4, 5, 22)] rm_L_takeBack D Y [.ref (ad 0)] (bw Y ad s tr me to fa se qu) (jI (fun r w => r = rv (acBack s) ∧ Bw Y ad (rs s (acBack s)) w)) := by
  refine MW.mono (fun r w h => ?_) (ct_L_takeBack (ct_X0_takeBack G.1 G.2.1 G.2.2.1 G.2.2.2.1 hl) (fun E w h => h.1))
  obtain ⟨q, rfl, h⟩ := h
  rcases h with ⟨v, rfl, hm, rfl, rfl⟩ | ⟨E, rfl, -, h, rfl⟩
  · have e : acBack s = some (sM s - 1, sBk s) := by unfold acBack; rw [if_pos hm]
    refine ⟨_, rfl, by rw [e]; rfl, ?_⟩
    rw [e]
    refine ⟨tr, me, to, fa, se, qu, ⟨H.1, fun k hk => H.2 k (by have : k < sM s - 1 := hk; omega)⟩, ?_⟩
    show _ = bw Y ad (sP s, sN s, sTr s (sM s - 1), sB s, sM s - 1, sRu s, sCb s, sAl s, sTr s) tr me to fa se qu
    rw [← H.2 (sM s - 1) (by omega)]; rfl
  · have e : acBack s = none := by unfold acBack; rw [if_neg (by omega)]
    refine ⟨_, rfl, by rw [e]; rfl, ?_⟩
    rw [e]
    exact Bw.of H
theorem hz_move (G : GD s) (H : Hd s tr me fa) (hl : l.stackTraces = false) {x y : Int32} : MW l yL_move cL_move 4 (some .int) [(0, 6, 7, 20), (0, 6, 11, 22)] rm_L_move D Y [.ref (ad 0), .int x, .int y] (bw Y ad s tr me to fa se qu) (jI (fun r w => r = rv (acMove s x y) ∧ Bw Y ad (rs s (acMove s x y)) w)) := by
  refine MW.mono (fun r w h => ?_) (ct_L_move (ct_X0_move G.1 G.2.1 G.2.2.1 G.2.2.2.1 hl) (fun E w h => Or.imp (fun z => z.1) (fun z => z.1) h))
  obtain ⟨q, rfl, h⟩ := h
  have h5 := G.P5
  rcases h with ⟨v, rfl, f, t, d, to1, rfl, hf, rfl, ht, hm, hps, hd, rfl, rfl⟩ | ⟨E, rfl, h⟩
  · have e : acMove s (nI f) (nI t) = some (d, sMv s f t) := by
      unfold acMove
      rw [tN_nI (by omega), tN_nI (by omega), if_pos ⟨⟨by rw [inr_lt hf (by omega), inr_lt ht (by omega)]; rfl, hm⟩, hps⟩]
      show some ((tp (sP s) (sN s) (sA s) f).getD 0, _) = _
      rw [hd]; rfl
    refine ⟨_, rfl, by rw [e]; rfl, ?_⟩
    rw [e]
    refine ⟨updN tr (sM s) (sA s), me, to1, fa, se, qu, ⟨H.1, fun k hk => ?_⟩, rfl⟩
    show updN tr (sM s) (sA s) k = updN (sTr s) (sM s) (sA s) k
    by_cases e : k = sM s
    · rw [e, updN_s, updN_s]
    · rw [updN_n e, updN_n e]; exact H.2 k (by have : k < sM s + 1 := hk; omega)
  · rcases h with ⟨-, h, rfl⟩ | ⟨-, f, t, to1, rfl, hf, rfl, ht, h, rfl⟩
    · have e : acMove s x y = none := by
        unfold acMove
        refine if_neg (fun z => ?_)
        rw [h] at z; exact absurd z.1.1 (by decide)
      refine ⟨_, rfl, by rw [e]; rfl, ?_⟩
      rw [e]
      exact Bw.of H
    · have e : acMove s (nI f) (nI t) = none := by
        unfold acMove
        refine if_neg (fun z => ?_)
        rw [tN_nI (by omega), tN_nI (by omega)] at z
        rcases h with h | h
        · omega
        · have z2 : psB (sP s) (sN s) (sRu s) (sCb s) (sAl s) (sA s) f t = true := z.2
          rw [h] at z2; cases z2
      refine ⟨_, rfl, by rw [e]; rfl, ?_⟩
      rw [e]
      exact Bw.of H
theorem bz_layStart (H : Hd s tr me fa) : MZ l yX0_layStart cX0_layStart 2 (some .int) rm_X0_layStart D Y [.ref (ad 0)] (bw Y ad s tr me to fa se qu) (jI (fun r w => r = rv (acLay s) ∧ Bw Y ad (rs s (acLay s)) w)) :=
  MZ.ofJ (fun r w h => by
    obtain ⟨x, rfl, rfl, rfl⟩ := h
    exact ⟨_, rfl, rfl, tr, me, to, fa, se, qu, ⟨H.1, fun k hk => absurd (show k < 0 from hk) (Nat.not_lt_zero k)⟩, rfl⟩) ct_X0_layStart
theorem bz_setRule (H : Hd s tr me fa) {on : Bool} : MZ l yX0_setRule cX0_setRule 3 (some .boolean) rm_X0_setRule D Y [.ref (ad 0), .int (bi on)] (bw Y ad s tr me to fa se qu) (jI (fun r w => r = bi (sRu s) ∧ Bw Y ad (rs s (acRule s on)) w)) :=
  MZ.ofJ (fun r w h => by
    obtain ⟨x, rfl, rfl, rfl⟩ := h
    exact ⟨_, rfl, rfl, tr, false, to, fa, se, qu, ⟨fun h => (by cases h), H.2⟩, rfl⟩) ct_X0_setRule
end HZ
