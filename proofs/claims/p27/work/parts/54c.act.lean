/-! one act, as the law takes it out of a number v -/
def aOd (v : Int32) : Bool := decide (loI (v >>> (nI 24 &&& 31)) (nI 9) = 0)
def aFr (s : sT) (v : Int32) : Int32 := loI (v >>> (nI 4 &&& 31)) (nI (sP s) + bi (aOd v))
def aX (s : sT) (v : Int32) : Int32 := aFr s v + nI 1 + loI (v >>> (nI 7 &&& 31)) (nI (sP s) - nI 1)
def aTo (s : sT) (v : Int32) : Int32 := if aOd v = true then loI (v >>> (nI 7 &&& 31)) (nI (sP s) + nI 2) - nI 1 else aX s v - aX s v / nI (sP s) * nI (sP s)
def aDk (s : sT) (v : Int32) : Int32 := loI (v >>> (nI 10 &&& 31)) (nI (sN s) + bi (aOd v))
def aKd (v : Int32) : Int32 := loI v (nI 12)
def aB1 (v : Int32) : Int32 := if aOd v = true then loI (v >>> (nI 15 &&& 31)) (nI 8) else nI 3 + loI (v >>> (nI 15 &&& 31)) (nI 2)
def aB2 (v : Int32) : Int32 := if aOd v = true then loI (v >>> (nI 18 &&& 31)) (nI 8) else nI 1 + loI (v >>> (nI 18 &&& 31)) (nI 4)
def aCo (v : Int32) : Int32 := if aOd v = true then loI (v >>> (nI 14 &&& 31)) (nI 4) - nI 1 else loI (v >>> (nI 14 &&& 31)) (nI 2)
def acA (s : sT) (v : Int32) : Option (Nat × sT) :=
  if aKd v = nI 0 then (if loI (v >>> (nI 14 &&& 31)) (nI 4) = 0 then acBegin s (aB1 v) (aB2 v) else acLay s)
  else if aKd v = nI 1 ∨ aKd v = nI 2 then acPut s (aDk s v) (aTo s v)
  else if aKd v = nI 3 then acAim s (aDk s v) (aTo s v)
  else if aKd v = nI 4 then acAllow s (aFr s v) (aTo s v) (decide (¬ loI (v >>> (nI 14 &&& 31)) (nI 3) ≤ 0))
  else if aKd v = nI 5 then acColour s (aDk s v) (aCo v)
  else if aKd v = nI 6 then acRule s (decide (loI (v >>> (nI 14 &&& 31)) (nI 3) = 0))
  else if aKd v = nI 7 then acBack s
  else acMove s (aFr s v) (aTo s v)
theorem ok_act {s : sT} (G : GD s) {v : Int32} : okA s (acA s v) := by
  unfold acA
  split
  · split
    · exact ok_begin
    · exact ok_lay G
  split
  · exact ok_put G
  split
  · exact ok_aim G
  split
  · exact ok_allow G
  split
  · exact ok_colour G
  split
  · exact ok_rule G
  split
  · exact ok_back G
  · exact ok_move G
theorem ne_pb {p : Nat} {b : Bool} (h : 0 < p) (h2 : p < 100) : ¬ nI p + bi b = 0 := by
  rw [← b2_bi, nI_add, show (0 : Int32) = nI 0 from rfl, nI_eq (by cases b <;> (unfold b2; simp; omega)) (by omega)]
  omega
theorem ne_p2 {p : Nat} (h2 : p < 100) : ¬ nI p + nI 2 = 0 := by
  rw [nI_add, show (0 : Int32) = nI 0 from rfl, nI_eq (by omega) (by omega)]
  omega
theorem ne_p1 {p : Nat} (h : 3 ≤ p) (h2 : p < 100) : ¬ nI p - nI 1 = 0 := by
  rw [pk_sub (by omega), show (0 : Int32) = nI 0 from rfl, nI_eq (by omega) (by omega)]
  omega
theorem ne_p {p : Nat} (h : 0 < p) (h2 : p < 100) : ¬ nI p = 0 := by
  rw [show (0 : Int32) = nI 0 from rfl, nI_eq (by omega) (by omega)]
  omega
theorem tab_out {x : Int32} (c0 : ¬ x = nI 0) (c1 : ¬ x = nI 1) (c2 : ¬ x = nI 2) (c3 : ¬ x = nI 3) (c4 : ¬ x = nI 4) (c5 : ¬ x = nI 5) (c6 : ¬ x = nI 6) (c7 : ¬ x = nI 7) : x.toInt < 0 ∨ 7 < x.toInt := by
  have h : ∀ j : Nat, j < 8 → ¬ x = nI j → x.toInt ≠ (j : Int) := fun j hj hne e => hne (i32_eq (by rw [e, nI_toInt (by omega)]))
  have h0 := h 0 (by omega) c0
  have h1 := h 1 (by omega) c1
  have h2 := h 2 (by omega) c2
  have h3 := h 3 (by omega) c3
  have h4 := h 4 (by omega) c4
  have h5 := h 5 (by omega) c5
  have h6 := h 6 (by omega) c6
  have h7 := h 7 (by omega) c7
  omega
abbrev rm_L_act : Room := { frames := 8, cells := 1, slots := 6, locals := 137 }
set_option maxHeartbeats 4000000 in
set_option maxRecDepth 100000 in
theorem ct_L_act {l : Launch} {D : va_G} {Y : jy_T} {ad : Nat → Nat} {s : sT} {tr : Nat → Nat} {me : Bool} {to fa se qu : Nat → Int32} {v : Int32} (G : GD s) (H : Hd s tr me fa) (hl : l.stackTraces = false) :
    MZ l yL_act cL_act 7 (some .int) rm_L_act D Y [.ref (ad 0), .int v] (bw Y ad s tr me to fa se qu) (jI (fun r w => r = rv (acA s v) ∧ Bw Y ad (rs s (acA s v)) w)) := by
  refine j_enterZ (by decide) (Nat.le_of_ble_eq_true rfl) (fun v hv => by simp only [List.mem_cons, List.not_mem_nil, or_false] at hv; rcases hv with rfl | rfl <;> rfl) (fun K hl2 hD C R X => ?_)
  subst hl2; subst hD
  have C : jC cL_act RL Y rm_L_act 7 K := C
  have R : jR Y (some .int) 1 6 (jI (fun r w => r = rv (acA s v) ∧ Bw Y ad (rs s (acA s v)) w)) K := R
  refine j_eq (lo' := [some (.ref (ad 0)), some (.int v), none, none, none, none, none]) rfl rfl rfl ?_
  have hP3 := G.1.1
  have hP5 := G.P5
  have hN1 := G.1.2.2.1
  have hN6 := G.N6
  refine j_iload_n C dL_act_0 rfl ?_
  refine j_bipush C (nI 24) dL_act_1 (by decide) ?_
  refine j_ishr C dL_act_3 ?_
  refine j_bipush C (nI 9) dL_act_4 (by decide) ?_
  refine j_callS2i C (ct_L_low (ad := fun _ => 0) (ws := (bw Y ad s tr me to fa se qu)) (by decide)) gw_L_47 rfl nd_L_low ⟨by decide, by decide⟩ ⟨Nat.le_of_ble_eq_true rfl, Nat.le_of_ble_eq_true rfl⟩ (Nat.le_of_ble_eq_true rfl) dL_act_6 (fun _ _ hp => ?_)
  obtain ⟨rfl, rfl⟩ := hp
  refine j_bN C (aOd v) (fun c => decide_eq_true c) (fun c => decide_eq_false c) dL_act_9 dL_act_12 dL_act_13 dL_act_16 ?_
  refine j_istore_2 C dL_act_17 (by decide) ?_
  refine j_aload_n C dL_act_18 rfl ?_
  refine j_callVZ (wr := []) (st := []) C X [] [0, 1, 2, 3, 4, 5, 6, 7, 8, 9] [] (bz_pegs) rfl rfl rfl rfl (by decide) gw_L_52 nd_X0_pegs 0 0 rfl rfl rfl ⟨by decide, by decide⟩ ⟨Nat.le_of_ble_eq_true rfl, Nat.le_of_ble_eq_true rfl⟩ (Nat.le_of_ble_eq_true rfl) dL_act_19 rfl (fun r w19 hp => ?_)
  obtain ⟨v19, rfl, hp⟩ := hp
  refine j_eq (st' := [.int v19]) (ws2 := w19) rfl rfl rfl ?_
  obtain ⟨rfl, rfl⟩ := hp
  refine j_istore_3 C dL_act_22 (by decide) ?_
  refine j_iload_n C dL_act_23 rfl ?_
  refine j_iconst C (nI 4) dL_act_24 (by decide) ?_
  refine j_ishr C dL_act_25 ?_
  refine j_iload_n C dL_act_26 rfl ?_
  refine j_iload_n C dL_act_27 rfl ?_
  refine j_bE C (aOd v) (fun c => (bi_0 _).mp c) (fun c => (bi_n0 _).mp c) dL_act_28 dL_act_31 dL_act_32 dL_act_35 ?_
  refine j_iadd C dL_act_36 ?_
  refine j_callS2i C (ct_L_low (ad := fun _ => 0) (ws := (bw Y ad s tr me to fa se qu)) (ne_pb (by omega) (by omega))) gw_L_47 rfl nd_L_low ⟨by decide, by decide⟩ ⟨Nat.le_of_ble_eq_true rfl, Nat.le_of_ble_eq_true rfl⟩ (Nat.le_of_ble_eq_true rfl) dL_act_37 (fun _ _ hp => ?_)
  obtain ⟨rfl, rfl⟩ := hp
  refine j_istore_4 C dL_act_40 (by decide) ?_
  refine j_eq (lo' := [some (.ref (ad 0)), some (.int v), some (.int (bi (aOd v))), some (.int (nI (sP s))), some (.int (aFr s v)), none, none]) (st' := []) rfl rfl rfl ?_
  have tail : jJ K 0 0 78 [some (.ref (ad 0)), some (.int v), some (.int (bi (aOd v))), some (.int (nI (sP s))), some (.int (aFr s v)), none, none] [.int (aTo s v)] (bw Y ad s tr me to fa se qu) := by
    refine j_istore_5 C dL_act_78 (by decide) ?_
    refine j_iload_n C dL_act_80 rfl ?_
    refine j_bipush C (nI 10) dL_act_81 (by decide) ?_
    refine j_ishr C dL_act_83 ?_
    refine j_aload_n C dL_act_84 rfl ?_
    refine j_callVZ (wr := []) (st := [.int (v >>> ((nI 10) &&& 31))]) C X [] [0, 1, 2, 3, 4, 5, 6, 7, 8, 9] [] (bz_disks) rfl rfl rfl rfl (by decide) gw_L_55 nd_X0_disks 0 0 rfl rfl rfl ⟨by decide, by decide⟩ ⟨Nat.le_of_ble_eq_true rfl, Nat.le_of_ble_eq_true rfl⟩ (Nat.le_of_ble_eq_true rfl) dL_act_85 rfl (fun r w85 hp => ?_)
    obtain ⟨v85, rfl, hp⟩ := hp
    refine j_eq (st' := [.int v85, .int (v >>> ((nI 10) &&& 31))]) (ws2 := w85) rfl rfl rfl ?_
    obtain ⟨rfl, rfl⟩ := hp
    refine j_iload_n C dL_act_88 rfl ?_
    refine j_bE C (aOd v) (fun c => (bi_0 _).mp c) (fun c => (bi_n0 _).mp c) dL_act_89 dL_act_92 dL_act_93 dL_act_96 ?_
    refine j_iadd C dL_act_97 ?_
    refine j_callS2i C (ct_L_low (ad := fun _ => 0) (ws := (bw Y ad s tr me to fa se qu)) (ne_pb (by omega) (by omega))) gw_L_47 rfl nd_L_low ⟨by decide, by decide⟩ ⟨Nat.le_of_ble_eq_true rfl, Nat.le_of_ble_eq_true rfl⟩ (Nat.le_of_ble_eq_true rfl) dL_act_98 (fun _ _ hp => ?_)
    obtain ⟨rfl, rfl⟩ := hp
    refine j_istore_6 C dL_act_101 (by decide) ?_
    refine j_iload_n C dL_act_103 rfl ?_
    refine j_bipush C (nI 12) dL_act_104 (by decide) ?_
    refine j_callS2i C (ct_L_low (ad := fun _ => 0) (ws := (bw Y ad s tr me to fa se qu)) (by decide)) gw_L_47 rfl nd_L_low ⟨by decide, by decide⟩ ⟨Nat.le_of_ble_eq_true rfl, Nat.le_of_ble_eq_true rfl⟩ (Nat.le_of_ble_eq_true rfl) dL_act_106 (fun _ _ hp => ?_)
    obtain ⟨rfl, rfl⟩ := hp
    refine j_eq (lo' := [some (.ref (ad 0)), some (.int v), some (.int (bi (aOd v))), some (.int (nI (sP s))), some (.int (aFr s v)), some (.int (aTo s v)), some (.int (aDk s v))]) (st' := [.int (aKd v)]) rfl rfl rfl ?_
    by_cases c0 : aKd v = nI 0
    · have e := c0
      refine j_top _ (nI 0) c0 ?_
      refine j_tabIn C 0 156 dL_act_109 (by decide) (by decide) (by decide) rfl (by decide) ?_
      refine j_iload_n C dL_act_156 rfl ?_
      refine j_bipush C (nI 14) dL_act_157 (by decide) ?_
      refine j_ishr C dL_act_159 ?_
      refine j_iconst C (nI 4) dL_act_160 (by decide) ?_
      refine j_callS2i C (ct_L_low (ad := fun _ => 0) (ws := (bw Y ad s tr me to fa se qu)) (by decide)) gw_L_47 rfl nd_L_low ⟨by decide, by decide⟩ ⟨Nat.le_of_ble_eq_true rfl, Nat.le_of_ble_eq_true rfl⟩ (Nat.le_of_ble_eq_true rfl) dL_act_161 (fun _ _ hp => ?_)
      obtain ⟨rfl, rfl⟩ := hp
      refine j_if_ne C 226 dL_act_164 (by decide) (fun z => ?_) (fun z => ?_)
      · have ea : acA s v = (if loI (v >>> (nI 14 &&& 31)) (nI 4) = 0 then acBegin s (aB1 v) (aB2 v) else acLay s) := by unfold acA; rw [if_pos e]
        rw [if_neg z] at ea
        refine j_aload_n C dL_act_226 rfl ?_
        refine j_callVZ (wr := []) (st := []) C X [] [0, 1, 2, 3, 4, 5, 6, 7, 8, 9] [] (bz_layStart H) rfl rfl rfl rfl (by decide) gw_L_61 nd_X0_layStart 0 0 rfl rfl rfl ⟨by decide, by decide⟩ ⟨Nat.le_of_ble_eq_true rfl, Nat.le_of_ble_eq_true rfl⟩ (Nat.le_of_ble_eq_true rfl) dL_act_227 rfl (fun r w227 hp => ?_)
        obtain ⟨v227, rfl, hp⟩ := hp
        refine j_eq (st' := [.int v227]) (ws2 := w227) rfl rfl rfl ?_
        obtain ⟨rfl, hB⟩ := hp
        refine j_widen (Nat.zero_le 1) (Nat.zero_le 6) ?_
        exact j_reti C R dL_act_230 ⟨by rw [ea], by rw [ea]; exact hB⟩
      · have ea : acA s v = (if loI (v >>> (nI 14 &&& 31)) (nI 4) = 0 then acBegin s (aB1 v) (aB2 v) else acLay s) := by unfold acA; rw [if_pos e]
        rw [if_pos z] at ea
        have t2 : jJ K 0 0 220 [some (.ref (ad 0)), some (.int v), some (.int (bi (aOd v))), some (.int (nI (sP s))), some (.int (aFr s v)), some (.int (aTo s v)), some (.int (aDk s v))] [.int (aB2 v), .int (aB1 v), .ref (ad 0)] (bw Y ad s tr me to fa se qu) := by
          refine j_callSW (wr := []) (st := []) C X [.ref (ad 0), .int (aB1 v), .int (aB2 v)] [0, 1, 2, 3, 4, 5, 6, 7, 8, 9] [] (hz_begin G H hl) rfl rfl rfl rfl (by decide) gw_L_58 nd_L_begin ⟨by decide, by decide⟩ ⟨Nat.le_of_ble_eq_true rfl, Nat.le_of_ble_eq_true rfl⟩ (Nat.le_of_ble_eq_true rfl) dL_act_220 rfl (fun r w220 hp => ?_)
          obtain ⟨v220, rfl, hp⟩ := hp
          refine j_eq (st' := [.int v220]) (ws2 := w220) rfl rfl rfl ?_
          obtain ⟨rfl, hB⟩ := hp
          refine j_goto C 230 dL_act_223 (by decide) ?_
          exact j_reti C R dL_act_230 ⟨by rw [ea], by rw [ea]; exact hB⟩
        have t1 : jJ K 0 0 194 [some (.ref (ad 0)), some (.int v), some (.int (bi (aOd v))), some (.int (nI (sP s))), some (.int (aFr s v)), some (.int (aTo s v)), some (.int (aDk s v))] [.int (aB1 v), .ref (ad 0)] (bw Y ad s tr me to fa se qu) := by
          refine j_iload_n C dL_act_194 rfl ?_
          refine jB_if_eq C 210 dL_act_195 (by decide) (fun y => ?_) (fun y => ?_)
          · refine j_iconst C (nI 1) dL_act_210 (by decide) ?_
            refine j_iload_n C dL_act_211 rfl ?_
            refine j_bipush C (nI 18) dL_act_212 (by decide) ?_
            refine j_ishr C dL_act_214 ?_
            refine j_iconst C (nI 4) dL_act_215 (by decide) ?_
            refine j_callS2i C (ct_L_low (ad := fun _ => 0) (ws := (bw Y ad s tr me to fa se qu)) (by decide)) gw_L_47 rfl nd_L_low ⟨by decide, by decide⟩ ⟨Nat.le_of_ble_eq_true rfl, Nat.le_of_ble_eq_true rfl⟩ (Nat.le_of_ble_eq_true rfl) dL_act_216 (fun _ _ hp => ?_)
            obtain ⟨rfl, rfl⟩ := hp
            refine j_iadd C dL_act_219 ?_
            exact j_top _ (aB2 v) (by unfold aB2; rw [if_neg (by rw [y]; decide)]) t2
          · refine j_iload_n C dL_act_198 rfl ?_
            refine j_bipush C (nI 18) dL_act_199 (by decide) ?_
            refine j_ishr C dL_act_201 ?_
            refine j_bipush C (nI 8) dL_act_202 (by decide) ?_
            refine j_callS2i C (ct_L_low (ad := fun _ => 0) (ws := (bw Y ad s tr me to fa se qu)) (by decide)) gw_L_47 rfl nd_L_low ⟨by decide, by decide⟩ ⟨Nat.le_of_ble_eq_true rfl, Nat.le_of_ble_eq_true rfl⟩ (Nat.le_of_ble_eq_true rfl) dL_act_204 (fun _ _ hp => ?_)
            obtain ⟨rfl, rfl⟩ := hp
            refine j_goto C 220 dL_act_207 (by decide) ?_
            exact j_top _ (aB2 v) (by unfold aB2; rw [if_pos y]) t2
        refine j_aload_n C dL_act_167 rfl ?_
        refine j_iload_n C dL_act_168 rfl ?_
        refine jB_if_eq C 184 dL_act_169 (by decide) (fun y => ?_) (fun y => ?_)
        · refine j_iconst C (nI 3) dL_act_184 (by decide) ?_
          refine j_iload_n C dL_act_185 rfl ?_
          refine j_bipush C (nI 15) dL_act_186 (by decide) ?_
          refine j_ishr C dL_act_188 ?_
          refine j_iconst C (nI 2) dL_act_189 (by decide) ?_
          refine j_callS2i C (ct_L_low (ad := fun _ => 0) (ws := (bw Y ad s tr me to fa se qu)) (by decide)) gw_L_47 rfl nd_L_low ⟨by decide, by decide⟩ ⟨Nat.le_of_ble_eq_true rfl, Nat.le_of_ble_eq_true rfl⟩ (Nat.le_of_ble_eq_true rfl) dL_act_190 (fun _ _ hp => ?_)
          obtain ⟨rfl, rfl⟩ := hp
          refine j_iadd C dL_act_193 ?_
          exact j_top _ (aB1 v) (by unfold aB1; rw [if_neg (by rw [y]; decide)]) t1
        · refine j_iload_n C dL_act_172 rfl ?_
          refine j_bipush C (nI 15) dL_act_173 (by decide) ?_
          refine j_ishr C dL_act_175 ?_
          refine j_bipush C (nI 8) dL_act_176 (by decide) ?_
          refine j_callS2i C (ct_L_low (ad := fun _ => 0) (ws := (bw Y ad s tr me to fa se qu)) (by decide)) gw_L_47 rfl nd_L_low ⟨by decide, by decide⟩ ⟨Nat.le_of_ble_eq_true rfl, Nat.le_of_ble_eq_true rfl⟩ (Nat.le_of_ble_eq_true rfl) dL_act_178 (fun _ _ hp => ?_)
          obtain ⟨rfl, rfl⟩ := hp
          refine j_goto C 194 dL_act_181 (by decide) ?_
          exact j_top _ (aB1 v) (by unfold aB1; rw [if_pos y]) t1
    by_cases c1 : aKd v = nI 1
    · have e := c1
      refine j_top _ (nI 1) c1 ?_
      refine j_tabIn C 1 231 dL_act_109 (by decide) (by decide) (by decide) rfl (by decide) ?_
      have ea : acA s v = acPut s (aDk s v) (aTo s v) := by unfold acA; rw [if_neg c0, if_pos (Or.inl e)]
      refine j_aload_n C dL_act_231 rfl ?_
      refine j_iload C dL_act_232 rfl ?_
      refine j_iload C dL_act_234 rfl ?_
      refine j_callSW (wr := []) (st := []) C X [.ref (ad 0), .int (aDk s v), .int (aTo s v)] [0, 1, 2, 3, 4, 5, 6, 7, 8, 9] [] (hz_put G H hl) rfl rfl rfl rfl (by decide) gw_L_64 nd_L_put ⟨by decide, by decide⟩ ⟨Nat.le_of_ble_eq_true rfl, Nat.le_of_ble_eq_true rfl⟩ (Nat.le_of_ble_eq_true rfl) dL_act_236 rfl (fun r w236 hp => ?_)
      obtain ⟨v236, rfl, hp⟩ := hp
      refine j_eq (st' := [.int v236]) (ws2 := w236) rfl rfl rfl ?_
      obtain ⟨rfl, hB⟩ := hp
      exact j_reti C R dL_act_239 ⟨by rw [ea], by rw [ea]; exact hB⟩
    by_cases c2 : aKd v = nI 2
    · have e := c2
      refine j_top _ (nI 2) c2 ?_
      refine j_tabIn C 2 231 dL_act_109 (by decide) (by decide) (by decide) rfl (by decide) ?_
      have ea : acA s v = acPut s (aDk s v) (aTo s v) := by unfold acA; rw [if_neg c0, if_pos (Or.inr e)]
      refine j_aload_n C dL_act_231 rfl ?_
      refine j_iload C dL_act_232 rfl ?_
      refine j_iload C dL_act_234 rfl ?_
      refine j_callSW (wr := []) (st := []) C X [.ref (ad 0), .int (aDk s v), .int (aTo s v)] [0, 1, 2, 3, 4, 5, 6, 7, 8, 9] [] (hz_put G H hl) rfl rfl rfl rfl (by decide) gw_L_64 nd_L_put ⟨by decide, by decide⟩ ⟨Nat.le_of_ble_eq_true rfl, Nat.le_of_ble_eq_true rfl⟩ (Nat.le_of_ble_eq_true rfl) dL_act_236 rfl (fun r w236 hp => ?_)
      obtain ⟨v236, rfl, hp⟩ := hp
      refine j_eq (st' := [.int v236]) (ws2 := w236) rfl rfl rfl ?_
      obtain ⟨rfl, hB⟩ := hp
      exact j_reti C R dL_act_239 ⟨by rw [ea], by rw [ea]; exact hB⟩
    by_cases c3 : aKd v = nI 3
    · have e := c3
      refine j_top _ (nI 3) c3 ?_
      refine j_tabIn C 3 240 dL_act_109 (by decide) (by decide) (by decide) rfl (by decide) ?_
      have ea : acA s v = acAim s (aDk s v) (aTo s v) := by unfold acA; rw [if_neg c0, if_neg (fun z => z.elim c1 c2), if_pos e]
      refine j_aload_n C dL_act_240 rfl ?_
      refine j_iload C dL_act_241 rfl ?_
      refine j_iload C dL_act_243 rfl ?_
      refine j_callSW (wr := []) (st := []) C X [.ref (ad 0), .int (aDk s v), .int (aTo s v)] [0, 1, 2, 3, 4, 5, 6, 7, 8, 9] [] (hz_aim G H hl) rfl rfl rfl rfl (by decide) gw_L_66 nd_L_aim ⟨by decide, by decide⟩ ⟨Nat.le_of_ble_eq_true rfl, Nat.le_of_ble_eq_true rfl⟩ (Nat.le_of_ble_eq_true rfl) dL_act_245 rfl (fun r w245 hp => ?_)
      obtain ⟨v245, rfl, hp⟩ := hp
      refine j_eq (st' := [.int v245]) (ws2 := w245) rfl rfl rfl ?_
      obtain ⟨rfl, hB⟩ := hp
      exact j_reti C R dL_act_248 ⟨by rw [ea], by rw [ea]; exact hB⟩
    by_cases c4 : aKd v = nI 4
    · have e := c4
      refine j_top _ (nI 4) c4 ?_
      refine j_tabIn C 4 249 dL_act_109 (by decide) (by decide) (by decide) rfl (by decide) ?_
      have ea : acA s v = acAllow s (aFr s v) (aTo s v) (decide (¬ loI (v >>> (nI 14 &&& 31)) (nI 3) ≤ 0)) := by unfold acA; rw [if_neg c0, if_neg (fun z => z.elim c1 c2), if_neg c3, if_pos e]
      refine j_aload_n C dL_act_249 rfl ?_
      refine j_iload C dL_act_250 rfl ?_
      refine j_iload C dL_act_252 rfl ?_
      refine j_iload_n C dL_act_254 rfl ?_
      refine j_bipush C (nI 14) dL_act_255 (by decide) ?_
      refine j_ishr C dL_act_257 ?_
      refine j_iconst C (nI 3) dL_act_258 (by decide) ?_
      refine j_callS2i C (ct_L_low (ad := fun _ => 0) (ws := (bw Y ad s tr me to fa se qu)) (by decide)) gw_L_47 rfl nd_L_low ⟨by decide, by decide⟩ ⟨Nat.le_of_ble_eq_true rfl, Nat.le_of_ble_eq_true rfl⟩ (Nat.le_of_ble_eq_true rfl) dL_act_259 (fun _ _ hp => ?_)
      obtain ⟨rfl, rfl⟩ := hp
      refine j_bLe C  dL_act_262 dL_act_265 dL_act_266 dL_act_269 ?_
      refine j_callSW (wr := []) (st := []) C X [.ref (ad 0), .int (aFr s v), .int (aTo s v), .int (bi (decide (¬ loI (v >>> (nI 14 &&& 31)) (nI 3) ≤ 0)))] [0, 1, 2, 3, 4, 5, 6, 7, 8, 9] [] (hz_allow (z := (decide (¬ loI (v >>> (nI 14 &&& 31)) (nI 3) ≤ 0))) G H hl) rfl rfl rfl rfl (by decide) gw_L_68 nd_L_allow ⟨by decide, by decide⟩ ⟨Nat.le_of_ble_eq_true rfl, Nat.le_of_ble_eq_true rfl⟩ (Nat.le_of_ble_eq_true rfl) dL_act_270 rfl (fun r w270 hp => ?_)
      obtain ⟨v270, rfl, hp⟩ := hp
      refine j_eq (st' := [.int v270]) (ws2 := w270) rfl rfl rfl ?_
      obtain ⟨rfl, hB⟩ := hp
      exact j_reti C R dL_act_273 ⟨by rw [ea], by rw [ea]; exact hB⟩
    by_cases c5 : aKd v = nI 5
    · have e := c5
      refine j_top _ (nI 5) c5 ?_
      refine j_tabIn C 5 274 dL_act_109 (by decide) (by decide) (by decide) rfl (by decide) ?_
      have ea : acA s v = acColour s (aDk s v) (aCo v) := by unfold acA; rw [if_neg c0, if_neg (fun z => z.elim c1 c2), if_neg c3, if_neg c4, if_pos e]
      have t2 : jJ K 0 0 302 [some (.ref (ad 0)), some (.int v), some (.int (bi (aOd v))), some (.int (nI (sP s))), some (.int (aFr s v)), some (.int (aTo s v)), some (.int (aDk s v))] [.int (aCo v), .int (aDk s v), .ref (ad 0)] (bw Y ad s tr me to fa se qu) := by
        refine j_callSW (wr := []) (st := []) C X [.ref (ad 0), .int (aDk s v), .int (aCo v)] [0, 1, 2, 3, 4, 5, 6, 7, 8, 9] [] (hz_setColour G H hl) rfl rfl rfl rfl (by decide) gw_L_71 nd_L_setColour ⟨by decide, by decide⟩ ⟨Nat.le_of_ble_eq_true rfl, Nat.le_of_ble_eq_true rfl⟩ (Nat.le_of_ble_eq_true rfl) dL_act_302 rfl (fun r w302 hp => ?_)
        obtain ⟨v302, rfl, hp⟩ := hp
        refine j_eq (st' := [.int v302]) (ws2 := w302) rfl rfl rfl ?_
        obtain ⟨rfl, hB⟩ := hp
        exact j_reti C R dL_act_305 ⟨by rw [ea], by rw [ea]; exact hB⟩
      refine j_aload_n C dL_act_274 rfl ?_
      refine j_iload C dL_act_275 rfl ?_
      refine j_iload_n C dL_act_277 rfl ?_
      refine jB_if_eq C 294 dL_act_278 (by decide) (fun y => ?_) (fun y => ?_)
      · refine j_iload_n C dL_act_294 rfl ?_
        refine j_bipush C (nI 14) dL_act_295 (by decide) ?_
        refine j_ishr C dL_act_297 ?_
        refine j_iconst C (nI 2) dL_act_298 (by decide) ?_
        refine j_callS2i C (ct_L_low (ad := fun _ => 0) (ws := (bw Y ad s tr me to fa se qu)) (by decide)) gw_L_47 rfl nd_L_low ⟨by decide, by decide⟩ ⟨Nat.le_of_ble_eq_true rfl, Nat.le_of_ble_eq_true rfl⟩ (Nat.le_of_ble_eq_true rfl) dL_act_299 (fun _ _ hp => ?_)
        obtain ⟨rfl, rfl⟩ := hp
        exact j_top _ (aCo v) (by unfold aCo; rw [if_neg (by rw [y]; decide)]) t2
      · refine j_iload_n C dL_act_281 rfl ?_
        refine j_bipush C (nI 14) dL_act_282 (by decide) ?_
        refine j_ishr C dL_act_284 ?_
        refine j_iconst C (nI 4) dL_act_285 (by decide) ?_
        refine j_callS2i C (ct_L_low (ad := fun _ => 0) (ws := (bw Y ad s tr me to fa se qu)) (by decide)) gw_L_47 rfl nd_L_low ⟨by decide, by decide⟩ ⟨Nat.le_of_ble_eq_true rfl, Nat.le_of_ble_eq_true rfl⟩ (Nat.le_of_ble_eq_true rfl) dL_act_286 (fun _ _ hp => ?_)
        obtain ⟨rfl, rfl⟩ := hp
        refine j_iconst C (nI 1) dL_act_289 (by decide) ?_
        refine j_isub C dL_act_290 ?_
        refine j_goto C 302 dL_act_291 (by decide) ?_
        exact j_top _ (aCo v) (by unfold aCo; rw [if_pos y]) t2
    by_cases c6 : aKd v = nI 6
    · have e := c6
      refine j_top _ (nI 6) c6 ?_
      refine j_tabIn C 6 306 dL_act_109 (by decide) (by decide) (by decide) rfl (by decide) ?_
      have ea : acA s v = acRule s (decide (loI (v >>> (nI 14 &&& 31)) (nI 3) = 0)) := by unfold acA; rw [if_neg c0, if_neg (fun z => z.elim c1 c2), if_neg c3, if_neg c4, if_neg c5, if_pos e]
      refine j_aload_n C dL_act_306 rfl ?_
      refine j_iload_n C dL_act_307 rfl ?_
      refine j_bipush C (nI 14) dL_act_308 (by decide) ?_
      refine j_ishr C dL_act_310 ?_
      refine j_iconst C (nI 3) dL_act_311 (by decide) ?_
      refine j_callS2i C (ct_L_low (ad := fun _ => 0) (ws := (bw Y ad s tr me to fa se qu)) (by decide)) gw_L_47 rfl nd_L_low ⟨by decide, by decide⟩ ⟨Nat.le_of_ble_eq_true rfl, Nat.le_of_ble_eq_true rfl⟩ (Nat.le_of_ble_eq_true rfl) dL_act_312 (fun _ _ hp => ?_)
      obtain ⟨rfl, rfl⟩ := hp
      refine j_bN C (decide (loI (v >>> (nI 14 &&& 31)) (nI 3) = 0)) (fun c => decide_eq_true c) (fun c => decide_eq_false c) dL_act_315 dL_act_318 dL_act_319 dL_act_322 ?_
      refine j_callVZ (wr := []) (st := []) C X [.int (bi (decide (loI (v >>> (nI 14 &&& 31)) (nI 3) = 0)))] [0, 1, 2, 3, 4, 5, 6, 7, 8, 9] [] (bz_setRule (on := (decide (loI (v >>> (nI 14 &&& 31)) (nI 3) = 0))) H) rfl rfl rfl rfl (by decide) gw_L_73 nd_X0_setRule 0 0 rfl rfl rfl ⟨by decide, by decide⟩ ⟨Nat.le_of_ble_eq_true rfl, Nat.le_of_ble_eq_true rfl⟩ (Nat.le_of_ble_eq_true rfl) dL_act_323 rfl (fun r w323 hp => ?_)
      obtain ⟨v323, rfl, hp⟩ := hp
      refine j_eq (st' := [.int v323]) (ws2 := w323) rfl rfl rfl ?_
      obtain ⟨rfl, hB⟩ := hp
      refine j_bE C (sRu s) (fun c => (bi_0 _).mp c) (fun c => (bi_n0 _).mp c) dL_act_326 dL_act_329 dL_act_330 dL_act_333 ?_
      refine j_widen (Nat.zero_le 1) (Nat.zero_le 6) ?_
      exact j_reti C R dL_act_334 ⟨by rw [ea]; exact (b2_bi _).symm, by rw [ea]; exact hB⟩
    by_cases c7 : aKd v = nI 7
    · have e := c7
      refine j_top _ (nI 7) c7 ?_
      refine j_tabIn C 7 335 dL_act_109 (by decide) (by decide) (by decide) rfl (by decide) ?_
      have ea : acA s v = acBack s := by unfold acA; rw [if_neg c0, if_neg (fun z => z.elim c1 c2), if_neg c3, if_neg c4, if_neg c5, if_neg c6, if_pos e]
      refine j_aload_n C dL_act_335 rfl ?_
      refine j_callSW (wr := []) (st := []) C X [.ref (ad 0)] [0, 1, 2, 3, 4, 5, 6, 7, 8, 9] [] (hz_takeBack G H hl) rfl rfl rfl rfl (by decide) gw_L_77 nd_L_takeBack ⟨by decide, by decide⟩ ⟨Nat.le_of_ble_eq_true rfl, Nat.le_of_ble_eq_true rfl⟩ (Nat.le_of_ble_eq_true rfl) dL_act_336 rfl (fun r w336 hp => ?_)
      obtain ⟨v336, rfl, hp⟩ := hp
      refine j_eq (st' := [.int v336]) (ws2 := w336) rfl rfl rfl ?_
      obtain ⟨rfl, hB⟩ := hp
      exact j_reti C R dL_act_339 ⟨by rw [ea], by rw [ea]; exact hB⟩
    refine j_tabOutI C 340 dL_act_109 (tab_out c0 c1 c2 c3 c4 c5 c6 c7) (by decide) ?_
    have ea : acA s v = acMove s (aFr s v) (aTo s v) := by unfold acA; rw [if_neg c0, if_neg (fun z => z.elim c1 c2), if_neg c3, if_neg c4, if_neg c5, if_neg c6, if_neg c7]
    refine j_aload_n C dL_act_340 rfl ?_
    refine j_iload C dL_act_341 rfl ?_
    refine j_iload C dL_act_343 rfl ?_
    refine j_callSW (wr := []) (st := []) C X [.ref (ad 0), .int (aFr s v), .int (aTo s v)] [0, 1, 2, 3, 4, 5, 6, 7, 8, 9] [] (hz_move G H hl) rfl rfl rfl rfl (by decide) gw_L_80 nd_L_move ⟨by decide, by decide⟩ ⟨Nat.le_of_ble_eq_true rfl, Nat.le_of_ble_eq_true rfl⟩ (Nat.le_of_ble_eq_true rfl) dL_act_345 rfl (fun r w345 hp => ?_)
    obtain ⟨v345, rfl, hp⟩ := hp
    refine j_eq (st' := [.int v345]) (ws2 := w345) rfl rfl rfl ?_
    obtain ⟨rfl, hB⟩ := hp
    exact j_reti C R dL_act_348 ⟨by rw [ea], by rw [ea]; exact hB⟩
  refine j_iload_n C dL_act_42 rfl ?_
  refine jB_if_eq C 61 dL_act_43 (by decide) (fun y => ?_) (fun y => ?_)
  · refine j_iload C dL_act_61 rfl ?_
    refine j_iconst C (nI 1) dL_act_63 (by decide) ?_
    refine j_iadd C dL_act_64 ?_
    refine j_iload_n C dL_act_65 rfl ?_
    refine j_bipush C (nI 7) dL_act_66 (by decide) ?_
    refine j_ishr C dL_act_68 ?_
    refine j_iload_n C dL_act_69 rfl ?_
    refine j_iconst C (nI 1) dL_act_70 (by decide) ?_
    refine j_isub C dL_act_71 ?_
    refine j_callS2i C (ct_L_low (ad := fun _ => 0) (ws := (bw Y ad s tr me to fa se qu)) (ne_p1 (by omega) (by omega))) gw_L_47 rfl nd_L_low ⟨by decide, by decide⟩ ⟨Nat.le_of_ble_eq_true rfl, Nat.le_of_ble_eq_true rfl⟩ (Nat.le_of_ble_eq_true rfl) dL_act_72 (fun _ _ hp => ?_)
    obtain ⟨rfl, rfl⟩ := hp
    refine j_iadd C dL_act_75 ?_
    refine j_iload_n C dL_act_76 rfl ?_
    refine j_irem C dL_act_77 (ne_p (by omega) (by omega)) ?_
    exact j_top _ (aTo s v) (by unfold aTo; rw [if_neg (by rw [y]; decide)]; rfl) tail
  · refine j_iload_n C dL_act_46 rfl ?_
    refine j_bipush C (nI 7) dL_act_47 (by decide) ?_
    refine j_ishr C dL_act_49 ?_
    refine j_iload_n C dL_act_50 rfl ?_
    refine j_iconst C (nI 2) dL_act_51 (by decide) ?_
    refine j_iadd C dL_act_52 ?_
    refine j_callS2i C (ct_L_low (ad := fun _ => 0) (ws := (bw Y ad s tr me to fa se qu)) (ne_p2 (by omega))) gw_L_47 rfl nd_L_low ⟨by decide, by decide⟩ ⟨Nat.le_of_ble_eq_true rfl, Nat.le_of_ble_eq_true rfl⟩ (Nat.le_of_ble_eq_true rfl) dL_act_53 (fun _ _ hp => ?_)
    obtain ⟨rfl, rfl⟩ := hp
    refine j_iconst C (nI 1) dL_act_56 (by decide) ?_
    refine j_isub C dL_act_57 ?_
    refine j_goto C 78 dL_act_58 (by decide) ?_
    exact j_top _ (aTo s v) (by unfold aTo; rw [if_pos y]) tail
