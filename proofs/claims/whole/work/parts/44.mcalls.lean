abbrev rm_X1_thrown : Room := { frames := 0, cells := 0, slots := 0, locals := 0 }
set_option maxHeartbeats 4000000 in
set_option maxRecDepth 100000 in
theorem ct_X1_thrown {l : Launch} {D : va_G} {Y : jy_T} {ad : Nat → Nat} {th p n ru mc s0 qd : Int32} {nw gl co ba fr tt lk fa qu nb : Nat → Int32} :
    MJ l yX1_thrown cX1_thrown 1 (some .int) rm_X1_thrown D Y [.ref (ad 0)] (wM Y ad th p n ru mc s0 qd nw gl co ba fr tt lk fa qu nb) (jI (fun r w => r = th ∧ w = (wM Y ad th p n ru mc s0 qd nw gl co ba fr tt lk fa qu nb))) := by
  refine j_enter (by decide) (Nat.le_of_ble_eq_true rfl) (fun v hv => by rw [List.mem_singleton.mp hv]; rfl) (fun K hl hD hnm C R => ?_)
  subst hl; subst hD
  have C : jC cX1_thrown RX1 Y rm_X1_thrown 1 K := C
  have R : jR Y (some .int) 0 0 (jI (fun r w => r = th ∧ w = (wM Y ad th p n ru mc s0 qd nw gl co ba fr tt lk fa qu nb))) K := R
  refine j_eq (lo' := [some (.ref (ad 0))]) rfl rfl rfl ?_
  refine j_aload_n C dX1_thrown_0 rfl ?_
  refine g1_thrown C dX1_thrown_1 ?_
  exact j_reti C R dX1_thrown_4 ⟨rfl, rfl⟩
abbrev rm_X1_pegs : Room := { frames := 0, cells := 0, slots := 0, locals := 0 }
set_option maxHeartbeats 4000000 in
set_option maxRecDepth 100000 in
theorem ct_X1_pegs {l : Launch} {D : va_G} {Y : jy_T} {ad : Nat → Nat} {P N a b mv0 : Nat} {ru : Bool} {cb ba : Nat → Bool} {nf gf fr tt : Nat → Nat} {th s0 qd : Int32} {lk fa qu nb : Nat → Int32} :
    MJ l yX1_pegs cX1_pegs 1 (some .int) rm_X1_pegs D Y [.ref (ad 0)] (wM Y ad th (nI P) (nI N) (bi ru) (nI mv0) s0 qd (fun d => nI (nf d)) (fun d => nI (gf d)) (fun d => bi (cb d)) (fun k => bi (ba k)) (fun k => nI (fr k)) (fun k => nI (tt k)) lk fa qu nb) (jI (fun r w => r = nI P ∧ w = (wM Y ad (nI 0) (nI P) (nI N) (bi ru) (nI mv0) s0 qd (fun d => nI (nf d)) (fun d => nI (gf d)) (fun d => bi (cb d)) (fun k => bi (ba k)) (fun k => nI (fr k)) (fun k => nI (tt k)) lk fa qu nb))) := by
  refine j_enter (by decide) (Nat.le_of_ble_eq_true rfl) (fun v hv => by rw [List.mem_singleton.mp hv]; rfl) (fun K hl hD hnm C R => ?_)
  subst hl; subst hD
  have C : jC cX1_pegs RX1 Y rm_X1_pegs 1 K := C
  have R : jR Y (some .int) 0 0 (jI (fun r w => r = nI P ∧ w = (wM Y ad (nI 0) (nI P) (nI N) (bi ru) (nI mv0) s0 qd (fun d => nI (nf d)) (fun d => nI (gf d)) (fun d => bi (cb d)) (fun k => bi (ba k)) (fun k => nI (fr k)) (fun k => nI (tt k)) lk fa qu nb))) K := R
  refine j_eq (lo' := [some (.ref (ad 0))]) rfl rfl rfl ?_
  refine j_aload_n C dX1_pegs_0 rfl ?_
  refine j_iconst C (nI 0) dX1_pegs_1 (by decide) ?_
  refine p1_thrown C dX1_pegs_2 ?_
  refine j_aload_n C dX1_pegs_5 rfl ?_
  refine g1_pegs C dX1_pegs_6 ?_
  exact j_reti C R dX1_pegs_9 ⟨rfl, rfl⟩
abbrev rm_X1_disks : Room := { frames := 0, cells := 0, slots := 0, locals := 0 }
set_option maxHeartbeats 4000000 in
set_option maxRecDepth 100000 in
theorem ct_X1_disks {l : Launch} {D : va_G} {Y : jy_T} {ad : Nat → Nat} {P N a b mv0 : Nat} {ru : Bool} {cb ba : Nat → Bool} {nf gf fr tt : Nat → Nat} {th s0 qd : Int32} {lk fa qu nb : Nat → Int32} :
    MJ l yX1_disks cX1_disks 1 (some .int) rm_X1_disks D Y [.ref (ad 0)] (wM Y ad th (nI P) (nI N) (bi ru) (nI mv0) s0 qd (fun d => nI (nf d)) (fun d => nI (gf d)) (fun d => bi (cb d)) (fun k => bi (ba k)) (fun k => nI (fr k)) (fun k => nI (tt k)) lk fa qu nb) (jI (fun r w => r = nI N ∧ w = (wM Y ad (nI 0) (nI P) (nI N) (bi ru) (nI mv0) s0 qd (fun d => nI (nf d)) (fun d => nI (gf d)) (fun d => bi (cb d)) (fun k => bi (ba k)) (fun k => nI (fr k)) (fun k => nI (tt k)) lk fa qu nb))) := by
  refine j_enter (by decide) (Nat.le_of_ble_eq_true rfl) (fun v hv => by rw [List.mem_singleton.mp hv]; rfl) (fun K hl hD hnm C R => ?_)
  subst hl; subst hD
  have C : jC cX1_disks RX1 Y rm_X1_disks 1 K := C
  have R : jR Y (some .int) 0 0 (jI (fun r w => r = nI N ∧ w = (wM Y ad (nI 0) (nI P) (nI N) (bi ru) (nI mv0) s0 qd (fun d => nI (nf d)) (fun d => nI (gf d)) (fun d => bi (cb d)) (fun k => bi (ba k)) (fun k => nI (fr k)) (fun k => nI (tt k)) lk fa qu nb))) K := R
  refine j_eq (lo' := [some (.ref (ad 0))]) rfl rfl rfl ?_
  refine j_aload_n C dX1_disks_0 rfl ?_
  refine j_iconst C (nI 0) dX1_disks_1 (by decide) ?_
  refine p1_thrown C dX1_disks_2 ?_
  refine j_aload_n C dX1_disks_5 rfl ?_
  refine g1_disks C dX1_disks_6 ?_
  exact j_reti C R dX1_disks_9 ⟨rfl, rfl⟩
abbrev rm_X1_moves : Room := { frames := 0, cells := 0, slots := 0, locals := 0 }
set_option maxHeartbeats 4000000 in
set_option maxRecDepth 100000 in
theorem ct_X1_moves {l : Launch} {D : va_G} {Y : jy_T} {ad : Nat → Nat} {P N a b mv0 : Nat} {ru : Bool} {cb ba : Nat → Bool} {nf gf fr tt : Nat → Nat} {th s0 qd : Int32} {lk fa qu nb : Nat → Int32} :
    MJ l yX1_moves cX1_moves 1 (some .int) rm_X1_moves D Y [.ref (ad 0)] (wM Y ad th (nI P) (nI N) (bi ru) (nI mv0) s0 qd (fun d => nI (nf d)) (fun d => nI (gf d)) (fun d => bi (cb d)) (fun k => bi (ba k)) (fun k => nI (fr k)) (fun k => nI (tt k)) lk fa qu nb) (jI (fun r w => r = nI mv0 ∧ w = (wM Y ad (nI 0) (nI P) (nI N) (bi ru) (nI mv0) s0 qd (fun d => nI (nf d)) (fun d => nI (gf d)) (fun d => bi (cb d)) (fun k => bi (ba k)) (fun k => nI (fr k)) (fun k => nI (tt k)) lk fa qu nb))) := by
  refine j_enter (by decide) (Nat.le_of_ble_eq_true rfl) (fun v hv => by rw [List.mem_singleton.mp hv]; rfl) (fun K hl hD hnm C R => ?_)
  subst hl; subst hD
  have C : jC cX1_moves RX1 Y rm_X1_moves 1 K := C
  have R : jR Y (some .int) 0 0 (jI (fun r w => r = nI mv0 ∧ w = (wM Y ad (nI 0) (nI P) (nI N) (bi ru) (nI mv0) s0 qd (fun d => nI (nf d)) (fun d => nI (gf d)) (fun d => bi (cb d)) (fun k => bi (ba k)) (fun k => nI (fr k)) (fun k => nI (tt k)) lk fa qu nb))) K := R
  refine j_eq (lo' := [some (.ref (ad 0))]) rfl rfl rfl ?_
  refine j_aload_n C dX1_moves_0 rfl ?_
  refine j_iconst C (nI 0) dX1_moves_1 (by decide) ?_
  refine p1_thrown C dX1_moves_2 ?_
  refine j_aload_n C dX1_moves_5 rfl ?_
  refine g1_moves C dX1_moves_6 ?_
  exact j_reti C R dX1_moves_9 ⟨rfl, rfl⟩
abbrev rm_X1_layStart : Room := { frames := 0, cells := 0, slots := 0, locals := 0 }
set_option maxHeartbeats 4000000 in
set_option maxRecDepth 100000 in
theorem ct_X1_layStart {l : Launch} {D : va_G} {Y : jy_T} {ad : Nat → Nat} {P N a b mv0 : Nat} {ru : Bool} {cb ba : Nat → Bool} {nf gf fr tt : Nat → Nat} {th s0 qd : Int32} {lk fa qu nb : Nat → Int32} :
    MJ l yX1_layStart cX1_layStart 2 (some .int) rm_X1_layStart D Y [.ref (ad 0)] (wM Y ad th (nI P) (nI N) (bi ru) (nI mv0) s0 qd (fun d => nI (nf d)) (fun d => nI (gf d)) (fun d => bi (cb d)) (fun k => bi (ba k)) (fun k => nI (fr k)) (fun k => nI (tt k)) lk fa qu nb) (jI (fun r w => r = nI mv0 ∧ w = (wM Y ad (nI 0) (nI P) (nI N) (bi ru) (nI 0) s0 qd (fun d => nI (nf d)) (fun d => nI (gf d)) (fun d => bi (cb d)) (fun k => bi (ba k)) (fun k => nI (fr k)) (fun k => nI (tt k)) lk fa qu nb))) := by
  refine j_enter (by decide) (Nat.le_of_ble_eq_true rfl) (fun v hv => by rw [List.mem_singleton.mp hv]; rfl) (fun K hl hD hnm C R => ?_)
  subst hl; subst hD
  have C : jC cX1_layStart RX1 Y rm_X1_layStart 2 K := C
  have R : jR Y (some .int) 0 0 (jI (fun r w => r = nI mv0 ∧ w = (wM Y ad (nI 0) (nI P) (nI N) (bi ru) (nI 0) s0 qd (fun d => nI (nf d)) (fun d => nI (gf d)) (fun d => bi (cb d)) (fun k => bi (ba k)) (fun k => nI (fr k)) (fun k => nI (tt k)) lk fa qu nb))) K := R
  refine j_eq (lo' := [some (.ref (ad 0)), none]) rfl rfl rfl ?_
  refine j_aload_n C dX1_layStart_0 rfl ?_
  refine j_iconst C (nI 0) dX1_layStart_1 (by decide) ?_
  refine p1_thrown C dX1_layStart_2 ?_
  refine j_aload_n C dX1_layStart_5 rfl ?_
  refine g1_moves C dX1_layStart_6 ?_
  refine j_istore_1 C dX1_layStart_9 (by decide) ?_
  refine j_aload_n C dX1_layStart_10 rfl ?_
  refine j_iconst C (nI 0) dX1_layStart_11 (by decide) ?_
  refine p1_moves C dX1_layStart_12 ?_
  refine j_iload_n C dX1_layStart_15 rfl ?_
  exact j_reti C R dX1_layStart_16 ⟨rfl, rfl⟩
abbrev rm_X1_setRule : Room := { frames := 0, cells := 0, slots := 0, locals := 0 }
set_option maxHeartbeats 4000000 in
set_option maxRecDepth 100000 in
theorem ct_X1_setRule {l : Launch} {D : va_G} {Y : jy_T} {ad : Nat → Nat} {P N a b mv0 : Nat} {ru : Bool} {cb ba : Nat → Bool} {nf gf fr tt : Nat → Nat} {th s0 qd : Int32} {lk fa qu nb : Nat → Int32} {on : Bool} :
    MJ l yX1_setRule cX1_setRule 3 (some .boolean) rm_X1_setRule D Y [.ref (ad 0), .int (bi on)] (wM Y ad th (nI P) (nI N) (bi ru) (nI mv0) s0 qd (fun d => nI (nf d)) (fun d => nI (gf d)) (fun d => bi (cb d)) (fun k => bi (ba k)) (fun k => nI (fr k)) (fun k => nI (tt k)) lk fa qu nb) (jI (fun r w => r = bi ru ∧ w = (wM Y ad (nI 0) (nI P) (nI N) (bi on) (nI mv0) s0 qd (fun d => nI (nf d)) (fun d => nI (gf d)) (fun d => bi (cb d)) (fun k => bi (ba k)) (fun k => nI (fr k)) (fun k => nI (tt k)) lk fa qu nb))) := by
  refine j_enter (by decide) (Nat.le_of_ble_eq_true rfl) (fun v hv => by simp only [List.mem_cons, List.not_mem_nil, or_false] at hv; rcases hv with rfl | rfl <;> rfl) (fun K hl hD hnm C R => ?_)
  subst hl; subst hD
  have C : jC cX1_setRule RX1 Y rm_X1_setRule 3 K := C
  have R : jR Y (some .boolean) 0 0 (jI (fun r w => r = bi ru ∧ w = (wM Y ad (nI 0) (nI P) (nI N) (bi on) (nI mv0) s0 qd (fun d => nI (nf d)) (fun d => nI (gf d)) (fun d => bi (cb d)) (fun k => bi (ba k)) (fun k => nI (fr k)) (fun k => nI (tt k)) lk fa qu nb))) K := R
  refine j_eq (lo' := [some (.ref (ad 0)), some (.int (bi on)), none]) rfl rfl rfl ?_
  refine j_aload_n C dX1_setRule_0 rfl ?_
  refine j_iconst C (nI 0) dX1_setRule_1 (by decide) ?_
  refine p1_thrown C dX1_setRule_2 ?_
  refine j_aload_n C dX1_setRule_5 rfl ?_
  refine g1_rule C dX1_setRule_6 ?_
  refine j_istore_2 C dX1_setRule_9 (by decide) ?_
  refine j_aload_n C dX1_setRule_10 rfl ?_
  refine j_iload_n C dX1_setRule_11 rfl ?_
  refine p1_rule C dX1_setRule_12 ?_
  refine j_iload_n C dX1_setRule_15 rfl ?_
  exact j_retz C R dX1_setRule_16 (bi_nar _) ⟨rfl, rfl⟩
abbrev rm_X1_arrangement : Room := { frames := 1, cells := 0, slots := 0, locals := 22 }
set_option maxHeartbeats 4000000 in
set_option maxRecDepth 100000 in
theorem ct_X1_arrangement {l : Launch} {D : va_G} {Y : jy_T} {ad : Nat → Nat} {P N a b mv0 : Nat} {ru : Bool} {cb ba : Nat → Bool} {nf gf fr tt : Nat → Nat} {th s0 qd : Int32} {lk fa qu nb : Nat → Int32} (hc : cfg P N) (ha : a < P ^ N) (hb : b < P ^ N) (hn : ∀ d, d < N → nf d = dg P a d) (hg : ∀ d, d < N → gf d = dg P b d) :
    MJ l yX1_arrangement cX1_arrangement 1 (some .int) rm_X1_arrangement D Y [.ref (ad 0)] (wM Y ad th (nI P) (nI N) (bi ru) (nI mv0) s0 qd (fun d => nI (nf d)) (fun d => nI (gf d)) (fun d => bi (cb d)) (fun k => bi (ba k)) (fun k => nI (fr k)) (fun k => nI (tt k)) lk fa qu nb) (jI (fun r w => r = nI a ∧ w = (wM Y ad (nI 0) (nI P) (nI N) (bi ru) (nI mv0) s0 qd (fun d => nI (nf d)) (fun d => nI (gf d)) (fun d => bi (cb d)) (fun k => bi (ba k)) (fun k => nI (fr k)) (fun k => nI (tt k)) lk fa qu nb))) := by
  refine j_enter (by decide) (Nat.le_of_ble_eq_true rfl) (fun v hv => by rw [List.mem_singleton.mp hv]; rfl) (fun K hl hD hnm C R => ?_)
  subst hl; subst hD
  have C : jC cX1_arrangement RX1 Y rm_X1_arrangement 1 K := C
  have R : jR Y (some .int) 0 0 (jI (fun r w => r = nI a ∧ w = (wM Y ad (nI 0) (nI P) (nI N) (bi ru) (nI mv0) s0 qd (fun d => nI (nf d)) (fun d => nI (gf d)) (fun d => bi (cb d)) (fun k => bi (ba k)) (fun k => nI (fr k)) (fun k => nI (tt k)) lk fa qu nb))) K := R
  refine j_eq (lo' := [some (.ref (ad 0))]) rfl rfl rfl ?_
  obtain ⟨hP3, hP5, hN1, hN6⟩ := id hc
  have hP0 : 0 < P := by omega
  have hp2 : P ^ N ≤ 15625 := cfg_pw hc (by omega)
  refine j_aload_n C dX1_arrangement_0 rfl ?_
  refine j_iconst C (nI 0) dX1_arrangement_1 (by decide) ?_
  refine p1_thrown C dX1_arrangement_2 ?_
  refine j_aload_n C dX1_arrangement_5 rfl ?_
  refine j_callV0i C (ct_X1_numberOfNow hc ha hn) gw_1_92 nd_X1_numberOfNow 1 0 rfl rfl rfl ⟨by decide, by decide⟩ ⟨Nat.le_of_ble_eq_true rfl, Nat.le_of_ble_eq_true rfl⟩ (Nat.le_of_ble_eq_true rfl) dX1_arrangement_6 (fun x_1 w_1 hp => ?_)
  obtain ⟨rfl, rfl⟩ := hp
  exact j_reti C R dX1_arrangement_9 ⟨rfl, rfl⟩
abbrev rm_X1_goal : Room := { frames := 1, cells := 0, slots := 0, locals := 22 }
set_option maxHeartbeats 4000000 in
set_option maxRecDepth 100000 in
theorem ct_X1_goal {l : Launch} {D : va_G} {Y : jy_T} {ad : Nat → Nat} {P N a b mv0 : Nat} {ru : Bool} {cb ba : Nat → Bool} {nf gf fr tt : Nat → Nat} {th s0 qd : Int32} {lk fa qu nb : Nat → Int32} (hc : cfg P N) (ha : a < P ^ N) (hb : b < P ^ N) (hn : ∀ d, d < N → nf d = dg P a d) (hg : ∀ d, d < N → gf d = dg P b d) :
    MJ l yX1_goal cX1_goal 1 (some .int) rm_X1_goal D Y [.ref (ad 0)] (wM Y ad th (nI P) (nI N) (bi ru) (nI mv0) s0 qd (fun d => nI (nf d)) (fun d => nI (gf d)) (fun d => bi (cb d)) (fun k => bi (ba k)) (fun k => nI (fr k)) (fun k => nI (tt k)) lk fa qu nb) (jI (fun r w => r = nI b ∧ w = (wM Y ad (nI 0) (nI P) (nI N) (bi ru) (nI mv0) s0 qd (fun d => nI (nf d)) (fun d => nI (gf d)) (fun d => bi (cb d)) (fun k => bi (ba k)) (fun k => nI (fr k)) (fun k => nI (tt k)) lk fa qu nb))) := by
  refine j_enter (by decide) (Nat.le_of_ble_eq_true rfl) (fun v hv => by rw [List.mem_singleton.mp hv]; rfl) (fun K hl hD hnm C R => ?_)
  subst hl; subst hD
  have C : jC cX1_goal RX1 Y rm_X1_goal 1 K := C
  have R : jR Y (some .int) 0 0 (jI (fun r w => r = nI b ∧ w = (wM Y ad (nI 0) (nI P) (nI N) (bi ru) (nI mv0) s0 qd (fun d => nI (nf d)) (fun d => nI (gf d)) (fun d => bi (cb d)) (fun k => bi (ba k)) (fun k => nI (fr k)) (fun k => nI (tt k)) lk fa qu nb))) K := R
  refine j_eq (lo' := [some (.ref (ad 0))]) rfl rfl rfl ?_
  obtain ⟨hP3, hP5, hN1, hN6⟩ := id hc
  have hP0 : 0 < P := by omega
  have hp2 : P ^ N ≤ 15625 := cfg_pw hc (by omega)
  refine j_aload_n C dX1_goal_0 rfl ?_
  refine j_iconst C (nI 0) dX1_goal_1 (by decide) ?_
  refine p1_thrown C dX1_goal_2 ?_
  refine j_aload_n C dX1_goal_5 rfl ?_
  refine j_callV0i C (ct_X1_numberOfGoal hc hb hg) gw_1_102 nd_X1_numberOfGoal 1 0 rfl rfl rfl ⟨by decide, by decide⟩ ⟨Nat.le_of_ble_eq_true rfl, Nat.le_of_ble_eq_true rfl⟩ (Nat.le_of_ble_eq_true rfl) dX1_goal_6 (fun x_1 w_1 hp => ?_)
  obtain ⟨rfl, rfl⟩ := hp
  exact j_reti C R dX1_goal_9 ⟨rfl, rfl⟩
abbrev rm_X1_isLawful : Room := { frames := 2, cells := 0, slots := 0, locals := 45 }
set_option maxHeartbeats 4000000 in
set_option maxRecDepth 100000 in
theorem ct_X1_isLawful {l : Launch} {D : va_G} {Y : jy_T} {ad : Nat → Nat} {P N a b mv0 : Nat} {ru : Bool} {cb ba : Nat → Bool} {nf gf fr tt : Nat → Nat} {th s0 qd : Int32} {lk fa qu nb : Nat → Int32} (hc : cfg P N) (ha : a < P ^ N) (hb : b < P ^ N) (hn : ∀ d, d < N → nf d = dg P a d) (hg : ∀ d, d < N → gf d = dg P b d) :
    MJ l yX1_isLawful cX1_isLawful 1 (some .boolean) rm_X1_isLawful D Y [.ref (ad 0)] (wM Y ad th (nI P) (nI N) (bi ru) (nI mv0) s0 qd (fun d => nI (nf d)) (fun d => nI (gf d)) (fun d => bi (cb d)) (fun k => bi (ba k)) (fun k => nI (fr k)) (fun k => nI (tt k)) lk fa qu nb) (jI (fun r w => ∃ lk1, r = bi (lawB P N ru cb a) ∧ w = (wM Y ad (nI 0) (nI P) (nI N) (bi ru) (nI mv0) s0 qd (fun d => nI (nf d)) (fun d => nI (gf d)) (fun d => bi (cb d)) (fun k => bi (ba k)) (fun k => nI (fr k)) (fun k => nI (tt k)) lk1 fa qu nb))) := by
  refine j_enter (by decide) (Nat.le_of_ble_eq_true rfl) (fun v hv => by rw [List.mem_singleton.mp hv]; rfl) (fun K hl hD hnm C R => ?_)
  subst hl; subst hD
  have C : jC cX1_isLawful RX1 Y rm_X1_isLawful 1 K := C
  have R : jR Y (some .boolean) 0 0 (jI (fun r w => ∃ lk1, r = bi (lawB P N ru cb a) ∧ w = (wM Y ad (nI 0) (nI P) (nI N) (bi ru) (nI mv0) s0 qd (fun d => nI (nf d)) (fun d => nI (gf d)) (fun d => bi (cb d)) (fun k => bi (ba k)) (fun k => nI (fr k)) (fun k => nI (tt k)) lk1 fa qu nb))) K := R
  refine j_eq (lo' := [some (.ref (ad 0))]) rfl rfl rfl ?_
  obtain ⟨hP3, hP5, hN1, hN6⟩ := id hc
  have hP0 : 0 < P := by omega
  have hp2 : P ^ N ≤ 15625 := cfg_pw hc (by omega)
  refine j_aload_n C dX1_isLawful_0 rfl ?_
  refine j_iconst C (nI 0) dX1_isLawful_1 (by decide) ?_
  refine p1_thrown C dX1_isLawful_2 ?_
  refine j_aload_n C dX1_isLawful_5 rfl ?_
  refine j_aload_n C dX1_isLawful_6 rfl ?_
  refine j_callV0i C (ct_X1_numberOfNow hc ha hn) gw_1_92 nd_X1_numberOfNow 1 0 rfl rfl rfl ⟨by decide, by decide⟩ ⟨Nat.le_of_ble_eq_true rfl, Nat.le_of_ble_eq_true rfl⟩ (Nat.le_of_ble_eq_true rfl) dX1_isLawful_7 (fun x_1 w_1 hp => ?_)
  obtain ⟨rfl, rfl⟩ := hp
  refine j_callV1i C (ct_X1_isLawfulNumber hc ha) gw_1_105 nd_X1_isLawfulNumber 1 0 rfl rfl rfl ⟨by decide, by decide⟩ ⟨Nat.le_of_ble_eq_true rfl, Nat.le_of_ble_eq_true rfl⟩ (Nat.le_of_ble_eq_true rfl) dX1_isLawful_10 (fun x_1 w_1 hp => ?_)
  obtain ⟨lk1, rfl, rfl⟩ := hp
  exact j_retz C R dX1_isLawful_13 (bi_nar _) ⟨lk1, rfl, rfl⟩
abbrev rm_X1_begin : Room := { frames := 1, cells := 0, slots := 0, locals := 23 }
set_option maxHeartbeats 4000000 in
set_option maxRecDepth 100000 in
theorem ct_X1_begin {l : Launch} {D : va_G} {Y : jy_T} {ad : Nat → Nat} {P N a b mv0 : Nat} {ru : Bool} {cb ba : Nat → Bool} {nf gf fr tt : Nat → Nat} {th s0 qd : Int32} {lk fa qu nb : Nat → Int32} {x y : Int32} :
    MJ l yX1_begin cX1_begin 3 (some .int) rm_X1_begin D Y [.ref (ad 0), .int x, .int y] (wM Y ad th (nI P) (nI N) (bi ru) (nI mv0) s0 qd (fun d => nI (nf d)) (fun d => nI (gf d)) (fun d => bi (cb d)) (fun k => bi (ba k)) (fun k => nI (fr k)) (fun k => nI (tt k)) lk fa qu nb) (jI (fun r w => (∃ P1 N1, x = nI P1 ∧ y = nI N1 ∧ cfg P1 N1 ∧ r = nI (P1 ^ N1) ∧ w = (wM Y ad (nI 0) (nI P1) (nI N1) (bi false) (nI 0) s0 qd (fun d => nI ((fun _ => 0) d)) (fun d => nI ((fun _ => P1 - 1) d)) (fun d => bi ((fun _ => false) d)) (fun k => bi ((fun _ => false) k)) (fun k => nI (fr k)) (fun k => nI (tt k)) lk fa qu nb)) ∨ ((rg x 3 5 && rg y 1 6) = false ∧ w = (wM Y ad (nI 1) (nI P) (nI N) (bi ru) (nI mv0) s0 qd (fun d => nI (nf d)) (fun d => nI (gf d)) (fun d => bi (cb d)) (fun k => bi (ba k)) (fun k => nI (fr k)) (fun k => nI (tt k)) lk fa qu nb)))) := by
  refine j_enter (by decide) (Nat.le_of_ble_eq_true rfl) (fun v hv => by simp only [List.mem_cons, List.not_mem_nil, or_false] at hv; rcases hv with rfl | rfl | rfl <;> rfl) (fun K hl hD hnm C R => ?_)
  subst hl; subst hD
  have C : jC cX1_begin RX1 Y rm_X1_begin 3 K := C
  have R : jR Y (some .int) 0 0 (jI (fun r w => (∃ P1 N1, x = nI P1 ∧ y = nI N1 ∧ cfg P1 N1 ∧ r = nI (P1 ^ N1) ∧ w = (wM Y ad (nI 0) (nI P1) (nI N1) (bi false) (nI 0) s0 qd (fun d => nI ((fun _ => 0) d)) (fun d => nI ((fun _ => P1 - 1) d)) (fun d => bi ((fun _ => false) d)) (fun k => bi ((fun _ => false) k)) (fun k => nI (fr k)) (fun k => nI (tt k)) lk fa qu nb)) ∨ ((rg x 3 5 && rg y 1 6) = false ∧ w = (wM Y ad (nI 1) (nI P) (nI N) (bi ru) (nI mv0) s0 qd (fun d => nI (nf d)) (fun d => nI (gf d)) (fun d => bi (cb d)) (fun k => bi (ba k)) (fun k => nI (fr k)) (fun k => nI (tt k)) lk fa qu nb)))) K := R
  refine j_eq (lo' := [some (.ref (ad 0)), some (.int x), some (.int y)]) rfl rfl rfl ?_
  refine j_aload_n C dX1_begin_0 rfl ?_
  refine j_iload_n C dX1_begin_1 rfl ?_
  refine j_iconst C (nI 3) dX1_begin_2 (by decide) ?_
  refine j_iconst C (nI 5) dX1_begin_3 (by decide) ?_
  refine j_callS3i C (ct_X1_in (ad := ad) (by omega) (by omega)) gw_1_55 rfl nd_X1_in ⟨by decide, by decide⟩ ⟨Nat.le_of_ble_eq_true rfl, Nat.le_of_ble_eq_true rfl⟩ (Nat.le_of_ble_eq_true rfl) dX1_begin_4 (fun x_1 w_1 hp => ?_)
  obtain ⟨rfl, rfl⟩ := hp
  refine jB_if_eq C 24 dX1_begin_7 (by decide) (fun c_7 => ?_) (fun c_7 => ?_)
  · refine j_iconst C (nI 1) dX1_begin_24 (by decide) ?_
    refine j_callV1i C (ct_X1_goesWell (by omega)) gw_1_66 nd_X1_goesWell 1 0 rfl rfl rfl ⟨by decide, by decide⟩ ⟨Nat.le_of_ble_eq_true rfl, Nat.le_of_ble_eq_true rfl⟩ (Nat.le_of_ble_eq_true rfl) dX1_begin_25 (fun x_1 w_1 hp => ?_)
    obtain ⟨rfl, rfl⟩ := hp
    refine jB_if_ne C 33 dX1_begin_28 (by decide) (fun c_28 => ?_) (fun c_28 => ?_)
    · exact absurd c_28 (by decide)
    · refine j_iconst C (nI 0) dX1_begin_31 (by decide) ?_
      exact j_reti C R dX1_begin_32 (Or.inr ⟨by rw [c_7]; rfl, rfl⟩)
  · refine j_iload_n C dX1_begin_10 rfl ?_
    refine j_iconst C (nI 1) dX1_begin_11 (by decide) ?_
    refine j_bipush C (nI 6) dX1_begin_12 (by decide) ?_
    refine j_callS3i C (ct_X1_in (ad := ad) (by omega) (by omega)) gw_1_55 rfl nd_X1_in ⟨by decide, by decide⟩ ⟨Nat.le_of_ble_eq_true rfl, Nat.le_of_ble_eq_true rfl⟩ (Nat.le_of_ble_eq_true rfl) dX1_begin_14 (fun x_1 w_1 hp => ?_)
    obtain ⟨rfl, rfl⟩ := hp
    refine jB_if_eq C 24 dX1_begin_17 (by decide) (fun c_17 => ?_) (fun c_17 => ?_)
    · refine j_iconst C (nI 1) dX1_begin_24 (by decide) ?_
      refine j_callV1i C (ct_X1_goesWell (by omega)) gw_1_66 nd_X1_goesWell 1 0 rfl rfl rfl ⟨by decide, by decide⟩ ⟨Nat.le_of_ble_eq_true rfl, Nat.le_of_ble_eq_true rfl⟩ (Nat.le_of_ble_eq_true rfl) dX1_begin_25 (fun x_1 w_1 hp => ?_)
      obtain ⟨rfl, rfl⟩ := hp
      refine jB_if_ne C 33 dX1_begin_28 (by decide) (fun c_28 => ?_) (fun c_28 => ?_)
      · exact absurd c_28 (by decide)
      · refine j_iconst C (nI 0) dX1_begin_31 (by decide) ?_
        exact j_reti C R dX1_begin_32 (Or.inr ⟨by rw [c_17, Bool.and_false], rfl⟩)
    · refine j_iconst C (nI 0) dX1_begin_20 (by decide) ?_
      refine j_goto C 25 dX1_begin_21 (by decide) ?_
      refine j_callV1i C (ct_X1_goesWell (by omega)) gw_1_66 nd_X1_goesWell 1 0 rfl rfl rfl ⟨by decide, by decide⟩ ⟨Nat.le_of_ble_eq_true rfl, Nat.le_of_ble_eq_true rfl⟩ (Nat.le_of_ble_eq_true rfl) dX1_begin_25 (fun x_1 w_1 hp => ?_)
      obtain ⟨rfl, rfl⟩ := hp
      refine jB_if_ne C 33 dX1_begin_28 (by decide) (fun c_28 => ?_) (fun c_28 => ?_)
      · obtain ⟨P1, hp1, hp5, rfl⟩ := rg_of (by omega) c_7
        obtain ⟨N1, hn1, hn6, rfl⟩ := rg_of (by omega) c_17
        have hc1 : cfg P1 N1 := ⟨hp1, hp5, hn1, hn6⟩
        refine j_aload_n C dX1_begin_33 rfl ?_
        refine j_iload_n C dX1_begin_34 rfl ?_
        refine j_iload_n C dX1_begin_35 rfl ?_
        refine j_callV2v C (ct_X1_lay hc1) gw_1_48 nd_X1_lay 1 0 rfl rfl rfl ⟨by decide, by decide⟩ ⟨Nat.le_of_ble_eq_true rfl, Nat.le_of_ble_eq_true rfl⟩ (Nat.le_of_ble_eq_true rfl) dX1_begin_36 (fun w_1 hp => ?_)
        subst hp
        refine j_aload_n C dX1_begin_39 rfl ?_
        refine j_callV0i C (ct_X1_all (by omega)) gw_1_70 nd_X1_all 1 0 rfl rfl rfl ⟨by decide, by decide⟩ ⟨Nat.le_of_ble_eq_true rfl, Nat.le_of_ble_eq_true rfl⟩ (Nat.le_of_ble_eq_true rfl) dX1_begin_40 (fun x_1 w_1 hp => ?_)
        obtain ⟨rfl, rfl⟩ := hp
        exact j_reti C R dX1_begin_43 (Or.inl ⟨P1, N1, rfl, rfl, hc1, rfl, rfl⟩)
      · exact absurd c_28 (by decide)
abbrev rm_X1_put : Room := { frames := 2, cells := 0, slots := 0, locals := 43 }
set_option maxHeartbeats 4000000 in
set_option maxRecDepth 100000 in
theorem ct_X1_put {l : Launch} {D : va_G} {Y : jy_T} {ad : Nat → Nat} {P N a b mv0 : Nat} {ru : Bool} {cb ba : Nat → Bool} {nf gf fr tt : Nat → Nat} {th s0 qd : Int32} {lk fa qu nb : Nat → Int32} {x y : Int32} (hc : cfg P N) (hm0 : mv0 < 2 ^ 31) :
    MJ l yX1_put cX1_put 4 (some .int) rm_X1_put D Y [.ref (ad 0), .int x, .int y] (wM Y ad th (nI P) (nI N) (bi ru) (nI mv0) s0 qd (fun d => nI (nf d)) (fun d => nI (gf d)) (fun d => bi (cb d)) (fun k => bi (ba k)) (fun k => nI (fr k)) (fun k => nI (tt k)) lk fa qu nb) (jI (fun r w => (∃ d t, x = nI d ∧ d < N ∧ y = nI t ∧ t < P ∧ mv0 = 0 ∧ r = nI (nf d) ∧ w = (wM Y ad (nI 0) (nI P) (nI N) (bi ru) (nI mv0) s0 qd (fun k => nI (updN nf d t k)) (fun d => nI (gf d)) (fun d => bi (cb d)) (fun k => bi (ba k)) (fun k => nI (fr k)) (fun k => nI (tt k)) lk fa qu nb)) ∨ ((inr x N && inr y P) = false ∧ w = (wM Y ad (nI 1) (nI P) (nI N) (bi ru) (nI mv0) s0 qd (fun d => nI (nf d)) (fun d => nI (gf d)) (fun d => bi (cb d)) (fun k => bi (ba k)) (fun k => nI (fr k)) (fun k => nI (tt k)) lk fa qu nb)) ∨ ((inr x N && inr y P) = true ∧ 0 < mv0 ∧ w = (wM Y ad (nI 2) (nI P) (nI N) (bi ru) (nI mv0) s0 qd (fun d => nI (nf d)) (fun d => nI (gf d)) (fun d => bi (cb d)) (fun k => bi (ba k)) (fun k => nI (fr k)) (fun k => nI (tt k)) lk fa qu nb)))) := by
  refine j_enter (by decide) (Nat.le_of_ble_eq_true rfl) (fun v hv => by simp only [List.mem_cons, List.not_mem_nil, or_false] at hv; rcases hv with rfl | rfl | rfl <;> rfl) (fun K hl hD hnm C R => ?_)
  subst hl; subst hD
  have C : jC cX1_put RX1 Y rm_X1_put 4 K := C
  have R : jR Y (some .int) 0 0 (jI (fun r w => (∃ d t, x = nI d ∧ d < N ∧ y = nI t ∧ t < P ∧ mv0 = 0 ∧ r = nI (nf d) ∧ w = (wM Y ad (nI 0) (nI P) (nI N) (bi ru) (nI mv0) s0 qd (fun k => nI (updN nf d t k)) (fun d => nI (gf d)) (fun d => bi (cb d)) (fun k => bi (ba k)) (fun k => nI (fr k)) (fun k => nI (tt k)) lk fa qu nb)) ∨ ((inr x N && inr y P) = false ∧ w = (wM Y ad (nI 1) (nI P) (nI N) (bi ru) (nI mv0) s0 qd (fun d => nI (nf d)) (fun d => nI (gf d)) (fun d => bi (cb d)) (fun k => bi (ba k)) (fun k => nI (fr k)) (fun k => nI (tt k)) lk fa qu nb)) ∨ ((inr x N && inr y P) = true ∧ 0 < mv0 ∧ w = (wM Y ad (nI 2) (nI P) (nI N) (bi ru) (nI mv0) s0 qd (fun d => nI (nf d)) (fun d => nI (gf d)) (fun d => bi (cb d)) (fun k => bi (ba k)) (fun k => nI (fr k)) (fun k => nI (tt k)) lk fa qu nb)))) K := R
  refine j_eq (lo' := [some (.ref (ad 0)), some (.int x), some (.int y), none]) rfl rfl rfl ?_
  obtain ⟨hP3, hP5, hN1, hN6⟩ := id hc
  refine j_aload_n C dX1_put_0 rfl ?_
  refine j_aload_n C dX1_put_1 rfl ?_
  refine j_iload_n C dX1_put_2 rfl ?_
  refine j_callV1i C (ct_X1_isDisk (by omega) (by omega)) gw_1_74 nd_X1_isDisk 1 0 rfl rfl rfl ⟨by decide, by decide⟩ ⟨Nat.le_of_ble_eq_true rfl, Nat.le_of_ble_eq_true rfl⟩ (Nat.le_of_ble_eq_true rfl) dX1_put_3 (fun x_1 w_1 hp => ?_)
  obtain ⟨rfl, rfl⟩ := hp
  refine jB_if_eq C 17 dX1_put_6 (by decide) (fun c_6 => ?_) (fun c_6 => ?_)
  · refine j_iconst C (nI 1) dX1_put_17 (by decide) ?_
    refine j_goto C 33 dX1_put_18 (by decide) ?_
    refine j_callV1i C (ct_X1_goesWell (by omega)) gw_1_66 nd_X1_goesWell 1 0 rfl rfl rfl ⟨by decide, by decide⟩ ⟨Nat.le_of_ble_eq_true rfl, Nat.le_of_ble_eq_true rfl⟩ (Nat.le_of_ble_eq_true rfl) dX1_put_33 (fun x_1 w_1 hp => ?_)
    obtain ⟨rfl, rfl⟩ := hp
    refine jB_if_ne C 41 dX1_put_36 (by decide) (fun c_36 => ?_) (fun c_36 => ?_)
    · exact absurd c_36 (by decide)
    · refine j_iconst C (nI 0) dX1_put_39 (by decide) ?_
      exact j_reti C R dX1_put_40 (Or.inr (Or.inl ⟨by rw [c_6]; rfl, rfl⟩))
  · refine j_aload_n C dX1_put_9 rfl ?_
    refine j_iload_n C dX1_put_10 rfl ?_
    refine j_callV1i C (ct_X1_isPeg (by omega) (by omega)) gw_1_77 nd_X1_isPeg 1 0 rfl rfl rfl ⟨by decide, by decide⟩ ⟨Nat.le_of_ble_eq_true rfl, Nat.le_of_ble_eq_true rfl⟩ (Nat.le_of_ble_eq_true rfl) dX1_put_11 (fun x_1 w_1 hp => ?_)
    obtain ⟨rfl, rfl⟩ := hp
    refine jB_if_ne C 21 dX1_put_14 (by decide) (fun c_14 => ?_) (fun c_14 => ?_)
    · refine j_aload_n C dX1_put_21 rfl ?_
      refine g1_moves C dX1_put_22 ?_
      refine j_if_le C 32 dX1_put_25 (by decide) (fun c_25 => ?_) (fun c_25 => ?_)
      · refine j_iconst C (nI 0) dX1_put_32 (by decide) ?_
        refine j_callV1i C (ct_X1_goesWell (by omega)) gw_1_66 nd_X1_goesWell 1 0 rfl rfl rfl ⟨by decide, by decide⟩ ⟨Nat.le_of_ble_eq_true rfl, Nat.le_of_ble_eq_true rfl⟩ (Nat.le_of_ble_eq_true rfl) dX1_put_33 (fun x_1 w_1 hp => ?_)
        obtain ⟨rfl, rfl⟩ := hp
        refine jB_if_ne C 41 dX1_put_36 (by decide) (fun c_36 => ?_) (fun c_36 => ?_)
        · obtain ⟨d, hd, rfl⟩ := inr_of c_6 (by omega)
          obtain ⟨t, ht, rfl⟩ := inr_of c_14 (by omega)
          refine j_aload_n C dX1_put_41 rfl ?_
          refine g1_now C dX1_put_42 ?_
          refine j_iload_n C dX1_put_45 rfl ?_
          refine l1_nw C _ rfl (by omega) dX1_put_46 ?_
          refine j_istore_3 C dX1_put_47 (by decide) ?_
          refine j_aload_n C dX1_put_48 rfl ?_
          refine g1_now C dX1_put_49 ?_
          refine j_iload_n C dX1_put_52 rfl ?_
          refine j_iload_n C dX1_put_53 rfl ?_
          refine s1_nw C _ rfl (by omega) dX1_put_54 ?_
          refine j_iload_n C dX1_put_55 rfl ?_
          exact j_reti C R dX1_put_56 (Or.inl ⟨d, t, rfl, hd, rfl, ht, by have h : nI mv0 ≤ nI 0 := c_25; rw [nI_leI (by omega) (by omega)] at h; omega, rfl, by rw [upd_nI]⟩)
        · exact absurd c_36 (by decide)
      · refine j_iconst C (nI 2) dX1_put_28 (by decide) ?_
        refine j_goto C 33 dX1_put_29 (by decide) ?_
        refine j_callV1i C (ct_X1_goesWell (by omega)) gw_1_66 nd_X1_goesWell 1 0 rfl rfl rfl ⟨by decide, by decide⟩ ⟨Nat.le_of_ble_eq_true rfl, Nat.le_of_ble_eq_true rfl⟩ (Nat.le_of_ble_eq_true rfl) dX1_put_33 (fun x_1 w_1 hp => ?_)
        obtain ⟨rfl, rfl⟩ := hp
        refine jB_if_ne C 41 dX1_put_36 (by decide) (fun c_36 => ?_) (fun c_36 => ?_)
        · exact absurd c_36 (by decide)
        · refine j_iconst C (nI 0) dX1_put_39 (by decide) ?_
          exact j_reti C R dX1_put_40 (Or.inr (Or.inr ⟨by rw [c_6, c_14]; rfl, by have h : ¬ nI mv0 ≤ nI 0 := c_25; rw [nI_leI (by omega) (by omega)] at h; omega, rfl⟩))
    · refine j_iconst C (nI 1) dX1_put_17 (by decide) ?_
      refine j_goto C 33 dX1_put_18 (by decide) ?_
      refine j_callV1i C (ct_X1_goesWell (by omega)) gw_1_66 nd_X1_goesWell 1 0 rfl rfl rfl ⟨by decide, by decide⟩ ⟨Nat.le_of_ble_eq_true rfl, Nat.le_of_ble_eq_true rfl⟩ (Nat.le_of_ble_eq_true rfl) dX1_put_33 (fun x_1 w_1 hp => ?_)
      obtain ⟨rfl, rfl⟩ := hp
      refine jB_if_ne C 41 dX1_put_36 (by decide) (fun c_36 => ?_) (fun c_36 => ?_)
      · exact absurd c_36 (by decide)
      · refine j_iconst C (nI 0) dX1_put_39 (by decide) ?_
        exact j_reti C R dX1_put_40 (Or.inr (Or.inl ⟨by rw [c_14, Bool.and_false], rfl⟩))
abbrev rm_X1_aim : Room := { frames := 2, cells := 0, slots := 0, locals := 43 }
set_option maxHeartbeats 4000000 in
set_option maxRecDepth 100000 in
theorem ct_X1_aim {l : Launch} {D : va_G} {Y : jy_T} {ad : Nat → Nat} {P N a b mv0 : Nat} {ru : Bool} {cb ba : Nat → Bool} {nf gf fr tt : Nat → Nat} {th s0 qd : Int32} {lk fa qu nb : Nat → Int32} {x y : Int32} (hc : cfg P N) :
    MJ l yX1_aim cX1_aim 4 (some .int) rm_X1_aim D Y [.ref (ad 0), .int x, .int y] (wM Y ad th (nI P) (nI N) (bi ru) (nI mv0) s0 qd (fun d => nI (nf d)) (fun d => nI (gf d)) (fun d => bi (cb d)) (fun k => bi (ba k)) (fun k => nI (fr k)) (fun k => nI (tt k)) lk fa qu nb) (jI (fun r w => (∃ d t, x = nI d ∧ d < N ∧ y = nI t ∧ t < P ∧ r = nI (gf d) ∧ w = (wM Y ad (nI 0) (nI P) (nI N) (bi ru) (nI mv0) s0 qd (fun d => nI (nf d)) (fun k => nI (updN gf d t k)) (fun d => bi (cb d)) (fun k => bi (ba k)) (fun k => nI (fr k)) (fun k => nI (tt k)) lk fa qu nb)) ∨ ((inr x N && inr y P) = false ∧ w = (wM Y ad (nI 1) (nI P) (nI N) (bi ru) (nI mv0) s0 qd (fun d => nI (nf d)) (fun d => nI (gf d)) (fun d => bi (cb d)) (fun k => bi (ba k)) (fun k => nI (fr k)) (fun k => nI (tt k)) lk fa qu nb)))) := by
  refine j_enter (by decide) (Nat.le_of_ble_eq_true rfl) (fun v hv => by simp only [List.mem_cons, List.not_mem_nil, or_false] at hv; rcases hv with rfl | rfl | rfl <;> rfl) (fun K hl hD hnm C R => ?_)
  subst hl; subst hD
  have C : jC cX1_aim RX1 Y rm_X1_aim 4 K := C
  have R : jR Y (some .int) 0 0 (jI (fun r w => (∃ d t, x = nI d ∧ d < N ∧ y = nI t ∧ t < P ∧ r = nI (gf d) ∧ w = (wM Y ad (nI 0) (nI P) (nI N) (bi ru) (nI mv0) s0 qd (fun d => nI (nf d)) (fun k => nI (updN gf d t k)) (fun d => bi (cb d)) (fun k => bi (ba k)) (fun k => nI (fr k)) (fun k => nI (tt k)) lk fa qu nb)) ∨ ((inr x N && inr y P) = false ∧ w = (wM Y ad (nI 1) (nI P) (nI N) (bi ru) (nI mv0) s0 qd (fun d => nI (nf d)) (fun d => nI (gf d)) (fun d => bi (cb d)) (fun k => bi (ba k)) (fun k => nI (fr k)) (fun k => nI (tt k)) lk fa qu nb)))) K := R
  refine j_eq (lo' := [some (.ref (ad 0)), some (.int x), some (.int y), none]) rfl rfl rfl ?_
  obtain ⟨hP3, hP5, hN1, hN6⟩ := id hc
  refine j_aload_n C dX1_aim_0 rfl ?_
  refine j_aload_n C dX1_aim_1 rfl ?_
  refine j_iload_n C dX1_aim_2 rfl ?_
  refine j_callV1i C (ct_X1_isDisk (by omega) (by omega)) gw_1_74 nd_X1_isDisk 1 0 rfl rfl rfl ⟨by decide, by decide⟩ ⟨Nat.le_of_ble_eq_true rfl, Nat.le_of_ble_eq_true rfl⟩ (Nat.le_of_ble_eq_true rfl) dX1_aim_3 (fun x_1 w_1 hp => ?_)
  obtain ⟨rfl, rfl⟩ := hp
  refine jB_if_eq C 21 dX1_aim_6 (by decide) (fun c_6 => ?_) (fun c_6 => ?_)
  · refine j_iconst C (nI 1) dX1_aim_21 (by decide) ?_
    refine j_callV1i C (ct_X1_goesWell (by omega)) gw_1_66 nd_X1_goesWell 1 0 rfl rfl rfl ⟨by decide, by decide⟩ ⟨Nat.le_of_ble_eq_true rfl, Nat.le_of_ble_eq_true rfl⟩ (Nat.le_of_ble_eq_true rfl) dX1_aim_22 (fun x_1 w_1 hp => ?_)
    obtain ⟨rfl, rfl⟩ := hp
    refine jB_if_ne C 30 dX1_aim_25 (by decide) (fun c_25 => ?_) (fun c_25 => ?_)
    · exact absurd c_25 (by decide)
    · refine j_iconst C (nI 0) dX1_aim_28 (by decide) ?_
      exact j_reti C R dX1_aim_29 (Or.inr ⟨by rw [c_6]; rfl, rfl⟩)
  · refine j_aload_n C dX1_aim_9 rfl ?_
    refine j_iload_n C dX1_aim_10 rfl ?_
    refine j_callV1i C (ct_X1_isPeg (by omega) (by omega)) gw_1_77 nd_X1_isPeg 1 0 rfl rfl rfl ⟨by decide, by decide⟩ ⟨Nat.le_of_ble_eq_true rfl, Nat.le_of_ble_eq_true rfl⟩ (Nat.le_of_ble_eq_true rfl) dX1_aim_11 (fun x_1 w_1 hp => ?_)
    obtain ⟨rfl, rfl⟩ := hp
    refine jB_if_eq C 21 dX1_aim_14 (by decide) (fun c_14 => ?_) (fun c_14 => ?_)
    · refine j_iconst C (nI 1) dX1_aim_21 (by decide) ?_
      refine j_callV1i C (ct_X1_goesWell (by omega)) gw_1_66 nd_X1_goesWell 1 0 rfl rfl rfl ⟨by decide, by decide⟩ ⟨Nat.le_of_ble_eq_true rfl, Nat.le_of_ble_eq_true rfl⟩ (Nat.le_of_ble_eq_true rfl) dX1_aim_22 (fun x_1 w_1 hp => ?_)
      obtain ⟨rfl, rfl⟩ := hp
      refine jB_if_ne C 30 dX1_aim_25 (by decide) (fun c_25 => ?_) (fun c_25 => ?_)
      · exact absurd c_25 (by decide)
      · refine j_iconst C (nI 0) dX1_aim_28 (by decide) ?_
        exact j_reti C R dX1_aim_29 (Or.inr ⟨by rw [c_14, Bool.and_false], rfl⟩)
    · refine j_iconst C (nI 0) dX1_aim_17 (by decide) ?_
      refine j_goto C 22 dX1_aim_18 (by decide) ?_
      refine j_callV1i C (ct_X1_goesWell (by omega)) gw_1_66 nd_X1_goesWell 1 0 rfl rfl rfl ⟨by decide, by decide⟩ ⟨Nat.le_of_ble_eq_true rfl, Nat.le_of_ble_eq_true rfl⟩ (Nat.le_of_ble_eq_true rfl) dX1_aim_22 (fun x_1 w_1 hp => ?_)
      obtain ⟨rfl, rfl⟩ := hp
      refine jB_if_ne C 30 dX1_aim_25 (by decide) (fun c_25 => ?_) (fun c_25 => ?_)
      · obtain ⟨d, hd, rfl⟩ := inr_of c_6 (by omega)
        obtain ⟨t, ht, rfl⟩ := inr_of c_14 (by omega)
        refine j_aload_n C dX1_aim_30 rfl ?_
        refine g1_goal C dX1_aim_31 ?_
        refine j_iload_n C dX1_aim_34 rfl ?_
        refine l1_gl C _ rfl (by omega) dX1_aim_35 ?_
        refine j_istore_3 C dX1_aim_36 (by decide) ?_
        refine j_aload_n C dX1_aim_37 rfl ?_
        refine g1_goal C dX1_aim_38 ?_
        refine j_iload_n C dX1_aim_41 rfl ?_
        refine j_iload_n C dX1_aim_42 rfl ?_
        refine s1_gl C _ rfl (by omega) dX1_aim_43 ?_
        refine j_iload_n C dX1_aim_44 rfl ?_
        exact j_reti C R dX1_aim_45 (Or.inl ⟨d, t, rfl, hd, rfl, ht, rfl, by rw [upd_nI]⟩)
      · exact absurd c_25 (by decide)
abbrev rm_X1_allow : Room := { frames := 2, cells := 0, slots := 0, locals := 43 }
set_option maxHeartbeats 4000000 in
set_option maxRecDepth 100000 in
theorem ct_X1_allow {l : Launch} {D : va_G} {Y : jy_T} {ad : Nat → Nat} {P N a b mv0 : Nat} {ru : Bool} {cb ba : Nat → Bool} {nf gf fr tt : Nat → Nat} {th s0 qd : Int32} {lk fa qu nb : Nat → Int32} {x y : Int32} {z : Bool} (hc : cfg P N) :
    MJ l yX1_allow cX1_allow 5 (some .boolean) rm_X1_allow D Y [.ref (ad 0), .int x, .int y, .int (bi z)] (wM Y ad th (nI P) (nI N) (bi ru) (nI mv0) s0 qd (fun d => nI (nf d)) (fun d => nI (gf d)) (fun d => bi (cb d)) (fun k => bi (ba k)) (fun k => nI (fr k)) (fun k => nI (tt k)) lk fa qu nb) (jI (fun r w => (∃ f t, x = nI f ∧ f < P ∧ y = nI t ∧ t < P ∧ f ≠ t ∧ r = bi (!ba (f * 5 + t)) ∧ w = (wM Y ad (nI 0) (nI P) (nI N) (bi ru) (nI mv0) s0 qd (fun d => nI (nf d)) (fun d => nI (gf d)) (fun d => bi (cb d)) (fun k => bi (va_up ba (f * 5 + t) (!z) k)) (fun k => nI (fr k)) (fun k => nI (tt k)) lk fa qu nb)) ∨ ((inr x P && inr y P) = false ∧ w = (wM Y ad (nI 1) (nI P) (nI N) (bi ru) (nI mv0) s0 qd (fun d => nI (nf d)) (fun d => nI (gf d)) (fun d => bi (cb d)) (fun k => bi (ba k)) (fun k => nI (fr k)) (fun k => nI (tt k)) lk fa qu nb)) ∨ ((inr x P && inr y P) = true ∧ x = y ∧ w = (wM Y ad (nI 2) (nI P) (nI N) (bi ru) (nI mv0) s0 qd (fun d => nI (nf d)) (fun d => nI (gf d)) (fun d => bi (cb d)) (fun k => bi (ba k)) (fun k => nI (fr k)) (fun k => nI (tt k)) lk fa qu nb)))) := by
  refine j_enter (by decide) (Nat.le_of_ble_eq_true rfl) (fun v hv => by simp only [List.mem_cons, List.not_mem_nil, or_false] at hv; rcases hv with rfl | rfl | rfl | rfl <;> rfl) (fun K hl hD hnm C R => ?_)
  subst hl; subst hD
  have C : jC cX1_allow RX1 Y rm_X1_allow 5 K := C
  have R : jR Y (some .boolean) 0 0 (jI (fun r w => (∃ f t, x = nI f ∧ f < P ∧ y = nI t ∧ t < P ∧ f ≠ t ∧ r = bi (!ba (f * 5 + t)) ∧ w = (wM Y ad (nI 0) (nI P) (nI N) (bi ru) (nI mv0) s0 qd (fun d => nI (nf d)) (fun d => nI (gf d)) (fun d => bi (cb d)) (fun k => bi (va_up ba (f * 5 + t) (!z) k)) (fun k => nI (fr k)) (fun k => nI (tt k)) lk fa qu nb)) ∨ ((inr x P && inr y P) = false ∧ w = (wM Y ad (nI 1) (nI P) (nI N) (bi ru) (nI mv0) s0 qd (fun d => nI (nf d)) (fun d => nI (gf d)) (fun d => bi (cb d)) (fun k => bi (ba k)) (fun k => nI (fr k)) (fun k => nI (tt k)) lk fa qu nb)) ∨ ((inr x P && inr y P) = true ∧ x = y ∧ w = (wM Y ad (nI 2) (nI P) (nI N) (bi ru) (nI mv0) s0 qd (fun d => nI (nf d)) (fun d => nI (gf d)) (fun d => bi (cb d)) (fun k => bi (ba k)) (fun k => nI (fr k)) (fun k => nI (tt k)) lk fa qu nb)))) K := R
  refine j_eq (lo' := [some (.ref (ad 0)), some (.int x), some (.int y), some (.int (bi z)), none]) rfl rfl rfl ?_
  obtain ⟨hP3, hP5, hN1, hN6⟩ := id hc
  refine j_aload_n C dX1_allow_0 rfl ?_
  refine j_aload_n C dX1_allow_1 rfl ?_
  refine j_iload_n C dX1_allow_2 rfl ?_
  refine j_callV1i C (ct_X1_isPeg (by omega) (by omega)) gw_1_77 nd_X1_isPeg 1 0 rfl rfl rfl ⟨by decide, by decide⟩ ⟨Nat.le_of_ble_eq_true rfl, Nat.le_of_ble_eq_true rfl⟩ (Nat.le_of_ble_eq_true rfl) dX1_allow_3 (fun x_1 w_1 hp => ?_)
  obtain ⟨rfl, rfl⟩ := hp
  refine jB_if_eq C 17 dX1_allow_6 (by decide) (fun c_6 => ?_) (fun c_6 => ?_)
  · refine j_iconst C (nI 1) dX1_allow_17 (by decide) ?_
    refine j_goto C 31 dX1_allow_18 (by decide) ?_
    refine j_callV1i C (ct_X1_goesWell (by omega)) gw_1_66 nd_X1_goesWell 1 0 rfl rfl rfl ⟨by decide, by decide⟩ ⟨Nat.le_of_ble_eq_true rfl, Nat.le_of_ble_eq_true rfl⟩ (Nat.le_of_ble_eq_true rfl) dX1_allow_31 (fun x_1 w_1 hp => ?_)
    obtain ⟨rfl, rfl⟩ := hp
    refine jB_if_ne C 39 dX1_allow_34 (by decide) (fun c_34 => ?_) (fun c_34 => ?_)
    · exact absurd c_34 (by decide)
    · refine j_iconst C (nI 0) dX1_allow_37 (by decide) ?_
      exact j_retz C R dX1_allow_38 rfl (Or.inr (Or.inl ⟨by rw [c_6]; rfl, rfl⟩))
  · refine j_aload_n C dX1_allow_9 rfl ?_
    refine j_iload_n C dX1_allow_10 rfl ?_
    refine j_callV1i C (ct_X1_isPeg (by omega) (by omega)) gw_1_77 nd_X1_isPeg 1 0 rfl rfl rfl ⟨by decide, by decide⟩ ⟨Nat.le_of_ble_eq_true rfl, Nat.le_of_ble_eq_true rfl⟩ (Nat.le_of_ble_eq_true rfl) dX1_allow_11 (fun x_1 w_1 hp => ?_)
    obtain ⟨rfl, rfl⟩ := hp
    refine jB_if_ne C 21 dX1_allow_14 (by decide) (fun c_14 => ?_) (fun c_14 => ?_)
    · refine j_iload_n C dX1_allow_21 rfl ?_
      refine j_iload_n C dX1_allow_22 rfl ?_
      refine j_icmp_ne C 30 dX1_allow_23 (by decide) (fun c_23 => ?_) (fun c_23 => ?_)
      · refine j_iconst C (nI 0) dX1_allow_30 (by decide) ?_
        refine j_callV1i C (ct_X1_goesWell (by omega)) gw_1_66 nd_X1_goesWell 1 0 rfl rfl rfl ⟨by decide, by decide⟩ ⟨Nat.le_of_ble_eq_true rfl, Nat.le_of_ble_eq_true rfl⟩ (Nat.le_of_ble_eq_true rfl) dX1_allow_31 (fun x_1 w_1 hp => ?_)
        obtain ⟨rfl, rfl⟩ := hp
        refine jB_if_ne C 39 dX1_allow_34 (by decide) (fun c_34 => ?_) (fun c_34 => ?_)
        · obtain ⟨f, hf, rfl⟩ := inr_of c_6 (by omega)
          obtain ⟨t, ht, rfl⟩ := inr_of c_14 (by omega)
          refine j_aload_n C dX1_allow_39 rfl ?_
          refine g1_isBarred C dX1_allow_40 ?_
          refine j_iconst C (nI 5) dX1_allow_43 (by decide) ?_
          refine j_iload_n C dX1_allow_44 rfl ?_
          refine j_imul C dX1_allow_45 ?_
          refine j_top _ _ (pk_mul _ _) ?_
          refine j_iload_n C dX1_allow_46 rfl ?_
          refine j_iadd C dX1_allow_47 ?_
          refine j_top _ _ (nI_add _ _) ?_
          refine l1_ba C (f * 5 + t) (by rw [Nat.mul_comm]) (by omega) dX1_allow_48 ?_
          refine jB_if_ne C 56 dX1_allow_49 (by decide) (fun c_49 => ?_) (fun c_49 => ?_)
          · refine j_iconst C (bi false) dX1_allow_56 (by decide) ?_
            refine j_istore_4 C dX1_allow_57 (by decide) ?_
            refine j_aload_n C dX1_allow_59 rfl ?_
            refine g1_isBarred C dX1_allow_60 ?_
            refine j_iconst C (nI 5) dX1_allow_63 (by decide) ?_
            refine j_iload_n C dX1_allow_64 rfl ?_
            refine j_imul C dX1_allow_65 ?_
            refine j_top _ _ (pk_mul _ _) ?_
            refine j_iload_n C dX1_allow_66 rfl ?_
            refine j_iadd C dX1_allow_67 ?_
            refine j_top _ _ (nI_add _ _) ?_
            refine j_iload_n C dX1_allow_68 rfl ?_
            refine jB_if_ne C 76 dX1_allow_69 (by decide) (fun c_69 => ?_) (fun c_69 => ?_)
            · refine j_iconst C (bi false) dX1_allow_76 (by decide) ?_
              refine s1_ba C (f * 5 + t) (by rw [Nat.mul_comm]) (by omega) dX1_allow_77 ?_
              refine j_iload C dX1_allow_78 rfl ?_
              exact j_retz C R dX1_allow_80 (bi_nar _) (Or.inl ⟨f, t, rfl, hf, rfl, ht, fun q => c_23 (by rw [q]), by rw [c_49]; rfl, by rw [c_69]; exact congrArg (fun g => (wM Y ad (nI 0) (nI P) (nI N) (bi ru) (nI mv0) s0 qd (fun d => nI (nf d)) (fun d => nI (gf d)) (fun d => bi (cb d)) g (fun k => nI (fr k)) (fun k => nI (tt k)) lk fa qu nb)) (upd_bi (x := false))⟩)
            · refine j_iconst C (bi true) dX1_allow_72 (by decide) ?_
              refine j_goto C 77 dX1_allow_73 (by decide) ?_
              refine s1_ba C (f * 5 + t) (by rw [Nat.mul_comm]) (by omega) dX1_allow_77 ?_
              refine j_iload C dX1_allow_78 rfl ?_
              exact j_retz C R dX1_allow_80 (bi_nar _) (Or.inl ⟨f, t, rfl, hf, rfl, ht, fun q => c_23 (by rw [q]), by rw [c_49]; rfl, by rw [c_69]; exact congrArg (fun g => (wM Y ad (nI 0) (nI P) (nI N) (bi ru) (nI mv0) s0 qd (fun d => nI (nf d)) (fun d => nI (gf d)) (fun d => bi (cb d)) g (fun k => nI (fr k)) (fun k => nI (tt k)) lk fa qu nb)) (upd_bi (x := true))⟩)
          · refine j_iconst C (bi true) dX1_allow_52 (by decide) ?_
            refine j_goto C 57 dX1_allow_53 (by decide) ?_
            refine j_istore_4 C dX1_allow_57 (by decide) ?_
            refine j_aload_n C dX1_allow_59 rfl ?_
            refine g1_isBarred C dX1_allow_60 ?_
            refine j_iconst C (nI 5) dX1_allow_63 (by decide) ?_
            refine j_iload_n C dX1_allow_64 rfl ?_
            refine j_imul C dX1_allow_65 ?_
            refine j_top _ _ (pk_mul _ _) ?_
            refine j_iload_n C dX1_allow_66 rfl ?_
            refine j_iadd C dX1_allow_67 ?_
            refine j_top _ _ (nI_add _ _) ?_
            refine j_iload_n C dX1_allow_68 rfl ?_
            refine jB_if_ne C 76 dX1_allow_69 (by decide) (fun c_69 => ?_) (fun c_69 => ?_)
            · refine j_iconst C (bi false) dX1_allow_76 (by decide) ?_
              refine s1_ba C (f * 5 + t) (by rw [Nat.mul_comm]) (by omega) dX1_allow_77 ?_
              refine j_iload C dX1_allow_78 rfl ?_
              exact j_retz C R dX1_allow_80 (bi_nar _) (Or.inl ⟨f, t, rfl, hf, rfl, ht, fun q => c_23 (by rw [q]), by rw [c_49]; rfl, by rw [c_69]; exact congrArg (fun g => (wM Y ad (nI 0) (nI P) (nI N) (bi ru) (nI mv0) s0 qd (fun d => nI (nf d)) (fun d => nI (gf d)) (fun d => bi (cb d)) g (fun k => nI (fr k)) (fun k => nI (tt k)) lk fa qu nb)) (upd_bi (x := false))⟩)
            · refine j_iconst C (bi true) dX1_allow_72 (by decide) ?_
              refine j_goto C 77 dX1_allow_73 (by decide) ?_
              refine s1_ba C (f * 5 + t) (by rw [Nat.mul_comm]) (by omega) dX1_allow_77 ?_
              refine j_iload C dX1_allow_78 rfl ?_
              exact j_retz C R dX1_allow_80 (bi_nar _) (Or.inl ⟨f, t, rfl, hf, rfl, ht, fun q => c_23 (by rw [q]), by rw [c_49]; rfl, by rw [c_69]; exact congrArg (fun g => (wM Y ad (nI 0) (nI P) (nI N) (bi ru) (nI mv0) s0 qd (fun d => nI (nf d)) (fun d => nI (gf d)) (fun d => bi (cb d)) g (fun k => nI (fr k)) (fun k => nI (tt k)) lk fa qu nb)) (upd_bi (x := true))⟩)
        · exact absurd c_34 (by decide)
      · refine j_iconst C (nI 2) dX1_allow_26 (by decide) ?_
        refine j_goto C 31 dX1_allow_27 (by decide) ?_
        refine j_callV1i C (ct_X1_goesWell (by omega)) gw_1_66 nd_X1_goesWell 1 0 rfl rfl rfl ⟨by decide, by decide⟩ ⟨Nat.le_of_ble_eq_true rfl, Nat.le_of_ble_eq_true rfl⟩ (Nat.le_of_ble_eq_true rfl) dX1_allow_31 (fun x_1 w_1 hp => ?_)
        obtain ⟨rfl, rfl⟩ := hp
        refine jB_if_ne C 39 dX1_allow_34 (by decide) (fun c_34 => ?_) (fun c_34 => ?_)
        · exact absurd c_34 (by decide)
        · refine j_iconst C (nI 0) dX1_allow_37 (by decide) ?_
          exact j_retz C R dX1_allow_38 rfl (Or.inr (Or.inr ⟨by rw [c_6, c_14]; rfl, c_23, rfl⟩))
    · refine j_iconst C (nI 1) dX1_allow_17 (by decide) ?_
      refine j_goto C 31 dX1_allow_18 (by decide) ?_
      refine j_callV1i C (ct_X1_goesWell (by omega)) gw_1_66 nd_X1_goesWell 1 0 rfl rfl rfl ⟨by decide, by decide⟩ ⟨Nat.le_of_ble_eq_true rfl, Nat.le_of_ble_eq_true rfl⟩ (Nat.le_of_ble_eq_true rfl) dX1_allow_31 (fun x_1 w_1 hp => ?_)
      obtain ⟨rfl, rfl⟩ := hp
      refine jB_if_ne C 39 dX1_allow_34 (by decide) (fun c_34 => ?_) (fun c_34 => ?_)
      · exact absurd c_34 (by decide)
      · refine j_iconst C (nI 0) dX1_allow_37 (by decide) ?_
        exact j_retz C R dX1_allow_38 rfl (Or.inr (Or.inl ⟨by rw [c_14, Bool.and_false], rfl⟩))
abbrev rm_X1_setColour : Room := { frames := 2, cells := 0, slots := 0, locals := 43 }
set_option maxHeartbeats 4000000 in
set_option maxRecDepth 100000 in
theorem ct_X1_setColour {l : Launch} {D : va_G} {Y : jy_T} {ad : Nat → Nat} {P N a b mv0 : Nat} {ru : Bool} {cb ba : Nat → Bool} {nf gf fr tt : Nat → Nat} {th s0 qd : Int32} {lk fa qu nb : Nat → Int32} {x y : Int32} (hc : cfg P N) :
    MJ l yX1_setColour cX1_setColour 4 (some .int) rm_X1_setColour D Y [.ref (ad 0), .int x, .int y] (wM Y ad th (nI P) (nI N) (bi ru) (nI mv0) s0 qd (fun d => nI (nf d)) (fun d => nI (gf d)) (fun d => bi (cb d)) (fun k => bi (ba k)) (fun k => nI (fr k)) (fun k => nI (tt k)) lk fa qu nb) (jI (fun r w => (∃ d z, x = nI d ∧ d < N ∧ y = bi z ∧ r = bi (cb d) ∧ w = (wM Y ad (nI 0) (nI P) (nI N) (bi ru) (nI mv0) s0 qd (fun d => nI (nf d)) (fun d => nI (gf d)) (fun k => bi (va_up cb d z k)) (fun k => bi (ba k)) (fun k => nI (fr k)) (fun k => nI (tt k)) lk fa qu nb)) ∨ (inr x N = false ∧ w = (wM Y ad (nI 1) (nI P) (nI N) (bi ru) (nI mv0) s0 qd (fun d => nI (nf d)) (fun d => nI (gf d)) (fun d => bi (cb d)) (fun k => bi (ba k)) (fun k => nI (fr k)) (fun k => nI (tt k)) lk fa qu nb)) ∨ (inr x N = true ∧ rg y 0 1 = false ∧ w = (wM Y ad (nI 2) (nI P) (nI N) (bi ru) (nI mv0) s0 qd (fun d => nI (nf d)) (fun d => nI (gf d)) (fun d => bi (cb d)) (fun k => bi (ba k)) (fun k => nI (fr k)) (fun k => nI (tt k)) lk fa qu nb)))) := by
  refine j_enter (by decide) (Nat.le_of_ble_eq_true rfl) (fun v hv => by simp only [List.mem_cons, List.not_mem_nil, or_false] at hv; rcases hv with rfl | rfl | rfl <;> rfl) (fun K hl hD hnm C R => ?_)
  subst hl; subst hD
  have C : jC cX1_setColour RX1 Y rm_X1_setColour 4 K := C
  have R : jR Y (some .int) 0 0 (jI (fun r w => (∃ d z, x = nI d ∧ d < N ∧ y = bi z ∧ r = bi (cb d) ∧ w = (wM Y ad (nI 0) (nI P) (nI N) (bi ru) (nI mv0) s0 qd (fun d => nI (nf d)) (fun d => nI (gf d)) (fun k => bi (va_up cb d z k)) (fun k => bi (ba k)) (fun k => nI (fr k)) (fun k => nI (tt k)) lk fa qu nb)) ∨ (inr x N = false ∧ w = (wM Y ad (nI 1) (nI P) (nI N) (bi ru) (nI mv0) s0 qd (fun d => nI (nf d)) (fun d => nI (gf d)) (fun d => bi (cb d)) (fun k => bi (ba k)) (fun k => nI (fr k)) (fun k => nI (tt k)) lk fa qu nb)) ∨ (inr x N = true ∧ rg y 0 1 = false ∧ w = (wM Y ad (nI 2) (nI P) (nI N) (bi ru) (nI mv0) s0 qd (fun d => nI (nf d)) (fun d => nI (gf d)) (fun d => bi (cb d)) (fun k => bi (ba k)) (fun k => nI (fr k)) (fun k => nI (tt k)) lk fa qu nb)))) K := R
  refine j_eq (lo' := [some (.ref (ad 0)), some (.int x), some (.int y), none]) rfl rfl rfl ?_
  obtain ⟨hP3, hP5, hN1, hN6⟩ := id hc
  refine j_aload_n C dX1_setColour_0 rfl ?_
  refine j_aload_n C dX1_setColour_1 rfl ?_
  refine j_iload_n C dX1_setColour_2 rfl ?_
  refine j_callV1i C (ct_X1_isDisk (by omega) (by omega)) gw_1_74 nd_X1_isDisk 1 0 rfl rfl rfl ⟨by decide, by decide⟩ ⟨Nat.le_of_ble_eq_true rfl, Nat.le_of_ble_eq_true rfl⟩ (Nat.le_of_ble_eq_true rfl) dX1_setColour_3 (fun x_1 w_1 hp => ?_)
  obtain ⟨rfl, rfl⟩ := hp
  refine jB_if_ne C 13 dX1_setColour_6 (by decide) (fun c_6 => ?_) (fun c_6 => ?_)
  · refine j_iload_n C dX1_setColour_13 rfl ?_
    refine j_iconst C (nI 0) dX1_setColour_14 (by decide) ?_
    refine j_iconst C (nI 1) dX1_setColour_15 (by decide) ?_
    refine j_callS3i C (ct_X1_in (ad := ad) (by omega) (by omega)) gw_1_55 rfl nd_X1_in ⟨by decide, by decide⟩ ⟨Nat.le_of_ble_eq_true rfl, Nat.le_of_ble_eq_true rfl⟩ (Nat.le_of_ble_eq_true rfl) dX1_setColour_16 (fun x_1 w_1 hp => ?_)
    obtain ⟨rfl, rfl⟩ := hp
    refine jB_if_eq C 26 dX1_setColour_19 (by decide) (fun c_19 => ?_) (fun c_19 => ?_)
    · refine j_iconst C (nI 2) dX1_setColour_26 (by decide) ?_
      refine j_callV1i C (ct_X1_goesWell (by omega)) gw_1_66 nd_X1_goesWell 1 0 rfl rfl rfl ⟨by decide, by decide⟩ ⟨Nat.le_of_ble_eq_true rfl, Nat.le_of_ble_eq_true rfl⟩ (Nat.le_of_ble_eq_true rfl) dX1_setColour_27 (fun x_1 w_1 hp => ?_)
      obtain ⟨rfl, rfl⟩ := hp
      refine jB_if_ne C 35 dX1_setColour_30 (by decide) (fun c_30 => ?_) (fun c_30 => ?_)
      · exact absurd c_30 (by decide)
      · refine j_iconst C (nI 0) dX1_setColour_33 (by decide) ?_
        exact j_reti C R dX1_setColour_34 (Or.inr (Or.inr ⟨c_6, c_19, rfl⟩))
    · refine j_iconst C (nI 0) dX1_setColour_22 (by decide) ?_
      refine j_goto C 27 dX1_setColour_23 (by decide) ?_
      refine j_callV1i C (ct_X1_goesWell (by omega)) gw_1_66 nd_X1_goesWell 1 0 rfl rfl rfl ⟨by decide, by decide⟩ ⟨Nat.le_of_ble_eq_true rfl, Nat.le_of_ble_eq_true rfl⟩ (Nat.le_of_ble_eq_true rfl) dX1_setColour_27 (fun x_1 w_1 hp => ?_)
      obtain ⟨rfl, rfl⟩ := hp
      refine jB_if_ne C 35 dX1_setColour_30 (by decide) (fun c_30 => ?_) (fun c_30 => ?_)
      · obtain ⟨d, hd, rfl⟩ := inr_of c_6 (by omega)
        obtain ⟨j, -, hj, ej⟩ := rg_of (by omega) c_19
        obtain ⟨z, hz⟩ := nI_bi hj
        rw [hz] at ej
        subst ej
        refine j_aload_n C dX1_setColour_35 rfl ?_
        refine g1_colours C dX1_setColour_36 ?_
        refine j_iload_n C dX1_setColour_39 rfl ?_
        refine l1_co C _ rfl (by omega) dX1_setColour_40 ?_
        refine j_istore_3 C dX1_setColour_41 (by decide) ?_
        refine j_aload_n C dX1_setColour_42 rfl ?_
        refine g1_colours C dX1_setColour_43 ?_
        refine j_iload_n C dX1_setColour_46 rfl ?_
        refine j_iload_n C dX1_setColour_47 rfl ?_
        refine s1_co C _ rfl (by omega) dX1_setColour_48 ?_
        refine j_iload_n C dX1_setColour_49 rfl ?_
        exact j_reti C R dX1_setColour_50 (Or.inl ⟨d, z, rfl, hd, rfl, rfl, by rw [upd_bi]⟩)
      · exact absurd c_30 (by decide)
  · refine j_iconst C (nI 1) dX1_setColour_9 (by decide) ?_
    refine j_goto C 27 dX1_setColour_10 (by decide) ?_
    refine j_callV1i C (ct_X1_goesWell (by omega)) gw_1_66 nd_X1_goesWell 1 0 rfl rfl rfl ⟨by decide, by decide⟩ ⟨Nat.le_of_ble_eq_true rfl, Nat.le_of_ble_eq_true rfl⟩ (Nat.le_of_ble_eq_true rfl) dX1_setColour_27 (fun x_1 w_1 hp => ?_)
    obtain ⟨rfl, rfl⟩ := hp
    refine jB_if_ne C 35 dX1_setColour_30 (by decide) (fun c_30 => ?_) (fun c_30 => ?_)
    · exact absurd c_30 (by decide)
    · refine j_iconst C (nI 0) dX1_setColour_33 (by decide) ?_
      exact j_reti C R dX1_setColour_34 (Or.inr (Or.inl ⟨c_6, rfl⟩))
abbrev rm_X1_pegOf : Room := { frames := 2, cells := 0, slots := 0, locals := 43 }
set_option maxHeartbeats 4000000 in
set_option maxRecDepth 100000 in
theorem ct_X1_pegOf {l : Launch} {D : va_G} {Y : jy_T} {ad : Nat → Nat} {P N a b mv0 : Nat} {ru : Bool} {cb ba : Nat → Bool} {nf gf fr tt : Nat → Nat} {th s0 qd : Int32} {lk fa qu nb : Nat → Int32} {x : Int32} (hc : cfg P N) :
    MJ l yX1_pegOf cX1_pegOf 2 (some .int) rm_X1_pegOf D Y [.ref (ad 0), .int x] (wM Y ad th (nI P) (nI N) (bi ru) (nI mv0) s0 qd (fun d => nI (nf d)) (fun d => nI (gf d)) (fun d => bi (cb d)) (fun k => bi (ba k)) (fun k => nI (fr k)) (fun k => nI (tt k)) lk fa qu nb) (jI (fun r w => (∃ d, x = nI d ∧ d < N ∧ r = nI (nf d) ∧ w = (wM Y ad (nI 0) (nI P) (nI N) (bi ru) (nI mv0) s0 qd (fun d => nI (nf d)) (fun d => nI (gf d)) (fun d => bi (cb d)) (fun k => bi (ba k)) (fun k => nI (fr k)) (fun k => nI (tt k)) lk fa qu nb)) ∨ (inr x N = false ∧ w = (wM Y ad (nI 1) (nI P) (nI N) (bi ru) (nI mv0) s0 qd (fun d => nI (nf d)) (fun d => nI (gf d)) (fun d => bi (cb d)) (fun k => bi (ba k)) (fun k => nI (fr k)) (fun k => nI (tt k)) lk fa qu nb)))) := by
  refine j_enter (by decide) (Nat.le_of_ble_eq_true rfl) (fun v hv => by simp only [List.mem_cons, List.not_mem_nil, or_false] at hv; rcases hv with rfl | rfl <;> rfl) (fun K hl hD hnm C R => ?_)
  subst hl; subst hD
  have C : jC cX1_pegOf RX1 Y rm_X1_pegOf 2 K := C
  have R : jR Y (some .int) 0 0 (jI (fun r w => (∃ d, x = nI d ∧ d < N ∧ r = nI (nf d) ∧ w = (wM Y ad (nI 0) (nI P) (nI N) (bi ru) (nI mv0) s0 qd (fun d => nI (nf d)) (fun d => nI (gf d)) (fun d => bi (cb d)) (fun k => bi (ba k)) (fun k => nI (fr k)) (fun k => nI (tt k)) lk fa qu nb)) ∨ (inr x N = false ∧ w = (wM Y ad (nI 1) (nI P) (nI N) (bi ru) (nI mv0) s0 qd (fun d => nI (nf d)) (fun d => nI (gf d)) (fun d => bi (cb d)) (fun k => bi (ba k)) (fun k => nI (fr k)) (fun k => nI (tt k)) lk fa qu nb)))) K := R
  refine j_eq (lo' := [some (.ref (ad 0)), some (.int x)]) rfl rfl rfl ?_
  obtain ⟨hP3, hP5, hN1, hN6⟩ := id hc
  refine j_aload_n C dX1_pegOf_0 rfl ?_
  refine j_aload_n C dX1_pegOf_1 rfl ?_
  refine j_iload_n C dX1_pegOf_2 rfl ?_
  refine j_callV1i C (ct_X1_isDisk (by omega) (by omega)) gw_1_74 nd_X1_isDisk 1 0 rfl rfl rfl ⟨by decide, by decide⟩ ⟨Nat.le_of_ble_eq_true rfl, Nat.le_of_ble_eq_true rfl⟩ (Nat.le_of_ble_eq_true rfl) dX1_pegOf_3 (fun x_1 w_1 hp => ?_)
  obtain ⟨rfl, rfl⟩ := hp
  refine jB_if_eq C 13 dX1_pegOf_6 (by decide) (fun c_6 => ?_) (fun c_6 => ?_)
  · refine j_iconst C (nI 1) dX1_pegOf_13 (by decide) ?_
    refine j_callV1i C (ct_X1_goesWell (by omega)) gw_1_66 nd_X1_goesWell 1 0 rfl rfl rfl ⟨by decide, by decide⟩ ⟨Nat.le_of_ble_eq_true rfl, Nat.le_of_ble_eq_true rfl⟩ (Nat.le_of_ble_eq_true rfl) dX1_pegOf_14 (fun x_1 w_1 hp => ?_)
    obtain ⟨rfl, rfl⟩ := hp
    refine jB_if_eq C 29 dX1_pegOf_17 (by decide) (fun c_17 => ?_) (fun c_17 => ?_)
    · refine j_iconst C (nI 0) dX1_pegOf_29 (by decide) ?_
      exact j_reti C R dX1_pegOf_30 (Or.inr ⟨c_6, rfl⟩)
    · exact absurd c_17 (by decide)
  · refine j_iconst C (nI 0) dX1_pegOf_9 (by decide) ?_
    refine j_goto C 14 dX1_pegOf_10 (by decide) ?_
    refine j_callV1i C (ct_X1_goesWell (by omega)) gw_1_66 nd_X1_goesWell 1 0 rfl rfl rfl ⟨by decide, by decide⟩ ⟨Nat.le_of_ble_eq_true rfl, Nat.le_of_ble_eq_true rfl⟩ (Nat.le_of_ble_eq_true rfl) dX1_pegOf_14 (fun x_1 w_1 hp => ?_)
    obtain ⟨rfl, rfl⟩ := hp
    refine jB_if_eq C 29 dX1_pegOf_17 (by decide) (fun c_17 => ?_) (fun c_17 => ?_)
    · exact absurd c_17 (by decide)
    · obtain ⟨d, hd, rfl⟩ := inr_of c_6 (by omega)
      refine j_aload_n C dX1_pegOf_20 rfl ?_
      refine g1_now C dX1_pegOf_21 ?_
      refine j_iload_n C dX1_pegOf_24 rfl ?_
      refine l1_nw C _ rfl (by omega) dX1_pegOf_25 ?_
      refine j_goto C 30 dX1_pegOf_26 (by decide) ?_
      exact j_reti C R dX1_pegOf_30 (Or.inl ⟨d, rfl, hd, rfl, rfl⟩)
abbrev rm_X1_top : Room := { frames := 2, cells := 0, slots := 0, locals := 43 }
set_option maxHeartbeats 4000000 in
set_option maxRecDepth 100000 in
theorem ct_X1_top {l : Launch} {D : va_G} {Y : jy_T} {ad : Nat → Nat} {P N a b mv0 : Nat} {ru : Bool} {cb ba : Nat → Bool} {nf gf fr tt : Nat → Nat} {th s0 qd : Int32} {lk fa qu nb : Nat → Int32} {x : Int32} (hc : cfg P N) (ha : a < P ^ N) (hb : b < P ^ N) (hn : ∀ d, d < N → nf d = dg P a d) (hg : ∀ d, d < N → gf d = dg P b d) :
    MJ l yX1_top cX1_top 2 (some .int) rm_X1_top D Y [.ref (ad 0), .int x] (wM Y ad th (nI P) (nI N) (bi ru) (nI mv0) s0 qd (fun d => nI (nf d)) (fun d => nI (gf d)) (fun d => bi (cb d)) (fun k => bi (ba k)) (fun k => nI (fr k)) (fun k => nI (tt k)) lk fa qu nb) (jI (fun r w => (∃ g lk1, x = nI g ∧ g < P ∧ r = oI (tp P N a g) ∧ w = (wM Y ad (nI 0) (nI P) (nI N) (bi ru) (nI mv0) s0 qd (fun d => nI (nf d)) (fun d => nI (gf d)) (fun d => bi (cb d)) (fun k => bi (ba k)) (fun k => nI (fr k)) (fun k => nI (tt k)) lk1 fa qu nb)) ∨ (inr x P = false ∧ w = (wM Y ad (nI 1) (nI P) (nI N) (bi ru) (nI mv0) s0 qd (fun d => nI (nf d)) (fun d => nI (gf d)) (fun d => bi (cb d)) (fun k => bi (ba k)) (fun k => nI (fr k)) (fun k => nI (tt k)) lk fa qu nb)))) := by
  refine j_enter (by decide) (Nat.le_of_ble_eq_true rfl) (fun v hv => by simp only [List.mem_cons, List.not_mem_nil, or_false] at hv; rcases hv with rfl | rfl <;> rfl) (fun K hl hD hnm C R => ?_)
  subst hl; subst hD
  have C : jC cX1_top RX1 Y rm_X1_top 2 K := C
  have R : jR Y (some .int) 0 0 (jI (fun r w => (∃ g lk1, x = nI g ∧ g < P ∧ r = oI (tp P N a g) ∧ w = (wM Y ad (nI 0) (nI P) (nI N) (bi ru) (nI mv0) s0 qd (fun d => nI (nf d)) (fun d => nI (gf d)) (fun d => bi (cb d)) (fun k => bi (ba k)) (fun k => nI (fr k)) (fun k => nI (tt k)) lk1 fa qu nb)) ∨ (inr x P = false ∧ w = (wM Y ad (nI 1) (nI P) (nI N) (bi ru) (nI mv0) s0 qd (fun d => nI (nf d)) (fun d => nI (gf d)) (fun d => bi (cb d)) (fun k => bi (ba k)) (fun k => nI (fr k)) (fun k => nI (tt k)) lk fa qu nb)))) K := R
  refine j_eq (lo' := [some (.ref (ad 0)), some (.int x)]) rfl rfl rfl ?_
  obtain ⟨hP3, hP5, hN1, hN6⟩ := id hc
  have hP0 : 0 < P := by omega
  have hp2 : P ^ N ≤ 15625 := cfg_pw hc (by omega)
  refine j_aload_n C dX1_top_0 rfl ?_
  refine j_aload_n C dX1_top_1 rfl ?_
  refine j_iload_n C dX1_top_2 rfl ?_
  refine j_callV1i C (ct_X1_isPeg (by omega) (by omega)) gw_1_77 nd_X1_isPeg 1 0 rfl rfl rfl ⟨by decide, by decide⟩ ⟨Nat.le_of_ble_eq_true rfl, Nat.le_of_ble_eq_true rfl⟩ (Nat.le_of_ble_eq_true rfl) dX1_top_3 (fun x_1 w_1 hp => ?_)
  obtain ⟨rfl, rfl⟩ := hp
  refine jB_if_eq C 13 dX1_top_6 (by decide) (fun c_6 => ?_) (fun c_6 => ?_)
  · refine j_iconst C (nI 1) dX1_top_13 (by decide) ?_
    refine j_callV1i C (ct_X1_goesWell (by omega)) gw_1_66 nd_X1_goesWell 1 0 rfl rfl rfl ⟨by decide, by decide⟩ ⟨Nat.le_of_ble_eq_true rfl, Nat.le_of_ble_eq_true rfl⟩ (Nat.le_of_ble_eq_true rfl) dX1_top_14 (fun x_1 w_1 hp => ?_)
    obtain ⟨rfl, rfl⟩ := hp
    refine jB_if_ne C 22 dX1_top_17 (by decide) (fun c_17 => ?_) (fun c_17 => ?_)
    · exact absurd c_17 (by decide)
    · refine j_iconst C (nI 0) dX1_top_20 (by decide) ?_
      exact j_reti C R dX1_top_21 (Or.inr ⟨c_6, rfl⟩)
  · refine j_iconst C (nI 0) dX1_top_9 (by decide) ?_
    refine j_goto C 14 dX1_top_10 (by decide) ?_
    refine j_callV1i C (ct_X1_goesWell (by omega)) gw_1_66 nd_X1_goesWell 1 0 rfl rfl rfl ⟨by decide, by decide⟩ ⟨Nat.le_of_ble_eq_true rfl, Nat.le_of_ble_eq_true rfl⟩ (Nat.le_of_ble_eq_true rfl) dX1_top_14 (fun x_1 w_1 hp => ?_)
    obtain ⟨rfl, rfl⟩ := hp
    refine jB_if_ne C 22 dX1_top_17 (by decide) (fun c_17 => ?_) (fun c_17 => ?_)
    · obtain ⟨g, hg1, rfl⟩ := inr_of c_6 (by omega)
      refine j_aload_n C dX1_top_22 rfl ?_
      refine j_aload_n C dX1_top_23 rfl ?_
      refine j_callV0i C (ct_X1_numberOfNow hc ha hn) gw_1_92 nd_X1_numberOfNow 1 0 rfl rfl rfl ⟨by decide, by decide⟩ ⟨Nat.le_of_ble_eq_true rfl, Nat.le_of_ble_eq_true rfl⟩ (Nat.le_of_ble_eq_true rfl) dX1_top_24 (fun x_1 w_1 hp => ?_)
      obtain ⟨rfl, rfl⟩ := hp
      refine j_callV1v C (ct_X1_open hc (by omega)) gw_1_80 nd_X1_open 1 0 rfl rfl rfl ⟨by decide, by decide⟩ ⟨Nat.le_of_ble_eq_true rfl, Nat.le_of_ble_eq_true rfl⟩ (Nat.le_of_ble_eq_true rfl) dX1_top_27 (fun w_1 hp => ?_)
      obtain ⟨lk1, hlk, rfl⟩ := hp
      refine j_aload_n C dX1_top_30 rfl ?_
      refine j_iload_n C dX1_top_31 rfl ?_
      refine j_callV1i C (ct_X1_topOf (f := dg P a) (by omega) hlk (fun d _ => by have := dg_lt (P := P) (a := a) (d := d) hP0; omega) (by omega)) gw_1_88 nd_X1_topOf 1 0 rfl rfl rfl ⟨by decide, by decide⟩ ⟨Nat.le_of_ble_eq_true rfl, Nat.le_of_ble_eq_true rfl⟩ (Nat.le_of_ble_eq_true rfl) dX1_top_32 (fun x_1 w_1 hp => ?_)
      obtain ⟨rfl, rfl⟩ := hp
      exact j_reti C R dX1_top_35 (Or.inl ⟨g, lk1, rfl, hg1, rfl, rfl⟩)
    · exact absurd c_17 (by decide)
abbrev rm_X1_canMove : Room := { frames := 2, cells := 0, slots := 0, locals := 51 }
set_option maxHeartbeats 4000000 in
set_option maxRecDepth 100000 in
theorem ct_X1_canMove {l : Launch} {D : va_G} {Y : jy_T} {ad : Nat → Nat} {P N a b mv0 : Nat} {ru : Bool} {cb ba : Nat → Bool} {nf gf fr tt : Nat → Nat} {th s0 qd : Int32} {lk fa qu nb : Nat → Int32} {x y : Int32} (hc : cfg P N) (ha : a < P ^ N) (hb : b < P ^ N) (hn : ∀ d, d < N → nf d = dg P a d) (hg : ∀ d, d < N → gf d = dg P b d) :
    MJ l yX1_canMove cX1_canMove 3 (some .boolean) rm_X1_canMove D Y [.ref (ad 0), .int x, .int y] (wM Y ad th (nI P) (nI N) (bi ru) (nI mv0) s0 qd (fun d => nI (nf d)) (fun d => nI (gf d)) (fun d => bi (cb d)) (fun k => bi (ba k)) (fun k => nI (fr k)) (fun k => nI (tt k)) lk fa qu nb) (jI (fun r w => (∃ f t lk1, x = nI f ∧ f < P ∧ y = nI t ∧ t < P ∧ r = bi (nbM P N ru cb ba a f t).isSome ∧ w = (wM Y ad (nI 0) (nI P) (nI N) (bi ru) (nI mv0) s0 qd (fun d => nI (nf d)) (fun d => nI (gf d)) (fun d => bi (cb d)) (fun k => bi (ba k)) (fun k => nI (fr k)) (fun k => nI (tt k)) lk1 fa qu nb)) ∨ ((inr x P && inr y P) = false ∧ r = nI 0 ∧ w = (wM Y ad (nI 1) (nI P) (nI N) (bi ru) (nI mv0) s0 qd (fun d => nI (nf d)) (fun d => nI (gf d)) (fun d => bi (cb d)) (fun k => bi (ba k)) (fun k => nI (fr k)) (fun k => nI (tt k)) lk fa qu nb)))) := by
  refine j_enter (by decide) (Nat.le_of_ble_eq_true rfl) (fun v hv => by simp only [List.mem_cons, List.not_mem_nil, or_false] at hv; rcases hv with rfl | rfl | rfl <;> rfl) (fun K hl hD hnm C R => ?_)
  subst hl; subst hD
  have C : jC cX1_canMove RX1 Y rm_X1_canMove 3 K := C
  have R : jR Y (some .boolean) 0 0 (jI (fun r w => (∃ f t lk1, x = nI f ∧ f < P ∧ y = nI t ∧ t < P ∧ r = bi (nbM P N ru cb ba a f t).isSome ∧ w = (wM Y ad (nI 0) (nI P) (nI N) (bi ru) (nI mv0) s0 qd (fun d => nI (nf d)) (fun d => nI (gf d)) (fun d => bi (cb d)) (fun k => bi (ba k)) (fun k => nI (fr k)) (fun k => nI (tt k)) lk1 fa qu nb)) ∨ ((inr x P && inr y P) = false ∧ r = nI 0 ∧ w = (wM Y ad (nI 1) (nI P) (nI N) (bi ru) (nI mv0) s0 qd (fun d => nI (nf d)) (fun d => nI (gf d)) (fun d => bi (cb d)) (fun k => bi (ba k)) (fun k => nI (fr k)) (fun k => nI (tt k)) lk fa qu nb)))) K := R
  refine j_eq (lo' := [some (.ref (ad 0)), some (.int x), some (.int y)]) rfl rfl rfl ?_
  obtain ⟨hP3, hP5, hN1, hN6⟩ := id hc
  have hP0 : 0 < P := by omega
  have hp2 : P ^ N ≤ 15625 := cfg_pw hc (by omega)
  refine j_aload_n C dX1_canMove_0 rfl ?_
  refine j_aload_n C dX1_canMove_1 rfl ?_
  refine j_iload_n C dX1_canMove_2 rfl ?_
  refine j_callV1i C (ct_X1_isPeg (by omega) (by omega)) gw_1_77 nd_X1_isPeg 1 0 rfl rfl rfl ⟨by decide, by decide⟩ ⟨Nat.le_of_ble_eq_true rfl, Nat.le_of_ble_eq_true rfl⟩ (Nat.le_of_ble_eq_true rfl) dX1_canMove_3 (fun x_1 w_1 hp => ?_)
  obtain ⟨rfl, rfl⟩ := hp
  refine jB_if_eq C 21 dX1_canMove_6 (by decide) (fun c_6 => ?_) (fun c_6 => ?_)
  · refine j_iconst C (nI 1) dX1_canMove_21 (by decide) ?_
    refine j_callV1i C (ct_X1_goesWell (by omega)) gw_1_66 nd_X1_goesWell 1 0 rfl rfl rfl ⟨by decide, by decide⟩ ⟨Nat.le_of_ble_eq_true rfl, Nat.le_of_ble_eq_true rfl⟩ (Nat.le_of_ble_eq_true rfl) dX1_canMove_22 (fun x_1 w_1 hp => ?_)
    obtain ⟨rfl, rfl⟩ := hp
    refine jB_if_eq C 46 dX1_canMove_25 (by decide) (fun c_25 => ?_) (fun c_25 => ?_)
    · refine j_iconst C (nI 0) dX1_canMove_46 (by decide) ?_
      exact j_retz C R dX1_canMove_47 rfl (Or.inr ⟨by rw [c_6]; rfl, rfl, rfl⟩)
    · exact absurd c_25 (by decide)
  · refine j_aload_n C dX1_canMove_9 rfl ?_
    refine j_iload_n C dX1_canMove_10 rfl ?_
    refine j_callV1i C (ct_X1_isPeg (by omega) (by omega)) gw_1_77 nd_X1_isPeg 1 0 rfl rfl rfl ⟨by decide, by decide⟩ ⟨Nat.le_of_ble_eq_true rfl, Nat.le_of_ble_eq_true rfl⟩ (Nat.le_of_ble_eq_true rfl) dX1_canMove_11 (fun x_1 w_1 hp => ?_)
    obtain ⟨rfl, rfl⟩ := hp
    refine jB_if_eq C 21 dX1_canMove_14 (by decide) (fun c_14 => ?_) (fun c_14 => ?_)
    · refine j_iconst C (nI 1) dX1_canMove_21 (by decide) ?_
      refine j_callV1i C (ct_X1_goesWell (by omega)) gw_1_66 nd_X1_goesWell 1 0 rfl rfl rfl ⟨by decide, by decide⟩ ⟨Nat.le_of_ble_eq_true rfl, Nat.le_of_ble_eq_true rfl⟩ (Nat.le_of_ble_eq_true rfl) dX1_canMove_22 (fun x_1 w_1 hp => ?_)
      obtain ⟨rfl, rfl⟩ := hp
      refine jB_if_eq C 46 dX1_canMove_25 (by decide) (fun c_25 => ?_) (fun c_25 => ?_)
      · refine j_iconst C (nI 0) dX1_canMove_46 (by decide) ?_
        exact j_retz C R dX1_canMove_47 rfl (Or.inr ⟨by rw [c_14, Bool.and_false], rfl, rfl⟩)
      · exact absurd c_25 (by decide)
    · refine j_iconst C (nI 0) dX1_canMove_17 (by decide) ?_
      refine j_goto C 22 dX1_canMove_18 (by decide) ?_
      refine j_callV1i C (ct_X1_goesWell (by omega)) gw_1_66 nd_X1_goesWell 1 0 rfl rfl rfl ⟨by decide, by decide⟩ ⟨Nat.le_of_ble_eq_true rfl, Nat.le_of_ble_eq_true rfl⟩ (Nat.le_of_ble_eq_true rfl) dX1_canMove_22 (fun x_1 w_1 hp => ?_)
      obtain ⟨rfl, rfl⟩ := hp
      refine jB_if_eq C 46 dX1_canMove_25 (by decide) (fun c_25 => ?_) (fun c_25 => ?_)
      · exact absurd c_25 (by decide)
      · obtain ⟨f, hf, rfl⟩ := inr_of c_6 (by omega)
        obtain ⟨t, ht, rfl⟩ := inr_of c_14 (by omega)
        refine j_aload_n C dX1_canMove_28 rfl ?_
        refine j_aload_n C dX1_canMove_29 rfl ?_
        refine j_callV0i C (ct_X1_numberOfNow hc ha hn) gw_1_92 nd_X1_numberOfNow 1 0 rfl rfl rfl ⟨by decide, by decide⟩ ⟨Nat.le_of_ble_eq_true rfl, Nat.le_of_ble_eq_true rfl⟩ (Nat.le_of_ble_eq_true rfl) dX1_canMove_30 (fun x_1 w_1 hp => ?_)
        obtain ⟨rfl, rfl⟩ := hp
        refine j_iload_n C dX1_canMove_33 rfl ?_
        refine j_iload_n C dX1_canMove_34 rfl ?_
        refine j_callV3i C (ct_X1_behind hc ha hf ht) gw_1_95 nd_X1_behind 1 0 rfl rfl rfl ⟨by decide, by decide⟩ ⟨Nat.le_of_ble_eq_true rfl, Nat.le_of_ble_eq_true rfl⟩ (Nat.le_of_ble_eq_true rfl) dX1_canMove_35 (fun x_1 w_1 hp => ?_)
        obtain ⟨rfl, lk1, rfl⟩ := hp
        refine j_iconst C (-1) dX1_canMove_38 (by decide) ?_
        refine j_icmp_eq C 46 dX1_canMove_39 (by decide) (fun c_39 => ?_) (fun c_39 => ?_)
        · refine j_iconst C (nI 0) dX1_canMove_46 (by decide) ?_
          exact j_retz C R dX1_canMove_47 rfl (Or.inl ⟨f, t, lk1, rfl, hf, rfl, ht, by rw [(oI_m1 (fun j hj => by have := nbM_lt hP0 ha ht hj; omega)).mp c_39]; rfl, rfl⟩)
        · refine j_iconst C (nI 1) dX1_canMove_42 (by decide) ?_
          refine j_goto C 47 dX1_canMove_43 (by decide) ?_
          exact j_retz C R dX1_canMove_47 rfl (Or.inl ⟨f, t, lk1, rfl, hf, rfl, ht, by
  rcases e : nbM P N ru cb ba a f t with _ | y
  · rw [e] at c_39; exact absurd rfl c_39
  · rfl, rfl⟩)
