theorem oI_nI {o : Option Nat} {d : Nat} (h : ∀ j, o = some j → j < 2 ^ 31) (hd : d < 2 ^ 31) : oI o = nI d ↔ o = some d := by
  cases o with
  | none =>
    refine ⟨fun q => ?_, fun q => by cases q⟩
    have h1 : (nI d).toInt = (-1 : Int32).toInt := by rw [show nI d = -1 from q.symm]
    rw [nI_toInt hd, show (-1 : Int32).toInt = -1 by decide] at h1
    omega
  | some j => exact ⟨fun q => by rw [(nI_eq (h j rfl) hd).mp q], fun q => by cases q; rfl⟩
theorem oI_ge1 {o : Option Nat} (h : ∀ j, o = some j → j < 2 ^ 31) : nI 1 ≤ oI o ↔ ∃ d, o = some (d + 1) := by
  cases o with
  | none => exact ⟨fun q => absurd q (by decide), fun ⟨d, q⟩ => by cases q⟩
  | some j =>
    show nI 1 ≤ nI j ↔ _
    rw [nI_leI (by omega) (h j rfl)]
    refine ⟨fun q => ⟨j - 1, by rw [show j - 1 + 1 = j by omega]⟩, fun ⟨d, q⟩ => by cases q; omega⟩
theorem srD_one {M P : Nat} {nb : nb_T} {o : Nat} {law : Bool} {ds ds2 : Nat → Option Nat} (h : srD M P nb o law ds) (h2 : srD M P nb o law ds2) (y : Nat) : ds y = ds2 y := by
  rcases h.2 with ⟨a, b⟩ | ⟨a, b⟩ <;> rcases h2.2 with ⟨c, d⟩ | ⟨c, d⟩
  · exact isDs_one b d y
  · rw [a] at c; cases c
  · rw [a] at c; cases c
  · rw [b, d]
theorem pr_lt {f t P : Nat} (hf : f < P) (ht : t < P) : f * P + t < P * P := by
  have h : (f + 1) * P ≤ P * P := Nat.mul_le_mul_right P hf
  rw [Nat.succ_mul] at h
  omega
theorem pr_div {f t P : Nat} (ht : t < P) : (f * P + t) / P = f := by
  rw [Nat.mul_comm, Nat.mul_add_div (by omega), Nat.div_eq_of_lt ht]; rfl
theorem pr_mod {f t P : Nat} (ht : t < P) : (f * P + t) % P = t := by
  rw [Nat.mul_comm, Nat.mul_add_mod, Nat.mod_eq_of_lt ht]
/-- the first pair of pegs, f ahead of t, that is as wanted -/
def nxF (P : Nat) (q : Nat → Nat → Bool) : Nat → Nat := fun k => if q (k / P) (k % P) = true then 1 else 0
def nxO (P : Nat) (o : Option Nat) : Int32 := match o with | none => -1 | some k => nI (10 * (k / P) + k % P)
def nxV (P : Nat) (q : Nat → Nat → Bool) : Int32 := nxO P (frm (nxF P q) 1 0 (P * P))
theorem nx_hit {P f t : Nat} {q : Nat → Nat → Bool} (hf : f < P) (ht : t < P) (h : q f t = true) : nxO P (frm (nxF P q) 1 (f * P + t) (P * P)) = nI (10 * f + t) := by
  rw [frm_hit (pr_lt hf ht) (by unfold nxF; rw [pr_div ht, pr_mod ht, if_pos h])]
  show nI (10 * ((f * P + t) / P) + (f * P + t) % P) = _
  rw [pr_div ht, pr_mod ht]
theorem nx_step {P f t : Nat} {q : Nat → Nat → Bool} (hf : f < P) (ht : t < P) (h : ¬ q f t = true) : frm (nxF P q) 1 (f * P + t) (P * P) = frm (nxF P q) 1 (f * P + (t + 1)) (P * P) := by
  rw [frm_step (pr_lt hf ht) (by unfold nxF; rw [pr_div ht, pr_mod ht, if_neg h]; omega)]; rfl
def nxC (P N : Nat) (ru : Bool) (cb al : Nat → Bool) (ds : Nat → Option Nat) (a : Nat) : Int32 := match ds a with
  | none => -1
  | some 0 => -1
  | some (d + 1) => nxV P (fun f t => psB P N ru cb al a f t && decide (ds (mv P N a f t) = some d))
abbrev rm_X0_pegs : Room := { frames := 0, cells := 0, slots := 0, locals := 0 }
set_option maxHeartbeats 4000000 in
set_option maxRecDepth 100000 in
theorem ct_X0_pegs {l : Launch} {D : va_G} {Y : jy_T} {ad : Nat → Nat} {p n ru nw tg mc me : Int32} {we co al tr to fa se qu sp : Nat → Int32} :
    MJ l yX0_pegs cX0_pegs 1 (some .int) rm_X0_pegs D Y [.ref (ad 0)] (wA Y ad p n ru nw tg mc me we co al tr to fa se qu sp) (jI (fun r w => r = p ∧ w = (wA Y ad p n ru nw tg mc me we co al tr to fa se qu sp))) := by
  refine j_enter (by decide) (Nat.le_of_ble_eq_true rfl) (fun v hv => by rw [List.mem_singleton.mp hv]; rfl) (fun K hl hD hnm C R => ?_)
  subst hl; subst hD
  have C : jC cX0_pegs RX0 Y rm_X0_pegs 1 K := C
  have R : jR Y (some .int) 0 0 (jI (fun r w => r = p ∧ w = (wA Y ad p n ru nw tg mc me we co al tr to fa se qu sp))) K := R
  refine j_eq (lo' := [some (.ref (ad 0))]) rfl rfl rfl ?_
  refine j_aload_n C dX0_pegs_0 rfl ?_
  refine g0_pegCount C dX0_pegs_1 ?_
  exact j_reti C R dX0_pegs_4 ⟨rfl, rfl⟩
abbrev rm_X0_disks : Room := { frames := 0, cells := 0, slots := 0, locals := 0 }
set_option maxHeartbeats 4000000 in
set_option maxRecDepth 100000 in
theorem ct_X0_disks {l : Launch} {D : va_G} {Y : jy_T} {ad : Nat → Nat} {p n ru nw tg mc me : Int32} {we co al tr to fa se qu sp : Nat → Int32} :
    MJ l yX0_disks cX0_disks 1 (some .int) rm_X0_disks D Y [.ref (ad 0)] (wA Y ad p n ru nw tg mc me we co al tr to fa se qu sp) (jI (fun r w => r = n ∧ w = (wA Y ad p n ru nw tg mc me we co al tr to fa se qu sp))) := by
  refine j_enter (by decide) (Nat.le_of_ble_eq_true rfl) (fun v hv => by rw [List.mem_singleton.mp hv]; rfl) (fun K hl hD hnm C R => ?_)
  subst hl; subst hD
  have C : jC cX0_disks RX0 Y rm_X0_disks 1 K := C
  have R : jR Y (some .int) 0 0 (jI (fun r w => r = n ∧ w = (wA Y ad p n ru nw tg mc me we co al tr to fa se qu sp))) K := R
  refine j_eq (lo' := [some (.ref (ad 0))]) rfl rfl rfl ?_
  refine j_aload_n C dX0_disks_0 rfl ?_
  refine g0_diskCount C dX0_disks_1 ?_
  exact j_reti C R dX0_disks_4 ⟨rfl, rfl⟩
abbrev rm_X0_moves : Room := { frames := 0, cells := 0, slots := 0, locals := 0 }
set_option maxHeartbeats 4000000 in
set_option maxRecDepth 100000 in
theorem ct_X0_moves {l : Launch} {D : va_G} {Y : jy_T} {ad : Nat → Nat} {p n ru nw tg mc me : Int32} {we co al tr to fa se qu sp : Nat → Int32} :
    MJ l yX0_moves cX0_moves 1 (some .int) rm_X0_moves D Y [.ref (ad 0)] (wA Y ad p n ru nw tg mc me we co al tr to fa se qu sp) (jI (fun r w => r = mc ∧ w = (wA Y ad p n ru nw tg mc me we co al tr to fa se qu sp))) := by
  refine j_enter (by decide) (Nat.le_of_ble_eq_true rfl) (fun v hv => by rw [List.mem_singleton.mp hv]; rfl) (fun K hl hD hnm C R => ?_)
  subst hl; subst hD
  have C : jC cX0_moves RX0 Y rm_X0_moves 1 K := C
  have R : jR Y (some .int) 0 0 (jI (fun r w => r = mc ∧ w = (wA Y ad p n ru nw tg mc me we co al tr to fa se qu sp))) K := R
  refine j_eq (lo' := [some (.ref (ad 0))]) rfl rfl rfl ?_
  refine j_aload_n C dX0_moves_0 rfl ?_
  refine g0_moveCount C dX0_moves_1 ?_
  exact j_reti C R dX0_moves_4 ⟨rfl, rfl⟩
abbrev rm_X0_arrangement : Room := { frames := 0, cells := 0, slots := 0, locals := 0 }
set_option maxHeartbeats 4000000 in
set_option maxRecDepth 100000 in
theorem ct_X0_arrangement {l : Launch} {D : va_G} {Y : jy_T} {ad : Nat → Nat} {p n ru nw tg mc me : Int32} {we co al tr to fa se qu sp : Nat → Int32} :
    MJ l yX0_arrangement cX0_arrangement 1 (some .int) rm_X0_arrangement D Y [.ref (ad 0)] (wA Y ad p n ru nw tg mc me we co al tr to fa se qu sp) (jI (fun r w => r = nw ∧ w = (wA Y ad p n ru nw tg mc me we co al tr to fa se qu sp))) := by
  refine j_enter (by decide) (Nat.le_of_ble_eq_true rfl) (fun v hv => by rw [List.mem_singleton.mp hv]; rfl) (fun K hl hD hnm C R => ?_)
  subst hl; subst hD
  have C : jC cX0_arrangement RX0 Y rm_X0_arrangement 1 K := C
  have R : jR Y (some .int) 0 0 (jI (fun r w => r = nw ∧ w = (wA Y ad p n ru nw tg mc me we co al tr to fa se qu sp))) K := R
  refine j_eq (lo' := [some (.ref (ad 0))]) rfl rfl rfl ?_
  refine j_aload_n C dX0_arrangement_0 rfl ?_
  refine g0_now C dX0_arrangement_1 ?_
  exact j_reti C R dX0_arrangement_4 ⟨rfl, rfl⟩
abbrev rm_X0_goal : Room := { frames := 0, cells := 0, slots := 0, locals := 0 }
set_option maxHeartbeats 4000000 in
set_option maxRecDepth 100000 in
theorem ct_X0_goal {l : Launch} {D : va_G} {Y : jy_T} {ad : Nat → Nat} {p n ru nw tg mc me : Int32} {we co al tr to fa se qu sp : Nat → Int32} :
    MJ l yX0_goal cX0_goal 1 (some .int) rm_X0_goal D Y [.ref (ad 0)] (wA Y ad p n ru nw tg mc me we co al tr to fa se qu sp) (jI (fun r w => r = tg ∧ w = (wA Y ad p n ru nw tg mc me we co al tr to fa se qu sp))) := by
  refine j_enter (by decide) (Nat.le_of_ble_eq_true rfl) (fun v hv => by rw [List.mem_singleton.mp hv]; rfl) (fun K hl hD hnm C R => ?_)
  subst hl; subst hD
  have C : jC cX0_goal RX0 Y rm_X0_goal 1 K := C
  have R : jR Y (some .int) 0 0 (jI (fun r w => r = tg ∧ w = (wA Y ad p n ru nw tg mc me we co al tr to fa se qu sp))) K := R
  refine j_eq (lo' := [some (.ref (ad 0))]) rfl rfl rfl ?_
  refine j_aload_n C dX0_goal_0 rfl ?_
  refine g0_target C dX0_goal_1 ?_
  exact j_reti C R dX0_goal_4 ⟨rfl, rfl⟩
abbrev rm_X0_layStart : Room := { frames := 0, cells := 0, slots := 0, locals := 0 }
set_option maxHeartbeats 4000000 in
set_option maxRecDepth 100000 in
theorem ct_X0_layStart {l : Launch} {D : va_G} {Y : jy_T} {ad : Nat → Nat} {p n ru nw tg mc me : Int32} {we co al tr to fa se qu sp : Nat → Int32} :
    MJ l yX0_layStart cX0_layStart 2 (some .int) rm_X0_layStart D Y [.ref (ad 0)] (wA Y ad p n ru nw tg mc me we co al tr to fa se qu sp) (jI (fun r w => r = mc ∧ w = (wA Y ad p n ru nw tg (nI 0) me we co al tr to fa se qu sp))) := by
  refine j_enter (by decide) (Nat.le_of_ble_eq_true rfl) (fun v hv => by rw [List.mem_singleton.mp hv]; rfl) (fun K hl hD hnm C R => ?_)
  subst hl; subst hD
  have C : jC cX0_layStart RX0 Y rm_X0_layStart 2 K := C
  have R : jR Y (some .int) 0 0 (jI (fun r w => r = mc ∧ w = (wA Y ad p n ru nw tg (nI 0) me we co al tr to fa se qu sp))) K := R
  refine j_eq (lo' := [some (.ref (ad 0)), none]) rfl rfl rfl ?_
  refine j_aload_n C dX0_layStart_0 rfl ?_
  refine g0_moveCount C dX0_layStart_1 ?_
  refine j_istore_1 C dX0_layStart_4 (by decide) ?_
  refine j_aload_n C dX0_layStart_5 rfl ?_
  refine j_iconst C (nI 0) dX0_layStart_6 (by decide) ?_
  refine p0_moveCount C dX0_layStart_7 ?_
  refine j_iload_n C dX0_layStart_10 rfl ?_
  exact j_reti C R dX0_layStart_11 ⟨rfl, rfl⟩
abbrev rm_X0_setRule : Room := { frames := 0, cells := 0, slots := 0, locals := 0 }
set_option maxHeartbeats 4000000 in
set_option maxRecDepth 100000 in
theorem ct_X0_setRule {l : Launch} {D : va_G} {Y : jy_T} {ad : Nat → Nat} {ru me on : Bool} {p n nw tg mc : Int32} {we co al tr to fa se qu sp : Nat → Int32} :
    MJ l yX0_setRule cX0_setRule 3 (some .boolean) rm_X0_setRule D Y [.ref (ad 0), .int (bi on)] (wA Y ad p n (bi ru) nw tg mc (bi me) we co al tr to fa se qu sp) (jI (fun r w => r = bi ru ∧ w = (wA Y ad p n (bi on) nw tg mc (bi false) we co al tr to fa se qu sp))) := by
  refine j_enter (by decide) (Nat.le_of_ble_eq_true rfl) (fun v hv => by simp only [List.mem_cons, List.not_mem_nil, or_false] at hv; rcases hv with rfl | rfl <;> rfl) (fun K hl hD hnm C R => ?_)
  subst hl; subst hD
  have C : jC cX0_setRule RX0 Y rm_X0_setRule 3 K := C
  have R : jR Y (some .boolean) 0 0 (jI (fun r w => r = bi ru ∧ w = (wA Y ad p n (bi on) nw tg mc (bi false) we co al tr to fa se qu sp))) K := R
  refine j_eq (lo' := [some (.ref (ad 0)), some (.int (bi on)), none]) rfl rfl rfl ?_
  refine j_aload_n C dX0_setRule_0 rfl ?_
  refine g0_ruleOn C dX0_setRule_1 ?_
  refine j_istore_2 C dX0_setRule_4 (by decide) ?_
  refine j_aload_n C dX0_setRule_5 rfl ?_
  refine j_iload_n C dX0_setRule_6 rfl ?_
  refine p0_ruleOn C dX0_setRule_7 ?_
  refine j_aload_n C dX0_setRule_10 rfl ?_
  refine j_iconst C (bi false) dX0_setRule_11 (by decide) ?_
  refine p0_measured C dX0_setRule_12 ?_
  refine j_iload_n C dX0_setRule_15 rfl ?_
  exact j_retz C R dX0_setRule_16 (bi_nar _) ⟨rfl, rfl⟩
abbrev rm_X0_isLawful : Room := { frames := 3, cells := 0, slots := 0, locals := 69 }
set_option maxHeartbeats 4000000 in
set_option maxRecDepth 100000 in
theorem ct_X0_isLawful {l : Launch} {D : va_G} {Y : jy_T} {ad : Nat → Nat} {P N a : Nat} {ru : Bool} {cb : Nat → Bool} {tg mc me : Int32} {al tr to fa se qu sp : Nat → Int32} (hc : cfg P N) (ha : a < P ^ N) :
    MJ l yX0_isLawful cX0_isLawful 1 (some .boolean) rm_X0_isLawful D Y [.ref (ad 0)] (wA Y ad (nI P) (nI N) (bi ru) (nI a) tg mc me (fun d => nI (P ^ d)) (fun d => bi (cb d)) al tr to fa se qu sp) (jI (fun r w => r = bi (lawB P N ru cb a) ∧ w = (wA Y ad (nI P) (nI N) (bi ru) (nI a) tg mc me (fun d => nI (P ^ d)) (fun d => bi (cb d)) al tr to fa se qu sp))) := by
  refine j_enter (by decide) (Nat.le_of_ble_eq_true rfl) (fun v hv => by rw [List.mem_singleton.mp hv]; rfl) (fun K hl hD hnm C R => ?_)
  subst hl; subst hD
  have C : jC cX0_isLawful RX0 Y rm_X0_isLawful 1 K := C
  have R : jR Y (some .boolean) 0 0 (jI (fun r w => r = bi (lawB P N ru cb a) ∧ w = (wA Y ad (nI P) (nI N) (bi ru) (nI a) tg mc me (fun d => nI (P ^ d)) (fun d => bi (cb d)) al tr to fa se qu sp))) K := R
  refine j_eq (lo' := [some (.ref (ad 0))]) rfl rfl rfl ?_
  obtain ⟨hP3, hP5, hN1, hN6⟩ := id hc
  have hp2 : P ^ N ≤ 15625 := cfg_pw hc (by omega)
  refine j_aload_n C dX0_isLawful_0 rfl ?_
  refine j_aload_n C dX0_isLawful_1 rfl ?_
  refine g0_now C dX0_isLawful_2 ?_
  refine j_callV1i C (ct_X0_keepsRule hc (by omega)) gw_0_124 nd_X0_keepsRule 0 0 rfl rfl rfl ⟨by decide, by decide⟩ ⟨Nat.le_of_ble_eq_true rfl, Nat.le_of_ble_eq_true rfl⟩ (Nat.le_of_ble_eq_true rfl) dX0_isLawful_5 (fun x_1 w_1 hp => ?_)
  obtain ⟨rfl, rfl⟩ := hp
  exact j_retz C R dX0_isLawful_8 (bi_nar _) ⟨rfl, rfl⟩
abbrev rm_X0_way : Room := { frames := 5, cells := 0, slots := 0, locals := 122 }
set_option maxHeartbeats 4000000 in
set_option maxRecDepth 100000 in
theorem ct_X0_way {l : Launch} {D : va_G} {Y : jy_T} {ad : Nat → Nat} {P N a b : Nat} {ru me : Bool} {cb al : Nat → Bool} {mc : Int32} {tr to fa se qu sp : Nat → Int32} (hc : cfg P N) (ha : a < P ^ N) (hb : b < P ^ N) (hm : me = true → farOk P N ru cb al b fa) :
    MJ l yX0_way cX0_way 1 (some .int) rm_X0_way D Y [.ref (ad 0)] (wA Y ad (nI P) (nI N) (bi ru) (nI a) (nI b) mc (bi me) (fun d => nI (P ^ d)) (fun d => bi (cb d)) (fun k => bi (al k)) tr to fa se qu sp) (jI (fun r w => ∃ ds1 fa1 qu1 to1, r = oI (ds1 a) ∧ srD (P ^ N) P (nbC P N ru cb al true) b (lawB P N ru cb b) ds1 ∧ stR (P ^ N) fa1 ds1 ∧ w = (wA Y ad (nI P) (nI N) (bi ru) (nI a) (nI b) mc (bi true) (fun d => nI (P ^ d)) (fun d => bi (cb d)) (fun k => bi (al k)) tr to1 fa1 se qu1 sp))) := by
  refine j_enter (by decide) (Nat.le_of_ble_eq_true rfl) (fun v hv => by rw [List.mem_singleton.mp hv]; rfl) (fun K hl hD hnm C R => ?_)
  subst hl; subst hD
  have C : jC cX0_way RX0 Y rm_X0_way 1 K := C
  have R : jR Y (some .int) 0 0 (jI (fun r w => ∃ ds1 fa1 qu1 to1, r = oI (ds1 a) ∧ srD (P ^ N) P (nbC P N ru cb al true) b (lawB P N ru cb b) ds1 ∧ stR (P ^ N) fa1 ds1 ∧ w = (wA Y ad (nI P) (nI N) (bi ru) (nI a) (nI b) mc (bi true) (fun d => nI (P ^ d)) (fun d => bi (cb d)) (fun k => bi (al k)) tr to1 fa1 se qu1 sp))) K := R
  refine j_eq (lo' := [some (.ref (ad 0))]) rfl rfl rfl ?_
  refine j_aload_n C dX0_way_0 rfl ?_
  refine j_aload_n C dX0_way_1 rfl ?_
  refine g0_now C dX0_way_2 ?_
  refine j_callV1i C (ct_X0_wayFrom hc hb ha hm) gw_0_127 nd_X0_wayFrom 0 0 rfl rfl rfl ⟨by decide, by decide⟩ ⟨Nat.le_of_ble_eq_true rfl, Nat.le_of_ble_eq_true rfl⟩ (Nat.le_of_ble_eq_true rfl) dX0_way_5 (fun x_1 w_1 hp => ?_)
  obtain ⟨ds1, fa1, qu1, to1, rfl, hsr, hst1, rfl⟩ := hp
  exact j_reti C R dX0_way_8 ⟨ds1, fa1, qu1, to1, rfl, hsr, hst1, rfl⟩
abbrev rm_X0_reachable : Room := { frames := 4, cells := 0, slots := 0, locals := 101 }
set_option maxHeartbeats 4000000 in
set_option maxRecDepth 100000 in
theorem ct_X0_reachable {l : Launch} {D : va_G} {Y : jy_T} {ad : Nat → Nat} {P N a : Nat} {ru : Bool} {cb al : Nat → Bool} {tg mc me : Int32} {tr to fa se qu sp : Nat → Int32} (hc : cfg P N) (ha : a < P ^ N) :
    MJ l yX0_reachable cX0_reachable 1 (some .int) rm_X0_reachable D Y [.ref (ad 0)] (wA Y ad (nI P) (nI N) (bi ru) (nI a) tg mc me (fun d => nI (P ^ d)) (fun d => bi (cb d)) (fun k => bi (al k)) tr to fa se qu sp) (jI (fun r w => ∃ fo1 ds1 s1 qu1 to1, r = nI fo1 ∧ srF (P ^ N) P (nbC P N ru cb al false) a (lawB P N ru cb a) fo1 ds1 ∧ w = (wA Y ad (nI P) (nI N) (bi ru) (nI a) tg mc me (fun d => nI (P ^ d)) (fun d => bi (cb d)) (fun k => bi (al k)) tr to1 fa s1 qu1 sp))) := by
  refine j_enter (by decide) (Nat.le_of_ble_eq_true rfl) (fun v hv => by rw [List.mem_singleton.mp hv]; rfl) (fun K hl hD hnm C R => ?_)
  subst hl; subst hD
  have C : jC cX0_reachable RX0 Y rm_X0_reachable 1 K := C
  have R : jR Y (some .int) 0 0 (jI (fun r w => ∃ fo1 ds1 s1 qu1 to1, r = nI fo1 ∧ srF (P ^ N) P (nbC P N ru cb al false) a (lawB P N ru cb a) fo1 ds1 ∧ w = (wA Y ad (nI P) (nI N) (bi ru) (nI a) tg mc me (fun d => nI (P ^ d)) (fun d => bi (cb d)) (fun k => bi (al k)) tr to1 fa s1 qu1 sp))) K := R
  refine j_eq (lo' := [some (.ref (ad 0))]) rfl rfl rfl ?_
  refine j_aload_n C dX0_reachable_0 rfl ?_
  refine j_aload_n C dX0_reachable_1 rfl ?_
  refine g0_now C dX0_reachable_2 ?_
  refine j_aload_n C dX0_reachable_5 rfl ?_
  refine g0_seen C dX0_reachable_6 ?_
  refine j_iconst C (bi false) dX0_reachable_9 (by decide) ?_
  refine j_callV3i C (ct_X0_search_s2 hc ha) gw_0_150 nd_X0_search 0 0 rfl rfl rfl ⟨by decide, by decide⟩ ⟨Nat.le_of_ble_eq_true rfl, Nat.le_of_ble_eq_true rfl⟩ (Nat.le_of_ble_eq_true rfl) dX0_reachable_10 (fun x_1 w_1 hp => ?_)
  obtain ⟨fo1, ds1, s1, qu1, to1, rfl, hsr, hst1, rfl⟩ := hp
  exact j_reti C R dX0_reachable_13 ⟨fo1, ds1, s1, qu1, to1, rfl, hsr, rfl⟩
theorem psB_ft {P N x f t : Nat} {ru : Bool} {cb al : Nat → Bool} (h : psB P N ru cb al x f t = true) : ftB f t (tp P N x f) (tp P N x t) = true := by
  unfold psB at h
  rw [Bool.and_eq_true, Bool.and_eq_true] at h
  exact h.1.1
abbrev rm_X0_next : Room := { frames := 5, cells := 0, slots := 0, locals := 122 }
set_option maxHeartbeats 4000000 in
set_option maxRecDepth 100000 in
theorem ct_X0_next {l : Launch} {D : va_G} {Y : jy_T} {ad : Nat → Nat} {P N a b : Nat} {ru me : Bool} {cb al : Nat → Bool} {mc : Int32} {tr to fa se qu sp : Nat → Int32} (hc : cfg P N) (ha : a < P ^ N) (hb : b < P ^ N) (hm : me = true → farOk P N ru cb al b fa) :
    MJ l yX0_next cX0_next 4 (some .int) rm_X0_next D Y [.ref (ad 0)] (wA Y ad (nI P) (nI N) (bi ru) (nI a) (nI b) mc (bi me) (fun d => nI (P ^ d)) (fun d => bi (cb d)) (fun k => bi (al k)) tr to fa se qu sp) (jI (fun r w => ∃ ds1 fa1 qu1 to1, r = nxC P N ru cb al ds1 a ∧ srD (P ^ N) P (nbC P N ru cb al true) b (lawB P N ru cb b) ds1 ∧ stR (P ^ N) fa1 ds1 ∧ w = (wA Y ad (nI P) (nI N) (bi ru) (nI a) (nI b) mc (bi true) (fun d => nI (P ^ d)) (fun d => bi (cb d)) (fun k => bi (al k)) tr to1 fa1 se qu1 sp))) := by
  refine j_enter (by decide) (Nat.le_of_ble_eq_true rfl) (fun v hv => by rw [List.mem_singleton.mp hv]; rfl) (fun K hl hD hnm C R => ?_)
  subst hl; subst hD
  have C : jC cX0_next RX0 Y rm_X0_next 4 K := C
  have R : jR Y (some .int) 0 0 (jI (fun r w => ∃ ds1 fa1 qu1 to1, r = nxC P N ru cb al ds1 a ∧ srD (P ^ N) P (nbC P N ru cb al true) b (lawB P N ru cb b) ds1 ∧ stR (P ^ N) fa1 ds1 ∧ w = (wA Y ad (nI P) (nI N) (bi ru) (nI a) (nI b) mc (bi true) (fun d => nI (P ^ d)) (fun d => bi (cb d)) (fun k => bi (al k)) tr to1 fa1 se qu1 sp))) K := R
  refine j_eq (lo' := [some (.ref (ad 0)), none, none, none]) rfl rfl rfl ?_
  obtain ⟨hP3, hP5, hN1, hN6⟩ := id hc
  have hP0 : 0 < P := by omega
  have hp2 : P ^ N ≤ 15625 := cfg_pw hc (by omega)
  have hL : ∀ (ds : Nat → Option Nat) (d : Nat), srD (P ^ N) P (nbC P N ru cb al true) b (lawB P N ru cb b) ds → d < 2 ^ 31 → nxC P N ru cb al ds a = nxV P (fun f t => psB P N ru cb al a f t && decide (ds (mv P N a f t) = some d)) → ∀ (m f : Nat) (fa qu to : Nat → Int32) (l3 : Option Value), P < f + m → f ≤ P → frm (nxF P (fun f t => psB P N ru cb al a f t && decide (ds (mv P N a f t) = some d))) 1 0 (P * P) = frm (nxF P (fun f t => psB P N ru cb al a f t && decide (ds (mv P N a f t) = some d))) 1 (f * P) (P * P) → stR (P ^ N) fa ds →
      jJ K 0 0 18 [some (.ref (ad 0)), some (.int (nI (d + 1))), some (.int (nI f)), l3] [] (wA Y ad (nI P) (nI N) (bi ru) (nI a) (nI b) mc (bi true) (fun d => nI (P ^ d)) (fun d => bi (cb d)) (fun k => bi (al k)) tr to fa se qu sp) := by
    intro ds d hsr hd9 hnx m
    induction m with
    | zero => intro f fa qu to l3 h1 h2; omega
    | succ m ih =>
      intro f fa qu to l3 h1 h2 hk hst
      refine j_iload_n C dX0_next_18 rfl ?_
      refine j_aload_n C dX0_next_19 rfl ?_
      refine g0_pegCount C dX0_next_20 ?_
      refine jN_icmp_ge C 84 (by omega) (by omega) dX0_next_23 (by decide) (fun c_23 => ?_) (fun c_23 => ?_)
      · refine j_iconst C (-1) dX0_next_84 (by decide) ?_
        exact j_reti C R dX0_next_85 ⟨ds, fa, qu, to, by rw [hnx]; show _ = nxO P _; rw [hk, frm_end (Nat.mul_le_mul_right P c_23)]; rfl, hsr, hst, rfl⟩
      · refine j_iconst C (nI 0) dX0_next_26 (by decide) ?_
        refine j_istore_3 C dX0_next_27 (by decide) ?_
        have hI : ∀ (m2 t : Nat) (fa qu to : Nat → Int32), P < t + m2 → t ≤ P → frm (nxF P (fun f t => psB P N ru cb al a f t && decide (ds (mv P N a f t) = some d))) 1 0 (P * P) = frm (nxF P (fun f t => psB P N ru cb al a f t && decide (ds (mv P N a f t) = some d))) 1 (f * P + t) (P * P) → stR (P ^ N) fa ds → jJ K 0 0 28 [some (.ref (ad 0)), some (.int (nI (d + 1))), some (.int (nI f)), some (.int (nI t))] [] (wA Y ad (nI P) (nI N) (bi ru) (nI a) (nI b) mc (bi true) (fun d => nI (P ^ d)) (fun d => bi (cb d)) (fun k => bi (al k)) tr to fa se qu sp) := by
          intro m2
          induction m2 with
          | zero => intro t fa qu to h3 h4; omega
          | succ m2 ih2 =>
            intro t fa qu to h3 h4 hk hst
            refine j_iload_n C dX0_next_28 rfl ?_
            refine j_aload_n C dX0_next_29 rfl ?_
            refine g0_pegCount C dX0_next_30 ?_
            refine jN_icmp_ge C 78 (by omega) (by omega) dX0_next_33 (by decide) (fun c_33 => ?_) (fun c_33 => ?_)
            · refine j_iinc_2 C _ (nI_p1 _) dX0_next_78 ?_
              refine j_goto C 18 dX0_next_81 (by decide) ?_
              exact ih (f + 1) fa qu to _ (by omega) (by omega) (by rw [hk, Nat.succ_mul, show t = P by omega]) hst
            · refine j_aload_n C dX0_next_36 rfl ?_
              refine j_iload_n C dX0_next_37 rfl ?_
              refine j_iload_n C dX0_next_38 rfl ?_
              refine j_callV2i C (ct_X0_isPossible hc ha (by omega) (by omega)) gw_0_105 nd_X0_isPossible 0 0 rfl rfl rfl ⟨by decide, by decide⟩ ⟨Nat.le_of_ble_eq_true rfl, Nat.le_of_ble_eq_true rfl⟩ (Nat.le_of_ble_eq_true rfl) dX0_next_39 (fun x_1 w_1 hp => ?_)
              obtain ⟨rfl, to2, hto, rfl⟩ := hp
              refine jB_if_eq C 72 dX0_next_42 (by decide) (fun c_42 => ?_) (fun c_42 => ?_)
              · refine j_iinc_3 C _ (nI_p1 _) dX0_next_72 ?_
                refine j_goto C 28 dX0_next_75 (by decide) ?_
                exact ih2 (t + 1) fa qu to2 (by omega) (by omega) (by rw [hk, nx_step (by omega) (by omega) (by rw [c_42]; simp)]) hst
              · obtain ⟨-, e, he, -⟩ := ftB_some (psB_ft c_42)
                refine j_aload_n C dX0_next_45 rfl ?_
                refine j_aload_n C dX0_next_46 rfl ?_
                refine j_aload_n C dX0_next_47 rfl ?_
                refine g0_now C dX0_next_48 ?_
                refine j_iload_n C dX0_next_51 rfl ?_
                refine j_iload_n C dX0_next_52 rfl ?_
                refine j_callV3i C (ct_X0_behindMove (d := e) (by omega) (by omega) (by omega) (by rw [hto f (by omega), he]; rfl) (tp_lt he) (tp_le he)) gw_0_111 nd_X0_behindMove 0 0 rfl rfl rfl ⟨by decide, by decide⟩ ⟨Nat.le_of_ble_eq_true rfl, Nat.le_of_ble_eq_true rfl⟩ (Nat.le_of_ble_eq_true rfl) dX0_next_53 (fun x_1 w_1 hp => ?_)
                obtain ⟨rfl, rfl⟩ := hp
                refine j_top _ (nI (mv P N a f t)) (by rw [mv_some he]) ?_
                refine j_callV1i C (ct_X0_wayFrom hc hb (mv_lt (f := f) hP0 ha (by omega)) (fun _ => ⟨ds, hsr, hst⟩)) gw_0_127 nd_X0_wayFrom 0 0 rfl rfl rfl ⟨by decide, by decide⟩ ⟨Nat.le_of_ble_eq_true rfl, Nat.le_of_ble_eq_true rfl⟩ (Nat.le_of_ble_eq_true rfl) dX0_next_56 (fun x_1 w_1 hp => ?_)
                obtain ⟨ds2, fa2, qu2, to3, rfl, hsr2, hst2, rfl⟩ := hp
                refine j_top _ (oI (ds (mv P N a f t))) (by rw [srD_one hsr hsr2]) ?_
                refine j_iload_n C dX0_next_59 rfl ?_
                refine j_iconst C (nI 1) dX0_next_60 (by decide) ?_
                refine j_isub C dX0_next_61 ?_
                refine j_top _ (nI d) (nI_pr d) ?_
                refine j_icmp_ne C 72 dX0_next_62 (by decide) (fun c_62 => ?_) (fun c_62 => ?_)
                · refine j_iinc_3 C _ (nI_p1 _) dX0_next_72 ?_
                  refine j_goto C 28 dX0_next_75 (by decide) ?_
                  exact ih2 (t + 1) fa2 qu2 to3 (by omega) (by omega) (by rw [hk, nx_step (by omega) (by omega) (by
                    have h9 : ¬ ds (mv P N a f t) = some d := fun z => c_62 ((oI_nI (srD_lt hsr hp2 _) (by omega)).mpr z)
                    rw [decide_eq_false h9, Bool.and_false]; simp)]) (fun y hy => by rw [srD_one hsr hsr2]; exact hst2 y hy)
                · refine j_bipush C (nI 10) dX0_next_65 (by decide) ?_
                  refine j_iload_n C dX0_next_67 rfl ?_
                  refine j_imul C dX0_next_68 ?_
                  refine j_top _ _ (pk_mul _ _) ?_
                  refine j_iload_n C dX0_next_69 rfl ?_
                  refine j_iadd C dX0_next_70 ?_
                  refine j_top _ _ (nI_add _ _) ?_
                  exact j_reti C R dX0_next_71 ⟨ds, fa2, qu2, to3, by rw [hnx]; show _ = nxO P _; rw [hk, nx_hit (by omega) (by omega) (by rw [c_42, (oI_nI (srD_lt hsr hp2 _) (by omega)).mp c_62]; simp)], hsr, fun y hy => by rw [srD_one hsr hsr2]; exact hst2 y hy, rfl⟩
        exact hI (P + 1) 0 fa qu to (by omega) (by omega) hk hst
  refine j_aload_n C dX0_next_0 rfl ?_
  refine j_aload_n C dX0_next_1 rfl ?_
  refine g0_now C dX0_next_2 ?_
  refine j_callV1i C (ct_X0_wayFrom hc hb ha hm) gw_0_127 nd_X0_wayFrom 0 0 rfl rfl rfl ⟨by decide, by decide⟩ ⟨Nat.le_of_ble_eq_true rfl, Nat.le_of_ble_eq_true rfl⟩ (Nat.le_of_ble_eq_true rfl) dX0_next_5 (fun x_1 w_1 hp => ?_)
  obtain ⟨ds, fa1, qu1, to1, rfl, hsr, hst, rfl⟩ := hp
  refine j_istore_1 C dX0_next_8 (by decide) ?_
  refine j_iload_n C dX0_next_9 rfl ?_
  refine j_iconst C (nI 1) dX0_next_10 (by decide) ?_
  refine j_icmp_ge C 16 dX0_next_11 (by decide) (fun c_11 => ?_) (fun c_11 => ?_)
  · refine j_iconst C (nI 0) dX0_next_16 (by decide) ?_
    refine j_istore_2 C dX0_next_17 (by decide) ?_
    obtain ⟨d, hd⟩ := (oI_ge1 (srD_lt hsr hp2 a)).mp c_11
    have hd9 := srD_lt hsr hp2 a _ hd
    rw [hd]
    exact hL ds d hsr (by omega) (by unfold nxC; rw [hd]) (P + 1) 0 fa1 qu1 to1 _ (by omega) (by omega) (by rw [Nat.zero_mul]) hst
  · refine j_iconst C (-1) dX0_next_14 (by decide) ?_
    exact j_reti C R dX0_next_15 ⟨ds, fa1, qu1, to1, by
  have h9 := fun z => c_11 ((oI_ge1 (srD_lt hsr hp2 a)).mpr z)
  unfold nxC
  rcases e : ds a with _ | d
  · rfl
  · rcases d with _ | d
    · rfl
    · exact absurd ⟨d, e⟩ h9, hsr, hst, rfl⟩
