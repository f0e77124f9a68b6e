abbrev rm_X0_isPeg : Room := { frames := 0, cells := 0, slots := 0, locals := 0 }
set_option maxHeartbeats 4000000 in
set_option maxRecDepth 100000 in
theorem ct_X0_isPeg {l : Launch} {D : va_G} {Y : jy_T} {ad : Nat → Nat} {P : Nat} {x : Int32} {n ru nw tg mc me : Int32} {we co al tr to fa se qu sp : Nat → Int32} (hP : P < 2 ^ 31) :
    MJ l yX0_isPeg cX0_isPeg 2 (some .boolean) rm_X0_isPeg D Y [.ref (ad 0), .int x] (wA Y ad (nI P) n ru nw tg mc me we co al tr to fa se qu sp) (jI (fun r w => r = bi (inr x P) ∧ w = (wA Y ad (nI P) n ru nw tg mc me we co al tr to fa se qu sp))) := by
  refine j_enter (by decide) (Nat.le_of_ble_eq_true rfl) (fun v hv => by simp only [List.mem_cons, List.not_mem_nil, or_false] at hv; rcases hv with rfl | rfl <;> rfl) (fun K hl hD hnm C R => ?_)
  subst hl; subst hD
  have C : jC cX0_isPeg RX0 Y rm_X0_isPeg 2 K := C
  have R : jR Y (some .boolean) 0 0 (jI (fun r w => r = bi (inr x P) ∧ w = (wA Y ad (nI P) n ru nw tg mc me we co al tr to fa se qu sp))) K := R
  refine j_eq (lo' := [some (.ref (ad 0)), some (.int x)]) rfl rfl rfl ?_
  refine j_iload_n C dX0_isPeg_0 rfl ?_
  refine j_if_lt C 16 dX0_isPeg_1 (by decide) (fun c_1 => ?_) (fun c_1 => ?_)
  · refine j_iconst C (nI 0) dX0_isPeg_16 (by decide) ?_
    exact j_retz C R dX0_isPeg_17 rfl ⟨bi_f (inr_f1 c_1), rfl⟩
  · refine j_iload_n C dX0_isPeg_4 rfl ?_
    refine j_aload_n C dX0_isPeg_5 rfl ?_
    refine g0_pegCount C dX0_isPeg_6 ?_
    refine j_icmp_ge C 16 dX0_isPeg_9 (by decide) (fun c_9 => ?_) (fun c_9 => ?_)
    · refine j_iconst C (nI 0) dX0_isPeg_16 (by decide) ?_
      exact j_retz C R dX0_isPeg_17 rfl ⟨bi_f (inr_f2 hP c_9), rfl⟩
    · refine j_iconst C (nI 1) dX0_isPeg_12 (by decide) ?_
      refine j_goto C 17 dX0_isPeg_13 (by decide) ?_
      exact j_retz C R dX0_isPeg_17 rfl ⟨bi_t (inr_t hP c_1 c_9), rfl⟩
abbrev rm_X0_isDisk : Room := { frames := 0, cells := 0, slots := 0, locals := 0 }
set_option maxHeartbeats 4000000 in
set_option maxRecDepth 100000 in
theorem ct_X0_isDisk {l : Launch} {D : va_G} {Y : jy_T} {ad : Nat → Nat} {N : Nat} {x : Int32} {p ru nw tg mc me : Int32} {we co al tr to fa se qu sp : Nat → Int32} (hN : N < 2 ^ 31) :
    MJ l yX0_isDisk cX0_isDisk 2 (some .boolean) rm_X0_isDisk D Y [.ref (ad 0), .int x] (wA Y ad p (nI N) ru nw tg mc me we co al tr to fa se qu sp) (jI (fun r w => r = bi (inr x N) ∧ w = (wA Y ad p (nI N) ru nw tg mc me we co al tr to fa se qu sp))) := by
  refine j_enter (by decide) (Nat.le_of_ble_eq_true rfl) (fun v hv => by simp only [List.mem_cons, List.not_mem_nil, or_false] at hv; rcases hv with rfl | rfl <;> rfl) (fun K hl hD hnm C R => ?_)
  subst hl; subst hD
  have C : jC cX0_isDisk RX0 Y rm_X0_isDisk 2 K := C
  have R : jR Y (some .boolean) 0 0 (jI (fun r w => r = bi (inr x N) ∧ w = (wA Y ad p (nI N) ru nw tg mc me we co al tr to fa se qu sp))) K := R
  refine j_eq (lo' := [some (.ref (ad 0)), some (.int x)]) rfl rfl rfl ?_
  refine j_iload_n C dX0_isDisk_0 rfl ?_
  refine j_if_lt C 16 dX0_isDisk_1 (by decide) (fun c_1 => ?_) (fun c_1 => ?_)
  · refine j_iconst C (nI 0) dX0_isDisk_16 (by decide) ?_
    exact j_retz C R dX0_isDisk_17 rfl ⟨bi_f (inr_f1 c_1), rfl⟩
  · refine j_iload_n C dX0_isDisk_4 rfl ?_
    refine j_aload_n C dX0_isDisk_5 rfl ?_
    refine g0_diskCount C dX0_isDisk_6 ?_
    refine j_icmp_ge C 16 dX0_isDisk_9 (by decide) (fun c_9 => ?_) (fun c_9 => ?_)
    · refine j_iconst C (nI 0) dX0_isDisk_16 (by decide) ?_
      exact j_retz C R dX0_isDisk_17 rfl ⟨bi_f (inr_f2 hN c_9), rfl⟩
    · refine j_iconst C (nI 1) dX0_isDisk_12 (by decide) ?_
      refine j_goto C 17 dX0_isDisk_13 (by decide) ?_
      exact j_retz C R dX0_isDisk_17 rfl ⟨bi_t (inr_t hN c_1 c_9), rfl⟩
abbrev rm_X0_isNumber : Room := { frames := 0, cells := 0, slots := 0, locals := 0 }
set_option maxHeartbeats 4000000 in
set_option maxRecDepth 100000 in
theorem ct_X0_isNumber {l : Launch} {D : va_G} {Y : jy_T} {ad : Nat → Nat} {P N : Nat} {x : Int32} {p ru nw tg mc me : Int32} {co al tr to fa se qu sp : Nat → Int32} (hc : cfg P N) :
    MJ l yX0_isNumber cX0_isNumber 2 (some .boolean) rm_X0_isNumber D Y [.ref (ad 0), .int x] (wA Y ad p (nI N) ru nw tg mc me (fun d => nI (P ^ d)) co al tr to fa se qu sp) (jI (fun r w => r = bi (inr x (P ^ N)) ∧ w = (wA Y ad p (nI N) ru nw tg mc me (fun d => nI (P ^ d)) co al tr to fa se qu sp))) := by
  refine j_enter (by decide) (Nat.le_of_ble_eq_true rfl) (fun v hv => by simp only [List.mem_cons, List.not_mem_nil, or_false] at hv; rcases hv with rfl | rfl <;> rfl) (fun K hl hD hnm C R => ?_)
  subst hl; subst hD
  have C : jC cX0_isNumber RX0 Y rm_X0_isNumber 2 K := C
  have R : jR Y (some .boolean) 0 0 (jI (fun r w => r = bi (inr x (P ^ N)) ∧ w = (wA Y ad p (nI N) ru nw tg mc me (fun d => nI (P ^ d)) co al tr to fa se qu sp))) K := R
  refine j_eq (lo' := [some (.ref (ad 0)), some (.int x)]) rfl rfl rfl ?_
  obtain ⟨hP3, hP5, hN1, hN6⟩ := id hc
  have hq : P ^ N < 2 ^ 31 := by have := cfg_pw hc hN6; omega
  refine j_iload_n C dX0_isNumber_0 rfl ?_
  refine j_if_lt C 21 dX0_isNumber_1 (by decide) (fun c_1 => ?_) (fun c_1 => ?_)
  · refine j_iconst C (nI 0) dX0_isNumber_21 (by decide) ?_
    exact j_retz C R dX0_isNumber_22 rfl ⟨bi_f (inr_f1 c_1), rfl⟩
  · refine j_iload_n C dX0_isNumber_4 rfl ?_
    refine j_aload_n C dX0_isNumber_5 rfl ?_
    refine g0_weight C dX0_isNumber_6 ?_
    refine j_aload_n C dX0_isNumber_9 rfl ?_
    refine g0_diskCount C dX0_isNumber_10 ?_
    refine l0_we C _ rfl (by omega) dX0_isNumber_13 ?_
    refine j_icmp_ge C 21 dX0_isNumber_14 (by decide) (fun c_14 => ?_) (fun c_14 => ?_)
    · refine j_iconst C (nI 0) dX0_isNumber_21 (by decide) ?_
      exact j_retz C R dX0_isNumber_22 rfl ⟨bi_f (inr_f2 hq c_14), rfl⟩
    · refine j_iconst C (nI 1) dX0_isNumber_17 (by decide) ?_
      refine j_goto C 22 dX0_isNumber_18 (by decide) ?_
      exact j_retz C R dX0_isNumber_22 rfl ⟨bi_t (inr_t hq c_1 c_14), rfl⟩
abbrev rm_X0_pairOf : Room := { frames := 0, cells := 0, slots := 0, locals := 0 }
set_option maxHeartbeats 4000000 in
set_option maxRecDepth 100000 in
theorem ct_X0_pairOf {l : Launch} {D : va_G} {Y : jy_T} {ad : Nat → Nat} {ws : va_W} {f t : Nat} :
    MJ l yX0_pairOf cX0_pairOf 2 (some .int) rm_X0_pairOf D Y [.int (nI f), .int (nI t)] ws (jI (fun r w => r = nI (f * 5 + t) ∧ w = ws)) := by
  refine j_enter (by decide) (Nat.le_of_ble_eq_true rfl) (fun v hv => by simp only [List.mem_cons, List.not_mem_nil, or_false] at hv; rcases hv with rfl | rfl <;> rfl) (fun K hl hD hnm C R => ?_)
  subst hl; subst hD
  have C : jC cX0_pairOf RX0 Y rm_X0_pairOf 2 K := C
  have R : jR Y (some .int) 0 0 (jI (fun r w => r = nI (f * 5 + t) ∧ w = ws)) K := R
  refine j_eq (lo' := [some (.int (nI f)), some (.int (nI t))]) rfl rfl rfl ?_
  refine j_iload_n C dX0_pairOf_0 rfl ?_
  refine j_iconst C (nI 5) dX0_pairOf_1 (by decide) ?_
  refine j_imul C dX0_pairOf_2 ?_
  refine j_top _ _ (pk_mul _ _) ?_
  refine j_iload_n C dX0_pairOf_3 rfl ?_
  refine j_iadd C dX0_pairOf_4 ?_
  refine j_top _ _ (nI_add _ _) ?_
  exact j_reti C R dX0_pairOf_5 ⟨rfl, rfl⟩
abbrev rm_X0_pegIn : Room := { frames := 0, cells := 0, slots := 0, locals := 0 }
set_option maxHeartbeats 4000000 in
set_option maxRecDepth 100000 in
theorem ct_X0_pegIn {l : Launch} {D : va_G} {Y : jy_T} {ad : Nat → Nat} {P N a d : Nat} {n ru nw tg mc me : Int32} {co al tr to fa se qu sp : Nat → Int32} (hc : cfg P N) (ha : a < 2 ^ 31) (hd : d < 7) :
    MJ l yX0_pegIn cX0_pegIn 4 (some .int) rm_X0_pegIn D Y [.ref (ad 0), .int (nI a), .int (nI d)] (wA Y ad (nI P) n ru nw tg mc me (fun d => nI (P ^ d)) co al tr to fa se qu sp) (jI (fun r w => r = nI (dg P a d) ∧ w = (wA Y ad (nI P) n ru nw tg mc me (fun d => nI (P ^ d)) co al tr to fa se qu sp))) := by
  refine j_enter (by decide) (Nat.le_of_ble_eq_true rfl) (fun v hv => by simp only [List.mem_cons, List.not_mem_nil, or_false] at hv; rcases hv with rfl | rfl | rfl <;> rfl) (fun K hl hD hnm C R => ?_)
  subst hl; subst hD
  have C : jC cX0_pegIn RX0 Y rm_X0_pegIn 4 K := C
  have R : jR Y (some .int) 0 0 (jI (fun r w => r = nI (dg P a d) ∧ w = (wA Y ad (nI P) n ru nw tg mc me (fun d => nI (P ^ d)) co al tr to fa se qu sp))) K := R
  refine j_eq (lo' := [some (.ref (ad 0)), some (.int (nI a)), some (.int (nI d)), none]) rfl rfl rfl ?_
  obtain ⟨hP3, hP5, hN1, hN6⟩ := id hc
  have hp1 : 0 < P ^ d := cfg_pos hc
  have hp2 : P ^ d ≤ 15625 := cfg_pw hc (by omega)
  refine j_aload_n C dX0_pegIn_0 rfl ?_
  refine g0_weight C dX0_pegIn_1 ?_
  refine j_iload_n C dX0_pegIn_4 rfl ?_
  refine l0_we C _ rfl (by omega) dX0_pegIn_5 ?_
  refine j_istore_3 C dX0_pegIn_6 (by decide) ?_
  refine j_iload_n C dX0_pegIn_7 rfl ?_
  refine j_iconst C (nI 1) dX0_pegIn_8 (by decide) ?_
  refine jN_icmp_lt C 20 (by omega) (by omega) dX0_pegIn_9 (by decide) (fun c_9 => ?_) (fun c_9 => ?_)
  · exact absurd c_9 (by omega)
  · refine j_aload_n C dX0_pegIn_12 rfl ?_
    refine g0_pegCount C dX0_pegIn_13 ?_
    refine j_iconst C (nI 1) dX0_pegIn_16 (by decide) ?_
    refine jN_icmp_ge C 22 (by omega) (by omega) dX0_pegIn_17 (by decide) (fun c_17 => ?_) (fun c_17 => ?_)
    · refine j_iload_n C dX0_pegIn_22 rfl ?_
      refine j_iload_n C dX0_pegIn_23 rfl ?_
      refine j_idiv C dX0_pegIn_24 (nI_ne0 hp1 (by omega)) ?_
      refine j_aload_n C dX0_pegIn_25 rfl ?_
      refine g0_pegCount C dX0_pegIn_26 ?_
      refine j_irem C dX0_pegIn_29 (nI_ne0 (by omega) (by omega)) ?_
      refine j_top _ _ (dg_pegIn (by omega) (by omega) (by omega) (by omega)) ?_
      exact j_reti C R dX0_pegIn_30 ⟨rfl, rfl⟩
    · exact absurd c_17 (by omega)
abbrev rm_X0_diskBelow : Room := { frames := 1, cells := 0, slots := 0, locals := 23 }
set_option maxHeartbeats 4000000 in
set_option maxRecDepth 100000 in
theorem ct_X0_diskBelow {l : Launch} {D : va_G} {Y : jy_T} {ad : Nat → Nat} {P N a d : Nat} {ru nw tg mc me : Int32} {co al tr to fa se qu sp : Nat → Int32} (hc : cfg P N) (ha : a < 2 ^ 31) (hd : d < N) :
    MJ l yX0_diskBelow cX0_diskBelow 5 (some .int) rm_X0_diskBelow D Y [.ref (ad 0), .int (nI a), .int (nI d)] (wA Y ad (nI P) (nI N) ru nw tg mc me (fun d => nI (P ^ d)) co al tr to fa se qu sp) (jI (fun r w => r = oI (frm (dg P a) (dg P a d) (d + 1) N) ∧ w = (wA Y ad (nI P) (nI N) ru nw tg mc me (fun d => nI (P ^ d)) co al tr to fa se qu sp))) := by
  refine j_enter (by decide) (Nat.le_of_ble_eq_true rfl) (fun v hv => by simp only [List.mem_cons, List.not_mem_nil, or_false] at hv; rcases hv with rfl | rfl | rfl <;> rfl) (fun K hl hD hnm C R => ?_)
  subst hl; subst hD
  have C : jC cX0_diskBelow RX0 Y rm_X0_diskBelow 5 K := C
  have R : jR Y (some .int) 0 0 (jI (fun r w => r = oI (frm (dg P a) (dg P a d) (d + 1) N) ∧ w = (wA Y ad (nI P) (nI N) ru nw tg mc me (fun d => nI (P ^ d)) co al tr to fa se qu sp))) K := R
  refine j_eq (lo' := [some (.ref (ad 0)), some (.int (nI a)), some (.int (nI d)), none, none]) rfl rfl rfl ?_
  obtain ⟨hP3, hP5, hN1, hN6⟩ := id hc
  have hP0 : 0 < P := by omega
  have hL : ∀ (m i : Nat), N < i + m → i ≤ N → frm (dg P a) (dg P a d) (d + 1) N = frm (dg P a) (dg P a d) i N → jJ K 0 0 12 [some (.ref (ad 0)), some (.int (nI a)), some (.int (nI d)), some (.int (nI (dg P a d))), some (.int (nI i))] [] (wA Y ad (nI P) (nI N) ru nw tg mc me (fun d => nI (P ^ d)) co al tr to fa se qu sp) := by
    intro m
    induction m with
    | zero => intro i h1 h2; omega
    | succ m ih =>
      intro i h1 h2 he
      refine j_iload C dX0_diskBelow_12 rfl ?_
      refine j_aload_n C dX0_diskBelow_14 rfl ?_
      refine g0_diskCount C dX0_diskBelow_15 ?_
      refine jN_icmp_ge C 41 (by omega) (by omega) dX0_diskBelow_18 (by decide) (fun c_18 => ?_) (fun c_18 => ?_)
      · refine j_iconst C (-1) dX0_diskBelow_41 (by decide) ?_
        exact j_reti C R dX0_diskBelow_42 ⟨by rw [he, frm_end c_18]; rfl, rfl⟩
      · refine j_aload_n C dX0_diskBelow_21 rfl ?_
        refine j_iload_n C dX0_diskBelow_22 rfl ?_
        refine j_iload C dX0_diskBelow_23 rfl ?_
        refine j_callV2i C (ct_X0_pegIn hc (by omega) (by omega)) gw_0_80 nd_X0_pegIn 0 0 rfl rfl rfl ⟨by decide, by decide⟩ ⟨Nat.le_of_ble_eq_true rfl, Nat.le_of_ble_eq_true rfl⟩ (Nat.le_of_ble_eq_true rfl) dX0_diskBelow_25 (fun x_1 w_1 hp => ?_)
        obtain ⟨rfl, rfl⟩ := hp
        have hl1 := dg_lt (a := a) (d := i) hP0; have hl2 := dg_lt (a := a) (d := d) hP0
        refine j_iload_n C dX0_diskBelow_28 rfl ?_
        refine jN_icmp_ne C 35 (by omega) (by omega) dX0_diskBelow_29 (by decide) (fun c_29 => ?_) (fun c_29 => ?_)
        · refine j_iinc_4 C _ (nI_p1 _) dX0_diskBelow_35 ?_
          refine j_goto C 12 dX0_diskBelow_38 (by decide) ?_
          exact ih (i + 1) (by omega) (by omega) (by rw [he, frm_step c_18 c_29])
        · refine j_iload C dX0_diskBelow_32 rfl ?_
          exact j_reti C R dX0_diskBelow_34 ⟨by rw [he, frm_hit c_18 c_29]; rfl, rfl⟩
  refine j_aload_n C dX0_diskBelow_0 rfl ?_
  refine j_iload_n C dX0_diskBelow_1 rfl ?_
  refine j_iload_n C dX0_diskBelow_2 rfl ?_
  refine j_callV2i C (ct_X0_pegIn hc (by omega) (by omega)) gw_0_80 nd_X0_pegIn 0 0 rfl rfl rfl ⟨by decide, by decide⟩ ⟨Nat.le_of_ble_eq_true rfl, Nat.le_of_ble_eq_true rfl⟩ (Nat.le_of_ble_eq_true rfl) dX0_diskBelow_3 (fun x_1 w_1 hp => ?_)
  obtain ⟨rfl, rfl⟩ := hp
  refine j_istore_3 C dX0_diskBelow_6 (by decide) ?_
  refine j_iload_n C dX0_diskBelow_7 rfl ?_
  refine j_iconst C (nI 1) dX0_diskBelow_8 (by decide) ?_
  refine j_iadd C dX0_diskBelow_9 ?_
  refine j_top _ _ (nI_add _ _) ?_
  refine j_istore_4 C dX0_diskBelow_10 (by decide) ?_
  exact hL (N + 1) (d + 1) (by omega) (by omega) rfl
abbrev rm_X0_mayLieOn : Room := { frames := 0, cells := 0, slots := 0, locals := 0 }
set_option maxHeartbeats 4000000 in
set_option maxRecDepth 100000 in
theorem ct_X0_mayLieOn {l : Launch} {D : va_G} {Y : jy_T} {ad : Nat → Nat} {ru : Bool} {cb : Nat → Bool} {d : Nat} {ob : Option Nat} {p n nw tg mc me : Int32} {we al tr to fa se qu sp : Nat → Int32} (hd : d < 6) (ho : ∀ j, ob = some j → j < 6) :
    MJ l yX0_mayLieOn cX0_mayLieOn 3 (some .boolean) rm_X0_mayLieOn D Y [.ref (ad 0), .int (nI d), .int (oI ob)] (wA Y ad p n (bi ru) nw tg mc me we (fun d => bi (cb d)) al tr to fa se qu sp) (jI (fun r w => r = bi (mlo ru cb d ob) ∧ w = (wA Y ad p n (bi ru) nw tg mc me we (fun d => bi (cb d)) al tr to fa se qu sp))) := by
  refine j_enter (by decide) (Nat.le_of_ble_eq_true rfl) (fun v hv => by simp only [List.mem_cons, List.not_mem_nil, or_false] at hv; rcases hv with rfl | rfl | rfl <;> rfl) (fun K hl hD hnm C R => ?_)
  subst hl; subst hD
  have C : jC cX0_mayLieOn RX0 Y rm_X0_mayLieOn 3 K := C
  have R : jR Y (some .boolean) 0 0 (jI (fun r w => r = bi (mlo ru cb d ob) ∧ w = (wA Y ad p n (bi ru) nw tg mc me we (fun d => bi (cb d)) al tr to fa se qu sp))) K := R
  refine j_eq (lo' := [some (.ref (ad 0)), some (.int (nI d)), some (.int (oI ob))]) rfl rfl rfl ?_
  refine j_aload_n C dX0_mayLieOn_0 rfl ?_
  refine g0_ruleOn C dX0_mayLieOn_1 ?_
  refine jB_if_eq C 27 dX0_mayLieOn_4 (by decide) (fun c_4 => ?_) (fun c_4 => ?_)
  · refine j_iconst C (nI 1) dX0_mayLieOn_27 (by decide) ?_
    refine j_goto C 32 dX0_mayLieOn_28 (by decide) ?_
    exact j_retz C R dX0_mayLieOn_32 rfl ⟨bi_t (by rw [c_4]; rfl), rfl⟩
  · refine j_iload_n C dX0_mayLieOn_7 rfl ?_
    refine j_iconst C (-1) dX0_mayLieOn_8 (by decide) ?_
    refine j_icmp_eq C 27 dX0_mayLieOn_9 (by decide) (fun c_9 => ?_) (fun c_9 => ?_)
    · refine j_iconst C (nI 1) dX0_mayLieOn_27 (by decide) ?_
      refine j_goto C 32 dX0_mayLieOn_28 (by decide) ?_
      exact j_retz C R dX0_mayLieOn_32 rfl ⟨bi_t (by rw [(oI_m1 (fun j h => by have := ho j h; omega)).mp c_9]; unfold mlo; simp), rfl⟩
    · rcases ob with _ | j
      · exact absurd rfl c_9
      refine j_aload_n C dX0_mayLieOn_12 rfl ?_
      refine g0_colour C dX0_mayLieOn_13 ?_
      refine j_iload_n C dX0_mayLieOn_16 rfl ?_
      refine l0_co C _ rfl (by omega) dX0_mayLieOn_17 ?_
      refine j_aload_n C dX0_mayLieOn_18 rfl ?_
      refine g0_colour C dX0_mayLieOn_19 ?_
      refine j_iload_n C dX0_mayLieOn_22 rfl ?_
      refine l0_co C j rfl (ho j rfl) dX0_mayLieOn_23 ?_
      refine j_icmp_eq C 31 dX0_mayLieOn_24 (by decide) (fun c_24 => ?_) (fun c_24 => ?_)
      · refine j_iconst C (nI 0) dX0_mayLieOn_31 (by decide) ?_
        exact j_retz C R dX0_mayLieOn_32 rfl ⟨bi_f (by have h := bi_inj.mp c_24; unfold mlo; simp [c_4, h]), rfl⟩
      · refine j_iconst C (nI 1) dX0_mayLieOn_27 (by decide) ?_
        refine j_goto C 32 dX0_mayLieOn_28 (by decide) ?_
        exact j_retz C R dX0_mayLieOn_32 rfl ⟨bi_t (by have h : ¬ cb d = cb j := fun q => c_24 (bi_inj.mpr q); unfold mlo; simp [h]), rfl⟩
abbrev rm_X0_keepsRule : Room := { frames := 2, cells := 0, slots := 0, locals := 47 }
set_option maxHeartbeats 4000000 in
set_option maxRecDepth 100000 in
theorem ct_X0_keepsRule {l : Launch} {D : va_G} {Y : jy_T} {ad : Nat → Nat} {P N a : Nat} {ru : Bool} {cb : Nat → Bool} {nw tg mc me : Int32} {al tr to fa se qu sp : Nat → Int32} (hc : cfg P N) (ha : a < 2 ^ 31) :
    MJ l yX0_keepsRule cX0_keepsRule 3 (some .boolean) rm_X0_keepsRule D Y [.ref (ad 0), .int (nI a)] (wA Y ad (nI P) (nI N) (bi ru) nw tg mc me (fun d => nI (P ^ d)) (fun d => bi (cb d)) al tr to fa se qu sp) (jI (fun r w => r = bi (lawB P N ru cb a) ∧ w = (wA Y ad (nI P) (nI N) (bi ru) nw tg mc me (fun d => nI (P ^ d)) (fun d => bi (cb d)) al tr to fa se qu sp))) := by
  refine j_enter (by decide) (Nat.le_of_ble_eq_true rfl) (fun v hv => by simp only [List.mem_cons, List.not_mem_nil, or_false] at hv; rcases hv with rfl | rfl <;> rfl) (fun K hl hD hnm C R => ?_)
  subst hl; subst hD
  have C : jC cX0_keepsRule RX0 Y rm_X0_keepsRule 3 K := C
  have R : jR Y (some .boolean) 0 0 (jI (fun r w => r = bi (lawB P N ru cb a) ∧ w = (wA Y ad (nI P) (nI N) (bi ru) nw tg mc me (fun d => nI (P ^ d)) (fun d => bi (cb d)) al tr to fa se qu sp))) K := R
  refine j_eq (lo' := [some (.ref (ad 0)), some (.int (nI a)), none]) rfl rfl rfl ?_
  obtain ⟨hP3, hP5, hN1, hN6⟩ := id hc
  have hL : ∀ (m i : Nat), N < i + m → i ≤ N → alB (fun d => mlo ru cb d (frm (dg P a) (dg P a d) (d + 1) N)) 0 N = alB (fun d => mlo ru cb d (frm (dg P a) (dg P a d) (d + 1) N)) i N → jJ K 0 0 2 [some (.ref (ad 0)), some (.int (nI a)), some (.int (nI i))] [] (wA Y ad (nI P) (nI N) (bi ru) nw tg mc me (fun d => nI (P ^ d)) (fun d => bi (cb d)) al tr to fa se qu sp) := by
    intro m
    induction m with
    | zero => intro i h1 h2; omega
    | succ m ih =>
      intro i h1 h2 he
      refine j_iload_n C dX0_keepsRule_2 rfl ?_
      refine j_aload_n C dX0_keepsRule_3 rfl ?_
      refine g0_diskCount C dX0_keepsRule_4 ?_
      refine jN_icmp_ge C 32 (by omega) (by omega) dX0_keepsRule_7 (by decide) (fun c_7 => ?_) (fun c_7 => ?_)
      · refine j_iconst C (nI 1) dX0_keepsRule_32 (by decide) ?_
        exact j_retz C R dX0_keepsRule_33 rfl ⟨bi_t (by show alB _ 0 N = true; rw [he, alB_end c_7]), rfl⟩
      · refine j_aload_n C dX0_keepsRule_10 rfl ?_
        refine j_iload_n C dX0_keepsRule_11 rfl ?_
        refine j_aload_n C dX0_keepsRule_12 rfl ?_
        refine j_iload_n C dX0_keepsRule_13 rfl ?_
        refine j_iload_n C dX0_keepsRule_14 rfl ?_
        refine j_callV2i C (ct_X0_diskBelow hc (by omega) (by omega)) gw_0_159 nd_X0_diskBelow 0 0 rfl rfl rfl ⟨by decide, by decide⟩ ⟨Nat.le_of_ble_eq_true rfl, Nat.le_of_ble_eq_true rfl⟩ (Nat.le_of_ble_eq_true rfl) dX0_keepsRule_15 (fun x_1 w_1 hp => ?_)
        obtain ⟨rfl, rfl⟩ := hp
        refine j_callV2i C (ct_X0_mayLieOn (by omega) (fun j h => by have := (frm_some h).2.1; omega)) gw_0_162 nd_X0_mayLieOn 0 0 rfl rfl rfl ⟨by decide, by decide⟩ ⟨Nat.le_of_ble_eq_true rfl, Nat.le_of_ble_eq_true rfl⟩ (Nat.le_of_ble_eq_true rfl) dX0_keepsRule_18 (fun x_1 w_1 hp => ?_)
        obtain ⟨rfl, rfl⟩ := hp
        refine jB_if_ne C 26 dX0_keepsRule_21 (by decide) (fun c_21 => ?_) (fun c_21 => ?_)
        · refine j_iinc_2 C _ (nI_p1 _) dX0_keepsRule_26 ?_
          refine j_goto C 2 dX0_keepsRule_29 (by decide) ?_
          exact ih (i + 1) (by omega) (by omega) (by rw [he, alB_step c_7, c_21, Bool.true_and])
        · refine j_iconst C (nI 0) dX0_keepsRule_24 (by decide) ?_
          exact j_retz C R dX0_keepsRule_25 rfl ⟨bi_f (by show alB _ 0 N = false; rw [he, alB_step c_7, c_21, Bool.false_and]), rfl⟩
  refine j_iconst C (nI 0) dX0_keepsRule_0 (by decide) ?_
  refine j_istore_2 C dX0_keepsRule_1 (by decide) ?_
  exact hL (N + 1) 0 (by omega) (by omega) rfl
