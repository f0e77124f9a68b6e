abbrev rm_X0_isPeg : Room := { frames := 0, cells := 0, slots := 0, locals := 0 }
set_option maxHeartbeats 4000000 in
set_option maxRecDepth 100000 in
theorem ct_X0_isPeg {l : Launch} {D : va_G} {Y : jy_T} {ad : Nat → Nat} {P : Nat} {x : Int32} {n ru nw tg mc me : Int32} {we co al tr to fa se qu sp : Nat → Int32} (hP : P < 2 ^ 31) :
    MJ l yX0_isPeg cX0_isPeg 2 (some .boolean) rm_X0_isPeg D Y [.ref (ad 0), .int x] (wA Y ad (nI P) n ru nw tg mc me we co al tr to fa se qu sp) (jI (fun r w => r = bi (inr x P) ∧ w = (wA Y ad (nI P) n ru nw tg mc me we co al tr to fa se qu sp))) := by
  refine j_enter (by decide) (Nat.le_of_ble_eq_true rfl) (fun v hv => by simp only [List.mem_cons, List.not_mem_nil, or_false] at hv; rcases hv with rfl | rfl <;> rfl) (fun K hl hD hnm C R => ?_)
  subst hl; subst hD
  have C : jC cX0_isPeg RX0 Y rm_X0_isPeg 2 K := C
  have R : jR Y (some .boolean) 0 0 (jI (fun r w => r = bi (inr x P) ∧ w = (wA Y ad (nI P) n ru nw tg mc me we co al tr to fa se qu sp))) K := R
  refine j_eq (lo' := [some (.ref (ad 0)), some (.int x)]) rfl rfl rfl ?_
  refine j_iload_n C dX0_isPeg_0 rfl ?_
  refine j_if_lt C 16 dX0_isPeg_1 (by decide) (fun c_1 => ?_) (fun c_1 => ?_)
  · refine j_iconst C (nI 0) dX0_isPeg_16 (by decide) ?_
    exact j_retz C R dX0_isPeg_17 rfl ⟨bi_f (inr_f1 c_1), rfl⟩
  · refine j_iload_n C dX0_isPeg_4 rfl ?_
    refine j_aload_n C dX0_isPeg_5 rfl ?_
    refine g0_pegCount C dX0_isPeg_6 ?_
    refine j_icmp_ge C 16 dX0_isPeg_9 (by decide) (fun c_9 => ?_) (fun c_9 => ?_)
    · refine j_iconst C (nI 0) dX0_isPeg_16 (by decide) ?_
      exact j_retz C R dX0_isPeg_17 rfl ⟨bi_f (inr_f2 hP c_9), rfl⟩
    · refine j_iconst C (nI 1) dX0_isPeg_12 (by decide) ?_
      refine j_goto C 17 dX0_isPeg_13 (by decide) ?_
      exact j_retz C R dX0_isPeg_17 rfl ⟨bi_t (inr_t hP c_1 c_9), rfl⟩
abbrev rm_X0_isDisk : Room := { frames := 0, cells := 0, slots := 0, locals := 0 }
set_option maxHeartbeats 4000000 in
set_option maxRecDepth 100000 in
theorem ct_X0_isDisk {l : Launch} {D : va_G} {Y : jy_T} {ad : Nat → Nat} {N : Nat} {x : Int32} {p ru nw tg mc me : Int32} {we co al tr to fa se qu sp : Nat → Int32} (hN : N < 2 ^ 31) :
    MJ l yX0_isDisk cX0_isDisk 2 (some .boolean) rm_X0_isDisk D Y [.ref (ad 0), .int x] (wA Y ad p (nI N) ru nw tg mc me we co al tr to fa se qu sp) (jI (fun r w => r = bi (inr x N) ∧ w = (wA Y ad p (nI N) ru nw tg mc me we co al tr to fa se qu sp))) := by
  refine j_enter (by decide) (Nat.le_of_ble_eq_true rfl) (fun v hv => by simp only [List.mem_cons, List.not_mem_nil, or_false] at hv; rcases hv with rfl | rfl <;> rfl) (fun K hl hD hnm C R => ?_)
  subst hl; subst hD
  have C : jC cX0_isDisk RX0 Y rm_X0_isDisk 2 K := C
  have R : jR Y (some .boolean) 0 0 (jI (fun r w => r = bi (inr x N) ∧ w = (wA Y ad p (nI N) ru nw tg mc me we co al tr to fa se qu sp))) K := R
  refine j_eq (lo' := [some (.ref (ad 0)), some (.int x)]) rfl rfl rfl ?_
  refine j_iload_n C dX0_isDisk_0 rfl ?_
  refine j_if_lt C 16 dX0_isDisk_1 (by decide) (fun c_1 => ?_) (fun c_1 => ?_)
  · refine j_iconst C (nI 0) dX0_isDisk_16 (by decide) ?_
    exact j_retz C R dX0_isDisk_17 rfl ⟨bi_f (inr_f1 c_1), rfl⟩
  · refine j_iload_n C dX0_isDisk_4 rfl ?_
    refine j_aload_n C dX0_isDisk_5 rfl ?_
    refine g0_diskCount C dX0_isDisk_6 ?_
    refine j_icmp_ge C 16 dX0_isDisk_9 (by decide) (fun c_9 => ?_) (fun c_9 => ?_)
    · refine j_iconst C (nI 0) dX0_isDisk_16 (by decide) ?_
      exact j_retz C R dX0_isDisk_17 rfl ⟨bi_f (inr_f2 hN c_9), rfl⟩
    · refine j_iconst C (nI 1) dX0_isDisk_12 (by decide) ?_
      refine j_goto C 17 dX0_isDisk_13 (by decide) ?_
      exact j_retz C R dX0_isDisk_17 rfl ⟨bi_t (inr_t hN c_1 c_9), rfl⟩
