/-! two benches are alike -/
abbrev rm_L_areAlike : Room := { frames := 6, cells := 0, slots := 0, locals := 142 }
set_option maxHeartbeats 4000000 in
set_option maxRecDepth 100000 in
theorem ct_L_areAlike {l : Launch} {D : va_G} {Y : jy_T} {ad ad2 : Nat → Nat} {s : sT} {tr tr2 : Nat → Nat} {me me2 : Bool} {to fa se qu to2 fa2 se2 qu2 : Nat → Int32} (G : GD s) (H : Hd s tr me fa) (H2 : Hd s tr2 me2 fa2) (hl : l.stackTraces = false) :
    MZ l yL_areAlike cL_areAlike 2 (some .boolean) rm_L_areAlike D Y [.ref (ad 0), .ref (ad2 0)] ((bw Y ad s tr me to fa se qu) ++ (bw Y ad2 s tr2 me2 to2 fa2 se2 qu2)) (jI (fun r w => r = nI 1 ∧ ∃ w1 w2, Bw Y ad s w1 ∧ Bw Y ad2 s w2 ∧ w = w1 ++ w2)) := by
  refine j_enterZ (by decide) (Nat.le_of_ble_eq_true rfl) (fun v hv => by simp only [List.mem_cons, List.not_mem_nil, or_false] at hv; rcases hv with rfl | rfl <;> rfl) (fun K hl2 hD C R X => ?_)
  subst hl2; subst hD
  have C : jC cL_areAlike RL Y rm_L_areAlike 2 K := C
  have R : jR Y (some .boolean) 0 0 (jI (fun r w => r = nI 1 ∧ ∃ w1 w2, Bw Y ad s w1 ∧ Bw Y ad2 s w2 ∧ w = w1 ++ w2)) K := R
  refine j_eq (lo' := [some (.ref (ad 0)), some (.ref (ad2 0))]) rfl rfl rfl ?_
  refine j_aload_n C dL_areAlike_0 rfl ?_
  refine j_callVZ (wr := (bw Y ad2 s tr2 me2 to2 fa2 se2 qu2)) (st := []) C X [] [0, 1, 2, 3, 4, 5, 6, 7, 8, 9] [10, 11, 12, 13, 14, 15, 16, 17, 18, 19] (bz_pegs) rfl rfl rfl rfl (by decide) gw_L_52 nd_X0_pegs 0 0 rfl rfl rfl ⟨by decide, by decide⟩ ⟨Nat.le_of_ble_eq_true rfl, Nat.le_of_ble_eq_true rfl⟩ (Nat.le_of_ble_eq_true rfl) dL_areAlike_1 rfl (fun r w1 hp => ?_)
  obtain ⟨v1, rfl, hp⟩ := hp
  refine j_eq (st' := [.int v1]) (ws2 := ((bw Y ad2 s tr2 me2 to2 fa2 se2 qu2) ++ w1)) rfl rfl rfl ?_
  obtain ⟨rfl, rfl⟩ := hp
  refine j_aload_n C dL_areAlike_4 rfl ?_
  refine j_callVZ (wr := (bw Y ad s tr me to fa se qu)) (st := [.int (nI (sP s))]) C X [] [0, 1, 2, 3, 4, 5, 6, 7, 8, 9] [10, 11, 12, 13, 14, 15, 16, 17, 18, 19] (bz_pegs) rfl rfl rfl rfl (by decide) gw_L_52 nd_X0_pegs 0 0 rfl rfl rfl ⟨by decide, by decide⟩ ⟨Nat.le_of_ble_eq_true rfl, Nat.le_of_ble_eq_true rfl⟩ (Nat.le_of_ble_eq_true rfl) dL_areAlike_5 rfl (fun r w5 hp => ?_)
  obtain ⟨v5, rfl, hp⟩ := hp
  refine j_eq (st' := [.int v5, .int (nI (sP s))]) (ws2 := ((bw Y ad s tr me to fa se qu) ++ w5)) rfl rfl rfl ?_
  obtain ⟨rfl, rfl⟩ := hp
  refine j_icmp_ne C 81 dL_areAlike_8 (by decide) (fun c => absurd rfl c) (fun _ => ?_)
  refine j_aload_n C dL_areAlike_11 rfl ?_
  refine j_callVZ (wr := (bw Y ad2 s tr2 me2 to2 fa2 se2 qu2)) (st := []) C X [] [0, 1, 2, 3, 4, 5, 6, 7, 8, 9] [10, 11, 12, 13, 14, 15, 16, 17, 18, 19] (bz_disks) rfl rfl rfl rfl (by decide) gw_L_55 nd_X0_disks 0 0 rfl rfl rfl ⟨by decide, by decide⟩ ⟨Nat.le_of_ble_eq_true rfl, Nat.le_of_ble_eq_true rfl⟩ (Nat.le_of_ble_eq_true rfl) dL_areAlike_12 rfl (fun r w12 hp => ?_)
  obtain ⟨v12, rfl, hp⟩ := hp
  refine j_eq (st' := [.int v12]) (ws2 := ((bw Y ad2 s tr2 me2 to2 fa2 se2 qu2) ++ w12)) rfl rfl rfl ?_
  obtain ⟨rfl, rfl⟩ := hp
  refine j_aload_n C dL_areAlike_15 rfl ?_
  refine j_callVZ (wr := (bw Y ad s tr me to fa se qu)) (st := [.int (nI (sN s))]) C X [] [0, 1, 2, 3, 4, 5, 6, 7, 8, 9] [10, 11, 12, 13, 14, 15, 16, 17, 18, 19] (bz_disks) rfl rfl rfl rfl (by decide) gw_L_55 nd_X0_disks 0 0 rfl rfl rfl ⟨by decide, by decide⟩ ⟨Nat.le_of_ble_eq_true rfl, Nat.le_of_ble_eq_true rfl⟩ (Nat.le_of_ble_eq_true rfl) dL_areAlike_16 rfl (fun r w16 hp => ?_)
  obtain ⟨v16, rfl, hp⟩ := hp
  refine j_eq (st' := [.int v16, .int (nI (sN s))]) (ws2 := ((bw Y ad s tr me to fa se qu) ++ w16)) rfl rfl rfl ?_
  obtain ⟨rfl, rfl⟩ := hp
  refine j_icmp_ne C 81 dL_areAlike_19 (by decide) (fun c => absurd rfl c) (fun _ => ?_)
  refine j_aload_n C dL_areAlike_22 rfl ?_
  refine j_callVZ (wr := (bw Y ad2 s tr2 me2 to2 fa2 se2 qu2)) (st := []) C X [] [0, 1, 2, 3, 4, 5, 6, 7, 8, 9] [10, 11, 12, 13, 14, 15, 16, 17, 18, 19] (bz_moves) rfl rfl rfl rfl (by decide) gw_L_82 nd_X0_moves 0 0 rfl rfl rfl ⟨by decide, by decide⟩ ⟨Nat.le_of_ble_eq_true rfl, Nat.le_of_ble_eq_true rfl⟩ (Nat.le_of_ble_eq_true rfl) dL_areAlike_23 rfl (fun r w23 hp => ?_)
  obtain ⟨v23, rfl, hp⟩ := hp
  refine j_eq (st' := [.int v23]) (ws2 := ((bw Y ad2 s tr2 me2 to2 fa2 se2 qu2) ++ w23)) rfl rfl rfl ?_
  obtain ⟨rfl, rfl⟩ := hp
  refine j_aload_n C dL_areAlike_26 rfl ?_
  refine j_callVZ (wr := (bw Y ad s tr me to fa se qu)) (st := [.int (nI (sM s))]) C X [] [0, 1, 2, 3, 4, 5, 6, 7, 8, 9] [10, 11, 12, 13, 14, 15, 16, 17, 18, 19] (bz_moves) rfl rfl rfl rfl (by decide) gw_L_82 nd_X0_moves 0 0 rfl rfl rfl ⟨by decide, by decide⟩ ⟨Nat.le_of_ble_eq_true rfl, Nat.le_of_ble_eq_true rfl⟩ (Nat.le_of_ble_eq_true rfl) dL_areAlike_27 rfl (fun r w27 hp => ?_)
  obtain ⟨v27, rfl, hp⟩ := hp
  refine j_eq (st' := [.int v27, .int (nI (sM s))]) (ws2 := ((bw Y ad s tr me to fa se qu) ++ w27)) rfl rfl rfl ?_
  obtain ⟨rfl, rfl⟩ := hp
  refine j_icmp_ne C 81 dL_areAlike_30 (by decide) (fun c => absurd rfl c) (fun _ => ?_)
  refine j_aload_n C dL_areAlike_33 rfl ?_
  refine j_callVZ (wr := (bw Y ad2 s tr2 me2 to2 fa2 se2 qu2)) (st := []) C X [] [0, 1, 2, 3, 4, 5, 6, 7, 8, 9] [10, 11, 12, 13, 14, 15, 16, 17, 18, 19] (bz_arrangement) rfl rfl rfl rfl (by decide) gw_L_85 nd_X0_arrangement 0 0 rfl rfl rfl ⟨by decide, by decide⟩ ⟨Nat.le_of_ble_eq_true rfl, Nat.le_of_ble_eq_true rfl⟩ (Nat.le_of_ble_eq_true rfl) dL_areAlike_34 rfl (fun r w34 hp => ?_)
  obtain ⟨v34, rfl, hp⟩ := hp
  refine j_eq (st' := [.int v34]) (ws2 := ((bw Y ad2 s tr2 me2 to2 fa2 se2 qu2) ++ w34)) rfl rfl rfl ?_
  obtain ⟨rfl, rfl⟩ := hp
  refine j_aload_n C dL_areAlike_37 rfl ?_
  refine j_callVZ (wr := (bw Y ad s tr me to fa se qu)) (st := [.int (nI (sA s))]) C X [] [0, 1, 2, 3, 4, 5, 6, 7, 8, 9] [10, 11, 12, 13, 14, 15, 16, 17, 18, 19] (bz_arrangement) rfl rfl rfl rfl (by decide) gw_L_85 nd_X0_arrangement 0 0 rfl rfl rfl ⟨by decide, by decide⟩ ⟨Nat.le_of_ble_eq_true rfl, Nat.le_of_ble_eq_true rfl⟩ (Nat.le_of_ble_eq_true rfl) dL_areAlike_38 rfl (fun r w38 hp => ?_)
  obtain ⟨v38, rfl, hp⟩ := hp
  refine j_eq (st' := [.int v38, .int (nI (sA s))]) (ws2 := ((bw Y ad s tr me to fa se qu) ++ w38)) rfl rfl rfl ?_
  obtain ⟨rfl, rfl⟩ := hp
  refine j_icmp_ne C 81 dL_areAlike_41 (by decide) (fun c => absurd rfl c) (fun _ => ?_)
  refine j_aload_n C dL_areAlike_44 rfl ?_
  refine j_callVZ (wr := (bw Y ad2 s tr2 me2 to2 fa2 se2 qu2)) (st := []) C X [] [0, 1, 2, 3, 4, 5, 6, 7, 8, 9] [10, 11, 12, 13, 14, 15, 16, 17, 18, 19] (bz_goal) rfl rfl rfl rfl (by decide) gw_L_88 nd_X0_goal 0 0 rfl rfl rfl ⟨by decide, by decide⟩ ⟨Nat.le_of_ble_eq_true rfl, Nat.le_of_ble_eq_true rfl⟩ (Nat.le_of_ble_eq_true rfl) dL_areAlike_45 rfl (fun r w45 hp => ?_)
  obtain ⟨v45, rfl, hp⟩ := hp
  refine j_eq (st' := [.int v45]) (ws2 := ((bw Y ad2 s tr2 me2 to2 fa2 se2 qu2) ++ w45)) rfl rfl rfl ?_
  obtain ⟨rfl, rfl⟩ := hp
  refine j_aload_n C dL_areAlike_48 rfl ?_
  refine j_callVZ (wr := (bw Y ad s tr me to fa se qu)) (st := [.int (nI (sB s))]) C X [] [0, 1, 2, 3, 4, 5, 6, 7, 8, 9] [10, 11, 12, 13, 14, 15, 16, 17, 18, 19] (bz_goal) rfl rfl rfl rfl (by decide) gw_L_88 nd_X0_goal 0 0 rfl rfl rfl ⟨by decide, by decide⟩ ⟨Nat.le_of_ble_eq_true rfl, Nat.le_of_ble_eq_true rfl⟩ (Nat.le_of_ble_eq_true rfl) dL_areAlike_49 rfl (fun r w49 hp => ?_)
  obtain ⟨v49, rfl, hp⟩ := hp
  refine j_eq (st' := [.int v49, .int (nI (sB s))]) (ws2 := ((bw Y ad s tr me to fa se qu) ++ w49)) rfl rfl rfl ?_
  obtain ⟨rfl, rfl⟩ := hp
  refine j_icmp_ne C 81 dL_areAlike_52 (by decide) (fun c => absurd rfl c) (fun _ => ?_)
  refine j_aload_n C dL_areAlike_55 rfl ?_
  refine j_callVZ (wr := (bw Y ad2 s tr2 me2 to2 fa2 se2 qu2)) (st := []) C X [] [0, 1, 2, 3, 4, 5, 6, 7, 8, 9] [10, 11, 12, 13, 14, 15, 16, 17, 18, 19] (bz_way G H) rfl rfl rfl rfl (by decide) gw_L_91 nd_X0_way 0 0 rfl rfl rfl ⟨by decide, by decide⟩ ⟨Nat.le_of_ble_eq_true rfl, Nat.le_of_ble_eq_true rfl⟩ (Nat.le_of_ble_eq_true rfl) dL_areAlike_56 rfl (fun r w56 hp => ?_)
  obtain ⟨v56, rfl, hp⟩ := hp
  refine j_eq (st' := [.int v56]) (ws2 := ((bw Y ad2 s tr2 me2 to2 fa2 se2 qu2) ++ w56)) rfl rfl rfl ?_
  obtain ⟨ds0, hd0, rfl, trw0, mew0, tow0, faw0, sew0, quw0, Hw0, rfl⟩ := hp
  refine j_aload_n C dL_areAlike_59 rfl ?_
  refine j_callVZ (wr := (bw Y ad s trw0 mew0 tow0 faw0 sew0 quw0)) (st := [.int (oI (ds0 (sA s)))]) C X [] [0, 1, 2, 3, 4, 5, 6, 7, 8, 9] [10, 11, 12, 13, 14, 15, 16, 17, 18, 19] (bz_way G H2) rfl rfl rfl rfl (by decide) gw_L_91 nd_X0_way 0 0 rfl rfl rfl ⟨by decide, by decide⟩ ⟨Nat.le_of_ble_eq_true rfl, Nat.le_of_ble_eq_true rfl⟩ (Nat.le_of_ble_eq_true rfl) dL_areAlike_60 rfl (fun r w60 hp => ?_)
  obtain ⟨v60, rfl, hp⟩ := hp
  refine j_eq (st' := [.int v60, .int (oI (ds0 (sA s)))]) (ws2 := ((bw Y ad s trw0 mew0 tow0 faw0 sew0 quw0) ++ w60)) rfl rfl rfl ?_
  obtain ⟨ds1, hd1, rfl, trw1, mew1, tow1, faw1, sew1, quw1, Hw1, rfl⟩ := hp
  refine j_icmp_ne C 81 dL_areAlike_63 (by decide) (fun c => absurd (show oI (ds0 (sA s)) = oI (ds1 (sA s)) by rw [srD_one hd0 hd1]) c) (fun _ => ?_)
  refine j_aload_n C dL_areAlike_66 rfl ?_
  refine j_callVZ (wr := (bw Y ad2 s trw1 mew1 tow1 faw1 sew1 quw1)) (st := []) C X [] [0, 1, 2, 3, 4, 5, 6, 7, 8, 9] [10, 11, 12, 13, 14, 15, 16, 17, 18, 19] (bz_reachable G Hw0) rfl rfl rfl rfl (by decide) gw_L_94 nd_X0_reachable 0 0 rfl rfl rfl ⟨by decide, by decide⟩ ⟨Nat.le_of_ble_eq_true rfl, Nat.le_of_ble_eq_true rfl⟩ (Nat.le_of_ble_eq_true rfl) dL_areAlike_67 rfl (fun r w67 hp => ?_)
  obtain ⟨v67, rfl, hp⟩ := hp
  refine j_eq (st' := [.int v67]) (ws2 := ((bw Y ad2 s trw1 mew1 tow1 faw1 sew1 quw1) ++ w67)) rfl rfl rfl ?_
  obtain ⟨fo0, ⟨rd0, hr0⟩, rfl, trr0, mer0, tor0, far0, ser0, qur0, Hr0, rfl⟩ := hp
  refine j_aload_n C dL_areAlike_70 rfl ?_
  refine j_callVZ (wr := (bw Y ad s trr0 mer0 tor0 far0 ser0 qur0)) (st := [.int (nI fo0)]) C X [] [0, 1, 2, 3, 4, 5, 6, 7, 8, 9] [10, 11, 12, 13, 14, 15, 16, 17, 18, 19] (bz_reachable G Hw1) rfl rfl rfl rfl (by decide) gw_L_94 nd_X0_reachable 0 0 rfl rfl rfl ⟨by decide, by decide⟩ ⟨Nat.le_of_ble_eq_true rfl, Nat.le_of_ble_eq_true rfl⟩ (Nat.le_of_ble_eq_true rfl) dL_areAlike_71 rfl (fun r w71 hp => ?_)
  obtain ⟨v71, rfl, hp⟩ := hp
  refine j_eq (st' := [.int v71, .int (nI fo0)]) (ws2 := ((bw Y ad s trr0 mer0 tor0 far0 ser0 qur0) ++ w71)) rfl rfl rfl ?_
  obtain ⟨fo1, ⟨rd1, hr1⟩, rfl, trr1, mer1, tor1, far1, ser1, qur1, Hr1, rfl⟩ := hp
  refine j_icmp_ne C 81 dL_areAlike_74 (by decide) (fun c => absurd (show nI fo0 = nI fo1 by rw [srF_one hr0 hr1]) c) (fun _ => ?_)
  refine j_iconst C (nI 1) dL_areAlike_77 (by decide) ?_
  refine j_goto C 82 dL_areAlike_78 (by decide) ?_
  exact j_retz C R dL_areAlike_82 rfl ⟨rfl, _, _, Bw.of Hr0, Bw.of Hr1, rfl⟩
