abbrev rm_X0_isPossible : Room := { frames := 3, cells := 0, slots := 0, locals := 69 }
set_option maxHeartbeats 4000000 in
set_option maxRecDepth 100000 in
theorem ct_X0_isPossible {l : Launch} {D : va_G} {Y : jy_T} {ad : Nat → Nat} {P N a f t : Nat} {ru : Bool} {cb al : Nat → Bool} {tg mc me : Int32} {tr to fa se qu sp : Nat → Int32} (hc : cfg P N) (ha : a < P ^ N) (hf : f < P) (ht : t < P) :
    MJ l yX0_isPossible cX0_isPossible 3 (some .boolean) rm_X0_isPossible D Y [.ref (ad 0), .int (nI f), .int (nI t)] (wA Y ad (nI P) (nI N) (bi ru) (nI a) tg mc me (fun d => nI (P ^ d)) (fun d => bi (cb d)) (fun k => bi (al k)) tr to fa se qu sp) (jI (fun r w => r = bi (psB P N ru cb al a f t) ∧ ∃ to1, tpOf P N a to1 ∧ w = (wA Y ad (nI P) (nI N) (bi ru) (nI a) tg mc me (fun d => nI (P ^ d)) (fun d => bi (cb d)) (fun k => bi (al k)) tr to1 fa se qu sp))) := by
  refine j_enter (by decide) (Nat.le_of_ble_eq_true rfl) (fun v hv => by simp only [List.mem_cons, List.not_mem_nil, or_false] at hv; rcases hv with rfl | rfl | rfl <;> rfl) (fun K hl hD hnm C R => ?_)
  subst hl; subst hD
  have C : jC cX0_isPossible RX0 Y rm_X0_isPossible 3 K := C
  have R : jR Y (some .boolean) 0 0 (jI (fun r w => r = bi (psB P N ru cb al a f t) ∧ ∃ to1, tpOf P N a to1 ∧ w = (wA Y ad (nI P) (nI N) (bi ru) (nI a) tg mc me (fun d => nI (P ^ d)) (fun d => bi (cb d)) (fun k => bi (al k)) tr to1 fa se qu sp))) K := R
  refine j_eq (lo' := [some (.ref (ad 0)), some (.int (nI f)), some (.int (nI t))]) rfl rfl rfl ?_
  obtain ⟨hP3, hP5, hN1, hN6⟩ := id hc
  have hP0 : 0 < P := by omega
  have hp2 : P ^ N ≤ 15625 := cfg_pw hc (by omega)
  refine j_aload_n C dX0_isPossible_0 rfl ?_
  refine j_aload_n C dX0_isPossible_1 rfl ?_
  refine g0_now C dX0_isPossible_2 ?_
  refine j_callV1v C (ct_X0_readTops hc (by omega)) gw_0_120 nd_X0_readTops 0 0 rfl rfl rfl ⟨by decide, by decide⟩ ⟨Nat.le_of_ble_eq_true rfl, Nat.le_of_ble_eq_true rfl⟩ (Nat.le_of_ble_eq_true rfl) dX0_isPossible_5 (fun w_1 hp => ?_)
  obtain ⟨to1, hto, rfl⟩ := hp
  refine j_aload_n C dX0_isPossible_8 rfl ?_
  refine j_iload_n C dX0_isPossible_9 rfl ?_
  refine j_iload_n C dX0_isPossible_10 rfl ?_
  refine j_callV2i C (ct_X0_fits (o1 := tp P N a f) (o2 := tp P N a t) (by omega) (by omega) (hto f (by omega)) (hto t (by omega)) (fun j h => by have := tp_lt h; omega) (fun j h => by have := tp_lt h; omega)) gw_0_165 nd_X0_fits 0 0 rfl rfl rfl ⟨by decide, by decide⟩ ⟨Nat.le_of_ble_eq_true rfl, Nat.le_of_ble_eq_true rfl⟩ (Nat.le_of_ble_eq_true rfl) dX0_isPossible_11 (fun x_1 w_1 hp => ?_)
  obtain ⟨rfl, rfl⟩ := hp
  refine jB_if_eq C 51 dX0_isPossible_14 (by decide) (fun c_14 => ?_) (fun c_14 => ?_)
  · refine j_iconst C (nI 0) dX0_isPossible_51 (by decide) ?_
    exact j_retz C R dX0_isPossible_52 rfl ⟨bi_f (by unfold psB; rw [c_14]; rfl), to1, hto, rfl⟩
  · refine j_aload_n C dX0_isPossible_17 rfl ?_
    refine g0_allowed C dX0_isPossible_18 ?_
    refine j_iload_n C dX0_isPossible_21 rfl ?_
    refine j_iload_n C dX0_isPossible_22 rfl ?_
    refine j_callS2i C (ct_X0_pairOf (ad := ad)) gw_0_95 rfl nd_X0_pairOf ⟨by decide, by decide⟩ ⟨Nat.le_of_ble_eq_true rfl, Nat.le_of_ble_eq_true rfl⟩ (Nat.le_of_ble_eq_true rfl) dX0_isPossible_23 (fun x_1 w_1 hp => ?_)
    obtain ⟨rfl, rfl⟩ := hp
    refine l0_al C _ rfl (by omega) dX0_isPossible_26 ?_
    refine jB_if_eq C 51 dX0_isPossible_27 (by decide) (fun c_27 => ?_) (fun c_27 => ?_)
    · refine j_iconst C (nI 0) dX0_isPossible_51 (by decide) ?_
      exact j_retz C R dX0_isPossible_52 rfl ⟨bi_f (by unfold psB; rw [c_27, Bool.and_false]; rfl), to1, hto, rfl⟩
    · obtain ⟨-, d, hd, -⟩ := ftB_some c_14
      refine j_aload_n C dX0_isPossible_30 rfl ?_
      refine j_aload_n C dX0_isPossible_31 rfl ?_
      refine j_aload_n C dX0_isPossible_32 rfl ?_
      refine g0_now C dX0_isPossible_33 ?_
      refine j_iload_n C dX0_isPossible_36 rfl ?_
      refine j_iload_n C dX0_isPossible_37 rfl ?_
      refine j_callV3i C (ct_X0_behindMove (d := d) (by omega) (by omega) (by omega) (by rw [hto f (by omega), hd]; rfl) (tp_lt hd) (tp_le hd)) gw_0_111 nd_X0_behindMove 0 0 rfl rfl rfl ⟨by decide, by decide⟩ ⟨Nat.le_of_ble_eq_true rfl, Nat.le_of_ble_eq_true rfl⟩ (Nat.le_of_ble_eq_true rfl) dX0_isPossible_38 (fun x_1 w_1 hp => ?_)
      obtain ⟨rfl, rfl⟩ := hp
      refine j_top _ (nI (mv P N a f t)) (by rw [mv_some hd]) ?_
      refine j_callV1i C (ct_X0_keepsRule hc (by have := mv_lt (f := f) hP0 ha (show t < P by omega); omega)) gw_0_124 nd_X0_keepsRule 0 0 rfl rfl rfl ⟨by decide, by decide⟩ ⟨Nat.le_of_ble_eq_true rfl, Nat.le_of_ble_eq_true rfl⟩ (Nat.le_of_ble_eq_true rfl) dX0_isPossible_41 (fun x_1 w_1 hp => ?_)
      obtain ⟨rfl, rfl⟩ := hp
      refine jB_if_eq C 51 dX0_isPossible_44 (by decide) (fun c_44 => ?_) (fun c_44 => ?_)
      · refine j_iconst C (nI 0) dX0_isPossible_51 (by decide) ?_
        exact j_retz C R dX0_isPossible_52 rfl ⟨bi_f (by unfold psB; rw [c_44, Bool.and_false]), to1, hto, rfl⟩
      · refine j_iconst C (nI 1) dX0_isPossible_47 (by decide) ?_
        refine j_goto C 52 dX0_isPossible_48 (by decide) ?_
        exact j_retz C R dX0_isPossible_52 rfl ⟨bi_t (by unfold psB; rw [c_14, c_27, c_44]; rfl), to1, hto, rfl⟩
abbrev rm_X0_isStep : Room := { frames := 1, cells := 0, slots := 0, locals := 24 }
set_option maxHeartbeats 4000000 in
set_option maxRecDepth 100000 in
theorem ct_X0_isStep {l : Launch} {D : va_G} {Y : jy_T} {ad : Nat → Nat} {P N a f t : Nat} {ru bw : Bool} {cb al : Nat → Bool} {p n nw tg mc me : Int32} {we tr to fa se qu sp : Nat → Int32} (hN : N ≤ 6) (hto : tpOf P N a to) (hf : f < 5) (ht : t < 5) :
    MJ l yX0_isStep cX0_isStep 5 (some .boolean) rm_X0_isStep D Y [.ref (ad 0), .int (nI f), .int (nI t), .int (bi bw)] (wA Y ad p n (bi ru) nw tg mc me we (fun d => bi (cb d)) (fun k => bi (al k)) tr to fa se qu sp) (jI (fun r w => r = bi (stB P N ru cb al a f t bw) ∧ w = (wA Y ad p n (bi ru) nw tg mc me we (fun d => bi (cb d)) (fun k => bi (al k)) tr to fa se qu sp))) := by
  refine j_enter (by decide) (Nat.le_of_ble_eq_true rfl) (fun v hv => by simp only [List.mem_cons, List.not_mem_nil, or_false] at hv; rcases hv with rfl | rfl | rfl | rfl <;> rfl) (fun K hl hD hnm C R => ?_)
  subst hl; subst hD
  have C : jC cX0_isStep RX0 Y rm_X0_isStep 5 K := C
  have R : jR Y (some .boolean) 0 0 (jI (fun r w => r = bi (stB P N ru cb al a f t bw) ∧ w = (wA Y ad p n (bi ru) nw tg mc me we (fun d => bi (cb d)) (fun k => bi (al k)) tr to fa se qu sp))) K := R
  refine j_eq (lo' := [some (.ref (ad 0)), some (.int (nI f)), some (.int (nI t)), some (.int (bi bw)), none]) rfl rfl rfl ?_
  refine j_aload_n C dX0_isStep_0 rfl ?_
  refine j_iload_n C dX0_isStep_1 rfl ?_
  refine j_iload_n C dX0_isStep_2 rfl ?_
  refine j_callV2i C (ct_X0_fits (o1 := tp P N a f) (o2 := tp P N a t) (by omega) (by omega) (hto f (by omega)) (hto t (by omega)) (fun j h => by have := tp_lt h; omega) (fun j h => by have := tp_lt h; omega)) gw_0_165 nd_X0_fits 0 0 rfl rfl rfl ⟨by decide, by decide⟩ ⟨Nat.le_of_ble_eq_true rfl, Nat.le_of_ble_eq_true rfl⟩ (Nat.le_of_ble_eq_true rfl) dX0_isStep_3 (fun x_1 w_1 hp => ?_)
  obtain ⟨rfl, rfl⟩ := hp
  refine jB_if_ne C 11 dX0_isStep_6 (by decide) (fun c_6 => ?_) (fun c_6 => ?_)
  · obtain ⟨-, d, hd, -⟩ := ftB_some c_6
    refine j_iload_n C dX0_isStep_11 rfl ?_
    refine jB_if_eq C 23 dX0_isStep_12 (by decide) (fun c_12 => ?_) (fun c_12 => ?_)
    · refine j_iload_n C dX0_isStep_23 rfl ?_
      refine j_iload_n C dX0_isStep_24 rfl ?_
      refine j_callS2i C (ct_X0_pairOf (ad := ad)) gw_0_95 rfl nd_X0_pairOf ⟨by decide, by decide⟩ ⟨Nat.le_of_ble_eq_true rfl, Nat.le_of_ble_eq_true rfl⟩ (Nat.le_of_ble_eq_true rfl) dX0_isStep_25 (fun x_1 w_1 hp => ?_)
      obtain ⟨rfl, rfl⟩ := hp
      refine j_istore_4 C dX0_isStep_28 (by decide) ?_
      refine j_aload_n C dX0_isStep_30 rfl ?_
      refine g0_allowed C dX0_isStep_31 ?_
      refine j_iload C dX0_isStep_34 rfl ?_
      refine l0_al C _ rfl (by omega) dX0_isStep_36 ?_
      refine jB_if_eq C 63 dX0_isStep_37 (by decide) (fun c_37 => ?_) (fun c_37 => ?_)
      · refine j_iconst C (nI 0) dX0_isStep_63 (by decide) ?_
        exact j_retz C R dX0_isStep_64 rfl ⟨bi_f (by unfold stB; rw [c_12, hd]; simp [c_37]), rfl⟩
      · refine j_aload_n C dX0_isStep_40 rfl ?_
        refine j_aload_n C dX0_isStep_41 rfl ?_
        refine g0_tops C dX0_isStep_42 ?_
        refine j_iload_n C dX0_isStep_45 rfl ?_
        refine l0_to C _ rfl (by omega) dX0_isStep_46 ?_
        refine j_top _ (nI d) (by rw [hto f (by omega), hd]; rfl) ?_
        refine j_aload_n C dX0_isStep_47 rfl ?_
        refine g0_tops C dX0_isStep_48 ?_
        refine j_iload_n C dX0_isStep_51 rfl ?_
        refine l0_to C _ rfl (by omega) dX0_isStep_52 ?_
        refine j_top _ (oI (tp P N a t)) (hto t (by omega)) ?_
        refine j_callV2i C (ct_X0_mayLieOn (by have := tp_lt hd; omega) (fun j h => by have := tp_lt h; omega)) gw_0_162 nd_X0_mayLieOn 0 0 rfl rfl rfl ⟨by decide, by decide⟩ ⟨Nat.le_of_ble_eq_true rfl, Nat.le_of_ble_eq_true rfl⟩ (Nat.le_of_ble_eq_true rfl) dX0_isStep_53 (fun x_1 w_1 hp => ?_)
        obtain ⟨rfl, rfl⟩ := hp
        refine jB_if_eq C 63 dX0_isStep_56 (by decide) (fun c_56 => ?_) (fun c_56 => ?_)
        · refine j_iconst C (nI 0) dX0_isStep_63 (by decide) ?_
          exact j_retz C R dX0_isStep_64 rfl ⟨bi_f (by unfold stB; rw [c_12, hd]; simp [c_56]), rfl⟩
        · refine j_iconst C (nI 1) dX0_isStep_59 (by decide) ?_
          refine j_goto C 64 dX0_isStep_60 (by decide) ?_
          exact j_retz C R dX0_isStep_64 rfl ⟨bi_t (by unfold stB; rw [c_12, c_6, hd]; simp [c_37, c_56]), rfl⟩
    · refine j_iload_n C dX0_isStep_15 rfl ?_
      refine j_iload_n C dX0_isStep_16 rfl ?_
      refine j_callS2i C (ct_X0_pairOf (ad := ad)) gw_0_95 rfl nd_X0_pairOf ⟨by decide, by decide⟩ ⟨Nat.le_of_ble_eq_true rfl, Nat.le_of_ble_eq_true rfl⟩ (Nat.le_of_ble_eq_true rfl) dX0_isStep_17 (fun x_1 w_1 hp => ?_)
      obtain ⟨rfl, rfl⟩ := hp
      refine j_goto C 28 dX0_isStep_20 (by decide) ?_
      refine j_istore_4 C dX0_isStep_28 (by decide) ?_
      refine j_aload_n C dX0_isStep_30 rfl ?_
      refine g0_allowed C dX0_isStep_31 ?_
      refine j_iload C dX0_isStep_34 rfl ?_
      refine l0_al C _ rfl (by omega) dX0_isStep_36 ?_
      refine jB_if_eq C 63 dX0_isStep_37 (by decide) (fun c_37 => ?_) (fun c_37 => ?_)
      · refine j_iconst C (nI 0) dX0_isStep_63 (by decide) ?_
        exact j_retz C R dX0_isStep_64 rfl ⟨bi_f (by unfold stB; rw [c_12, hd]; simp [c_37]), rfl⟩
      · refine j_aload_n C dX0_isStep_40 rfl ?_
        refine j_aload_n C dX0_isStep_41 rfl ?_
        refine g0_tops C dX0_isStep_42 ?_
        refine j_iload_n C dX0_isStep_45 rfl ?_
        refine l0_to C _ rfl (by omega) dX0_isStep_46 ?_
        refine j_top _ (nI d) (by rw [hto f (by omega), hd]; rfl) ?_
        refine j_aload_n C dX0_isStep_47 rfl ?_
        refine g0_tops C dX0_isStep_48 ?_
        refine j_iload_n C dX0_isStep_51 rfl ?_
        refine l0_to C _ rfl (by omega) dX0_isStep_52 ?_
        refine j_top _ (oI (tp P N a t)) (hto t (by omega)) ?_
        refine j_callV2i C (ct_X0_mayLieOn (by have := tp_lt hd; omega) (fun j h => by have := tp_lt h; omega)) gw_0_162 nd_X0_mayLieOn 0 0 rfl rfl rfl ⟨by decide, by decide⟩ ⟨Nat.le_of_ble_eq_true rfl, Nat.le_of_ble_eq_true rfl⟩ (Nat.le_of_ble_eq_true rfl) dX0_isStep_53 (fun x_1 w_1 hp => ?_)
        obtain ⟨rfl, rfl⟩ := hp
        refine jB_if_eq C 63 dX0_isStep_56 (by decide) (fun c_56 => ?_) (fun c_56 => ?_)
        · refine j_iconst C (nI 0) dX0_isStep_63 (by decide) ?_
          exact j_retz C R dX0_isStep_64 rfl ⟨bi_f (by unfold stB; rw [c_12, hd]; simp [c_56]), rfl⟩
        · refine j_iconst C (nI 1) dX0_isStep_59 (by decide) ?_
          refine j_goto C 64 dX0_isStep_60 (by decide) ?_
          exact j_retz C R dX0_isStep_64 rfl ⟨bi_t (by unfold stB; rw [c_12, c_6, hd]; simp [c_37, c_56]), rfl⟩
  · refine j_iconst C (nI 0) dX0_isStep_9 (by decide) ?_
    exact j_retz C R dX0_isStep_10 rfl ⟨bi_f (by unfold stB; rw [c_6]; rfl), rfl⟩
