abbrev rm_X1_goesWell : Room := { frames := 0, cells := 0, slots := 0, locals := 0 }
set_option maxHeartbeats 4000000 in
set_option maxRecDepth 100000 in
theorem ct_X1_goesWell {l : Launch} {D : va_G} {Y : jy_T} {ad : Nat → Nat} {kk : Nat} {th p n ru mc s0 qd : Int32} {nw gl co ba fr tt lk fa qu nb : Nat → Int32} (hk : kk < 2 ^ 31) :
    MJ l yX1_goesWell cX1_goesWell 2 (some .boolean) rm_X1_goesWell D Y [.ref (ad 0), .int (nI kk)] (wM Y ad th p n ru mc s0 qd nw gl co ba fr tt lk fa qu nb) (jI (fun r w => r = bi (decide (kk = 0)) ∧ w = (wM Y ad (nI kk) p n ru mc s0 qd nw gl co ba fr tt lk fa qu nb))) := by
  refine j_enter (by decide) (Nat.le_of_ble_eq_true rfl) (fun v hv => by simp only [List.mem_cons, List.not_mem_nil, or_false] at hv; rcases hv with rfl | rfl <;> rfl) (fun K hl hD hnm C R => ?_)
  subst hl; subst hD
  have C : jC cX1_goesWell RX1 Y rm_X1_goesWell 2 K := C
  have R : jR Y (some .boolean) 0 0 (jI (fun r w => r = bi (decide (kk = 0)) ∧ w = (wM Y ad (nI kk) p n ru mc s0 qd nw gl co ba fr tt lk fa qu nb))) K := R
  refine j_eq (lo' := [some (.ref (ad 0)), some (.int (nI kk))]) rfl rfl rfl ?_
  refine j_aload_n C dX1_goesWell_0 rfl ?_
  refine j_iload_n C dX1_goesWell_1 rfl ?_
  refine p1_thrown C dX1_goesWell_2 ?_
  refine j_iload_n C dX1_goesWell_5 rfl ?_
  refine j_if_ne C 13 dX1_goesWell_6 (by decide) (fun c_6 => ?_) (fun c_6 => ?_)
  · refine j_iconst C (nI 0) dX1_goesWell_13 (by decide) ?_
    exact j_retz C R dX1_goesWell_14 rfl ⟨bi_f (decide_eq_false (fun q => c_6 (by rw [q]; rfl))), rfl⟩
  · refine j_iconst C (nI 1) dX1_goesWell_9 (by decide) ?_
    refine j_goto C 14 dX1_goesWell_10 (by decide) ?_
    exact j_retz C R dX1_goesWell_14 rfl ⟨bi_t (decide_eq_true (by have h : nI kk = nI 0 := c_6; exact (nI_eq hk (by omega)).mp h)), rfl⟩
abbrev rm_X1_in : Room := { frames := 0, cells := 0, slots := 0, locals := 0 }
set_option maxHeartbeats 4000000 in
set_option maxRecDepth 100000 in
theorem ct_X1_in {l : Launch} {D : va_G} {Y : jy_T} {ad : Nat → Nat} {ws : va_W} {x : Int32} {lo hi : Nat} (h1 : lo < 2 ^ 31) (h2 : hi < 2 ^ 31) :
    MJ l yX1_in cX1_in 3 (some .boolean) rm_X1_in D Y [.int x, .int (nI lo), .int (nI hi)] ws (jI (fun r w => r = bi (rg x lo hi) ∧ w = ws)) := by
  refine j_enter (by decide) (Nat.le_of_ble_eq_true rfl) (fun v hv => by simp only [List.mem_cons, List.not_mem_nil, or_false] at hv; rcases hv with rfl | rfl | rfl <;> rfl) (fun K hl hD hnm C R => ?_)
  subst hl; subst hD
  have C : jC cX1_in RX1 Y rm_X1_in 3 K := C
  have R : jR Y (some .boolean) 0 0 (jI (fun r w => r = bi (rg x lo hi) ∧ w = ws)) K := R
  refine j_eq (lo' := [some (.int x), some (.int (nI lo)), some (.int (nI hi))]) rfl rfl rfl ?_
  refine j_iload_n C dX1_in_0 rfl ?_
  refine j_iload_n C dX1_in_1 rfl ?_
  refine j_icmp_lt C 14 dX1_in_2 (by decide) (fun c_2 => ?_) (fun c_2 => ?_)
  · refine j_iconst C (nI 0) dX1_in_14 (by decide) ?_
    exact j_retz C R dX1_in_15 rfl ⟨bi_f (rg_f1 h1 c_2), rfl⟩
  · refine j_iload_n C dX1_in_5 rfl ?_
    refine j_iload_n C dX1_in_6 rfl ?_
    refine j_icmp_gt C 14 dX1_in_7 (by decide) (fun c_7 => ?_) (fun c_7 => ?_)
    · refine j_iconst C (nI 0) dX1_in_14 (by decide) ?_
      exact j_retz C R dX1_in_15 rfl ⟨bi_f (rg_f2 h2 c_7), rfl⟩
    · refine j_iconst C (nI 1) dX1_in_10 (by decide) ?_
      refine j_goto C 15 dX1_in_11 (by decide) ?_
      exact j_retz C R dX1_in_15 rfl ⟨bi_t (rg_t h1 h2 c_2 (i32_nlt c_7)), rfl⟩
theorem rg_inr {x : Int32} {N : Nat} (h : 0 < N) : rg x 0 (N - 1) = inr x N := by
  unfold rg inr
  by_cases q : 0 ≤ x.toInt ∧ x.toInt < N
  · rw [decide_eq_true q, decide_eq_true (by omega)]
  · rw [decide_eq_false q, decide_eq_false (by omega)]
abbrev rm_X1_isDisk : Room := { frames := 1, cells := 0, slots := 0, locals := 22 }
set_option maxHeartbeats 4000000 in
set_option maxRecDepth 100000 in
theorem ct_X1_isDisk {l : Launch} {D : va_G} {Y : jy_T} {ad : Nat → Nat} {N : Nat} {x : Int32} {th p ru mc s0 qd : Int32} {nw gl co ba fr tt lk fa qu nb : Nat → Int32} (h0 : 0 < N) (h1 : N < 2 ^ 31) :
    MJ l yX1_isDisk cX1_isDisk 2 (some .boolean) rm_X1_isDisk D Y [.ref (ad 0), .int x] (wM Y ad th p (nI N) ru mc s0 qd nw gl co ba fr tt lk fa qu nb) (jI (fun r w => r = bi (inr x N) ∧ w = (wM Y ad th p (nI N) ru mc s0 qd nw gl co ba fr tt lk fa qu nb))) := by
  refine j_enter (by decide) (Nat.le_of_ble_eq_true rfl) (fun v hv => by simp only [List.mem_cons, List.not_mem_nil, or_false] at hv; rcases hv with rfl | rfl <;> rfl) (fun K hl hD hnm C R => ?_)
  subst hl; subst hD
  have C : jC cX1_isDisk RX1 Y rm_X1_isDisk 2 K := C
  have R : jR Y (some .boolean) 0 0 (jI (fun r w => r = bi (inr x N) ∧ w = (wM Y ad th p (nI N) ru mc s0 qd nw gl co ba fr tt lk fa qu nb))) K := R
  refine j_eq (lo' := [some (.ref (ad 0)), some (.int x)]) rfl rfl rfl ?_
  refine j_iload_n C dX1_isDisk_0 rfl ?_
  refine j_iconst C (nI 0) dX1_isDisk_1 (by decide) ?_
  refine j_aload_n C dX1_isDisk_2 rfl ?_
  refine g1_disks C dX1_isDisk_3 ?_
  refine j_iconst C (nI 1) dX1_isDisk_6 (by decide) ?_
  refine j_isub C dX1_isDisk_7 ?_
  refine j_top _ (nI (N - 1)) (pk_sub (by omega)) ?_
  refine j_callS3i C (ct_X1_in (ad := ad) (by omega) (by omega)) gw_1_55 rfl nd_X1_in ⟨by decide, by decide⟩ ⟨Nat.le_of_ble_eq_true rfl, Nat.le_of_ble_eq_true rfl⟩ (Nat.le_of_ble_eq_true rfl) dX1_isDisk_8 (fun x_1 w_1 hp => ?_)
  obtain ⟨rfl, rfl⟩ := hp
  exact j_retz C R dX1_isDisk_11 (bi_nar _) ⟨by rw [rg_inr h0], rfl⟩
abbrev rm_X1_isPeg : Room := { frames := 1, cells := 0, slots := 0, locals := 22 }
set_option maxHeartbeats 4000000 in
set_option maxRecDepth 100000 in
theorem ct_X1_isPeg {l : Launch} {D : va_G} {Y : jy_T} {ad : Nat → Nat} {P : Nat} {x : Int32} {th n ru mc s0 qd : Int32} {nw gl co ba fr tt lk fa qu nb : Nat → Int32} (h0 : 0 < P) (h1 : P < 2 ^ 31) :
    MJ l yX1_isPeg cX1_isPeg 2 (some .boolean) rm_X1_isPeg D Y [.ref (ad 0), .int x] (wM Y ad th (nI P) n ru mc s0 qd nw gl co ba fr tt lk fa qu nb) (jI (fun r w => r = bi (inr x P) ∧ w = (wM Y ad th (nI P) n ru mc s0 qd nw gl co ba fr tt lk fa qu nb))) := by
  refine j_enter (by decide) (Nat.le_of_ble_eq_true rfl) (fun v hv => by simp only [List.mem_cons, List.not_mem_nil, or_false] at hv; rcases hv with rfl | rfl <;> rfl) (fun K hl hD hnm C R => ?_)
  subst hl; subst hD
  have C : jC cX1_isPeg RX1 Y rm_X1_isPeg 2 K := C
  have R : jR Y (some .boolean) 0 0 (jI (fun r w => r = bi (inr x P) ∧ w = (wM Y ad th (nI P) n ru mc s0 qd nw gl co ba fr tt lk fa qu nb))) K := R
  refine j_eq (lo' := [some (.ref (ad 0)), some (.int x)]) rfl rfl rfl ?_
  refine j_iload_n C dX1_isPeg_0 rfl ?_
  refine j_iconst C (nI 0) dX1_isPeg_1 (by decide) ?_
  refine j_aload_n C dX1_isPeg_2 rfl ?_
  refine g1_pegs C dX1_isPeg_3 ?_
  refine j_iconst C (nI 1) dX1_isPeg_6 (by decide) ?_
  refine j_isub C dX1_isPeg_7 ?_
  refine j_top _ (nI (P - 1)) (pk_sub (by omega)) ?_
  refine j_callS3i C (ct_X1_in (ad := ad) (by omega) (by omega)) gw_1_55 rfl nd_X1_in ⟨by decide, by decide⟩ ⟨Nat.le_of_ble_eq_true rfl, Nat.le_of_ble_eq_true rfl⟩ (Nat.le_of_ble_eq_true rfl) dX1_isPeg_8 (fun x_1 w_1 hp => ?_)
  obtain ⟨rfl, rfl⟩ := hp
  exact j_retz C R dX1_isPeg_11 (bi_nar _) ⟨by rw [rg_inr h0], rfl⟩
abbrev rm_X1_all : Room := { frames := 0, cells := 0, slots := 0, locals := 0 }
set_option maxHeartbeats 4000000 in
set_option maxRecDepth 100000 in
theorem ct_X1_all {l : Launch} {D : va_G} {Y : jy_T} {ad : Nat → Nat} {P N : Nat} {th ru mc s0 qd : Int32} {nw gl co ba fr tt lk fa qu nb : Nat → Int32} (hN : N ≤ 6) :
    MJ l yX1_all cX1_all 3 (some .int) rm_X1_all D Y [.ref (ad 0)] (wM Y ad th (nI P) (nI N) ru mc s0 qd nw gl co ba fr tt lk fa qu nb) (jI (fun r w => r = nI (P ^ N) ∧ w = (wM Y ad th (nI P) (nI N) ru mc s0 qd nw gl co ba fr tt lk fa qu nb))) := by
  refine j_enter (by decide) (Nat.le_of_ble_eq_true rfl) (fun v hv => by rw [List.mem_singleton.mp hv]; rfl) (fun K hl hD hnm C R => ?_)
  subst hl; subst hD
  have C : jC cX1_all RX1 Y rm_X1_all 3 K := C
  have R : jR Y (some .int) 0 0 (jI (fun r w => r = nI (P ^ N) ∧ w = (wM Y ad th (nI P) (nI N) ru mc s0 qd nw gl co ba fr tt lk fa qu nb))) K := R
  refine j_eq (lo' := [some (.ref (ad 0)), none, none]) rfl rfl rfl ?_
  have hL : ∀ (m i : Nat), N < i + m → i ≤ N → jJ K 0 0 4 [some (.ref (ad 0)), some (.int (nI (P ^ i))), some (.int (nI i))] [] (wM Y ad th (nI P) (nI N) ru mc s0 qd nw gl co ba fr tt lk fa qu nb) := by
    intro m
    induction m with
    | zero => intro i h1 h2; omega
    | succ m ih =>
      intro i h1 h2
      refine j_iload_n C dX1_all_4 rfl ?_
      refine j_aload_n C dX1_all_5 rfl ?_
      refine g1_disks C dX1_all_6 ?_
      refine jN_icmp_ge C 25 (by omega) (by omega) dX1_all_9 (by decide) (fun c_9 => ?_) (fun c_9 => ?_)
      · refine j_iload_n C dX1_all_25 rfl ?_
        exact j_reti C R dX1_all_26 ⟨by rw [show i = N by omega], rfl⟩
      · refine j_iload_n C dX1_all_12 rfl ?_
        refine j_aload_n C dX1_all_13 rfl ?_
        refine g1_pegs C dX1_all_14 ?_
        refine j_imul C dX1_all_17 ?_
        refine j_top _ _ (pk_mul _ _) ?_
        refine j_top _ (nI (P ^ (i + 1))) (by rw [Nat.pow_succ]) ?_
        refine j_istore_1 C dX1_all_18 (by decide) ?_
        refine j_iinc_2 C _ (nI_p1 _) dX1_all_19 ?_
        refine j_goto C 4 dX1_all_22 (by decide) ?_
        exact ih (i + 1) (by omega) (by omega)
  refine j_iconst C (nI 1) dX1_all_0 (by decide) ?_
  refine j_istore_1 C dX1_all_1 (by decide) ?_
  refine j_iconst C (nI 0) dX1_all_2 (by decide) ?_
  refine j_istore_2 C dX1_all_3 (by decide) ?_
  exact hL (N + 1) 0 (by omega) (by omega)
abbrev rm_X1_lay : Room := { frames := 0, cells := 0, slots := 0, locals := 0 }
set_option maxHeartbeats 4000000 in
set_option maxRecDepth 100000 in
theorem ct_X1_lay {l : Launch} {D : va_G} {Y : jy_T} {ad : Nat → Nat} {P N : Nat} {th p n ru mc s0 qd : Int32} {nw gl co ba fr tt lk fa qu nb : Nat → Int32} (hc : cfg P N) :
    MJ l yX1_lay cX1_lay 4 none rm_X1_lay D Y [.ref (ad 0), .int (nI P), .int (nI N)] (wM Y ad th p n ru mc s0 qd nw gl co ba fr tt lk fa qu nb) (jV (fun w => w = (wM Y ad th (nI P) (nI N) (bi false) (nI 0) s0 qd (fun d => nI ((fun _ => 0) d)) (fun d => nI ((fun _ => P - 1) d)) (fun d => bi ((fun _ => false) d)) (fun k => bi ((fun _ => false) k)) fr tt lk fa qu nb))) := by
  refine j_enter (by decide) (Nat.le_of_ble_eq_true rfl) (fun v hv => by simp only [List.mem_cons, List.not_mem_nil, or_false] at hv; rcases hv with rfl | rfl | rfl <;> rfl) (fun K hl hD hnm C R => ?_)
  subst hl; subst hD
  have C : jC cX1_lay RX1 Y rm_X1_lay 4 K := C
  have R : jR Y none 0 0 (jV (fun w => w = (wM Y ad th (nI P) (nI N) (bi false) (nI 0) s0 qd (fun d => nI ((fun _ => 0) d)) (fun d => nI ((fun _ => P - 1) d)) (fun d => bi ((fun _ => false) d)) (fun k => bi ((fun _ => false) k)) fr tt lk fa qu nb))) K := R
  refine j_eq (lo' := [some (.ref (ad 0)), some (.int (nI P)), some (.int (nI N)), none]) rfl rfl rfl ?_
  obtain ⟨hP3, hP5, hN1, hN6⟩ := id hc
  have hL2 : ∀ (m i : Nat) (ba : Nat → Int32), 25 < i + m → i ≤ 25 → (∀ k, k < i → ba k = bi false) → jJ K 0 0 49 [some (.ref (ad 0)), some (.int (nI P)), some (.int (nI N)), some (.int (nI i))] [] (wM Y ad th (nI P) (nI N) ru mc s0 qd (fun d => nI ((fun _ => 0) d)) (fun d => nI ((fun _ => P - 1) d)) (fun d => bi ((fun _ => false) d)) ba fr tt lk fa qu nb) := by
    intro m
    induction m with
    | zero => intro i ba h1 h2; omega
    | succ m ih =>
      intro i ba h1 h2 hi
      refine j_iload_n C dX1_lay_49 rfl ?_
      refine j_bipush C (nI 25) dX1_lay_50 (by decide) ?_
      refine jN_icmp_ge C 68 (by omega) (by omega) dX1_lay_52 (by decide) (fun c_52 => ?_) (fun c_52 => ?_)
      · refine e1_ba (fun k => bi ((fun _ => false) k)) (fun k hk => hi k (by omega)) ?_
        refine j_aload_n C dX1_lay_68 rfl ?_
        refine j_iconst C (bi false) dX1_lay_69 (by decide) ?_
        refine p1_rule C dX1_lay_70 ?_
        refine j_aload_n C dX1_lay_73 rfl ?_
        refine j_iconst C (nI 0) dX1_lay_74 (by decide) ?_
        refine p1_moves C dX1_lay_75 ?_
        exact j_retv C R dX1_lay_78 rfl
      · refine j_aload_n C dX1_lay_55 rfl ?_
        refine g1_isBarred C dX1_lay_56 ?_
        refine j_iload_n C dX1_lay_59 rfl ?_
        refine j_iconst C (bi false) dX1_lay_60 (by decide) ?_
        refine s1_ba C _ rfl (by omega) dX1_lay_61 ?_
        refine j_iinc_3 C _ (nI_p1 _) dX1_lay_62 ?_
        refine j_goto C 49 dX1_lay_65 (by decide) ?_
        exact ih (i + 1) _ (by omega) (by omega) (fun k hk => by
          by_cases e : k = i
          · rw [e, pk_us]
          · rw [pk_un e]; exact hi k (by omega))
  have hL : ∀ (m i : Nat) (nw gl co : Nat → Int32), 6 < i + m → i ≤ 6 → (∀ k, k < i → nw k = nI 0) → (∀ k, k < i → gl k = nI (P - 1)) → (∀ k, k < i → co k = bi false) → jJ K 0 0 12 [some (.ref (ad 0)), some (.int (nI P)), some (.int (nI N)), some (.int (nI i))] [] (wM Y ad th (nI P) (nI N) ru mc s0 qd nw gl co ba fr tt lk fa qu nb) := by
    intro m
    induction m with
    | zero => intro i nw gl co h1 h2; omega
    | succ m ih =>
      intro i nw gl co h1 h2 hi1 hi2 hi3
      refine j_iload_n C dX1_lay_12 rfl ?_
      refine j_bipush C (nI 6) dX1_lay_13 (by decide) ?_
      refine jN_icmp_ge C 47 (by omega) (by omega) dX1_lay_15 (by decide) (fun c_15 => ?_) (fun c_15 => ?_)
      · refine e1_nw (fun d => nI ((fun _ => 0) d)) (fun k hk => hi1 k (by omega)) ?_
        refine e1_gl (fun d => nI ((fun _ => P - 1) d)) (fun k hk => hi2 k (by omega)) ?_
        refine e1_co (fun d => bi ((fun _ => false) d)) (fun k hk => hi3 k (by omega)) ?_
        refine j_iconst C (nI 0) dX1_lay_47 (by decide) ?_
        refine j_istore_3 C dX1_lay_48 (by decide) ?_
        exact hL2 26 0 _ (by omega) (by omega) (fun k hk => by omega)
      · refine j_aload_n C dX1_lay_18 rfl ?_
        refine g1_now C dX1_lay_19 ?_
        refine j_iload_n C dX1_lay_22 rfl ?_
        refine j_iconst C (nI 0) dX1_lay_23 (by decide) ?_
        refine s1_nw C _ rfl (by omega) dX1_lay_24 ?_
        refine j_aload_n C dX1_lay_25 rfl ?_
        refine g1_goal C dX1_lay_26 ?_
        refine j_iload_n C dX1_lay_29 rfl ?_
        refine j_iload_n C dX1_lay_30 rfl ?_
        refine j_iconst C (nI 1) dX1_lay_31 (by decide) ?_
        refine j_isub C dX1_lay_32 ?_
        refine j_top _ (nI (P - 1)) (pk_sub (by omega)) ?_
        refine s1_gl C _ rfl (by omega) dX1_lay_33 ?_
        refine j_aload_n C dX1_lay_34 rfl ?_
        refine g1_colours C dX1_lay_35 ?_
        refine j_iload_n C dX1_lay_38 rfl ?_
        refine j_iconst C (bi false) dX1_lay_39 (by decide) ?_
        refine s1_co C _ rfl (by omega) dX1_lay_40 ?_
        refine j_iinc_3 C _ (nI_p1 _) dX1_lay_41 ?_
        refine j_goto C 12 dX1_lay_44 (by decide) ?_
        exact ih (i + 1) _ _ _ (by omega) (by omega) (fun k hk => by
          by_cases e : k = i
          · rw [e, pk_us]
          · rw [pk_un e]; exact hi1 k (by omega)) (fun k hk => by
          by_cases e : k = i
          · rw [e, pk_us]
          · rw [pk_un e]; exact hi2 k (by omega)) (fun k hk => by
          by_cases e : k = i
          · rw [e, pk_us]
          · rw [pk_un e]; exact hi3 k (by omega))
  refine j_aload_n C dX1_lay_0 rfl ?_
  refine j_iload_n C dX1_lay_1 rfl ?_
  refine p1_pegs C dX1_lay_2 ?_
  refine j_aload_n C dX1_lay_5 rfl ?_
  refine j_iload_n C dX1_lay_6 rfl ?_
  refine p1_disks C dX1_lay_7 ?_
  refine j_iconst C (nI 0) dX1_lay_10 (by decide) ?_
  refine j_istore_3 C dX1_lay_11 (by decide) ?_
  exact hL 7 0 nw gl co (by omega) (by omega) (fun k hk => by omega) (fun k hk => by omega) (fun k hk => by omega)
abbrev rm_X1_numberOfNow : Room := { frames := 0, cells := 0, slots := 0, locals := 0 }
set_option maxHeartbeats 4000000 in
set_option maxRecDepth 100000 in
theorem ct_X1_numberOfNow {l : Launch} {D : va_G} {Y : jy_T} {ad : Nat → Nat} {P N a : Nat} {nf : Nat → Nat} {th ru mc s0 qd : Int32} {gl co ba fr tt lk fa qu nb : Nat → Int32} (hc : cfg P N) (hna : a < P ^ N) (hn : ∀ d, d < N → nf d = dg P a d) :
    MJ l yX1_numberOfNow cX1_numberOfNow 3 (some .int) rm_X1_numberOfNow D Y [.ref (ad 0)] (wM Y ad th (nI P) (nI N) ru mc s0 qd (fun d => nI (nf d)) gl co ba fr tt lk fa qu nb) (jI (fun r w => r = nI a ∧ w = (wM Y ad th (nI P) (nI N) ru mc s0 qd (fun d => nI (nf d)) gl co ba fr tt lk fa qu nb))) := by
  refine j_enter (by decide) (Nat.le_of_ble_eq_true rfl) (fun v hv => by rw [List.mem_singleton.mp hv]; rfl) (fun K hl hD hnm C R => ?_)
  subst hl; subst hD
  have C : jC cX1_numberOfNow RX1 Y rm_X1_numberOfNow 3 K := C
  have R : jR Y (some .int) 0 0 (jI (fun r w => r = nI a ∧ w = (wM Y ad th (nI P) (nI N) ru mc s0 qd (fun d => nI (nf d)) gl co ba fr tt lk fa qu nb))) K := R
  refine j_eq (lo' := [some (.ref (ad 0)), none, none]) rfl rfl rfl ?_
  obtain ⟨hP3, hP5, hN1, hN6⟩ := id hc
  have hL : ∀ (i k : Nat), i + k = N → jJ K 0 0 9 [some (.ref (ad 0)), some (.int (nI (hor P (dg P a) i k))), some (.int (nI i - nI 1))] [] (wM Y ad th (nI P) (nI N) ru mc s0 qd (fun d => nI (nf d)) gl co ba fr tt lk fa qu nb) := by
    intro i
    induction i with
    | zero =>
      intro k h1
      have e : k = N := by omega
      subst e
      refine j_iload_n C dX1_numberOfNow_9 rfl ?_
      refine j_if_lt C 33 dX1_numberOfNow_10 (by decide) (fun c_10 => ?_) (fun c_10 => ?_)
      · refine j_iload_n C dX1_numberOfNow_33 rfl ?_
        exact j_reti C R dX1_numberOfNow_34 ⟨by have e := nm_self hna; rw [nm_hor0] at e; exact congrArg nI e, rfl⟩
      · exact absurd (by decide) c_10
    | succ j ih =>
      intro k h1
      refine j_eq (lo' := [some (.ref (ad 0)), some (.int (nI (hor P (dg P a) (j + 1) k))), some (.int (nI j))]) (by rw [nI_pr]) rfl rfl ?_
      refine j_iload_n C dX1_numberOfNow_9 rfl ?_
      refine j_if_lt C 33 dX1_numberOfNow_10 (by decide) (fun c_10 => ?_) (fun c_10 => ?_)
      · exact absurd c_10 (nI_nlt0 (by omega))
      · refine j_aload_n C dX1_numberOfNow_13 rfl ?_
        refine g1_pegs C dX1_numberOfNow_14 ?_
        refine j_iload_n C dX1_numberOfNow_17 rfl ?_
        refine j_imul C dX1_numberOfNow_18 ?_
        refine j_top _ _ (pk_mul _ _) ?_
        refine j_aload_n C dX1_numberOfNow_19 rfl ?_
        refine g1_now C dX1_numberOfNow_20 ?_
        refine j_iload_n C dX1_numberOfNow_23 rfl ?_
        refine l1_nw C _ rfl (by omega) dX1_numberOfNow_24 ?_
        refine j_top _ (nI (dg P a j)) (by rw [hn j (by omega)]) ?_
        refine j_iadd C dX1_numberOfNow_25 ?_
        refine j_top _ _ (nI_add _ _) ?_
        refine j_istore_1 C dX1_numberOfNow_26 (by decide) ?_
        refine j_iinc_2 C _ (nI_m1 _) dX1_numberOfNow_27 ?_
        refine j_goto C 9 dX1_numberOfNow_30 (by decide) ?_
        exact ih (k + 1) (by omega)
  refine j_iconst C (nI 0) dX1_numberOfNow_0 (by decide) ?_
  refine j_istore_1 C dX1_numberOfNow_1 (by decide) ?_
  refine j_aload_n C dX1_numberOfNow_2 rfl ?_
  refine g1_disks C dX1_numberOfNow_3 ?_
  refine j_iconst C (nI 1) dX1_numberOfNow_6 (by decide) ?_
  refine j_isub C dX1_numberOfNow_7 ?_
  refine j_top _ (nI N - nI 1) rfl ?_
  refine j_istore_2 C dX1_numberOfNow_8 (by decide) ?_
  exact hL N 0 (by omega)
abbrev rm_X1_numberOfGoal : Room := { frames := 0, cells := 0, slots := 0, locals := 0 }
set_option maxHeartbeats 4000000 in
set_option maxRecDepth 100000 in
theorem ct_X1_numberOfGoal {l : Launch} {D : va_G} {Y : jy_T} {ad : Nat → Nat} {P N b : Nat} {gf : Nat → Nat} {th ru mc s0 qd : Int32} {nw co ba fr tt lk fa qu nb : Nat → Int32} (hc : cfg P N) (hga : b < P ^ N) (hg : ∀ d, d < N → gf d = dg P b d) :
    MJ l yX1_numberOfGoal cX1_numberOfGoal 3 (some .int) rm_X1_numberOfGoal D Y [.ref (ad 0)] (wM Y ad th (nI P) (nI N) ru mc s0 qd nw (fun d => nI (gf d)) co ba fr tt lk fa qu nb) (jI (fun r w => r = nI b ∧ w = (wM Y ad th (nI P) (nI N) ru mc s0 qd nw (fun d => nI (gf d)) co ba fr tt lk fa qu nb))) := by
  refine j_enter (by decide) (Nat.le_of_ble_eq_true rfl) (fun v hv => by rw [List.mem_singleton.mp hv]; rfl) (fun K hl hD hnm C R => ?_)
  subst hl; subst hD
  have C : jC cX1_numberOfGoal RX1 Y rm_X1_numberOfGoal 3 K := C
  have R : jR Y (some .int) 0 0 (jI (fun r w => r = nI b ∧ w = (wM Y ad th (nI P) (nI N) ru mc s0 qd nw (fun d => nI (gf d)) co ba fr tt lk fa qu nb))) K := R
  refine j_eq (lo' := [some (.ref (ad 0)), none, none]) rfl rfl rfl ?_
  obtain ⟨hP3, hP5, hN1, hN6⟩ := id hc
  have hL : ∀ (i k : Nat), i + k = N → jJ K 0 0 9 [some (.ref (ad 0)), some (.int (nI (hor P (dg P b) i k))), some (.int (nI i - nI 1))] [] (wM Y ad th (nI P) (nI N) ru mc s0 qd nw (fun d => nI (gf d)) co ba fr tt lk fa qu nb) := by
    intro i
    induction i with
    | zero =>
      intro k h1
      have e : k = N := by omega
      subst e
      refine j_iload_n C dX1_numberOfGoal_9 rfl ?_
      refine j_if_lt C 33 dX1_numberOfGoal_10 (by decide) (fun c_10 => ?_) (fun c_10 => ?_)
      · refine j_iload_n C dX1_numberOfGoal_33 rfl ?_
        exact j_reti C R dX1_numberOfGoal_34 ⟨by have e := nm_self hga; rw [nm_hor0] at e; exact congrArg nI e, rfl⟩
      · exact absurd (by decide) c_10
    | succ j ih =>
      intro k h1
      refine j_eq (lo' := [some (.ref (ad 0)), some (.int (nI (hor P (dg P b) (j + 1) k))), some (.int (nI j))]) (by rw [nI_pr]) rfl rfl ?_
      refine j_iload_n C dX1_numberOfGoal_9 rfl ?_
      refine j_if_lt C 33 dX1_numberOfGoal_10 (by decide) (fun c_10 => ?_) (fun c_10 => ?_)
      · exact absurd c_10 (nI_nlt0 (by omega))
      · refine j_aload_n C dX1_numberOfGoal_13 rfl ?_
        refine g1_pegs C dX1_numberOfGoal_14 ?_
        refine j_iload_n C dX1_numberOfGoal_17 rfl ?_
        refine j_imul C dX1_numberOfGoal_18 ?_
        refine j_top _ _ (pk_mul _ _) ?_
        refine j_aload_n C dX1_numberOfGoal_19 rfl ?_
        refine g1_goal C dX1_numberOfGoal_20 ?_
        refine j_iload_n C dX1_numberOfGoal_23 rfl ?_
        refine l1_gl C _ rfl (by omega) dX1_numberOfGoal_24 ?_
        refine j_top _ (nI (dg P b j)) (by rw [hg j (by omega)]) ?_
        refine j_iadd C dX1_numberOfGoal_25 ?_
        refine j_top _ _ (nI_add _ _) ?_
        refine j_istore_1 C dX1_numberOfGoal_26 (by decide) ?_
        refine j_iinc_2 C _ (nI_m1 _) dX1_numberOfGoal_27 ?_
        refine j_goto C 9 dX1_numberOfGoal_30 (by decide) ?_
        exact ih (k + 1) (by omega)
  refine j_iconst C (nI 0) dX1_numberOfGoal_0 (by decide) ?_
  refine j_istore_1 C dX1_numberOfGoal_1 (by decide) ?_
  refine j_aload_n C dX1_numberOfGoal_2 rfl ?_
  refine g1_disks C dX1_numberOfGoal_3 ?_
  refine j_iconst C (nI 1) dX1_numberOfGoal_6 (by decide) ?_
  refine j_isub C dX1_numberOfGoal_7 ?_
  refine j_top _ (nI N - nI 1) rfl ?_
  refine j_istore_2 C dX1_numberOfGoal_8 (by decide) ?_
  exact hL N 0 (by omega)
abbrev rm_X1_open : Room := { frames := 0, cells := 0, slots := 0, locals := 0 }
set_option maxHeartbeats 4000000 in
set_option maxRecDepth 100000 in
theorem ct_X1_open {l : Launch} {D : va_G} {Y : jy_T} {ad : Nat → Nat} {P N a : Nat} {th ru mc s0 qd : Int32} {nw gl co ba fr tt lk fa qu nb : Nat → Int32} (hc : cfg P N) (ha : a < 2 ^ 31) :
    MJ l yX1_open cX1_open 4 none rm_X1_open D Y [.ref (ad 0), .int (nI a)] (wM Y ad th (nI P) (nI N) ru mc s0 qd nw gl co ba fr tt lk fa qu nb) (jV (fun w => ∃ lk1 : Nat → Int32, (∀ d, d < N → lk1 d = nI (dg P a d)) ∧ w = (wM Y ad th (nI P) (nI N) ru mc s0 qd nw gl co ba fr tt lk1 fa qu nb))) := by
  refine j_enter (by decide) (Nat.le_of_ble_eq_true rfl) (fun v hv => by simp only [List.mem_cons, List.not_mem_nil, or_false] at hv; rcases hv with rfl | rfl <;> rfl) (fun K hl hD hnm C R => ?_)
  subst hl; subst hD
  have C : jC cX1_open RX1 Y rm_X1_open 4 K := C
  have R : jR Y none 0 0 (jV (fun w => ∃ lk1 : Nat → Int32, (∀ d, d < N → lk1 d = nI (dg P a d)) ∧ w = (wM Y ad th (nI P) (nI N) ru mc s0 qd nw gl co ba fr tt lk1 fa qu nb))) K := R
  refine j_eq (lo' := [some (.ref (ad 0)), some (.int (nI a)), none, none]) rfl rfl rfl ?_
  obtain ⟨hP3, hP5, hN1, hN6⟩ := id hc
  have hL : ∀ (m i : Nat) (lk1 : Nat → Int32), N < i + m → i ≤ N → (∀ k, k < i → lk1 k = nI (dg P a k)) → jJ K 0 0 4 [some (.ref (ad 0)), some (.int (nI a)), some (.int (nI (a / P ^ i))), some (.int (nI i))] [] (wM Y ad th (nI P) (nI N) ru mc s0 qd nw gl co ba fr tt lk1 fa qu nb) := by
    intro m
    induction m with
    | zero => intro i lk1 h1 h2; omega
    | succ m ih =>
      intro i lk1 h1 h2 hi
      refine j_iload_n C dX1_open_4 rfl ?_
      refine j_aload_n C dX1_open_5 rfl ?_
      refine g1_disks C dX1_open_6 ?_
      refine jN_icmp_ge C 37 (by omega) (by omega) dX1_open_9 (by decide) (fun c_9 => ?_) (fun c_9 => ?_)
      · exact j_retv C R dX1_open_37 ⟨lk1, fun d hd => hi d (by omega), rfl⟩
      · have had : a / P ^ i ≤ a := Nat.div_le_self _ _
        refine j_aload_n C dX1_open_12 rfl ?_
        refine g1_look C dX1_open_13 ?_
        refine j_iload_n C dX1_open_16 rfl ?_
        refine j_iload_n C dX1_open_17 rfl ?_
        refine j_aload_n C dX1_open_18 rfl ?_
        refine g1_pegs C dX1_open_19 ?_
        refine j_irem C dX1_open_22 (nI_ne0 (by omega) (by omega)) ?_
        refine j_top _ (nI (dg P a i)) (pk_rem (by omega) (by omega) (by omega)) ?_
        refine s1_lk C _ rfl (by omega) dX1_open_23 ?_
        refine j_iload_n C dX1_open_24 rfl ?_
        refine j_aload_n C dX1_open_25 rfl ?_
        refine g1_pegs C dX1_open_26 ?_
        refine j_idiv C dX1_open_29 (nI_ne0 (by omega) (by omega)) ?_
        refine j_top _ (nI (a / P ^ (i + 1))) (by rw [pk_div (by omega) (by omega) (by omega), Nat.pow_succ, Nat.div_div_eq_div_mul]) ?_
        refine j_istore_2 C dX1_open_30 (by decide) ?_
        refine j_iinc_3 C _ (nI_p1 _) dX1_open_31 ?_
        refine j_goto C 4 dX1_open_34 (by decide) ?_
        exact ih (i + 1) _ (by omega) (by omega) (fun k hk => by
          by_cases e : k = i
          · rw [e, pk_us]
          · rw [pk_un e]; exact hi k (by omega))
  refine j_iload_n C dX1_open_0 rfl ?_
  refine j_istore_2 C dX1_open_1 (by decide) ?_
  refine j_iconst C (nI 0) dX1_open_2 (by decide) ?_
  refine j_istore_3 C dX1_open_3 (by decide) ?_
  refine j_eq (lo' := [some (.ref (ad 0)), some (.int (nI a)), some (.int (nI (a / P ^ 0))), some (.int (nI 0))]) (by rw [Nat.pow_zero, Nat.div_one]) rfl rfl ?_
  exact hL (N + 1) 0 lk (by omega) (by omega) (fun k hk => by omega)
abbrev rm_X1_topOf : Room := { frames := 0, cells := 0, slots := 0, locals := 0 }
set_option maxHeartbeats 4000000 in
set_option maxRecDepth 100000 in
theorem ct_X1_topOf {l : Launch} {D : va_G} {Y : jy_T} {ad : Nat → Nat} {N g : Nat} {f : Nat → Nat} {th p ru mc s0 qd : Int32} {nw gl co ba fr tt lk fa qu nb : Nat → Int32} (hN : N ≤ 6) (hlk : ∀ d, d < N → lk d = nI (f d)) (hf : ∀ d, d < N → f d < 2 ^ 31) (hg : g < 2 ^ 31) :
    MJ l yX1_topOf cX1_topOf 3 (some .int) rm_X1_topOf D Y [.ref (ad 0), .int (nI g)] (wM Y ad th p (nI N) ru mc s0 qd nw gl co ba fr tt lk fa qu nb) (jI (fun r w => r = oI (frm f g 0 N) ∧ w = (wM Y ad th p (nI N) ru mc s0 qd nw gl co ba fr tt lk fa qu nb))) := by
  refine j_enter (by decide) (Nat.le_of_ble_eq_true rfl) (fun v hv => by simp only [List.mem_cons, List.not_mem_nil, or_false] at hv; rcases hv with rfl | rfl <;> rfl) (fun K hl hD hnm C R => ?_)
  subst hl; subst hD
  have C : jC cX1_topOf RX1 Y rm_X1_topOf 3 K := C
  have R : jR Y (some .int) 0 0 (jI (fun r w => r = oI (frm f g 0 N) ∧ w = (wM Y ad th p (nI N) ru mc s0 qd nw gl co ba fr tt lk fa qu nb))) K := R
  refine j_eq (lo' := [some (.ref (ad 0)), some (.int (nI g)), none]) rfl rfl rfl ?_
  have hL : ∀ (m i : Nat), N < i + m → i ≤ N → frm f g 0 N = frm f g i N → jJ K 0 0 2 [some (.ref (ad 0)), some (.int (nI g)), some (.int (nI i))] [] (wM Y ad th p (nI N) ru mc s0 qd nw gl co ba fr tt lk fa qu nb) := by
    intro m
    induction m with
    | zero => intro i h1 h2; omega
    | succ m ih =>
      intro i h1 h2 he
      refine j_iload_n C dX1_topOf_2 rfl ?_
      refine j_aload_n C dX1_topOf_3 rfl ?_
      refine g1_disks C dX1_topOf_4 ?_
      refine jN_icmp_ge C 28 (by omega) (by omega) dX1_topOf_7 (by decide) (fun c_7 => ?_) (fun c_7 => ?_)
      · refine j_iconst C (-1) dX1_topOf_28 (by decide) ?_
        exact j_reti C R dX1_topOf_29 ⟨by rw [he, frm_end c_7]; rfl, rfl⟩
      · refine j_aload_n C dX1_topOf_10 rfl ?_
        refine g1_look C dX1_topOf_11 ?_
        refine j_iload_n C dX1_topOf_14 rfl ?_
        refine l1_lk C _ rfl (by omega) dX1_topOf_15 ?_
        refine j_top _ (nI (f i)) (hlk i (by omega)) ?_
        refine j_iload_n C dX1_topOf_16 rfl ?_
        refine jN_icmp_ne C 22 (hf i (by omega)) (by omega) dX1_topOf_17 (by decide) (fun c_17 => ?_) (fun c_17 => ?_)
        · refine j_iinc_2 C _ (nI_p1 _) dX1_topOf_22 ?_
          refine j_goto C 2 dX1_topOf_25 (by decide) ?_
          exact ih (i + 1) (by omega) (by omega) (by rw [he, frm_step c_7 c_17])
        · refine j_iload_n C dX1_topOf_20 rfl ?_
          exact j_reti C R dX1_topOf_21 ⟨by rw [he, frm_hit c_7 c_17]; rfl, rfl⟩
  refine j_iconst C (nI 0) dX1_topOf_0 (by decide) ?_
  refine j_istore_2 C dX1_topOf_1 (by decide) ?_
  exact hL (N + 1) 0 (by omega) (by omega) rfl
