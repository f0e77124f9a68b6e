abbrev rm_X0_isAnyBarred : Room := { frames := 0, cells := 0, slots := 0, locals := 0 }
set_option maxHeartbeats 4000000 in
set_option maxRecDepth 100000 in
theorem ct_X0_isAnyBarred {l : Launch} {D : va_G} {Y : jy_T} {ad : Nat → Nat} {al : Nat → Bool} {p n ru nw tg mc me : Int32} {we co tr to fa se qu sp : Nat → Int32} :
    MJ l yX0_isAnyBarred cX0_isAnyBarred 2 (some .boolean) rm_X0_isAnyBarred D Y [.ref (ad 0)] (wA Y ad p n ru nw tg mc me we co (fun k => bi (al k)) tr to fa se qu sp) (jI (fun r w => r = bi (!alB al 0 25) ∧ w = (wA Y ad p n ru nw tg mc me we co (fun k => bi (al k)) tr to fa se qu sp))) := by
  refine j_enter (by decide) (Nat.le_of_ble_eq_true rfl) (fun v hv => by rw [List.mem_singleton.mp hv]; rfl) (fun K hl hD hnm C R => ?_)
  subst hl; subst hD
  have C : jC cX0_isAnyBarred RX0 Y rm_X0_isAnyBarred 2 K := C
  have R : jR Y (some .boolean) 0 0 (jI (fun r w => r = bi (!alB al 0 25) ∧ w = (wA Y ad p n ru nw tg mc me we co (fun k => bi (al k)) tr to fa se qu sp))) K := R
  refine j_eq (lo' := [some (.ref (ad 0)), none]) rfl rfl rfl ?_
  have hL : ∀ (m i : Nat), 25 < i + m → i ≤ 25 → alB al 0 25 = alB al i 25 → jJ K 0 0 2 [some (.ref (ad 0)), some (.int (nI i))] [] (wA Y ad p n ru nw tg mc me we co (fun k => bi (al k)) tr to fa se qu sp) := by
    intro m
    induction m with
    | zero => intro i h1 h2; omega
    | succ m ih =>
      intro i h1 h2 he
      refine j_iload_n C dX0_isAnyBarred_2 rfl ?_
      refine j_aload_n C dX0_isAnyBarred_3 rfl ?_
      refine g0_allowed C dX0_isAnyBarred_4 ?_
      refine n0_al C dX0_isAnyBarred_7 ?_
      refine jN_icmp_ge C 28 (by omega) (by omega) dX0_isAnyBarred_8 (by decide) (fun c_8 => ?_) (fun c_8 => ?_)
      · refine j_iconst C (nI 0) dX0_isAnyBarred_28 (by decide) ?_
        exact j_retz C R dX0_isAnyBarred_29 rfl ⟨bi_f (by rw [he, alB_end c_8]; rfl), rfl⟩
      · refine j_aload_n C dX0_isAnyBarred_11 rfl ?_
        refine g0_allowed C dX0_isAnyBarred_12 ?_
        refine j_iload_n C dX0_isAnyBarred_15 rfl ?_
        refine l0_al C _ rfl (by omega) dX0_isAnyBarred_16 ?_
        refine jB_if_ne C 22 dX0_isAnyBarred_17 (by decide) (fun c_17 => ?_) (fun c_17 => ?_)
        · refine j_iinc_1 C _ (nI_p1 _) dX0_isAnyBarred_22 ?_
          refine j_goto C 2 dX0_isAnyBarred_25 (by decide) ?_
          exact ih (i + 1) (by omega) (by omega) (by rw [he, alB_step c_8, c_17, Bool.true_and])
        · refine j_iconst C (nI 1) dX0_isAnyBarred_20 (by decide) ?_
          exact j_retz C R dX0_isAnyBarred_21 rfl ⟨bi_t (by rw [he, alB_step c_8, c_17]; rfl), rfl⟩
  refine j_iconst C (nI 0) dX0_isAnyBarred_0 (by decide) ?_
  refine j_istore_1 C dX0_isAnyBarred_1 (by decide) ?_
  exact hL 26 0 (by omega) (by omega) rfl
abbrev rm_X0_readTops : Room := { frames := 1, cells := 0, slots := 0, locals := 23 }
set_option maxHeartbeats 4000000 in
set_option maxRecDepth 100000 in
theorem ct_X0_readTops {l : Launch} {D : va_G} {Y : jy_T} {ad : Nat → Nat} {P N a : Nat} {ru nw tg mc me : Int32} {co al tr to fa se qu sp : Nat → Int32} (hc : cfg P N) (ha : a < 2 ^ 31) :
    MJ l yX0_readTops cX0_readTops 4 none rm_X0_readTops D Y [.ref (ad 0), .int (nI a)] (wA Y ad (nI P) (nI N) ru nw tg mc me (fun d => nI (P ^ d)) co al tr to fa se qu sp) (jV (fun w => ∃ to1, tpOf P N a to1 ∧ w = (wA Y ad (nI P) (nI N) ru nw tg mc me (fun d => nI (P ^ d)) co al tr to1 fa se qu sp))) := by
  refine j_enter (by decide) (Nat.le_of_ble_eq_true rfl) (fun v hv => by simp only [List.mem_cons, List.not_mem_nil, or_false] at hv; rcases hv with rfl | rfl <;> rfl) (fun K hl hD hnm C R => ?_)
  subst hl; subst hD
  have C : jC cX0_readTops RX0 Y rm_X0_readTops 4 K := C
  have R : jR Y none 0 0 (jV (fun w => ∃ to1, tpOf P N a to1 ∧ w = (wA Y ad (nI P) (nI N) ru nw tg mc me (fun d => nI (P ^ d)) co al tr to1 fa se qu sp))) K := R
  refine j_eq (lo' := [some (.ref (ad 0)), some (.int (nI a)), none, none]) rfl rfl rfl ?_
  obtain ⟨hP3, hP5, hN1, hN6⟩ := id hc
  have hP0 : 0 < P := by omega
  have hL2 : ∀ (i : Nat) (to1 : Nat → Int32) (l3 : Option Value), i ≤ N → (∀ g, g < 5 → to1 g = oI (frm (dg P a) g i N)) → jJ K 0 0 31 [some (.ref (ad 0)), some (.int (nI a)), some (.int (nI i - nI 1)), l3] [] (wA Y ad (nI P) (nI N) ru nw tg mc me (fun d => nI (P ^ d)) co al tr to1 fa se qu sp) := by
    intro i
    induction i with
    | zero =>
      intro to1 l3 h1 hi
      refine j_iload_n C dX0_readTops_31 rfl ?_
      refine j_if_lt C 63 dX0_readTops_32 (by decide) (fun c_32 => ?_) (fun c_32 => ?_)
      · exact j_retv C R dX0_readTops_63 ⟨to1, hi, rfl⟩
      · exact absurd (by decide) c_32
    | succ j ih =>
      intro to1 l3 h1 hi
      refine j_eq (lo' := [some (.ref (ad 0)), some (.int (nI a)), some (.int (nI j)), l3]) (by rw [nI_pr]) rfl rfl ?_
      refine j_iload_n C dX0_readTops_31 rfl ?_
      refine j_if_lt C 63 dX0_readTops_32 (by decide) (fun c_32 => ?_) (fun c_32 => ?_)
      · exact absurd c_32 (nI_nlt0 (by omega))
      · refine j_aload_n C dX0_readTops_35 rfl ?_
        refine j_iload_n C dX0_readTops_36 rfl ?_
        refine j_iload_n C dX0_readTops_37 rfl ?_
        refine j_callV2i C (ct_X0_pegIn hc (by omega) (by omega)) gw_0_80 nd_X0_pegIn 0 0 rfl rfl rfl ⟨by decide, by decide⟩ ⟨Nat.le_of_ble_eq_true rfl, Nat.le_of_ble_eq_true rfl⟩ (Nat.le_of_ble_eq_true rfl) dX0_readTops_38 (fun x_1 w_1 hp => ?_)
        obtain ⟨rfl, rfl⟩ := hp
        refine j_istore_3 C dX0_readTops_41 (by decide) ?_
        refine j_aload_n C dX0_readTops_42 rfl ?_
        refine j_iload_n C dX0_readTops_43 rfl ?_
        refine j_callV1i C (ct_X0_isPeg (by omega)) gw_0_61 nd_X0_isPeg 0 0 rfl rfl rfl ⟨by decide, by decide⟩ ⟨Nat.le_of_ble_eq_true rfl, Nat.le_of_ble_eq_true rfl⟩ (Nat.le_of_ble_eq_true rfl) dX0_readTops_44 (fun x_1 w_1 hp => ?_)
        obtain ⟨rfl, rfl⟩ := hp
        refine jB_if_eq C 57 dX0_readTops_47 (by decide) (fun c_47 => ?_) (fun c_47 => ?_)
        · exact absurd (inr_lt (dg_lt hP0) (by omega)) (by rw [c_47]; decide)
        · have hl1 := dg_lt (a := a) (d := j) hP0
          refine j_aload_n C dX0_readTops_50 rfl ?_
          refine g0_tops C dX0_readTops_51 ?_
          refine j_iload_n C dX0_readTops_54 rfl ?_
          refine j_iload_n C dX0_readTops_55 rfl ?_
          refine s0_to C _ rfl (by omega) dX0_readTops_56 ?_
          refine j_iinc_2 C _ (nI_m1 _) dX0_readTops_57 ?_
          refine j_goto C 31 dX0_readTops_60 (by decide) ?_
          exact ih (upd to1 (dg P a j) (nI j)) _ (by omega) (fun g hg => by
            by_cases e : g = dg P a j
            · rw [e, pk_us, frm_hit (by omega) rfl]; rfl
            · rw [pk_un e, frm_step (by omega) (fun q => e q.symm)]; exact hi g hg)
  have hL : ∀ (m i : Nat) (to1 : Nat → Int32), 5 < i + m → i ≤ 5 → (∀ g, g < i → to1 g = -1) → jJ K 0 0 2 [some (.ref (ad 0)), some (.int (nI a)), some (.int (nI i)), none] [] (wA Y ad (nI P) (nI N) ru nw tg mc me (fun d => nI (P ^ d)) co al tr to1 fa se qu sp) := by
    intro m
    induction m with
    | zero => intro i to1 h1 h2; omega
    | succ m ih =>
      intro i to1 h1 h2 hi
      refine j_iload_n C dX0_readTops_2 rfl ?_
      refine j_aload_n C dX0_readTops_3 rfl ?_
      refine g0_tops C dX0_readTops_4 ?_
      refine n0_to C dX0_readTops_7 ?_
      refine jN_icmp_ge C 24 (by omega) (by omega) dX0_readTops_8 (by decide) (fun c_8 => ?_) (fun c_8 => ?_)
      · refine j_aload_n C dX0_readTops_24 rfl ?_
        refine g0_diskCount C dX0_readTops_25 ?_
        refine j_iconst C (nI 1) dX0_readTops_28 (by decide) ?_
        refine j_isub C dX0_readTops_29 ?_
        refine j_top _ (nI N - nI 1) rfl ?_
        refine j_istore_2 C dX0_readTops_30 (by decide) ?_
        exact hL2 N to1 _ (Nat.le_refl _) (fun g hg => by rw [frm_end (Nat.le_refl _), hi g (by omega)]; rfl)
      · refine j_aload_n C dX0_readTops_11 rfl ?_
        refine g0_tops C dX0_readTops_12 ?_
        refine j_iload_n C dX0_readTops_15 rfl ?_
        refine j_iconst C (-1) dX0_readTops_16 (by decide) ?_
        refine s0_to C _ rfl (by omega) dX0_readTops_17 ?_
        refine j_iinc_2 C _ (nI_p1 _) dX0_readTops_18 ?_
        refine j_goto C 2 dX0_readTops_21 (by decide) ?_
        exact ih (i + 1) (upd to1 i (-1)) (by omega) (by omega) (fun g hg => by
          by_cases e : g = i
          · rw [e, pk_us]
          · rw [pk_un e]; exact hi g (by omega))
  refine j_iconst C (nI 0) dX0_readTops_0 (by decide) ?_
  refine j_istore_2 C dX0_readTops_1 (by decide) ?_
  exact hL 6 0 to (by omega) (by omega) (fun g hg => by omega)
abbrev rm_X0_fits : Room := { frames := 0, cells := 0, slots := 0, locals := 0 }
set_option maxHeartbeats 4000000 in
set_option maxRecDepth 100000 in
theorem ct_X0_fits {l : Launch} {D : va_G} {Y : jy_T} {ad : Nat → Nat} {f t : Nat} {o1 o2 : Option Nat} {p n ru nw tg mc me : Int32} {we co al tr to fa se qu sp : Nat → Int32} (hf : f < 5) (ht : t < 5) (h1 : to f = oI o1) (h2 : to t = oI o2) (hb1 : ∀ j, o1 = some j → j < 6) (hb2 : ∀ j, o2 = some j → j < 6) :
    MJ l yX0_fits cX0_fits 5 (some .boolean) rm_X0_fits D Y [.ref (ad 0), .int (nI f), .int (nI t)] (wA Y ad p n ru nw tg mc me we co al tr to fa se qu sp) (jI (fun r w => r = bi (ftB f t o1 o2) ∧ w = (wA Y ad p n ru nw tg mc me we co al tr to fa se qu sp))) := by
  refine j_enter (by decide) (Nat.le_of_ble_eq_true rfl) (fun v hv => by simp only [List.mem_cons, List.not_mem_nil, or_false] at hv; rcases hv with rfl | rfl | rfl <;> rfl) (fun K hl hD hnm C R => ?_)
  subst hl; subst hD
  have C : jC cX0_fits RX0 Y rm_X0_fits 5 K := C
  have R : jR Y (some .boolean) 0 0 (jI (fun r w => r = bi (ftB f t o1 o2) ∧ w = (wA Y ad p n ru nw tg mc me we co al tr to fa se qu sp))) K := R
  refine j_eq (lo' := [some (.ref (ad 0)), some (.int (nI f)), some (.int (nI t)), none, none]) rfl rfl rfl ?_
  refine j_aload_n C dX0_fits_0 rfl ?_
  refine g0_tops C dX0_fits_1 ?_
  refine j_iload_n C dX0_fits_4 rfl ?_
  refine l0_to C _ rfl (by omega) dX0_fits_5 ?_
  refine j_top _ (oI o1) h1 ?_
  refine j_istore_3 C dX0_fits_6 (by decide) ?_
  refine j_aload_n C dX0_fits_7 rfl ?_
  refine g0_tops C dX0_fits_8 ?_
  refine j_iload_n C dX0_fits_11 rfl ?_
  refine l0_to C _ rfl (by omega) dX0_fits_12 ?_
  refine j_top _ (oI o2) h2 ?_
  refine j_istore_4 C dX0_fits_13 (by decide) ?_
  refine j_iload_n C dX0_fits_15 rfl ?_
  refine j_iload_n C dX0_fits_16 rfl ?_
  refine jN_icmp_eq C 41 (by omega) (by omega) dX0_fits_17 (by decide) (fun c_17 => ?_) (fun c_17 => ?_)
  · refine j_iconst C (nI 0) dX0_fits_41 (by decide) ?_
    exact j_retz C R dX0_fits_42 rfl ⟨bi_f (by rw [c_17]; unfold ftB; simp), rfl⟩
  · refine j_iload_n C dX0_fits_20 rfl ?_
    refine j_iconst C (-1) dX0_fits_21 (by decide) ?_
    refine j_icmp_eq C 41 dX0_fits_22 (by decide) (fun c_22 => ?_) (fun c_22 => ?_)
    · refine j_iconst C (nI 0) dX0_fits_41 (by decide) ?_
      exact j_retz C R dX0_fits_42 rfl ⟨bi_f (by rw [(oI_m1 (fun j h => by have := hb1 j h; omega)).mp c_22]; unfold ftB; simp), rfl⟩
    · rcases o1 with _ | d
      · exact absurd rfl c_22
      refine j_iload C dX0_fits_25 rfl ?_
      refine j_iconst C (-1) dX0_fits_27 (by decide) ?_
      refine j_icmp_eq C 37 dX0_fits_28 (by decide) (fun c_28 => ?_) (fun c_28 => ?_)
      · refine j_iconst C (nI 1) dX0_fits_37 (by decide) ?_
        refine j_goto C 42 dX0_fits_38 (by decide) ?_
        exact j_retz C R dX0_fits_42 rfl ⟨bi_t (by rw [(oI_m1 (fun j h => by have := hb2 j h; omega)).mp c_28]; unfold ftB; simp [c_17]), rfl⟩
      · rcases o2 with _ | e
        · exact absurd rfl c_28
        refine j_iload C dX0_fits_31 rfl ?_
        refine j_iload_n C dX0_fits_33 rfl ?_
        refine j_icmp_le C 41 dX0_fits_34 (by decide) (fun c_34 => ?_) (fun c_34 => ?_)
        · refine j_iconst C (nI 0) dX0_fits_41 (by decide) ?_
          exact j_retz C R dX0_fits_42 rfl ⟨bi_f (by have h := (nI_leI (by have := hb2 e rfl; omega) (by have := hb1 d rfl; omega)).mp c_34; unfold ftB; simp [Nat.not_lt.mpr h]), rfl⟩
        · refine j_iconst C (nI 1) dX0_fits_37 (by decide) ?_
          refine j_goto C 42 dX0_fits_38 (by decide) ?_
          exact j_retz C R dX0_fits_42 rfl ⟨bi_t (by have h : d < e := Nat.lt_of_not_le (fun q => c_34 ((nI_leI (by have := hb2 e rfl; omega) (by have := hb1 d rfl; omega)).mpr q)); unfold ftB; simp [c_17, h]), rfl⟩
abbrev rm_X0_behindMove : Room := { frames := 1, cells := 0, slots := 0, locals := 21 }
set_option maxHeartbeats 4000000 in
set_option maxRecDepth 100000 in
theorem ct_X0_behindMove {l : Launch} {D : va_G} {Y : jy_T} {ad : Nat → Nat} {P N a f t d : Nat} {p ru nw tg mc me : Int32} {co al tr to fa se qu sp : Nat → Int32} (hN : N ≤ 6) (hf : f < 5) (ht : t < 5) (hd : to f = nI d) (hdN : d < N) (hle : f * P ^ d ≤ a) :
    MJ l yX0_behindMove cX0_behindMove 5 (some .int) rm_X0_behindMove D Y [.ref (ad 0), .int (nI a), .int (nI f), .int (nI t)] (wA Y ad p (nI N) ru nw tg mc me (fun d => nI (P ^ d)) co al tr to fa se qu sp) (jI (fun r w => r = nI (a + t * P ^ d - f * P ^ d) ∧ w = (wA Y ad p (nI N) ru nw tg mc me (fun d => nI (P ^ d)) co al tr to fa se qu sp))) := by
  refine j_enter (by decide) (Nat.le_of_ble_eq_true rfl) (fun v hv => by simp only [List.mem_cons, List.not_mem_nil, or_false] at hv; rcases hv with rfl | rfl | rfl | rfl <;> rfl) (fun K hl hD hnm C R => ?_)
  subst hl; subst hD
  have C : jC cX0_behindMove RX0 Y rm_X0_behindMove 5 K := C
  have R : jR Y (some .int) 0 0 (jI (fun r w => r = nI (a + t * P ^ d - f * P ^ d) ∧ w = (wA Y ad p (nI N) ru nw tg mc me (fun d => nI (P ^ d)) co al tr to fa se qu sp))) K := R
  refine j_eq (lo' := [some (.ref (ad 0)), some (.int (nI a)), some (.int (nI f)), some (.int (nI t)), none]) rfl rfl rfl ?_
  refine j_aload_n C dX0_behindMove_0 rfl ?_
  refine g0_tops C dX0_behindMove_1 ?_
  refine j_iload_n C dX0_behindMove_4 rfl ?_
  refine l0_to C _ rfl (by omega) dX0_behindMove_5 ?_
  refine j_top _ (nI d) hd ?_
  refine j_istore_4 C dX0_behindMove_6 (by decide) ?_
  refine j_aload_n C dX0_behindMove_8 rfl ?_
  refine j_iload C dX0_behindMove_9 rfl ?_
  refine j_callV1i C (ct_X0_isDisk (by omega)) gw_0_57 nd_X0_isDisk 0 0 rfl rfl rfl ⟨by decide, by decide⟩ ⟨Nat.le_of_ble_eq_true rfl, Nat.le_of_ble_eq_true rfl⟩ (Nat.le_of_ble_eq_true rfl) dX0_behindMove_11 (fun x_1 w_1 hp => ?_)
  obtain ⟨rfl, rfl⟩ := hp
  refine jB_if_ne C 19 dX0_behindMove_14 (by decide) (fun c_14 => ?_) (fun c_14 => ?_)
  · refine j_iload_n C dX0_behindMove_19 rfl ?_
    refine j_iload_n C dX0_behindMove_20 rfl ?_
    refine j_iload_n C dX0_behindMove_21 rfl ?_
    refine j_isub C dX0_behindMove_22 ?_
    refine j_top _ (nI t - nI f) rfl ?_
    refine j_aload_n C dX0_behindMove_23 rfl ?_
    refine g0_weight C dX0_behindMove_24 ?_
    refine j_iload C dX0_behindMove_27 rfl ?_
    refine l0_we C _ rfl (by omega) dX0_behindMove_29 ?_
    refine j_imul C dX0_behindMove_30 ?_
    refine j_top _ ((nI t - nI f) * nI (P ^ d)) rfl ?_
    refine j_iadd C dX0_behindMove_31 ?_
    refine j_top _ (nI (a + t * P ^ d - f * P ^ d)) (nI_move hle) ?_
    exact j_reti C R dX0_behindMove_32 ⟨rfl, rfl⟩
  · exact absurd (inr_lt hdN (by omega)) (by rw [c_14]; decide)
