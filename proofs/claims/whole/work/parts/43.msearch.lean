abbrev rm_X1_search : Room := { frames := 2, cells := 0, slots := 0, locals := 51 }
set_option maxHeartbeats 4000000 in
set_option maxRecDepth 100000 in
theorem ct_X1_search {l : Launch} {D : va_G} {Y : jy_T} {ad : Nat → Nat} {P N og : Nat} {ru : Bool} {cb ba : Nat → Bool} {th mc s0 qd : Int32} {nw gl fr tt lk fa qu nb : Nat → Int32} (hc : cfg P N) (ho : og < P ^ N) :
    MJ l yX1_search cX1_search 5 none rm_X1_search D Y [.ref (ad 0), .int (nI og)] (wM Y ad th (nI P) (nI N) (bi ru) mc s0 qd nw gl (fun d => bi (cb d)) (fun k => bi (ba k)) fr tt lk fa qu nb) (jV (fun w => ∃ fo1 ds1 s1 qu1 lk1, srF (P ^ N) P (nbM P N ru cb ba) og (lawB P N ru cb og) fo1 ds1 ∧ stR (P ^ N) s1 ds1 ∧ w = (wM Y ad th (nI P) (nI N) (bi ru) mc s0 (nI fo1) nw gl (fun d => bi (cb d)) (fun k => bi (ba k)) fr tt lk1 s1 qu1 nb))) := by
  refine j_enter (by decide) (Nat.le_of_ble_eq_true rfl) (fun v hv => by simp only [List.mem_cons, List.not_mem_nil, or_false] at hv; rcases hv with rfl | rfl <;> rfl) (fun K hl hD hnm C R => ?_)
  subst hl; subst hD
  have C : jC cX1_search RX1 Y rm_X1_search 5 K := C
  have R : jR Y none 0 0 (jV (fun w => ∃ fo1 ds1 s1 qu1 lk1, srF (P ^ N) P (nbM P N ru cb ba) og (lawB P N ru cb og) fo1 ds1 ∧ stR (P ^ N) s1 ds1 ∧ w = (wM Y ad th (nI P) (nI N) (bi ru) mc s0 (nI fo1) nw gl (fun d => bi (cb d)) (fun k => bi (ba k)) fr tt lk1 s1 qu1 nb))) K := R
  refine j_eq (lo' := [some (.ref (ad 0)), some (.int (nI og)), none, none, none]) rfl rfl rfl ?_
  obtain ⟨hP3, hP5, hN1, hN6⟩ := id hc
  have hP0 : 0 < P := by omega
  have hp2 : P ^ N ≤ 15625 := cfg_pw hc (by omega)
  have hPP : P * P ≤ 5 * 5 := Nat.mul_le_mul hP5 hP5
  have hL2 : (lawB P N ru cb og) = true → ∀ (m h fo : Nat) (ds : Nat → Option Nat) (q : Nat → Nat) (ss qu lk : Nat → Int32) (l3 l4 : Option Value), P ^ N < h + m → bfI (P ^ N) P (nbM P N ru cb ba) og h fo ds q → stR (P ^ N) ss ds → quR fo qu q →
      jJ K 0 0 56 [some (.ref (ad 0)), some (.int (nI og)), some (.int (nI h)), l3, l4] [] (wM Y ad th (nI P) (nI N) (bi ru) mc s0 (nI fo) nw gl (fun d => bi (cb d)) (fun k => bi (ba k)) fr tt lk ss qu nb) := by
    intro hlaw m
    induction m with
    | zero => intro h fo ds q ss qu lk l3 l4 h1 I; have := I.1.1; have := bf_le I; omega
    | succ m ih =>
      intro h fo ds q ss qu lk l3 l4 h1 I hst hqu
      refine j_iload_n C dX1_search_56 rfl ?_
      refine j_aload_n C dX1_search_57 rfl ?_
      refine g1_queued C dX1_search_58 ?_
      refine jN_icmp_ge C 173 (by have := I.1.1; have := bf_le I; omega) (by have := bf_le I; omega) dX1_search_61 (by decide) (fun c_61 => ?_) (fun c_61 => ?_)
      · exact j_retv C R dX1_search_173 ⟨fo, ds, ss, qu, lk, Or.inl ⟨hlaw, q, by rw [show h = fo by have := I.1.1; omega] at I; exact I⟩, hst, rfl⟩
      · refine j_iconst C (nI 0) dX1_search_64 (by decide) ?_
        refine j_istore_3 C dX1_search_65 (by decide) ?_
        obtain ⟨dx, hdx, I0⟩ := bf_enter I c_61
        have hh := c_61
        obtain ⟨x, hqx⟩ : ∃ x, q h = x := ⟨_, rfl⟩
        rw [hqx] at I0
        have hx : x < P ^ N := by rw [← hqx]; exact I.2.1 h hh
        have hI : ∀ (m2 k fo : Nat) (ds : Nat → Option Nat) (q : Nat → Nat) (ss qu lk : Nat → Int32) (l4 : Option Value), P * P < k + m2 → k ≤ P * P → bfX (P ^ N) P (nbM P N ru cb ba) og h fo ds q x dx (k / P) (k % P) → stR (P ^ N) ss ds → quR fo qu q →
            jJ K 0 0 66 [some (.ref (ad 0)), some (.int (nI og)), some (.int (nI h)), some (.int (nI k)), l4] [] (wM Y ad th (nI P) (nI N) (bi ru) mc s0 (nI fo) nw gl (fun d => bi (cb d)) (fun k => bi (ba k)) fr tt lk ss qu nb) := by
          intro m2
          induction m2 with
          | zero => intro k fo ds q ss qu lk l4 h3 h4; omega
          | succ m2 ih2 =>
            intro k fo ds q ss qu lk l4 h3 h4 I hst hqu
            have hh := I.2.1
            have hqx := I.2.2.1
            have hfo := bf_le I.1
            refine j_iload_n C dX1_search_66 rfl ?_
            refine j_aload_n C dX1_search_67 rfl ?_
            refine g1_pegs C dX1_search_68 ?_
            refine j_aload_n C dX1_search_71 rfl ?_
            refine g1_pegs C dX1_search_72 ?_
            refine j_imul C dX1_search_75 ?_
            refine j_top _ _ (pk_mul _ _) ?_
            refine jN_icmp_ge C 167 (by omega) (by omega) dX1_search_76 (by decide) (fun c_76 => ?_) (fun c_76 => ?_)
            · refine j_iinc_2 C _ (nI_p1 _) dX1_search_167 ?_
              refine j_goto C 56 dX1_search_170 (by decide) ?_
              have hkP : k = P * P := by omega
              subst hkP
              rw [Nat.mul_div_cancel _ hP0, Nat.mul_mod_left] at I
              exact ih (h + 1) fo ds q ss qu lk _ _ (by omega) (bf_next I (Nat.le_refl _)) hst hqu
            · refine j_aload_n C dX1_search_79 rfl ?_
              refine j_aload_n C dX1_search_80 rfl ?_
              refine g1_queue C dX1_search_81 ?_
              refine j_iload_n C dX1_search_84 rfl ?_
              refine l1_qu C _ rfl (by have := bf_le I.1; omega) dX1_search_85 ?_
              refine j_top _ (nI x) (by rw [hqu h hh, hqx]) ?_
              refine j_iload_n C dX1_search_86 rfl ?_
              refine j_aload_n C dX1_search_87 rfl ?_
              refine g1_pegs C dX1_search_88 ?_
              refine j_idiv C dX1_search_91 (nI_ne0 hP0 (by omega)) ?_
              refine j_top _ (nI (k / P)) (pk_div (by omega) hP0 (by omega)) ?_
              refine j_iload_n C dX1_search_92 rfl ?_
              refine j_aload_n C dX1_search_93 rfl ?_
              refine g1_pegs C dX1_search_94 ?_
              refine j_irem C dX1_search_97 (nI_ne0 hP0 (by omega)) ?_
              refine j_top _ (nI (k % P)) (pk_rem (by omega) hP0 (by omega)) ?_
              refine j_callV3i C (ct_X1_behind hc hx (Nat.div_lt_of_lt_mul c_76) (Nat.mod_lt _ hP0)) gw_1_95 nd_X1_behind 1 0 rfl rfl rfl ⟨by decide, by decide⟩ ⟨Nat.le_of_ble_eq_true rfl, Nat.le_of_ble_eq_true rfl⟩ (Nat.le_of_ble_eq_true rfl) dX1_search_98 (fun x_1 w_1 hp => ?_)
              obtain ⟨rfl, lk1, rfl⟩ := hp
              refine j_istore_4 C dX1_search_101 (by decide) ?_
              refine j_iload C dX1_search_103 rfl ?_
              refine j_iconst C (-1) dX1_search_105 (by decide) ?_
              refine j_icmp_eq C 161 dX1_search_106 (by decide) (fun c_106 => ?_) (fun c_106 => ?_)
              · refine j_iinc_3 C _ (nI_p1 _) dX1_search_161 ?_
                refine j_goto C 66 dX1_search_164 (by decide) ?_
                exact ih2 (k + 1) fo ds q ss qu lk1 _ (by omega) (by omega) (bf_k hP0 (bf_keep I (fun y hy => by
                  rw [(oI_m1 (fun j hj => by have := nbM_lt hP0 hx (Nat.mod_lt _ hP0) hj; omega)).mp c_106] at hy; cases hy))) hst hqu
              · rcases hnb : nbM P N ru cb ba x (k / P) (k % P) with _ | y
                · rw [hnb] at c_106; exact absurd rfl c_106
                have hy := nbM_lt hP0 hx (Nat.mod_lt _ hP0) hnb
                refine j_eq (lo' := [some (.ref (ad 0)), some (.int (nI og)), some (.int (nI h)), some (.int (nI k)), some (.int (nI y))]) rfl rfl rfl ?_
                refine j_aload_n C dX1_search_109 rfl ?_
                refine g1_far C dX1_search_110 ?_
                refine j_iload C dX1_search_113 rfl ?_
                refine l1_fa C _ rfl (by omega) dX1_search_115 ?_
                refine j_top _ (oI (ds y)) (hst y hy) ?_
                refine j_iconst C (-1) dX1_search_116 (by decide) ?_
                refine j_icmp_ne C 161 dX1_search_117 (by decide) (fun c_117 => ?_) (fun c_117 => ?_)
                · refine j_iinc_3 C _ (nI_p1 _) dX1_search_161 ?_
                  refine j_goto C 66 dX1_search_164 (by decide) ?_
                  exact ih2 (k + 1) fo ds q ss qu lk1 _ (by omega) (by omega) (bf_k hP0 (bf_keep I (fun z hz => by
                    rw [hnb] at hz; cases hz
                    exact fun w => c_117 ((oI_m1 (fun j hj => bf_dlt I.1 (by omega) y j hj)).mpr w)))) hst hqu
                · have hdy := (oI_m1 (fun j hj => bf_dlt I.1 (by omega) y j hj)).mp c_117
                  have hroom := bf_room I.1 hy hdy
                  refine j_aload_n C dX1_search_120 rfl ?_
                  refine g1_far C dX1_search_121 ?_
                  refine j_iload C dX1_search_124 rfl ?_
                  refine j_aload_n C dX1_search_126 rfl ?_
                  refine g1_far C dX1_search_127 ?_
                  refine j_aload_n C dX1_search_130 rfl ?_
                  refine g1_queue C dX1_search_131 ?_
                  refine j_iload_n C dX1_search_134 rfl ?_
                  refine l1_qu C _ rfl (by have := bf_le I.1; omega) dX1_search_135 ?_
                  refine j_top _ (nI x) (by rw [hqu h hh, hqx]) ?_
                  refine l1_fa C _ rfl (by omega) dX1_search_136 ?_
                  refine j_top _ (nI dx) (by rw [hst x hx, I.2.2.2.1]; rfl) ?_
                  refine j_iconst C (nI 1) dX1_search_137 (by decide) ?_
                  refine j_iadd C dX1_search_138 ?_
                  refine j_top _ _ (nI_add _ _) ?_
                  refine s1_fa C _ rfl (by omega) dX1_search_139 ?_
                  refine j_aload_n C dX1_search_140 rfl ?_
                  refine g1_queue C dX1_search_141 ?_
                  refine j_aload_n C dX1_search_144 rfl ?_
                  refine g1_queued C dX1_search_145 ?_
                  refine j_iload C dX1_search_148 rfl ?_
                  refine s1_qu C _ rfl (by omega) dX1_search_150 ?_
                  refine j_aload_n C dX1_search_151 rfl ?_
                  refine j_dup C dX1_search_152 rfl ?_
                  refine g1_queued C dX1_search_153 ?_
                  refine j_iconst C (nI 1) dX1_search_156 (by decide) ?_
                  refine j_iadd C dX1_search_157 ?_
                  refine j_top _ _ (nI_add _ _) ?_
                  refine p1_queued C dX1_search_158 ?_
                  refine j_iinc_3 C _ (nI_p1 _) dX1_search_161 ?_
                  refine j_goto C 66 dX1_search_164 (by decide) ?_
                  exact ih2 (k + 1) (fo + 1) _ _ _ _ lk1 _ (by omega) (by omega) (bf_k hP0 (bf_add I (Nat.div_lt_of_lt_mul c_76) (Nat.mod_lt _ hP0) hnb hy hdy)) (stR_up hst) (quR_up hqu)
        exact hI (P * P + 1) 0 fo ds q ss qu lk _ (by omega) (Nat.zero_le _) (by rw [Nat.zero_div, Nat.zero_mod]; exact I0) hst hqu
  have hZ : (lawB P N ru cb og) = false → ∀ (ss lk : Nat → Int32), (∀ y, y < P ^ N → ss y = -1) → jJ K 0 0 56 [some (.ref (ad 0)), some (.int (nI og)), some (.int (nI 0)), none, none] [] (wM Y ad th (nI P) (nI N) (bi ru) mc s0 (nI 0) nw gl (fun d => bi (cb d)) (fun k => bi (ba k)) fr tt lk ss qu nb) := by
    intro hlaw ss lk hss
    refine j_iload_n C dX1_search_56 rfl ?_
    refine j_aload_n C dX1_search_57 rfl ?_
    refine g1_queued C dX1_search_58 ?_
    refine jN_icmp_ge C 173 (by omega) (by omega) dX1_search_61 (by decide) (fun c_61 => ?_) (fun c_61 => ?_)
    · exact j_retv C R dX1_search_173 ⟨0, fun _ => none, ss, qu, lk, Or.inr ⟨hlaw, rfl, fun _ => rfl⟩, fun y hy => hss y hy, rfl⟩
    · omega
  have hL : ∀ (m i : Nat) (ss : Nat → Int32), 15625 < i + m → i ≤ 15625 → (∀ y, y < i → ss y = -1) → jJ K 0 0 2 [some (.ref (ad 0)), some (.int (nI og)), some (.int (nI i)), none, none] [] (wM Y ad th (nI P) (nI N) (bi ru) mc s0 qd nw gl (fun d => bi (cb d)) (fun k => bi (ba k)) fr tt lk ss qu nb) := by
    intro m
    induction m with
    | zero => intro i ss h1 h2; omega
    | succ m ih =>
      intro i ss h1 h2 hi
      refine j_iload_n C dX1_search_2 rfl ?_
      refine j_sipush C (nI 15625) dX1_search_3 (by decide) ?_
      refine jN_icmp_ge C 22 (by omega) (by omega) dX1_search_6 (by decide) (fun c_6 => ?_) (fun c_6 => ?_)
      · refine j_aload_n C dX1_search_22 rfl ?_
        refine j_iconst C (nI 0) dX1_search_23 (by decide) ?_
        refine p1_queued C dX1_search_24 ?_
        refine j_aload_n C dX1_search_27 rfl ?_
        refine j_iload_n C dX1_search_28 rfl ?_
        refine j_callV1i C (ct_X1_isLawfulNumber hc ho) gw_1_105 nd_X1_isLawfulNumber 1 0 rfl rfl rfl ⟨by decide, by decide⟩ ⟨Nat.le_of_ble_eq_true rfl, Nat.le_of_ble_eq_true rfl⟩ (Nat.le_of_ble_eq_true rfl) dX1_search_29 (fun x_1 w_1 hp => ?_)
        obtain ⟨lk1, rfl, rfl⟩ := hp
        refine jB_if_eq C 54 dX1_search_32 (by decide) (fun c_32 => ?_) (fun c_32 => ?_)
        · refine j_iconst C (nI 0) dX1_search_54 (by decide) ?_
          refine j_istore_2 C dX1_search_55 (by decide) ?_
          exact hZ c_32 ss lk1 (fun y hy => hi y (by omega))
        · refine j_aload_n C dX1_search_35 rfl ?_
          refine g1_far C dX1_search_36 ?_
          refine j_iload_n C dX1_search_39 rfl ?_
          refine j_iconst C (nI 0) dX1_search_40 (by decide) ?_
          refine s1_fa C _ rfl (by omega) dX1_search_41 ?_
          refine j_aload_n C dX1_search_42 rfl ?_
          refine g1_queue C dX1_search_43 ?_
          refine j_iconst C (nI 0) dX1_search_46 (by decide) ?_
          refine j_iload_n C dX1_search_47 rfl ?_
          refine s1_qu C _ rfl (by omega) dX1_search_48 ?_
          refine j_aload_n C dX1_search_49 rfl ?_
          refine j_iconst C (nI 1) dX1_search_50 (by decide) ?_
          refine p1_queued C dX1_search_51 ?_
          refine j_iconst C (nI 0) dX1_search_54 (by decide) ?_
          refine j_istore_2 C dX1_search_55 (by decide) ?_
          exact hL2 c_32 (P ^ N + 1) 0 1 _ (va_up (fun _ => 0) 0 og) _ _ lk1 _ _ (by omega) (bf_start ho up_s) (fun y hy => by
            by_cases e : y = og
            · rw [e, pk_us, up_s]; rfl
            · rw [pk_un e, up_n e]; exact hi y (by omega)) (fun j hj => by rw [show j = 0 by omega, pk_us, up_s])
      · refine j_aload_n C dX1_search_9 rfl ?_
        refine g1_far C dX1_search_10 ?_
        refine j_iload_n C dX1_search_13 rfl ?_
        refine j_iconst C (-1) dX1_search_14 (by decide) ?_
        refine s1_fa C _ rfl (by omega) dX1_search_15 ?_
        refine j_iinc_2 C _ (nI_p1 _) dX1_search_16 ?_
        refine j_goto C 2 dX1_search_19 (by decide) ?_
        exact ih (i + 1) (upd ss i (-1)) (by omega) (by omega) (fun y hy => by
          by_cases e : y = i
          · rw [e, pk_us]
          · rw [pk_un e]; exact hi y (by omega))
  refine j_iconst C (nI 0) dX1_search_0 (by decide) ?_
  refine j_istore_2 C dX1_search_1 (by decide) ?_
  exact hL 15626 0 fa (by omega) (by omega) (fun y hy => by omega)
abbrev rm_X1_wayFrom : Room := { frames := 3, cells := 0, slots := 0, locals := 75 }
set_option maxHeartbeats 4000000 in
set_option maxRecDepth 100000 in
theorem ct_X1_wayFrom {l : Launch} {D : va_G} {Y : jy_T} {ad : Nat → Nat} {P N x b : Nat} {ru : Bool} {cb ba : Nat → Bool} {gf : Nat → Nat} {th mc s0 qd : Int32} {nw fr tt lk fa qu nb : Nat → Int32} (hc : cfg P N) (hx : x < P ^ N) (hb : b < P ^ N) (hg : ∀ d, d < N → gf d = dg P b d) :
    MJ l yX1_wayFrom cX1_wayFrom 2 (some .int) rm_X1_wayFrom D Y [.ref (ad 0), .int (nI x)] (wM Y ad th (nI P) (nI N) (bi ru) mc s0 qd nw (fun d => nI (gf d)) (fun d => bi (cb d)) (fun k => bi (ba k)) fr tt lk fa qu nb) (jI (fun r w => ∃ fo1 ds1 s1 qu1 lk1, r = oI (ds1 b) ∧ srF (P ^ N) P (nbM P N ru cb ba) x (lawB P N ru cb x) fo1 ds1 ∧ stR (P ^ N) s1 ds1 ∧ w = (wM Y ad th (nI P) (nI N) (bi ru) mc s0 (nI fo1) nw (fun d => nI (gf d)) (fun d => bi (cb d)) (fun k => bi (ba k)) fr tt lk1 s1 qu1 nb))) := by
  refine j_enter (by decide) (Nat.le_of_ble_eq_true rfl) (fun v hv => by simp only [List.mem_cons, List.not_mem_nil, or_false] at hv; rcases hv with rfl | rfl <;> rfl) (fun K hl hD hnm C R => ?_)
  subst hl; subst hD
  have C : jC cX1_wayFrom RX1 Y rm_X1_wayFrom 2 K := C
  have R : jR Y (some .int) 0 0 (jI (fun r w => ∃ fo1 ds1 s1 qu1 lk1, r = oI (ds1 b) ∧ srF (P ^ N) P (nbM P N ru cb ba) x (lawB P N ru cb x) fo1 ds1 ∧ stR (P ^ N) s1 ds1 ∧ w = (wM Y ad th (nI P) (nI N) (bi ru) mc s0 (nI fo1) nw (fun d => nI (gf d)) (fun d => bi (cb d)) (fun k => bi (ba k)) fr tt lk1 s1 qu1 nb))) K := R
  refine j_eq (lo' := [some (.ref (ad 0)), some (.int (nI x))]) rfl rfl rfl ?_
  obtain ⟨hP3, hP5, hN1, hN6⟩ := id hc
  have hP0 : 0 < P := by omega
  have hp2 : P ^ N ≤ 15625 := cfg_pw hc (by omega)
  refine j_aload_n C dX1_wayFrom_0 rfl ?_
  refine j_iload_n C dX1_wayFrom_1 rfl ?_
  refine j_callV1v C (ct_X1_search hc hx) gw_1_111 nd_X1_search 1 0 rfl rfl rfl ⟨by decide, by decide⟩ ⟨Nat.le_of_ble_eq_true rfl, Nat.le_of_ble_eq_true rfl⟩ (Nat.le_of_ble_eq_true rfl) dX1_wayFrom_2 (fun w_1 hp => ?_)
  obtain ⟨fo1, ds1, s1, qu1, lk1, hsr, hst, rfl⟩ := hp
  refine j_aload_n C dX1_wayFrom_5 rfl ?_
  refine g1_far C dX1_wayFrom_6 ?_
  refine j_aload_n C dX1_wayFrom_9 rfl ?_
  refine j_callV0i C (ct_X1_numberOfGoal hc hb hg) gw_1_102 nd_X1_numberOfGoal 1 0 rfl rfl rfl ⟨by decide, by decide⟩ ⟨Nat.le_of_ble_eq_true rfl, Nat.le_of_ble_eq_true rfl⟩ (Nat.le_of_ble_eq_true rfl) dX1_wayFrom_10 (fun x_1 w_1 hp => ?_)
  obtain ⟨rfl, rfl⟩ := hp
  refine l1_fa C _ rfl (by omega) dX1_wayFrom_13 ?_
  refine j_top _ (oI (ds1 b)) (hst b hb) ?_
  exact j_reti C R dX1_wayFrom_14 ⟨fo1, ds1, s1, qu1, lk1, rfl, hsr, hst, rfl⟩
