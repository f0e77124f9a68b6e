def nbC (P N : Nat) (ru : Bool) (cb al : Nat → Bool) (bw : Bool) : nb_T := fun x f t => if stB P N ru cb al x f t bw then some (mv P N x f t) else none
theorem nbC_t {P N x f t : Nat} {ru bw : Bool} {cb al : Nat → Bool} (h : stB P N ru cb al x f t bw = true) : nbC P N ru cb al bw x f t = some (mv P N x f t) := by unfold nbC; rw [if_pos h]
theorem nbC_f {P N x f t : Nat} {ru bw : Bool} {cb al : Nat → Bool} (h : stB P N ru cb al x f t bw = false) : nbC P N ru cb al bw x f t = none := by unfold nbC; rw [h]; rfl
theorem stB_ft {P N x f t : Nat} {ru bw : Bool} {cb al : Nat → Bool} (h : stB P N ru cb al x f t bw = true) : ftB f t (tp P N x f) (tp P N x t) = true := by
  unfold stB at h
  rw [Bool.and_eq_true, Bool.and_eq_true] at h
  exact h.1.1
/-- the row of steps and the queue hold what the search found -/
def stR (M : Nat) (ss : Nat → Int32) (ds : Nat → Option Nat) : Prop := ∀ y, y < M → ss y = oI (ds y)
def quR (fo : Nat) (qu : Nat → Int32) (q : Nat → Nat) : Prop := ∀ i, i < fo → qu i = nI (q i)
theorem stR_up {M y d : Nat} {ss : Nat → Int32} {ds : Nat → Option Nat} (h : stR M ss ds) : stR M (upd ss y (nI d)) (va_up ds y (some d)) := fun z hz => by
  by_cases e : z = y
  · rw [e, pk_us, up_s]; rfl
  · rw [pk_un e, up_n e]; exact h z hz
theorem quR_up {fo y : Nat} {qu : Nat → Int32} {q : Nat → Nat} (h : quR fo qu q) : quR (fo + 1) (upd qu fo (nI y)) (va_up q fo y) := fun i hi => by
  by_cases e : i = fo
  · rw [e, pk_us, up_s]
  · rw [pk_un e, up_n e]; exact h i (by omega)
theorem bf_dlt {M P : Nat} {nb : nb_T} {o h fo : Nat} {ds : Nat → Option Nat} {q : Nat → Nat} (I : bfI M P nb o h fo ds q) (hM : M < 2 ^ 31) : ∀ y d, ds y = some d → d < 2 ^ 31 := fun y d hd => by
  obtain ⟨i, hi, rfl⟩ := I.2.2.2.1 y (by rw [hd]; simp)
  obtain ⟨e, h1, h2, -⟩ := I.2.2.1 i hi
  rw [hd] at h1; cases h1
  have := bf_le I
  omega
abbrev rm_X0_searchFrom : Room := { frames := 2, cells := 0, slots := 0, locals := 48 }
set_option maxHeartbeats 4000000 in
set_option maxRecDepth 100000 in
theorem ct_X0_searchFrom_f1 {l : Launch} {D : va_G} {Y : jy_T} {ad : Nat → Nat} {P N og h fo0 x : Nat} {ru bw : Bool} {cb al : Nat → Bool} {ds : Nat → Option Nat} {q : Nat → Nat} {ss : Nat → Int32} {nw tg mc me : Int32} {tr to se qu sp : Nat → Int32} (hc : cfg P N) (I : bfI (P ^ N) P (nbC P N ru cb al bw) og h fo0 ds q) (hh : h < fo0) (hqx : q h = x) (hst : stR (P ^ N) ss ds) (hqu : quR fo0 qu q) :
    MJ l yX0_searchFrom cX0_searchFrom 9 (some .int) rm_X0_searchFrom D Y [.ref (ad 0), .int (nI x), .ref (ad 6), .int (bi bw), .int (nI fo0)] (wA Y ad (nI P) (nI N) (bi ru) nw tg mc me (fun d => nI (P ^ d)) (fun d => bi (cb d)) (fun k => bi (al k)) tr to ss se qu sp) (jI (fun r w => ∃ fo1 ds1 q1 s1 qu1 to1, r = nI fo1 ∧ bfI (P ^ N) P (nbC P N ru cb al bw) og (h + 1) fo1 ds1 q1 ∧ stR (P ^ N) s1 ds1 ∧ quR fo1 qu1 q1 ∧ w = (wA Y ad (nI P) (nI N) (bi ru) nw tg mc me (fun d => nI (P ^ d)) (fun d => bi (cb d)) (fun k => bi (al k)) tr to1 s1 se qu1 sp))) := by
  refine j_enter (by decide) (Nat.le_of_ble_eq_true rfl) (fun v hv => by simp only [List.mem_cons, List.not_mem_nil, or_false] at hv; rcases hv with rfl | rfl | rfl | rfl | rfl <;> rfl) (fun K hl hD hnm C R => ?_)
  subst hl; subst hD
  have C : jC cX0_searchFrom RX0 Y rm_X0_searchFrom 9 K := C
  have R : jR Y (some .int) 0 0 (jI (fun r w => ∃ fo1 ds1 q1 s1 qu1 to1, r = nI fo1 ∧ bfI (P ^ N) P (nbC P N ru cb al bw) og (h + 1) fo1 ds1 q1 ∧ stR (P ^ N) s1 ds1 ∧ quR fo1 qu1 q1 ∧ w = (wA Y ad (nI P) (nI N) (bi ru) nw tg mc me (fun d => nI (P ^ d)) (fun d => bi (cb d)) (fun k => bi (al k)) tr to1 s1 se qu1 sp))) K := R
  refine j_eq (lo' := [some (.ref (ad 0)), some (.int (nI x)), some (.ref (ad 6)), some (.int (bi bw)), some (.int (nI fo0)), none, none, none, none]) rfl rfl rfl ?_
  obtain ⟨hP3, hP5, hN1, hN6⟩ := id hc
  have hP0 : 0 < P := by omega
  have hp2 : P ^ N ≤ 15625 := cfg_pw hc (by omega)
  obtain ⟨dx, hdx, I0⟩ := bf_enter I hh
  rw [hqx] at I0
  have hx : x < P ^ N := by rw [← hqx]; exact I.2.1 h hh
  have hL : ∀ (to1 : Nat → Int32), tpOf P N x to1 → ∀ (m f fo : Nat) (ds : Nat → Option Nat) (q : Nat → Nat) (ss qu : Nat → Int32) (l7 l8 : Option Value), P < f + m → f ≤ P → bfX (P ^ N) P (nbC P N ru cb al bw) og h fo ds q x dx f 0 → stR (P ^ N) ss ds → quR fo qu q →
      jJ K 0 0 12 [some (.ref (ad 0)), some (.int (nI x)), some (.ref (ad 6)), some (.int (bi bw)), some (.int (nI fo0)), some (.int (nI fo)), some (.int (nI f)), l7, l8] [] (wA Y ad (nI P) (nI N) (bi ru) nw tg mc me (fun d => nI (P ^ d)) (fun d => bi (cb d)) (fun k => bi (al k)) tr to1 ss se qu sp) := by
    intro to1 hto m
    induction m with
    | zero => intro f fo ds q ss qu l7 l8 h1 h2; omega
    | succ m ih =>
      intro f fo ds q ss qu l7 l8 h1 h2 I hst hqu
      have hfo := bf_le I.1
      refine j_iload C dX0_searchFrom_12 rfl ?_
      refine j_aload_n C dX0_searchFrom_14 rfl ?_
      refine g0_pegCount C dX0_searchFrom_15 ?_
      refine jN_icmp_ge C 116 (by omega) (by omega) dX0_searchFrom_18 (by decide) (fun c_18 => ?_) (fun c_18 => ?_)
      · refine j_iload C dX0_searchFrom_116 rfl ?_
        exact j_reti C R dX0_searchFrom_118 ⟨fo, ds, q, ss, qu, to1, rfl, bf_next I c_18, hst, hqu, rfl⟩
      · refine j_iconst C (nI 0) dX0_searchFrom_21 (by decide) ?_
        refine j_istore_7 C dX0_searchFrom_22 (by decide) ?_
        have hI : ∀ (m2 t fo : Nat) (ds : Nat → Option Nat) (q : Nat → Nat) (ss qu : Nat → Int32) (l8 : Option Value), P < t + m2 → t ≤ P → bfX (P ^ N) P (nbC P N ru cb al bw) og h fo ds q x dx f t → stR (P ^ N) ss ds → quR fo qu q →
            jJ K 0 0 24 [some (.ref (ad 0)), some (.int (nI x)), some (.ref (ad 6)), some (.int (bi bw)), some (.int (nI fo0)), some (.int (nI fo)), some (.int (nI f)), some (.int (nI t)), l8] [] (wA Y ad (nI P) (nI N) (bi ru) nw tg mc me (fun d => nI (P ^ d)) (fun d => bi (cb d)) (fun k => bi (al k)) tr to1 ss se qu sp) := by
          intro m2
          induction m2 with
          | zero => intro t fo ds q ss qu l8 h3 h4; omega
          | succ m2 ih2 =>
            intro t fo ds q ss qu l8 h3 h4 I hst hqu
            have hfo := bf_le I.1
            refine j_iload C dX0_searchFrom_24 rfl ?_
            refine j_aload_n C dX0_searchFrom_26 rfl ?_
            refine g0_pegCount C dX0_searchFrom_27 ?_
            refine jN_icmp_ge C 110 (by omega) (by omega) dX0_searchFrom_30 (by decide) (fun c_30 => ?_) (fun c_30 => ?_)
            · refine j_iinc_6 C _ (nI_p1 _) dX0_searchFrom_110 ?_
              refine j_goto C 12 dX0_searchFrom_113 (by decide) ?_
              exact ih (f + 1) fo ds q ss qu _ _ (by omega) (by omega) (bf_row I c_30) hst hqu
            · refine j_aload_n C dX0_searchFrom_33 rfl ?_
              refine j_iload C dX0_searchFrom_34 rfl ?_
              refine j_iload C dX0_searchFrom_36 rfl ?_
              refine j_iload_n C dX0_searchFrom_38 rfl ?_
              refine j_callV3i C (ct_X0_isStep (P := P) (N := N) (a := x) (by omega) hto (by omega) (by omega)) gw_0_175 nd_X0_isStep 0 0 rfl rfl rfl ⟨by decide, by decide⟩ ⟨Nat.le_of_ble_eq_true rfl, Nat.le_of_ble_eq_true rfl⟩ (Nat.le_of_ble_eq_true rfl) dX0_searchFrom_39 (fun x_1 w_1 hp => ?_)
              obtain ⟨rfl, rfl⟩ := hp
              refine jB_if_eq C 104 dX0_searchFrom_42 (by decide) (fun c_42 => ?_) (fun c_42 => ?_)
              · refine j_iinc_7 C _ (nI_p1 _) dX0_searchFrom_104 ?_
                refine j_goto C 24 dX0_searchFrom_107 (by decide) ?_
                exact ih2 (t + 1) fo ds q ss qu _ (by omega) (by omega) (bf_keep I (fun y hy => by rw [nbC_f c_42] at hy; cases hy)) hst hqu
              · obtain ⟨-, d, hd, -⟩ := ftB_some (stB_ft c_42)
                have hnb := nbC_t c_42
                have hy := mv_lt (f := f) (t := t) hP0 hx (by omega)
                refine j_aload_n C dX0_searchFrom_45 rfl ?_
                refine j_iload_n C dX0_searchFrom_46 rfl ?_
                refine j_iload C dX0_searchFrom_47 rfl ?_
                refine j_iload C dX0_searchFrom_49 rfl ?_
                refine j_callV3i C (ct_X0_behindMove (d := d) (by omega) (by omega) (by omega) (by rw [hto f (by omega), hd]; rfl) (tp_lt hd) (tp_le hd)) gw_0_111 nd_X0_behindMove 0 0 rfl rfl rfl ⟨by decide, by decide⟩ ⟨Nat.le_of_ble_eq_true rfl, Nat.le_of_ble_eq_true rfl⟩ (Nat.le_of_ble_eq_true rfl) dX0_searchFrom_51 (fun x_1 w_1 hp => ?_)
                obtain ⟨rfl, rfl⟩ := hp
                refine j_top _ (nI (mv P N x f t)) (by rw [mv_some hd]) ?_
                obtain ⟨y, ey⟩ : ∃ y, y = mv P N x f t := ⟨_, rfl⟩
                rw [← ey] at hnb hy ⊢
                refine j_istore_8 C dX0_searchFrom_54 (by decide) ?_
                refine j_aload_n C dX0_searchFrom_56 rfl ?_
                refine j_iload C dX0_searchFrom_57 rfl ?_
                refine j_callV1i C (ct_X0_isNumber hc) gw_0_168 nd_X0_isNumber 0 0 rfl rfl rfl ⟨by decide, by decide⟩ ⟨Nat.le_of_ble_eq_true rfl, Nat.le_of_ble_eq_true rfl⟩ (Nat.le_of_ble_eq_true rfl) dX0_searchFrom_59 (fun x_1 w_1 hp => ?_)
                obtain ⟨rfl, rfl⟩ := hp
                refine jB_if_eq C 104 dX0_searchFrom_62 (by decide) (fun c_62 => ?_) (fun c_62 => ?_)
                · exact absurd (inr_lt hy (by omega)) (by rw [c_62]; decide)
                · refine j_aload_n C dX0_searchFrom_65 rfl ?_
                  refine j_iload C dX0_searchFrom_66 rfl ?_
                  refine l0_fa C _ rfl (by omega) dX0_searchFrom_68 ?_
                  refine j_top _ (oI (ds y)) (hst y hy) ?_
                  refine j_iconst C (-1) dX0_searchFrom_69 (by decide) ?_
                  refine j_icmp_ne C 104 dX0_searchFrom_70 (by decide) (fun c_70 => ?_) (fun c_70 => ?_)
                  · refine j_iinc_7 C _ (nI_p1 _) dX0_searchFrom_104 ?_
                    refine j_goto C 24 dX0_searchFrom_107 (by decide) ?_
                    exact ih2 (t + 1) fo ds q ss qu _ (by omega) (by omega) (bf_keep I (fun z hz => by
                      rw [hnb] at hz; cases hz
                      exact fun w => c_70 ((oI_m1 (fun j hj => bf_dlt I.1 (by omega) _ j hj)).mpr w))) hst hqu
                  · refine j_iload C dX0_searchFrom_73 rfl ?_
                    refine j_aload_n C dX0_searchFrom_75 rfl ?_
                    refine g0_queue C dX0_searchFrom_76 ?_
                    refine n0_qu C dX0_searchFrom_79 ?_
                    refine jN_icmp_ge C 104 (by have := bf_le I.1; omega) (by omega) dX0_searchFrom_80 (by decide) (fun c_80 => ?_) (fun c_80 => ?_)
                    · exact absurd (bf_room I.1 hy ((oI_m1 (fun j hj => bf_dlt I.1 (by omega) y j hj)).mp c_70)) (by omega)
                    · refine j_aload_n C dX0_searchFrom_83 rfl ?_
                      refine j_iload C dX0_searchFrom_84 rfl ?_
                      refine j_aload_n C dX0_searchFrom_86 rfl ?_
                      refine j_iload_n C dX0_searchFrom_87 rfl ?_
                      refine l0_fa C _ rfl (by omega) dX0_searchFrom_88 ?_
                      refine j_top _ (nI dx) (by rw [hst x hx, I.2.2.2.1]; rfl) ?_
                      refine j_iconst C (nI 1) dX0_searchFrom_89 (by decide) ?_
                      refine j_iadd C dX0_searchFrom_90 ?_
                      refine j_top _ _ (nI_add _ _) ?_
                      refine s0_fa C _ rfl (by omega) dX0_searchFrom_91 ?_
                      refine j_aload_n C dX0_searchFrom_92 rfl ?_
                      refine g0_queue C dX0_searchFrom_93 ?_
                      refine j_iload C dX0_searchFrom_96 rfl ?_
                      refine j_iload C dX0_searchFrom_98 rfl ?_
                      refine s0_qu C _ rfl (by have := bf_room I.1 hy ((oI_m1 (fun j hj => bf_dlt I.1 (by omega) y j hj)).mp c_70); omega) dX0_searchFrom_100 ?_
                      refine j_iinc_5 C _ (nI_p1 _) dX0_searchFrom_101 ?_
                      refine j_iinc_7 C _ (nI_p1 _) dX0_searchFrom_104 ?_
                      refine j_goto C 24 dX0_searchFrom_107 (by decide) ?_
                      exact ih2 (t + 1) (fo + 1) _ _ _ _ _ (by omega) (by omega) (bf_add I (by omega) (by omega) hnb hy ((oI_m1 (fun j hj => bf_dlt I.1 (by omega) y j hj)).mp c_70)) (stR_up hst) (quR_up hqu)
        exact hI (P + 1) 0 fo ds q ss qu l8 (by omega) (by omega) I hst hqu
  refine j_iload C dX0_searchFrom_0 rfl ?_
  refine j_istore_5 C dX0_searchFrom_2 (by decide) ?_
  refine j_aload_n C dX0_searchFrom_4 rfl ?_
  refine j_iload_n C dX0_searchFrom_5 rfl ?_
  refine j_callV1v C (ct_X0_readTops hc (by omega)) gw_0_120 nd_X0_readTops 0 0 rfl rfl rfl ⟨by decide, by decide⟩ ⟨Nat.le_of_ble_eq_true rfl, Nat.le_of_ble_eq_true rfl⟩ (Nat.le_of_ble_eq_true rfl) dX0_searchFrom_6 (fun w_1 hp => ?_)
  obtain ⟨to1, hto, rfl⟩ := hp
  refine j_iconst C (nI 0) dX0_searchFrom_9 (by decide) ?_
  refine j_istore_6 C dX0_searchFrom_10 (by decide) ?_
  exact hL to1 hto (P + 1) 0 fo0 ds q ss qu _ _ (by omega) (by omega) I0 hst hqu
set_option maxHeartbeats 4000000 in
set_option maxRecDepth 100000 in
theorem ct_X0_searchFrom_s2 {l : Launch} {D : va_G} {Y : jy_T} {ad : Nat → Nat} {P N og h fo0 x : Nat} {ru bw : Bool} {cb al : Nat → Bool} {ds : Nat → Option Nat} {q : Nat → Nat} {ss : Nat → Int32} {nw tg mc me : Int32} {tr to fa qu sp : Nat → Int32} (hc : cfg P N) (I : bfI (P ^ N) P (nbC P N ru cb al bw) og h fo0 ds q) (hh : h < fo0) (hqx : q h = x) (hst : stR (P ^ N) ss ds) (hqu : quR fo0 qu q) :
    MJ l yX0_searchFrom cX0_searchFrom 9 (some .int) rm_X0_searchFrom D Y [.ref (ad 0), .int (nI x), .ref (ad 7), .int (bi bw), .int (nI fo0)] (wA Y ad (nI P) (nI N) (bi ru) nw tg mc me (fun d => nI (P ^ d)) (fun d => bi (cb d)) (fun k => bi (al k)) tr to fa ss qu sp) (jI (fun r w => ∃ fo1 ds1 q1 s1 qu1 to1, r = nI fo1 ∧ bfI (P ^ N) P (nbC P N ru cb al bw) og (h + 1) fo1 ds1 q1 ∧ stR (P ^ N) s1 ds1 ∧ quR fo1 qu1 q1 ∧ w = (wA Y ad (nI P) (nI N) (bi ru) nw tg mc me (fun d => nI (P ^ d)) (fun d => bi (cb d)) (fun k => bi (al k)) tr to1 fa s1 qu1 sp))) := by
  refine j_enter (by decide) (Nat.le_of_ble_eq_true rfl) (fun v hv => by simp only [List.mem_cons, List.not_mem_nil, or_false] at hv; rcases hv with rfl | rfl | rfl | rfl | rfl <;> rfl) (fun K hl hD hnm C R => ?_)
  subst hl; subst hD
  have C : jC cX0_searchFrom RX0 Y rm_X0_searchFrom 9 K := C
  have R : jR Y (some .int) 0 0 (jI (fun r w => ∃ fo1 ds1 q1 s1 qu1 to1, r = nI fo1 ∧ bfI (P ^ N) P (nbC P N ru cb al bw) og (h + 1) fo1 ds1 q1 ∧ stR (P ^ N) s1 ds1 ∧ quR fo1 qu1 q1 ∧ w = (wA Y ad (nI P) (nI N) (bi ru) nw tg mc me (fun d => nI (P ^ d)) (fun d => bi (cb d)) (fun k => bi (al k)) tr to1 fa s1 qu1 sp))) K := R
  refine j_eq (lo' := [some (.ref (ad 0)), some (.int (nI x)), some (.ref (ad 7)), some (.int (bi bw)), some (.int (nI fo0)), none, none, none, none]) rfl rfl rfl ?_
  obtain ⟨hP3, hP5, hN1, hN6⟩ := id hc
  have hP0 : 0 < P := by omega
  have hp2 : P ^ N ≤ 15625 := cfg_pw hc (by omega)
  obtain ⟨dx, hdx, I0⟩ := bf_enter I hh
  rw [hqx] at I0
  have hx : x < P ^ N := by rw [← hqx]; exact I.2.1 h hh
  have hL : ∀ (to1 : Nat → Int32), tpOf P N x to1 → ∀ (m f fo : Nat) (ds : Nat → Option Nat) (q : Nat → Nat) (ss qu : Nat → Int32) (l7 l8 : Option Value), P < f + m → f ≤ P → bfX (P ^ N) P (nbC P N ru cb al bw) og h fo ds q x dx f 0 → stR (P ^ N) ss ds → quR fo qu q →
      jJ K 0 0 12 [some (.ref (ad 0)), some (.int (nI x)), some (.ref (ad 7)), some (.int (bi bw)), some (.int (nI fo0)), some (.int (nI fo)), some (.int (nI f)), l7, l8] [] (wA Y ad (nI P) (nI N) (bi ru) nw tg mc me (fun d => nI (P ^ d)) (fun d => bi (cb d)) (fun k => bi (al k)) tr to1 fa ss qu sp) := by
    intro to1 hto m
    induction m with
    | zero => intro f fo ds q ss qu l7 l8 h1 h2; omega
    | succ m ih =>
      intro f fo ds q ss qu l7 l8 h1 h2 I hst hqu
      have hfo := bf_le I.1
      refine j_iload C dX0_searchFrom_12 rfl ?_
      refine j_aload_n C dX0_searchFrom_14 rfl ?_
      refine g0_pegCount C dX0_searchFrom_15 ?_
      refine jN_icmp_ge C 116 (by omega) (by omega) dX0_searchFrom_18 (by decide) (fun c_18 => ?_) (fun c_18 => ?_)
      · refine j_iload C dX0_searchFrom_116 rfl ?_
        exact j_reti C R dX0_searchFrom_118 ⟨fo, ds, q, ss, qu, to1, rfl, bf_next I c_18, hst, hqu, rfl⟩
      · refine j_iconst C (nI 0) dX0_searchFrom_21 (by decide) ?_
        refine j_istore_7 C dX0_searchFrom_22 (by decide) ?_
        have hI : ∀ (m2 t fo : Nat) (ds : Nat → Option Nat) (q : Nat → Nat) (ss qu : Nat → Int32) (l8 : Option Value), P < t + m2 → t ≤ P → bfX (P ^ N) P (nbC P N ru cb al bw) og h fo ds q x dx f t → stR (P ^ N) ss ds → quR fo qu q →
            jJ K 0 0 24 [some (.ref (ad 0)), some (.int (nI x)), some (.ref (ad 7)), some (.int (bi bw)), some (.int (nI fo0)), some (.int (nI fo)), some (.int (nI f)), some (.int (nI t)), l8] [] (wA Y ad (nI P) (nI N) (bi ru) nw tg mc me (fun d => nI (P ^ d)) (fun d => bi (cb d)) (fun k => bi (al k)) tr to1 fa ss qu sp) := by
          intro m2
          induction m2 with
          | zero => intro t fo ds q ss qu l8 h3 h4; omega
          | succ m2 ih2 =>
            intro t fo ds q ss qu l8 h3 h4 I hst hqu
            have hfo := bf_le I.1
            refine j_iload C dX0_searchFrom_24 rfl ?_
            refine j_aload_n C dX0_searchFrom_26 rfl ?_
            refine g0_pegCount C dX0_searchFrom_27 ?_
            refine jN_icmp_ge C 110 (by omega) (by omega) dX0_searchFrom_30 (by decide) (fun c_30 => ?_) (fun c_30 => ?_)
            · refine j_iinc_6 C _ (nI_p1 _) dX0_searchFrom_110 ?_
              refine j_goto C 12 dX0_searchFrom_113 (by decide) ?_
              exact ih (f + 1) fo ds q ss qu _ _ (by omega) (by omega) (bf_row I c_30) hst hqu
            · refine j_aload_n C dX0_searchFrom_33 rfl ?_
              refine j_iload C dX0_searchFrom_34 rfl ?_
              refine j_iload C dX0_searchFrom_36 rfl ?_
              refine j_iload_n C dX0_searchFrom_38 rfl ?_
              refine j_callV3i C (ct_X0_isStep (P := P) (N := N) (a := x) (by omega) hto (by omega) (by omega)) gw_0_175 nd_X0_isStep 0 0 rfl rfl rfl ⟨by decide, by decide⟩ ⟨Nat.le_of_ble_eq_true rfl, Nat.le_of_ble_eq_true rfl⟩ (Nat.le_of_ble_eq_true rfl) dX0_searchFrom_39 (fun x_1 w_1 hp => ?_)
              obtain ⟨rfl, rfl⟩ := hp
              refine jB_if_eq C 104 dX0_searchFrom_42 (by decide) (fun c_42 => ?_) (fun c_42 => ?_)
              · refine j_iinc_7 C _ (nI_p1 _) dX0_searchFrom_104 ?_
                refine j_goto C 24 dX0_searchFrom_107 (by decide) ?_
                exact ih2 (t + 1) fo ds q ss qu _ (by omega) (by omega) (bf_keep I (fun y hy => by rw [nbC_f c_42] at hy; cases hy)) hst hqu
              · obtain ⟨-, d, hd, -⟩ := ftB_some (stB_ft c_42)
                have hnb := nbC_t c_42
                have hy := mv_lt (f := f) (t := t) hP0 hx (by omega)
                refine j_aload_n C dX0_searchFrom_45 rfl ?_
                refine j_iload_n C dX0_searchFrom_46 rfl ?_
                refine j_iload C dX0_searchFrom_47 rfl ?_
                refine j_iload C dX0_searchFrom_49 rfl ?_
                refine j_callV3i C (ct_X0_behindMove (d := d) (by omega) (by omega) (by omega) (by rw [hto f (by omega), hd]; rfl) (tp_lt hd) (tp_le hd)) gw_0_111 nd_X0_behindMove 0 0 rfl rfl rfl ⟨by decide, by decide⟩ ⟨Nat.le_of_ble_eq_true rfl, Nat.le_of_ble_eq_true rfl⟩ (Nat.le_of_ble_eq_true rfl) dX0_searchFrom_51 (fun x_1 w_1 hp => ?_)
                obtain ⟨rfl, rfl⟩ := hp
                refine j_top _ (nI (mv P N x f t)) (by rw [mv_some hd]) ?_
                obtain ⟨y, ey⟩ : ∃ y, y = mv P N x f t := ⟨_, rfl⟩
                rw [← ey] at hnb hy ⊢
                refine j_istore_8 C dX0_searchFrom_54 (by decide) ?_
                refine j_aload_n C dX0_searchFrom_56 rfl ?_
                refine j_iload C dX0_searchFrom_57 rfl ?_
                refine j_callV1i C (ct_X0_isNumber hc) gw_0_168 nd_X0_isNumber 0 0 rfl rfl rfl ⟨by decide, by decide⟩ ⟨Nat.le_of_ble_eq_true rfl, Nat.le_of_ble_eq_true rfl⟩ (Nat.le_of_ble_eq_true rfl) dX0_searchFrom_59 (fun x_1 w_1 hp => ?_)
                obtain ⟨rfl, rfl⟩ := hp
                refine jB_if_eq C 104 dX0_searchFrom_62 (by decide) (fun c_62 => ?_) (fun c_62 => ?_)
                · exact absurd (inr_lt hy (by omega)) (by rw [c_62]; decide)
                · refine j_aload_n C dX0_searchFrom_65 rfl ?_
                  refine j_iload C dX0_searchFrom_66 rfl ?_
                  refine l0_se C _ rfl (by omega) dX0_searchFrom_68 ?_
                  refine j_top _ (oI (ds y)) (hst y hy) ?_
                  refine j_iconst C (-1) dX0_searchFrom_69 (by decide) ?_
                  refine j_icmp_ne C 104 dX0_searchFrom_70 (by decide) (fun c_70 => ?_) (fun c_70 => ?_)
                  · refine j_iinc_7 C _ (nI_p1 _) dX0_searchFrom_104 ?_
                    refine j_goto C 24 dX0_searchFrom_107 (by decide) ?_
                    exact ih2 (t + 1) fo ds q ss qu _ (by omega) (by omega) (bf_keep I (fun z hz => by
                      rw [hnb] at hz; cases hz
                      exact fun w => c_70 ((oI_m1 (fun j hj => bf_dlt I.1 (by omega) _ j hj)).mpr w))) hst hqu
                  · refine j_iload C dX0_searchFrom_73 rfl ?_
                    refine j_aload_n C dX0_searchFrom_75 rfl ?_
                    refine g0_queue C dX0_searchFrom_76 ?_
                    refine n0_qu C dX0_searchFrom_79 ?_
                    refine jN_icmp_ge C 104 (by have := bf_le I.1; omega) (by omega) dX0_searchFrom_80 (by decide) (fun c_80 => ?_) (fun c_80 => ?_)
                    · exact absurd (bf_room I.1 hy ((oI_m1 (fun j hj => bf_dlt I.1 (by omega) y j hj)).mp c_70)) (by omega)
                    · refine j_aload_n C dX0_searchFrom_83 rfl ?_
                      refine j_iload C dX0_searchFrom_84 rfl ?_
                      refine j_aload_n C dX0_searchFrom_86 rfl ?_
                      refine j_iload_n C dX0_searchFrom_87 rfl ?_
                      refine l0_se C _ rfl (by omega) dX0_searchFrom_88 ?_
                      refine j_top _ (nI dx) (by rw [hst x hx, I.2.2.2.1]; rfl) ?_
                      refine j_iconst C (nI 1) dX0_searchFrom_89 (by decide) ?_
                      refine j_iadd C dX0_searchFrom_90 ?_
                      refine j_top _ _ (nI_add _ _) ?_
                      refine s0_se C _ rfl (by omega) dX0_searchFrom_91 ?_
                      refine j_aload_n C dX0_searchFrom_92 rfl ?_
                      refine g0_queue C dX0_searchFrom_93 ?_
                      refine j_iload C dX0_searchFrom_96 rfl ?_
                      refine j_iload C dX0_searchFrom_98 rfl ?_
                      refine s0_qu C _ rfl (by have := bf_room I.1 hy ((oI_m1 (fun j hj => bf_dlt I.1 (by omega) y j hj)).mp c_70); omega) dX0_searchFrom_100 ?_
                      refine j_iinc_5 C _ (nI_p1 _) dX0_searchFrom_101 ?_
                      refine j_iinc_7 C _ (nI_p1 _) dX0_searchFrom_104 ?_
                      refine j_goto C 24 dX0_searchFrom_107 (by decide) ?_
                      exact ih2 (t + 1) (fo + 1) _ _ _ _ _ (by omega) (by omega) (bf_add I (by omega) (by omega) hnb hy ((oI_m1 (fun j hj => bf_dlt I.1 (by omega) y j hj)).mp c_70)) (stR_up hst) (quR_up hqu)
        exact hI (P + 1) 0 fo ds q ss qu l8 (by omega) (by omega) I hst hqu
  refine j_iload C dX0_searchFrom_0 rfl ?_
  refine j_istore_5 C dX0_searchFrom_2 (by decide) ?_
  refine j_aload_n C dX0_searchFrom_4 rfl ?_
  refine j_iload_n C dX0_searchFrom_5 rfl ?_
  refine j_callV1v C (ct_X0_readTops hc (by omega)) gw_0_120 nd_X0_readTops 0 0 rfl rfl rfl ⟨by decide, by decide⟩ ⟨Nat.le_of_ble_eq_true rfl, Nat.le_of_ble_eq_true rfl⟩ (Nat.le_of_ble_eq_true rfl) dX0_searchFrom_6 (fun w_1 hp => ?_)
  obtain ⟨to1, hto, rfl⟩ := hp
  refine j_iconst C (nI 0) dX0_searchFrom_9 (by decide) ?_
  refine j_istore_6 C dX0_searchFrom_10 (by decide) ?_
  exact hL to1 hto (P + 1) 0 fo0 ds q ss qu _ _ (by omega) (by omega) I0 hst hqu
