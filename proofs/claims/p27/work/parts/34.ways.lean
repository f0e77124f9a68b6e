/-- what a search from o tells: nothing from an unlawful one -/
def srD (M P : Nat) (nb : nb_T) (o : Nat) (law : Bool) (ds : Nat → Option Nat) : Prop := (∀ y d, ds y = some d → y < M ∧ d < M) ∧ ((law = true ∧ isDs (eg P nb) o ds) ∨ (law = false ∧ ∀ y, ds y = none))
def srF (M P : Nat) (nb : nb_T) (o : Nat) (law : Bool) (fo : Nat) (ds : Nat → Option Nat) : Prop := (law = true ∧ ∃ q, bfI M P nb o fo fo ds q) ∨ (law = false ∧ fo = 0 ∧ ∀ y, ds y = none)
theorem srF_D {M P : Nat} {nb : nb_T} {o fo : Nat} {law : Bool} {ds : Nat → Option Nat} (h : srF M P nb o law fo ds) : srD M P nb o law ds := by
  rcases h with ⟨h1, q, I⟩ | ⟨h1, -, h2⟩
  · refine ⟨fun y d hd => ?_, Or.inl ⟨h1, bf_end I⟩⟩
    obtain ⟨i, hi, rfl⟩ := I.2.2.2.1 y (by rw [hd]; simp)
    obtain ⟨e, h3, h4, -⟩ := I.2.2.1 i hi
    rw [hd] at h3; cases h3
    have := bf_le I
    exact ⟨I.2.1 i hi, by omega⟩
  · exact ⟨fun y d hd => (by rw [h2 y] at hd; cases hd), Or.inr ⟨h1, h2⟩⟩
theorem srD_lt {M P : Nat} {nb : nb_T} {o : Nat} {law : Bool} {ds : Nat → Option Nat} (h : srD M P nb o law ds) (hM : M ≤ 15625) (y : Nat) : ∀ j, ds y = some j → j < 2 ^ 31 := fun j hj => by
  have := (h.1 y j hj).2
  omega
abbrev rm_X0_search : Room := { frames := 3, cells := 0, slots := 0, locals := 76 }
set_option maxHeartbeats 4000000 in
set_option maxRecDepth 100000 in
theorem ct_X0_search_f1 {l : Launch} {D : va_G} {Y : jy_T} {ad : Nat → Nat} {P N og : Nat} {ru bw : Bool} {cb al : Nat → Bool} {ss : Nat → Int32} {nw tg mc me : Int32} {tr to se qu sp : Nat → Int32} (hc : cfg P N) (ho : og < P ^ N) :
    MJ l yX0_search cX0_search 6 (some .int) rm_X0_search D Y [.ref (ad 0), .int (nI og), .ref (ad 6), .int (bi bw)] (wA Y ad (nI P) (nI N) (bi ru) nw tg mc me (fun d => nI (P ^ d)) (fun d => bi (cb d)) (fun k => bi (al k)) tr to ss se qu sp) (jI (fun r w => ∃ fo1 ds1 s1 qu1 to1, r = nI fo1 ∧ srF (P ^ N) P (nbC P N ru cb al bw) og (lawB P N ru cb og) fo1 ds1 ∧ stR (P ^ N) s1 ds1 ∧ w = (wA Y ad (nI P) (nI N) (bi ru) nw tg mc me (fun d => nI (P ^ d)) (fun d => bi (cb d)) (fun k => bi (al k)) tr to1 s1 se qu1 sp))) := by
  refine j_enter (by decide) (Nat.le_of_ble_eq_true rfl) (fun v hv => by simp only [List.mem_cons, List.not_mem_nil, or_false] at hv; rcases hv with rfl | rfl | rfl | rfl <;> rfl) (fun K hl hD hnm C R => ?_)
  subst hl; subst hD
  have C : jC cX0_search RX0 Y rm_X0_search 6 K := C
  have R : jR Y (some .int) 0 0 (jI (fun r w => ∃ fo1 ds1 s1 qu1 to1, r = nI fo1 ∧ srF (P ^ N) P (nbC P N ru cb al bw) og (lawB P N ru cb og) fo1 ds1 ∧ stR (P ^ N) s1 ds1 ∧ w = (wA Y ad (nI P) (nI N) (bi ru) nw tg mc me (fun d => nI (P ^ d)) (fun d => bi (cb d)) (fun k => bi (al k)) tr to1 s1 se qu1 sp))) K := R
  refine j_eq (lo' := [some (.ref (ad 0)), some (.int (nI og)), some (.ref (ad 6)), some (.int (bi bw)), none, none]) rfl rfl rfl ?_
  obtain ⟨hP3, hP5, hN1, hN6⟩ := id hc
  have hP0 : 0 < P := by omega
  have hp2 : P ^ N ≤ 15625 := cfg_pw hc (by omega)
  have hL2 : ∀ (m h fo : Nat) (ds : Nat → Option Nat) (q : Nat → Nat) (ss qu to : Nat → Int32), P ^ N < h + m → lawB P N ru cb og = true → bfI (P ^ N) P (nbC P N ru cb al bw) og h fo ds q → stR (P ^ N) ss ds → quR fo qu q →
      jJ K 0 0 70 [some (.ref (ad 0)), some (.int (nI og)), some (.ref (ad 6)), some (.int (bi bw)), some (.int (nI fo)), some (.int (nI h))] [] (wA Y ad (nI P) (nI N) (bi ru) nw tg mc me (fun d => nI (P ^ d)) (fun d => bi (cb d)) (fun k => bi (al k)) tr to ss se qu sp) := by
    intro m
    induction m with
    | zero => intro h fo ds q ss qu to h1 h2 I; have := I.1.1; have := bf_le I; omega
    | succ m ih =>
      intro h fo ds q ss qu to h1 hlaw I hst hqu
      refine j_iload C dX0_search_70 rfl ?_
      refine j_iload C dX0_search_72 rfl ?_
      refine jN_icmp_ge C 110 (by have := I.1.1; have := bf_le I; omega) (by have := bf_le I; omega) dX0_search_74 (by decide) (fun c_74 => ?_) (fun c_74 => ?_)
      · refine j_iload C dX0_search_110 rfl ?_
        exact j_reti C R dX0_search_112 ⟨fo, ds, ss, qu, to, rfl, Or.inl ⟨hlaw, q, by rw [show h = fo by have := I.1.1; omega] at I; exact I⟩, hst, rfl⟩
      · refine j_iload C dX0_search_77 rfl ?_
        refine j_aload_n C dX0_search_79 rfl ?_
        refine g0_queue C dX0_search_80 ?_
        refine n0_qu C dX0_search_83 ?_
        refine jN_icmp_ge C 110 (by have := bf_le I; omega) (by omega) dX0_search_84 (by decide) (fun c_84 => ?_) (fun c_84 => ?_)
        · exact absurd c_84 (by have := bf_le I; omega)
        · refine j_aload_n C dX0_search_87 rfl ?_
          refine j_aload_n C dX0_search_88 rfl ?_
          refine g0_queue C dX0_search_89 ?_
          refine j_iload C dX0_search_92 rfl ?_
          refine l0_qu C _ rfl (by have := bf_le I; omega) dX0_search_94 ?_
          refine j_top _ (nI (q h)) (hqu h c_74) ?_
          refine j_aload_n C dX0_search_95 rfl ?_
          refine j_iload_n C dX0_search_96 rfl ?_
          refine j_iload C dX0_search_97 rfl ?_
          refine j_callV4i C (ct_X0_searchFrom_f1 hc I c_74 rfl hst hqu) gw_0_171 nd_X0_searchFrom 0 0 rfl rfl rfl ⟨by decide, by decide⟩ ⟨Nat.le_of_ble_eq_true rfl, Nat.le_of_ble_eq_true rfl⟩ (Nat.le_of_ble_eq_true rfl) dX0_search_99 (fun x_1 w_1 hp => ?_)
          obtain ⟨fo1, ds1, q1, s1, qu1, to1, rfl, I1, hst1, hqu1, rfl⟩ := hp
          refine j_istore_4 C dX0_search_102 (by decide) ?_
          refine j_iinc_5 C _ (nI_p1 _) dX0_search_104 ?_
          refine j_goto C 70 dX0_search_107 (by decide) ?_
          exact ih (h + 1) fo1 ds1 q1 s1 qu1 to1 (by omega) hlaw I1 hst1 hqu1
  have hL : ∀ (m i : Nat) (ss : Nat → Int32), P ^ N < i + m → i ≤ P ^ N → (∀ y, y < i → ss y = -1) → jJ K 0 0 3 [some (.ref (ad 0)), some (.int (nI og)), some (.ref (ad 6)), some (.int (bi bw)), some (.int (nI i)), none] [] (wA Y ad (nI P) (nI N) (bi ru) nw tg mc me (fun d => nI (P ^ d)) (fun d => bi (cb d)) (fun k => bi (al k)) tr to ss se qu sp) := by
    intro m
    induction m with
    | zero => intro i ss h1 h2; omega
    | succ m ih =>
      intro i ss h1 h2 hi
      refine j_iload C dX0_search_3 rfl ?_
      refine j_aload_n C dX0_search_5 rfl ?_
      refine g0_weight C dX0_search_6 ?_
      refine j_aload_n C dX0_search_9 rfl ?_
      refine g0_diskCount C dX0_search_10 ?_
      refine l0_we C _ rfl (by omega) dX0_search_13 ?_
      refine jN_icmp_ge C 35 (by omega) (by omega) dX0_search_14 (by decide) (fun c_14 => ?_) (fun c_14 => ?_)
      · refine j_aload_n C dX0_search_35 rfl ?_
        refine j_iload_n C dX0_search_36 rfl ?_
        refine j_callV1i C (ct_X0_isNumber hc) gw_0_168 nd_X0_isNumber 0 0 rfl rfl rfl ⟨by decide, by decide⟩ ⟨Nat.le_of_ble_eq_true rfl, Nat.le_of_ble_eq_true rfl⟩ (Nat.le_of_ble_eq_true rfl) dX0_search_37 (fun x_1 w_1 hp => ?_)
        obtain ⟨rfl, rfl⟩ := hp
        refine jB_if_eq C 51 dX0_search_40 (by decide) (fun c_40 => ?_) (fun c_40 => ?_)
        · exact absurd (inr_lt ho (by omega)) (by rw [c_40]; decide)
        · refine j_aload_n C dX0_search_43 rfl ?_
          refine j_iload_n C dX0_search_44 rfl ?_
          refine j_callV1i C (ct_X0_keepsRule hc (by omega)) gw_0_124 nd_X0_keepsRule 0 0 rfl rfl rfl ⟨by decide, by decide⟩ ⟨Nat.le_of_ble_eq_true rfl, Nat.le_of_ble_eq_true rfl⟩ (Nat.le_of_ble_eq_true rfl) dX0_search_45 (fun x_1 w_1 hp => ?_)
          obtain ⟨rfl, rfl⟩ := hp
          refine jB_if_ne C 53 dX0_search_48 (by decide) (fun c_48 => ?_) (fun c_48 => ?_)
          · refine j_aload_n C dX0_search_53 rfl ?_
            refine j_iload_n C dX0_search_54 rfl ?_
            refine j_iconst C (nI 0) dX0_search_55 (by decide) ?_
            refine s0_fa C _ rfl (by omega) dX0_search_56 ?_
            refine j_aload_n C dX0_search_57 rfl ?_
            refine g0_queue C dX0_search_58 ?_
            refine j_iconst C (nI 0) dX0_search_61 (by decide) ?_
            refine j_iload_n C dX0_search_62 rfl ?_
            refine s0_qu C _ rfl (by omega) dX0_search_63 ?_
            refine j_iconst C (nI 1) dX0_search_64 (by decide) ?_
            refine j_istore_4 C dX0_search_65 (by decide) ?_
            refine j_iconst C (nI 0) dX0_search_67 (by decide) ?_
            refine j_istore_5 C dX0_search_68 (by decide) ?_
            exact hL2 (P ^ N + 1) 0 1 _ (va_up (fun _ => 0) 0 og) _ _ to (by omega) c_48 (bf_start ho up_s) (fun y hy => by
              by_cases e : y = og
              · rw [e, pk_us, up_s]; rfl
              · rw [pk_un e, up_n e]; exact hi y (by omega)) (fun j hj => by rw [show j = 0 by omega, pk_us, up_s])
          · refine j_iconst C (nI 0) dX0_search_51 (by decide) ?_
            exact j_reti C R dX0_search_52 ⟨0, fun _ => none, ss, qu, to, rfl, Or.inr ⟨c_48, rfl, fun _ => rfl⟩, fun y hy => hi y (by omega), rfl⟩
      · refine j_iload C dX0_search_17 rfl ?_
        refine j_aload_n C dX0_search_19 rfl ?_
        refine n0_fa C dX0_search_20 ?_
        refine jN_icmp_ge C 35 (by omega) (by omega) dX0_search_21 (by decide) (fun c_21 => ?_) (fun c_21 => ?_)
        · exact absurd c_21 (by omega)
        · refine j_aload_n C dX0_search_24 rfl ?_
          refine j_iload C dX0_search_25 rfl ?_
          refine j_iconst C (-1) dX0_search_27 (by decide) ?_
          refine s0_fa C _ rfl (by omega) dX0_search_28 ?_
          refine j_iinc_4 C _ (nI_p1 _) dX0_search_29 ?_
          refine j_goto C 3 dX0_search_32 (by decide) ?_
          exact ih (i + 1) (upd ss i (-1)) (by omega) (by omega) (fun y hy => by
            by_cases e : y = i
            · rw [e, pk_us]
            · rw [pk_un e]; exact hi y (by omega))
  refine j_iconst C (nI 0) dX0_search_0 (by decide) ?_
  refine j_istore_4 C dX0_search_1 (by decide) ?_
  exact hL (P ^ N + 1) 0 ss (by omega) (by omega) (fun y hy => by omega)
set_option maxHeartbeats 4000000 in
set_option maxRecDepth 100000 in
theorem ct_X0_search_s2 {l : Launch} {D : va_G} {Y : jy_T} {ad : Nat → Nat} {P N og : Nat} {ru bw : Bool} {cb al : Nat → Bool} {ss : Nat → Int32} {nw tg mc me : Int32} {tr to fa qu sp : Nat → Int32} (hc : cfg P N) (ho : og < P ^ N) :
    MJ l yX0_search cX0_search 6 (some .int) rm_X0_search D Y [.ref (ad 0), .int (nI og), .ref (ad 7), .int (bi bw)] (wA Y ad (nI P) (nI N) (bi ru) nw tg mc me (fun d => nI (P ^ d)) (fun d => bi (cb d)) (fun k => bi (al k)) tr to fa ss qu sp) (jI (fun r w => ∃ fo1 ds1 s1 qu1 to1, r = nI fo1 ∧ srF (P ^ N) P (nbC P N ru cb al bw) og (lawB P N ru cb og) fo1 ds1 ∧ stR (P ^ N) s1 ds1 ∧ w = (wA Y ad (nI P) (nI N) (bi ru) nw tg mc me (fun d => nI (P ^ d)) (fun d => bi (cb d)) (fun k => bi (al k)) tr to1 fa s1 qu1 sp))) := by
  refine j_enter (by decide) (Nat.le_of_ble_eq_true rfl) (fun v hv => by simp only [List.mem_cons, List.not_mem_nil, or_false] at hv; rcases hv with rfl | rfl | rfl | rfl <;> rfl) (fun K hl hD hnm C R => ?_)
  subst hl; subst hD
  have C : jC cX0_search RX0 Y rm_X0_search 6 K := C
  have R : jR Y (some .int) 0 0 (jI (fun r w => ∃ fo1 ds1 s1 qu1 to1, r = nI fo1 ∧ srF (P ^ N) P (nbC P N ru cb al bw) og (lawB P N ru cb og) fo1 ds1 ∧ stR (P ^ N) s1 ds1 ∧ w = (wA Y ad (nI P) (nI N) (bi ru) nw tg mc me (fun d => nI (P ^ d)) (fun d => bi (cb d)) (fun k => bi (al k)) tr to1 fa s1 qu1 sp))) K := R
  refine j_eq (lo' := [some (.ref (ad 0)), some (.int (nI og)), some (.ref (ad 7)), some (.int (bi bw)), none, none]) rfl rfl rfl ?_
  obtain ⟨hP3, hP5, hN1, hN6⟩ := id hc
  have hP0 : 0 < P := by omega
  have hp2 : P ^ N ≤ 15625 := cfg_pw hc (by omega)
  have hL2 : ∀ (m h fo : Nat) (ds : Nat → Option Nat) (q : Nat → Nat) (ss qu to : Nat → Int32), P ^ N < h + m → lawB P N ru cb og = true → bfI (P ^ N) P (nbC P N ru cb al bw) og h fo ds q → stR (P ^ N) ss ds → quR fo qu q →
      jJ K 0 0 70 [some (.ref (ad 0)), some (.int (nI og)), some (.ref (ad 7)), some (.int (bi bw)), some (.int (nI fo)), some (.int (nI h))] [] (wA Y ad (nI P) (nI N) (bi ru) nw tg mc me (fun d => nI (P ^ d)) (fun d => bi (cb d)) (fun k => bi (al k)) tr to fa ss qu sp) := by
    intro m
    induction m with
    | zero => intro h fo ds q ss qu to h1 h2 I; have := I.1.1; have := bf_le I; omega
    | succ m ih =>
      intro h fo ds q ss qu to h1 hlaw I hst hqu
      refine j_iload C dX0_search_70 rfl ?_
      refine j_iload C dX0_search_72 rfl ?_
      refine jN_icmp_ge C 110 (by have := I.1.1; have := bf_le I; omega) (by have := bf_le I; omega) dX0_search_74 (by decide) (fun c_74 => ?_) (fun c_74 => ?_)
      · refine j_iload C dX0_search_110 rfl ?_
        exact j_reti C R dX0_search_112 ⟨fo, ds, ss, qu, to, rfl, Or.inl ⟨hlaw, q, by rw [show h = fo by have := I.1.1; omega] at I; exact I⟩, hst, rfl⟩
      · refine j_iload C dX0_search_77 rfl ?_
        refine j_aload_n C dX0_search_79 rfl ?_
        refine g0_queue C dX0_search_80 ?_
        refine n0_qu C dX0_search_83 ?_
        refine jN_icmp_ge C 110 (by have := bf_le I; omega) (by omega) dX0_search_84 (by decide) (fun c_84 => ?_) (fun c_84 => ?_)
        · exact absurd c_84 (by have := bf_le I; omega)
        · refine j_aload_n C dX0_search_87 rfl ?_
          refine j_aload_n C dX0_search_88 rfl ?_
          refine g0_queue C dX0_search_89 ?_
          refine j_iload C dX0_search_92 rfl ?_
          refine l0_qu C _ rfl (by have := bf_le I; omega) dX0_search_94 ?_
          refine j_top _ (nI (q h)) (hqu h c_74) ?_
          refine j_aload_n C dX0_search_95 rfl ?_
          refine j_iload_n C dX0_search_96 rfl ?_
          refine j_iload C dX0_search_97 rfl ?_
          refine j_callV4i C (ct_X0_searchFrom_s2 hc I c_74 rfl hst hqu) gw_0_171 nd_X0_searchFrom 0 0 rfl rfl rfl ⟨by decide, by decide⟩ ⟨Nat.le_of_ble_eq_true rfl, Nat.le_of_ble_eq_true rfl⟩ (Nat.le_of_ble_eq_true rfl) dX0_search_99 (fun x_1 w_1 hp => ?_)
          obtain ⟨fo1, ds1, q1, s1, qu1, to1, rfl, I1, hst1, hqu1, rfl⟩ := hp
          refine j_istore_4 C dX0_search_102 (by decide) ?_
          refine j_iinc_5 C _ (nI_p1 _) dX0_search_104 ?_
          refine j_goto C 70 dX0_search_107 (by decide) ?_
          exact ih (h + 1) fo1 ds1 q1 s1 qu1 to1 (by omega) hlaw I1 hst1 hqu1
  have hL : ∀ (m i : Nat) (ss : Nat → Int32), P ^ N < i + m → i ≤ P ^ N → (∀ y, y < i → ss y = -1) → jJ K 0 0 3 [some (.ref (ad 0)), some (.int (nI og)), some (.ref (ad 7)), some (.int (bi bw)), some (.int (nI i)), none] [] (wA Y ad (nI P) (nI N) (bi ru) nw tg mc me (fun d => nI (P ^ d)) (fun d => bi (cb d)) (fun k => bi (al k)) tr to fa ss qu sp) := by
    intro m
    induction m with
    | zero => intro i ss h1 h2; omega
    | succ m ih =>
      intro i ss h1 h2 hi
      refine j_iload C dX0_search_3 rfl ?_
      refine j_aload_n C dX0_search_5 rfl ?_
      refine g0_weight C dX0_search_6 ?_
      refine j_aload_n C dX0_search_9 rfl ?_
      refine g0_diskCount C dX0_search_10 ?_
      refine l0_we C _ rfl (by omega) dX0_search_13 ?_
      refine jN_icmp_ge C 35 (by omega) (by omega) dX0_search_14 (by decide) (fun c_14 => ?_) (fun c_14 => ?_)
      · refine j_aload_n C dX0_search_35 rfl ?_
        refine j_iload_n C dX0_search_36 rfl ?_
        refine j_callV1i C (ct_X0_isNumber hc) gw_0_168 nd_X0_isNumber 0 0 rfl rfl rfl ⟨by decide, by decide⟩ ⟨Nat.le_of_ble_eq_true rfl, Nat.le_of_ble_eq_true rfl⟩ (Nat.le_of_ble_eq_true rfl) dX0_search_37 (fun x_1 w_1 hp => ?_)
        obtain ⟨rfl, rfl⟩ := hp
        refine jB_if_eq C 51 dX0_search_40 (by decide) (fun c_40 => ?_) (fun c_40 => ?_)
        · exact absurd (inr_lt ho (by omega)) (by rw [c_40]; decide)
        · refine j_aload_n C dX0_search_43 rfl ?_
          refine j_iload_n C dX0_search_44 rfl ?_
          refine j_callV1i C (ct_X0_keepsRule hc (by omega)) gw_0_124 nd_X0_keepsRule 0 0 rfl rfl rfl ⟨by decide, by decide⟩ ⟨Nat.le_of_ble_eq_true rfl, Nat.le_of_ble_eq_true rfl⟩ (Nat.le_of_ble_eq_true rfl) dX0_search_45 (fun x_1 w_1 hp => ?_)
          obtain ⟨rfl, rfl⟩ := hp
          refine jB_if_ne C 53 dX0_search_48 (by decide) (fun c_48 => ?_) (fun c_48 => ?_)
          · refine j_aload_n C dX0_search_53 rfl ?_
            refine j_iload_n C dX0_search_54 rfl ?_
            refine j_iconst C (nI 0) dX0_search_55 (by decide) ?_
            refine s0_se C _ rfl (by omega) dX0_search_56 ?_
            refine j_aload_n C dX0_search_57 rfl ?_
            refine g0_queue C dX0_search_58 ?_
            refine j_iconst C (nI 0) dX0_search_61 (by decide) ?_
            refine j_iload_n C dX0_search_62 rfl ?_
            refine s0_qu C _ rfl (by omega) dX0_search_63 ?_
            refine j_iconst C (nI 1) dX0_search_64 (by decide) ?_
            refine j_istore_4 C dX0_search_65 (by decide) ?_
            refine j_iconst C (nI 0) dX0_search_67 (by decide) ?_
            refine j_istore_5 C dX0_search_68 (by decide) ?_
            exact hL2 (P ^ N + 1) 0 1 _ (va_up (fun _ => 0) 0 og) _ _ to (by omega) c_48 (bf_start ho up_s) (fun y hy => by
              by_cases e : y = og
              · rw [e, pk_us, up_s]; rfl
              · rw [pk_un e, up_n e]; exact hi y (by omega)) (fun j hj => by rw [show j = 0 by omega, pk_us, up_s])
          · refine j_iconst C (nI 0) dX0_search_51 (by decide) ?_
            exact j_reti C R dX0_search_52 ⟨0, fun _ => none, ss, qu, to, rfl, Or.inr ⟨c_48, rfl, fun _ => rfl⟩, fun y hy => hi y (by omega), rfl⟩
      · refine j_iload C dX0_search_17 rfl ?_
        refine j_aload_n C dX0_search_19 rfl ?_
        refine n0_se C dX0_search_20 ?_
        refine jN_icmp_ge C 35 (by omega) (by omega) dX0_search_21 (by decide) (fun c_21 => ?_) (fun c_21 => ?_)
        · exact absurd c_21 (by omega)
        · refine j_aload_n C dX0_search_24 rfl ?_
          refine j_iload C dX0_search_25 rfl ?_
          refine j_iconst C (-1) dX0_search_27 (by decide) ?_
          refine s0_se C _ rfl (by omega) dX0_search_28 ?_
          refine j_iinc_4 C _ (nI_p1 _) dX0_search_29 ?_
          refine j_goto C 3 dX0_search_32 (by decide) ?_
          exact ih (i + 1) (upd ss i (-1)) (by omega) (by omega) (fun y hy => by
            by_cases e : y = i
            · rw [e, pk_us]
            · rw [pk_un e]; exact hi y (by omega))
  refine j_iconst C (nI 0) dX0_search_0 (by decide) ?_
  refine j_istore_4 C dX0_search_1 (by decide) ?_
  exact hL (P ^ N + 1) 0 ss (by omega) (by omega) (fun y hy => by omega)
/-- the row far holds the ways to the goal b -/
def farOk (P N : Nat) (ru : Bool) (cb al : Nat → Bool) (b : Nat) (fa : Nat → Int32) : Prop := ∃ ds, srD (P ^ N) P (nbC P N ru cb al true) b (lawB P N ru cb b) ds ∧ stR (P ^ N) fa ds
abbrev rm_X0_wayFrom : Room := { frames := 4, cells := 0, slots := 0, locals := 101 }
set_option maxHeartbeats 4000000 in
set_option maxRecDepth 100000 in
theorem ct_X0_wayFrom {l : Launch} {D : va_G} {Y : jy_T} {ad : Nat → Nat} {P N b x : Nat} {ru me : Bool} {cb al : Nat → Bool} {nw mc : Int32} {tr to fa se qu sp : Nat → Int32} (hc : cfg P N) (hb : b < P ^ N) (hx : x < P ^ N) (hm : me = true → farOk P N ru cb al b fa) :
    MJ l yX0_wayFrom cX0_wayFrom 2 (some .int) rm_X0_wayFrom D Y [.ref (ad 0), .int (nI x)] (wA Y ad (nI P) (nI N) (bi ru) nw (nI b) mc (bi me) (fun d => nI (P ^ d)) (fun d => bi (cb d)) (fun k => bi (al k)) tr to fa se qu sp) (jI (fun r w => ∃ ds1 fa1 qu1 to1, r = oI (ds1 x) ∧ srD (P ^ N) P (nbC P N ru cb al true) b (lawB P N ru cb b) ds1 ∧ stR (P ^ N) fa1 ds1 ∧ w = (wA Y ad (nI P) (nI N) (bi ru) nw (nI b) mc (bi true) (fun d => nI (P ^ d)) (fun d => bi (cb d)) (fun k => bi (al k)) tr to1 fa1 se qu1 sp))) := by
  refine j_enter (by decide) (Nat.le_of_ble_eq_true rfl) (fun v hv => by simp only [List.mem_cons, List.not_mem_nil, or_false] at hv; rcases hv with rfl | rfl <;> rfl) (fun K hl hD hnm C R => ?_)
  subst hl; subst hD
  have C : jC cX0_wayFrom RX0 Y rm_X0_wayFrom 2 K := C
  have R : jR Y (some .int) 0 0 (jI (fun r w => ∃ ds1 fa1 qu1 to1, r = oI (ds1 x) ∧ srD (P ^ N) P (nbC P N ru cb al true) b (lawB P N ru cb b) ds1 ∧ stR (P ^ N) fa1 ds1 ∧ w = (wA Y ad (nI P) (nI N) (bi ru) nw (nI b) mc (bi true) (fun d => nI (P ^ d)) (fun d => bi (cb d)) (fun k => bi (al k)) tr to1 fa1 se qu1 sp))) K := R
  refine j_eq (lo' := [some (.ref (ad 0)), some (.int (nI x))]) rfl rfl rfl ?_
  obtain ⟨hP3, hP5, hN1, hN6⟩ := id hc
  have hp2 : P ^ N ≤ 15625 := cfg_pw hc (by omega)
  have hT : ∀ (ds1 : Nat → Option Nat) (fa qu to : Nat → Int32), srD (P ^ N) P (nbC P N ru cb al true) b (lawB P N ru cb b) ds1 → stR (P ^ N) fa ds1 → jJ K 0 0 26 [some (.ref (ad 0)), some (.int (nI x))] [] (wA Y ad (nI P) (nI N) (bi ru) nw (nI b) mc (bi true) (fun d => nI (P ^ d)) (fun d => bi (cb d)) (fun k => bi (al k)) tr to fa se qu sp) := by
    intro ds1 fa qu to hsr hst1
    refine j_aload_n C dX0_wayFrom_26 rfl ?_
    refine j_iload_n C dX0_wayFrom_27 rfl ?_
    refine j_callV1i C (ct_X0_isNumber hc) gw_0_168 nd_X0_isNumber 0 0 rfl rfl rfl ⟨by decide, by decide⟩ ⟨Nat.le_of_ble_eq_true rfl, Nat.le_of_ble_eq_true rfl⟩ (Nat.le_of_ble_eq_true rfl) dX0_wayFrom_28 (fun x_1 w_1 hp => ?_)
    obtain ⟨rfl, rfl⟩ := hp
    refine jB_if_eq C 43 dX0_wayFrom_31 (by decide) (fun c_31 => ?_) (fun c_31 => ?_)
    · exact absurd (inr_lt hx (by omega)) (by rw [c_31]; decide)
    · refine j_aload_n C dX0_wayFrom_34 rfl ?_
      refine g0_far C dX0_wayFrom_35 ?_
      refine j_iload_n C dX0_wayFrom_38 rfl ?_
      refine l0_fa C _ rfl (by omega) dX0_wayFrom_39 ?_
      refine j_top _ (oI (ds1 x)) (hst1 x hx) ?_
      refine j_goto C 44 dX0_wayFrom_40 (by decide) ?_
      exact j_reti C R dX0_wayFrom_44 ⟨ds1, fa, qu, to, rfl, hsr, hst1, rfl⟩
  refine j_aload_n C dX0_wayFrom_0 rfl ?_
  refine g0_measured C dX0_wayFrom_1 ?_
  refine jB_if_ne C 26 dX0_wayFrom_4 (by decide) (fun c_4 => ?_) (fun c_4 => ?_)
  · subst c_4
    obtain ⟨ds1, hsr, hst1⟩ := hm rfl
    exact hT ds1 fa qu to hsr hst1
  · refine j_aload_n C dX0_wayFrom_7 rfl ?_
    refine j_aload_n C dX0_wayFrom_8 rfl ?_
    refine g0_target C dX0_wayFrom_9 ?_
    refine j_aload_n C dX0_wayFrom_12 rfl ?_
    refine g0_far C dX0_wayFrom_13 ?_
    refine j_iconst C (bi true) dX0_wayFrom_16 (by decide) ?_
    refine j_callV3i C (ct_X0_search_f1 hc hb) gw_0_150 nd_X0_search 0 0 rfl rfl rfl ⟨by decide, by decide⟩ ⟨Nat.le_of_ble_eq_true rfl, Nat.le_of_ble_eq_true rfl⟩ (Nat.le_of_ble_eq_true rfl) dX0_wayFrom_17 (fun x_1 w_1 hp => ?_)
    obtain ⟨fo1, ds1, s1, qu1, to1, rfl, hsr, hst1, rfl⟩ := hp
    refine j_pop C dX0_wayFrom_20 rfl ?_
    refine j_aload_n C dX0_wayFrom_21 rfl ?_
    refine j_iconst C (bi true) dX0_wayFrom_22 (by decide) ?_
    refine p0_measured C dX0_wayFrom_23 ?_
    exact hT ds1 s1 qu1 to1 (srF_D hsr) hst1
