theorem shl1 : ∀ j, j < 21 → nI 1 <<< (nI j &&& 31) = nI (2 ^ j) := by decide +kernel
/-- gathering the places below m on the peg g -/
def gth (f : Nat → Nat) : Nat → Nat → Nat
  | 0, _ => 0
  | m + 1, g => if f m = g then gth f m g else gth f m (3 - f m - g) + 2 ^ m
theorem gth_cong {f f2 : Nat → Nat} : ∀ {m g : Nat}, (∀ d, d < m → f d = f2 d) → gth f m g = gth f2 m g
  | 0, _, _ => rfl
  | m + 1, g, h => by
    rw [gth, gth, h m (by omega)]
    split
    · exact gth_cong (fun d hd => h d (by omega))
    · rw [gth_cong (m := m) (fun d hd => h d (by omega))]
theorem gth_lt {f : Nat → Nat} : ∀ {m g : Nat}, gth f m g < 2 ^ m
  | 0, _ => by rw [gth]; decide
  | m + 1, g => by
    rw [gth, Nat.pow_succ]
    split
    · have := gth_lt (f := f) (m := m) (g := g); omega
    · have := gth_lt (f := f) (m := m) (g := 3 - f m - g); omega
abbrev rm_X0_thirdPeg : Room := { frames := 0, cells := 0, slots := 0, locals := 0 }
set_option maxHeartbeats 4000000 in
set_option maxRecDepth 100000 in
theorem ct_X0_thirdPeg {l : Launch} {D : va_G} {Y : jy_T} {ad : Nat → Nat} {ws : va_W} {x y : Nat} (h : x + y ≤ 3) :
    MJ l yX0_thirdPeg cX0_thirdPeg 2 (some .int) rm_X0_thirdPeg D Y [.int (nI x), .int (nI y)] ws (jI (fun r w => r = nI (3 - x - y) ∧ w = ws)) := by
  refine j_enter (by decide) (Nat.le_of_ble_eq_true rfl) (fun v hv => by simp only [List.mem_cons, List.not_mem_nil, or_false] at hv; rcases hv with rfl | rfl <;> rfl) (fun K hl hD hnm C R => ?_)
  subst hl; subst hD
  have C : jC cX0_thirdPeg RX0 Y rm_X0_thirdPeg 2 K := C
  have R : jR Y (some .int) 0 0 (jI (fun r w => r = nI (3 - x - y) ∧ w = ws)) K := R
  refine j_eq (lo' := [some (.int (nI x)), some (.int (nI y))]) rfl rfl rfl ?_
  refine j_iconst C (nI 3) dX0_thirdPeg_0 (by decide) ?_
  refine j_iload_n C dX0_thirdPeg_1 rfl ?_
  refine j_isub C dX0_thirdPeg_2 ?_
  refine j_top _ (nI (3 - x)) (pk_sub (by omega)) ?_
  refine j_iload_n C dX0_thirdPeg_3 rfl ?_
  refine j_isub C dX0_thirdPeg_4 ?_
  refine j_top _ (nI (3 - x - y)) (pk_sub (by omega)) ?_
  exact j_reti C R dX0_thirdPeg_5 ⟨rfl, rfl⟩
abbrev rm_X0_gather : Room := { frames := 1, cells := 0, slots := 0, locals := 23 }
set_option maxHeartbeats 4000000 in
set_option maxRecDepth 100000 in
theorem ct_X0_gather {l : Launch} {D : va_G} {Y : jy_T} {ad : Nat → Nat} {a m0 g0 : Nat} {n ru nw tg mc me : Int32} {co al tr to fa se qu sp : Nat → Int32} (ha : a < 2 ^ 31) (hm : m0 ≤ 6) (hg0 : g0 < 3) :
    MJ l yX0_gather cX0_gather 8 (some .int) rm_X0_gather D Y [.ref (ad 0), .int (nI a), .int (nI m0), .int (nI g0)] (wA Y ad (nI 3) n ru nw tg mc me (fun d => nI (3 ^ d)) co al tr to fa se qu sp) (jI (fun r w => r = nI (gth (dg 3 a) m0 g0) ∧ w = (wA Y ad (nI 3) n ru nw tg mc me (fun d => nI (3 ^ d)) co al tr to fa se qu sp))) := by
  refine j_enter (by decide) (Nat.le_of_ble_eq_true rfl) (fun v hv => by simp only [List.mem_cons, List.not_mem_nil, or_false] at hv; rcases hv with rfl | rfl | rfl | rfl <;> rfl) (fun K hl hD hnm C R => ?_)
  subst hl; subst hD
  have C : jC cX0_gather RX0 Y rm_X0_gather 8 K := C
  have R : jR Y (some .int) 0 0 (jI (fun r w => r = nI (gth (dg 3 a) m0 g0) ∧ w = (wA Y ad (nI 3) n ru nw tg mc me (fun d => nI (3 ^ d)) co al tr to fa se qu sp))) K := R
  refine j_eq (lo' := [some (.ref (ad 0)), some (.int (nI a)), some (.int (nI m0)), some (.int (nI g0)), none, none, none, none]) rfl rfl rfl ?_
  have hc : cfg 3 1 := ⟨by omega, by omega, by omega, by omega⟩
  have hL : ∀ (i g s : Nat) (l7 : Option Value), i ≤ m0 → g < 3 → gth (dg 3 a) m0 g0 = s + gth (dg 3 a) i g → jJ K 0 0 11 [some (.ref (ad 0)), some (.int (nI a)), some (.int (nI m0)), some (.int (nI g0)), some (.int (nI g)), some (.int (nI (s))), some (.int (nI i - nI 1)), l7] [] (wA Y ad (nI 3) n ru nw tg mc me (fun d => nI (3 ^ d)) co al tr to fa se qu sp) := by
    intro i
    induction i with
    | zero =>
      intro g s l7 h1 hg hs
      refine j_iload C dX0_gather_11 rfl ?_
      refine j_if_lt C 56 dX0_gather_13 (by decide) (fun c_13 => ?_) (fun c_13 => ?_)
      · refine j_iload C dX0_gather_56 rfl ?_
        exact j_reti C R dX0_gather_58 ⟨by rw [hs]; rfl, rfl⟩
      · exact absurd (by decide) c_13
    | succ j ih =>
      intro g s l7 h1 hg hs
      refine j_eq (lo' := [some (.ref (ad 0)), some (.int (nI a)), some (.int (nI m0)), some (.int (nI g0)), some (.int (nI g)), some (.int (nI (s))), some (.int (nI j)), l7]) (by rw [nI_pr]) rfl rfl ?_
      refine j_iload C dX0_gather_11 rfl ?_
      refine j_if_lt C 56 dX0_gather_13 (by decide) (fun c_13 => ?_) (fun c_13 => ?_)
      · exact absurd c_13 (nI_nlt0 (by omega))
      · refine j_aload_n C dX0_gather_16 rfl ?_
        refine j_iload_n C dX0_gather_17 rfl ?_
        refine j_iload C dX0_gather_18 rfl ?_
        refine j_callV2i C (ct_X0_pegIn hc (by omega) (by omega)) gw_0_80 nd_X0_pegIn 0 0 rfl rfl rfl ⟨by decide, by decide⟩ ⟨Nat.le_of_ble_eq_true rfl, Nat.le_of_ble_eq_true rfl⟩ (Nat.le_of_ble_eq_true rfl) dX0_gather_20 (fun x_1 w_1 hp => ?_)
        obtain ⟨rfl, rfl⟩ := hp
        have hl1 : dg 3 a j < 3 := dg_lt (by omega)
        refine j_istore_7 C dX0_gather_23 (by decide) ?_
        refine j_iload C dX0_gather_25 rfl ?_
        refine j_iload C dX0_gather_27 rfl ?_
        refine jN_icmp_eq C 50 (by omega) (by omega) dX0_gather_29 (by decide) (fun c_29 => ?_) (fun c_29 => ?_)
        · refine j_iinc_6 C _ (nI_m1 _) dX0_gather_50 ?_
          refine j_goto C 11 dX0_gather_53 (by decide) ?_
          exact ih g s _ (by omega) hg (by rw [hs, gth, if_pos c_29])
        · refine j_iload C dX0_gather_32 rfl ?_
          refine j_iload C dX0_gather_34 rfl ?_
          refine j_callS2i C (ct_X0_thirdPeg (ad := ad) (by omega)) gw_0_137 rfl nd_X0_thirdPeg ⟨by decide, by decide⟩ ⟨Nat.le_of_ble_eq_true rfl, Nat.le_of_ble_eq_true rfl⟩ (Nat.le_of_ble_eq_true rfl) dX0_gather_36 (fun x_1 w_1 hp => ?_)
          obtain ⟨rfl, rfl⟩ := hp
          refine j_istore_4 C dX0_gather_39 (by decide) ?_
          refine j_iload C dX0_gather_41 rfl ?_
          refine j_iconst C (nI 1) dX0_gather_43 (by decide) ?_
          refine j_iload C dX0_gather_44 rfl ?_
          refine j_ishl C dX0_gather_46 ?_
          refine j_top _ (nI (2 ^ j)) (shl1 j (by omega)) ?_
          refine j_iadd C dX0_gather_47 ?_
          refine j_top _ _ (nI_add _ _) ?_
          refine j_istore_5 C dX0_gather_48 (by decide) ?_
          refine j_iinc_6 C _ (nI_m1 _) dX0_gather_50 ?_
          refine j_goto C 11 dX0_gather_53 (by decide) ?_
          exact ih (3 - dg 3 a j - g) (s + 2 ^ j) _ (by omega) (by omega) (by rw [hs, gth, if_neg c_29, Nat.add_assoc s, Nat.add_comm (2 ^ j)])
  refine j_iload_n C dX0_gather_0 rfl ?_
  refine j_istore_4 C dX0_gather_1 (by decide) ?_
  refine j_iconst C (nI 0) dX0_gather_3 (by decide) ?_
  refine j_istore_5 C dX0_gather_4 (by decide) ?_
  refine j_iload_n C dX0_gather_6 rfl ?_
  refine j_iconst C (nI 1) dX0_gather_7 (by decide) ?_
  refine j_isub C dX0_gather_8 ?_
  refine j_top _ (nI m0 - nI 1) rfl ?_
  refine j_istore_6 C dX0_gather_9 (by decide) ?_
  exact hL m0 g0 0 _ (Nat.le_refl _) hg0 (by rw [Nat.zero_add])
abbrev rm_X0_lay : Room := { frames := 0, cells := 0, slots := 0, locals := 0 }
set_option maxHeartbeats 4000000 in
set_option maxRecDepth 100000 in
theorem ct_X0_lay {l : Launch} {D : va_G} {Y : jy_T} {ad : Nat → Nat} {P N : Nat} {p n ru nw tg mc me : Int32} {we co al tr to fa se qu sp : Nat → Int32} (hc : cfg P N) :
    MJ l yX0_lay cX0_lay 5 none rm_X0_lay D Y [.ref (ad 0), .int (nI P), .int (nI N)] (wA Y ad p n ru nw tg mc me we co al tr to fa se qu sp) (jV (fun w => w = (wA Y ad (nI P) (nI N) (bi false) (nI 0) (nI (P ^ N - 1)) (nI 0) (bi false) (fun d => nI (P ^ d)) (fun d => bi ((fun _ => false) d)) (fun k => bi ((fun _ => true) k)) tr to fa se qu sp))) := by
  refine j_enter (by decide) (Nat.le_of_ble_eq_true rfl) (fun v hv => by simp only [List.mem_cons, List.not_mem_nil, or_false] at hv; rcases hv with rfl | rfl | rfl <;> rfl) (fun K hl hD hnm C R => ?_)
  subst hl; subst hD
  have C : jC cX0_lay RX0 Y rm_X0_lay 5 K := C
  have R : jR Y none 0 0 (jV (fun w => w = (wA Y ad (nI P) (nI N) (bi false) (nI 0) (nI (P ^ N - 1)) (nI 0) (bi false) (fun d => nI (P ^ d)) (fun d => bi ((fun _ => false) d)) (fun k => bi ((fun _ => true) k)) tr to fa se qu sp))) K := R
  refine j_eq (lo' := [some (.ref (ad 0)), some (.int (nI P)), some (.int (nI N)), none, none]) rfl rfl rfl ?_
  obtain ⟨hP3, hP5, hN1, hN6⟩ := id hc
  have hpn : 1 ≤ P ^ N := cfg_pos hc
  have hL3 : ∀ (m i : Nat) (al : Nat → Int32) (pw : Nat), 25 < i + m → i ≤ 25 → (∀ k, k < i → al k = bi true) → jJ K 0 0 73 [some (.ref (ad 0)), some (.int (nI P)), some (.int (nI N)), some (.int (nI (pw))), some (.int (nI i))] [] (wA Y ad (nI P) (nI N) ru nw tg mc me (fun d => nI (P ^ d)) (fun d => bi ((fun _ => false) d)) al tr to fa se qu sp) := by
    intro m
    induction m with
    | zero => intro i al pw h1 h2; omega
    | succ m ih =>
      intro i al pw h1 h2 hi
      refine j_iload C dX0_lay_73 rfl ?_
      refine j_aload_n C dX0_lay_75 rfl ?_
      refine g0_allowed C dX0_lay_76 ?_
      refine n0_al C dX0_lay_79 ?_
      refine jN_icmp_ge C 97 (by omega) (by omega) dX0_lay_80 (by decide) (fun c_80 => ?_) (fun c_80 => ?_)
      · refine e0_al (fun k => bi ((fun _ => true) k)) (fun k hk => hi k (by omega)) ?_
        refine j_aload_n C dX0_lay_97 rfl ?_
        refine j_iconst C (bi false) dX0_lay_98 (by decide) ?_
        refine p0_ruleOn C dX0_lay_99 ?_
        refine j_aload_n C dX0_lay_102 rfl ?_
        refine j_iconst C (nI 0) dX0_lay_103 (by decide) ?_
        refine p0_now C dX0_lay_104 ?_
        refine j_aload_n C dX0_lay_107 rfl ?_
        refine j_aload_n C dX0_lay_108 rfl ?_
        refine g0_weight C dX0_lay_109 ?_
        refine j_aload_n C dX0_lay_112 rfl ?_
        refine g0_diskCount C dX0_lay_113 ?_
        refine l0_we C _ rfl (by omega) dX0_lay_116 ?_
        refine j_iconst C (nI 1) dX0_lay_117 (by decide) ?_
        refine j_isub C dX0_lay_118 ?_
        refine j_top _ (nI (P ^ N - 1)) (pk_sub hpn) ?_
        refine p0_target C dX0_lay_119 ?_
        refine j_aload_n C dX0_lay_122 rfl ?_
        refine j_iconst C (nI 0) dX0_lay_123 (by decide) ?_
        refine p0_moveCount C dX0_lay_124 ?_
        refine j_aload_n C dX0_lay_127 rfl ?_
        refine j_iconst C (bi false) dX0_lay_128 (by decide) ?_
        refine p0_measured C dX0_lay_129 ?_
        exact j_retv C R dX0_lay_132 rfl
      · refine j_aload_n C dX0_lay_83 rfl ?_
        refine g0_allowed C dX0_lay_84 ?_
        refine j_iload C dX0_lay_87 rfl ?_
        refine j_iconst C (bi true) dX0_lay_89 (by decide) ?_
        refine s0_al C _ rfl (by omega) dX0_lay_90 ?_
        refine j_iinc_4 C _ (nI_p1 _) dX0_lay_91 ?_
        refine j_goto C 73 dX0_lay_94 (by decide) ?_
        exact ih (i + 1) _ _ (by omega) (by omega) (fun k hk => by
          by_cases e : k = i
          · rw [e, pk_us]
          · rw [pk_un e]; exact hi k (by omega))
  have hL2 : ∀ (m i : Nat) (co : Nat → Int32) (pw : Nat), 6 < i + m → i ≤ 6 → (∀ k, k < i → co k = bi false) → jJ K 0 0 46 [some (.ref (ad 0)), some (.int (nI P)), some (.int (nI N)), some (.int (nI (pw))), some (.int (nI i))] [] (wA Y ad (nI P) (nI N) ru nw tg mc me (fun d => nI (P ^ d)) co al tr to fa se qu sp) := by
    intro m
    induction m with
    | zero => intro i co pw h1 h2; omega
    | succ m ih =>
      intro i co pw h1 h2 hi
      refine j_iload C dX0_lay_46 rfl ?_
      refine j_aload_n C dX0_lay_48 rfl ?_
      refine g0_colour C dX0_lay_49 ?_
      refine n0_co C dX0_lay_52 ?_
      refine jN_icmp_ge C 70 (by omega) (by omega) dX0_lay_53 (by decide) (fun c_53 => ?_) (fun c_53 => ?_)
      · refine e0_co (fun d => bi ((fun _ => false) d)) (fun k hk => hi k (by omega)) ?_
        refine j_iconst C (nI 0) dX0_lay_70 (by decide) ?_
        refine j_istore_4 C dX0_lay_71 (by decide) ?_
        exact hL3 26 0 al pw (by omega) (by omega) (fun k hk => by omega)
      · refine j_aload_n C dX0_lay_56 rfl ?_
        refine g0_colour C dX0_lay_57 ?_
        refine j_iload C dX0_lay_60 rfl ?_
        refine j_iconst C (nI 0) dX0_lay_62 (by decide) ?_
        refine s0_co C _ rfl (by omega) dX0_lay_63 ?_
        refine j_iinc_4 C _ (nI_p1 _) dX0_lay_64 ?_
        refine j_goto C 46 dX0_lay_67 (by decide) ?_
        exact ih (i + 1) _ _ (by omega) (by omega) (fun k hk => by
          by_cases e : k = i
          · rw [e, pk_us]; rfl
          · rw [pk_un e]; exact hi k (by omega))
  have hL : ∀ (m i : Nat) (we : Nat → Int32), 7 < i + m → i ≤ 7 → (∀ k, k < i → we k = nI (P ^ k)) → jJ K 0 0 15 [some (.ref (ad 0)), some (.int (nI P)), some (.int (nI N)), some (.int (nI (P ^ i))), some (.int (nI i))] [] (wA Y ad (nI P) (nI N) ru nw tg mc me we co al tr to fa se qu sp) := by
    intro m
    induction m with
    | zero => intro i we h1 h2; omega
    | succ m ih =>
      intro i we h1 h2 hi
      refine j_iload C dX0_lay_15 rfl ?_
      refine j_aload_n C dX0_lay_17 rfl ?_
      refine g0_weight C dX0_lay_18 ?_
      refine n0_we C dX0_lay_21 ?_
      refine jN_icmp_ge C 43 (by omega) (by omega) dX0_lay_22 (by decide) (fun c_22 => ?_) (fun c_22 => ?_)
      · refine e0_we (fun d => nI (P ^ d)) (fun k hk => hi k (by omega)) ?_
        refine j_iconst C (nI 0) dX0_lay_43 (by decide) ?_
        refine j_istore_4 C dX0_lay_44 (by decide) ?_
        exact hL2 7 0 co (P ^ i) (by omega) (by omega) (fun k hk => by omega)
      · refine j_aload_n C dX0_lay_25 rfl ?_
        refine g0_weight C dX0_lay_26 ?_
        refine j_iload C dX0_lay_29 rfl ?_
        refine j_iload_n C dX0_lay_31 rfl ?_
        refine s0_we C _ rfl (by omega) dX0_lay_32 ?_
        refine j_iload_n C dX0_lay_33 rfl ?_
        refine j_iload_n C dX0_lay_34 rfl ?_
        refine j_imul C dX0_lay_35 ?_
        refine j_top _ _ (pk_mul _ _) ?_
        refine j_top _ (nI (P ^ (i + 1))) (by rw [Nat.pow_succ]) ?_
        refine j_istore_3 C dX0_lay_36 (by decide) ?_
        refine j_iinc_4 C _ (nI_p1 _) dX0_lay_37 ?_
        refine j_goto C 15 dX0_lay_40 (by decide) ?_
        exact ih (i + 1) _ (by omega) (by omega) (fun k hk => by
          by_cases e : k = i
          · rw [e, pk_us]
          · rw [pk_un e]; exact hi k (by omega))
  refine j_aload_n C dX0_lay_0 rfl ?_
  refine j_iload_n C dX0_lay_1 rfl ?_
  refine p0_pegCount C dX0_lay_2 ?_
  refine j_aload_n C dX0_lay_5 rfl ?_
  refine j_iload_n C dX0_lay_6 rfl ?_
  refine p0_diskCount C dX0_lay_7 ?_
  refine j_iconst C (nI 1) dX0_lay_10 (by decide) ?_
  refine j_istore_3 C dX0_lay_11 (by decide) ?_
  refine j_iconst C (nI 0) dX0_lay_12 (by decide) ?_
  refine j_istore_4 C dX0_lay_13 (by decide) ?_
  exact hL 8 0 we (by omega) (by omega) (fun k hk => by omega)
