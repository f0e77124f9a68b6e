theorem min_le {x y : Nat} (h : y ≤ x) : y = if y < x then y else x := by
  split <;> omega
abbrev rm_X1_wayByDisks : Room := { frames := 1, cells := 0, slots := 0, locals := 27 }
set_option maxHeartbeats 4000000 in
set_option maxRecDepth 100000 in
theorem ct_X1_wayByDisks {l : Launch} {D : va_G} {Y : jy_T} {ad : Nat → Nat} {P N a b mv0 : Nat} {ru : Bool} {cb ba : Nat → Bool} {nf gf fr tt : Nat → Nat} {th s0 qd : Int32} {lk fa qu nb : Nat → Int32} (hc : cfg P N) (ha : a < P ^ N) (hb : b < P ^ N) (hn : ∀ d, d < N → nf d = dg P a d) (hg : ∀ d, d < N → gf d = dg P b d) :
    MJ l yX1_wayByDisks cX1_wayByDisks 8 (some .int) rm_X1_wayByDisks D Y [.ref (ad 0)] (wM Y ad th (nI P) (nI N) (bi ru) (nI mv0) s0 qd (fun d => nI (nf d)) (fun d => nI (gf d)) (fun d => bi (cb d)) (fun k => bi (ba k)) (fun k => nI (fr k)) (fun k => nI (tt k)) lk fa qu nb) (jI (fun r w => (P = 3 ∧ ru = false ∧ alB (fun k => !ba k) 0 25 = true ∧ r = nI (wbV nf gf N) ∧ w = (wM Y ad (nI 0) (nI P) (nI N) (bi ru) (nI mv0) s0 qd (fun d => nI (nf d)) (fun d => nI (gf d)) (fun d => bi (cb d)) (fun k => bi (ba k)) (fun k => nI (fr k)) (fun k => nI (tt k)) lk fa qu nb)) ∨ (¬ (P = 3 ∧ ru = false ∧ alB (fun k => !ba k) 0 25 = true) ∧ w = (wM Y ad (nI 1) (nI P) (nI N) (bi ru) (nI mv0) s0 qd (fun d => nI (nf d)) (fun d => nI (gf d)) (fun d => bi (cb d)) (fun k => bi (ba k)) (fun k => nI (fr k)) (fun k => nI (tt k)) lk fa qu nb)))) := by
  refine j_enter (by decide) (Nat.le_of_ble_eq_true rfl) (fun v hv => by rw [List.mem_singleton.mp hv]; rfl) (fun K hl hD hnm C R => ?_)
  subst hl; subst hD
  have C : jC cX1_wayByDisks RX1 Y rm_X1_wayByDisks 8 K := C
  have R : jR Y (some .int) 0 0 (jI (fun r w => (P = 3 ∧ ru = false ∧ alB (fun k => !ba k) 0 25 = true ∧ r = nI (wbV nf gf N) ∧ w = (wM Y ad (nI 0) (nI P) (nI N) (bi ru) (nI mv0) s0 qd (fun d => nI (nf d)) (fun d => nI (gf d)) (fun d => bi (cb d)) (fun k => bi (ba k)) (fun k => nI (fr k)) (fun k => nI (tt k)) lk fa qu nb)) ∨ (¬ (P = 3 ∧ ru = false ∧ alB (fun k => !ba k) 0 25 = true) ∧ w = (wM Y ad (nI 1) (nI P) (nI N) (bi ru) (nI mv0) s0 qd (fun d => nI (nf d)) (fun d => nI (gf d)) (fun d => bi (cb d)) (fun k => bi (ba k)) (fun k => nI (fr k)) (fun k => nI (tt k)) lk fa qu nb)))) K := R
  refine j_eq (lo' := [some (.ref (ad 0)), none, none, none, none, none, none, none]) rfl rfl rfl ?_
  obtain ⟨hP3, hP5, hN1, hN6⟩ := id hc
  have hP0 : 0 < P := by omega
  have hp2 : P ^ N ≤ 15625 := cfg_pw hc (by omega)
  have hB : P = 3 → ru = false → alB (fun k => !ba k) 0 25 = true → ∀ (l1 l2 : Option Value), jJ K 0 0 72 [some (.ref (ad 0)), l1, l2, none, none, none, none, none] [] (wM Y ad (nI 0) (nI P) (nI N) (bi ru) (nI mv0) s0 qd (fun d => nI (nf d)) (fun d => nI (gf d)) (fun d => bi (cb d)) (fun k => bi (ba k)) (fun k => nI (fr k)) (fun k => nI (tt k)) lk fa qu nb) := by
    intro hP3e hru hal l1 l2
    have hv1 : ∀ d, d < N → nf d < 3 := fun d hd => by rw [hn d hd, hP3e]; exact dg_lt (by omega)
    have hv2 : ∀ d, d < N → gf d < 3 := fun d hd => by rw [hg d hd, hP3e]; exact dg_lt (by omega)
    have hL : ∀ (i : Nat), i ≤ N → lgd nf gf N = lgd nf gf i → jJ K 0 0 79 [some (.ref (ad 0)), l1, some (.int (nI i - nI 1)), none, none, none, none, none] [] (wM Y ad (nI 0) (nI P) (nI N) (bi ru) (nI mv0) s0 qd (fun d => nI (nf d)) (fun d => nI (gf d)) (fun d => bi (cb d)) (fun k => bi (ba k)) (fun k => nI (fr k)) (fun k => nI (tt k)) lk fa qu nb) := by
      intro i
      induction i with
      | zero =>
        intro h1 hg2
        refine j_iload_n C dX1_wayByDisks_79 rfl ?_
        refine j_if_lt C 104 dX1_wayByDisks_80 (by decide) (fun c_80 => ?_) (fun c_80 => ?_)
        · refine j_iload_n C dX1_wayByDisks_104 rfl ?_
          refine j_if_ge C 110 dX1_wayByDisks_105 (by decide) (fun c_105 => ?_) (fun c_105 => ?_)
          · exact absurd c_105 (by decide)
          · refine j_iconst C (nI 0) dX1_wayByDisks_108 (by decide) ?_
            exact j_reti C R dX1_wayByDisks_109 (Or.inl ⟨hP3e, hru, hal, by unfold wbV; rw [hg2]; rfl, rfl⟩)
        · exact absurd (by decide) c_80
      | succ j ih =>
        intro h1 hg2
        refine j_eq (lo' := [some (.ref (ad 0)), l1, some (.int (nI j)), none, none, none, none, none]) (by rw [nI_pr]) rfl rfl ?_
        refine j_iload_n C dX1_wayByDisks_79 rfl ?_
        refine j_if_lt C 104 dX1_wayByDisks_80 (by decide) (fun c_80 => ?_) (fun c_80 => ?_)
        · exact absurd c_80 (nI_nlt0 (by omega))
        · refine j_aload_n C dX1_wayByDisks_83 rfl ?_
          refine g1_now C dX1_wayByDisks_84 ?_
          refine j_iload_n C dX1_wayByDisks_87 rfl ?_
          refine l1_nw C _ rfl (by omega) dX1_wayByDisks_88 ?_
          refine j_aload_n C dX1_wayByDisks_89 rfl ?_
          refine g1_goal C dX1_wayByDisks_90 ?_
          refine j_iload_n C dX1_wayByDisks_93 rfl ?_
          refine l1_gl C _ rfl (by omega) dX1_wayByDisks_94 ?_
          have hv1j := hv1 j (by omega)
          have hv2j := hv2 j (by omega)
          refine jN_icmp_ne C 104 (by omega) (by omega) dX1_wayByDisks_95 (by decide) (fun c_95 => ?_) (fun c_95 => ?_)
          · refine j_iload_n C dX1_wayByDisks_104 rfl ?_
            refine j_if_ge C 110 dX1_wayByDisks_105 (by decide) (fun c_105 => ?_) (fun c_105 => ?_)
            · refine j_aload_n C dX1_wayByDisks_110 rfl ?_
              refine g1_now C dX1_wayByDisks_111 ?_
              refine j_iload_n C dX1_wayByDisks_114 rfl ?_
              refine l1_nw C _ rfl (by omega) dX1_wayByDisks_115 ?_
              refine j_istore_3 C dX1_wayByDisks_116 (by decide) ?_
              refine j_aload_n C dX1_wayByDisks_117 rfl ?_
              refine g1_goal C dX1_wayByDisks_118 ?_
              refine j_iload_n C dX1_wayByDisks_121 rfl ?_
              refine l1_gl C _ rfl (by omega) dX1_wayByDisks_122 ?_
              refine j_istore_4 C dX1_wayByDisks_123 (by decide) ?_
              refine j_iconst C (nI 3) dX1_wayByDisks_125 (by decide) ?_
              refine j_iload_n C dX1_wayByDisks_126 rfl ?_
              refine j_isub C dX1_wayByDisks_127 ?_
              refine j_top _ (nI (3 - nf j)) (pk_sub (by omega)) ?_
              refine j_iload C dX1_wayByDisks_128 rfl ?_
              refine j_isub C dX1_wayByDisks_130 ?_
              refine j_top _ (nI (3 - nf j - gf j)) (pk_sub (by omega)) ?_
              refine j_istore_5 C dX1_wayByDisks_131 (by decide) ?_
              refine j_aload_n C dX1_wayByDisks_133 rfl ?_
              refine j_iconst C (bi false) dX1_wayByDisks_134 (by decide) ?_
              refine j_iload_n C dX1_wayByDisks_135 rfl ?_
              refine j_iload C dX1_wayByDisks_136 rfl ?_
              refine j_callV3i C (ct_X1_gather (og := false) (fun d hd => hv1 d (by omega)) (by omega) (by omega)) gw_1_117 nd_X1_gather 1 0 rfl rfl rfl ⟨by decide, by decide⟩ ⟨Nat.le_of_ble_eq_true rfl, Nat.le_of_ble_eq_true rfl⟩ (Nat.le_of_ble_eq_true rfl) dX1_wayByDisks_138 (fun x_1 w_1 hp => ?_)
              obtain ⟨rfl, rfl⟩ := hp
              refine j_top _ (nI (gth nf j (3 - nf j - gf j))) rfl ?_
              refine j_aload_n C dX1_wayByDisks_141 rfl ?_
              refine j_iconst C (bi true) dX1_wayByDisks_142 (by decide) ?_
              refine j_iload_n C dX1_wayByDisks_143 rfl ?_
              refine j_iload C dX1_wayByDisks_144 rfl ?_
              refine j_callV3i C (ct_X1_gather (og := true) (fun d hd => hv2 d (by omega)) (by omega) (by omega)) gw_1_117 nd_X1_gather 1 0 rfl rfl rfl ⟨by decide, by decide⟩ ⟨Nat.le_of_ble_eq_true rfl, Nat.le_of_ble_eq_true rfl⟩ (Nat.le_of_ble_eq_true rfl) dX1_wayByDisks_146 (fun x_1 w_1 hp => ?_)
              obtain ⟨rfl, rfl⟩ := hp
              refine j_top _ (nI (gth gf j (3 - nf j - gf j))) rfl ?_
              refine j_iadd C dX1_wayByDisks_149 ?_
              refine j_top _ _ (nI_add _ _) ?_
              refine j_iconst C (nI 1) dX1_wayByDisks_150 (by decide) ?_
              refine j_iadd C dX1_wayByDisks_151 ?_
              refine j_top _ _ (nI_add _ _) ?_
              refine j_istore_6 C dX1_wayByDisks_152 (by decide) ?_
              refine j_aload_n C dX1_wayByDisks_154 rfl ?_
              refine j_iconst C (bi false) dX1_wayByDisks_155 (by decide) ?_
              refine j_iload_n C dX1_wayByDisks_156 rfl ?_
              refine j_iload C dX1_wayByDisks_157 rfl ?_
              refine j_callV3i C (ct_X1_gather (og := false) (fun d hd => hv1 d (by omega)) (by omega) (by omega)) gw_1_117 nd_X1_gather 1 0 rfl rfl rfl ⟨by decide, by decide⟩ ⟨Nat.le_of_ble_eq_true rfl, Nat.le_of_ble_eq_true rfl⟩ (Nat.le_of_ble_eq_true rfl) dX1_wayByDisks_159 (fun x_1 w_1 hp => ?_)
              obtain ⟨rfl, rfl⟩ := hp
              refine j_top _ (nI (gth nf j (gf j))) rfl ?_
              refine j_aload_n C dX1_wayByDisks_162 rfl ?_
              refine j_iconst C (bi true) dX1_wayByDisks_163 (by decide) ?_
              refine j_iload_n C dX1_wayByDisks_164 rfl ?_
              refine j_iload_n C dX1_wayByDisks_165 rfl ?_
              refine j_callV3i C (ct_X1_gather (og := true) (fun d hd => hv2 d (by omega)) (by omega) (by omega)) gw_1_117 nd_X1_gather 1 0 rfl rfl rfl ⟨by decide, by decide⟩ ⟨Nat.le_of_ble_eq_true rfl, Nat.le_of_ble_eq_true rfl⟩ (Nat.le_of_ble_eq_true rfl) dX1_wayByDisks_166 (fun x_1 w_1 hp => ?_)
              obtain ⟨rfl, rfl⟩ := hp
              refine j_top _ (nI (gth gf j (nf j))) rfl ?_
              refine j_iadd C dX1_wayByDisks_169 ?_
              refine j_top _ _ (nI_add _ _) ?_
              refine j_iconst C (nI 1) dX1_wayByDisks_170 (by decide) ?_
              refine j_iload_n C dX1_wayByDisks_171 rfl ?_
              refine j_ishl C dX1_wayByDisks_172 ?_
              refine j_top _ (nI (2 ^ j)) (shl1 j (by omega)) ?_
              refine j_iadd C dX1_wayByDisks_173 ?_
              refine j_top _ _ (nI_add _ _) ?_
              refine j_iconst C (nI 1) dX1_wayByDisks_174 (by decide) ?_
              refine j_iadd C dX1_wayByDisks_175 ?_
              refine j_top _ _ (nI_add _ _) ?_
              refine j_istore_7 C dX1_wayByDisks_176 (by decide) ?_
              have hg3 := gth_lt (f := nf) (m := j) (g := 3 - nf j - gf j)
              have hg4 := gth_lt (f := gf) (m := j) (g := 3 - nf j - gf j)
              have hg5 := gth_lt (f := nf) (m := j) (g := gf j)
              have hg6 := gth_lt (f := gf) (m := j) (g := nf j)
              have hj64 : 2 ^ j ≤ 2 ^ 6 := Nat.pow_le_pow_right (by omega) (by omega)
              refine j_iload C dX1_wayByDisks_178 rfl ?_
              refine j_iload C dX1_wayByDisks_180 rfl ?_
              refine jN_icmp_ge C 190 (by omega) (by omega) dX1_wayByDisks_182 (by decide) (fun c_182 => ?_) (fun c_182 => ?_)
              · refine j_iload C dX1_wayByDisks_190 rfl ?_
                exact j_reti C R dX1_wayByDisks_192 (Or.inl ⟨hP3e, hru, hal, by unfold wbV; rw [hg2, lgd, if_neg c_95]; exact congrArg nI (min_le c_182), rfl⟩)
              · refine j_iload C dX1_wayByDisks_185 rfl ?_
                refine j_goto C 192 dX1_wayByDisks_187 (by decide) ?_
                exact j_reti C R dX1_wayByDisks_192 (Or.inl ⟨hP3e, hru, hal, by unfold wbV; rw [hg2, lgd, if_neg c_95]; exact congrArg nI (if_neg (Nat.lt_asymm c_182)).symm, rfl⟩)
            · exact absurd (nI_pos' (by omega)) c_105
          · refine j_iinc_2 C _ (nI_m1 _) dX1_wayByDisks_98 ?_
            refine j_goto C 79 dX1_wayByDisks_101 (by decide) ?_
            exact ih (by omega) (by rw [hg2, lgd, if_pos c_95])
    refine j_aload_n C dX1_wayByDisks_72 rfl ?_
    refine g1_disks C dX1_wayByDisks_73 ?_
    refine j_iconst C (nI 1) dX1_wayByDisks_76 (by decide) ?_
    refine j_isub C dX1_wayByDisks_77 ?_
    refine j_top _ (nI N - nI 1) rfl ?_
    refine j_istore_2 C dX1_wayByDisks_78 (by decide) ?_
    exact hL N (Nat.le_refl _) rfl
  have hA : ∀ fr0 : Bool, fr0 = (decide (P = 3) && !ru) → ∀ (m i : Nat), 25 < i + m → i ≤ 25 → jJ K 0 0 23 [some (.ref (ad 0)), some (.int (bi (fr0 && allG (fun k => !ba k) i))), some (.int (nI i)), none, none, none, none, none] [] (wM Y ad th (nI P) (nI N) (bi ru) (nI mv0) s0 qd (fun d => nI (nf d)) (fun d => nI (gf d)) (fun d => bi (cb d)) (fun k => bi (ba k)) (fun k => nI (fr k)) (fun k => nI (tt k)) lk fa qu nb) := by
    intro fr0 hfr0 m
    induction m with
    | zero => intro i h1 h2; omega
    | succ m ih =>
      intro i h1 h2
      refine j_iload_n C dX1_wayByDisks_23 rfl ?_
      refine j_bipush C (nI 25) dX1_wayByDisks_24 (by decide) ?_
      refine jN_icmp_ge C 54 (by omega) (by omega) dX1_wayByDisks_26 (by decide) (fun c_26 => ?_) (fun c_26 => ?_)
      · refine j_aload_n C dX1_wayByDisks_54 rfl ?_
        refine j_iload_n C dX1_wayByDisks_55 rfl ?_
        refine jB_if_eq C 63 dX1_wayByDisks_56 (by decide) (fun c_56 => ?_) (fun c_56 => ?_)
        · refine j_iconst C (nI 1) dX1_wayByDisks_63 (by decide) ?_
          refine j_callV1i C (ct_X1_goesWell (by omega)) gw_1_66 nd_X1_goesWell 1 0 rfl rfl rfl ⟨by decide, by decide⟩ ⟨Nat.le_of_ble_eq_true rfl, Nat.le_of_ble_eq_true rfl⟩ (Nat.le_of_ble_eq_true rfl) dX1_wayByDisks_64 (fun x_1 w_1 hp => ?_)
          obtain ⟨rfl, rfl⟩ := hp
          refine jB_if_ne C 72 dX1_wayByDisks_67 (by decide) (fun c_67 => ?_) (fun c_67 => ?_)
          · exact absurd c_67 (by decide)
          · refine j_iconst C (nI 0) dX1_wayByDisks_70 (by decide) ?_
            exact j_reti C R dX1_wayByDisks_71 (Or.inr ⟨fun q => by
  rw [show i = 25 by omega, hfr0, q.1, q.2.1] at c_56
  have h9 : allG (fun k => !ba k) 25 = true := q.2.2
  rw [h9] at c_56; exact absurd c_56 (by decide), rfl⟩)
        · refine j_iconst C (nI 0) dX1_wayByDisks_59 (by decide) ?_
          refine j_goto C 64 dX1_wayByDisks_60 (by decide) ?_
          refine j_callV1i C (ct_X1_goesWell (by omega)) gw_1_66 nd_X1_goesWell 1 0 rfl rfl rfl ⟨by decide, by decide⟩ ⟨Nat.le_of_ble_eq_true rfl, Nat.le_of_ble_eq_true rfl⟩ (Nat.le_of_ble_eq_true rfl) dX1_wayByDisks_64 (fun x_1 w_1 hp => ?_)
          obtain ⟨rfl, rfl⟩ := hp
          refine jB_if_ne C 72 dX1_wayByDisks_67 (by decide) (fun c_67 => ?_) (fun c_67 => ?_)
          · rw [Bool.and_eq_true] at c_56
            rw [hfr0, Bool.and_eq_true] at c_56
            have hP3e := of_decide_eq_true c_56.1.1
            have hru : ru = false := by simpa using c_56.1.2
            have hal : alB (fun k => !ba k) 0 25 = true := by have h9 := c_56.2; rw [show i = 25 by omega] at h9; exact h9
            exact hB hP3e hru hal _ _
          · exact absurd c_67 (by decide)
      · refine j_iload_n C dX1_wayByDisks_29 rfl ?_
        refine jB_if_eq C 46 dX1_wayByDisks_30 (by decide) (fun c_30 => ?_) (fun c_30 => ?_)
        · refine j_iconst C (bi false) dX1_wayByDisks_46 (by decide) ?_
          refine j_istore_1 C dX1_wayByDisks_47 (by decide) ?_
          refine j_iinc_2 C _ (nI_p1 _) dX1_wayByDisks_48 ?_
          refine j_goto C 23 dX1_wayByDisks_51 (by decide) ?_
          exact j_eq (lo' := [some (.ref (ad 0)), some (.int (bi (fr0 && allG (fun k => !ba k) (i + 1)))), some (.int (nI (i + 1))), none, none, none, none, none]) (by rw [allG_s, ← Bool.and_assoc, c_30]; rfl) rfl rfl (ih (i + 1) (by omega) (by omega))
        · refine j_aload_n C dX1_wayByDisks_33 rfl ?_
          refine g1_isBarred C dX1_wayByDisks_34 ?_
          refine j_iload_n C dX1_wayByDisks_37 rfl ?_
          refine l1_ba C _ rfl (by omega) dX1_wayByDisks_38 ?_
          refine jB_if_ne C 46 dX1_wayByDisks_39 (by decide) (fun c_39 => ?_) (fun c_39 => ?_)
          · refine j_iconst C (bi false) dX1_wayByDisks_46 (by decide) ?_
            refine j_istore_1 C dX1_wayByDisks_47 (by decide) ?_
            refine j_iinc_2 C _ (nI_p1 _) dX1_wayByDisks_48 ?_
            refine j_goto C 23 dX1_wayByDisks_51 (by decide) ?_
            exact j_eq (lo' := [some (.ref (ad 0)), some (.int (bi (fr0 && allG (fun k => !ba k) (i + 1)))), some (.int (nI (i + 1))), none, none, none, none, none]) (by rw [allG_s, ← Bool.and_assoc, c_30, c_39]; rfl) rfl rfl (ih (i + 1) (by omega) (by omega))
          · refine j_iconst C (bi true) dX1_wayByDisks_42 (by decide) ?_
            refine j_goto C 47 dX1_wayByDisks_43 (by decide) ?_
            refine j_istore_1 C dX1_wayByDisks_47 (by decide) ?_
            refine j_iinc_2 C _ (nI_p1 _) dX1_wayByDisks_48 ?_
            refine j_goto C 23 dX1_wayByDisks_51 (by decide) ?_
            exact j_eq (lo' := [some (.ref (ad 0)), some (.int (bi (fr0 && allG (fun k => !ba k) (i + 1)))), some (.int (nI (i + 1))), none, none, none, none, none]) (by rw [allG_s, ← Bool.and_assoc, c_30, c_39]; rfl) rfl rfl (ih (i + 1) (by omega) (by omega))
  refine j_aload_n C dX1_wayByDisks_0 rfl ?_
  refine g1_pegs C dX1_wayByDisks_1 ?_
  refine j_iconst C (nI 3) dX1_wayByDisks_4 (by decide) ?_
  refine jN_icmp_ne C 19 (by omega) (by omega) dX1_wayByDisks_5 (by decide) (fun c_5 => ?_) (fun c_5 => ?_)
  · refine j_iconst C (bi false) dX1_wayByDisks_19 (by decide) ?_
    refine j_istore_1 C dX1_wayByDisks_20 (by decide) ?_
    refine j_iconst C (nI 0) dX1_wayByDisks_21 (by decide) ?_
    refine j_istore_2 C dX1_wayByDisks_22 (by decide) ?_
    exact j_eq (lo' := [some (.ref (ad 0)), some (.int (bi (false && allG (fun k => !ba k) 0))), some (.int (nI 0)), none, none, none, none, none]) rfl rfl rfl (hA false (by rw [decide_eq_false c_5]; rfl) 26 0 (by omega) (by omega))
  · refine j_aload_n C dX1_wayByDisks_8 rfl ?_
    refine g1_rule C dX1_wayByDisks_9 ?_
    refine jB_if_ne C 19 dX1_wayByDisks_12 (by decide) (fun c_12 => ?_) (fun c_12 => ?_)
    · refine j_iconst C (bi false) dX1_wayByDisks_19 (by decide) ?_
      refine j_istore_1 C dX1_wayByDisks_20 (by decide) ?_
      refine j_iconst C (nI 0) dX1_wayByDisks_21 (by decide) ?_
      refine j_istore_2 C dX1_wayByDisks_22 (by decide) ?_
      exact j_eq (lo' := [some (.ref (ad 0)), some (.int (bi (false && allG (fun k => !ba k) 0))), some (.int (nI 0)), none, none, none, none, none]) rfl rfl rfl (hA false (by rw [c_12]; simp) 26 0 (by omega) (by omega))
    · refine j_iconst C (bi true) dX1_wayByDisks_15 (by decide) ?_
      refine j_goto C 20 dX1_wayByDisks_16 (by decide) ?_
      refine j_istore_1 C dX1_wayByDisks_20 (by decide) ?_
      refine j_iconst C (nI 0) dX1_wayByDisks_21 (by decide) ?_
      refine j_istore_2 C dX1_wayByDisks_22 (by decide) ?_
      exact j_eq (lo' := [some (.ref (ad 0)), some (.int (bi (true && allG (fun k => !ba k) 0))), some (.int (nI 0)), none, none, none, none, none]) rfl rfl rfl (hA true (by rw [c_12, decide_eq_true c_5]; rfl) 26 0 (by omega) (by omega))
theorem oI_le0 {o : Option Nat} (h : ∀ j, o = some j → j < 2 ^ 31) : oI o ≤ 0 ↔ ∀ d, o ≠ some (d + 1) := by
  cases o with
  | none => exact ⟨fun _ d q => (by cases q), fun _ => (by decide)⟩
  | some j =>
    show nI j ≤ nI 0 ↔ _
    rw [nI_leI (h j rfl) (by omega)]
    refine ⟨fun q d e => by cases e; omega, fun q => ?_⟩
    rcases j with _ | j
    · exact Nat.le_refl _
    · exact absurd rfl (q j)
def nxM (P N : Nat) (ru : Bool) (cb ba : Nat → Bool) (Wy : Nat → Option Nat) (a : Nat) : Int32 := match Wy a with
  | none => -1
  | some 0 => -1
  | some (d + 1) => nxV P (fun f t => match nbM P N ru cb ba a f t with | none => false | some y => decide (Wy y = some d))
theorem nk_hit {P k : Nat} {q : Nat → Nat → Bool} (hk : k < P * P) (h : q (k / P) (k % P) = true) : nxO P (frm (nxF P q) 1 k (P * P)) = nI (10 * (k / P) + k % P) := by
  rw [frm_hit hk (by unfold nxF; rw [if_pos h])]; rfl
theorem nk_step {P k : Nat} {q : Nat → Nat → Bool} (hk : k < P * P) (h : ¬ q (k / P) (k % P) = true) : frm (nxF P q) 1 k (P * P) = frm (nxF P q) 1 (k + 1) (P * P) := frm_step hk (by unfold nxF; rw [if_neg h]; omega)
abbrev rm_X1_next : Room := { frames := 4, cells := 0, slots := 0, locals := 96 }
set_option maxHeartbeats 4000000 in
set_option maxRecDepth 100000 in
theorem ct_X1_next {l : Launch} {D : va_G} {Y : jy_T} {ad : Nat → Nat} {P N a b mv0 : Nat} {ru : Bool} {cb ba : Nat → Bool} {nf gf fr tt : Nat → Nat} {th s0 qd : Int32} {lk fa qu nb : Nat → Int32} (hc : cfg P N) (ha : a < P ^ N) (hb : b < P ^ N) (hn : ∀ d, d < N → nf d = dg P a d) (hg : ∀ d, d < N → gf d = dg P b d) {Wy : Nat → Option Nat} (hW : ∀ y, y < P ^ N → ∀ ds, srD (P ^ N) P (nbM P N ru cb ba) y (lawB P N ru cb y) ds → ds b = Wy y) (hWb : ∀ y d, Wy y = some d → d < 2 ^ 31) :
    MJ l yX1_next cX1_next 5 (some .int) rm_X1_next D Y [.ref (ad 0)] (wM Y ad th (nI P) (nI N) (bi ru) (nI mv0) s0 qd (fun d => nI (nf d)) (fun d => nI (gf d)) (fun d => bi (cb d)) (fun k => bi (ba k)) (fun k => nI (fr k)) (fun k => nI (tt k)) lk fa qu nb) (jI (fun r w => ∃ fa1 qu1 qd1 lk1, r = nxM P N ru cb ba Wy a ∧ w = (wM Y ad (nI 0) (nI P) (nI N) (bi ru) (nI mv0) s0 qd1 (fun d => nI (nf d)) (fun d => nI (gf d)) (fun d => bi (cb d)) (fun k => bi (ba k)) (fun k => nI (fr k)) (fun k => nI (tt k)) lk1 fa1 qu1 nb))) := by
  refine j_enter (by decide) (Nat.le_of_ble_eq_true rfl) (fun v hv => by rw [List.mem_singleton.mp hv]; rfl) (fun K hl hD hnm C R => ?_)
  subst hl; subst hD
  have C : jC cX1_next RX1 Y rm_X1_next 5 K := C
  have R : jR Y (some .int) 0 0 (jI (fun r w => ∃ fa1 qu1 qd1 lk1, r = nxM P N ru cb ba Wy a ∧ w = (wM Y ad (nI 0) (nI P) (nI N) (bi ru) (nI mv0) s0 qd1 (fun d => nI (nf d)) (fun d => nI (gf d)) (fun d => bi (cb d)) (fun k => bi (ba k)) (fun k => nI (fr k)) (fun k => nI (tt k)) lk1 fa1 qu1 nb))) K := R
  refine j_eq (lo' := [some (.ref (ad 0)), none, none, none, none]) rfl rfl rfl ?_
  obtain ⟨hP3, hP5, hN1, hN6⟩ := id hc
  have hP0 : 0 < P := by omega
  have hp2 : P ^ N ≤ 15625 := cfg_pw hc (by omega)
  have hPP : P * P ≤ 5 * 5 := Nat.mul_le_mul hP5 hP5
  have hL : ∀ (d : Nat), d + 1 < 2 ^ 31 → nxM P N ru cb ba Wy a = nxV P (fun f t => match nbM P N ru cb ba a f t with | none => false | some y => decide (Wy y = some d)) → ∀ (m k : Nat) (fa qu : Nat → Int32) (qd : Int32) (lk : Nat → Int32) (l4 : Option Value), P * P < k + m → k ≤ P * P → frm (nxF P (fun f t => match nbM P N ru cb ba a f t with | none => false | some y => decide (Wy y = some d))) 1 0 (P * P) = frm (nxF P (fun f t => match nbM P N ru cb ba a f t with | none => false | some y => decide (Wy y = some d))) 1 k (P * P) →
      jJ K 0 0 18 [some (.ref (ad 0)), some (.int (nI a)), some (.int (nI (d + 1))), some (.int (nI k)), l4] [] (wM Y ad (nI 0) (nI P) (nI N) (bi ru) (nI mv0) s0 qd (fun d => nI (nf d)) (fun d => nI (gf d)) (fun d => bi (cb d)) (fun k => bi (ba k)) (fun k => nI (fr k)) (fun k => nI (tt k)) lk fa qu nb) := by
    intro d hd9 hnx m
    induction m with
    | zero => intro k fa qu qd lk l4 h1 h2; omega
    | succ m ih =>
      intro k fa qu qd lk l4 h1 h2 hk
      refine j_iload_n C dX1_next_18 rfl ?_
      refine j_aload_n C dX1_next_19 rfl ?_
      refine g1_pegs C dX1_next_20 ?_
      refine j_aload_n C dX1_next_23 rfl ?_
      refine g1_pegs C dX1_next_24 ?_
      refine j_imul C dX1_next_27 ?_
      refine j_top _ _ (pk_mul _ _) ?_
      refine jN_icmp_ge C 95 (by omega) (by omega) dX1_next_28 (by decide) (fun c_28 => ?_) (fun c_28 => ?_)
      · refine j_iconst C (-1) dX1_next_95 (by decide) ?_
        exact j_reti C R dX1_next_96 ⟨fa, qu, qd, lk, by rw [hnx]; show _ = nxO P _; rw [hk, frm_end c_28]; rfl, rfl⟩
      · refine j_iload_n C dX1_next_31 rfl ?_
        refine j_if_le C 95 dX1_next_32 (by decide) (fun c_32 => ?_) (fun c_32 => ?_)
        · exact absurd ((oI_le0 (o := some (d + 1)) (fun j h => by cases h; omega)).mp c_32 d) (fun q => q rfl)
        · refine j_aload_n C dX1_next_35 rfl ?_
          refine j_iload_n C dX1_next_36 rfl ?_
          refine j_iload_n C dX1_next_37 rfl ?_
          refine j_aload_n C dX1_next_38 rfl ?_
          refine g1_pegs C dX1_next_39 ?_
          refine j_idiv C dX1_next_42 (nI_ne0 hP0 (by omega)) ?_
          refine j_top _ (nI (k / P)) (pk_div (by omega) hP0 (by omega)) ?_
          refine j_iload_n C dX1_next_43 rfl ?_
          refine j_aload_n C dX1_next_44 rfl ?_
          refine g1_pegs C dX1_next_45 ?_
          refine j_irem C dX1_next_48 (nI_ne0 hP0 (by omega)) ?_
          refine j_top _ (nI (k % P)) (pk_rem (by omega) hP0 (by omega)) ?_
          refine j_callV3i C (ct_X1_behind hc ha (Nat.div_lt_of_lt_mul c_28) (Nat.mod_lt _ hP0)) gw_1_95 nd_X1_behind 1 0 rfl rfl rfl ⟨by decide, by decide⟩ ⟨Nat.le_of_ble_eq_true rfl, Nat.le_of_ble_eq_true rfl⟩ (Nat.le_of_ble_eq_true rfl) dX1_next_49 (fun x_1 w_1 hp => ?_)
          obtain ⟨rfl, lk2, rfl⟩ := hp
          refine j_istore_4 C dX1_next_52 (by decide) ?_
          refine j_iload C dX1_next_54 rfl ?_
          refine j_iconst C (-1) dX1_next_56 (by decide) ?_
          refine j_icmp_eq C 89 dX1_next_57 (by decide) (fun c_57 => ?_) (fun c_57 => ?_)
          · refine j_iinc_3 C _ (nI_p1 _) dX1_next_89 ?_
            refine j_goto C 18 dX1_next_92 (by decide) ?_
            exact ih (k + 1) fa qu qd lk2 _ (by omega) (by omega) (by rw [hk, nk_step c_28 (by show ¬ (match nbM P N ru cb ba a (k / P) (k % P) with | none => false | some y => decide (Wy y = some d)) = true; rw [(oI_m1 (fun j hj => by have := nbM_lt hP0 ha (Nat.mod_lt _ hP0) hj; omega)).mp c_57]; simp)])
          · rcases hnb : nbM P N ru cb ba a (k / P) (k % P) with _ | y
            · rw [hnb] at c_57; exact absurd rfl c_57
            have hy := nbM_lt hP0 ha (Nat.mod_lt _ hP0) hnb
            refine j_eq (lo' := [some (.ref (ad 0)), some (.int (nI a)), some (.int (nI (d + 1))), some (.int (nI k)), some (.int (nI y))]) rfl rfl rfl ?_
            refine j_aload_n C dX1_next_60 rfl ?_
            refine j_iload C dX1_next_61 rfl ?_
            refine j_callV1i C (ct_X1_wayFrom (x := y) hc hy hb hg) gw_1_114 nd_X1_wayFrom 1 0 rfl rfl rfl ⟨by decide, by decide⟩ ⟨Nat.le_of_ble_eq_true rfl, Nat.le_of_ble_eq_true rfl⟩ (Nat.le_of_ble_eq_true rfl) dX1_next_63 (fun x_1 w_1 hp => ?_)
            obtain ⟨fo2, ds2, s2, qu2, lk3, rfl, hsr2, hst2, rfl⟩ := hp
            refine j_top _ (oI (Wy y)) (by rw [hW y hy ds2 (srF_D hsr2)]) ?_
            refine j_iload_n C dX1_next_66 rfl ?_
            refine j_iconst C (nI 1) dX1_next_67 (by decide) ?_
            refine j_isub C dX1_next_68 ?_
            refine j_top _ (nI d) (nI_pr d) ?_
            refine j_icmp_ne C 89 dX1_next_69 (by decide) (fun c_69 => ?_) (fun c_69 => ?_)
            · refine j_iinc_3 C _ (nI_p1 _) dX1_next_89 ?_
              refine j_goto C 18 dX1_next_92 (by decide) ?_
              exact ih (k + 1) s2 qu2 (nI fo2) lk3 _ (by omega) (by omega) (by rw [hk, nk_step c_28 (by show ¬ (match nbM P N ru cb ba a (k / P) (k % P) with | none => false | some y => decide (Wy y = some d)) = true; rw [hnb]; exact fun q => c_69 ((oI_nI (fun j h => hWb _ j h) (by omega)).mpr (of_decide_eq_true q)))])
            · refine j_bipush C (nI 10) dX1_next_72 (by decide) ?_
              refine j_iload_n C dX1_next_74 rfl ?_
              refine j_aload_n C dX1_next_75 rfl ?_
              refine g1_pegs C dX1_next_76 ?_
              refine j_idiv C dX1_next_79 (nI_ne0 hP0 (by omega)) ?_
              refine j_top _ (nI (k / P)) (pk_div (by omega) hP0 (by omega)) ?_
              refine j_imul C dX1_next_80 ?_
              refine j_top _ _ (pk_mul _ _) ?_
              refine j_iload_n C dX1_next_81 rfl ?_
              refine j_aload_n C dX1_next_82 rfl ?_
              refine g1_pegs C dX1_next_83 ?_
              refine j_irem C dX1_next_86 (nI_ne0 hP0 (by omega)) ?_
              refine j_top _ (nI (k % P)) (pk_rem (by omega) hP0 (by omega)) ?_
              refine j_iadd C dX1_next_87 ?_
              refine j_top _ _ (nI_add _ _) ?_
              exact j_reti C R dX1_next_88 ⟨s2, qu2, nI fo2, lk3, by rw [hnx]; show _ = nxO P _; rw [hk, nk_hit c_28 (by show (match nbM P N ru cb ba a (k / P) (k % P) with | none => false | some y => decide (Wy y = some d)) = true; rw [hnb]; exact decide_eq_true ((oI_nI (fun j h => hWb _ j h) (by omega)).mp c_69))], rfl⟩
  refine j_aload_n C dX1_next_0 rfl ?_
  refine j_iconst C (nI 0) dX1_next_1 (by decide) ?_
  refine p1_thrown C dX1_next_2 ?_
  refine j_aload_n C dX1_next_5 rfl ?_
  refine j_callV0i C (ct_X1_numberOfNow hc ha hn) gw_1_92 nd_X1_numberOfNow 1 0 rfl rfl rfl ⟨by decide, by decide⟩ ⟨Nat.le_of_ble_eq_true rfl, Nat.le_of_ble_eq_true rfl⟩ (Nat.le_of_ble_eq_true rfl) dX1_next_6 (fun x_1 w_1 hp => ?_)
  obtain ⟨rfl, rfl⟩ := hp
  refine j_istore_1 C dX1_next_9 (by decide) ?_
  refine j_aload_n C dX1_next_10 rfl ?_
  refine j_iload_n C dX1_next_11 rfl ?_
  refine j_callV1i C (ct_X1_wayFrom (x := a) hc ha hb hg) gw_1_114 nd_X1_wayFrom 1 0 rfl rfl rfl ⟨by decide, by decide⟩ ⟨Nat.le_of_ble_eq_true rfl, Nat.le_of_ble_eq_true rfl⟩ (Nat.le_of_ble_eq_true rfl) dX1_next_12 (fun x_1 w_1 hp => ?_)
  obtain ⟨fo1, ds1, s1, qu1, lk1, rfl, hsr, hst, rfl⟩ := hp
  refine j_top _ (oI (Wy a)) (by rw [hW a ha ds1 (srF_D hsr)]) ?_
  refine j_istore_2 C dX1_next_15 (by decide) ?_
  refine j_iconst C (nI 0) dX1_next_16 (by decide) ?_
  refine j_istore_3 C dX1_next_17 (by decide) ?_
  by_cases hx : ∃ d, Wy a = some (d + 1)
  · obtain ⟨d, hd⟩ := hx
    have hd9 := hWb a _ hd
    refine j_eq (lo' := [some (.ref (ad 0)), some (.int (nI a)), some (.int (nI (d + 1))), some (.int (nI 0)), none]) (by rw [hd]; rfl) rfl rfl ?_
    exact hL d (by omega) (by unfold nxM; rw [hd]) (P * P + 1) 0 s1 qu1 (nI fo1) lk1 _ (by omega) (Nat.zero_le _) rfl
  · have hno : ∀ d, Wy a ≠ some (d + 1) := fun d q => hx ⟨d, q⟩
    have hnv : nxM P N ru cb ba Wy a = -1 := by
      unfold nxM
      rcases e : Wy a with _ | d
      · rfl
      · rcases d with _ | d
        · rfl
        · exact absurd e (hno d)
    refine j_iload_n C dX1_next_18 rfl ?_
    refine j_aload_n C dX1_next_19 rfl ?_
    refine g1_pegs C dX1_next_20 ?_
    refine j_aload_n C dX1_next_23 rfl ?_
    refine g1_pegs C dX1_next_24 ?_
    refine j_imul C dX1_next_27 ?_
    refine j_top _ _ (pk_mul _ _) ?_
    refine jN_icmp_ge C 95 (by omega) (by omega) dX1_next_28 (by decide) (fun c_28 => ?_) (fun c_28 => ?_)
    · exact absurd c_28 (by have := Nat.mul_le_mul hP3 hP3; omega)
    · refine j_iload_n C dX1_next_31 rfl ?_
      refine j_if_le C 95 dX1_next_32 (by decide) (fun c_32 => ?_) (fun c_32 => ?_)
      · refine j_iconst C (-1) dX1_next_95 (by decide) ?_
        exact j_reti C R dX1_next_96 ⟨s1, qu1, nI fo1, lk1, by rw [hnv], rfl⟩
      · exact absurd ((oI_le0 (fun j h => hWb _ j h)).mpr hno) c_32
