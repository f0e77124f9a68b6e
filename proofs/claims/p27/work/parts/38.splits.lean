theorem nI_min {x y : Nat} (hx : x < 2 ^ 31) (hy : y < 2 ^ 31) : (if nI y < nI x then nI y else nI x) = nI (if y < x then y else x) := by
  by_cases h : y < x
  · rw [if_pos h, if_pos ((nI_ltI hy hx).mpr h)]
  · rw [if_neg h, if_neg (fun q => h ((nI_ltI hy hx).mp q))]
/-- the largest place where two differ -/
def lgd (f g : Nat → Nat) : Nat → Option Nat
  | 0 => none
  | n + 1 => if f n = g n then lgd f g n else some n
def wbO (f g : Nat → Nat) (L : Nat) : Nat := gth f L (3 - f L - g L) + gth g L (3 - f L - g L) + 1
def wbT (f g : Nat → Nat) (L : Nat) : Nat := gth f L (g L) + gth g L (f L) + 2 ^ L + 1
def wbV (f g : Nat → Nat) (N : Nat) : Nat := match lgd f g N with
  | none => 0
  | some L => if wbT f g L < wbO f g L then wbT f g L else wbO f g L
/-- the numbers for splits -/
def spL : List Nat := [0, 1, 3, 7, 15, 31, 63, 127, 255, 511, 1023, 2047, 4095, 8191, 16383, 32767, 65535, 131071, 262143, 524287, 1048575, 0, 1, 3, 5, 9, 13, 17, 25, 33, 41, 49, 65, 81, 97, 113, 129, 161, 193, 225, 257, 289, 0, 1, 3, 5, 7, 11, 15, 19, 23, 27, 31, 39, 47, 55, 63, 71, 79, 87, 95, 103, 111]
def spT (i : Nat) : Nat := spL.getD i 0
def spG (e m : Nat) : Nat → Nat := fun k => 2 * spT (e * 21 + k) + spT ((e - 1) * 21 + (m - k))
def mnX (g : Nat → Nat) : Nat → Nat
  | 0 => 2147483647
  | j + 1 => if g (j + 1) < mnX g j then g (j + 1) else mnX g j
theorem sp_0 : ∀ m, m < 21 → spT m = 2 ^ m - 1 := by decide +kernel
theorem sp_1 : ∀ e, e < 3 → ∀ m, m < 2 → 0 < e → spT (e * 21 + m) = m := by decide +kernel
theorem sp_2 : ∀ e, e < 3 → ∀ m, m < 21 → 0 < e → 2 ≤ m → mnX (spG e m) (m - 1) = spT (e * 21 + m) := by decide +kernel
theorem sp_lt : ∀ i, i < 63 → spT i < 1048576 := by decide +kernel
theorem mnX_le {g : Nat → Nat} : ∀ {j : Nat}, mnX g j ≤ 2147483647
  | 0 => Nat.le_refl _
  | j + 1 => by
    rw [mnX]
    have := mnX_le (g := g) (j := j)
    split <;> omega
def stA (mv0 : Nat) (tr : Nat → Nat) (a : Nat) : Nat := if 0 < mv0 then tr 0 else a
abbrev rm_X0_wayByDisks : Room := { frames := 6, cells := 1, slots := 6, locals := 82 }
set_option maxHeartbeats 4000000 in
set_option maxRecDepth 100000 in
theorem ct_X0_wayByDisks {l : Launch} {D : va_G} {Y : jy_T} {ad : Nat → Nat} {P N a b mv0 : Nat} {ru me : Bool} {cb al : Nat → Bool} {tr : Nat → Nat} {to fa se qu sp : Nat → Int32} (hc : cfg P N) (ha : a < P ^ N) (hb : b < P ^ N) (hl : l.stackTraces = false) :
    MX l yX0_wayByDisks cX0_wayByDisks 7 (some .int) rm_X0_wayByDisks D Y [.ref (ad 0)] (wA Y ad (nI P) (nI N) (bi ru) (nI a) (nI b) (nI mv0) (bi me) (fun d => nI (P ^ d)) (fun d => bi (cb d)) (fun k => bi (al k)) (fun k => nI (tr k)) to fa se qu sp) (jI (fun r w => P = 3 ∧ ru = false ∧ alB al 0 25 = true ∧ r = nI (wbV (dg 3 a) (dg 3 b) N) ∧ w = (wA Y ad (nI P) (nI N) (bi ru) (nI a) (nI b) (nI mv0) (bi me) (fun d => nI (P ^ d)) (fun d => bi (cb d)) (fun k => bi (al k)) (fun k => nI (tr k)) to fa se qu sp))) (fun E w => E = xISE ∧ ¬ (P = 3 ∧ ru = false ∧ alB al 0 25 = true) ∧ w = (wA Y ad (nI P) (nI N) (bi ru) (nI a) (nI b) (nI mv0) (bi me) (fun d => nI (P ^ d)) (fun d => bi (cb d)) (fun k => bi (al k)) (fun k => nI (tr k)) to fa se qu sp)) := by
  refine j_enterX hl (by decide) (Nat.le_of_ble_eq_true rfl) (fun v hv => by rw [List.mem_singleton.mp hv]; rfl) (fun K hl2 hD C R X T => ?_)
  subst hl2; subst hD
  have C : jC cX0_wayByDisks RX0 Y rm_X0_wayByDisks 7 K := C
  have R : jR Y (some .int) 1 6 (jI (fun r w => P = 3 ∧ ru = false ∧ alB al 0 25 = true ∧ r = nI (wbV (dg 3 a) (dg 3 b) N) ∧ w = (wA Y ad (nI P) (nI N) (bi ru) (nI a) (nI b) (nI mv0) (bi me) (fun d => nI (P ^ d)) (fun d => bi (cb d)) (fun k => bi (al k)) (fun k => nI (tr k)) to fa se qu sp))) K := R
  have T : jT Y 1 6 (jI (fun r w => P = 3 ∧ ru = false ∧ alB al 0 25 = true ∧ r = nI (wbV (dg 3 a) (dg 3 b) N) ∧ w = (wA Y ad (nI P) (nI N) (bi ru) (nI a) (nI b) (nI mv0) (bi me) (fun d => nI (P ^ d)) (fun d => bi (cb d)) (fun k => bi (al k)) (fun k => nI (tr k)) to fa se qu sp))) (fun E w => E = xISE ∧ ¬ (P = 3 ∧ ru = false ∧ alB al 0 25 = true) ∧ w = (wA Y ad (nI P) (nI N) (bi ru) (nI a) (nI b) (nI mv0) (bi me) (fun d => nI (P ^ d)) (fun d => bi (cb d)) (fun k => bi (al k)) (fun k => nI (tr k)) to fa se qu sp)) K := T
  refine j_eq (lo' := [some (.ref (ad 0)), none, none, none, none, none, none]) rfl rfl rfl ?_
  obtain ⟨hP3, hP5, hN1, hN6⟩ := id hc
  have hP0 : 0 < P := by omega
  have hp2 : P ^ N ≤ 15625 := cfg_pw hc (by omega)
  have hW : P = 3 → ru = false → alB al 0 25 = true → jJ K 0 0 32 [some (.ref (ad 0)), none, none, none, none, none, none] [] (wA Y ad (nI P) (nI N) (bi ru) (nI a) (nI b) (nI mv0) (bi me) (fun d => nI (P ^ d)) (fun d => bi (cb d)) (fun k => bi (al k)) (fun k => nI (tr k)) to fa se qu sp) := by
    intro hP hru hal
    subst hP
    have hL : ∀ (i : Nat), i ≤ N → lgd (dg 3 a) (dg 3 b) N = lgd (dg 3 a) (dg 3 b) i → jJ K 0 0 39 [some (.ref (ad 0)), some (.int (nI i - nI 1)), none, none, none, none, none] [] (wA Y ad (nI 3) (nI N) (bi ru) (nI a) (nI b) (nI mv0) (bi me) (fun d => nI (3 ^ d)) (fun d => bi (cb d)) (fun k => bi (al k)) (fun k => nI (tr k)) to fa se qu sp) := by
      intro i
      induction i with
      | zero =>
        intro h1 hg
        refine j_iload_n C dX0_wayByDisks_39 rfl ?_
        refine j_if_lt C 70 dX0_wayByDisks_40 (by decide) (fun c_40 => ?_) (fun c_40 => ?_)
        · refine j_iload_n C dX0_wayByDisks_70 rfl ?_
          refine j_if_ge C 76 dX0_wayByDisks_71 (by decide) (fun c_71 => ?_) (fun c_71 => ?_)
          · exact absurd c_71 (by decide)
          · refine j_iconst C (nI 0) dX0_wayByDisks_74 (by decide) ?_
            refine j_widen (Nat.zero_le 1) (Nat.zero_le 6) ?_
            exact j_reti C R dX0_wayByDisks_75 ⟨rfl, hru, hal, by unfold wbV; rw [hg]; rfl, rfl⟩
        · exact absurd (by decide) c_40
      | succ j ih =>
        intro h1 hg
        refine j_eq (lo' := [some (.ref (ad 0)), some (.int (nI j)), none, none, none, none, none]) (by rw [nI_pr]) rfl rfl ?_
        refine j_iload_n C dX0_wayByDisks_39 rfl ?_
        refine j_if_lt C 70 dX0_wayByDisks_40 (by decide) (fun c_40 => ?_) (fun c_40 => ?_)
        · exact absurd c_40 (nI_nlt0 (by omega))
        · refine j_aload_n C dX0_wayByDisks_43 rfl ?_
          refine j_aload_n C dX0_wayByDisks_44 rfl ?_
          refine g0_now C dX0_wayByDisks_45 ?_
          refine j_iload_n C dX0_wayByDisks_48 rfl ?_
          refine j_callV2i C (ct_X0_pegIn hc (by omega) (by omega)) gw_0_80 nd_X0_pegIn 0 0 rfl rfl rfl ⟨by decide, by decide⟩ ⟨Nat.le_of_ble_eq_true rfl, Nat.le_of_ble_eq_true rfl⟩ (Nat.le_of_ble_eq_true rfl) dX0_wayByDisks_49 (fun x_1 w_1 hp => ?_)
          obtain ⟨rfl, rfl⟩ := hp
          refine j_aload_n C dX0_wayByDisks_52 rfl ?_
          refine j_aload_n C dX0_wayByDisks_53 rfl ?_
          refine g0_target C dX0_wayByDisks_54 ?_
          refine j_iload_n C dX0_wayByDisks_57 rfl ?_
          refine j_callV2i C (ct_X0_pegIn hc (by omega) (by omega)) gw_0_80 nd_X0_pegIn 0 0 rfl rfl rfl ⟨by decide, by decide⟩ ⟨Nat.le_of_ble_eq_true rfl, Nat.le_of_ble_eq_true rfl⟩ (Nat.le_of_ble_eq_true rfl) dX0_wayByDisks_58 (fun x_1 w_1 hp => ?_)
          obtain ⟨rfl, rfl⟩ := hp
          have ha3 : dg 3 a j < 3 := dg_lt (by omega)
          have hb3 : dg 3 b j < 3 := dg_lt (by omega)
          refine jN_icmp_ne C 70 (by omega) (by omega) dX0_wayByDisks_61 (by decide) (fun c_61 => ?_) (fun c_61 => ?_)
          · refine j_iload_n C dX0_wayByDisks_70 rfl ?_
            refine j_if_ge C 76 dX0_wayByDisks_71 (by decide) (fun c_71 => ?_) (fun c_71 => ?_)
            · refine j_aload_n C dX0_wayByDisks_76 rfl ?_
              refine j_aload_n C dX0_wayByDisks_77 rfl ?_
              refine g0_now C dX0_wayByDisks_78 ?_
              refine j_iload_n C dX0_wayByDisks_81 rfl ?_
              refine j_callV2i C (ct_X0_pegIn hc (by omega) (by omega)) gw_0_80 nd_X0_pegIn 0 0 rfl rfl rfl ⟨by decide, by decide⟩ ⟨Nat.le_of_ble_eq_true rfl, Nat.le_of_ble_eq_true rfl⟩ (Nat.le_of_ble_eq_true rfl) dX0_wayByDisks_82 (fun x_1 w_1 hp => ?_)
              obtain ⟨rfl, rfl⟩ := hp
              refine j_istore_2 C dX0_wayByDisks_85 (by decide) ?_
              refine j_aload_n C dX0_wayByDisks_86 rfl ?_
              refine j_aload_n C dX0_wayByDisks_87 rfl ?_
              refine g0_target C dX0_wayByDisks_88 ?_
              refine j_iload_n C dX0_wayByDisks_91 rfl ?_
              refine j_callV2i C (ct_X0_pegIn hc (by omega) (by omega)) gw_0_80 nd_X0_pegIn 0 0 rfl rfl rfl ⟨by decide, by decide⟩ ⟨Nat.le_of_ble_eq_true rfl, Nat.le_of_ble_eq_true rfl⟩ (Nat.le_of_ble_eq_true rfl) dX0_wayByDisks_92 (fun x_1 w_1 hp => ?_)
              obtain ⟨rfl, rfl⟩ := hp
              refine j_istore_3 C dX0_wayByDisks_95 (by decide) ?_
              refine j_iload_n C dX0_wayByDisks_96 rfl ?_
              refine j_iload_n C dX0_wayByDisks_97 rfl ?_
              refine j_callS2i C (ct_X0_thirdPeg (ad := ad) (by omega)) gw_0_137 rfl nd_X0_thirdPeg ⟨by decide, by decide⟩ ⟨Nat.le_of_ble_eq_true rfl, Nat.le_of_ble_eq_true rfl⟩ (Nat.le_of_ble_eq_true rfl) dX0_wayByDisks_98 (fun x_1 w_1 hp => ?_)
              obtain ⟨rfl, rfl⟩ := hp
              refine j_istore_4 C dX0_wayByDisks_101 (by decide) ?_
              refine j_aload_n C dX0_wayByDisks_103 rfl ?_
              refine j_aload_n C dX0_wayByDisks_104 rfl ?_
              refine g0_now C dX0_wayByDisks_105 ?_
              refine j_iload_n C dX0_wayByDisks_108 rfl ?_
              refine j_iload C dX0_wayByDisks_109 rfl ?_
              refine j_callV3i C (ct_X0_gather (by omega) (by omega) (by omega)) gw_0_140 nd_X0_gather 0 0 rfl rfl rfl ⟨by decide, by decide⟩ ⟨Nat.le_of_ble_eq_true rfl, Nat.le_of_ble_eq_true rfl⟩ (Nat.le_of_ble_eq_true rfl) dX0_wayByDisks_111 (fun x_1 w_1 hp => ?_)
              obtain ⟨rfl, rfl⟩ := hp
              refine j_aload_n C dX0_wayByDisks_114 rfl ?_
              refine j_aload_n C dX0_wayByDisks_115 rfl ?_
              refine g0_target C dX0_wayByDisks_116 ?_
              refine j_iload_n C dX0_wayByDisks_119 rfl ?_
              refine j_iload C dX0_wayByDisks_120 rfl ?_
              refine j_callV3i C (ct_X0_gather (by omega) (by omega) (by omega)) gw_0_140 nd_X0_gather 0 0 rfl rfl rfl ⟨by decide, by decide⟩ ⟨Nat.le_of_ble_eq_true rfl, Nat.le_of_ble_eq_true rfl⟩ (Nat.le_of_ble_eq_true rfl) dX0_wayByDisks_122 (fun x_1 w_1 hp => ?_)
              obtain ⟨rfl, rfl⟩ := hp
              refine j_iadd C dX0_wayByDisks_125 ?_
              refine j_top _ _ (nI_add _ _) ?_
              refine j_iconst C (nI 1) dX0_wayByDisks_126 (by decide) ?_
              refine j_iadd C dX0_wayByDisks_127 ?_
              refine j_top _ _ (nI_add _ _) ?_
              refine j_istore_5 C dX0_wayByDisks_128 (by decide) ?_
              refine j_aload_n C dX0_wayByDisks_130 rfl ?_
              refine j_aload_n C dX0_wayByDisks_131 rfl ?_
              refine g0_now C dX0_wayByDisks_132 ?_
              refine j_iload_n C dX0_wayByDisks_135 rfl ?_
              refine j_iload_n C dX0_wayByDisks_136 rfl ?_
              refine j_callV3i C (ct_X0_gather (by omega) (by omega) (by omega)) gw_0_140 nd_X0_gather 0 0 rfl rfl rfl ⟨by decide, by decide⟩ ⟨Nat.le_of_ble_eq_true rfl, Nat.le_of_ble_eq_true rfl⟩ (Nat.le_of_ble_eq_true rfl) dX0_wayByDisks_137 (fun x_1 w_1 hp => ?_)
              obtain ⟨rfl, rfl⟩ := hp
              refine j_aload_n C dX0_wayByDisks_140 rfl ?_
              refine j_aload_n C dX0_wayByDisks_141 rfl ?_
              refine g0_target C dX0_wayByDisks_142 ?_
              refine j_iload_n C dX0_wayByDisks_145 rfl ?_
              refine j_iload_n C dX0_wayByDisks_146 rfl ?_
              refine j_callV3i C (ct_X0_gather (by omega) (by omega) (by omega)) gw_0_140 nd_X0_gather 0 0 rfl rfl rfl ⟨by decide, by decide⟩ ⟨Nat.le_of_ble_eq_true rfl, Nat.le_of_ble_eq_true rfl⟩ (Nat.le_of_ble_eq_true rfl) dX0_wayByDisks_147 (fun x_1 w_1 hp => ?_)
              obtain ⟨rfl, rfl⟩ := hp
              refine j_iadd C dX0_wayByDisks_150 ?_
              refine j_top _ _ (nI_add _ _) ?_
              refine j_iconst C (nI 1) dX0_wayByDisks_151 (by decide) ?_
              refine j_iload_n C dX0_wayByDisks_152 rfl ?_
              refine j_ishl C dX0_wayByDisks_153 ?_
              refine j_top _ (nI (2 ^ j)) (shl1 j (by omega)) ?_
              refine j_iadd C dX0_wayByDisks_154 ?_
              refine j_top _ _ (nI_add _ _) ?_
              refine j_iconst C (nI 1) dX0_wayByDisks_155 (by decide) ?_
              refine j_iadd C dX0_wayByDisks_156 ?_
              refine j_top _ _ (nI_add _ _) ?_
              refine j_istore_6 C dX0_wayByDisks_157 (by decide) ?_
              have hg1 := gth_lt (f := dg 3 a) (m := j) (g := 3 - dg 3 a j - dg 3 b j)
              have hg2 := gth_lt (f := dg 3 b) (m := j) (g := 3 - dg 3 a j - dg 3 b j)
              have hg3 := gth_lt (f := dg 3 a) (m := j) (g := dg 3 b j)
              have hg4 := gth_lt (f := dg 3 b) (m := j) (g := dg 3 a j)
              have hj64 : 2 ^ j ≤ 2 ^ 6 := Nat.pow_le_pow_right (by omega) (by omega)
              refine j_iload C dX0_wayByDisks_159 rfl ?_
              refine j_iload C dX0_wayByDisks_161 rfl ?_
              refine j_mmin C wd_ml0_143 (by decide) (Nat.le_of_ble_eq_true rfl) (Nat.zero_le _) (Nat.zero_le _) dX0_wayByDisks_163 ?_
              refine j_top _ _ (nI_min (by omega) (by omega)) ?_
              refine j_widen (Nat.zero_le 1) (Nat.zero_le 6) ?_
              exact j_reti C R dX0_wayByDisks_166 ⟨rfl, hru, hal, by unfold wbV; rw [hg, lgd, if_neg c_61]; rfl, rfl⟩
            · exact absurd (nI_pos' (by omega)) c_71
          · refine j_iinc_1 C _ (nI_m1 _) dX0_wayByDisks_64 ?_
            refine j_goto C 39 dX0_wayByDisks_67 (by decide) ?_
            exact ih (by omega) (by rw [hg, lgd, if_pos c_61])
    refine j_aload_n C dX0_wayByDisks_32 rfl ?_
    refine g0_diskCount C dX0_wayByDisks_33 ?_
    refine j_iconst C (nI 1) dX0_wayByDisks_36 (by decide) ?_
    refine j_isub C dX0_wayByDisks_37 ?_
    refine j_top _ (nI N - nI 1) rfl ?_
    refine j_istore_1 C dX0_wayByDisks_38 (by decide) ?_
    exact hL N (Nat.le_refl _) rfl
  refine j_aload_n C dX0_wayByDisks_0 rfl ?_
  refine g0_pegCount C dX0_wayByDisks_1 ?_
  refine j_iconst C (nI 3) dX0_wayByDisks_4 (by decide) ?_
  refine jN_icmp_gt C 22 (by omega) (by omega) dX0_wayByDisks_5 (by decide) (fun c_5 => ?_) (fun c_5 => ?_)
  · exact j_thr3 C X T wd_cl0_72 (is := 135) (j := 9) rfl dX0_wayByDisks_22 dX0_wayByDisks_25 dX0_wayByDisks_26 dX0_wayByDisks_28 dX0_wayByDisks_31 (by decide) (by decide) (by decide) (by decide) (by decide) (by decide) ⟨rfl, fun q => by omega, rfl⟩
  · refine j_aload_n C dX0_wayByDisks_8 rfl ?_
    refine g0_ruleOn C dX0_wayByDisks_9 ?_
    refine jB_if_ne C 22 dX0_wayByDisks_12 (by decide) (fun c_12 => ?_) (fun c_12 => ?_)
    · exact j_thr3 C X T wd_cl0_72 (is := 135) (j := 9) rfl dX0_wayByDisks_22 dX0_wayByDisks_25 dX0_wayByDisks_26 dX0_wayByDisks_28 dX0_wayByDisks_31 (by decide) (by decide) (by decide) (by decide) (by decide) (by decide) ⟨rfl, fun q => by rw [c_12] at q; exact absurd q.2.1 (by decide), rfl⟩
    · refine j_aload_n C dX0_wayByDisks_15 rfl ?_
      refine j_callV0i C (ct_X0_isAnyBarred) gw_0_131 nd_X0_isAnyBarred 0 0 rfl rfl rfl ⟨by decide, by decide⟩ ⟨Nat.le_of_ble_eq_true rfl, Nat.le_of_ble_eq_true rfl⟩ (Nat.le_of_ble_eq_true rfl) dX0_wayByDisks_16 (fun x_1 w_1 hp => ?_)
      obtain ⟨rfl, rfl⟩ := hp
      refine jB_if_eq C 32 dX0_wayByDisks_19 (by decide) (fun c_19 => ?_) (fun c_19 => ?_)
      · exact hW (by omega) c_12 (by simpa using c_19)
      · exact j_thr3 C X T wd_cl0_72 (is := 135) (j := 9) rfl dX0_wayByDisks_22 dX0_wayByDisks_25 dX0_wayByDisks_26 dX0_wayByDisks_28 dX0_wayByDisks_31 (by decide) (by decide) (by decide) (by decide) (by decide) (by decide) ⟨rfl, fun q => by rw [q.2.2] at c_19; exact absurd c_19 (by decide), rfl⟩
abbrev rm_X0_lost : Room := { frames := 6, cells := 1, slots := 6, locals := 122 }
set_option maxHeartbeats 4000000 in
set_option maxRecDepth 100000 in
theorem ct_X0_lost {l : Launch} {D : va_G} {Y : jy_T} {ad : Nat → Nat} {P N a b mv0 : Nat} {ru me : Bool} {cb al : Nat → Bool} {tr : Nat → Nat} {to fa se qu sp : Nat → Int32} (hc : cfg P N) (ha : a < P ^ N) (hb : b < P ^ N) (hm : me = true → farOk P N ru cb al b fa) (hm0 : mv0 ≤ 500) (htr : ∀ k, k < mv0 → tr k < P ^ N) (hl : l.stackTraces = false) :
    MX l yX0_lost cX0_lost 3 (some .int) rm_X0_lost D Y [.ref (ad 0)] (wA Y ad (nI P) (nI N) (bi ru) (nI a) (nI b) (nI mv0) (bi me) (fun d => nI (P ^ d)) (fun d => bi (cb d)) (fun k => bi (al k)) (fun k => nI (tr k)) to fa se qu sp) (jI (fun r w => ∃ ds1 fa1 qu1 to1, srD (P ^ N) P (nbC P N ru cb al true) b (lawB P N ru cb b) ds1 ∧ stR (P ^ N) fa1 ds1 ∧ ds1 a ≠ none ∧ ds1 (stA mv0 tr a) ≠ none ∧ r = nI mv0 + oI (ds1 a) - oI (ds1 (stA mv0 tr a)) ∧ w = (wA Y ad (nI P) (nI N) (bi ru) (nI a) (nI b) (nI mv0) (bi true) (fun d => nI (P ^ d)) (fun d => bi (cb d)) (fun k => bi (al k)) (fun k => nI (tr k)) to1 fa1 se qu1 sp))) (fun E w => E = xISE ∧ ∃ ds1 fa1 qu1 to1, srD (P ^ N) P (nbC P N ru cb al true) b (lawB P N ru cb b) ds1 ∧ stR (P ^ N) fa1 ds1 ∧ (ds1 a = none ∨ ds1 (stA mv0 tr a) = none) ∧ w = (wA Y ad (nI P) (nI N) (bi ru) (nI a) (nI b) (nI mv0) (bi true) (fun d => nI (P ^ d)) (fun d => bi (cb d)) (fun k => bi (al k)) (fun k => nI (tr k)) to1 fa1 se qu1 sp)) := by
  refine j_enterX hl (by decide) (Nat.le_of_ble_eq_true rfl) (fun v hv => by rw [List.mem_singleton.mp hv]; rfl) (fun K hl2 hD C R X T => ?_)
  subst hl2; subst hD
  have C : jC cX0_lost RX0 Y rm_X0_lost 3 K := C
  have R : jR Y (some .int) 1 6 (jI (fun r w => ∃ ds1 fa1 qu1 to1, srD (P ^ N) P (nbC P N ru cb al true) b (lawB P N ru cb b) ds1 ∧ stR (P ^ N) fa1 ds1 ∧ ds1 a ≠ none ∧ ds1 (stA mv0 tr a) ≠ none ∧ r = nI mv0 + oI (ds1 a) - oI (ds1 (stA mv0 tr a)) ∧ w = (wA Y ad (nI P) (nI N) (bi ru) (nI a) (nI b) (nI mv0) (bi true) (fun d => nI (P ^ d)) (fun d => bi (cb d)) (fun k => bi (al k)) (fun k => nI (tr k)) to1 fa1 se qu1 sp))) K := R
  have T : jT Y 1 6 (jI (fun r w => ∃ ds1 fa1 qu1 to1, srD (P ^ N) P (nbC P N ru cb al true) b (lawB P N ru cb b) ds1 ∧ stR (P ^ N) fa1 ds1 ∧ ds1 a ≠ none ∧ ds1 (stA mv0 tr a) ≠ none ∧ r = nI mv0 + oI (ds1 a) - oI (ds1 (stA mv0 tr a)) ∧ w = (wA Y ad (nI P) (nI N) (bi ru) (nI a) (nI b) (nI mv0) (bi true) (fun d => nI (P ^ d)) (fun d => bi (cb d)) (fun k => bi (al k)) (fun k => nI (tr k)) to1 fa1 se qu1 sp))) (fun E w => E = xISE ∧ ∃ ds1 fa1 qu1 to1, srD (P ^ N) P (nbC P N ru cb al true) b (lawB P N ru cb b) ds1 ∧ stR (P ^ N) fa1 ds1 ∧ (ds1 a = none ∨ ds1 (stA mv0 tr a) = none) ∧ w = (wA Y ad (nI P) (nI N) (bi ru) (nI a) (nI b) (nI mv0) (bi true) (fun d => nI (P ^ d)) (fun d => bi (cb d)) (fun k => bi (al k)) (fun k => nI (tr k)) to1 fa1 se qu1 sp)) K := T
  refine j_eq (lo' := [some (.ref (ad 0)), none, none]) rfl rfl rfl ?_
  obtain ⟨hP3, hP5, hN1, hN6⟩ := id hc
  have hP0 : 0 < P := by omega
  have hp2 : P ^ N ≤ 15625 := cfg_pw hc (by omega)
  refine j_aload_n C dX0_lost_0 rfl ?_
  refine j_aload_n C dX0_lost_1 rfl ?_
  refine g0_now C dX0_lost_2 ?_
  refine j_callV1i C (ct_X0_wayFrom hc hb ha hm) gw_0_127 nd_X0_wayFrom 0 0 rfl rfl rfl ⟨by decide, by decide⟩ ⟨Nat.le_of_ble_eq_true rfl, Nat.le_of_ble_eq_true rfl⟩ (Nat.le_of_ble_eq_true rfl) dX0_lost_5 (fun x_1 w_1 hp => ?_)
  obtain ⟨ds, fa1, qu1, to1, rfl, hsr, hst, rfl⟩ := hp
  refine j_istore_1 C dX0_lost_8 (by decide) ?_
  refine j_aload_n C dX0_lost_9 rfl ?_
  refine j_aload_n C dX0_lost_10 rfl ?_
  refine g0_moveCount C dX0_lost_11 ?_
  refine j_if_le C 26 dX0_lost_14 (by decide) (fun c_14 => ?_) (fun c_14 => ?_)
  · have hz : mv0 = 0 := by have h : nI mv0 ≤ nI 0 := c_14; rw [nI_leI (by omega) (by omega)] at h; omega
    have hsA : stA mv0 tr a = a := by unfold stA; rw [if_neg (by omega)]
    refine j_aload_n C dX0_lost_26 rfl ?_
    refine g0_now C dX0_lost_27 ?_
    refine j_callV1i C (ct_X0_wayFrom (x := a) hc hb ha (fun _ => ⟨ds, hsr, hst⟩)) gw_0_127 nd_X0_wayFrom 0 0 rfl rfl rfl ⟨by decide, by decide⟩ ⟨Nat.le_of_ble_eq_true rfl, Nat.le_of_ble_eq_true rfl⟩ (Nat.le_of_ble_eq_true rfl) dX0_lost_30 (fun x_1 w_1 hp => ?_)
    obtain ⟨ds2, fa2, qu2, to2, rfl, hsr2, hst2, rfl⟩ := hp
    refine j_top _ (oI (ds (stA mv0 tr a))) (by rw [hsA, srD_one hsr hsr2]) ?_
    refine j_istore_2 C dX0_lost_33 (by decide) ?_
    refine j_iload_n C dX0_lost_34 rfl ?_
    refine j_iconst C (-1) dX0_lost_35 (by decide) ?_
    refine j_icmp_eq C 44 dX0_lost_36 (by decide) (fun c_36 => ?_) (fun c_36 => ?_)
    · exact j_thr3 C X T wd_cl0_72 (is := 148) (j := 10) rfl dX0_lost_44 dX0_lost_47 dX0_lost_48 dX0_lost_50 dX0_lost_53 (by decide) (by decide) (by decide) (by decide) (by decide) (by decide) ⟨rfl, ⟨ds, fa2, qu2, to2, hsr, fun y hy => by rw [srD_one hsr hsr2]; exact hst2 y hy, Or.inl ((oI_m1 (fun j h => srD_lt hsr hp2 _ j h)).mp c_36), rfl⟩⟩
    · refine j_iload_n C dX0_lost_39 rfl ?_
      refine j_iconst C (-1) dX0_lost_40 (by decide) ?_
      refine j_icmp_ne C 54 dX0_lost_41 (by decide) (fun c_41 => ?_) (fun c_41 => ?_)
      · refine j_aload_n C dX0_lost_54 rfl ?_
        refine g0_moveCount C dX0_lost_55 ?_
        refine j_iload_n C dX0_lost_58 rfl ?_
        refine j_iadd C dX0_lost_59 ?_
        refine j_top _ (nI mv0 + oI (ds a)) rfl ?_
        refine j_iload_n C dX0_lost_60 rfl ?_
        refine j_isub C dX0_lost_61 ?_
        refine j_top _ (nI mv0 + oI (ds a) - oI (ds (stA mv0 tr a))) rfl ?_
        refine j_widen (Nat.zero_le 1) (Nat.zero_le 6) ?_
        exact j_reti C R dX0_lost_62 ⟨ds, fa2, qu2, to2, hsr, fun y hy => by rw [srD_one hsr hsr2]; exact hst2 y hy, fun q => c_36 ((oI_m1 (fun j h => srD_lt hsr hp2 _ j h)).mpr q), fun q => c_41 ((oI_m1 (fun j h => srD_lt hsr hp2 _ j h)).mpr q), rfl, rfl⟩
      · exact j_thr3 C X T wd_cl0_72 (is := 148) (j := 10) rfl dX0_lost_44 dX0_lost_47 dX0_lost_48 dX0_lost_50 dX0_lost_53 (by decide) (by decide) (by decide) (by decide) (by decide) (by decide) ⟨rfl, ⟨ds, fa2, qu2, to2, hsr, fun y hy => by rw [srD_one hsr hsr2]; exact hst2 y hy, Or.inr ((oI_m1 (fun j h => srD_lt hsr hp2 _ j h)).mp c_41), rfl⟩⟩
  · have hz : 0 < mv0 := by have h : ¬ nI mv0 ≤ nI 0 := c_14; rw [nI_leI (by omega) (by omega)] at h; omega
    have hsA : stA mv0 tr a = tr 0 := by unfold stA; rw [if_pos hz]
    refine j_aload_n C dX0_lost_17 rfl ?_
    refine g0_trail C dX0_lost_18 ?_
    refine j_iconst C (nI 0) dX0_lost_21 (by decide) ?_
    refine l0_tr C _ rfl (by omega) dX0_lost_22 ?_
    refine j_goto C 30 dX0_lost_23 (by decide) ?_
    refine j_callV1i C (ct_X0_wayFrom (x := tr 0) hc hb (htr 0 hz) (fun _ => ⟨ds, hsr, hst⟩)) gw_0_127 nd_X0_wayFrom 0 0 rfl rfl rfl ⟨by decide, by decide⟩ ⟨Nat.le_of_ble_eq_true rfl, Nat.le_of_ble_eq_true rfl⟩ (Nat.le_of_ble_eq_true rfl) dX0_lost_30 (fun x_1 w_1 hp => ?_)
    obtain ⟨ds2, fa2, qu2, to2, rfl, hsr2, hst2, rfl⟩ := hp
    refine j_top _ (oI (ds (stA mv0 tr a))) (by rw [hsA, srD_one hsr hsr2]) ?_
    refine j_istore_2 C dX0_lost_33 (by decide) ?_
    refine j_iload_n C dX0_lost_34 rfl ?_
    refine j_iconst C (-1) dX0_lost_35 (by decide) ?_
    refine j_icmp_eq C 44 dX0_lost_36 (by decide) (fun c_36 => ?_) (fun c_36 => ?_)
    · exact j_thr3 C X T wd_cl0_72 (is := 148) (j := 10) rfl dX0_lost_44 dX0_lost_47 dX0_lost_48 dX0_lost_50 dX0_lost_53 (by decide) (by decide) (by decide) (by decide) (by decide) (by decide) ⟨rfl, ⟨ds, fa2, qu2, to2, hsr, fun y hy => by rw [srD_one hsr hsr2]; exact hst2 y hy, Or.inl ((oI_m1 (fun j h => srD_lt hsr hp2 _ j h)).mp c_36), rfl⟩⟩
    · refine j_iload_n C dX0_lost_39 rfl ?_
      refine j_iconst C (-1) dX0_lost_40 (by decide) ?_
      refine j_icmp_ne C 54 dX0_lost_41 (by decide) (fun c_41 => ?_) (fun c_41 => ?_)
      · refine j_aload_n C dX0_lost_54 rfl ?_
        refine g0_moveCount C dX0_lost_55 ?_
        refine j_iload_n C dX0_lost_58 rfl ?_
        refine j_iadd C dX0_lost_59 ?_
        refine j_top _ (nI mv0 + oI (ds a)) rfl ?_
        refine j_iload_n C dX0_lost_60 rfl ?_
        refine j_isub C dX0_lost_61 ?_
        refine j_top _ (nI mv0 + oI (ds a) - oI (ds (stA mv0 tr a))) rfl ?_
        refine j_widen (Nat.zero_le 1) (Nat.zero_le 6) ?_
        exact j_reti C R dX0_lost_62 ⟨ds, fa2, qu2, to2, hsr, fun y hy => by rw [srD_one hsr hsr2]; exact hst2 y hy, fun q => c_36 ((oI_m1 (fun j h => srD_lt hsr hp2 _ j h)).mpr q), fun q => c_41 ((oI_m1 (fun j h => srD_lt hsr hp2 _ j h)).mpr q), rfl, rfl⟩
      · exact j_thr3 C X T wd_cl0_72 (is := 148) (j := 10) rfl dX0_lost_44 dX0_lost_47 dX0_lost_48 dX0_lost_50 dX0_lost_53 (by decide) (by decide) (by decide) (by decide) (by decide) (by decide) ⟨rfl, ⟨ds, fa2, qu2, to2, hsr, fun y hy => by rw [srD_one hsr hsr2]; exact hst2 y hy, Or.inr ((oI_m1 (fun j h => srD_lt hsr hp2 _ j h)).mp c_41), rfl⟩⟩
abbrev rm_X0_splitIndex : Room := { frames := 0, cells := 0, slots := 0, locals := 0 }
set_option maxHeartbeats 4000000 in
set_option maxRecDepth 100000 in
theorem ct_X0_splitIndex {l : Launch} {D : va_G} {Y : jy_T} {ad : Nat → Nat} {ws : va_W} {d q : Nat} (hq : 3 ≤ q) :
    MJ l yX0_splitIndex cX0_splitIndex 2 (some .int) rm_X0_splitIndex D Y [.int (nI d), .int (nI q)] ws (jI (fun r w => r = nI ((q - 3) * 21 + d) ∧ w = ws)) := by
  refine j_enter (by decide) (Nat.le_of_ble_eq_true rfl) (fun v hv => by simp only [List.mem_cons, List.not_mem_nil, or_false] at hv; rcases hv with rfl | rfl <;> rfl) (fun K hl hD hnm C R => ?_)
  subst hl; subst hD
  have C : jC cX0_splitIndex RX0 Y rm_X0_splitIndex 2 K := C
  have R : jR Y (some .int) 0 0 (jI (fun r w => r = nI ((q - 3) * 21 + d) ∧ w = ws)) K := R
  refine j_eq (lo' := [some (.int (nI d)), some (.int (nI q))]) rfl rfl rfl ?_
  refine j_iload_n C dX0_splitIndex_0 rfl ?_
  refine j_iconst C (nI 3) dX0_splitIndex_1 (by decide) ?_
  refine j_isub C dX0_splitIndex_2 ?_
  refine j_top _ (nI (q - 3)) (pk_sub (by omega)) ?_
  refine j_bipush C (nI 21) dX0_splitIndex_3 (by decide) ?_
  refine j_imul C dX0_splitIndex_5 ?_
  refine j_top _ _ (pk_mul _ _) ?_
  refine j_iload_n C dX0_splitIndex_6 rfl ?_
  refine j_iadd C dX0_splitIndex_7 ?_
  refine j_top _ _ (nI_add _ _) ?_
  exact j_reti C R dX0_splitIndex_8 ⟨rfl, rfl⟩
abbrev rm_X0_splitNumber : Room := { frames := 1, cells := 0, slots := 0, locals := 21 }
set_option maxHeartbeats 4000000 in
set_option maxRecDepth 100000 in
theorem ct_X0_splitNumber {l : Launch} {D : va_G} {Y : jy_T} {ad : Nat → Nat} {m q : Nat} {tb : Nat → Int32} (hm : m ≤ 20) (hq3 : 3 ≤ q) (hq5 : q ≤ 5) (htb : ∀ i, i < (q - 3) * 21 + m → tb i = nI (spT i)) :
    MJ l yX0_splitNumber cX0_splitNumber 6 (some .int) rm_X0_splitNumber D Y [.ref (ad 0), .int (nI m), .int (nI q)] [(ad 0, .inl (Y.1, 63, .inl tb))] (jI (fun r w => r = nI (spT ((q - 3) * 21 + m)) ∧ w = [(ad 0, .inl (Y.1, 63, .inl tb))])) := by
  refine j_enter (by decide) (Nat.le_of_ble_eq_true rfl) (fun v hv => by simp only [List.mem_cons, List.not_mem_nil, or_false] at hv; rcases hv with rfl | rfl | rfl <;> rfl) (fun K hl hD hnm C R => ?_)
  subst hl; subst hD
  have C : jC cX0_splitNumber RX0 Y rm_X0_splitNumber 6 K := C
  have R : jR Y (some .int) 0 0 (jI (fun r w => r = nI (spT ((q - 3) * 21 + m)) ∧ w = [(ad 0, .inl (Y.1, 63, .inl tb))])) K := R
  refine j_eq (lo' := [some (.ref (ad 0)), some (.int (nI m)), some (.int (nI q)), none, none, none]) rfl rfl rfl ?_
  have hL : 4 ≤ q → 2 ≤ m → ∀ (f k : Nat) (l5 : Option Value), m < k + f → 1 ≤ k → k ≤ m → jJ K 0 0 24 [some (.ref (ad 0)), some (.int (nI m)), some (.int (nI q)), some (.int (nI (mnX (spG (q - 3) m) (k - 1)))), some (.int (nI k)), l5] [] [(ad 0, .inl (Y.1, 63, .inl tb))] := by
    intro hq4 hm2 f
    induction f with
    | zero => intro k l5 h1 h2; omega
    | succ f ih =>
      intro k l5 h1 h2 h3
      refine j_iload C dX0_splitNumber_24 rfl ?_
      refine j_iload_n C dX0_splitNumber_26 rfl ?_
      refine jN_icmp_ge C 68 (by omega) (by omega) dX0_splitNumber_27 (by decide) (fun c_27 => ?_) (fun c_27 => ?_)
      · refine j_iload_n C dX0_splitNumber_68 rfl ?_
        exact j_reti C R dX0_splitNumber_69 ⟨by rw [show k - 1 = m - 1 by omega, sp_2 (q - 3) (by omega) m (by omega) (by omega) (by omega)], rfl⟩
      · refine j_iconst C (nI 2) dX0_splitNumber_30 (by decide) ?_
        refine j_aload_n C dX0_splitNumber_31 rfl ?_
        refine j_iload C dX0_splitNumber_32 rfl ?_
        refine j_iload_n C dX0_splitNumber_34 rfl ?_
        refine j_callS2i C (ct_X0_splitIndex (ad := ad) (by omega)) gw_0_156 rfl nd_X0_splitIndex ⟨by decide, by decide⟩ ⟨Nat.le_of_ble_eq_true rfl, Nat.le_of_ble_eq_true rfl⟩ (Nat.le_of_ble_eq_true rfl) dX0_splitNumber_35 (fun x_1 w_1 hp => ?_)
        obtain ⟨rfl, rfl⟩ := hp
        refine j_iald C 0 rfl _ rfl (by omega) (by decide) dX0_splitNumber_38 ?_
        refine j_top _ (nI (spT ((q - 3) * 21 + k))) (htb _ (by omega)) ?_
        refine j_imul C dX0_splitNumber_39 ?_
        refine j_top _ _ (pk_mul _ _) ?_
        refine j_aload_n C dX0_splitNumber_40 rfl ?_
        refine j_iload_n C dX0_splitNumber_41 rfl ?_
        refine j_iload C dX0_splitNumber_42 rfl ?_
        refine j_isub C dX0_splitNumber_44 ?_
        refine j_top _ (nI (m - k)) (pk_sub (by omega)) ?_
        refine j_iload_n C dX0_splitNumber_45 rfl ?_
        refine j_iconst C (nI 1) dX0_splitNumber_46 (by decide) ?_
        refine j_isub C dX0_splitNumber_47 ?_
        refine j_top _ (nI (q - 1)) (pk_sub (by omega)) ?_
        refine j_callS2i C (ct_X0_splitIndex (ad := ad) (by omega)) gw_0_156 rfl nd_X0_splitIndex ⟨by decide, by decide⟩ ⟨Nat.le_of_ble_eq_true rfl, Nat.le_of_ble_eq_true rfl⟩ (Nat.le_of_ble_eq_true rfl) dX0_splitNumber_48 (fun x_1 w_1 hp => ?_)
        obtain ⟨rfl, rfl⟩ := hp
        refine j_iald C 0 rfl _ rfl (by omega) (by decide) dX0_splitNumber_51 ?_
        refine j_top _ (nI (spT ((q - 1 - 3) * 21 + (m - k)))) (htb _ (by omega)) ?_
        refine j_iadd C dX0_splitNumber_52 ?_
        refine j_top _ _ (nI_add _ _) ?_
        refine j_istore_5 C dX0_splitNumber_53 (by decide) ?_
        refine j_iload_n C dX0_splitNumber_55 rfl ?_
        refine j_iload C dX0_splitNumber_56 rfl ?_
        refine j_mmin C wd_ml0_143 (by decide) (Nat.le_of_ble_eq_true rfl) (Nat.zero_le _) (Nat.zero_le _) dX0_splitNumber_58 ?_
        refine j_top _ _ (nI_min (by have := mnX_le (g := spG (q - 3) m) (j := k - 1); omega) (by have := sp_lt ((q - 3) * 21 + k) (by omega); have := sp_lt ((q - 1 - 3) * 21 + (m - k)) (by omega); omega)) ?_
        have hst1 : (if 2 * spT ((q - 3) * 21 + k) + spT ((q - 1 - 3) * 21 + (m - k)) < mnX (spG (q - 3) m) (k - 1) then 2 * spT ((q - 3) * 21 + k) + spT ((q - 1 - 3) * 21 + (m - k)) else mnX (spG (q - 3) m) (k - 1)) = mnX (spG (q - 3) m) (k + 1 - 1) := by
          obtain ⟨k, rfl⟩ : ∃ k1, k = k1 + 1 := ⟨k - 1, by omega⟩
          rw [show k + 1 + 1 - 1 = k + 1 by omega, show k + 1 - 1 = k by omega, mnX]
          unfold spG
          rw [show q - 1 - 3 = q - 3 - 1 by omega]
        refine j_istore_3 C dX0_splitNumber_61 (by decide) ?_
        refine j_iinc_4 C _ (nI_p1 _) dX0_splitNumber_62 ?_
        refine j_goto C 24 dX0_splitNumber_65 (by decide) ?_
        exact j_eq (by rw [hst1]) rfl rfl (ih (k + 1) _ (by omega) (by omega) (by omega))
  refine j_iload_n C dX0_splitNumber_0 rfl ?_
  refine j_iconst C (nI 3) dX0_splitNumber_1 (by decide) ?_
  refine jN_icmp_ne C 11 (by omega) (by omega) dX0_splitNumber_2 (by decide) (fun c_2 => ?_) (fun c_2 => ?_)
  · refine j_iload_n C dX0_splitNumber_11 rfl ?_
    refine j_iconst C (nI 2) dX0_splitNumber_12 (by decide) ?_
    refine jN_icmp_ge C 18 (by omega) (by omega) dX0_splitNumber_13 (by decide) (fun c_13 => ?_) (fun c_13 => ?_)
    · refine j_ldc C dX0_splitNumber_18 wd_k0_185 ?_
      refine j_top _ (nI 2147483647) rfl ?_
      refine j_istore_3 C dX0_splitNumber_20 (by decide) ?_
      refine j_iconst C (nI 1) dX0_splitNumber_21 (by decide) ?_
      refine j_istore_4 C dX0_splitNumber_22 (by decide) ?_
      exact hL (by omega) (by omega) m 1 _ (by omega) (by omega) (by omega)
    · refine j_iload_n C dX0_splitNumber_16 rfl ?_
      exact j_reti C R dX0_splitNumber_17 ⟨by rw [sp_1 (q - 3) (by omega) m c_13 (by omega)], rfl⟩
  · refine j_iconst C (nI 1) dX0_splitNumber_5 (by decide) ?_
    refine j_iload_n C dX0_splitNumber_6 rfl ?_
    refine j_ishl C dX0_splitNumber_7 ?_
    refine j_top _ (nI (2 ^ m)) (shl1 m (by omega)) ?_
    refine j_iconst C (nI 1) dX0_splitNumber_8 (by decide) ?_
    refine j_isub C dX0_splitNumber_9 ?_
    refine j_top _ (nI (2 ^ m - 1)) (pk_sub Nat.one_le_two_pow) ?_
    exact j_reti C R dX0_splitNumber_10 ⟨by rw [c_2, Nat.sub_self, Nat.zero_mul, Nat.zero_add, sp_0 m (by omega)], rfl⟩
abbrev rm_X0_splitTable : Room := { frames := 2, cells := 1, slots := 63, locals := 46 }
set_option maxHeartbeats 4000000 in
set_option maxRecDepth 100000 in
theorem ct_X0_splitTable {l : Launch} {D : va_G} {Y : jy_T} {ad : Nat → Nat}  :
    MJ l yX0_splitTable cX0_splitTable 3 (some (.array .int)) rm_X0_splitTable D Y [] [] (jA (fun x w => ∃ tb : Nat → Int32, (∀ i, i < 63 → tb i = nI (spT i)) ∧ w = [(x, .inl (Y.1, 63, .inl tb))])) := by
  refine j_enter (by decide) (Nat.le_of_ble_eq_true rfl) (fun v hv => absurd hv List.not_mem_nil) (fun K hl hD hnm C R => ?_)
  subst hl; subst hD
  have C : jC cX0_splitTable RX0 Y rm_X0_splitTable 3 K := C
  have R : jR Y (some (.array .int)) 1 63 (jA (fun x w => ∃ tb : Nat → Int32, (∀ i, i < 63 → tb i = nI (spT i)) ∧ w = [(x, .inl (Y.1, 63, .inl tb))])) K := R
  refine j_eq (lo' := [none, none, none]) rfl rfl rfl ?_
  have hL : ∀ (h0 : Nat) (m q : Nat) (tb : Nat → Int32) (l2 : Option Value), 6 < q + m → 3 ≤ q → q ≤ 6 → (∀ i, i < (q - 3) * 21 → tb i = nI (spT i)) → jJ K 1 63 13 [some (.ref h0), some (.int (nI q)), l2] [] [(h0, .inl (Y.1, 63, .inl tb))] := by
    intro h0 m
    induction m with
    | zero => intro q tb l2 h1 h2 h3; omega
    | succ m ih =>
      intro q tb l2 h1 h2 h3 htb
      refine j_iload_n C dX0_splitTable_13 rfl ?_
      refine j_iconst C (nI 5) dX0_splitTable_14 (by decide) ?_
      refine jN_icmp_gt C 51 (by omega) (by omega) dX0_splitTable_15 (by decide) (fun c_15 => ?_) (fun c_15 => ?_)
      · refine j_aload_n C dX0_splitTable_51 rfl ?_
        exact j_reta C R dX0_splitTable_52 ⟨tb, fun i hi => htb i (by omega), rfl⟩
      · refine j_iconst C (nI 0) dX0_splitTable_18 (by decide) ?_
        refine j_istore_2 C dX0_splitTable_19 (by decide) ?_
        have hI : ∀ (m2 d : Nat) (tb : Nat → Int32), 21 < d + m2 → d ≤ 21 → (∀ i, i < (q - 3) * 21 + d → tb i = nI (spT i)) → jJ K 1 63 20 [some (.ref h0), some (.int (nI q)), some (.int (nI d))] [] [(h0, .inl (Y.1, 63, .inl tb))] := by
          intro m2
          induction m2 with
          | zero => intro d tb h4 h5; omega
          | succ m2 ih2 =>
            intro d tb h4 h5 htb
            refine j_iload_n C dX0_splitTable_20 rfl ?_
            refine j_bipush C (nI 20) dX0_splitTable_21 (by decide) ?_
            refine jN_icmp_gt C 45 (by omega) (by omega) dX0_splitTable_23 (by decide) (fun c_23 => ?_) (fun c_23 => ?_)
            · refine j_iinc_1 C _ (nI_p1 _) dX0_splitTable_45 ?_
              refine j_goto C 13 dX0_splitTable_48 (by decide) ?_
              exact ih (q + 1) tb _ (by omega) (by omega) (by omega) (fun i hi => htb i (by omega))
            · refine j_aload_n C dX0_splitTable_26 rfl ?_
              refine j_iload_n C dX0_splitTable_27 rfl ?_
              refine j_iload_n C dX0_splitTable_28 rfl ?_
              refine j_callS2i C (ct_X0_splitIndex (ad := ad) (by omega)) gw_0_156 rfl nd_X0_splitIndex ⟨by decide, by decide⟩ ⟨Nat.le_of_ble_eq_true rfl, Nat.le_of_ble_eq_true rfl⟩ (Nat.le_of_ble_eq_true rfl) dX0_splitTable_29 (fun x_1 w_1 hp => ?_)
              obtain ⟨rfl, rfl⟩ := hp
              refine j_aload_n C dX0_splitTable_32 rfl ?_
              refine j_iload_n C dX0_splitTable_33 rfl ?_
              refine j_iload_n C dX0_splitTable_34 rfl ?_
              refine j_callS3i C (ct_X0_splitNumber (ad := fun _ => h0) (by omega) (by omega) (by omega) htb) gw_0_179 rfl nd_X0_splitNumber ⟨by decide, by decide⟩ ⟨Nat.le_of_ble_eq_true rfl, Nat.le_of_ble_eq_true rfl⟩ (Nat.le_of_ble_eq_true rfl) dX0_splitTable_35 (fun x_1 w_1 hp => ?_)
              obtain ⟨rfl, rfl⟩ := hp
              refine j_iast C 0 rfl _ rfl (by omega) (by decide) dX0_splitTable_38 rfl ?_
              refine j_iinc_2 C _ (nI_p1 _) dX0_splitTable_39 ?_
              refine j_goto C 20 dX0_splitTable_42 (by decide) ?_
              exact ih2 (d + 1) _ (by omega) (by omega) (fun i hi => by
                by_cases e : i = (q - 3) * 21 + d
                · rw [e, pk_us]
                · rw [pk_un e]; exact htb i (by omega))
        exact hI 22 0 tb (by omega) (by omega) htb
  refine j_bipush C (nI 20) dX0_splitTable_0 (by decide) ?_
  refine j_iconst C (nI 5) dX0_splitTable_2 (by decide) ?_
  refine j_callS2i C (ct_X0_splitIndex (ad := ad) (by omega)) gw_0_156 rfl nd_X0_splitIndex ⟨by decide, by decide⟩ ⟨Nat.le_of_ble_eq_true rfl, Nat.le_of_ble_eq_true rfl⟩ (Nat.le_of_ble_eq_true rfl) dX0_splitTable_3 (fun x_1 w_1 hp => ?_)
  obtain ⟨rfl, rfl⟩ := hp
  refine j_iconst C (nI 1) dX0_splitTable_6 (by decide) ?_
  refine j_iadd C dX0_splitTable_7 ?_
  refine j_top _ _ (nI_add _ _) ?_
  refine j_newa_int C 63 rfl (by decide) (Nat.le_of_ble_eq_true rfl) (Nat.le_of_ble_eq_true rfl) dX0_splitTable_8 (fun h0 => ?_)
  refine j_astore_0 C dX0_splitTable_10 (by decide) ?_
  refine j_iconst C (nI 3) dX0_splitTable_11 (by decide) ?_
  refine j_istore_1 C dX0_splitTable_12 (by decide) ?_
  exact hL h0 7 3 _ _ (by omega) (by omega) (by omega) (fun i hi => by omega)
