theorem nbM_ps {P N x f t : Nat} {ru : Bool} {cb ba : Nat → Bool} (h : nbM P N ru cb ba x f t ≠ none) : psB P N ru cb (fun k => !ba k) x f t = true := by
  unfold nbM at h
  split at h
  · assumption
  · exact absurd rfl h
theorem nbM_np {P N x f t : Nat} {ru : Bool} {cb ba : Nat → Bool} (h : nbM P N ru cb ba x f t = none) : psB P N ru cb (fun k => !ba k) x f t = false := by
  unfold nbM at h
  split at h
  · cases h
  · rename_i q
    cases e : psB P N ru cb (fun k => !ba k) x f t
    · rfl
    · exact absurd e q
theorem nI_z {j : Nat} (hj : j < 2 ^ 31) : nI j = 0 ↔ j = 0 := by
  rw [show (0 : Int32) = nI 0 by rfl, nI_eq hj (by omega)]
def stM (mv0 st0 a : Nat) : Nat := if mv0 = 0 then a else st0
abbrev rm_X1_move : Room := { frames := 2, cells := 0, slots := 0, locals := 51 }
set_option maxHeartbeats 4000000 in
set_option maxRecDepth 100000 in
theorem ct_X1_move {l : Launch} {D : va_G} {Y : jy_T} {ad : Nat → Nat} {P N a b mv0 : Nat} {ru : Bool} {cb ba : Nat → Bool} {nf gf fr tt : Nat → Nat} {th s0 qd : Int32} {lk fa qu nb : Nat → Int32} {x y : Int32} (hc : cfg P N) (ha : a < P ^ N) (hb : b < P ^ N) (hn : ∀ d, d < N → nf d = dg P a d) (hg : ∀ d, d < N → gf d = dg P b d) (hm0 : mv0 ≤ 500) :
    MJ l yX1_move cX1_move 6 (some .int) rm_X1_move D Y [.ref (ad 0), .int x, .int y] (wM Y ad th (nI P) (nI N) (bi ru) (nI mv0) s0 qd (fun d => nI (nf d)) (fun d => nI (gf d)) (fun d => bi (cb d)) (fun k => bi (ba k)) (fun k => nI (fr k)) (fun k => nI (tt k)) lk fa qu nb) (jI (fun r w => (∃ f t d lk1, x = nI f ∧ f < P ∧ y = nI t ∧ t < P ∧ mv0 ≠ 500 ∧ psB P N ru cb (fun k => !ba k) a f t = true ∧ tp P N a f = some d ∧ r = nI d ∧ w = (wM Y ad (nI 0) (nI P) (nI N) (bi ru) (nI (mv0 + 1)) (if mv0 = 0 then nI a else s0) qd (fun k => nI (updN nf d t k)) (fun d => nI (gf d)) (fun d => bi (cb d)) (fun k => bi (ba k)) (fun k => nI (updN fr mv0 f k)) (fun k => nI (updN tt mv0 t k)) lk1 fa qu nb)) ∨ ((inr x P && inr y P) = false ∧ w = (wM Y ad (nI 1) (nI P) (nI N) (bi ru) (nI mv0) s0 qd (fun d => nI (nf d)) (fun d => nI (gf d)) (fun d => bi (cb d)) (fun k => bi (ba k)) (fun k => nI (fr k)) (fun k => nI (tt k)) lk fa qu nb)) ∨ (∃ f t lk1, x = nI f ∧ f < P ∧ y = nI t ∧ t < P ∧ (mv0 = 500 ∨ psB P N ru cb (fun k => !ba k) a f t = false) ∧ w = (wM Y ad (nI 2) (nI P) (nI N) (bi ru) (nI mv0) s0 qd (fun d => nI (nf d)) (fun d => nI (gf d)) (fun d => bi (cb d)) (fun k => bi (ba k)) (fun k => nI (fr k)) (fun k => nI (tt k)) lk1 fa qu nb)))) := by
  refine j_enter (by decide) (Nat.le_of_ble_eq_true rfl) (fun v hv => by simp only [List.mem_cons, List.not_mem_nil, or_false] at hv; rcases hv with rfl | rfl | rfl <;> rfl) (fun K hl hD hnm C R => ?_)
  subst hl; subst hD
  have C : jC cX1_move RX1 Y rm_X1_move 6 K := C
  have R : jR Y (some .int) 0 0 (jI (fun r w => (∃ f t d lk1, x = nI f ∧ f < P ∧ y = nI t ∧ t < P ∧ mv0 ≠ 500 ∧ psB P N ru cb (fun k => !ba k) a f t = true ∧ tp P N a f = some d ∧ r = nI d ∧ w = (wM Y ad (nI 0) (nI P) (nI N) (bi ru) (nI (mv0 + 1)) (if mv0 = 0 then nI a else s0) qd (fun k => nI (updN nf d t k)) (fun d => nI (gf d)) (fun d => bi (cb d)) (fun k => bi (ba k)) (fun k => nI (updN fr mv0 f k)) (fun k => nI (updN tt mv0 t k)) lk1 fa qu nb)) ∨ ((inr x P && inr y P) = false ∧ w = (wM Y ad (nI 1) (nI P) (nI N) (bi ru) (nI mv0) s0 qd (fun d => nI (nf d)) (fun d => nI (gf d)) (fun d => bi (cb d)) (fun k => bi (ba k)) (fun k => nI (fr k)) (fun k => nI (tt k)) lk fa qu nb)) ∨ (∃ f t lk1, x = nI f ∧ f < P ∧ y = nI t ∧ t < P ∧ (mv0 = 500 ∨ psB P N ru cb (fun k => !ba k) a f t = false) ∧ w = (wM Y ad (nI 2) (nI P) (nI N) (bi ru) (nI mv0) s0 qd (fun d => nI (nf d)) (fun d => nI (gf d)) (fun d => bi (cb d)) (fun k => bi (ba k)) (fun k => nI (fr k)) (fun k => nI (tt k)) lk1 fa qu nb)))) K := R
  refine j_eq (lo' := [some (.ref (ad 0)), some (.int x), some (.int y), none, none, none]) rfl rfl rfl ?_
  obtain ⟨hP3, hP5, hN1, hN6⟩ := id hc
  have hP0 : 0 < P := by omega
  have hp2 : P ^ N ≤ 15625 := cfg_pw hc (by omega)
  refine j_aload_n C dX1_move_0 rfl ?_
  refine j_iload_n C dX1_move_1 rfl ?_
  refine j_callV1i C (ct_X1_isPeg (by omega) (by omega)) gw_1_77 nd_X1_isPeg 1 0 rfl rfl rfl ⟨by decide, by decide⟩ ⟨Nat.le_of_ble_eq_true rfl, Nat.le_of_ble_eq_true rfl⟩ (Nat.le_of_ble_eq_true rfl) dX1_move_2 (fun x_1 w_1 hp => ?_)
  obtain ⟨rfl, rfl⟩ := hp
  refine jB_if_eq C 20 dX1_move_5 (by decide) (fun c_5 => ?_) (fun c_5 => ?_)
  · refine j_iconst C (bi false) dX1_move_20 (by decide) ?_
    refine j_istore_3 C dX1_move_21 (by decide) ?_
    refine j_iload_n C dX1_move_22 rfl ?_
    refine jB_if_eq C 39 dX1_move_23 (by decide) (fun c_23 => ?_) (fun c_23 => ?_)
    · refine j_iconst C (-1) dX1_move_39 (by decide) ?_
      refine j_istore_4 C dX1_move_40 (by decide) ?_
      refine j_aload_n C dX1_move_42 rfl ?_
      refine j_iload_n C dX1_move_43 rfl ?_
      refine jB_if_ne C 51 dX1_move_44 (by decide) (fun c_44 => ?_) (fun c_44 => ?_)
      · exact absurd c_44 (by decide)
      · refine j_iconst C (nI 1) dX1_move_47 (by decide) ?_
        refine j_goto C 72 dX1_move_48 (by decide) ?_
        refine j_callV1i C (ct_X1_goesWell (by omega)) gw_1_66 nd_X1_goesWell 1 0 rfl rfl rfl ⟨by decide, by decide⟩ ⟨Nat.le_of_ble_eq_true rfl, Nat.le_of_ble_eq_true rfl⟩ (Nat.le_of_ble_eq_true rfl) dX1_move_72 (fun x_1 w_1 hp => ?_)
        obtain ⟨rfl, rfl⟩ := hp
        refine jB_if_ne C 80 dX1_move_75 (by decide) (fun c_75 => ?_) (fun c_75 => ?_)
        · exact absurd c_75 (by decide)
        · refine j_iconst C (nI 0) dX1_move_78 (by decide) ?_
          exact j_reti C R dX1_move_79 (Or.inr (Or.inl ⟨by rw [c_5]; rfl, rfl⟩))
    · exact absurd c_23 (by decide)
  · refine j_aload_n C dX1_move_8 rfl ?_
    refine j_iload_n C dX1_move_9 rfl ?_
    refine j_callV1i C (ct_X1_isPeg (by omega) (by omega)) gw_1_77 nd_X1_isPeg 1 0 rfl rfl rfl ⟨by decide, by decide⟩ ⟨Nat.le_of_ble_eq_true rfl, Nat.le_of_ble_eq_true rfl⟩ (Nat.le_of_ble_eq_true rfl) dX1_move_10 (fun x_1 w_1 hp => ?_)
    obtain ⟨rfl, rfl⟩ := hp
    refine jB_if_eq C 20 dX1_move_13 (by decide) (fun c_13 => ?_) (fun c_13 => ?_)
    · refine j_iconst C (bi false) dX1_move_20 (by decide) ?_
      refine j_istore_3 C dX1_move_21 (by decide) ?_
      refine j_iload_n C dX1_move_22 rfl ?_
      refine jB_if_eq C 39 dX1_move_23 (by decide) (fun c_23 => ?_) (fun c_23 => ?_)
      · refine j_iconst C (-1) dX1_move_39 (by decide) ?_
        refine j_istore_4 C dX1_move_40 (by decide) ?_
        refine j_aload_n C dX1_move_42 rfl ?_
        refine j_iload_n C dX1_move_43 rfl ?_
        refine jB_if_ne C 51 dX1_move_44 (by decide) (fun c_44 => ?_) (fun c_44 => ?_)
        · exact absurd c_44 (by decide)
        · refine j_iconst C (nI 1) dX1_move_47 (by decide) ?_
          refine j_goto C 72 dX1_move_48 (by decide) ?_
          refine j_callV1i C (ct_X1_goesWell (by omega)) gw_1_66 nd_X1_goesWell 1 0 rfl rfl rfl ⟨by decide, by decide⟩ ⟨Nat.le_of_ble_eq_true rfl, Nat.le_of_ble_eq_true rfl⟩ (Nat.le_of_ble_eq_true rfl) dX1_move_72 (fun x_1 w_1 hp => ?_)
          obtain ⟨rfl, rfl⟩ := hp
          refine jB_if_ne C 80 dX1_move_75 (by decide) (fun c_75 => ?_) (fun c_75 => ?_)
          · exact absurd c_75 (by decide)
          · refine j_iconst C (nI 0) dX1_move_78 (by decide) ?_
            exact j_reti C R dX1_move_79 (Or.inr (Or.inl ⟨by rw [c_13, Bool.and_false], rfl⟩))
      · exact absurd c_23 (by decide)
    · refine j_iconst C (bi true) dX1_move_16 (by decide) ?_
      refine j_goto C 21 dX1_move_17 (by decide) ?_
      refine j_istore_3 C dX1_move_21 (by decide) ?_
      refine j_iload_n C dX1_move_22 rfl ?_
      refine jB_if_eq C 39 dX1_move_23 (by decide) (fun c_23 => ?_) (fun c_23 => ?_)
      · exact absurd c_23 (by decide)
      · obtain ⟨f, hf, rfl⟩ := inr_of c_5 (by omega)
        obtain ⟨t, ht, rfl⟩ := inr_of c_13 (by omega)
        refine j_aload_n C dX1_move_26 rfl ?_
        refine j_aload_n C dX1_move_27 rfl ?_
        refine j_callV0i C (ct_X1_numberOfNow hc ha hn) gw_1_92 nd_X1_numberOfNow 1 0 rfl rfl rfl ⟨by decide, by decide⟩ ⟨Nat.le_of_ble_eq_true rfl, Nat.le_of_ble_eq_true rfl⟩ (Nat.le_of_ble_eq_true rfl) dX1_move_28 (fun x_1 w_1 hp => ?_)
        obtain ⟨rfl, rfl⟩ := hp
        refine j_iload_n C dX1_move_31 rfl ?_
        refine j_iload_n C dX1_move_32 rfl ?_
        refine j_callV3i C (ct_X1_behind hc ha hf ht) gw_1_95 nd_X1_behind 1 0 rfl rfl rfl ⟨by decide, by decide⟩ ⟨Nat.le_of_ble_eq_true rfl, Nat.le_of_ble_eq_true rfl⟩ (Nat.le_of_ble_eq_true rfl) dX1_move_33 (fun x_1 w_1 hp => ?_)
        obtain ⟨rfl, lk1, rfl⟩ := hp
        refine j_goto C 40 dX1_move_36 (by decide) ?_
        refine j_istore_4 C dX1_move_40 (by decide) ?_
        refine j_aload_n C dX1_move_42 rfl ?_
        refine j_iload_n C dX1_move_43 rfl ?_
        refine jB_if_ne C 51 dX1_move_44 (by decide) (fun c_44 => ?_) (fun c_44 => ?_)
        · refine j_iload C dX1_move_51 rfl ?_
          refine j_iconst C (-1) dX1_move_53 (by decide) ?_
          refine j_icmp_eq C 67 dX1_move_54 (by decide) (fun c_54 => ?_) (fun c_54 => ?_)
          · refine j_iconst C (nI 2) dX1_move_67 (by decide) ?_
            refine j_goto C 72 dX1_move_68 (by decide) ?_
            refine j_callV1i C (ct_X1_goesWell (by omega)) gw_1_66 nd_X1_goesWell 1 0 rfl rfl rfl ⟨by decide, by decide⟩ ⟨Nat.le_of_ble_eq_true rfl, Nat.le_of_ble_eq_true rfl⟩ (Nat.le_of_ble_eq_true rfl) dX1_move_72 (fun x_1 w_1 hp => ?_)
            obtain ⟨rfl, rfl⟩ := hp
            refine jB_if_ne C 80 dX1_move_75 (by decide) (fun c_75 => ?_) (fun c_75 => ?_)
            · exact absurd c_75 (by decide)
            · refine j_iconst C (nI 0) dX1_move_78 (by decide) ?_
              exact j_reti C R dX1_move_79 (Or.inr (Or.inr ⟨f, t, lk1, rfl, hf, rfl, ht, Or.inr (nbM_np ((oI_m1 (fun j hj => by have := nbM_lt hP0 ha ht hj; omega)).mp c_54)), rfl⟩))
          · refine j_aload_n C dX1_move_57 rfl ?_
            refine g1_moves C dX1_move_58 ?_
            refine j_sipush C (nI 500) dX1_move_61 (by decide) ?_
            refine jN_icmp_ne C 71 (by omega) (by omega) dX1_move_64 (by decide) (fun c_64 => ?_) (fun c_64 => ?_)
            · refine j_iconst C (nI 0) dX1_move_71 (by decide) ?_
              refine j_callV1i C (ct_X1_goesWell (by omega)) gw_1_66 nd_X1_goesWell 1 0 rfl rfl rfl ⟨by decide, by decide⟩ ⟨Nat.le_of_ble_eq_true rfl, Nat.le_of_ble_eq_true rfl⟩ (Nat.le_of_ble_eq_true rfl) dX1_move_72 (fun x_1 w_1 hp => ?_)
              obtain ⟨rfl, rfl⟩ := hp
              refine jB_if_ne C 80 dX1_move_75 (by decide) (fun c_75 => ?_) (fun c_75 => ?_)
              · have hps := nbM_ps (fun q => c_54 ((oI_m1 (fun j hj => by have := nbM_lt hP0 ha ht hj; omega)).mpr q))
                obtain ⟨-, d, hd, -⟩ := ftB_some (psB_ft hps)
                have hd6 := tp_lt hd
                refine j_aload_n C dX1_move_80 rfl ?_
                refine g1_moves C dX1_move_81 ?_
                refine j_if_ne C 95 dX1_move_84 (by decide) (fun c_84 => ?_) (fun c_84 => ?_)
                · refine j_aload_n C dX1_move_95 rfl ?_
                  refine j_aload_n C dX1_move_96 rfl ?_
                  refine j_callV0i C (ct_X1_numberOfNow hc ha hn) gw_1_92 nd_X1_numberOfNow 1 0 rfl rfl rfl ⟨by decide, by decide⟩ ⟨Nat.le_of_ble_eq_true rfl, Nat.le_of_ble_eq_true rfl⟩ (Nat.le_of_ble_eq_true rfl) dX1_move_97 (fun x_1 w_1 hp => ?_)
                  obtain ⟨rfl, rfl⟩ := hp
                  refine j_callV1v C (ct_X1_open hc (by omega)) gw_1_80 nd_X1_open 1 0 rfl rfl rfl ⟨by decide, by decide⟩ ⟨Nat.le_of_ble_eq_true rfl, Nat.le_of_ble_eq_true rfl⟩ (Nat.le_of_ble_eq_true rfl) dX1_move_100 (fun w_1 hp => ?_)
                  obtain ⟨lk1, hlk, rfl⟩ := hp
                  refine j_aload_n C dX1_move_103 rfl ?_
                  refine j_iload_n C dX1_move_104 rfl ?_
                  refine j_callV1i C (ct_X1_topOf (f := dg P a) (by omega) hlk (fun d _ => by have := dg_lt (P := P) (a := a) (d := d) hP0; omega) (by omega)) gw_1_88 nd_X1_topOf 1 0 rfl rfl rfl ⟨by decide, by decide⟩ ⟨Nat.le_of_ble_eq_true rfl, Nat.le_of_ble_eq_true rfl⟩ (Nat.le_of_ble_eq_true rfl) dX1_move_105 (fun x_1 w_1 hp => ?_)
                  obtain ⟨rfl, rfl⟩ := hp
                  refine j_top _ (nI d) (by show oI (tp P N a f) = _; rw [hd]; rfl) ?_
                  refine j_istore_5 C dX1_move_108 (by decide) ?_
                  refine j_aload_n C dX1_move_110 rfl ?_
                  refine g1_now C dX1_move_111 ?_
                  refine j_iload C dX1_move_114 rfl ?_
                  refine j_iload_n C dX1_move_116 rfl ?_
                  refine s1_nw C _ rfl (by omega) dX1_move_117 ?_
                  refine j_aload_n C dX1_move_118 rfl ?_
                  refine g1_froms C dX1_move_119 ?_
                  refine j_aload_n C dX1_move_122 rfl ?_
                  refine g1_moves C dX1_move_123 ?_
                  refine j_iload_n C dX1_move_126 rfl ?_
                  refine s1_fr C _ rfl (by omega) dX1_move_127 ?_
                  refine j_aload_n C dX1_move_128 rfl ?_
                  refine g1_tos C dX1_move_129 ?_
                  refine j_aload_n C dX1_move_132 rfl ?_
                  refine g1_moves C dX1_move_133 ?_
                  refine j_iload_n C dX1_move_136 rfl ?_
                  refine s1_tt C _ rfl (by omega) dX1_move_137 ?_
                  refine j_aload_n C dX1_move_138 rfl ?_
                  refine j_dup C dX1_move_139 rfl ?_
                  refine g1_moves C dX1_move_140 ?_
                  refine j_iconst C (nI 1) dX1_move_143 (by decide) ?_
                  refine j_iadd C dX1_move_144 ?_
                  refine j_top _ _ (nI_add _ _) ?_
                  refine p1_moves C dX1_move_145 ?_
                  refine j_iload C dX1_move_148 rfl ?_
                  exact j_reti C R dX1_move_150 (Or.inl ⟨f, t, d, lk1, rfl, hf, rfl, ht, c_64, hps, hd, rfl, by rw [if_neg (fun q => c_84 (by rw [q]; rfl)), upd_nI, upd_nI, upd_nI]⟩)
                · refine j_aload_n C dX1_move_87 rfl ?_
                  refine j_aload_n C dX1_move_88 rfl ?_
                  refine j_callV0i C (ct_X1_numberOfNow hc ha hn) gw_1_92 nd_X1_numberOfNow 1 0 rfl rfl rfl ⟨by decide, by decide⟩ ⟨Nat.le_of_ble_eq_true rfl, Nat.le_of_ble_eq_true rfl⟩ (Nat.le_of_ble_eq_true rfl) dX1_move_89 (fun x_1 w_1 hp => ?_)
                  obtain ⟨rfl, rfl⟩ := hp
                  refine p1_start C dX1_move_92 ?_
                  refine j_aload_n C dX1_move_95 rfl ?_
                  refine j_aload_n C dX1_move_96 rfl ?_
                  refine j_callV0i C (ct_X1_numberOfNow hc ha hn) gw_1_92 nd_X1_numberOfNow 1 0 rfl rfl rfl ⟨by decide, by decide⟩ ⟨Nat.le_of_ble_eq_true rfl, Nat.le_of_ble_eq_true rfl⟩ (Nat.le_of_ble_eq_true rfl) dX1_move_97 (fun x_1 w_1 hp => ?_)
                  obtain ⟨rfl, rfl⟩ := hp
                  refine j_callV1v C (ct_X1_open hc (by omega)) gw_1_80 nd_X1_open 1 0 rfl rfl rfl ⟨by decide, by decide⟩ ⟨Nat.le_of_ble_eq_true rfl, Nat.le_of_ble_eq_true rfl⟩ (Nat.le_of_ble_eq_true rfl) dX1_move_100 (fun w_1 hp => ?_)
                  obtain ⟨lk1, hlk, rfl⟩ := hp
                  refine j_aload_n C dX1_move_103 rfl ?_
                  refine j_iload_n C dX1_move_104 rfl ?_
                  refine j_callV1i C (ct_X1_topOf (f := dg P a) (by omega) hlk (fun d _ => by have := dg_lt (P := P) (a := a) (d := d) hP0; omega) (by omega)) gw_1_88 nd_X1_topOf 1 0 rfl rfl rfl ⟨by decide, by decide⟩ ⟨Nat.le_of_ble_eq_true rfl, Nat.le_of_ble_eq_true rfl⟩ (Nat.le_of_ble_eq_true rfl) dX1_move_105 (fun x_1 w_1 hp => ?_)
                  obtain ⟨rfl, rfl⟩ := hp
                  refine j_top _ (nI d) (by show oI (tp P N a f) = _; rw [hd]; rfl) ?_
                  refine j_istore_5 C dX1_move_108 (by decide) ?_
                  refine j_aload_n C dX1_move_110 rfl ?_
                  refine g1_now C dX1_move_111 ?_
                  refine j_iload C dX1_move_114 rfl ?_
                  refine j_iload_n C dX1_move_116 rfl ?_
                  refine s1_nw C _ rfl (by omega) dX1_move_117 ?_
                  refine j_aload_n C dX1_move_118 rfl ?_
                  refine g1_froms C dX1_move_119 ?_
                  refine j_aload_n C dX1_move_122 rfl ?_
                  refine g1_moves C dX1_move_123 ?_
                  refine j_iload_n C dX1_move_126 rfl ?_
                  refine s1_fr C _ rfl (by omega) dX1_move_127 ?_
                  refine j_aload_n C dX1_move_128 rfl ?_
                  refine g1_tos C dX1_move_129 ?_
                  refine j_aload_n C dX1_move_132 rfl ?_
                  refine g1_moves C dX1_move_133 ?_
                  refine j_iload_n C dX1_move_136 rfl ?_
                  refine s1_tt C _ rfl (by omega) dX1_move_137 ?_
                  refine j_aload_n C dX1_move_138 rfl ?_
                  refine j_dup C dX1_move_139 rfl ?_
                  refine g1_moves C dX1_move_140 ?_
                  refine j_iconst C (nI 1) dX1_move_143 (by decide) ?_
                  refine j_iadd C dX1_move_144 ?_
                  refine j_top _ _ (nI_add _ _) ?_
                  refine p1_moves C dX1_move_145 ?_
                  refine j_iload C dX1_move_148 rfl ?_
                  exact j_reti C R dX1_move_150 (Or.inl ⟨f, t, d, lk1, rfl, hf, rfl, ht, c_64, hps, hd, rfl, by rw [if_pos ((nI_z (by omega)).mp c_84), upd_nI, upd_nI, upd_nI]⟩)
              · exact absurd c_75 (by decide)
            · refine j_iconst C (nI 2) dX1_move_67 (by decide) ?_
              refine j_goto C 72 dX1_move_68 (by decide) ?_
              refine j_callV1i C (ct_X1_goesWell (by omega)) gw_1_66 nd_X1_goesWell 1 0 rfl rfl rfl ⟨by decide, by decide⟩ ⟨Nat.le_of_ble_eq_true rfl, Nat.le_of_ble_eq_true rfl⟩ (Nat.le_of_ble_eq_true rfl) dX1_move_72 (fun x_1 w_1 hp => ?_)
              obtain ⟨rfl, rfl⟩ := hp
              refine jB_if_ne C 80 dX1_move_75 (by decide) (fun c_75 => ?_) (fun c_75 => ?_)
              · exact absurd c_75 (by decide)
              · refine j_iconst C (nI 0) dX1_move_78 (by decide) ?_
                exact j_reti C R dX1_move_79 (Or.inr (Or.inr ⟨f, t, lk1, rfl, hf, rfl, ht, Or.inl c_64, rfl⟩))
        · exact absurd c_44 (by decide)
abbrev rm_X1_takeBack : Room := { frames := 1, cells := 0, slots := 0, locals := 23 }
set_option maxHeartbeats 4000000 in
set_option maxRecDepth 100000 in
theorem ct_X1_takeBack {l : Launch} {D : va_G} {Y : jy_T} {ad : Nat → Nat} {P N a b mv0 : Nat} {ru : Bool} {cb ba : Nat → Bool} {nf gf fr tt : Nat → Nat} {th s0 qd : Int32} {lk fa qu nb : Nat → Int32} {dd : Nat} (hc : cfg P N) (ha : a < P ^ N) (hb : b < P ^ N) (hn : ∀ d, d < N → nf d = dg P a d) (hg : ∀ d, d < N → gf d = dg P b d) (hm0 : mv0 ≤ 500) (hD : 0 < mv0 → tp P N a (tt (mv0 - 1)) = some dd) (htt : 0 < mv0 → tt (mv0 - 1) < P) :
    MJ l yX1_takeBack cX1_takeBack 1 (some .int) rm_X1_takeBack D Y [.ref (ad 0)] (wM Y ad th (nI P) (nI N) (bi ru) (nI mv0) s0 qd (fun d => nI (nf d)) (fun d => nI (gf d)) (fun d => bi (cb d)) (fun k => bi (ba k)) (fun k => nI (fr k)) (fun k => nI (tt k)) lk fa qu nb) (jI (fun r w => (0 < mv0 ∧ ∃ lk1, r = nI (mv0 - 1) ∧ w = (wM Y ad (nI 0) (nI P) (nI N) (bi ru) (nI (mv0 - 1)) s0 qd (fun k => nI (updN nf dd (fr (mv0 - 1)) k)) (fun d => nI (gf d)) (fun d => bi (cb d)) (fun k => bi (ba k)) (fun k => nI (fr k)) (fun k => nI (tt k)) lk1 fa qu nb)) ∨ (mv0 = 0 ∧ w = (wM Y ad (nI 1) (nI P) (nI N) (bi ru) (nI mv0) s0 qd (fun d => nI (nf d)) (fun d => nI (gf d)) (fun d => bi (cb d)) (fun k => bi (ba k)) (fun k => nI (fr k)) (fun k => nI (tt k)) lk fa qu nb)))) := by
  refine j_enter (by decide) (Nat.le_of_ble_eq_true rfl) (fun v hv => by rw [List.mem_singleton.mp hv]; rfl) (fun K hl hD hnm C R => ?_)
  subst hl; subst hD
  have C : jC cX1_takeBack RX1 Y rm_X1_takeBack 1 K := C
  have R : jR Y (some .int) 0 0 (jI (fun r w => (0 < mv0 ∧ ∃ lk1, r = nI (mv0 - 1) ∧ w = (wM Y ad (nI 0) (nI P) (nI N) (bi ru) (nI (mv0 - 1)) s0 qd (fun k => nI (updN nf dd (fr (mv0 - 1)) k)) (fun d => nI (gf d)) (fun d => bi (cb d)) (fun k => bi (ba k)) (fun k => nI (fr k)) (fun k => nI (tt k)) lk1 fa qu nb)) ∨ (mv0 = 0 ∧ w = (wM Y ad (nI 1) (nI P) (nI N) (bi ru) (nI mv0) s0 qd (fun d => nI (nf d)) (fun d => nI (gf d)) (fun d => bi (cb d)) (fun k => bi (ba k)) (fun k => nI (fr k)) (fun k => nI (tt k)) lk fa qu nb)))) K := R
  refine j_eq (lo' := [some (.ref (ad 0))]) rfl rfl rfl ?_
  obtain ⟨hP3, hP5, hN1, hN6⟩ := id hc
  have hP0 : 0 < P := by omega
  have hp2 : P ^ N ≤ 15625 := cfg_pw hc (by omega)
  refine j_aload_n C dX1_takeBack_0 rfl ?_
  refine j_aload_n C dX1_takeBack_1 rfl ?_
  refine g1_moves C dX1_takeBack_2 ?_
  refine j_if_ne C 12 dX1_takeBack_5 (by decide) (fun c_5 => ?_) (fun c_5 => ?_)
  · refine j_iconst C (nI 0) dX1_takeBack_12 (by decide) ?_
    refine j_callV1i C (ct_X1_goesWell (by omega)) gw_1_66 nd_X1_goesWell 1 0 rfl rfl rfl ⟨by decide, by decide⟩ ⟨Nat.le_of_ble_eq_true rfl, Nat.le_of_ble_eq_true rfl⟩ (Nat.le_of_ble_eq_true rfl) dX1_takeBack_13 (fun x_1 w_1 hp => ?_)
    obtain ⟨rfl, rfl⟩ := hp
    refine jB_if_ne C 21 dX1_takeBack_16 (by decide) (fun c_16 => ?_) (fun c_16 => ?_)
    · have hz : 0 < mv0 := Nat.pos_of_ne_zero (fun q => c_5 (by rw [q]; rfl))
      have hd := hD hz
      have hd6 := tp_lt hd
      have ht3 := htt hz
      refine j_aload_n C dX1_takeBack_21 rfl ?_
      refine j_dup C dX1_takeBack_22 rfl ?_
      refine g1_moves C dX1_takeBack_23 ?_
      refine j_iconst C (nI 1) dX1_takeBack_26 (by decide) ?_
      refine j_isub C dX1_takeBack_27 ?_
      refine j_top _ (nI (mv0 - 1)) (pk_sub (by omega)) ?_
      refine p1_moves C dX1_takeBack_28 ?_
      refine j_aload_n C dX1_takeBack_31 rfl ?_
      refine j_aload_n C dX1_takeBack_32 rfl ?_
      refine j_callV0i C (ct_X1_numberOfNow hc ha hn) gw_1_92 nd_X1_numberOfNow 1 0 rfl rfl rfl ⟨by decide, by decide⟩ ⟨Nat.le_of_ble_eq_true rfl, Nat.le_of_ble_eq_true rfl⟩ (Nat.le_of_ble_eq_true rfl) dX1_takeBack_33 (fun x_1 w_1 hp => ?_)
      obtain ⟨rfl, rfl⟩ := hp
      refine j_callV1v C (ct_X1_open hc (by omega)) gw_1_80 nd_X1_open 1 0 rfl rfl rfl ⟨by decide, by decide⟩ ⟨Nat.le_of_ble_eq_true rfl, Nat.le_of_ble_eq_true rfl⟩ (Nat.le_of_ble_eq_true rfl) dX1_takeBack_36 (fun w_1 hp => ?_)
      obtain ⟨lk1, hlk, rfl⟩ := hp
      refine j_aload_n C dX1_takeBack_39 rfl ?_
      refine g1_now C dX1_takeBack_40 ?_
      refine j_aload_n C dX1_takeBack_43 rfl ?_
      refine j_aload_n C dX1_takeBack_44 rfl ?_
      refine g1_tos C dX1_takeBack_45 ?_
      refine j_aload_n C dX1_takeBack_48 rfl ?_
      refine g1_moves C dX1_takeBack_49 ?_
      refine l1_tt C _ rfl (by omega) dX1_takeBack_52 ?_
      refine j_callV1i C (ct_X1_topOf (f := dg P a) (by omega) hlk (fun d _ => by have := dg_lt (P := P) (a := a) (d := d) hP0; omega) (by omega)) gw_1_88 nd_X1_topOf 1 0 rfl rfl rfl ⟨by decide, by decide⟩ ⟨Nat.le_of_ble_eq_true rfl, Nat.le_of_ble_eq_true rfl⟩ (Nat.le_of_ble_eq_true rfl) dX1_takeBack_53 (fun x_1 w_1 hp => ?_)
      obtain ⟨rfl, rfl⟩ := hp
      refine j_top _ (nI dd) (by show oI (tp P N a (tt (mv0 - 1))) = _; rw [hd]; rfl) ?_
      refine j_aload_n C dX1_takeBack_56 rfl ?_
      refine g1_froms C dX1_takeBack_57 ?_
      refine j_aload_n C dX1_takeBack_60 rfl ?_
      refine g1_moves C dX1_takeBack_61 ?_
      refine l1_fr C _ rfl (by omega) dX1_takeBack_64 ?_
      refine s1_nw C _ rfl (by omega) dX1_takeBack_65 ?_
      refine j_aload_n C dX1_takeBack_66 rfl ?_
      refine g1_moves C dX1_takeBack_67 ?_
      exact j_reti C R dX1_takeBack_70 (Or.inl ⟨hz, lk1, rfl, by rw [upd_nI]⟩)
    · exact absurd c_16 (by decide)
  · refine j_iconst C (nI 1) dX1_takeBack_8 (by decide) ?_
    refine j_goto C 13 dX1_takeBack_9 (by decide) ?_
    refine j_callV1i C (ct_X1_goesWell (by omega)) gw_1_66 nd_X1_goesWell 1 0 rfl rfl rfl ⟨by decide, by decide⟩ ⟨Nat.le_of_ble_eq_true rfl, Nat.le_of_ble_eq_true rfl⟩ (Nat.le_of_ble_eq_true rfl) dX1_takeBack_13 (fun x_1 w_1 hp => ?_)
    obtain ⟨rfl, rfl⟩ := hp
    refine jB_if_ne C 21 dX1_takeBack_16 (by decide) (fun c_16 => ?_) (fun c_16 => ?_)
    · exact absurd c_16 (by decide)
    · refine j_iconst C (nI 0) dX1_takeBack_19 (by decide) ?_
      exact j_reti C R dX1_takeBack_20 (Or.inr ⟨(nI_z (by omega)).mp c_5, rfl⟩)
abbrev rm_X1_way : Room := { frames := 4, cells := 0, slots := 0, locals := 96 }
set_option maxHeartbeats 4000000 in
set_option maxRecDepth 100000 in
theorem ct_X1_way {l : Launch} {D : va_G} {Y : jy_T} {ad : Nat → Nat} {P N a b mv0 : Nat} {ru : Bool} {cb ba : Nat → Bool} {nf gf fr tt : Nat → Nat} {th s0 qd : Int32} {lk fa qu nb : Nat → Int32} (hc : cfg P N) (ha : a < P ^ N) (hb : b < P ^ N) (hn : ∀ d, d < N → nf d = dg P a d) (hg : ∀ d, d < N → gf d = dg P b d) :
    MJ l yX1_way cX1_way 1 (some .int) rm_X1_way D Y [.ref (ad 0)] (wM Y ad th (nI P) (nI N) (bi ru) (nI mv0) s0 qd (fun d => nI (nf d)) (fun d => nI (gf d)) (fun d => bi (cb d)) (fun k => bi (ba k)) (fun k => nI (fr k)) (fun k => nI (tt k)) lk fa qu nb) (jI (fun r w => ∃ fo1 ds1 s1 qu1 lk1, r = oI (ds1 b) ∧ srF (P ^ N) P (nbM P N ru cb ba) a (lawB P N ru cb a) fo1 ds1 ∧ w = (wM Y ad (nI 0) (nI P) (nI N) (bi ru) (nI mv0) s0 (nI fo1) (fun d => nI (nf d)) (fun d => nI (gf d)) (fun d => bi (cb d)) (fun k => bi (ba k)) (fun k => nI (fr k)) (fun k => nI (tt k)) lk1 s1 qu1 nb))) := by
  refine j_enter (by decide) (Nat.le_of_ble_eq_true rfl) (fun v hv => by rw [List.mem_singleton.mp hv]; rfl) (fun K hl hD hnm C R => ?_)
  subst hl; subst hD
  have C : jC cX1_way RX1 Y rm_X1_way 1 K := C
  have R : jR Y (some .int) 0 0 (jI (fun r w => ∃ fo1 ds1 s1 qu1 lk1, r = oI (ds1 b) ∧ srF (P ^ N) P (nbM P N ru cb ba) a (lawB P N ru cb a) fo1 ds1 ∧ w = (wM Y ad (nI 0) (nI P) (nI N) (bi ru) (nI mv0) s0 (nI fo1) (fun d => nI (nf d)) (fun d => nI (gf d)) (fun d => bi (cb d)) (fun k => bi (ba k)) (fun k => nI (fr k)) (fun k => nI (tt k)) lk1 s1 qu1 nb))) K := R
  refine j_eq (lo' := [some (.ref (ad 0))]) rfl rfl rfl ?_
  obtain ⟨hP3, hP5, hN1, hN6⟩ := id hc
  have hP0 : 0 < P := by omega
  have hp2 : P ^ N ≤ 15625 := cfg_pw hc (by omega)
  refine j_aload_n C dX1_way_0 rfl ?_
  refine j_iconst C (nI 0) dX1_way_1 (by decide) ?_
  refine p1_thrown C dX1_way_2 ?_
  refine j_aload_n C dX1_way_5 rfl ?_
  refine j_aload_n C dX1_way_6 rfl ?_
  refine j_callV0i C (ct_X1_numberOfNow hc ha hn) gw_1_92 nd_X1_numberOfNow 1 0 rfl rfl rfl ⟨by decide, by decide⟩ ⟨Nat.le_of_ble_eq_true rfl, Nat.le_of_ble_eq_true rfl⟩ (Nat.le_of_ble_eq_true rfl) dX1_way_7 (fun x_1 w_1 hp => ?_)
  obtain ⟨rfl, rfl⟩ := hp
  refine j_callV1i C (ct_X1_wayFrom (x := a) hc ha hb hg) gw_1_114 nd_X1_wayFrom 1 0 rfl rfl rfl ⟨by decide, by decide⟩ ⟨Nat.le_of_ble_eq_true rfl, Nat.le_of_ble_eq_true rfl⟩ (Nat.le_of_ble_eq_true rfl) dX1_way_10 (fun x_1 w_1 hp => ?_)
  obtain ⟨fo1, ds1, s1, qu1, lk1, rfl, hsr, hst, rfl⟩ := hp
  exact j_reti C R dX1_way_13 ⟨fo1, ds1, s1, qu1, lk1, rfl, hsr, rfl⟩
abbrev rm_X1_reachable : Room := { frames := 3, cells := 0, slots := 0, locals := 75 }
set_option maxHeartbeats 4000000 in
set_option maxRecDepth 100000 in
theorem ct_X1_reachable {l : Launch} {D : va_G} {Y : jy_T} {ad : Nat → Nat} {P N a b mv0 : Nat} {ru : Bool} {cb ba : Nat → Bool} {nf gf fr tt : Nat → Nat} {th s0 qd : Int32} {lk fa qu nb : Nat → Int32} (hc : cfg P N) (ha : a < P ^ N) (hb : b < P ^ N) (hn : ∀ d, d < N → nf d = dg P a d) (hg : ∀ d, d < N → gf d = dg P b d) :
    MJ l yX1_reachable cX1_reachable 1 (some .int) rm_X1_reachable D Y [.ref (ad 0)] (wM Y ad th (nI P) (nI N) (bi ru) (nI mv0) s0 qd (fun d => nI (nf d)) (fun d => nI (gf d)) (fun d => bi (cb d)) (fun k => bi (ba k)) (fun k => nI (fr k)) (fun k => nI (tt k)) lk fa qu nb) (jI (fun r w => ∃ fo1 ds1 s1 qu1 lk1, r = nI fo1 ∧ srF (P ^ N) P (nbM P N ru cb ba) a (lawB P N ru cb a) fo1 ds1 ∧ w = (wM Y ad (nI 0) (nI P) (nI N) (bi ru) (nI mv0) s0 (nI fo1) (fun d => nI (nf d)) (fun d => nI (gf d)) (fun d => bi (cb d)) (fun k => bi (ba k)) (fun k => nI (fr k)) (fun k => nI (tt k)) lk1 s1 qu1 nb))) := by
  refine j_enter (by decide) (Nat.le_of_ble_eq_true rfl) (fun v hv => by rw [List.mem_singleton.mp hv]; rfl) (fun K hl hD hnm C R => ?_)
  subst hl; subst hD
  have C : jC cX1_reachable RX1 Y rm_X1_reachable 1 K := C
  have R : jR Y (some .int) 0 0 (jI (fun r w => ∃ fo1 ds1 s1 qu1 lk1, r = nI fo1 ∧ srF (P ^ N) P (nbM P N ru cb ba) a (lawB P N ru cb a) fo1 ds1 ∧ w = (wM Y ad (nI 0) (nI P) (nI N) (bi ru) (nI mv0) s0 (nI fo1) (fun d => nI (nf d)) (fun d => nI (gf d)) (fun d => bi (cb d)) (fun k => bi (ba k)) (fun k => nI (fr k)) (fun k => nI (tt k)) lk1 s1 qu1 nb))) K := R
  refine j_eq (lo' := [some (.ref (ad 0))]) rfl rfl rfl ?_
  obtain ⟨hP3, hP5, hN1, hN6⟩ := id hc
  have hP0 : 0 < P := by omega
  have hp2 : P ^ N ≤ 15625 := cfg_pw hc (by omega)
  refine j_aload_n C dX1_reachable_0 rfl ?_
  refine j_iconst C (nI 0) dX1_reachable_1 (by decide) ?_
  refine p1_thrown C dX1_reachable_2 ?_
  refine j_aload_n C dX1_reachable_5 rfl ?_
  refine j_aload_n C dX1_reachable_6 rfl ?_
  refine j_callV0i C (ct_X1_numberOfNow hc ha hn) gw_1_92 nd_X1_numberOfNow 1 0 rfl rfl rfl ⟨by decide, by decide⟩ ⟨Nat.le_of_ble_eq_true rfl, Nat.le_of_ble_eq_true rfl⟩ (Nat.le_of_ble_eq_true rfl) dX1_reachable_7 (fun x_1 w_1 hp => ?_)
  obtain ⟨rfl, rfl⟩ := hp
  refine j_callV1v C (ct_X1_search hc ha) gw_1_111 nd_X1_search 1 0 rfl rfl rfl ⟨by decide, by decide⟩ ⟨Nat.le_of_ble_eq_true rfl, Nat.le_of_ble_eq_true rfl⟩ (Nat.le_of_ble_eq_true rfl) dX1_reachable_10 (fun w_1 hp => ?_)
  obtain ⟨fo1, ds1, s1, qu1, lk1, hsr, hst, rfl⟩ := hp
  refine j_aload_n C dX1_reachable_13 rfl ?_
  refine g1_queued C dX1_reachable_14 ?_
  exact j_reti C R dX1_reachable_17 ⟨fo1, ds1, s1, qu1, lk1, rfl, hsr, rfl⟩
abbrev rm_X1_gather : Room := { frames := 0, cells := 0, slots := 0, locals := 0 }
set_option maxHeartbeats 4000000 in
set_option maxRecDepth 100000 in
theorem ct_X1_gather {l : Launch} {D : va_G} {Y : jy_T} {ad : Nat → Nat} {og : Bool} {m0 g0 : Nat} {nf gf : Nat → Nat} {th p n ru mc s0 qd : Int32} {co ba fr tt lk fa qu nb : Nat → Int32} (hv : ∀ d, d < m0 → (if og then gf else nf) d < 3) (hm : m0 ≤ 6) (hg0 : g0 < 3) :
    MJ l yX1_gather cX1_gather 8 (some .int) rm_X1_gather D Y [.ref (ad 0), .int (bi og), .int (nI m0), .int (nI g0)] (wM Y ad th p n ru mc s0 qd (fun d => nI (nf d)) (fun d => nI (gf d)) co ba fr tt lk fa qu nb) (jI (fun r w => r = nI (gth (if og then gf else nf) m0 g0) ∧ w = (wM Y ad th p n ru mc s0 qd (fun d => nI (nf d)) (fun d => nI (gf d)) co ba fr tt lk fa qu nb))) := by
  refine j_enter (by decide) (Nat.le_of_ble_eq_true rfl) (fun v hv => by simp only [List.mem_cons, List.not_mem_nil, or_false] at hv; rcases hv with rfl | rfl | rfl | rfl <;> rfl) (fun K hl hD hnm C R => ?_)
  subst hl; subst hD
  have C : jC cX1_gather RX1 Y rm_X1_gather 8 K := C
  have R : jR Y (some .int) 0 0 (jI (fun r w => r = nI (gth (if og then gf else nf) m0 g0) ∧ w = (wM Y ad th p n ru mc s0 qd (fun d => nI (nf d)) (fun d => nI (gf d)) co ba fr tt lk fa qu nb))) K := R
  refine j_eq (lo' := [some (.ref (ad 0)), some (.int (bi og)), some (.int (nI m0)), some (.int (nI g0)), none, none, none, none]) rfl rfl rfl ?_
  have hL : ∀ (i g s : Nat) (l7 : Option Value), i ≤ m0 → g < 3 → gth (if og then gf else nf) m0 g0 = s + gth (if og then gf else nf) i g → jJ K 0 0 11 [some (.ref (ad 0)), some (.int (bi og)), some (.int (nI m0)), some (.int (nI g0)), some (.int (nI (s))), some (.int (nI (g))), some (.int (nI i - nI 1)), l7] [] (wM Y ad th p n ru mc s0 qd (fun d => nI (nf d)) (fun d => nI (gf d)) co ba fr tt lk fa qu nb) := by
    intro i
    induction i with
    | zero =>
      intro g s l7 h1 hg hs
      refine j_iload C dX1_gather_11 rfl ?_
      refine j_if_lt C 70 dX1_gather_13 (by decide) (fun c_13 => ?_) (fun c_13 => ?_)
      · refine j_iload C dX1_gather_70 rfl ?_
        exact j_reti C R dX1_gather_72 ⟨by rw [hs]; rfl, rfl⟩
      · exact absurd (by decide) c_13
    | succ j ih =>
      intro g s l7 h1 hg hs
      refine j_eq (lo' := [some (.ref (ad 0)), some (.int (bi og)), some (.int (nI m0)), some (.int (nI g0)), some (.int (nI (s))), some (.int (nI (g))), some (.int (nI j)), l7]) (by rw [nI_pr]) rfl rfl ?_
      refine j_iload C dX1_gather_11 rfl ?_
      refine j_if_lt C 70 dX1_gather_13 (by decide) (fun c_13 => ?_) (fun c_13 => ?_)
      · exact absurd c_13 (nI_nlt0 (by omega))
      · refine j_iload_n C dX1_gather_16 rfl ?_
        refine jB_if_eq C 30 dX1_gather_17 (by decide) (fun c_17 => ?_) (fun c_17 => ?_)
        · refine j_aload_n C dX1_gather_30 rfl ?_
          refine g1_now C dX1_gather_31 ?_
          refine j_iload C dX1_gather_34 rfl ?_
          refine l1_nw C _ rfl (by omega) dX1_gather_36 ?_
          refine j_top _ (nI ((if og then gf else nf) j)) (by rw [c_17]; rfl) ?_
          refine j_istore_7 C dX1_gather_37 (by decide) ?_
          refine j_iload C dX1_gather_39 rfl ?_
          refine j_iload C dX1_gather_41 rfl ?_
          have hl1 := hv j (by omega)
          refine jN_icmp_eq C 64 (by omega) (by omega) dX1_gather_43 (by decide) (fun c_43 => ?_) (fun c_43 => ?_)
          · refine j_iinc_6 C _ (nI_m1 _) dX1_gather_64 ?_
            refine j_goto C 11 dX1_gather_67 (by decide) ?_
            exact ih g s _ (by omega) hg (by rw [hs, gth, if_pos c_43])
          · refine j_iload C dX1_gather_46 rfl ?_
            refine j_iconst C (nI 1) dX1_gather_48 (by decide) ?_
            refine j_iload C dX1_gather_49 rfl ?_
            refine j_ishl C dX1_gather_51 ?_
            refine j_top _ (nI (2 ^ j)) (shl1 j (by omega)) ?_
            refine j_iadd C dX1_gather_52 ?_
            refine j_top _ _ (nI_add _ _) ?_
            refine j_istore_4 C dX1_gather_53 (by decide) ?_
            refine j_iconst C (nI 3) dX1_gather_55 (by decide) ?_
            refine j_iload C dX1_gather_56 rfl ?_
            refine j_isub C dX1_gather_58 ?_
            refine j_top _ (nI (3 - (if og then gf else nf) j)) (pk_sub (by omega)) ?_
            refine j_iload C dX1_gather_59 rfl ?_
            refine j_isub C dX1_gather_61 ?_
            refine j_top _ (nI (3 - (if og then gf else nf) j - g)) (pk_sub (by omega)) ?_
            refine j_istore_5 C dX1_gather_62 (by decide) ?_
            refine j_iinc_6 C _ (nI_m1 _) dX1_gather_64 ?_
            refine j_goto C 11 dX1_gather_67 (by decide) ?_
            exact ih (3 - (if og then gf else nf) j - g) (s + 2 ^ j) _ (by omega) (by omega) (by rw [hs, gth, if_neg c_43, Nat.add_assoc s, Nat.add_comm (2 ^ j)])
        · refine j_aload_n C dX1_gather_20 rfl ?_
          refine g1_goal C dX1_gather_21 ?_
          refine j_iload C dX1_gather_24 rfl ?_
          refine l1_gl C _ rfl (by omega) dX1_gather_26 ?_
          refine j_top _ (nI ((if og then gf else nf) j)) (by rw [c_17]; rfl) ?_
          refine j_goto C 37 dX1_gather_27 (by decide) ?_
          refine j_istore_7 C dX1_gather_37 (by decide) ?_
          refine j_iload C dX1_gather_39 rfl ?_
          refine j_iload C dX1_gather_41 rfl ?_
          have hl1 := hv j (by omega)
          refine jN_icmp_eq C 64 (by omega) (by omega) dX1_gather_43 (by decide) (fun c_43 => ?_) (fun c_43 => ?_)
          · refine j_iinc_6 C _ (nI_m1 _) dX1_gather_64 ?_
            refine j_goto C 11 dX1_gather_67 (by decide) ?_
            exact ih g s _ (by omega) hg (by rw [hs, gth, if_pos c_43])
          · refine j_iload C dX1_gather_46 rfl ?_
            refine j_iconst C (nI 1) dX1_gather_48 (by decide) ?_
            refine j_iload C dX1_gather_49 rfl ?_
            refine j_ishl C dX1_gather_51 ?_
            refine j_top _ (nI (2 ^ j)) (shl1 j (by omega)) ?_
            refine j_iadd C dX1_gather_52 ?_
            refine j_top _ _ (nI_add _ _) ?_
            refine j_istore_4 C dX1_gather_53 (by decide) ?_
            refine j_iconst C (nI 3) dX1_gather_55 (by decide) ?_
            refine j_iload C dX1_gather_56 rfl ?_
            refine j_isub C dX1_gather_58 ?_
            refine j_top _ (nI (3 - (if og then gf else nf) j)) (pk_sub (by omega)) ?_
            refine j_iload C dX1_gather_59 rfl ?_
            refine j_isub C dX1_gather_61 ?_
            refine j_top _ (nI (3 - (if og then gf else nf) j - g)) (pk_sub (by omega)) ?_
            refine j_istore_5 C dX1_gather_62 (by decide) ?_
            refine j_iinc_6 C _ (nI_m1 _) dX1_gather_64 ?_
            refine j_goto C 11 dX1_gather_67 (by decide) ?_
            exact ih (3 - (if og then gf else nf) j - g) (s + 2 ^ j) _ (by omega) (by omega) (by rw [hs, gth, if_neg c_43, Nat.add_assoc s, Nat.add_comm (2 ^ j)])
  refine j_iconst C (nI 0) dX1_gather_0 (by decide) ?_
  refine j_istore_4 C dX1_gather_1 (by decide) ?_
  refine j_iload_n C dX1_gather_3 rfl ?_
  refine j_istore_5 C dX1_gather_4 (by decide) ?_
  refine j_iload_n C dX1_gather_6 rfl ?_
  refine j_iconst C (nI 1) dX1_gather_7 (by decide) ?_
  refine j_isub C dX1_gather_8 ?_
  refine j_top _ (nI m0 - nI 1) rfl ?_
  refine j_istore_6 C dX1_gather_9 (by decide) ?_
  exact hL m0 g0 0 _ (Nat.le_refl _) hg0 (by rw [Nat.zero_add])
abbrev rm_X1_lost : Room := { frames := 4, cells := 0, slots := 0, locals := 96 }
set_option maxHeartbeats 4000000 in
set_option maxRecDepth 100000 in
theorem ct_X1_lost {l : Launch} {D : va_G} {Y : jy_T} {ad : Nat → Nat} {P N a b mv0 : Nat} {ru : Bool} {cb ba : Nat → Bool} {nf gf fr tt : Nat → Nat} {th qd : Int32} {lk fa qu nb : Nat → Int32} {st0 : Nat} (hc : cfg P N) (ha : a < P ^ N) (hb : b < P ^ N) (hn : ∀ d, d < N → nf d = dg P a d) (hg : ∀ d, d < N → gf d = dg P b d) (hm0 : mv0 ≤ 500) (hs0 : 0 < mv0 → st0 < P ^ N) :
    MJ l yX1_lost cX1_lost 3 (some .int) rm_X1_lost D Y [.ref (ad 0)] (wM Y ad th (nI P) (nI N) (bi ru) (nI mv0) (nI st0) qd (fun d => nI (nf d)) (fun d => nI (gf d)) (fun d => bi (cb d)) (fun k => bi (ba k)) (fun k => nI (fr k)) (fun k => nI (tt k)) lk fa qu nb) (jI (fun r w => ∃ foa fob ds1 ds2 fo1 s1 qu1 lk1, srF (P ^ N) P (nbM P N ru cb ba) a (lawB P N ru cb a) foa ds1 ∧ srF (P ^ N) P (nbM P N ru cb ba) (stM mv0 st0 a) (lawB P N ru cb (stM mv0 st0 a)) fob ds2 ∧ ((ds1 b ≠ none ∧ ds2 b ≠ none ∧ r = nI mv0 + oI (ds1 b) - oI (ds2 b) ∧ w = (wM Y ad (nI 0) (nI P) (nI N) (bi ru) (nI mv0) (nI st0) (nI fo1) (fun d => nI (nf d)) (fun d => nI (gf d)) (fun d => bi (cb d)) (fun k => bi (ba k)) (fun k => nI (fr k)) (fun k => nI (tt k)) lk1 s1 qu1 nb)) ∨ ((ds1 b = none ∨ ds2 b = none) ∧ w = (wM Y ad (nI 1) (nI P) (nI N) (bi ru) (nI mv0) (nI st0) (nI fo1) (fun d => nI (nf d)) (fun d => nI (gf d)) (fun d => bi (cb d)) (fun k => bi (ba k)) (fun k => nI (fr k)) (fun k => nI (tt k)) lk1 s1 qu1 nb))))) := by
  refine j_enter (by decide) (Nat.le_of_ble_eq_true rfl) (fun v hv => by rw [List.mem_singleton.mp hv]; rfl) (fun K hl hD hnm C R => ?_)
  subst hl; subst hD
  have C : jC cX1_lost RX1 Y rm_X1_lost 3 K := C
  have R : jR Y (some .int) 0 0 (jI (fun r w => ∃ foa fob ds1 ds2 fo1 s1 qu1 lk1, srF (P ^ N) P (nbM P N ru cb ba) a (lawB P N ru cb a) foa ds1 ∧ srF (P ^ N) P (nbM P N ru cb ba) (stM mv0 st0 a) (lawB P N ru cb (stM mv0 st0 a)) fob ds2 ∧ ((ds1 b ≠ none ∧ ds2 b ≠ none ∧ r = nI mv0 + oI (ds1 b) - oI (ds2 b) ∧ w = (wM Y ad (nI 0) (nI P) (nI N) (bi ru) (nI mv0) (nI st0) (nI fo1) (fun d => nI (nf d)) (fun d => nI (gf d)) (fun d => bi (cb d)) (fun k => bi (ba k)) (fun k => nI (fr k)) (fun k => nI (tt k)) lk1 s1 qu1 nb)) ∨ ((ds1 b = none ∨ ds2 b = none) ∧ w = (wM Y ad (nI 1) (nI P) (nI N) (bi ru) (nI mv0) (nI st0) (nI fo1) (fun d => nI (nf d)) (fun d => nI (gf d)) (fun d => bi (cb d)) (fun k => bi (ba k)) (fun k => nI (fr k)) (fun k => nI (tt k)) lk1 s1 qu1 nb))))) K := R
  refine j_eq (lo' := [some (.ref (ad 0)), none, none]) rfl rfl rfl ?_
  obtain ⟨hP3, hP5, hN1, hN6⟩ := id hc
  have hP0 : 0 < P := by omega
  have hp2 : P ^ N ≤ 15625 := cfg_pw hc (by omega)
  refine j_aload_n C dX1_lost_0 rfl ?_
  refine j_aload_n C dX1_lost_1 rfl ?_
  refine j_callV0i C (ct_X1_numberOfNow hc ha hn) gw_1_92 nd_X1_numberOfNow 1 0 rfl rfl rfl ⟨by decide, by decide⟩ ⟨Nat.le_of_ble_eq_true rfl, Nat.le_of_ble_eq_true rfl⟩ (Nat.le_of_ble_eq_true rfl) dX1_lost_2 (fun x_1 w_1 hp => ?_)
  obtain ⟨rfl, rfl⟩ := hp
  refine j_callV1i C (ct_X1_wayFrom (x := a) hc ha hb hg) gw_1_114 nd_X1_wayFrom 1 0 rfl rfl rfl ⟨by decide, by decide⟩ ⟨Nat.le_of_ble_eq_true rfl, Nat.le_of_ble_eq_true rfl⟩ (Nat.le_of_ble_eq_true rfl) dX1_lost_5 (fun x_1 w_1 hp => ?_)
  obtain ⟨fo1, ds1, s1, qu1, lk1, rfl, hsr, hst, rfl⟩ := hp
  refine j_istore_1 C dX1_lost_8 (by decide) ?_
  refine j_aload_n C dX1_lost_9 rfl ?_
  refine g1_moves C dX1_lost_10 ?_
  refine j_if_ne C 20 dX1_lost_13 (by decide) (fun c_13 => ?_) (fun c_13 => ?_)
  · have hs : stM mv0 st0 a = st0 := by unfold stM; rw [if_neg (fun q => c_13 (by rw [q]; rfl))]
    refine j_aload_n C dX1_lost_20 rfl ?_
    refine j_aload_n C dX1_lost_21 rfl ?_
    refine g1_start C dX1_lost_22 ?_
    refine j_callV1i C (ct_X1_wayFrom (x := st0) hc (hs0 (Nat.pos_of_ne_zero (fun q => c_13 (by rw [q]; rfl)))) hb hg) gw_1_114 nd_X1_wayFrom 1 0 rfl rfl rfl ⟨by decide, by decide⟩ ⟨Nat.le_of_ble_eq_true rfl, Nat.le_of_ble_eq_true rfl⟩ (Nat.le_of_ble_eq_true rfl) dX1_lost_25 (fun x_1 w_1 hp => ?_)
    obtain ⟨fo2, ds2, s2, qu2, lk2, rfl, hsr2, hst2, rfl⟩ := hp
    refine j_istore_2 C dX1_lost_28 (by decide) ?_
    refine j_aload_n C dX1_lost_29 rfl ?_
    refine j_iload_n C dX1_lost_30 rfl ?_
    refine j_iconst C (-1) dX1_lost_31 (by decide) ?_
    refine j_icmp_eq C 40 dX1_lost_32 (by decide) (fun c_32 => ?_) (fun c_32 => ?_)
    · refine j_iconst C (nI 1) dX1_lost_40 (by decide) ?_
      refine j_goto C 45 dX1_lost_41 (by decide) ?_
      refine j_callV1i C (ct_X1_goesWell (by omega)) gw_1_66 nd_X1_goesWell 1 0 rfl rfl rfl ⟨by decide, by decide⟩ ⟨Nat.le_of_ble_eq_true rfl, Nat.le_of_ble_eq_true rfl⟩ (Nat.le_of_ble_eq_true rfl) dX1_lost_45 (fun x_1 w_1 hp => ?_)
      obtain ⟨rfl, rfl⟩ := hp
      refine jB_if_eq C 62 dX1_lost_48 (by decide) (fun c_48 => ?_) (fun c_48 => ?_)
      · refine j_iconst C (nI 0) dX1_lost_62 (by decide) ?_
        exact j_reti C R dX1_lost_63 ⟨fo1, fo2, ds1, ds2, fo2, s2, qu2, lk2, hsr, by rw [hs]; exact hsr2, Or.inr ⟨Or.inl ((oI_m1 (fun j h => srD_lt (srF_D hsr) hp2 _ j h)).mp c_32), rfl⟩⟩
      · exact absurd c_48 (by decide)
    · refine j_iload_n C dX1_lost_35 rfl ?_
      refine j_iconst C (-1) dX1_lost_36 (by decide) ?_
      refine j_icmp_ne C 44 dX1_lost_37 (by decide) (fun c_37 => ?_) (fun c_37 => ?_)
      · refine j_iconst C (nI 0) dX1_lost_44 (by decide) ?_
        refine j_callV1i C (ct_X1_goesWell (by omega)) gw_1_66 nd_X1_goesWell 1 0 rfl rfl rfl ⟨by decide, by decide⟩ ⟨Nat.le_of_ble_eq_true rfl, Nat.le_of_ble_eq_true rfl⟩ (Nat.le_of_ble_eq_true rfl) dX1_lost_45 (fun x_1 w_1 hp => ?_)
        obtain ⟨rfl, rfl⟩ := hp
        refine jB_if_eq C 62 dX1_lost_48 (by decide) (fun c_48 => ?_) (fun c_48 => ?_)
        · exact absurd c_48 (by decide)
        · refine j_aload_n C dX1_lost_51 rfl ?_
          refine g1_moves C dX1_lost_52 ?_
          refine j_iload_n C dX1_lost_55 rfl ?_
          refine j_iadd C dX1_lost_56 ?_
          refine j_top _ (nI mv0 + oI (ds1 b)) rfl ?_
          refine j_iload_n C dX1_lost_57 rfl ?_
          refine j_isub C dX1_lost_58 ?_
          refine j_top _ (nI mv0 + oI (ds1 b) - oI (ds2 b)) rfl ?_
          refine j_goto C 63 dX1_lost_59 (by decide) ?_
          exact j_reti C R dX1_lost_63 ⟨fo1, fo2, ds1, ds2, fo2, s2, qu2, lk2, hsr, by rw [hs]; exact hsr2, Or.inl ⟨fun q => c_32 ((oI_m1 (fun j h => srD_lt (srF_D hsr) hp2 _ j h)).mpr q), fun q => c_37 ((oI_m1 (fun j h => srD_lt (srF_D hsr2) hp2 _ j h)).mpr q), rfl, rfl⟩⟩
      · refine j_iconst C (nI 1) dX1_lost_40 (by decide) ?_
        refine j_goto C 45 dX1_lost_41 (by decide) ?_
        refine j_callV1i C (ct_X1_goesWell (by omega)) gw_1_66 nd_X1_goesWell 1 0 rfl rfl rfl ⟨by decide, by decide⟩ ⟨Nat.le_of_ble_eq_true rfl, Nat.le_of_ble_eq_true rfl⟩ (Nat.le_of_ble_eq_true rfl) dX1_lost_45 (fun x_1 w_1 hp => ?_)
        obtain ⟨rfl, rfl⟩ := hp
        refine jB_if_eq C 62 dX1_lost_48 (by decide) (fun c_48 => ?_) (fun c_48 => ?_)
        · refine j_iconst C (nI 0) dX1_lost_62 (by decide) ?_
          exact j_reti C R dX1_lost_63 ⟨fo1, fo2, ds1, ds2, fo2, s2, qu2, lk2, hsr, by rw [hs]; exact hsr2, Or.inr ⟨Or.inr ((oI_m1 (fun j h => srD_lt (srF_D hsr2) hp2 _ j h)).mp c_37), rfl⟩⟩
        · exact absurd c_48 (by decide)
  · have hs : stM mv0 st0 a = a := by unfold stM; rw [if_pos ((nI_z (by omega)).mp c_13)]
    refine j_iload_n C dX1_lost_16 rfl ?_
    refine j_goto C 28 dX1_lost_17 (by decide) ?_
    refine j_istore_2 C dX1_lost_28 (by decide) ?_
    refine j_aload_n C dX1_lost_29 rfl ?_
    refine j_iload_n C dX1_lost_30 rfl ?_
    refine j_iconst C (-1) dX1_lost_31 (by decide) ?_
    refine j_icmp_eq C 40 dX1_lost_32 (by decide) (fun c_32 => ?_) (fun c_32 => ?_)
    · refine j_iconst C (nI 1) dX1_lost_40 (by decide) ?_
      refine j_goto C 45 dX1_lost_41 (by decide) ?_
      refine j_callV1i C (ct_X1_goesWell (by omega)) gw_1_66 nd_X1_goesWell 1 0 rfl rfl rfl ⟨by decide, by decide⟩ ⟨Nat.le_of_ble_eq_true rfl, Nat.le_of_ble_eq_true rfl⟩ (Nat.le_of_ble_eq_true rfl) dX1_lost_45 (fun x_1 w_1 hp => ?_)
      obtain ⟨rfl, rfl⟩ := hp
      refine jB_if_eq C 62 dX1_lost_48 (by decide) (fun c_48 => ?_) (fun c_48 => ?_)
      · refine j_iconst C (nI 0) dX1_lost_62 (by decide) ?_
        exact j_reti C R dX1_lost_63 ⟨fo1, fo1, ds1, ds1, fo1, s1, qu1, lk1, hsr, by rw [hs]; exact hsr, Or.inr ⟨Or.inl ((oI_m1 (fun j h => srD_lt (srF_D hsr) hp2 _ j h)).mp c_32), rfl⟩⟩
      · exact absurd c_48 (by decide)
    · refine j_iload_n C dX1_lost_35 rfl ?_
      refine j_iconst C (-1) dX1_lost_36 (by decide) ?_
      refine j_icmp_ne C 44 dX1_lost_37 (by decide) (fun c_37 => ?_) (fun c_37 => ?_)
      · refine j_iconst C (nI 0) dX1_lost_44 (by decide) ?_
        refine j_callV1i C (ct_X1_goesWell (by omega)) gw_1_66 nd_X1_goesWell 1 0 rfl rfl rfl ⟨by decide, by decide⟩ ⟨Nat.le_of_ble_eq_true rfl, Nat.le_of_ble_eq_true rfl⟩ (Nat.le_of_ble_eq_true rfl) dX1_lost_45 (fun x_1 w_1 hp => ?_)
        obtain ⟨rfl, rfl⟩ := hp
        refine jB_if_eq C 62 dX1_lost_48 (by decide) (fun c_48 => ?_) (fun c_48 => ?_)
        · exact absurd c_48 (by decide)
        · refine j_aload_n C dX1_lost_51 rfl ?_
          refine g1_moves C dX1_lost_52 ?_
          refine j_iload_n C dX1_lost_55 rfl ?_
          refine j_iadd C dX1_lost_56 ?_
          refine j_top _ (nI mv0 + oI (ds1 b)) rfl ?_
          refine j_iload_n C dX1_lost_57 rfl ?_
          refine j_isub C dX1_lost_58 ?_
          refine j_top _ (nI mv0 + oI (ds1 b) - oI (ds1 b)) rfl ?_
          refine j_goto C 63 dX1_lost_59 (by decide) ?_
          exact j_reti C R dX1_lost_63 ⟨fo1, fo1, ds1, ds1, fo1, s1, qu1, lk1, hsr, by rw [hs]; exact hsr, Or.inl ⟨fun q => c_32 ((oI_m1 (fun j h => srD_lt (srF_D hsr) hp2 _ j h)).mpr q), fun q => c_37 ((oI_m1 (fun j h => srD_lt (srF_D hsr) hp2 _ j h)).mpr q), rfl, rfl⟩⟩
      · refine j_iconst C (nI 1) dX1_lost_40 (by decide) ?_
        refine j_goto C 45 dX1_lost_41 (by decide) ?_
        refine j_callV1i C (ct_X1_goesWell (by omega)) gw_1_66 nd_X1_goesWell 1 0 rfl rfl rfl ⟨by decide, by decide⟩ ⟨Nat.le_of_ble_eq_true rfl, Nat.le_of_ble_eq_true rfl⟩ (Nat.le_of_ble_eq_true rfl) dX1_lost_45 (fun x_1 w_1 hp => ?_)
        obtain ⟨rfl, rfl⟩ := hp
        refine jB_if_eq C 62 dX1_lost_48 (by decide) (fun c_48 => ?_) (fun c_48 => ?_)
        · refine j_iconst C (nI 0) dX1_lost_62 (by decide) ?_
          exact j_reti C R dX1_lost_63 ⟨fo1, fo1, ds1, ds1, fo1, s1, qu1, lk1, hsr, by rw [hs]; exact hsr, Or.inr ⟨Or.inr ((oI_m1 (fun j h => srD_lt (srF_D hsr) hp2 _ j h)).mp c_37), rfl⟩⟩
        · exact absurd c_48 (by decide)
