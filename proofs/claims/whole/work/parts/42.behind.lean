abbrev rm_X1_isLawfulNumber : Room := { frames := 1, cells := 0, slots := 0, locals := 24 }
set_option maxHeartbeats 4000000 in
set_option maxRecDepth 100000 in
theorem ct_X1_isLawfulNumber {l : Launch} {D : va_G} {Y : jy_T} {ad : Nat → Nat} {P N a : Nat} {ru : Bool} {cb : Nat → Bool} {th mc s0 qd : Int32} {nw gl ba fr tt lk fa qu nb : Nat → Int32} (hc : cfg P N) (ha : a < P ^ N) :
    MJ l yX1_isLawfulNumber cX1_isLawfulNumber 2 (some .boolean) rm_X1_isLawfulNumber D Y [.ref (ad 0), .int (nI a)] (wM Y ad th (nI P) (nI N) (bi ru) mc s0 qd nw gl (fun d => bi (cb d)) ba fr tt lk fa qu nb) (jI (fun r w => ∃ lk1, r = bi (lawB P N ru cb a) ∧ w = (wM Y ad th (nI P) (nI N) (bi ru) mc s0 qd nw gl (fun d => bi (cb d)) ba fr tt lk1 fa qu nb))) := by
  refine j_enter (by decide) (Nat.le_of_ble_eq_true rfl) (fun v hv => by simp only [List.mem_cons, List.not_mem_nil, or_false] at hv; rcases hv with rfl | rfl <;> rfl) (fun K hl hD hnm C R => ?_)
  subst hl; subst hD
  have C : jC cX1_isLawfulNumber RX1 Y rm_X1_isLawfulNumber 2 K := C
  have R : jR Y (some .boolean) 0 0 (jI (fun r w => ∃ lk1, r = bi (lawB P N ru cb a) ∧ w = (wM Y ad th (nI P) (nI N) (bi ru) mc s0 qd nw gl (fun d => bi (cb d)) ba fr tt lk1 fa qu nb))) K := R
  refine j_eq (lo' := [some (.ref (ad 0)), some (.int (nI a))]) rfl rfl rfl ?_
  obtain ⟨hP3, hP5, hN1, hN6⟩ := id hc
  have hP0 : 0 < P := by omega
  have hp2 : P ^ N ≤ 15625 := cfg_pw hc (by omega)
  refine j_aload_n C dX1_isLawfulNumber_0 rfl ?_
  refine j_iload_n C dX1_isLawfulNumber_1 rfl ?_
  refine j_callV1v C (ct_X1_open hc (by omega)) gw_1_80 nd_X1_open 1 0 rfl rfl rfl ⟨by decide, by decide⟩ ⟨Nat.le_of_ble_eq_true rfl, Nat.le_of_ble_eq_true rfl⟩ (Nat.le_of_ble_eq_true rfl) dX1_isLawfulNumber_2 (fun w_1 hp => ?_)
  obtain ⟨lk1, hlk, rfl⟩ := hp
  refine j_aload_n C dX1_isLawfulNumber_5 rfl ?_
  refine j_callV0i C (ct_X1_isFine hc hlk (fun d _ => dg_lt (by omega))) gw_1_84 nd_X1_isFine 1 0 rfl rfl rfl ⟨by decide, by decide⟩ ⟨Nat.le_of_ble_eq_true rfl, Nat.le_of_ble_eq_true rfl⟩ (Nat.le_of_ble_eq_true rfl) dX1_isLawfulNumber_6 (fun x_1 w_1 hp => ?_)
  obtain ⟨rfl, rfl⟩ := hp
  exact j_retz C R dX1_isLawfulNumber_9 (bi_nar _) ⟨lk1, rfl, rfl⟩
def nbM (P N : Nat) (ru : Bool) (cb ba : Nat → Bool) : nb_T := fun x f t => if psB P N ru cb (fun k => !ba k) x f t then some (mv P N x f t) else none
theorem nbM_ft {P N x f t : Nat} {ru : Bool} {cb ba : Nat → Bool} (h : ftB f t (tp P N x f) (tp P N x t) = false) : nbM P N ru cb ba x f t = none := by unfold nbM psB; rw [h]; rfl
theorem nbM_ba {P N x f t : Nat} {ru : Bool} {cb ba : Nat → Bool} (h : ba (f * 5 + t) = true) : nbM P N ru cb ba x f t = none := by unfold nbM psB; simp [h]
theorem nbM_lw {P N x f t : Nat} {ru : Bool} {cb ba : Nat → Bool} (h : lawB P N ru cb (mv P N x f t) = false) : nbM P N ru cb ba x f t = none := by unfold nbM psB; rw [h]; simp
theorem nbM_ok {P N x f t : Nat} {ru : Bool} {cb ba : Nat → Bool} (h1 : ftB f t (tp P N x f) (tp P N x t) = true) (h2 : ba (f * 5 + t) = false) (h3 : lawB P N ru cb (mv P N x f t) = true) : nbM P N ru cb ba x f t = some (mv P N x f t) := by
  unfold nbM psB; simp [h1, h2, h3]
theorem nbM_lt {P N x f t y : Nat} {ru : Bool} {cb ba : Nat → Bool} (hP : 0 < P) (hx : x < P ^ N) (ht : t < P) (h : nbM P N ru cb ba x f t = some y) : y < P ^ N := by
  unfold nbM at h
  split at h
  · cases h; exact mv_lt hP hx ht
  · cases h
theorem bf_k {M P : Nat} {nb : nb_T} {o h fo : Nat} {ds : Nat → Option Nat} {q : Nat → Nat} {x dx k : Nat} (hP : 0 < P) (I : bfX M P nb o h fo ds q x dx (k / P) (k % P + 1)) : bfX M P nb o h fo ds q x dx ((k + 1) / P) ((k + 1) % P) := by
  have e : k + 1 = P * (k / P) + (k % P + 1) := by have := Nat.div_add_mod k P; omega
  have hm := Nat.mod_lt k hP
  by_cases w : k % P + 1 < P
  · have e1 : (k + 1) / P = k / P := by rw [e, Nat.mul_add_div hP, Nat.div_eq_of_lt w]; rfl
    have e2 : (k + 1) % P = k % P + 1 := by
      have h := congrArg (· % P) e
      simp only [Nat.mul_add_mod] at h
      rw [h, Nat.mod_eq_of_lt w]
    rw [e1, e2]; exact I
  · have w2 : k % P + 1 = P := by omega
    have e1 : (k + 1) / P = k / P + 1 := by rw [e, w2, Nat.mul_add_div hP, Nat.div_self hP]
    have e2 : (k + 1) % P = 0 := by
      have h := congrArg (· % P) e
      simp only [Nat.mul_add_mod] at h
      rw [h, w2, Nat.mod_self]
    rw [e1, e2]; exact bf_row I (by omega)
abbrev rm_X1_behind : Room := { frames := 1, cells := 0, slots := 0, locals := 24 }
set_option maxHeartbeats 4000000 in
set_option maxRecDepth 100000 in
theorem ct_X1_behind {l : Launch} {D : va_G} {Y : jy_T} {ad : Nat → Nat} {P N a f t : Nat} {ru : Bool} {cb ba : Nat → Bool} {th mc s0 qd : Int32} {nw gl fr tt lk fa qu nb : Nat → Int32} (hc : cfg P N) (ha : a < P ^ N) (hf : f < P) (ht : t < P) :
    MJ l yX1_behind cX1_behind 8 (some .int) rm_X1_behind D Y [.ref (ad 0), .int (nI a), .int (nI f), .int (nI t)] (wM Y ad th (nI P) (nI N) (bi ru) mc s0 qd nw gl (fun d => bi (cb d)) (fun k => bi (ba k)) fr tt lk fa qu nb) (jI (fun r w => r = oI (nbM P N ru cb ba a f t) ∧ ∃ lk1, w = (wM Y ad th (nI P) (nI N) (bi ru) mc s0 qd nw gl (fun d => bi (cb d)) (fun k => bi (ba k)) fr tt lk1 fa qu nb))) := by
  refine j_enter (by decide) (Nat.le_of_ble_eq_true rfl) (fun v hv => by simp only [List.mem_cons, List.not_mem_nil, or_false] at hv; rcases hv with rfl | rfl | rfl | rfl <;> rfl) (fun K hl hD hnm C R => ?_)
  subst hl; subst hD
  have C : jC cX1_behind RX1 Y rm_X1_behind 8 K := C
  have R : jR Y (some .int) 0 0 (jI (fun r w => r = oI (nbM P N ru cb ba a f t) ∧ ∃ lk1, w = (wM Y ad th (nI P) (nI N) (bi ru) mc s0 qd nw gl (fun d => bi (cb d)) (fun k => bi (ba k)) fr tt lk1 fa qu nb))) K := R
  refine j_eq (lo' := [some (.ref (ad 0)), some (.int (nI a)), some (.int (nI f)), some (.int (nI t)), none, none, none, none]) rfl rfl rfl ?_
  obtain ⟨hP3, hP5, hN1, hN6⟩ := id hc
  have hP0 : 0 < P := by omega
  have hp2 : P ^ N ≤ 15625 := cfg_pw hc (by omega)
  have hB : ∀ (lk1 : Nat → Int32), (∀ d, d < N → lk1 d = nI (dg P a d)) → ftB f t (tp P N a f) (tp P N a t) = true → ∀ l5 : Option Value, jJ K 0 0 43 [some (.ref (ad 0)), some (.int (nI a)), some (.int (nI f)), some (.int (nI t)), some (.int (oI (tp P N a f))), l5, none, none] [] (wM Y ad th (nI P) (nI N) (bi ru) mc s0 qd nw gl (fun d => bi (cb d)) (fun k => bi (ba k)) fr tt lk1 fa qu nb) := by
    intro lk1 hlk hft l5
    obtain ⟨-, d, hd, -⟩ := ftB_some hft
    have hdN := tp_lt hd
    have hP2 : ∀ (m i : Nat), d < i + m → i ≤ d → ba (f * 5 + t) = false → jJ K 0 0 72 [some (.ref (ad 0)), some (.int (nI a)), some (.int (nI f)), some (.int (nI t)), some (.int (nI d)), l5, some (.int (nI (P ^ i))), some (.int (nI i))] [] (wM Y ad th (nI P) (nI N) (bi ru) mc s0 qd nw gl (fun d => bi (cb d)) (fun k => bi (ba k)) fr tt (upd lk1 d (nI t)) fa qu nb) := by
      intro m
      induction m with
      | zero => intro i h1 h2; omega
      | succ m ih =>
        intro i h1 h2 hba
        refine j_iload C dX1_behind_72 rfl ?_
        refine j_iload C dX1_behind_74 rfl ?_
        refine jN_icmp_ge C 94 (by omega) (by omega) dX1_behind_76 (by decide) (fun c_76 => ?_) (fun c_76 => ?_)
        · have hid : i = d := by omega
          subst hid
          refine j_aload_n C dX1_behind_94 rfl ?_
          refine j_callV0i C (ct_X1_isFine (f := updN (dg P a) i t) hc (fun q hq => by
  by_cases e : q = i
  · rw [e, pk_us, updN_s]
  · rw [pk_un e, updN_n e]; exact hlk q hq) (fun q hq => by
  by_cases e : q = i
  · rw [e, updN_s]; omega
  · rw [updN_n e]; exact dg_lt hP0)) gw_1_84 nd_X1_isFine 1 0 rfl rfl rfl ⟨by decide, by decide⟩ ⟨Nat.le_of_ble_eq_true rfl, Nat.le_of_ble_eq_true rfl⟩ (Nat.le_of_ble_eq_true rfl) dX1_behind_95 (fun x_1 w_1 hp => ?_)
          obtain ⟨rfl, rfl⟩ := hp
          refine j_top _ (bi (lawB P N ru cb (mv P N a f t))) (by rw [bi_inj]; unfold mv; rw [hd]; exact lawF_cong (fun q hq => (dg_sd hP0 ha (tp_lt hd) ht hq).symm)) ?_
          refine jB_if_eq C 112 dX1_behind_98 (by decide) (fun c_98 => ?_) (fun c_98 => ?_)
          · refine j_iconst C (-1) dX1_behind_112 (by decide) ?_
            exact j_reti C R dX1_behind_113 ⟨by rw [nbM_lw c_98]; rfl, _, rfl⟩
          · refine j_iload_n C dX1_behind_101 rfl ?_
            refine j_iload_n C dX1_behind_102 rfl ?_
            refine j_iload_n C dX1_behind_103 rfl ?_
            refine j_isub C dX1_behind_104 ?_
            refine j_top _ (nI t - nI f) rfl ?_
            refine j_iload C dX1_behind_105 rfl ?_
            refine j_imul C dX1_behind_107 ?_
            refine j_top _ ((nI t - nI f) * nI (P ^ i)) rfl ?_
            refine j_iadd C dX1_behind_108 ?_
            refine j_top _ (nI (mv P N a f t)) (by rw [mv_some hd]; exact nI_move (tp_le hd)) ?_
            refine j_goto C 113 dX1_behind_109 (by decide) ?_
            exact j_reti C R dX1_behind_113 ⟨by rw [nbM_ok hft hba c_98]; rfl, _, rfl⟩
        · refine j_iload C dX1_behind_79 rfl ?_
          refine j_aload_n C dX1_behind_81 rfl ?_
          refine g1_pegs C dX1_behind_82 ?_
          refine j_imul C dX1_behind_85 ?_
          refine j_top _ _ (pk_mul _ _) ?_
          refine j_top _ (nI (P ^ (i + 1))) (by rw [Nat.pow_succ]) ?_
          refine j_istore_6 C dX1_behind_86 (by decide) ?_
          refine j_iinc_7 C _ (nI_p1 _) dX1_behind_88 ?_
          refine j_goto C 72 dX1_behind_91 (by decide) ?_
          exact ih (i + 1) (by omega) (by omega) hba
    refine j_eq (lo' := [some (.ref (ad 0)), some (.int (nI a)), some (.int (nI f)), some (.int (nI t)), some (.int (nI d)), l5, none, none]) (by rw [hd]; rfl) rfl rfl ?_
    refine j_aload_n C dX1_behind_43 rfl ?_
    refine g1_isBarred C dX1_behind_44 ?_
    refine j_iconst C (nI 5) dX1_behind_47 (by decide) ?_
    refine j_iload_n C dX1_behind_48 rfl ?_
    refine j_imul C dX1_behind_49 ?_
    refine j_top _ _ (pk_mul _ _) ?_
    refine j_iload_n C dX1_behind_50 rfl ?_
    refine j_iadd C dX1_behind_51 ?_
    refine j_top _ _ (nI_add _ _) ?_
    refine l1_ba C (f * 5 + t) (by rw [Nat.mul_comm]) (by omega) dX1_behind_52 ?_
    refine jB_if_eq C 58 dX1_behind_53 (by decide) (fun c_53 => ?_) (fun c_53 => ?_)
    · refine j_aload_n C dX1_behind_58 rfl ?_
      refine g1_look C dX1_behind_59 ?_
      refine j_iload C dX1_behind_62 rfl ?_
      refine j_iload_n C dX1_behind_64 rfl ?_
      refine s1_lk C _ rfl (by omega) dX1_behind_65 ?_
      refine j_iconst C (nI 1) dX1_behind_66 (by decide) ?_
      refine j_istore_6 C dX1_behind_67 (by decide) ?_
      refine j_iconst C (nI 0) dX1_behind_69 (by decide) ?_
      refine j_istore_7 C dX1_behind_70 (by decide) ?_
      exact hP2 (d + 1) 0 (by omega) (by omega) c_53
    · refine j_iconst C (-1) dX1_behind_56 (by decide) ?_
      exact j_reti C R dX1_behind_57 ⟨by rw [nbM_ba c_53]; rfl, lk1, rfl⟩
  refine j_aload_n C dX1_behind_0 rfl ?_
  refine j_iload_n C dX1_behind_1 rfl ?_
  refine j_callV1v C (ct_X1_open hc (by omega)) gw_1_80 nd_X1_open 1 0 rfl rfl rfl ⟨by decide, by decide⟩ ⟨Nat.le_of_ble_eq_true rfl, Nat.le_of_ble_eq_true rfl⟩ (Nat.le_of_ble_eq_true rfl) dX1_behind_2 (fun w_1 hp => ?_)
  obtain ⟨lk1, hlk, rfl⟩ := hp
  refine j_aload_n C dX1_behind_5 rfl ?_
  refine j_iload_n C dX1_behind_6 rfl ?_
  refine j_callV1i C (ct_X1_topOf (f := dg P a) (by omega) hlk (fun d _ => by have := dg_lt (P := P) (a := a) (d := d) hP0; omega) (by omega)) gw_1_88 nd_X1_topOf 1 0 rfl rfl rfl ⟨by decide, by decide⟩ ⟨Nat.le_of_ble_eq_true rfl, Nat.le_of_ble_eq_true rfl⟩ (Nat.le_of_ble_eq_true rfl) dX1_behind_7 (fun x_1 w_1 hp => ?_)
  obtain ⟨rfl, rfl⟩ := hp
  refine j_top _ (oI (tp P N a f)) rfl ?_
  refine j_istore_4 C dX1_behind_10 (by decide) ?_
  refine j_aload_n C dX1_behind_12 rfl ?_
  refine j_iload_n C dX1_behind_13 rfl ?_
  refine j_callV1i C (ct_X1_topOf (f := dg P a) (by omega) hlk (fun d _ => by have := dg_lt (P := P) (a := a) (d := d) hP0; omega) (by omega)) gw_1_88 nd_X1_topOf 1 0 rfl rfl rfl ⟨by decide, by decide⟩ ⟨Nat.le_of_ble_eq_true rfl, Nat.le_of_ble_eq_true rfl⟩ (Nat.le_of_ble_eq_true rfl) dX1_behind_14 (fun x_1 w_1 hp => ?_)
  obtain ⟨rfl, rfl⟩ := hp
  refine j_top _ (oI (tp P N a t)) rfl ?_
  refine j_istore_5 C dX1_behind_17 (by decide) ?_
  refine j_iload_n C dX1_behind_19 rfl ?_
  refine j_iload_n C dX1_behind_20 rfl ?_
  refine jN_icmp_eq C 56 (by omega) (by omega) dX1_behind_21 (by decide) (fun c_21 => ?_) (fun c_21 => ?_)
  · refine j_iconst C (-1) dX1_behind_56 (by decide) ?_
    exact j_reti C R dX1_behind_57 ⟨by rw [nbM_ft (by rw [c_21]; unfold ftB; simp)]; rfl, lk1, rfl⟩
  · refine j_iload C dX1_behind_24 rfl ?_
    refine j_iconst C (-1) dX1_behind_26 (by decide) ?_
    refine j_icmp_eq C 56 dX1_behind_27 (by decide) (fun c_27 => ?_) (fun c_27 => ?_)
    · refine j_iconst C (-1) dX1_behind_56 (by decide) ?_
      exact j_reti C R dX1_behind_57 ⟨by rw [nbM_ft (by rw [(oI_m1 (fun j h => by have := tp_lt h; omega)).mp c_27]; unfold ftB; simp)]; rfl, lk1, rfl⟩
    · refine j_iload C dX1_behind_30 rfl ?_
      refine j_iconst C (-1) dX1_behind_32 (by decide) ?_
      refine j_icmp_eq C 43 dX1_behind_33 (by decide) (fun c_33 => ?_) (fun c_33 => ?_)
      · have hnt := (oI_m1 (fun j h => by have := tp_lt h; omega)).mp c_33
        exact hB lk1 hlk (by
          rcases htf : tp P N a f with _ | d
          · rw [htf] at c_27; exact absurd rfl c_27
          · rw [hnt]; unfold ftB; simp [c_21]) _
      · rcases htf : tp P N a f with _ | d
        · rw [htf] at c_27; exact absurd rfl c_27
        rcases htt : tp P N a t with _ | e
        · rw [htt] at c_33; exact absurd rfl c_33
        have hd6 := tp_lt htf
        have he6 := tp_lt htt
        refine j_iload C dX1_behind_36 rfl ?_
        refine j_iload C dX1_behind_38 rfl ?_
        refine j_icmp_lt C 56 dX1_behind_40 (by decide) (fun c_40 => ?_) (fun c_40 => ?_)
        · refine j_iconst C (-1) dX1_behind_56 (by decide) ?_
          exact j_reti C R dX1_behind_57 ⟨by rw [nbM_ft (by have h : e < d := (nI_ltI (by omega) (by omega)).mp c_40; rw [htf, htt]; unfold ftB; simp; omega)]; rfl, lk1, rfl⟩
        · exact j_eq (by rw [htf]) rfl rfl (hB lk1 hlk (by
            have h : ¬ e < d := fun q => c_40 ((nI_ltI (by omega) (by omega)).mpr q)
            have h2 : d ≠ e := fun q => by
              rw [q] at htf
              have h3 := tp_dg htf
              rw [tp_dg htt] at h3
              exact c_21 h3.symm
            rw [htf, htt]; unfold ftB; simp [c_21]; omega) _)
