/-! the arrangement by its disks; tops; moves that are possible -/
theorem tp_of {P N a e g : Nat} (he : e < N) (h : dg P a e = g) : ∃ d, tp P N a g = some d ∧ d ≤ e := by
  cases q : tp P N a g with
  | none => exact absurd h (frm_none.mp q e (Nat.zero_le _) he)
  | some d =>
    refine ⟨d, rfl, ?_⟩
    by_cases w : d ≤ e
    · exact w
    · exact absurd h ((frm_some q).2.2.2 e (Nat.zero_le _) (by omega))
theorem sTp_lt {s : sT} (G : GD s) {g : Nat} : ∀ j, sTp s g = some j → j < 2 ^ 31 := fun j h => by
  have h : tp (sP s) (sN s) (sA s) g = some j := h
  have := tp_lt h; have := G.N6; omega
theorem sPs_ft {s : sT} {f t : Nat} (h : sPs s f t = true) : f ≠ t ∧ ∃ d, sTp s f = some d ∧ ∀ e, sTp s t = some e → d < e := ftB_some (psB_iff.mp h).1
theorem sPs_no {s : sT} {g : Nat} : sPs s g g = false := by
  cases h : sPs s g g with
  | false => rfl
  | true => exact absurd rfl (sPs_ft h).1
abbrev rm_L_isNowSo : Room := { frames := 7, cells := 120, slots := 720, locals := 113 }
set_option maxHeartbeats 4000000 in
set_option maxRecDepth 100000 in
theorem now_1 {K : jk_T} {Y : jy_T} {ad : Nat → Nat} {s : sT} (C : jC cL_isNowSo RL Y rm_L_isNowSo 8 K) (X : jX K) (G : GD s) (hl : K.1.2.1.stackTraces = false) {tr : Nat → Nat} {me : Bool} {to fa se qu : Nat → Int32} (kx : ∀ k n, k ≤ 6 → n ≤ 36 → jJ K k n 34 [some (.ref (ad 0)), some (.int (nI (sP s))), some (.int (nI (hor (sP s) (sDg s) 0 (sN s - 0)))), some (.int (nI 0 - nI 1)), none, none, none, none] [] (bw Y ad s tr me to fa se qu)) :
    ∀ (j k n : Nat), j ≤ sN s → k + j ≤ 6 → n + 6 * j ≤ 36 → jJ K k n 14 [some (.ref (ad 0)), some (.int (nI (sP s))), some (.int (nI (hor (sP s) (sDg s) j (sN s - j)))), some (.int (nI j - nI 1)), none, none, none, none] [] (bw Y ad s tr me to fa se qu) := by
  have hP5 := G.P5
  have hN6 := G.N6
  intro j
  induction j with
  | zero =>
    intro k n hj hk hn
    refine j_iload_n C dL_isNowSo_14 rfl ?_
    refine j_if_lt C 34 dL_isNowSo_15 (by decide) (fun _ => ?_) (fun c => absurd (by decide) c)
    exact kx k n (by omega) (by omega)
  | succ j ih =>
    intro k n hj hk hn
    rw [nI_pr]
    refine j_iload_n C dL_isNowSo_14 rfl ?_
    refine j_if_lt C 34 dL_isNowSo_15 (by decide) (fun c => absurd c (nI_nlt0 (by omega))) (fun _ => ?_)
    refine j_iload_n C dL_isNowSo_18 rfl ?_
    refine j_iload_n C dL_isNowSo_19 rfl ?_
    refine j_imul C dL_isNowSo_20 ?_
    refine j_top _ (nI (sP s * hor (sP s) (sDg s) (j + 1) (sN s - (j + 1)))) (pk_mul _ _) ?_
    refine j_aload_n C dL_isNowSo_21 rfl ?_
    refine j_iload_n C dL_isNowSo_22 rfl ?_
    refine j_callVZ (wr := []) (st := [.int (nI (sP s * hor (sP s) (sDg s) (j + 1) (sN s - (j + 1))))]) C X [.int (nI j)] [0, 1, 2, 3, 4, 5, 6, 7, 8, 9] [] (bz_pegOf G hl (show j < sN s by omega)) rfl rfl rfl rfl (by decide) gw_L_97 nd_X0_pegOf 0 0 rfl rfl rfl ⟨by decide, by decide⟩ ⟨(show k + 1 ≤ 120 by omega), (show n + 6 ≤ 720 by omega)⟩ (Nat.le_of_ble_eq_true rfl) dL_isNowSo_23 rfl (fun r w23 hp => ?_)
    obtain ⟨v23, rfl, hp⟩ := hp
    refine j_eq (st' := [.int v23, .int (nI (sP s * hor (sP s) (sDg s) (j + 1) (sN s - (j + 1))))]) (ws2 := w23) rfl rfl rfl ?_
    obtain ⟨rfl, rfl⟩ := hp
    refine j_iadd C dL_isNowSo_26 ?_
    refine j_top _ (nI (sP s * hor (sP s) (sDg s) (j + 1) (sN s - (j + 1)) + sDg s j)) (nI_add _ _) ?_
    refine j_istore_2 C dL_isNowSo_27 (by decide) ?_
    rw [show sP s * hor (sP s) (sDg s) (j + 1) (sN s - (j + 1)) + sDg s j = hor (sP s) (sDg s) j (sN s - j) by rw [show sN s - j = sN s - (j + 1) + 1 by omega]; rfl]
    refine j_iinc_3 C (nI j - nI 1) (nI_m1 _) dL_isNowSo_28 ?_
    refine j_goto C 14 dL_isNowSo_31 (by decide) ?_
    exact ih (k + 1) (n + 6) (by omega) (by omega) (by omega)
set_option maxHeartbeats 4000000 in
set_option maxRecDepth 100000 in
theorem now_3 {K : jk_T} {Y : jy_T} {ad : Nat → Nat} {s : sT} (C : jC cL_isNowSo RL Y rm_L_isNowSo 8 K) (X : jX K) (G : GD s) (hl : K.1.2.1.stackTraces = false) {g k0 n0 : Nat} {l2 l7 : Option Value} (hg : g < sP s) {tr : Nat → Nat} {me : Bool} {to fa se qu : Nat → Int32} (kx : ∀ k n l6, k ≤ k0 → n ≤ n0 → jJ K k n 154 [some (.ref (ad 0)), some (.int (nI (sP s))), l2, some (.int (nI 1)), some (.int (nI g)), some (.int (oI (sTp s g))), l6, l7] [] (bw Y ad s tr me to fa se qu)) (h0 : k0 ≤ 120) (h1 : n0 ≤ 720) :
    ∀ (f e k n : Nat), sN s ≤ e + f → e ≤ sN s → k + f ≤ k0 → n + 6 * f ≤ n0 → jJ K k n 106 [some (.ref (ad 0)), some (.int (nI (sP s))), l2, some (.int (nI 1)), some (.int (nI g)), some (.int (oI (sTp s g))), some (.int (nI e)), l7] [] (bw Y ad s tr me to fa se qu) := by
  have hP5 := G.P5
  have hN6 := G.N6
  intro f
  induction f with
  | zero =>
    intro e k n hf he hk hn
    refine j_iload C dL_isNowSo_106 rfl ?_
    refine j_aload_n C dL_isNowSo_108 rfl ?_
    refine j_callVZ (wr := []) (st := [.int (nI e)]) C X [] [0, 1, 2, 3, 4, 5, 6, 7, 8, 9] [] (bz_disks) rfl rfl rfl rfl (by decide) gw_L_55 nd_X0_disks 0 0 rfl rfl rfl ⟨by decide, by decide⟩ ⟨(show k + 0 ≤ 120 by omega), (show n + 0 ≤ 720 by omega)⟩ (Nat.le_of_ble_eq_true rfl) dL_isNowSo_109 rfl (fun r w109 hp => ?_)
    obtain ⟨v109, rfl, hp⟩ := hp
    refine j_eq (st' := [.int v109, .int (nI e)]) (ws2 := w109) rfl rfl rfl ?_
    obtain ⟨rfl, rfl⟩ := hp
    refine jN_icmp_ge C 154 (by omega) (by omega) dL_isNowSo_112 (by decide) (fun _ => ?_) (fun c => ?_)
    · exact kx k n _ (by omega) (by omega)
    · omega
  | succ f ih =>
    intro e k n hf he hk hn
    refine j_iload C dL_isNowSo_106 rfl ?_
    refine j_aload_n C dL_isNowSo_108 rfl ?_
    refine j_callVZ (wr := []) (st := [.int (nI e)]) C X [] [0, 1, 2, 3, 4, 5, 6, 7, 8, 9] [] (bz_disks) rfl rfl rfl rfl (by decide) gw_L_55 nd_X0_disks 0 0 rfl rfl rfl ⟨by decide, by decide⟩ ⟨(show k + 0 ≤ 120 by omega), (show n + 0 ≤ 720 by omega)⟩ (Nat.le_of_ble_eq_true rfl) dL_isNowSo_109 rfl (fun r w109 hp => ?_)
    obtain ⟨v109, rfl, hp⟩ := hp
    refine j_eq (st' := [.int v109, .int (nI e)]) (ws2 := w109) rfl rfl rfl ?_
    obtain ⟨rfl, rfl⟩ := hp
    refine jN_icmp_ge C 154 (by omega) (by omega) dL_isNowSo_112 (by decide) (fun _ => ?_) (fun c => ?_)
    · exact kx k n _ (by omega) (by omega)
    · have hds := dg_lt (a := sA s) (d := e) G.P0
      have tail : jJ K (k + 1) (n + 6) 142 [some (.ref (ad 0)), some (.int (nI (sP s))), l2, some (.int (nI 1)), some (.int (nI g)), some (.int (oI (sTp s g))), some (.int (nI e)), l7] [] (bw Y ad s tr me to fa se qu) := by
        refine j_iconst C (nI 1) dL_isNowSo_142 (by decide) ?_
        refine j_goto C 147 dL_isNowSo_143 (by decide) ?_
        refine j_istore_3 C dL_isNowSo_147 (by decide) ?_
        refine j_iinc_6 C (nI (e + 1)) (nI_p1 e) dL_isNowSo_148 ?_
        refine j_goto C 106 dL_isNowSo_151 (by decide) ?_
        exact ih (e + 1) (k + 1) (n + 6) (by omega) (by omega) (by omega) (by omega)
      refine j_iload_n C dL_isNowSo_115 rfl ?_
      refine j_if_eq C 146 dL_isNowSo_116 (by decide) (fun c => absurd c (by decide)) (fun _ => ?_)
      refine j_aload_n C dL_isNowSo_119 rfl ?_
      refine j_iload C dL_isNowSo_120 rfl ?_
      refine j_callVZ (wr := []) (st := []) C X [.int (nI e)] [0, 1, 2, 3, 4, 5, 6, 7, 8, 9] [] (bz_pegOf G hl c) rfl rfl rfl rfl (by decide) gw_L_97 nd_X0_pegOf 0 0 rfl rfl rfl ⟨by decide, by decide⟩ ⟨(show k + 0 + 1 ≤ 120 by omega), (show n + 0 + 6 ≤ 720 by omega)⟩ (Nat.le_of_ble_eq_true rfl) dL_isNowSo_122 rfl (fun r w122 hp => ?_)
      obtain ⟨v122, rfl, hp⟩ := hp
      refine j_eq (st' := [.int v122]) (ws2 := w122) rfl rfl rfl ?_
      obtain ⟨rfl, rfl⟩ := hp
      refine j_iload C dL_isNowSo_125 rfl ?_
      refine jN_icmp_ne C 142 (by show dg (sP s) (sA s) e < 2 ^ 31; omega) (by omega) dL_isNowSo_127 (by decide) (fun _ => tail) (fun q => ?_)
      obtain ⟨d, hd, hde⟩ := tp_of c q
      have hd : sTp s g = some d := hd
      refine j_eq (lo' := [some (.ref (ad 0)), some (.int (nI (sP s))), l2, some (.int (nI 1)), some (.int (nI g)), some (.int (nI d)), some (.int (nI e)), l7]) (by rw [hd]; rfl) rfl rfl ?_
      have tail : jJ K (k + 1) (n + 6) 142 [some (.ref (ad 0)), some (.int (nI (sP s))), l2, some (.int (nI 1)), some (.int (nI g)), some (.int (nI d)), some (.int (nI e)), l7] [] (bw Y ad s tr me to fa se qu) := by rw [hd] at tail; exact tail
      refine j_iload C dL_isNowSo_130 rfl ?_
      refine j_if_lt C 146 dL_isNowSo_132 (by decide) (fun z => absurd z (nI_nlt0 (by omega))) (fun _ => ?_)
      refine j_iload C dL_isNowSo_135 rfl ?_
      refine j_iload C dL_isNowSo_137 rfl ?_
      exact jN_icmp_gt C 146 (by omega) (by omega) dL_isNowSo_139 (by decide) (fun z => absurd z (by omega)) (fun _ => tail)
set_option maxHeartbeats 4000000 in
set_option maxRecDepth 100000 in
theorem now_4 {K : jk_T} {Y : jy_T} {ad : Nat → Nat} {s : sT} (C : jC cL_isNowSo RL Y rm_L_isNowSo 8 K) (X : jX K) (G : GD s) (hl : K.1.2.1.stackTraces = false) {g k0 n0 : Nat} {l2 : Option Value} (hg : g < sP s) (kx : ∀ k n l6 l7 w, k ≤ k0 → n ≤ n0 → Bw Y ad s w → jJ K k n 215 [some (.ref (ad 0)), some (.int (nI (sP s))), l2, some (.int (nI 1)), some (.int (nI g)), some (.int (oI (sTp s g))), l6, l7] [] w) (h0 : k0 ≤ 120) (h1 : n0 ≤ 720) :
    ∀ (f e k n : Nat) (l7 : Option Value) (w : va_W), sP s ≤ e + f → e ≤ sP s → k + 2 * f ≤ k0 → n + 12 * f ≤ n0 → Bw Y ad s w → jJ K k n 157 [some (.ref (ad 0)), some (.int (nI (sP s))), l2, some (.int (nI 1)), some (.int (nI g)), some (.int (oI (sTp s g))), some (.int (nI e)), l7] [] w := by
  have hP5 := G.P5
  intro f
  induction f with
  | zero =>
    intro e k n l7 w hf he hk hn hB
    refine j_iload C dL_isNowSo_157 rfl ?_
    refine j_iload_n C dL_isNowSo_159 rfl ?_
    refine jN_icmp_ge C 215 (by omega) (by omega) dL_isNowSo_160 (by decide) (fun _ => ?_) (fun c => ?_)
    · exact kx _ _ _ _ _ (by omega) (by omega) hB
    · omega
  | succ f ih =>
    intro e k n l7 w hf he hk hn hB
    obtain ⟨tr, me, to, fa, se, qu, H, rfl⟩ := hB
    refine j_iload C dL_isNowSo_157 rfl ?_
    refine j_iload_n C dL_isNowSo_159 rfl ?_
    refine jN_icmp_ge C 215 (by omega) (by omega) dL_isNowSo_160 (by decide) (fun _ => ?_) (fun c => ?_)
    · exact kx _ _ _ _ _ (by omega) (by omega) (Bw.of H)
    · refine j_aload_n C dL_isNowSo_163 rfl ?_
      refine j_iload C dL_isNowSo_164 rfl ?_
      refine j_callVZ (wr := []) (st := []) C X [.int (nI e)] [0, 1, 2, 3, 4, 5, 6, 7, 8, 9] [] (bz_top G H hl c) rfl rfl rfl rfl (by decide) gw_L_101 nd_X0_top 0 0 rfl rfl rfl ⟨by decide, by decide⟩ ⟨(show k + 1 ≤ 120 by omega), (show n + 6 ≤ 720 by omega)⟩ (Nat.le_of_ble_eq_true rfl) dL_isNowSo_166 rfl (fun r w166 hp => ?_)
      obtain ⟨v166, rfl, hp⟩ := hp
      refine j_eq (st' := [.int v166]) (ws2 := w166) rfl rfl rfl ?_
      obtain ⟨rfl, tr166, me166, to166, fa166, se166, qu166, H166, rfl⟩ := hp
      refine j_istore_7 C dL_isNowSo_169 (by decide) ?_
      refine j_iload_n C dL_isNowSo_171 rfl ?_
      refine j_if_eq C 207 dL_isNowSo_172 (by decide) (fun c => absurd c (by decide)) (fun _ => ?_)
      refine j_aload_n C dL_isNowSo_175 rfl ?_
      refine j_iload C dL_isNowSo_176 rfl ?_
      refine j_iload C dL_isNowSo_178 rfl ?_
      refine j_callVZ (wr := []) (st := []) C X [.int (nI g), .int (nI e)] [0, 1, 2, 3, 4, 5, 6, 7, 8, 9] [] (bz_canMove G H166 hl hg c) rfl rfl rfl rfl (by decide) gw_L_104 nd_X0_canMove 0 0 rfl rfl rfl ⟨by decide, by decide⟩ ⟨(show k + 1 + 1 ≤ 120 by omega), (show n + 6 + 6 ≤ 720 by omega)⟩ (Nat.le_of_ble_eq_true rfl) dL_isNowSo_180 rfl (fun r w180 hp => ?_)
      obtain ⟨v180, rfl, hp⟩ := hp
      refine j_eq (st' := [.int v180]) (ws2 := w180) rfl rfl rfl ?_
      obtain ⟨rfl, tr180, me180, to180, fa180, se180, qu180, H180, rfl⟩ := hp
      have tail : jJ K (k + 1 + 1) (n + 6 + 6) 203 [some (.ref (ad 0)), some (.int (nI (sP s))), l2, some (.int (nI 1)), some (.int (nI g)), some (.int (oI (sTp s g))), some (.int (nI e)), some (.int (oI (sTp s e)))] [] (bw Y ad s tr180 me180 to180 fa180 se180 qu180) := by
        refine j_iconst C (nI 1) dL_isNowSo_203 (by decide) ?_
        refine j_goto C 208 dL_isNowSo_204 (by decide) ?_
        refine j_istore_3 C dL_isNowSo_208 (by decide) ?_
        refine j_iinc_6 C (nI (e + 1)) (nI_p1 e) dL_isNowSo_209 ?_
        refine j_goto C 157 dL_isNowSo_212 (by decide) ?_
        exact ih (e + 1) (k + 1 + 1) (n + 6 + 6) _ _ (by omega) (by omega) (by omega) (by omega) (Bw.of H180)
      refine jB_if_eq C 203 dL_isNowSo_183 (by decide) (fun _ => tail) (fun q => ?_)
      obtain ⟨-, d, hd, hlt⟩ := sPs_ft q
      refine j_iload C dL_isNowSo_186 rfl ?_
      refine j_if_lt C 207 dL_isNowSo_188 (by decide) (fun z => absurd z (by rw [hd]; exact nI_nlt0 (sTp_lt G d hd))) (fun _ => ?_)
      refine j_iload C dL_isNowSo_191 rfl ?_
      refine j_if_lt C 203 dL_isNowSo_193 (by decide) (fun _ => tail) (fun z => ?_)
      refine j_iload C dL_isNowSo_196 rfl ?_
      refine j_iload C dL_isNowSo_198 rfl ?_
      refine j_icmp_le C 207 dL_isNowSo_200 (by decide) (fun y => absurd y ?_) (fun _ => tail)
      cases e2 : sTp s e with
      | none => rw [e2] at z; exact absurd (by decide) z
      | some u =>
        rw [hd]
        show ¬ nI u ≤ nI d
        rw [nI_leI (sTp_lt G u e2) (sTp_lt G d hd)]
        have := hlt u e2
        omega
set_option maxHeartbeats 4000000 in
set_option maxRecDepth 100000 in
theorem now_2 {K : jk_T} {Y : jy_T} {ad : Nat → Nat} {s : sT} (C : jC cL_isNowSo RL Y rm_L_isNowSo 8 K) (X : jX K) (G : GD s) (hl : K.1.2.1.stackTraces = false) (kx : ∀ k n lo w, k ≤ 120 → n ≤ 720 → Bw Y ad s w → jJ K k n 222 lo [.int (nI 1)] w) :
    ∀ (f g k n : Nat) (l2 l5 l6 l7 : Option Value) (w : va_W), sP s ≤ g + f → g ≤ sP s → k + 19 * f ≤ 120 → n + 114 * f ≤ 720 → Bw Y ad s w → jJ K k n 51 [some (.ref (ad 0)), some (.int (nI (sP s))), l2, some (.int (nI 1)), some (.int (nI g)), l5, l6, l7] [] w := by
  have hP5 := G.P5
  have hN6 := G.N6
  intro f
  induction f with
  | zero =>
    intro g k n l2 l5 l6 l7 w hf hg hk hn hB
    refine j_iload C dL_isNowSo_51 rfl ?_
    refine j_iload_n C dL_isNowSo_53 rfl ?_
    refine jN_icmp_ge C 221 (by omega) (by omega) dL_isNowSo_54 (by decide) (fun _ => ?_) (fun c => ?_)
    · refine j_iload_n C dL_isNowSo_221 rfl ?_
      exact kx _ _ _ _ (by omega) (by omega) hB
    · omega
  | succ f ih =>
    intro g k n l2 l5 l6 l7 w hf hg hk hn hB
    refine j_iload C dL_isNowSo_51 rfl ?_
    refine j_iload_n C dL_isNowSo_53 rfl ?_
    refine jN_icmp_ge C 221 (by omega) (by omega) dL_isNowSo_54 (by decide) (fun _ => ?_) (fun c => ?_)
    · refine j_iload_n C dL_isNowSo_221 rfl ?_
      exact kx _ _ _ _ (by omega) (by omega) hB
    · obtain ⟨tr, me, to, fa, se, qu, H, rfl⟩ := hB
      refine j_aload_n C dL_isNowSo_57 rfl ?_
      refine j_iload C dL_isNowSo_58 rfl ?_
      refine j_callVZ (wr := []) (st := []) C X [.int (nI g)] [0, 1, 2, 3, 4, 5, 6, 7, 8, 9] [] (bz_top G H hl c) rfl rfl rfl rfl (by decide) gw_L_101 nd_X0_top 0 0 rfl rfl rfl ⟨by decide, by decide⟩ ⟨(show k + 1 ≤ 120 by omega), (show n + 6 ≤ 720 by omega)⟩ (Nat.le_of_ble_eq_true rfl) dL_isNowSo_60 rfl (fun r w60 hp => ?_)
      obtain ⟨v60, rfl, hp⟩ := hp
      refine j_eq (st' := [.int v60]) (ws2 := w60) rfl rfl rfl ?_
      obtain ⟨rfl, tr60, me60, to60, fa60, se60, qu60, H60, rfl⟩ := hp
      refine j_istore_5 C dL_isNowSo_63 (by decide) ?_
      refine j_iload_n C dL_isNowSo_65 rfl ?_
      have t86 : ∀ k1 n1, k1 ≤ k + 2 → n1 ≤ n + 12 → jJ K k1 n1 86 [some (.ref (ad 0)), some (.int (nI (sP s))), l2, some (.int (nI 1)), some (.int (nI g)), some (.int (oI (sTp s g))), l6, l7] [] (bw Y ad s tr60 me60 to60 fa60 se60 qu60) := by
        intro k1 n1 hk1 hn1
        refine j_aload_n C dL_isNowSo_86 rfl ?_
        refine j_iload C dL_isNowSo_87 rfl ?_
        refine j_iload C dL_isNowSo_89 rfl ?_
        refine j_callVZ (wr := []) (st := []) C X [.int (nI g), .int (nI g)] [0, 1, 2, 3, 4, 5, 6, 7, 8, 9] [] (bz_canMove G H60 hl c c) rfl rfl rfl rfl (by decide) gw_L_104 nd_X0_canMove 0 0 rfl rfl rfl ⟨by decide, by decide⟩ ⟨(show k1 + 1 ≤ 120 by omega), (show n1 + 6 ≤ 720 by omega)⟩ (Nat.le_of_ble_eq_true rfl) dL_isNowSo_91 rfl (fun r w91 hp => ?_)
        obtain ⟨v91, rfl, hp⟩ := hp
        refine j_eq (st' := [.int v91]) (ws2 := w91) rfl rfl rfl ?_
        obtain ⟨rfl, tr91, me91, to91, fa91, se91, qu91, H91, rfl⟩ := hp
        refine jB_if_ne C 101 dL_isNowSo_94 (by decide) (fun z => absurd z (by rw [sPs_no]; decide)) (fun _ => ?_)
        refine j_iconst C (nI 1) dL_isNowSo_97 (by decide) ?_
        refine j_goto C 102 dL_isNowSo_98 (by decide) ?_
        refine j_istore_3 C dL_isNowSo_102 (by decide) ?_
        refine j_iconst C (nI 0) dL_isNowSo_103 (by decide) ?_
        refine j_istore_6 C dL_isNowSo_104 (by decide) ?_
        refine now_3 C X G hl (k0 := k1 + 1 + 6) (n0 := n1 + 6 + 36) c (fun k2 n2 l6 hk2 hn2 => ?_) (by omega) (by omega) (sN s) 0 (k1 + 1) (n1 + 6) (by omega) (by omega) (by omega) (by omega)
        refine j_iconst C (nI 0) dL_isNowSo_154 (by decide) ?_
        refine j_istore_6 C dL_isNowSo_155 (by decide) ?_
        refine now_4 C X G hl (k0 := k + 19) (n0 := n + 114) c (fun k3 n3 l6 l7 w hk3 hn3 hB => ?_) (by omega) (by omega) (sP s) 0 k2 n2 _ _ (by omega) (by omega) (by omega) (by omega) (Bw.of H91)
        refine j_iinc_4 C (nI (g + 1)) (nI_p1 g) dL_isNowSo_215 ?_
        refine j_goto C 51 dL_isNowSo_218 (by decide) ?_
        exact ih (g + 1) k3 n3 _ _ _ _ _ (by omega) (by omega) (by omega) (by omega) hB
      refine j_if_eq C 101 dL_isNowSo_66 (by decide) (fun z => absurd z (by decide)) (fun _ => ?_)
      refine j_iload C dL_isNowSo_69 rfl ?_
      refine j_iconst C (-1) dL_isNowSo_71 (by decide) ?_
      refine j_icmp_eq C 86 dL_isNowSo_72 (by decide) (fun _ => t86 _ _ (show k + 1 ≤ k + 2 by omega) (show n + 6 ≤ n + 12 by omega)) (fun q => ?_)
      obtain ⟨d, hd⟩ : ∃ d, sTp s g = some d := by
        cases e2 : sTp s g with
        | none => rw [e2] at q; exact absurd rfl q
        | some d => exact ⟨d, rfl⟩
      have hd2 : tp (sP s) (sN s) (sA s) g = some d := hd
      have hdN := tp_lt hd2
      refine j_eq (lo' := [some (.ref (ad 0)), some (.int (nI (sP s))), l2, some (.int (nI 1)), some (.int (nI g)), some (.int (nI d)), l6, l7]) (by rw [hd]; rfl) rfl rfl ?_
      refine j_aload_n C dL_isNowSo_75 rfl ?_
      refine j_iload C dL_isNowSo_76 rfl ?_
      refine j_callVZ (wr := []) (st := []) C X [.int (nI d)] [0, 1, 2, 3, 4, 5, 6, 7, 8, 9] [] (bz_pegOf G hl hdN) rfl rfl rfl rfl (by decide) gw_L_97 nd_X0_pegOf 0 0 rfl rfl rfl ⟨by decide, by decide⟩ ⟨(show k + 1 + 1 ≤ 120 by omega), (show n + 6 + 6 ≤ 720 by omega)⟩ (Nat.le_of_ble_eq_true rfl) dL_isNowSo_78 rfl (fun r w78 hp => ?_)
      obtain ⟨v78, rfl, hp⟩ := hp
      refine j_eq (st' := [.int v78]) (ws2 := w78) rfl rfl rfl ?_
      obtain ⟨rfl, rfl⟩ := hp
      refine j_iload C dL_isNowSo_81 rfl ?_
      refine jN_icmp_ne C 101 (by show dg (sP s) (sA s) d < 2 ^ 31; rw [tp_dg hd2]; omega) (by omega) dL_isNowSo_83 (by decide) (fun z => absurd (tp_dg hd2) z) (fun _ => ?_)
      refine j_eq (lo' := [some (.ref (ad 0)), some (.int (nI (sP s))), l2, some (.int (nI 1)), some (.int (nI g)), some (.int (oI (sTp s g))), l6, l7]) (by rw [hd]; rfl) rfl rfl ?_
      exact t86 _ _ (show k + 1 + 1 ≤ k + 2 by omega) (show n + 6 + 6 ≤ n + 12 by omega)
set_option maxHeartbeats 4000000 in
set_option maxRecDepth 100000 in
theorem ct_L_isNowSo {l : Launch} {D : va_G} {Y : jy_T} {ad : Nat → Nat} {s : sT} {tr : Nat → Nat} {me : Bool} {to fa se qu : Nat → Int32} (G : GD s) (H : Hd s tr me fa) (hl : l.stackTraces = false) :
    MZ l yL_isNowSo cL_isNowSo 8 (some .boolean) rm_L_isNowSo D Y [.ref (ad 0)] (bw Y ad s tr me to fa se qu) (jI (fun r w => r = nI 1 ∧ Bw Y ad s w)) := by
  refine j_enterZ (by decide) (Nat.le_of_ble_eq_true rfl) (fun v hv => by rw [List.mem_singleton.mp hv]; rfl) (fun K hl2 hD C R X => ?_)
  subst hl2; subst hD
  have C : jC cL_isNowSo RL Y rm_L_isNowSo 8 K := C
  have R : jR Y (some .boolean) 120 720 (jI (fun r w => r = nI 1 ∧ Bw Y ad s w)) K := R
  refine j_eq (lo' := [some (.ref (ad 0)), none, none, none, none, none, none, none]) rfl rfl rfl ?_
  have hP5 := G.P5
  have hN6 := G.N6
  refine j_aload_n C dL_isNowSo_0 rfl ?_
  refine j_callVZ (wr := []) (st := []) C X [] [0, 1, 2, 3, 4, 5, 6, 7, 8, 9] [] (bz_pegs) rfl rfl rfl rfl (by decide) gw_L_52 nd_X0_pegs 0 0 rfl rfl rfl ⟨by decide, by decide⟩ ⟨(show 0 + 0 ≤ 120 by omega), (show 0 + 0 ≤ 720 by omega)⟩ (Nat.le_of_ble_eq_true rfl) dL_isNowSo_1 rfl (fun r w1 hp => ?_)
  obtain ⟨v1, rfl, hp⟩ := hp
  refine j_eq (st' := [.int v1]) (ws2 := w1) rfl rfl rfl ?_
  obtain ⟨rfl, rfl⟩ := hp
  refine j_istore_1 C dL_isNowSo_4 (by decide) ?_
  refine j_iconst C (nI 0) dL_isNowSo_5 (by decide) ?_
  refine j_istore_2 C dL_isNowSo_6 (by decide) ?_
  refine j_aload_n C dL_isNowSo_7 rfl ?_
  refine j_callVZ (wr := []) (st := []) C X [] [0, 1, 2, 3, 4, 5, 6, 7, 8, 9] [] (bz_disks) rfl rfl rfl rfl (by decide) gw_L_55 nd_X0_disks 0 0 rfl rfl rfl ⟨by decide, by decide⟩ ⟨(show 0 + 0 + 0 ≤ 120 by omega), (show 0 + 0 + 0 ≤ 720 by omega)⟩ (Nat.le_of_ble_eq_true rfl) dL_isNowSo_8 rfl (fun r w8 hp => ?_)
  obtain ⟨v8, rfl, hp⟩ := hp
  refine j_eq (st' := [.int v8]) (ws2 := w8) rfl rfl rfl ?_
  obtain ⟨rfl, rfl⟩ := hp
  refine j_iconst C (nI 1) dL_isNowSo_11 (by decide) ?_
  refine j_isub C dL_isNowSo_12 ?_
  refine j_istore_3 C dL_isNowSo_13 (by decide) ?_
  refine j_eq (lo' := [some (.ref (ad 0)), some (.int (nI (sP s))), some (.int (nI (hor (sP s) (sDg s) (sN s) (sN s - (sN s))))), some (.int (nI (sN s) - nI 1)), none, none, none, none]) (by rw [Nat.sub_self]; rfl) rfl rfl ?_
  refine now_1 C X G hl (fun k n hk hn => ?_) (sN s) 0 0 (Nat.le_refl _) (by omega) (by omega)
  have hnum : hor (sP s) (sDg s) 0 (sN s - 0) = sA s := by
    rw [Nat.sub_zero, ← nm_hor0]
    exact nm_self G.2.1
  rw [hnum]
  refine j_iload_n C dL_isNowSo_34 rfl ?_
  refine j_aload_n C dL_isNowSo_35 rfl ?_
  refine j_callVZ (wr := []) (st := [.int (nI (sA s))]) C X [] [0, 1, 2, 3, 4, 5, 6, 7, 8, 9] [] (bz_arrangement) rfl rfl rfl rfl (by decide) gw_L_85 nd_X0_arrangement 0 0 rfl rfl rfl ⟨by decide, by decide⟩ ⟨(show k + 0 ≤ 120 by omega), (show n + 0 ≤ 720 by omega)⟩ (Nat.le_of_ble_eq_true rfl) dL_isNowSo_36 rfl (fun r w36 hp => ?_)
  obtain ⟨v36, rfl, hp⟩ := hp
  refine j_eq (st' := [.int v36, .int (nI (sA s))]) (ws2 := w36) rfl rfl rfl ?_
  obtain ⟨rfl, rfl⟩ := hp
  refine j_icmp_ne C 46 dL_isNowSo_39 (by decide) (fun c => absurd rfl c) (fun _ => ?_)
  refine j_iconst C (nI 1) dL_isNowSo_42 (by decide) ?_
  refine j_goto C 47 dL_isNowSo_43 (by decide) ?_
  refine j_istore_3 C dL_isNowSo_47 (by decide) ?_
  refine j_iconst C (nI 0) dL_isNowSo_48 (by decide) ?_
  refine j_istore_4 C dL_isNowSo_49 (by decide) ?_
  refine now_2 C X G hl (fun k1 n1 lo1 w1 hk1 hn1 hB => ?_) (sP s) 0 k n _ _ _ _ _ (by omega) (by omega) (by omega) (by omega) (Bw.of H)
  refine j_widen hk1 hn1 ?_
  exact j_retz C R dL_isNowSo_222 rfl ⟨rfl, hB⟩
