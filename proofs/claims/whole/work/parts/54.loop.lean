theorem lw_sub {i L : Nat} (hL : L ≤ 2048) (hi : i ≤ L) (c : ¬ (nI L - nI 4 < nI i)) : i + 4 ≤ L := by
  by_cases h : 4 ≤ L
  · obtain ⟨q, rfl⟩ : ∃ q, L = q + 4 := ⟨L - 4, by omega⟩
    have e : nI (q + 4) - nI 4 = nI q := by rw [← nI_add]; exact Int32.add_sub_cancel _ _
    rw [e] at c
    have h2 : ¬ q < i := fun z => c ((nI_ltI (by omega) (by omega)).mpr z)
    omega
  · exfalso
    have hd : ∀ L, L < 4 → ∀ i, i < 4 → nI L - nI 4 < nI i := by decide
    exact c (hd L (by omega) i (by omega))
set_option maxHeartbeats 4000000 in
set_option maxRecDepth 100000 in
theorem law_loop {K : jk_T} {Y : jy_T} {ad ad2 : Nat → Nat} {ho b L : Nat} {xs : Nat → Int32} (C : jC cL_law RL Y rm_L_law 7 K) (X : jX K) (hfl : K.1.2.1.stackTraces = false) (hX : va_X b L xs K.1.2.2.2.2 K.1.2.2.2.2.heap) (hbl : b < K.1.2.2.2.2.heap.size) (hbA : ¬ K.2.2.1.1 b) (hL : L ≤ 2048)
    (fin : ∀ k n lo ws, k ≤ 601024 → n ≤ 7293034 → jJ K k n 1156 lo [.int (nI 1)] ws) :
    ∀ (f i k n : Nat), L ≤ i + f → i ≤ L → k + L ≤ 601024 + i → n + 6 * L ≤ 7293034 + 6 * i → ∀ (ws : va_W) (l5 l6 : Option Value), lwS Y ad ad2 ho ws → jJ K k n 23 (lwL ad ad2 ho b i l5 l6) [] ws := by
  intro f
  induction f with
  | zero =>
    intro i k n h1 h2 h3 h4 ws l5 l6 S
    refine j_iload C dL_law_23 rfl ?_
    refine j_aload_n C dL_law_25 rfl ?_
    refine j_slen C hX hbl hbA dL_law_26 ?_
    refine j_iconst C (nI 4) dL_law_27 (by decide) ?_
    refine j_isub C dL_law_28 ?_
    refine j_icmp_gt C 1155 dL_law_29 (by decide) (fun c => ?_) (fun c => ?_)
    · refine j_iconst C (nI 1) dL_law_1155 (by decide) ?_
      exact fin _ _ _ _ (by omega) (by omega)
    · have := lw_sub hL h2 c
      omega
  | succ f ih =>
    intro i k n h1 h2 h3 h4 ws l5 l6 S
    refine j_iload C dL_law_23 rfl ?_
    refine j_aload_n C dL_law_25 rfl ?_
    refine j_slen C hX hbl hbA dL_law_26 ?_
    refine j_iconst C (nI 4) dL_law_27 (by decide) ?_
    refine j_isub C dL_law_28 ?_
    refine j_icmp_gt C 1155 dL_law_29 (by decide) (fun c => ?_) (fun c => ?_)
    · refine j_iconst C (nI 1) dL_law_1155 (by decide) ?_
      exact fin _ _ _ _ (by omega) (by omega)
    · have hi := lw_sub hL h2 c
      have nx : lwN K Y ad ad2 ho b i k n := by
        intro ws l5 l6 S
        refine j_iinc C (v := nI (i + 4)) dL_law_1149 rfl (nI_add i 4) ?_
        refine j_goto C 23 dL_law_1152 (by decide) ?_
        exact ih (i + 4) (k + 1) (n + 6) (by omega) hi (by omega) (by omega) ws l5 l6 S
      have h : lwK K Y b L xs i k n := ⟨C, X, hfl, hX, hbl, hbA, by omega, hi, by omega, by omega⟩
      refine j_aload_n C dL_law_32 rfl ?_
      refine j_iload C dL_law_33 rfl ?_
      refine j_sld C hX hbl hbA i rfl (by omega) (by omega) dL_law_35 ?_
      refine j_bipush C (nI 31) dL_law_36 (by decide) ?_
      refine j_iand C dL_law_38 ?_
      obtain ⟨o, ho1, eo⟩ := pk_andE (xs i) (m := nI 31) 5 (by decide)
      refine j_top _ (nI o) eo ?_
      have ho1 : o < 32 := ho1
      clear eo
      rcases (show o = 0 ∨ o = 1 ∨ o = 2 ∨ o = 3 ∨ o = 4 ∨ o = 5 ∨ o = 6 ∨ o = 7 ∨ o = 8 ∨ o = 9 ∨ o = 10 ∨ o = 11 ∨ o = 12 ∨ o = 13 ∨ o = 14 ∨ o = 15 ∨ o = 16 ∨ o = 17 ∨ o = 18 ∨ o = 19 ∨ o = 20 ∨ o = 21 ∨ o = 22 ∨ o = 23 ∨ 23 < o by omega) with rfl | rfl | rfl | rfl | rfl | rfl | rfl | rfl | rfl | rfl | rfl | rfl | rfl | rfl | rfl | rfl | rfl | rfl | rfl | rfl | rfl | rfl | rfl | rfl | hbig
      · exact j_tabIn C 0 148 dL_law_39 (by decide) (by decide) (by decide) rfl (by decide) (lc_begin h nx S)
      · exact j_tabIn C 1 216 dL_law_39 (by decide) (by decide) (by decide) rfl (by decide) (lc_put h nx S)
      · exact j_tabIn C 2 284 dL_law_39 (by decide) (by decide) (by decide) rfl (by decide) (lc_aim h nx S)
      · exact j_tabIn C 3 352 dL_law_39 (by decide) (by decide) (by decide) rfl (by decide) (lc_allow h nx S)
      · exact j_tabIn C 4 455 dL_law_39 (by decide) (by decide) (by decide) rfl (by decide) (lc_setColour h nx S)
      · exact j_tabIn C 5 523 dL_law_39 (by decide) (by decide) (by decide) rfl (by decide) (lc_setRule h nx S)
      · exact j_tabIn C 6 564 dL_law_39 (by decide) (by decide) (by decide) rfl (by decide) (lc_move h nx S)
      · exact j_tabIn C 7 632 dL_law_39 (by decide) (by decide) (by decide) rfl (by decide) (lc_takeBack h nx S)
      · exact j_tabIn C 8 676 dL_law_39 (by decide) (by decide) (by decide) rfl (by decide) (lc_layStart h nx S)
      · exact j_tabIn C 9 689 dL_law_39 (by decide) (by decide) (by decide) rfl (by decide) (lc_pegs h nx S)
      · exact j_tabIn C 10 702 dL_law_39 (by decide) (by decide) (by decide) rfl (by decide) (lc_disks h nx S)
      · exact j_tabIn C 11 715 dL_law_39 (by decide) (by decide) (by decide) rfl (by decide) (lc_moves h nx S)
      · exact j_tabIn C 12 728 dL_law_39 (by decide) (by decide) (by decide) rfl (by decide) (lc_pegOf h nx S)
      · exact j_tabIn C 13 784 dL_law_39 (by decide) (by decide) (by decide) rfl (by decide) (lc_top h nx S)
      · exact j_tabIn C 14 840 dL_law_39 (by decide) (by decide) (by decide) rfl (by decide) (lc_arrangement h nx S)
      · exact j_tabIn C 15 853 dL_law_39 (by decide) (by decide) (by decide) rfl (by decide) (lc_goal h nx S)
      · exact j_tabIn C 16 866 dL_law_39 (by decide) (by decide) (by decide) rfl (by decide) (lc_isLawful h nx S)
      · exact j_tabIn C 17 879 dL_law_39 (by decide) (by decide) (by decide) rfl (by decide) (lc_canMove h nx S)
      · exact j_tabIn C 18 954 dL_law_39 (by decide) (by decide) (by decide) rfl (by decide) (lc_way h nx S)
      · exact j_tabIn C 19 967 dL_law_39 (by decide) (by decide) (by decide) rfl (by decide) (lc_wayByDisks h nx S)
      · exact j_tabIn C 20 1011 dL_law_39 (by decide) (by decide) (by decide) rfl (by decide) (lc_lost h nx S)
      · exact j_tabIn C 21 1055 dL_law_39 (by decide) (by decide) (by decide) rfl (by decide) (lc_next h nx S)
      · exact j_tabIn C 22 1068 dL_law_39 (by decide) (by decide) (by decide) rfl (by decide) (lc_reachable h nx S)
      · exact j_tabIn C 23 1081 dL_law_39 (by decide) (by decide) (by decide) rfl (by decide) (lc_splits h nx S)
      · exact j_tabOut C o 1149 dL_law_39 (by omega) (by omega) (by decide) (j_widen (Nat.le_succ k) (Nat.le_add_right n 6) (nx ws l5 l6 S))
