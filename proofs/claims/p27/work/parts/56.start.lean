section JNW
variable {K : jk_T} {cc : ByteArray} {own : String} {Y : jy_T} {rm : Room} {nL k n pc : Nat} {lo : List (Option Value)} {st : List Value} {ws : va_W}
theorem j_newC (C : jC cc own Y rm nL K) {Cn : String} {T : u_T} {N ix : Nat} (ci : Nat) (ty : Nat → FieldType) (hty : ∀ k, k < N → parseFieldDescriptor (T k).2.2.1 = some (ty k)) (hin : ∀ w ∈ u_ws Cn T N, w ∈ wG) (hc : vwCl[ci]? = some (Cn, T, N)) (hcl : Cond.classLink own ix Cn ∈ wG) (hinst : Cond.instantiable Cn N ∈ wG) (hini : Cond.initialized Cn ∈ wG) (fs : List Value) (hfs : ∀ j, j < N → defaultValue (ty j) = vp_V fs j) (hk : k + 1 ≤ rm.cells) (hn : n + N ≤ rm.slots) (hd : decode cc pc = .ok (.new ix, 3))
    (kk : ∀ q : Nat, jJ K (k + 1) (n + N) (pc + 3) lo (.ref q :: st) (ws ++ [(q, .inr (ci, fs))])) : jJ K k n pc lo st ws :=
  fun H locs ls hP hD hS hl => va_new C.1 C.2.1 C.2.2.2.1 hin ty hty C.2.2.1 (C.2.2.2.1 _ hcl) (C.2.2.2.1 _ hinst) (C.2.2.2.1 _ hini) C.2.2.2.2.1 hP hD hS C.2.2.2.2.2.1 hc hfs (by rw [C.2.2.2.2.2.2.2.2.1]; exact hk) (by rw [C.2.2.2.2.2.2.2.2.1]; exact hn) hd (fun q H1 hP1 hD1 hS1 => kk q H1 locs ls hP1 hD1 hS1 hl)
theorem j_callIF (C : jC cc own Y rm nL K) {y : MethodName} {cy : ByteArray} {mL ix : Nat} {rmy : Room} {a : Nat} (As : List Value) {Pst : jp_T} {wc wr : va_W} (isC isR : List Nat)
    (hM : MJ K.1.2.1 y cy mL none rmy K.2.2.2.1 Y (.ref a :: As) wc Pst) (hC : isC.map (fun i => ws[i]?) = wc.map some) (hR : isR.map (fun i => ws[i]?) = wr.map some) (hnC : va_nd isC = true) (hnR : va_nd isR = true) (hdis : ∀ i ∈ isR, i ∉ isC)
    (hco : Cond.code y cy mL none ∈ wG) (hml : Cond.methodLink own ix y ∈ wG) (him : Cond.instanceMethod y ∈ wG) (hini : Cond.initialized y.cls ∈ wG) (hnm : y.name = "<init>")
    (hn : (y.cls ≠ "java/lang/invoke/MethodHandle" ∧ y.cls ≠ "java/lang/invoke/VarHandle" ∧ (parseMethodDescriptor y.desc).map (fun d => d.parameters.length) = some As.length))
    (hroom : rmy.frames + 1 ≤ rm.frames ∧ 8 + (mL + 11) + rmy.locals ≤ rm.locals) (hcells : k + rmy.cells ≤ rm.cells ∧ n + rmy.slots ≤ rm.slots)
    (hst : (st.map fun v => v.category).sum ≤ 8) (hd : decode cc pc = .ok (.invokespecial ix, 3)) {ops : List Value} (hops : ops = As.reverse ++ .ref a :: st)
    (kk : ∀ r w1, Pst r w1 → jJ K (k + rmy.cells) (n + rmy.slots) (pc + 3) lo (r.toList ++ st) (wr ++ w1)) : jJ K k n pc lo ops ws := by
  subst hops
  refine j_runF C isC isR hC hR hnC hnR hdis (fun H locs ls hP hD hS hl hF => ?_) kk
  exact va_runI (As := As) (rest := st) (g := F0 K.2.1.1 pc ls (As.reverse ++ .ref a :: st)) ⟨C.1, C.2.1, C.2.2.2.2.2.2.1, C.2.2.1, C.2.2.2.1⟩ (hM H.size) (cwI As.length C.2.2.2.1 (wG_sub (wG_code hco)) rfl rfl rfl (C.2.2.2.1 _ hini) (C.2.2.2.1 _ hml) (C.2.2.2.1 _ him) hnm hn (by rw [C.2.2.2.2.2.2.2.2.1]; exact hroom))
    ⟨jPc_blind, fun U hU hW => ⟨rfl, by rw [hU], by rw [hU]; exact hP, va_K.moved hW.alike C.2.2.2.2.1, hD.weaken (fun _ _ _ _ => trivial)⟩⟩ rfl rfl hl.1 rfl (lv_room hst) hd (by rw [C.2.2.2.2.2.2.2.2.1]; exact hcells)
end JNW
-- what the start gives
theorem lw_arr {s : State} {args : Array Value} {ty : FieldType} (h : (Cond.arrayClass ty).before args s = true) (hr : ∀ cA, s.vm.findClass ("[" ++ ty.toString) = some cA → va_RA s cA ty) : ∃ cA, ArrOfT s cA ty ∧ va_RA s cA ty := by
  obtain ⟨cA, kA, comp, h1, h2, h3⟩ := Cond.arrayClass_spec h
  exact ⟨cA, fun n z => ⟨fun k h => (by cases h), kA, h2, comp, h3⟩, hr cA h1⟩
theorem xS_tbl : xS.all (fun q => decide (Cond.stringRef RX0 q.1 q.2 ∈ lw_tbl)) = true := by decide +kernel
theorem xS_flat : xS.all (fun q => decide (Cond.exactly (.string RX0 q.1) "java/lang/String" ∈ flatC (Jvm.Cond.and given_1 narrow_1))) = true := by decide +kernel
theorem xN_flat : xN.all (fun q => decide (Cond.not (.castable q.1 q.2) ∈ flatC (Jvm.Cond.and given_1 narrow_1))) = true := by decide +kernel
theorem lw_xF {s : State} {b : Nat} (hts : ∀ w ∈ lw_tbl, w.before #[Value.ref b] s = true) (hgv : (Jvm.Cond.and given_1 narrow_1).before #[Value.ref b] s = true) : xF (fun q : Nat => s.heap.size ≤ q) s s.heap := by
  have hs := flat_of_before _ hgv
  refine ⟨vx_Zqof (hts (.laysStatic Bundle.tN "UNASSIGNED_STACK" Bundle.steD) (by decide +kernel)) (hts (.initialized Bundle.tN) (by decide +kernel)) (hs (.isRef (.static Bundle.tN "UNASSIGNED_STACK" Bundle.steD)) (by decide +kernel)) (fun a h => Nat.not_le.mpr h),
    vx_Zqof (hts (.laysStatic Bundle.tN "SUPPRESSED_SENTINEL" Bundle.listD) (by decide +kernel)) (hts (.initialized Bundle.tN) (by decide +kernel)) (hs (.isRef (.static Bundle.tN "SUPPRESSED_SENTINEL" Bundle.listD)) (by decide +kernel)) (fun a h => Nat.not_le.mpr h),
    fun w hw => va_Nw.of (xcd_tab (List.all_eq_true.mp xW_cd w hw)) (hts w (of_decide_eq_true (List.all_eq_true.mp xW_tbl w hw))), fun q hq => ?_, fun q hq => va_Nc.of (hs _ (of_decide_eq_true (List.all_eq_true.mp xN_flat q hq)))⟩
  obtain ⟨a, -, -, -, h1, -⟩ := Cond.exactly_spec (hs _ (of_decide_eq_true (List.all_eq_true.mp xS_flat q hq)))
  exact ⟨a, vk_R.of (hts _ (of_decide_eq_true (List.all_eq_true.mp xS_tbl q hq))) h1⟩
abbrev rm_L_law : Room := { frames := 11, cells := 600130, slots := 7301080, locals := 408 }
theorem rv_thr {s : sT} {o : Option (Nat × sT)} (h : okA s o) (e : rv o = -99999) : o = none := by
  cases o with
  | none => rfl
  | some q =>
    have h1 := (h q rfl).1
    have e : nI q.1 = -99999 := e
    have e2 : (nI q.1).toInt = (-99999 : Int32).toInt := by rw [e]
    rw [nI_toInt (by omega), show (-99999 : Int32).toInt = -99999 by decide] at e2
    omega
theorem rs_good {s : sT} (G : GD s) {o : Option (Nat × sT)} (h : okA s o) : GD (rs s o) := by
  cases o with
  | none => exact G
  | some q => exact (h q rfl).2
set_option maxHeartbeats 4000000 in
set_option maxRecDepth 100000 in
theorem law_loop {K : jk_T} {Y : jy_T} {ad ad2 : Nat → Nat} {b L : Nat} {xs : Nat → Int32} (C : jC cL_law RL Y rm_L_law 6 K) (X : jX K) (hl : K.1.2.1.stackTraces = false) (hX : va_X b L xs K.1.2.2.2.2 K.1.2.2.2.2.heap) (hbl : b < K.1.2.2.2.2.heap.size) (hbA : ¬ K.2.2.1.1 b) (hL : L ≤ 260)
    (fin : ∀ k n lo ws, k ≤ 600130 → n ≤ 7301080 → jJ K k n 95 lo [.int (nI 1)] ws) :
    ∀ (f e k n : Nat) (s : sT) (l4 l5 : Option Value) (w1 w2 : va_W), 50 ≤ e + f → e ≤ 50 → k + 250 * f ≤ 600130 → n + 1500 * f ≤ 7301080 → GD s → Bw Y ad s w1 → Bw Y ad2 s w2 → jJ K k n 18 [some (.ref b), some (.ref (ad 0)), some (.ref (ad2 0)), some (.int (nI e)), l4, l5] [] (w1 ++ w2) := by
  intro f
  induction f with
  | zero =>
    intro e k n s l4 l5 w1 w2 hf he hk hn G hB1 hB2
    refine j_iload_n C dL_law_18 rfl ?_
    refine j_bipush C (nI 50) dL_law_19 (by decide) ?_
    refine jN_icmp_ge C 94 (by omega) (by omega) dL_law_21 (by decide) (fun _ => ?_) (fun c => ?_)
    · refine j_iconst C (nI 1) dL_law_94 (by decide) ?_
      exact fin _ _ _ _ (by omega) (by omega)
    · omega
  | succ f ih =>
    intro e k n s l4 l5 w1 w2 hf he hk hn G hB1 hB2
    refine j_iload_n C dL_law_18 rfl ?_
    refine j_bipush C (nI 50) dL_law_19 (by decide) ?_
    refine jN_icmp_ge C 94 (by omega) (by omega) dL_law_21 (by decide) (fun _ => ?_) (fun c => ?_)
    · refine j_iconst C (nI 1) dL_law_94 (by decide) ?_
      exact fin _ _ _ _ (by omega) (by omega)
    · obtain ⟨tra, mea, toa, faa, sea, qua, Ha, rfl⟩ := hB1
      obtain ⟨trp, mep, top, fap, sep, qup, Hp, rfl⟩ := hB2
      refine j_aload_n C dL_law_24 rfl ?_
      refine j_iload_n C dL_law_25 rfl ?_
      refine j_callSS (st := []) C hX hbl hbA [.ref b, .int (nI e)] [0, 1, 2, 3, 4, 5, 6, 7, 8, 9, 10, 11, 12, 13, 14, 15, 16, 17, 18, 19] (ct_L_cell (by omega) (by omega)) rfl rfl gw_L_120 rfl nd_L_cell ⟨by decide, by decide⟩ ⟨(show k + 0 ≤ 600130 by omega), (show n + 0 ≤ 7301080 by omega)⟩ (Nat.le_of_ble_eq_true rfl) dL_law_26 rfl (fun r w hp => ?_)
      obtain ⟨v, rfl, rfl⟩ := hp
      refine j_eq (st' := [.int v]) (ws2 := ((bw Y ad s tra mea toa faa sea qua) ++ (bw Y ad2 s trp mep top fap sep qup))) rfl rfl rfl ?_
      refine j_istore_4 C dL_law_29 (by decide) ?_
      have t57 : ∀ (s2 : sT) (k1 n1 : Nat) (w1 w2 : va_W), GD s2 → k1 ≤ k + 2 → n1 ≤ n + 12 → Bw Y ad s2 w1 → Bw Y ad2 s2 w2 → jJ K k1 n1 57 [some (.ref b), some (.ref (ad 0)), some (.ref (ad2 0)), some (.int (nI e)), some (.int v), some (.int (rv (acA s v)))] [] (w1 ++ w2) := by
        intro s2 k1 n1 w1 w2 G2 hk1 hn1 hB1 hB2
        obtain ⟨trb, meb, tob, fab, seb, qub, Hb, rfl⟩ := hB1
        obtain ⟨trq, meq, toq, faq, seq, quq, Hq, rfl⟩ := hB2
        refine j_aload_n C dL_law_57 rfl ?_
        refine j_aload_n C dL_law_58 rfl ?_
        refine j_callSZ (wr := []) (st := []) C X [.ref (ad 0), .ref (ad2 0)] [0, 1, 2, 3, 4, 5, 6, 7, 8, 9, 10, 11, 12, 13, 14, 15, 16, 17, 18, 19] [] (ct_L_areAlike G2 Hb Hq hl) rfl rfl rfl rfl (by decide) gw_L_128 rfl nd_L_areAlike ⟨by decide, by decide⟩ ⟨(show k1 + 0 ≤ 600130 by omega), (show n1 + 0 ≤ 7301080 by omega)⟩ (Nat.le_of_ble_eq_true rfl) dL_law_59 rfl (fun r w59 hp => ?_)
        obtain ⟨v59, rfl, hp⟩ := hp
        refine j_eq (st' := [.int v59]) (ws2 := w59) rfl rfl rfl ?_
        obtain ⟨rfl, wa, wb, hBa, hBb, rfl⟩ := hp
        obtain ⟨trc, mec, toc, fac, sec, quc, Hc, rfl⟩ := hBa
        obtain ⟨trr, mer, tor, far, ser, qur, Hr, rfl⟩ := hBb
        refine j_if_eq C 86 dL_law_62 (by decide) (fun z => absurd z (by decide)) (fun _ => ?_)
        refine j_aload_n C dL_law_65 rfl ?_
        refine j_callSZ (wr := (bw Y ad2 s2 trr mer tor far ser qur)) (st := []) C X [.ref (ad 0)] [0, 1, 2, 3, 4, 5, 6, 7, 8, 9] [10, 11, 12, 13, 14, 15, 16, 17, 18, 19] (ct_L_isNowSo G2 Hc hl) rfl rfl rfl rfl (by decide) gw_L_132 rfl nd_L_isNowSo ⟨by decide, by decide⟩ ⟨(show k1 + 0 + 120 ≤ 600130 by omega), (show n1 + 0 + 720 ≤ 7301080 by omega)⟩ (Nat.le_of_ble_eq_true rfl) dL_law_66 rfl (fun r w66 hp => ?_)
        obtain ⟨v66, rfl, hp⟩ := hp
        refine j_eq (st' := [.int v66]) (ws2 := ((bw Y ad2 s2 trr mer tor far ser qur) ++ w66)) rfl rfl rfl ?_
        obtain ⟨rfl, trd, med, tod, fad, sed, qud, Hd9, rfl⟩ := hp
        refine j_if_eq C 86 dL_law_69 (by decide) (fun z => absurd z (by decide)) (fun _ => ?_)
        have t88 : ∀ (k3 n3 : Nat) (w1 w2 : va_W), k3 ≤ k + 250 → n3 ≤ n + 1500 → Bw Y ad s2 w1 → Bw Y ad2 s2 w2 → jJ K k3 n3 88 [some (.ref b), some (.ref (ad 0)), some (.ref (ad2 0)), some (.int (nI e)), some (.int v), some (.int (rv (acA s v)))] [] (w2 ++ w1) := by
          intro k3 n3 w1 w2 hk3 hn3 hB1 hB2
          obtain ⟨tre, mee, toe, fae, see, que, He, rfl⟩ := hB1
          obtain ⟨trs, mes, tos, fas, ses, qus, Hs, rfl⟩ := hB2
          refine j_sub (ws2 := (bw Y ad s2 tre mee toe fae see que) ++ (bw Y ad2 s2 trs mes tos fas ses qus)) [10, 11, 12, 13, 14, 15, 16, 17, 18, 19, 0, 1, 2, 3, 4, 5, 6, 7, 8, 9] rfl rfl ?_
          refine j_iinc_3 C (nI (e + 1)) (nI_p1 e) dL_law_88 ?_
          refine j_goto C 18 dL_law_91 (by decide) ?_
          exact ih (e + 1) k3 n3 s2 _ _ _ _ (by omega) (by omega) (by omega) (by omega) G2 (Bw.of He) (Bw.of Hs)
        refine j_iload_n C dL_law_72 rfl ?_
        refine j_iconst C (nI 5) dL_law_73 (by decide) ?_
        refine j_irem C dL_law_74 (by decide) ?_
        refine j_iconst C (nI 4) dL_law_75 (by decide) ?_
        refine j_icmp_ne C 88 dL_law_76 (by decide) (fun _ => t88 _ _ _ _ (show k1 + 0 + 120 ≤ k + 250 by omega) (show n1 + 0 + 720 ≤ n + 1500 by omega) (Bw.of Hd9) (Bw.of Hr)) (fun _ => ?_)
        refine j_aload_n C dL_law_79 rfl ?_
        refine j_callSZ (wr := (bw Y ad2 s2 trr mer tor far ser qur)) (st := []) C X [.ref (ad 0)] [10, 11, 12, 13, 14, 15, 16, 17, 18, 19] [0, 1, 2, 3, 4, 5, 6, 7, 8, 9] (ct_L_areWaysSo G2 Hd9 hl) rfl rfl rfl rfl (by decide) gw_L_136 rfl nd_L_areWaysSo ⟨by decide, by decide⟩ ⟨(show k1 + 0 + 120 + 120 ≤ 600130 by omega), (show n1 + 0 + 720 + 720 ≤ 7301080 by omega)⟩ (Nat.le_of_ble_eq_true rfl) dL_law_80 rfl (fun r w80 hp => ?_)
        obtain ⟨v80, rfl, hp⟩ := hp
        refine j_eq (st' := [.int v80]) (ws2 := ((bw Y ad2 s2 trr mer tor far ser qur) ++ w80)) rfl rfl rfl ?_
        obtain ⟨rfl, trf, mef, tof, faf, sef, quf, Hf9, rfl⟩ := hp
        exact j_if_ne C 88 dL_law_83 (by decide) (fun _ => t88 _ _ _ _ (show k1 + 0 + 120 + 120 ≤ k + 250 by omega) (show n1 + 0 + 720 + 720 ≤ n + 1500 by omega) (Bw.of Hf9) (Bw.of Hr)) (fun z => absurd z (by decide))
      refine j_aload_n C dL_law_31 rfl ?_
      refine j_iload C dL_law_32 rfl ?_
      refine j_callSZ (wr := (bw Y ad2 s trp mep top fap sep qup)) (st := []) C X [.ref (ad 0), .int v] [0, 1, 2, 3, 4, 5, 6, 7, 8, 9] [10, 11, 12, 13, 14, 15, 16, 17, 18, 19] (ct_L_act G Ha hl) rfl rfl rfl rfl (by decide) gw_L_124 rfl nd_L_act ⟨by decide, by decide⟩ ⟨(show k + 0 + 1 ≤ 600130 by omega), (show n + 0 + 6 ≤ 7301080 by omega)⟩ (Nat.le_of_ble_eq_true rfl) dL_law_34 rfl (fun r w34 hp => ?_)
      obtain ⟨v34, rfl, hp⟩ := hp
      refine j_eq (st' := [.int v34]) (ws2 := ((bw Y ad2 s trp mep top fap sep qup) ++ w34)) rfl rfl rfl ?_
      obtain ⟨rfl, trg, meg, tog, fag, seg, qug, Hg, rfl⟩ := hp
      refine j_istore_5 C dL_law_37 (by decide) ?_
      refine j_iload C dL_law_39 rfl ?_
      refine j_ldc C dL_law_41 wd_kL_16 ?_
      have hok : okA s (acA s v) := ok_act G
      refine j_icmp_eq C 57 dL_law_43 (by decide) (fun z => ?_) (fun _ => ?_)
      · have e0 := rv_thr hok z
        have hs : rs s (acA s v) = s := by rw [e0]; rfl
        have hw : Bw Y ad2 (rs s (acA s v)) (bw Y ad2 s trp mep top fap sep qup) := by rw [hs]; exact Bw.of Hp
        refine j_sub (ws2 := (bw Y ad (rs s (acA s v)) trg meg tog fag seg qug) ++ (bw Y ad2 s trp mep top fap sep qup)) [10, 11, 12, 13, 14, 15, 16, 17, 18, 19, 0, 1, 2, 3, 4, 5, 6, 7, 8, 9] rfl rfl ?_
        exact t57 (rs s (acA s v)) _ _ _ _ (rs_good G hok) (show k + 0 + 1 ≤ k + 2 by omega) (show n + 0 + 6 ≤ n + 12 by omega) (Bw.of Hg) hw
      · refine j_aload_n C dL_law_46 rfl ?_
        refine j_iload C dL_law_47 rfl ?_
        refine j_callSZ (wr := (bw Y ad (rs s (acA s v)) trg meg tog fag seg qug)) (st := []) C X [.ref (ad2 0), .int v] [0, 1, 2, 3, 4, 5, 6, 7, 8, 9] [10, 11, 12, 13, 14, 15, 16, 17, 18, 19] (ct_L_act G Hp hl) rfl rfl rfl rfl (by decide) gw_L_124 rfl nd_L_act ⟨by decide, by decide⟩ ⟨(show k + 0 + 1 + 1 ≤ 600130 by omega), (show n + 0 + 6 + 6 ≤ 7301080 by omega)⟩ (Nat.le_of_ble_eq_true rfl) dL_law_49 rfl (fun r w49 hp => ?_)
        obtain ⟨v49, rfl, hp⟩ := hp
        refine j_eq (st' := [.int v49]) (ws2 := ((bw Y ad (rs s (acA s v)) trg meg tog fag seg qug) ++ w49)) rfl rfl rfl ?_
        obtain ⟨rfl, trh, meh, toh, fah, seh, quh, Hh, rfl⟩ := hp
        refine j_iload C dL_law_52 rfl ?_
        exact j_icmp_ne C 86 dL_law_54 (by decide) (fun z => absurd rfl z) (fun _ => t57 (rs s (acA s v)) _ _ _ _ (rs_good G hok) (show k + 0 + 1 + 1 ≤ k + 2 by omega) (show n + 0 + 6 + 6 ≤ n + 12 by omega) (Bw.of Hg) (Bw.of Hh))
def s00 : sT := (3, 3, 0, 3 ^ 3 - 1, 0, false, (fun _ => false), (fun _ => true), (fun _ => 0))
theorem s00_good : GD s00 := ⟨⟨by decide, by decide, by decide, by decide⟩, by decide, by decide, by decide, fun k hk => absurd (show k < 0 from hk) (Nat.not_lt_zero k)⟩
theorem s00_B {Y : jy_T} {ad : Nat → Nat} : Bw Y ad s00 (bw Y ad s00 (fun _ => 0) false (fun _ => 0) (fun _ => 0) (fun _ => 0) (fun _ => 0)) := Bw.of ⟨fun h => (by cases h), fun _ _ => rfl⟩
set_option maxHeartbeats 4000000 in
set_option maxRecDepth 100000 in
theorem whole_start {p : Program} {e : Env} {s : State} {m : MethodId} {below : List Frame} {meth : Method} {c : Code} (l : Launch) (hflags : l.flags = flags0) {b L : Nat} {xs : Nat → Int32} (hL : L ≤ 260) (C0 : lw_At p s m meth c b L xs) : W p l e room_1 s m #[Value.ref b] below meth c s.heap [] 0 0 (lw_Z below #[Value.ref b] s) (entryFrame m ([Value.ref b] : List Value).toArray 6) := by
  obtain ⟨hx, hb, hr, hml, hown, hts, hX, hbl, hlocks, hgv⟩ := id C0
  have htw : ∀ w ∈ wG, w.before #[Value.ref b] s = true := fun w hw => hts w (wG_tbl w hw)
  have hfl : l.stackTraces = false := by unfold Launch.stackTraces; rw [hflags]; decide +kernel
  obtain ⟨c0, iS0, hKn0⟩ := u_known (C := RX0) (T := TX0) (N := 16) (n := 16) htw wG_X0 (htw _ wd_it_0)
  obtain ⟨dC, dI, hKc⟩ : ∃ (dC : Nat → ClassId) (dI : Nat → Nat → Nat), ∀ (k : Nat) (q : vw_C), vwCl[k]? = some q → u_Kn s q.1 q.2.1 q.2.2 (dC k) (dI k) := by
    refine ⟨fun _ => c0, fun _ => iS0, ?_⟩
    intro k q hq
    match k, hq with
    | 0, hq => cases hq; exact hKn0
    | k + 1, hq => simp [vwCl] at hq
  obtain ⟨y1, a1, r1⟩ := lw_arr (htw _ wd_ac_int) (fun _ h => h)
  obtain ⟨y2, a2, r2⟩ := lw_arr (htw _ wd_ac_boolean) (fun _ h => h)
  have hK : va_K (dC, dI) vwCl (jtys (y1, y2, y1)) s := ⟨hKc, fun k q h => by
    match k, h with
    | 0, h => cases h; exact ⟨a1, r1⟩
    | 1, h => cases h; exact ⟨a2, r2⟩
    | k + 2, h => simp [jtys] at h⟩
  have hP : va_P (dC, dI) vwCl [] s.heap := fun k q h => by simp at h
  have hD : va_D (fun q : Nat => s.heap.size ≤ q) [] := ⟨fun i j p q h => by simp at h, fun k q h => by simp at h⟩
  rw [lg_entry_eq]
  suffices hG : ∀ K : jk_T, jC cL_law RL (y1, y2, y1) rm_L_law 6 K → jX K → K.1.2.1.stackTraces = false → va_X b L xs K.1.2.2.2.2 K.1.2.2.2.2.heap → b < K.1.2.2.2.2.heap.size → ¬ K.2.2.1.1 b → (∀ k n lo ws, k ≤ 600130 → n ≤ 7301080 → jJ K k n 95 lo [.int (nI 1)] ws) → jJ K 0 0 0 (jargs [.ref b] 6) [] [] from
    hG ((p, l, e, room_1, s), (m, #[Value.ref b], below, meth, c), ((fun q : Nat => s.heap.size ≤ q), lw_Z below #[Value.ref b] s), (dC, dI), 6)
      ⟨hx, hb, hown, htw, hK, fun q h => h, hml, hlocks, rfl, rfl⟩ (lw_xF hts hgv) hfl hX hbl (Nat.not_le.mpr hbl)
      (fun k n lo ws hk hn H locs ls hP hD hS hl => va_forget hS.2.2 (W.widen hk hn (lw_ret hx hb hr hlocks dL_law_95)))
      s.heap [] _ hP hD va_S.rf (jl_entry [.ref b] (Nat.le_of_ble_eq_true rfl) (fun v hv => by rw [List.mem_singleton.mp hv]; rfl))
  intro K C X hfl hX hbl hbA fin
  clear hK hP hD hgv hts htw hown hx hb hr hml hlocks C0 hKc hKn0 a1 a2 r1 r2
  generalize (y1, y2, y1) = Y at C
  refine j_eq (lo' := [some (.ref b), none, none, none, none, none]) rfl rfl rfl ?_
  refine j_newC C 0 tyX0 tyX0_ok wG_X0 rfl wd_clL_9 wd_it_0 wd_in_0 [.int 0, .int 0, .int 0, .null, .null, .null, .int 0, .int 0, .null, .int 0, .null, .null, .int 0, .null, .null, .null] (fun j hj => by rcases (show j = 0 ∨ j = 1 ∨ j = 2 ∨ j = 3 ∨ j = 4 ∨ j = 5 ∨ j = 6 ∨ j = 7 ∨ j = 8 ∨ j = 9 ∨ j = 10 ∨ j = 11 ∨ j = 12 ∨ j = 13 ∨ j = 14 ∨ j = 15 by omega) with rfl | rfl | rfl | rfl | rfl | rfl | rfl | rfl | rfl | rfl | rfl | rfl | rfl | rfl | rfl | rfl <;> rfl) (by decide) (by decide) dL_law_0 (fun h0 => ?_)
  refine j_eq (ws2 := [(h0, .inr (0, [.int 0, .int 0, .int 0, .null, .null, .null, .int 0, .int 0, .null, .int 0, .null, .null, .int 0, .null, .null, .null]))]) rfl rfl rfl ?_
  refine j_dup C dL_law_3 rfl ?_
  refine j_callIF (wr := []) (st := [.ref h0]) C [] [0] [] ct_X0_init rfl rfl rfl rfl (by decide) wd_co_X0_init wd_mlL_119 wd_im_X0_init wd_in_0 rfl ⟨by decide, by decide, by decide⟩ ⟨by decide, by decide⟩ ⟨by decide, by decide⟩ (Nat.le_of_ble_eq_true rfl) dL_law_4 rfl (fun r w hp => ?_)
  obtain ⟨rfl, ad, rfl, rfl⟩ := hp
  refine j_eq (st' := [.ref (ad 0)]) (ws2 := (bw Y ad s00 (fun _ => 0) false (fun _ => 0) (fun _ => 0) (fun _ => 0) (fun _ => 0))) rfl rfl rfl ?_
  refine j_astore_1 C dL_law_7 (by decide) ?_
  refine j_newC C 0 tyX0 tyX0_ok wG_X0 rfl wd_clL_9 wd_it_0 wd_in_0 [.int 0, .int 0, .int 0, .null, .null, .null, .int 0, .int 0, .null, .int 0, .null, .null, .int 0, .null, .null, .null] (fun j hj => by rcases (show j = 0 ∨ j = 1 ∨ j = 2 ∨ j = 3 ∨ j = 4 ∨ j = 5 ∨ j = 6 ∨ j = 7 ∨ j = 8 ∨ j = 9 ∨ j = 10 ∨ j = 11 ∨ j = 12 ∨ j = 13 ∨ j = 14 ∨ j = 15 by omega) with rfl | rfl | rfl | rfl | rfl | rfl | rfl | rfl | rfl | rfl | rfl | rfl | rfl | rfl | rfl | rfl <;> rfl) (by decide) (by decide) dL_law_8 (fun h1 => ?_)
  refine j_dup C dL_law_11 rfl ?_
  refine j_callIF (wr := (bw Y ad s00 (fun _ => 0) false (fun _ => 0) (fun _ => 0) (fun _ => 0) (fun _ => 0))) (st := [.ref h1]) C [] [10] [0, 1, 2, 3, 4, 5, 6, 7, 8, 9] ct_X0_init rfl rfl rfl rfl (by decide) wd_co_X0_init wd_mlL_119 wd_im_X0_init wd_in_0 rfl ⟨by decide, by decide, by decide⟩ ⟨by decide, by decide⟩ ⟨by decide, by decide⟩ (Nat.le_of_ble_eq_true rfl) dL_law_12 rfl (fun r w hp => ?_)
  obtain ⟨rfl, ad2, rfl, rfl⟩ := hp
  refine j_eq (st' := [.ref (ad2 0)]) (ws2 := (bw Y ad s00 (fun _ => 0) false (fun _ => 0) (fun _ => 0) (fun _ => 0) (fun _ => 0)) ++ (bw Y ad2 s00 (fun _ => 0) false (fun _ => 0) (fun _ => 0) (fun _ => 0) (fun _ => 0))) rfl rfl rfl ?_
  refine j_astore_2 C dL_law_15 (by decide) ?_
  refine j_iconst C (nI 0) dL_law_16 (by decide) ?_
  refine j_istore_3 C dL_law_17 (by decide) ?_
  exact law_loop C X hfl hX hbl hbA hL fin 50 0 _ _ s00 _ _ _ _ (by omega) (by omega) (by show 0 + 1 + 9 + 1 + 9 + 250 * 50 ≤ 600130; omega) (by show 0 + 16 + 47481 + 16 + 47481 + 1500 * 50 ≤ 7301080; omega) s00_good s00_B s00_B
