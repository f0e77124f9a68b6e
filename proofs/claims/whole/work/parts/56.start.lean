section JNW
variable {K : jk_T} {cc : ByteArray} {own : String} {Y : jy_T} {rm : Room} {nL k n pc : Nat} {lo : List (Option Value)} {st : List Value} {ws : va_W}
theorem j_newC (C : jC cc own Y rm nL K) {Cn : String} {T : u_T} {N ix : Nat} (ci : Nat) (ty : Nat → FieldType) (hty : ∀ k, k < N → parseFieldDescriptor (T k).2.2.1 = some (ty k)) (hin : ∀ w ∈ u_ws Cn T N, w ∈ wG) (hc : vwCl[ci]? = some (Cn, T, N)) (hcl : Cond.classLink own ix Cn ∈ wG) (hinst : Cond.instantiable Cn N ∈ wG) (hini : Cond.initialized Cn ∈ wG) (fs : List Value) (hfs : ∀ j, j < N → defaultValue (ty j) = vp_V fs j) (hk : k + 1 ≤ rm.cells) (hn : n + N ≤ rm.slots) (hd : decode cc pc = .ok (.new ix, 3))
    (kk : ∀ q : Nat, jJ K (k + 1) (n + N) (pc + 3) lo (.ref q :: st) (ws ++ [(q, .inr (ci, fs))])) : jJ K k n pc lo st ws :=
  fun H locs ls hP hD hS hl => va_new C.1 C.2.1 C.2.2.2.1 hin ty hty C.2.2.1 (C.2.2.2.1 _ hcl) (C.2.2.2.1 _ hinst) (C.2.2.2.1 _ hini) C.2.2.2.2.1 hP hD hS C.2.2.2.2.2.1 hc hfs (by rw [C.2.2.2.2.2.2.2.2.1]; exact hk) (by rw [C.2.2.2.2.2.2.2.2.1]; exact hn) hd (fun q H1 hP1 hD1 hS1 => kk q H1 locs ls hP1 hD1 hS1 hl)
theorem j_callIF (C : jC cc own Y rm nL K) {y : MethodName} {cy : ByteArray} {mL ix : Nat} {rmy : Room} {a : Nat} (As : List Value) {Pst : jp_T} {wc wr : va_W} (isC isR : List Nat)
    (hM : MJ K.1.2.1 y cy mL none rmy K.2.2.2.1 Y (.ref a :: As) wc Pst) (hC : isC.map (fun i => ws[i]?) = wc.map some) (hR : isR.map (fun i => ws[i]?) = wr.map some) (hnC : va_nd isC = true) (hnR : va_nd isR = true) (hdis : ∀ i ∈ isR, i ∉ isC)
    (hco : Cond.code y cy mL none ∈ wG) (hml : Cond.methodLink own ix y ∈ wG) (him : Cond.instanceMethod y ∈ wG) (hini : Cond.initialized y.cls ∈ wG) (hnm : y.name = "<init>")
    (hn : (y.cls ≠ "java/lang/invoke/MethodHandle" ∧ y.cls ≠ "java/lang/invoke/VarHandle" ∧ (parseMethodDescriptor y.desc).map (fun d => d.parameters.length) = some As.length))
    (hroom : rmy.frames + 1 ≤ rm.frames ∧ 8 + (mL + 11) + rmy.locals ≤ rm.locals) (hcells : k + rmy.cells ≤ rm.cells ∧ n + rmy.slots ≤ rm.slots)
    (hst : (st.map fun v => v.category).sum ≤ 8) (hd : decode cc pc = .ok (.invokespecial ix, 3)) {ops : List Value} (hops : ops = As.reverse ++ .ref a :: st)
    (kk : ∀ r w1, Pst r w1 → jJ K (k + rmy.cells) (n + rmy.slots) (pc + 3) lo (r.toList ++ st) (wr ++ w1)) : jJ K k n pc lo ops ws := by
  subst hops
  refine j_runF C isC isR hC hR hnC hnR hdis (fun H locs ls hP hD hS hl hF => ?_) kk
  exact va_runI (As := As) (rest := st) (g := F0 K.2.1.1 pc ls (As.reverse ++ .ref a :: st)) ⟨C.1, C.2.1, C.2.2.2.2.2.2.1, C.2.2.1, C.2.2.2.1⟩ (hM H.size) (cwI As.length C.2.2.2.1 (wG_sub (wG_code hco)) rfl rfl rfl (C.2.2.2.1 _ hini) (C.2.2.2.1 _ hml) (C.2.2.2.1 _ him) hnm hn (by rw [C.2.2.2.2.2.2.2.2.1]; exact hroom))
    ⟨jPc_blind, fun U hU hW => ⟨rfl, by rw [hU], by rw [hU]; exact hP, va_K.moved hW.alike C.2.2.2.2.1, hD.weaken (fun _ _ _ _ => trivial)⟩⟩ rfl rfl hl.1 rfl (lv_room hst) hd (by rw [C.2.2.2.2.2.2.2.2.1]; exact hcells)
end JNW
-- what the start gives
theorem lw_arr {s : State} {args : Array Value} {ty : FieldType} (h : (Cond.arrayClass ty).before args s = true) (hr : ∀ cA, s.vm.findClass ("[" ++ ty.toString) = some cA → va_RA s cA ty) : ∃ cA, ArrOfT s cA ty ∧ va_RA s cA ty := by
  obtain ⟨cA, kA, comp, h1, h2, h3⟩ := Cond.arrayClass_spec h
  exact ⟨cA, fun n z => ⟨fun k h => (by cases h), kA, h2, comp, h3⟩, hr cA h1⟩
theorem xS_tbl : xS.all (fun q => decide (Cond.stringRef RX0 q.1 q.2 ∈ lw_tbl)) = true := by decide +kernel
theorem xS_flat : xS.all (fun q => decide (Cond.exactly (.string RX0 q.1) "java/lang/String" ∈ flatC (Jvm.Cond.and given_1 narrow_1))) = true := by decide +kernel
theorem xN_flat : xN.all (fun q => decide (Cond.not (.castable q.1 q.2) ∈ flatC (Jvm.Cond.and given_1 narrow_1))) = true := by decide +kernel
theorem lw_xF {s : State} {b : Nat} (hts : ∀ w ∈ lw_tbl, w.before #[Value.ref b] s = true) (hgv : (Jvm.Cond.and given_1 narrow_1).before #[Value.ref b] s = true) : xF (fun q : Nat => s.heap.size ≤ q) s s.heap := by
  have hs := flat_of_before _ hgv
  refine ⟨vx_Zqof (hts (.laysStatic Bundle.tN "UNASSIGNED_STACK" Bundle.steD) (by decide +kernel)) (hts (.initialized Bundle.tN) (by decide +kernel)) (hs (.isRef (.static Bundle.tN "UNASSIGNED_STACK" Bundle.steD)) (by decide +kernel)) (fun a h => Nat.not_le.mpr h),
    vx_Zqof (hts (.laysStatic Bundle.tN "SUPPRESSED_SENTINEL" Bundle.listD) (by decide +kernel)) (hts (.initialized Bundle.tN) (by decide +kernel)) (hs (.isRef (.static Bundle.tN "SUPPRESSED_SENTINEL" Bundle.listD)) (by decide +kernel)) (fun a h => Nat.not_le.mpr h),
    fun w hw => va_Nw.of (xcd_tab (List.all_eq_true.mp xW_cd w hw)) (hts w (of_decide_eq_true (List.all_eq_true.mp xW_tbl w hw))), fun q hq => ?_, fun q hq => va_Nc.of (hs _ (of_decide_eq_true (List.all_eq_true.mp xN_flat q hq)))⟩
  obtain ⟨a, -, -, -, h1, -⟩ := Cond.exactly_spec (hs _ (of_decide_eq_true (List.all_eq_true.mp xS_flat q hq)))
  exact ⟨a, vk_R.of (hts _ (of_decide_eq_true (List.all_eq_true.mp xS_tbl q hq))) h1⟩
set_option maxHeartbeats 4000000 in
set_option maxRecDepth 100000 in
theorem whole_start {p : Program} {e : Env} {s : State} {m : MethodId} {below : List Frame} {meth : Method} {c : Code} (l : Launch) (hflags : l.flags = flags0) {b L : Nat} {xs : Nat → Int32} (hL : L ≤ 2048) (C0 : lw_At p s m meth c b L xs) : W p l e room_1 s m #[Value.ref b] below meth c s.heap [] 0 0 (lw_Z below #[Value.ref b] s) (entryFrame m ([Value.ref b] : List Value).toArray 7) := by
  obtain ⟨hx, hb, hr, hml, hown, hts, hX, hbl, hlocks, hgv⟩ := id C0
  have htw : ∀ w ∈ wG, w.before #[Value.ref b] s = true := fun w hw => hts w (wG_tbl w hw)
  have hfl : l.stackTraces = false := by unfold Launch.stackTraces; rw [hflags]; decide +kernel
  obtain ⟨c0, iS0, hKn0⟩ := u_known (C := RX0) (T := TX0) (N := 16) (n := 16) htw wG_X0 (htw _ wd_it_0)
  obtain ⟨c1, iS1, hKn1⟩ := u_known (C := RX1) (T := TX1) (N := 17) (n := 17) htw wG_X1 (htw _ wd_it_1)
  obtain ⟨dC, dI, hKc⟩ : ∃ (dC : Nat → ClassId) (dI : Nat → Nat → Nat), ∀ (k : Nat) (q : vw_C), vwCl[k]? = some q → u_Kn s q.1 q.2.1 q.2.2 (dC k) (dI k) := by
    refine ⟨fun k => if k = 0 then c0 else c1, fun k => if k = 0 then iS0 else iS1, ?_⟩
    intro k q hq
    match k, hq with
    | 0, hq => cases hq; exact hKn0
    | 1, hq => cases hq; exact hKn1
    | k + 2, hq => simp [vwCl] at hq
  obtain ⟨y1, a1, r1⟩ := lw_arr (htw _ wd_ac_int) (fun _ h => h)
  obtain ⟨y2, a2, r2⟩ := lw_arr (htw _ wd_ac_boolean) (fun _ h => h)
  obtain ⟨y3, a3, r3⟩ := lw_arr (htw _ wd_ac_long) (fun _ h => h)
  have hK : va_K (dC, dI) vwCl (jtys (y1, y2, y3)) s := ⟨hKc, fun k q h => by
    match k, h with
    | 0, h => cases h; exact ⟨a1, r1⟩
    | 1, h => cases h; exact ⟨a2, r2⟩
    | 2, h => cases h; exact ⟨a3, r3⟩
    | k + 3, h => simp [jtys] at h⟩
  have hP : va_P (dC, dI) vwCl [] s.heap := fun k q h => by simp at h
  have hD : va_D (fun q : Nat => s.heap.size ≤ q) [] := ⟨fun i j p q h => by simp at h, fun k q h => by simp at h⟩
  rw [lg_entry_eq]
  suffices hG : ∀ K : jk_T, jC cL_law RL (y1, y2, y3) rm_L_law 7 K → jX K → K.1.2.1.stackTraces = false → va_X b L xs K.1.2.2.2.2 K.1.2.2.2.2.heap → b < K.1.2.2.2.2.heap.size → ¬ K.2.2.1.1 b → (∀ k n lo ws, k ≤ 601024 → n ≤ 7293034 → jJ K k n 1156 lo [.int (nI 1)] ws) → jJ K 0 0 0 (jargs [.ref b] 7) [] [] from
    hG ((p, l, e, room_1, s), (m, #[Value.ref b], below, meth, c), ((fun q : Nat => s.heap.size ≤ q), lw_Z below #[Value.ref b] s), (dC, dI), 7)
      ⟨hx, hb, hown, htw, hK, fun q h => h, hml, hlocks, rfl, rfl⟩ (lw_xF hts hgv) hfl hX hbl (Nat.not_le.mpr hbl)
      (fun k n lo ws hk hn H locs ls hP hD hS hl => va_forget hS.2.2 (W.widen hk hn (lw_ret hx hb hr hlocks dL_law_1156)))
      s.heap [] _ hP hD va_S.rf (jl_entry [.ref b] (Nat.le_of_ble_eq_true rfl) (fun v hv => by rw [List.mem_singleton.mp hv]; rfl))
  intro K C X hfl hX hbl hbA fin
  clear hK hP hD hgv hts htw hown hx hb hr hml hlocks C0 hKc hKn0 hKn1 a1 a2 a3 r1 r2 r3
  generalize (y1, y2, y3) = Y at C
  refine j_eq (lo' := [some (.ref b), none, none, none, none, none, none]) rfl rfl rfl ?_
  refine j_newC C 0 tyX0 tyX0_ok wG_X0 rfl wd_clL_8 wd_it_0 wd_in_0 [.int 0, .int 0, .int 0, .null, .null, .null, .int 0, .int 0, .null, .int 0, .null, .null, .int 0, .null, .null, .null] (fun j hj => by rcases (show j = 0 ∨ j = 1 ∨ j = 2 ∨ j = 3 ∨ j = 4 ∨ j = 5 ∨ j = 6 ∨ j = 7 ∨ j = 8 ∨ j = 9 ∨ j = 10 ∨ j = 11 ∨ j = 12 ∨ j = 13 ∨ j = 14 ∨ j = 15 by omega) with rfl | rfl | rfl | rfl | rfl | rfl | rfl | rfl | rfl | rfl | rfl | rfl | rfl | rfl | rfl | rfl <;> rfl) (by decide) (by decide) dL_law_0 (fun h0 => ?_)
  refine j_eq (ws2 := [(h0, .inr (0, [.int 0, .int 0, .int 0, .null, .null, .null, .int 0, .int 0, .null, .int 0, .null, .null, .int 0, .null, .null, .null]))]) rfl rfl rfl ?_
  refine j_dup C dL_law_3 rfl ?_
  refine j_callIF (wr := []) (st := [.ref h0]) C [] [0] [] ct_X0_init rfl rfl rfl rfl (by decide) wd_co_X0_init wd_mlL_59 wd_im_X0_init wd_in_0 rfl ⟨by decide, by decide, by decide⟩ ⟨by decide, by decide⟩ ⟨by decide, by decide⟩ (Nat.le_of_ble_eq_true rfl) dL_law_4 rfl (fun r w hp => ?_)
  obtain ⟨rfl, ad, rfl, rfl⟩ := hp
  refine j_astore_1 C dL_law_7 (by decide) ?_
  refine j_newC C 1 tyX1 tyX1_ok wG_X1 rfl wd_clL_60 wd_it_1 wd_in_1 [.int 0, .int 0, .int 0, .null, .null, .null, .int 0, .null, .null, .null, .int 0, .int 0, .null, .null, .null, .int 0, .null] (fun j hj => by rcases (show j = 0 ∨ j = 1 ∨ j = 2 ∨ j = 3 ∨ j = 4 ∨ j = 5 ∨ j = 6 ∨ j = 7 ∨ j = 8 ∨ j = 9 ∨ j = 10 ∨ j = 11 ∨ j = 12 ∨ j = 13 ∨ j = 14 ∨ j = 15 ∨ j = 16 by omega) with rfl | rfl | rfl | rfl | rfl | rfl | rfl | rfl | rfl | rfl | rfl | rfl | rfl | rfl | rfl | rfl | rfl <;> rfl) (by decide) (by decide) dL_law_8 (fun h1 => ?_)
  refine j_dup C dL_law_11 rfl ?_
  refine j_callIF (wr := lwA Y ad 3 3 0 (3 ^ 3 - 1) 0 false false (fun _ => false) (fun _ => true) (fun _ => 0) (fun _ => 0) (fun _ => 0) (fun _ => 0) (fun _ => 0)) (st := [.ref h1]) C [] [10] [0, 1, 2, 3, 4, 5, 6, 7, 8, 9] ct_X1_init rfl rfl rfl rfl (by decide) wd_co_X1_init wd_mlL_62 wd_im_X1_init wd_in_1 rfl ⟨by decide, by decide, by decide⟩ ⟨by decide, by decide⟩ ⟨by decide, by decide⟩ (Nat.le_of_ble_eq_true rfl) dL_law_12 rfl (fun r w hp => ?_)
  obtain ⟨rfl, ad2, rfl, rfl⟩ := hp
  refine j_astore_2 C dL_law_15 (by decide) ?_
  refine j_iconst C (nI 1) dL_law_16 (by decide) ?_
  refine j_newa_long C 1 rfl (by decide) (by decide) (by decide) dL_law_17 (fun ho => ?_)
  refine j_astore_3 C dL_law_19 (by decide) ?_
  refine j_iconst C (nI 0) dL_law_20 (by decide) ?_
  refine j_istore_4 C dL_law_21 (by decide) ?_
  refine j_sub (ws2 := (oC Y ho (fun _ => 0) :: lwA Y ad 3 3 0 (3 ^ 3 - 1) 0 false false (fun _ => false) (fun _ => true) (fun _ => 0) (fun _ => 0) (fun _ => 0) (fun _ => 0) (fun _ => 0)) ++ lwM Y ad2 3 3 0 0 false (fun _ => false) (fun _ => false) (fun _ => 0) (fun _ => 3 - 1) (fun _ => 0) (fun _ => 0) 0 0 (fun _ => 0) (fun _ => 0) (fun _ => 0) (fun _ => 0)) [21, 0, 1, 2, 3, 4, 5, 6, 7, 8, 9, 10, 11, 12, 13, 14, 15, 16, 17, 18, 19, 20] rfl rfl ?_
  have hc3 : cfg 3 3 := ⟨by decide, by decide, by decide, by decide⟩
  exact law_loop C X hfl hX hbl hbA hL fin L 0 _ _ (by omega) (by omega) (by show 0 + 1 + 9 + 1 + 10 + 1 + L ≤ 601024 + 0; omega) (by show 0 + 16 + 47481 + 17 + 32362 + 1 + 6 * L ≤ 7293034 + 6 * 0; omega) _ _ _ (lwS_of (INV_fresh hc3))
