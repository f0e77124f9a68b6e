/-! methods without handlers that call such as throw or catch; a method that reads the script; contracts with a wider end -/
/-- the contract of a method that always returns, given what exceptions need -/
def MZ (l : Launch) (y : MethodName) (cc : ByteArray) (maxL : Nat) (ret : Option FieldType) (rm : Room) (D : va_G) (Y : jy_T) (av : List Value) (w0 : va_W) (Pst : jp_T) : Prop :=
  ∀ sz, Met l y (Cond.code y cc maxL ret :: wG) rm (jPx D Y av w0 sz) (jQ D Y (va_A w0 sz) Pst) rm.cells rm.slots (va_A w0 sz)
/-- the contract of a method that reads the script xs at the cell b -/
def jPs (D : va_G) (Y : jy_T) (av : List Value) (b L : Nat) (xs : Nat → Int32) (sz : Nat) : Array Value → State → Prop :=
  va_Pc av (fun U => (U.heap.size = sz ∧ va_P D vwCl [] U.heap ∧ va_K D vwCl (jtys Y) U ∧ va_D (fun _ => True) []) ∧ va_X b L xs U U.heap ∧ b < sz)
def MS (l : Launch) (y : MethodName) (cc : ByteArray) (maxL : Nat) (ret : Option FieldType) (rm : Room) (D : va_G) (Y : jy_T) (av : List Value) (b L : Nat) (xs : Nat → Int32) (Pst : jp_T) : Prop :=
  ∀ sz, Met l y (Cond.code y cc maxL ret :: wG) rm (jPs D Y av b L xs sz) (jQ D Y (va_A [] sz) Pst) rm.cells rm.slots (va_A [] sz)
theorem jQ_mono {D : va_G} {Y : jy_T} {A : Nat → Prop} {P1 P2 : jp_T} (h : ∀ r w, P1 r w → P2 r w) {a : Array Value} {st : State} {o : Outcome} {t : State} (q : jQ D Y A P1 a st o t) : jQ D Y A P2 a st o t := by
  obtain ⟨⟨r, w, h1, h2, h3⟩, h4⟩ := q
  exact ⟨⟨r, w, h1, h r w h2, h3⟩, h4⟩
theorem jXC_mono {D : va_G} {Y : jy_T} {A : Nat → Prop} {P1 P2 : String → va_W → Prop} (h : ∀ r w, P1 r w → P2 r w) {E : String} {st t : State} (q : jXC D Y A P1 E st t) : jXC D Y A P2 E st t := by
  obtain ⟨⟨w, h2, h3⟩, h4⟩ := q
  exact ⟨⟨w, h E w h2, h3⟩, h4⟩
section MM
variable {l : Launch} {y : MethodName} {cc : ByteArray} {maxL : Nat} {ret : Option FieldType} {rm : Room} {D : va_G} {Y : jy_T} {av : List Value} {w0 : va_W} {P1 P2 : jp_T} {X1 X2 : String → va_W → Prop}
theorem MJ.mono (h : ∀ r w, P1 r w → P2 r w) (M : MJ l y cc maxL ret rm D Y av w0 P1) : MJ l y cc maxL ret rm D Y av w0 P2 := by
  intro sz p e ha hf hc s m args below h1 h2 h3 h4
  obtain ⟨n, o, q1, q2, q3, q4, q5⟩ := M sz p e ha hf hc s m args below h1 h2 h3 h4
  exact ⟨n, o, q1, q2, q3, jQ_mono h q4, q5⟩
theorem MZ.mono (h : ∀ r w, P1 r w → P2 r w) (M : MZ l y cc maxL ret rm D Y av w0 P1) : MZ l y cc maxL ret rm D Y av w0 P2 := by
  intro sz p e ha hf hc s m args below h1 h2 h3 h4
  obtain ⟨n, o, q1, q2, q3, q4, q5⟩ := M sz p e ha hf hc s m args below h1 h2 h3 h4
  exact ⟨n, o, q1, q2, q3, jQ_mono h q4, q5⟩
theorem MW.mono {hh : List (Nat × Nat × Nat × Nat)} (h : ∀ r w, P1 r w → P2 r w) (M : MW l y cc maxL ret hh rm D Y av w0 P1) : MW l y cc maxL ret hh rm D Y av w0 P2 := by
  intro sz p e ha hf hc s m args below h1 h2 h3 h4
  obtain ⟨n, o, q1, q2, q3, q4, q5⟩ := M sz p e ha hf hc s m args below h1 h2 h3 h4
  exact ⟨n, o, q1, q2, q3, jQ_mono h q4, q5⟩
theorem MX.mono (h : ∀ r w, P1 r w → P2 r w) (hx : ∀ E w, X1 E w → X2 E w) (M : MX l y cc maxL ret rm D Y av w0 P1 X1) : MX l y cc maxL ret rm D Y av w0 P2 X2 := by
  intro sz p e ha hf hc s m args below h1 h2 h3 h4
  obtain ⟨n, o, q1, q2, q3, q4⟩ := M sz p e ha hf hc s m args below h1 h2 h3 h4
  refine ⟨n, o, q1, q2, q3, ?_⟩
  rcases q4 with ⟨q4, q5⟩ | ⟨q, q4, E, ce, L, q5, q6⟩
  · exact Or.inl ⟨jQ_mono h q4, q5⟩
  · exact Or.inr ⟨q, q4, E, ce, L, jXC_mono hx q5, q6⟩
theorem MZ.ofJ (h : ∀ r w, P1 r w → P2 r w) (M : MJ l y cc maxL ret rm D Y av w0 P1) : MZ l y cc maxL ret rm D Y av w0 P2 := by
  intro sz p e ha hf hc s m args below h1 h2 h3 h4
  obtain ⟨n, o, q1, q2, q3, q4, q5⟩ := M sz p e ha hf hc s m args below h1 h2 ⟨h3.1, h3.2.1⟩ h4
  exact ⟨n, o, q1, q2, q3, jQ_mono h q4, q5⟩
theorem MZ.ofX (h : ∀ r w, P1 r w → P2 r w) (hx : ∀ E w, ¬ X1 E w) (M : MX l y cc maxL ret rm D Y av w0 P1 X1) : MZ l y cc maxL ret rm D Y av w0 P2 := by
  intro sz p e ha hf hc s m args below h1 h2 h3 h4
  obtain ⟨n, o, q1, q2, q3, q4⟩ := M sz p e ha hf hc s m args below h1 h2 h3 h4
  rcases q4 with ⟨q4, q5⟩ | ⟨q, -, E, ce, L, ⟨⟨w, hp, -⟩, -⟩, -⟩
  · exact ⟨n, o, q1, q2, q3, jQ_mono h q4, q5⟩
  · exact absurd hp (hx E w)
end MM
theorem j_enterZ {cc : ByteArray} {Y : jy_T} {rm : Room} {l : Launch} {y : MethodName} {maxL : Nat} {ret : Option FieldType} {D : va_G} {av : List Value} {w0 : va_W} {Pst : jp_T} (hy : plainName y.cls = true) (hlen : av.length ≤ maxL) (hcat : ∀ v ∈ av, v.category = 1)
    (body : ∀ K : jk_T, K.1.2.1 = l → K.2.2.2.1 = D → jC cc y.cls Y rm maxL K → jR Y ret rm.cells rm.slots Pst K → jX K → jJ K 0 0 0 (jargs av maxL) [] w0) : MZ l y cc maxL ret rm D Y av w0 Pst := by
  intro sz
  refine Met.ofW (cc := cc) (maxL := maxL) (ret := ret) hy rfl ?_
  intro p e s m args below meth c s₁ B hml hv
  obtain ⟨rfl, ⟨hsz, hP, hK, hD0⟩, hX⟩ := hv
  have hts := wG_head (atoms_spec (ws := Cond.code y cc maxL ret :: wG) B.pre)
  have hown : s.vm.findClass y.cls = some m.cls := findClass_of_methodNamed B.named
  subst hsz
  have hD := hD0.self (sz := s.heap.size)
  rw [lg_entry_eq]
  exact body ((p, l, e, rm, s), (m, av.toArray, below, meth, c), (va_A w0 s.heap.size, _), D, maxL) rfl rfl
    ⟨B.exec, B.bytes, hown, hts, hK, fun q h => Or.inr h, hml, B.notSynchronized, rfl, rfl⟩ ⟨B.returns, fun t h => h⟩ hX
    s.heap [] _ hP hD va_S.rf (jl_entry av hlen hcat)
theorem j_enterS {cc : ByteArray} {Y : jy_T} {rm : Room} {l : Launch} {y : MethodName} {maxL : Nat} {ret : Option FieldType} {D : va_G} {av : List Value} {b L : Nat} {xs : Nat → Int32} {Pst : jp_T} (hy : plainName y.cls = true) (hlen : av.length ≤ maxL) (hcat : ∀ v ∈ av, v.category = 1)
    (body : ∀ K : jk_T, K.1.2.1 = l → K.2.2.2.1 = D → jC cc y.cls Y rm maxL K → jR Y ret rm.cells rm.slots Pst K → va_X b L xs K.1.2.2.2.2 K.1.2.2.2.2.heap → b < K.1.2.2.2.2.heap.size → ¬ K.2.2.1.1 b → jJ K 0 0 0 (jargs av maxL) [] []) : MS l y cc maxL ret rm D Y av b L xs Pst := by
  intro sz
  refine Met.ofW (cc := cc) (maxL := maxL) (ret := ret) hy rfl ?_
  intro p e s m args below meth c s₁ B hml hv
  obtain ⟨rfl, ⟨hsz, hP, hK, hD0⟩, hX, hb⟩ := hv
  have hts := wG_head (atoms_spec (ws := Cond.code y cc maxL ret :: wG) B.pre)
  have hown : s.vm.findClass y.cls = some m.cls := findClass_of_methodNamed B.named
  subst hsz
  have hD := hD0.self (sz := s.heap.size)
  rw [lg_entry_eq]
  exact body ((p, l, e, rm, s), (m, av.toArray, below, meth, c), (va_A [] s.heap.size, _), D, maxL) rfl rfl
    ⟨B.exec, B.bytes, hown, hts, hK, fun q h => Or.inr h, hml, B.notSynchronized, rfl, rfl⟩ ⟨B.returns, fun t h => h⟩ hX hb (fun z => by
      rcases z with ⟨k, e, h⟩ | h
      · simp at h
      · exact Nat.not_le.mpr hb h)
    s.heap [] _ hP hD va_S.rf (jl_entry av hlen hcat)
theorem jPs_blind {D : va_G} {Y : jy_T} {av : List Value} {b L : Nat} {xs : Nat → Int32} {sz : Nat} : FrameBlind (jPs D Y av b L xs sz) := fun a U g mk q => by
  obtain ⟨q0, ⟨q1, qP, qK, qD⟩, qX, qb⟩ := q
  exact ⟨q0, ⟨q1, qP, va_K.moved (u := U) (U := U.calling g mk a) (Vm.Alike.refl U.vm) qK, qD⟩, va_X.moved (u := U) (U := U.calling g mk a) (Vm.Alike.refl U.vm) qX, qb⟩
section JZ
variable {K : jk_T} {cc : ByteArray} {own : String} {Y : jy_T} {rm : Room} {nL k n pc : Nat} {lo : List (Option Value)} {st : List Value} {ws : va_W}
theorem j_callVZ (C : jC cc own Y rm nL K) (X : jX K) {y : MethodName} {cy : ByteArray} {mL ix : Nat} {ret : Option FieldType} {rmy : Room} {a : Nat} (As : List Value) {Pst : jp_T} {wc wr : va_W} (isC isR : List Nat)
    (hM : MZ K.1.2.1 y cy mL ret rmy K.2.2.2.1 Y (.ref a :: As) wc Pst) (hC : isC.map (fun i => ws[i]?) = wc.map some) (hR : isR.map (fun i => ws[i]?) = wr.map some) (hnC : va_nd isC = true) (hnR : va_nd isR = true) (hdis : ∀ i ∈ isR, i ∉ isC)
    (hG : GoodIn wG (wsV own ix y.cls y (Cond.code y cy mL ret :: wG)))
    (hn : (y.cls ≠ "java/lang/invoke/MethodHandle" ∧ y.cls ≠ "java/lang/invoke/VarHandle" ∧ (parseMethodDescriptor y.desc).map (fun d => d.parameters.length) = some As.length))
    (ci q0 : Nat) {q : vw_C} {fs : List Value} (hc : vwCl[ci]? = some q) (hq : q.1 = y.cls) (he : wc[q0]? = some (a, .inr (ci, fs)))
    (hroom : rmy.frames + 1 ≤ rm.frames ∧ 8 + (mL + 11) + rmy.locals ≤ rm.locals) (hcells : k + rmy.cells ≤ rm.cells ∧ n + rmy.slots ≤ rm.slots)
    (hst : (st.map fun v => v.category).sum ≤ 8) (hd : decode cc pc = .ok (.invokevirtual ix, 3)) {ops : List Value} (hops : ops = As.reverse ++ .ref a :: st)
    (kk : ∀ r w1, Pst r w1 → jJ K (k + rmy.cells) (n + rmy.slots) (pc + 3) lo (r.toList ++ st) (wr ++ w1)) : jJ K k n pc lo ops ws := by
  subst hops
  refine j_runF C isC isR hC hR hnC hnR hdis (fun H locs ls hP hD hS hl hF => ?_) kk
  have hrec := va_recv C.2.2.2.2.1 hP hc he
  rw [hq] at hrec
  exact va_runV (As := As) (rest := st) (g := F0 K.2.1.1 pc ls (As.reverse ++ .ref a :: st)) ⟨C.1, C.2.1, C.2.2.2.2.2.2.1, C.2.2.1, C.2.2.2.1⟩ (hM H.size) (cwV As.length C.2.2.2.1 hG rfl rfl rfl ⟨rfl, hn⟩ (by rw [C.2.2.2.2.2.2.2.2.1]; exact hroom))
    ⟨jPx_blind, hrec, fun U hU hW => ⟨rfl, ⟨by rw [hU], by rw [hU]; exact hP, va_K.moved hW.alike C.2.2.2.2.1, hD.weaken (fun _ _ _ _ => trivial)⟩, xF_call X hS hU hW hF⟩⟩ rfl rfl hl.1 rfl (lv_room hst) hd (by rw [C.2.2.2.2.2.2.2.2.1]; exact hcells)
theorem j_callSZ (C : jC cc own Y rm nL K) (X : jX K) {y : MethodName} {cy : ByteArray} {mL ix : Nat} {ret : Option FieldType} {rmy : Room} (As : List Value) {Pst : jp_T} {wc wr : va_W} (isC isR : List Nat)
    (hM : MZ K.1.2.1 y cy mL ret rmy K.2.2.2.1 Y As wc Pst) (hC : isC.map (fun i => ws[i]?) = wc.map some) (hR : isR.map (fun i => ws[i]?) = wr.map some) (hnC : va_nd isC = true) (hnR : va_nd isR = true) (hdis : ∀ i ∈ isR, i ∉ isC)
    (hG : GoodIn wG (wsS own ix y (Cond.code y cy mL ret :: wG))) (hown : y.cls = own)
    (hn : (y.cls ≠ "java/lang/invoke/MethodHandle" ∧ y.cls ≠ "java/lang/invoke/VarHandle" ∧ (parseMethodDescriptor y.desc).map (fun d => d.parameters.length) = some As.length))
    (hroom : rmy.frames + 1 ≤ rm.frames ∧ 8 + (mL + 11) + rmy.locals ≤ rm.locals) (hcells : k + rmy.cells ≤ rm.cells ∧ n + rmy.slots ≤ rm.slots)
    (hst : (st.map fun v => v.category).sum ≤ 8) (hd : decode cc pc = .ok (.invokestatic ix, 3)) {ops : List Value} (hops : ops = As.reverse ++ st)
    (kk : ∀ r w1, Pst r w1 → jJ K (k + rmy.cells) (n + rmy.slots) (pc + 3) lo (r.toList ++ st) (wr ++ w1)) : jJ K k n pc lo ops ws := by
  subst hops
  refine j_runF C isC isR hC hR hnC hnR hdis (fun H locs ls hP hD hS hl hF => ?_) kk
  exact va_runS (As := As) (rest := st) (g := F0 K.2.1.1 pc ls (As.reverse ++ st)) ⟨C.1, C.2.1, C.2.2.2.2.2.2.1, C.2.2.1, C.2.2.2.1⟩ (hM H.size) (cwS As.length C.2.2.2.1 hG rfl rfl rfl ⟨hown, hn⟩ (by rw [C.2.2.2.2.2.2.2.2.1]; exact hroom))
    ⟨jPx_blind, fun U hU hW => ⟨rfl, ⟨by rw [hU], by rw [hU]; exact hP, va_K.moved hW.alike C.2.2.2.2.1, hD.weaken (fun _ _ _ _ => trivial)⟩, xF_call X hS hU hW hF⟩⟩ rfl rfl hl.1 rfl (lv_room hst) hd (by rw [C.2.2.2.2.2.2.2.2.1]; exact hcells)
theorem j_callSS (C : jC cc own Y rm nL K) {b L : Nat} {xs : Nat → Int32} (hX : va_X b L xs K.1.2.2.2.2 K.1.2.2.2.2.heap) (hbl : b < K.1.2.2.2.2.heap.size) (hbA : ¬ K.2.2.1.1 b) {y : MethodName} {cy : ByteArray} {mL ix : Nat} {ret : Option FieldType} {rmy : Room} (As : List Value) {Pst : jp_T} (isR : List Nat)
    (hM : MS K.1.2.1 y cy mL ret rmy K.2.2.2.1 Y As b L xs Pst) (hR : isR.map (fun i => ws[i]?) = ws.map some) (hnR : va_nd isR = true)
    (hG : GoodIn wG (wsS own ix y (Cond.code y cy mL ret :: wG))) (hown : y.cls = own)
    (hn : (y.cls ≠ "java/lang/invoke/MethodHandle" ∧ y.cls ≠ "java/lang/invoke/VarHandle" ∧ (parseMethodDescriptor y.desc).map (fun d => d.parameters.length) = some As.length))
    (hroom : rmy.frames + 1 ≤ rm.frames ∧ 8 + (mL + 11) + rmy.locals ≤ rm.locals) (hcells : k + rmy.cells ≤ rm.cells ∧ n + rmy.slots ≤ rm.slots)
    (hst : (st.map fun v => v.category).sum ≤ 8) (hd : decode cc pc = .ok (.invokestatic ix, 3)) {ops : List Value} (hops : ops = As.reverse ++ st)
    (kk : ∀ r w1, Pst r w1 → jJ K (k + rmy.cells) (n + rmy.slots) (pc + 3) lo (r.toList ++ st) (ws ++ w1)) : jJ K k n pc lo ops ws := by
  subst hops
  refine j_runF (wc := []) C [] isR rfl hR rfl hnR (fun i _ h => absurd h List.not_mem_nil) (fun H locs ls hP hD hS hl hF => ?_) kk
  exact va_runS (As := As) (rest := st) (g := F0 K.2.1.1 pc ls (As.reverse ++ st)) ⟨C.1, C.2.1, C.2.2.2.2.2.2.1, C.2.2.1, C.2.2.2.1⟩ (hM H.size) (cwS As.length C.2.2.2.1 hG rfl rfl rfl ⟨hown, hn⟩ (by rw [C.2.2.2.2.2.2.2.2.1]; exact hroom))
    ⟨jPs_blind, fun U hU hW => ⟨rfl, ⟨by rw [hU], by rw [hU]; exact hP, va_K.moved hW.alike C.2.2.2.2.1, hD.weaken (fun _ _ _ _ => trivial)⟩, (hX.moved hW.alike).kept (by rw [hU]; exact hS.2.1 b hbl hbA), Nat.lt_of_lt_of_le hbl hS.1⟩⟩ rfl rfl hl.1 rfl (lv_room hst) hd (by rw [C.2.2.2.2.2.2.2.2.1]; exact hcells)
theorem j_ishr (C : jC cc own Y rm nL K) {x y : Int32} (hd : decode cc pc = .ok (.ishr, 1)) (kk : jJ K k n (pc + 1) lo (.int (x >>> (y &&& 31)) :: st) ws) : jJ K k n pc lo (.int y :: .int x :: st) ws :=
  fun H locs ls hP hD hS hl => lv_ishr C.1 C.2.1 hd (kk H locs ls hP hD hS hl)
theorem j_tabOutI (C : jC cc own Y rm nL K) {dflt lo9 hi9 : Int} {offs : Array Int} {len : Nat} {x : Int32} (tgt : Nat) (hd : decode cc pc = .ok (.tableswitch dflt lo9 hi9 offs, len)) (h : x.toInt < lo9 ∨ hi9 < x.toInt) (ht : (pc : Int) + dflt = (tgt : Int)) (kk : jJ K k n tgt lo st ws) : jJ K k n pc lo (.int x :: st) ws :=
  fun H locs ls hP hD hS hl => lv_tableOut C.1 C.2.1 hd h ht (kk H locs ls hP hD hS hl)
/-- a truth out of a test: 'if_ 7; iconst_1; goto 4; iconst_0' -/
theorem j_bE (C : jC cc own Y rm nL K) {x : Int32} (b : Bool) (hb0 : x = 0 → b = false) (hb1 : ¬ x = 0 → b = true) (h1 : decode cc pc = .ok (.ifCond .eq 7, 3)) (h2 : decode cc (pc + 3) = .ok (.iconst 1, 1)) (h3 : decode cc (pc + 3 + 1) = .ok (.goto 4, 3)) (h4 : decode cc (pc + 7) = .ok (.iconst 0, 1)) (kk : jJ K k n (pc + 8) lo (.int (bi b) :: st) ws) : jJ K k n pc lo (.int x :: st) ws := by
  refine j_if_eq C (pc + 7) h1 (by omega) (fun c => ?_) (fun c => ?_)
  · refine j_iconst C (bi b) h4 (by rw [hb0 c]; rfl) kk
  · refine j_iconst C (bi b) h2 (by rw [hb1 c]; rfl) ?_
    exact j_goto C (pc + 8) h3 (by omega) kk
theorem j_bN (C : jC cc own Y rm nL K) {x : Int32} (b : Bool) (hb0 : x = 0 → b = true) (hb1 : ¬ x = 0 → b = false) (h1 : decode cc pc = .ok (.ifCond .ne 7, 3)) (h2 : decode cc (pc + 3) = .ok (.iconst 1, 1)) (h3 : decode cc (pc + 3 + 1) = .ok (.goto 4, 3)) (h4 : decode cc (pc + 7) = .ok (.iconst 0, 1)) (kk : jJ K k n (pc + 8) lo (.int (bi b) :: st) ws) : jJ K k n pc lo (.int x :: st) ws := by
  refine j_if_ne C (pc + 7) h1 (by omega) (fun c => ?_) (fun c => ?_)
  · refine j_iconst C (bi b) h4 (by rw [hb1 c]; rfl) kk
  · refine j_iconst C (bi b) h2 (by rw [hb0 c]; rfl) ?_
    exact j_goto C (pc + 8) h3 (by omega) kk
theorem j_bLe (C : jC cc own Y rm nL K) {x : Int32} (h1 : decode cc pc = .ok (.ifCond .le 7, 3)) (h2 : decode cc (pc + 3) = .ok (.iconst 1, 1)) (h3 : decode cc (pc + 3 + 1) = .ok (.goto 4, 3)) (h4 : decode cc (pc + 7) = .ok (.iconst 0, 1)) (kk : jJ K k n (pc + 8) lo (.int (bi (decide (¬ x ≤ 0))) :: st) ws) : jJ K k n pc lo (.int x :: st) ws := by
  refine j_if_le C (pc + 7) h1 (by omega) (fun c => ?_) (fun c => ?_)
  · refine j_iconst C (bi (decide (¬ x ≤ 0))) h4 (by rw [decide_eq_false (fun z => z c)]; rfl) kk
  · refine j_iconst C (bi (decide (¬ x ≤ 0))) h2 (by rw [decide_eq_true c]; rfl) ?_
    exact j_goto C (pc + 8) h3 (by omega) kk
theorem j_bLt (C : jC cc own Y rm nL K) {x : Int32} (h1 : decode cc pc = .ok (.ifCond .lt 7, 3)) (h2 : decode cc (pc + 3) = .ok (.iconst 1, 1)) (h3 : decode cc (pc + 3 + 1) = .ok (.goto 4, 3)) (h4 : decode cc (pc + 7) = .ok (.iconst 0, 1)) (kk : jJ K k n (pc + 8) lo (.int (bi (decide (¬ x < 0))) :: st) ws) : jJ K k n pc lo (.int x :: st) ws := by
  refine j_if_lt C (pc + 7) h1 (by omega) (fun c => ?_) (fun c => ?_)
  · refine j_iconst C (bi (decide (¬ x < 0))) h4 (by rw [decide_eq_false (fun z => z c)]; rfl) kk
  · refine j_iconst C (bi (decide (¬ x < 0))) h2 (by rw [decide_eq_true c]; rfl) ?_
    exact j_goto C (pc + 8) h3 (by omega) kk
end JZ
