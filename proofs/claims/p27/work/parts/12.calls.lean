section JF
variable {K : jk_T} {cc : ByteArray} {own : String} {Y : jy_T} {rm : Room} {nL k n pc : Nat} {lo : List (Option Value)} {st : List Value} {ws : va_W}
theorem j_mmin (C : jC cc own Y rm nL K) {ix : Nat} {x y : Int32} (hl0 : Cond.methodLink own ix yJ9_min_7cf53 ∈ wG) (hfr : 1 ≤ rm.frames) (hlo : (st.map fun v => v.category).sum + 13 ≤ rm.locals) (hk : k ≤ rm.cells) (hn : n ≤ rm.slots) (hd : decode cc pc = .ok (.invokestatic ix, 3)) (kk : jJ K k n (pc + 3) lo (.int (if y < x then y else x) :: st) ws) : jJ K k n pc lo (.int y :: .int x :: st) ws :=
  fun H locs ls hP hD hS hl => va_mmin C.1 C.2.1 (by rw [C.2.2.2.2.2.2.1]; exact hl.1.symm) C.2.2.1 (C.2.2.2.1 _ hl0) (C.2.2.2.1 _ wd_st_J9_min_7cf53) (C.2.2.2.1 _ wd_in_J9) (C.2.2.2.1 _ wd_co_J9_min_7cf53) (by rw [C.2.2.2.2.2.2.2.2.1]; exact hfr) (by rw [C.2.2.2.2.2.2.2.2.1]; exact hlo) (by rw [C.2.2.2.2.2.2.2.2.1]; exact hk) (by rw [C.2.2.2.2.2.2.2.2.1]; exact hn) hd (kk H locs ls hP hD hS hl)
theorem fm_of {α : Type} {ws wc : List α} {is : List Nat} (h : is.map (fun i => ws[i]?) = wc.map some) : is.filterMap (fun i => ws[i]?) = wc := by
  have h1 : is.filterMap (fun i => ws[i]?) = (is.map (fun i => ws[i]?)).filterMap id := by rw [List.filterMap_map]; rfl
  rw [h1, h, List.filterMap_map]
  show List.filterMap some wc = wc
  exact List.filterMap_some
/-- the world in another order, or a part of it -/
theorem j_sub {ws2 : va_W} (is : List Nat) (hm : is.map (fun i => ws[i]?) = ws2.map some) (hn : va_nd is = true) (kk : jJ K k n pc lo st ws2) : jJ K k n pc lo st ws :=
  fun H locs ls hP hD hS hl => kk H locs ls (hP.sub is (fm_of hm)) (hD.sub is hn hm) hS hl
/-- where a method has thrown an E -/
def jH (K : jk_T) (k n : Nat) (pc : Nat) (lo : List (Option Value)) (E : String) (ws : va_W) : Prop :=
  ∀ (H : Heap) (locs : List Loc) (ls : Array Slot) (ce : Cell) (q : Nat) (rest : List Value), va_P K.2.2.2.1 vwCl ws H → va_D K.2.2.1.1 ws → va_S K.2.2.1.1 K.1.2.2.2.2.heap H locs → jl_has ls K.2.2.2.2 lo → H[q]? = some ce → ce.vm = .none → K.1.2.2.2.2.vm.findClass E = some ce.cls →
    vx_W K.1.1 K.1.2.1 K.1.2.2.1 K.1.2.2.2.1 K.1.2.2.2.2 K.2.1.1 K.2.1.2.1 K.2.1.2.2.1 K.2.1.2.2.2.1 K.2.1.2.2.2.2 H locs k n K.2.2.1.2 (F0 K.2.1.1 pc ls rest) q
def jXC (D : va_G) (Y : jy_T) (A : Nat → Prop) (Pex : String → va_W → Prop) : String → State → State → Prop := fun E st t =>
  (∃ w, Pex E w ∧ va_P D vwCl w t.heap ∧ va_K D vwCl (jtys Y) t ∧ va_D A w) ∧ va_F A st t
/-- a call of a part of the world -/
theorem j_runF (C : jC cc own Y rm nL K) {Pst : jp_T} {mc ms : Nat} {ops : List Value} {wc wr : va_W} (isC isR : List Nat) (hC : isC.map (fun i => ws[i]?) = wc.map some) (hR : isR.map (fun i => ws[i]?) = wr.map some) (hnC : va_nd isC = true) (hnR : va_nd isR = true) (hdis : ∀ i ∈ isR, i ∉ isC)
    (hr : ∀ (H : Heap) (locs : List Loc) (ls : Array Slot), va_P K.2.2.2.1 vwCl wc H → va_D K.2.2.1.1 wc → va_S K.2.2.1.1 K.1.2.2.2.2.heap H locs → jl_has ls K.2.2.2.2 lo → (∀ q, va_A wc H.size q → K.2.2.1.1 q) →
      va_Run K.1.1 K.1.2.1 K.1.2.2.1 K.1.2.2.2.1 K.1.2.2.2.2 K.2.1.1 K.2.1.2.1 K.2.1.2.2.1 K.2.1.2.2.2.1 K.2.1.2.2.2.2 H locs k n mc ms (F0 K.2.1.1 pc ls ops) st (jQ K.2.2.2.1 Y (va_A wc H.size) Pst #[]) (va_A wc H.size))
    (kk : ∀ r w1, Pst r w1 → jJ K (k + mc) (n + ms) (pc + 3) lo (r.toList ++ st) (wr ++ w1)) : jJ K k n pc lo ops ws := by
  intro H locs ls hP hD hS hl T hT X
  have hPc := hP.sub isC (fm_of hC)
  have hDc := hD.sub isC hnC hC
  have hF := va_free hD hS C.2.2.2.2.2.1 isC hC
  obtain ⟨v, st₀, t, T', L, h0, X', hL, e1, e2, ⟨⟨r, w1, hv, hp, hP1, hK1, hD1⟩, hz, hk⟩, hst⟩ := hr H locs ls hPc hDc hS hl hF T hT X
  cases hv
  rw [h0] at hz hk
  rw [← e1] at hP1 hz hk
  obtain ⟨hP2, hD2⟩ := va_join hP hD isC isR hC hR hnR hdis hk hF hP1 hD1
  have hS1 : va_S K.2.2.1.1 K.1.2.2.2.2.heap T'.heap (locs ++ L) := ⟨Nat.le_trans hS.1 hz, fun q h1 h2 => by
      rw [hk q (Nat.lt_of_lt_of_le h1 hS.1) (fun z => h2 (hF q z))]; exact hS.2.1 q h1 h2, fun q hq => by
      rcases List.mem_append.mp hq with h | h
      · exact hS.2.2 q h
      · exact hF _ (hL q h)⟩
  obtain ⟨t2, a1, b1⟩ := kk v w1 hp T'.heap (locs ++ L) ls hP2 hD2 hS1 hl T' rfl X'
  exact ⟨t2, hst t2 a1, b1⟩
theorem j_runX (C : jC cc own Y rm nL K) {Pst : jp_T} {Pex : String → va_W → Prop} {mc ms : Nat} {ops : List Value} {wc wr : va_W} (isC isR : List Nat) (hC : isC.map (fun i => ws[i]?) = wc.map some) (hR : isR.map (fun i => ws[i]?) = wr.map some) (hnC : va_nd isC = true) (hnR : va_nd isR = true) (hdis : ∀ i ∈ isR, i ∉ isC)
    (hr : ∀ (H : Heap) (locs : List Loc) (ls : Array Slot), va_P K.2.2.2.1 vwCl wc H → va_D K.2.2.1.1 wc → va_S K.2.2.1.1 K.1.2.2.2.2.heap H locs → jl_has ls K.2.2.2.2 lo → (∀ q, va_A wc H.size q → K.2.2.1.1 q) →
      vx_Run K.1.1 K.1.2.1 K.1.2.2.1 K.1.2.2.2.1 K.1.2.2.2.2 K.2.1.1 K.2.1.2.1 K.2.1.2.2.1 K.2.1.2.2.2.1 K.2.1.2.2.2.2 H locs k n mc ms (F0 K.2.1.1 pc ls ops) st (jQ K.2.2.2.1 Y (va_A wc H.size) Pst #[]) (jXC K.2.2.2.1 Y (va_A wc H.size) Pex) (va_A wc H.size))
    (kk : ∀ r w1, Pst r w1 → jJ K (k + mc) (n + ms) (pc + 3) lo (r.toList ++ st) (wr ++ w1))
    (kx : ∀ E w1, Pex E w1 → jH K (k + mc) (n + ms) pc lo E (wr ++ w1)) : jJ K k n pc lo ops ws := by
  intro H locs ls hP hD hS hl T hT X
  have hPc := hP.sub isC (fm_of hC)
  have hDc := hD.sub isC hnC hC
  have hF := va_free hD hS C.2.2.2.2.2.1 isC hC
  have key : ∀ (T' t : State) (st₀ : State) (L : List Loc) (w1 : va_W), st₀.heap = H → T'.heap = t.heap → (∀ q ∈ L, va_A wc H.size q.base) → va_P K.2.2.2.1 vwCl w1 t.heap → va_D (va_A wc H.size) w1 → va_F (va_A wc H.size) st₀ t →
      va_P K.2.2.2.1 vwCl (wr ++ w1) T'.heap ∧ va_D K.2.2.1.1 (wr ++ w1) ∧ va_S K.2.2.1.1 K.1.2.2.2.2.heap T'.heap (locs ++ L) := by
    intro T' t st₀ L w1 h0 e1 hL hP1 hD1 hFF
    obtain ⟨hz, hk⟩ := hFF
    rw [h0] at hz hk
    rw [← e1] at hP1 hz hk
    obtain ⟨hP2, hD2⟩ := va_join hP hD isC isR hC hR hnR hdis hk hF hP1 hD1
    exact ⟨hP2, hD2, Nat.le_trans hS.1 hz, fun q h1 h2 => by
      rw [hk q (Nat.lt_of_lt_of_le h1 hS.1) (fun z => h2 (hF q z))]; exact hS.2.1 q h1 h2, fun q hq => by
      rcases List.mem_append.mp hq with h | h
      · exact hS.2.2 q h
      · exact hF _ (hL q h)⟩
  rcases hr H locs ls hPc hDc hS hl hF T hT X with ⟨v, st₀, t, T', L, h0, X', hL, e1, e2, ⟨⟨r, w1, hv, hp, hP1, hK1, hD1⟩, hFF⟩, hst⟩ | ⟨q, st₀, t, T', L, E, ce, h0, X', hL, e1, e2, ⟨⟨w1, hp, hP1, hK1, hD1⟩, hFF⟩, hce, hcv, hcl, hst⟩
  · cases hv
    obtain ⟨a, b, c⟩ := key T' t st₀ L w1 h0 e1 hL hP1 hD1 hFF
    obtain ⟨t2, a1, b1⟩ := kk v w1 hp T'.heap (locs ++ L) ls a b c hl T' rfl X'
    exact ⟨t2, hst t2 a1, b1⟩
  · obtain ⟨a, b, c⟩ := key T' t st₀ L w1 h0 e1 hL hP1 hD1 hFF
    obtain ⟨t2, a1, b1⟩ := kx E w1 hp T'.heap (locs ++ L) ls ce q st a b c hl (by rw [e1]; exact hce) hcv hcl T' rfl X'
    exact ⟨t2, hst.trans a1, b1⟩
end JF
-- what an exception needs
def xNm : List String := ["java/lang/RuntimeException", "java/lang/Exception"]
def xIAE : String := "java/lang/IllegalArgumentException"
def xIOO : String := "java/lang/IndexOutOfBoundsException"
def xISE : String := "java/lang/IllegalStateException"
def xAt1 : List Cond := vx_atS RX0 50 xIAE xNm
def xAt2 : List Cond := vx_atS RX0 68 xIOO xNm
def xAt3 : List Cond := vx_atS RX0 76 xISE xNm
def xW : List Cond := (xAt1 ++ (xAt2 ++ xAt3)).filter (fun w => !goodWord w)
def xcd : Cond → Bool
  | .castable _ _ => true
  | .declares _ => true
  | _ => false
theorem xW_cd : xW.all xcd = true := by decide +kernel
theorem xW_tbl : xW.all (fun w => decide (w ∈ lw_tbl)) = true := by decide +kernel
theorem xAt_tbl : (xAt1 ++ (xAt2 ++ xAt3)).all (fun w => decide (w ∈ lw_tbl)) = true := by decide +kernel
theorem xAt_ot : (xAt1 ++ (xAt2 ++ xAt3)).all (fun w => vx_ot w) = true := by decide +kernel
theorem xAt_in : ∀ w ∈ xAt1 ++ (xAt2 ++ xAt3), w ∈ wG ∨ w ∈ xW := fun w h => by
  have h1 : w ∈ lw_tbl := of_decide_eq_true (List.all_eq_true.mp xAt_tbl w h)
  cases g : goodWord w
  · exact Or.inr (List.mem_filter.mpr ⟨h, by rw [g]; rfl⟩)
  · exact Or.inl (List.mem_filter.mpr ⟨h1, g⟩)
def xS : List (Nat × String) := [(48, "pegs or disks out of range"), (66, "no such disk or peg"), (74, "a move was made"), (91, "no such peg"), (93, "both pegs are the same"), (98, "no such disk"), (100, "colour out of range"), (109, "the move is not possible, or too many were made"), (115, "no move was made"), (135, "only for three free pegs without the rule of colours"), (148, "there is no way")]
def xN : List (String × String) := [(xIAE, xISE), (xIAE, xIOO), (xISE, xIAE), (xISE, xIOO), (xIOO, xIAE), (xIOO, xISE)]
def xF (A : Nat → Prop) (U : State) (H : Heap) : Prop :=
  vx_Zq Bundle.tN "UNASSIGNED_STACK" Bundle.steD A U H ∧ vx_Zq Bundle.tN "SUPPRESSED_SENTINEL" Bundle.listD A U H ∧ (∀ w ∈ xW, va_Nw w U) ∧ (∀ q ∈ xS, ∃ sa, vk_R RX0 q.1 q.2 sa U) ∧ ∀ q ∈ xN, va_Nc q.1 q.2 U
theorem xNw_warm {w : Cond} {s U : State} (h : xcd w = true) (hW : s.WarmedH U.vm) (hz : va_Nw w s) : va_Nw w U := by
  cases w with
  | castable a b => exact va_Nw.warmC hW hz
  | declares a => exact va_Nw.warmD hW hz
  | _ => cases h
theorem xF_call {A B : Nat → Prop} {s U : State} {H : Heap} {locs : List Loc} (h : xF A s s.heap) (hS : va_S A s.heap H locs) (hU : U.heap = H) (hW : s.WarmedH U.vm) (hAB : ∀ q, B q → A q) : xF B U U.heap := by
  obtain ⟨h1, h2, h3, h4, h5⟩ := h
  subst hU
  exact ⟨((h1.moved hW.alike).kept hS.2.1).narrow hAB, ((h2.moved hW.alike).kept hS.2.1).narrow hAB, fun w hw => xNw_warm (List.all_eq_true.mp xW_cd w hw) hW (h3 w hw), fun q hq => by
    obtain ⟨sa, hs⟩ := h4 q hq
    exact ⟨sa, hs.warm hW⟩, fun q hq => (h5 q hq).moved hW.alike⟩
theorem xcd_tab {w : Cond} (h : xcd w = true) : w.onTables = true := by
  cases w with
  | castable a b => rfl
  | declares a => rfl
  | _ => cases h
theorem xF_calling {A : Nat → Prop} {U : State} {g : JFrame} {mk : MethodId} {a : Array Value} (h : xF A U U.heap) : xF A (U.calling g mk a) (U.calling g mk a).heap := by
  obtain ⟨h1, h2, h3, h4, h5⟩ := h
  exact ⟨vx_Zq.moved (u := U) (U := U.calling g mk a) (Vm.Alike.refl U.vm) h1, vx_Zq.moved (u := U) (U := U.calling g mk a) (Vm.Alike.refl U.vm) h2, fun w hw => va_Nw.same (u := U) (U := U.calling g mk a) (xcd_tab (List.all_eq_true.mp xW_cd w hw)) rfl (h3 w hw), fun q hq => by
    obtain ⟨sa, hs⟩ := h4 q hq
    exact ⟨sa, vk_R.same (u := U) (U := U.calling g mk a) rfl hs⟩, fun q hq => va_Nc.moved (u := U) (U := U.calling g mk a) (Vm.Alike.refl U.vm) (h5 q hq)⟩
def jPx (D : va_G) (Y : jy_T) (av : List Value) (w0 : va_W) (sz : Nat) : Array Value → State → Prop :=
  va_Pc av (fun U => (U.heap.size = sz ∧ va_P D vwCl w0 U.heap ∧ va_K D vwCl (jtys Y) U ∧ va_D (fun _ => True) w0) ∧ xF (va_A w0 sz) U U.heap)
theorem jPx_blind {D : va_G} {Y : jy_T} {av : List Value} {w0 : va_W} {sz : Nat} : FrameBlind (jPx D Y av w0 sz) := fun a U g mk q => by
  obtain ⟨q0, ⟨q1, qP, qK, qD⟩, qX⟩ := q
  exact ⟨q0, ⟨q1, qP, va_K.moved (u := U) (U := U.calling g mk a) (Vm.Alike.refl U.vm) qK, qD⟩, xF_calling qX⟩
/-- the contract of a method that may throw: it answers r with the world w so that Pst r w, or throws an E with the world w so that Pex E w -/
def MX (l : Launch) (y : MethodName) (cc : ByteArray) (maxL : Nat) (ret : Option FieldType) (rm : Room) (D : va_G) (Y : jy_T) (av : List Value) (w0 : va_W) (Pst : jp_T) (Pex : String → va_W → Prop) : Prop :=
  ∀ sz, vx_Met l y (Cond.code y cc maxL ret :: wG) rm (jPx D Y av w0 sz) (jQ D Y (va_A w0 sz) Pst) (jXC D Y (va_A w0 sz) Pex) rm.cells rm.slots (va_A w0 sz)
/-- the contract of a method with handlers -/
def MW (l : Launch) (y : MethodName) (cc : ByteArray) (maxL : Nat) (ret : Option FieldType) (hh : List (Nat × Nat × Nat × Nat)) (rm : Room) (D : va_G) (Y : jy_T) (av : List Value) (w0 : va_W) (Pst : jp_T) : Prop :=
  ∀ sz, Met l y (Cond.codeWith y cc maxL ret hh :: wG) rm (jPx D Y av w0 sz) (jQ D Y (va_A w0 sz) Pst) rm.cells rm.slots (va_A w0 sz)
def jX (K : jk_T) : Prop := xF K.2.2.1.1 K.1.2.2.2.2 K.1.2.2.2.2.heap
def jT (Y : jy_T) (mc ms : Nat) (Pst : jp_T) (Pex : String → va_W → Prop) (K : jk_T) : Prop :=
  (∀ x ∈ K.2.1.2.2.2.2.exceptionTable.toList, False) ∧ K.1.2.1.stackTraces = false ∧ ∀ t, vx_MQ K.2.1.2.2.1 (jQ K.2.2.2.1 Y K.2.2.1.1 Pst) (jXC K.2.2.2.1 Y K.2.2.1.1 Pex) K.2.1.2.1 K.1.2.2.2.2 mc ms K.2.2.1.1 t → K.2.2.1.2 t
theorem j_enterX {cc : ByteArray} {Y : jy_T} {rm : Room} {l : Launch} {y : MethodName} {maxL : Nat} {ret : Option FieldType} {D : va_G} {av : List Value} {w0 : va_W} {Pst : jp_T} {Pex : String → va_W → Prop} (hl : l.stackTraces = false) (hy : plainName y.cls = true) (hlen : av.length ≤ maxL) (hcat : ∀ v ∈ av, v.category = 1)
    (body : ∀ K : jk_T, K.1.2.1 = l → K.2.2.2.1 = D → jC cc y.cls Y rm maxL K → jR Y ret rm.cells rm.slots Pst K → jX K → jT Y rm.cells rm.slots Pst Pex K → jJ K 0 0 0 (jargs av maxL) [] w0) : MX l y cc maxL ret rm D Y av w0 Pst Pex := by
  intro sz
  refine vx_ofW (cc := cc) (maxL := maxL) (ret := ret) hy rfl ?_
  intro p e s m args below meth c s₁ B hml hht hv
  obtain ⟨rfl, ⟨hsz, hP, hK, hD0⟩, hX⟩ := hv
  have hts := wG_head (atoms_spec (ws := Cond.code y cc maxL ret :: wG) B.pre)
  have hown : s.vm.findClass y.cls = some m.cls := findClass_of_methodNamed B.named
  subst hsz
  have hD := hD0.self (sz := s.heap.size)
  rw [lg_entry_eq]
  exact body ((p, l, e, rm, s), (m, av.toArray, below, meth, c), (va_A w0 s.heap.size, _), D, maxL) rfl rfl
    ⟨B.exec, B.bytes, hown, hts, hK, fun q h => Or.inr h, hml, B.notSynchronized, rfl, rfl⟩ ⟨B.returns, fun t ⟨o, b1, b2, b3, b4⟩ => ⟨o, b1, b2, Or.inl ⟨b3, b4⟩⟩⟩ hX ⟨hht, hl, fun t h => h⟩
    s.heap [] _ hP hD va_S.rf (jl_entry av hlen hcat)
theorem j_enterW {cc : ByteArray} {Y : jy_T} {rm : Room} {l : Launch} {y : MethodName} {maxL : Nat} {ret : Option FieldType} {hh : List (Nat × Nat × Nat × Nat)} {D : va_G} {av : List Value} {w0 : va_W} {Pst : jp_T} (hy : plainName y.cls = true) (hlen : av.length ≤ maxL) (hcat : ∀ v ∈ av, v.category = 1)
    (body : ∀ K : jk_T, K.1.2.1 = l → K.2.2.2.1 = D → jC cc y.cls Y rm maxL K → jR Y ret rm.cells rm.slots Pst K → jX K → K.2.1.2.2.2.2.exceptionTable.toList = tableOf hh → jJ K 0 0 0 (jargs av maxL) [] w0) : MW l y cc maxL ret hh rm D Y av w0 Pst := by
  intro sz
  refine va_MetW (cc := cc) (maxL := maxL) (ret := ret) (hh := hh) hy rfl ?_
  intro p e s m args below meth c s₁ B hml hv
  obtain ⟨rfl, ⟨hsz, hP, hK, hD0⟩, hX⟩ := hv
  have hat := atoms_spec (ws := Cond.codeWith y cc maxL ret hh :: wG) B.pre
  have hts : ∀ w ∈ wG, w.before av.toArray s = true := fun w q => hat w (List.mem_cons_of_mem _ q)
  have htab := vx_table (x := y) B (hat _ List.mem_cons_self)
  have hown : s.vm.findClass y.cls = some m.cls := findClass_of_methodNamed B.named
  subst hsz
  have hD := hD0.self (sz := s.heap.size)
  rw [lg_entry_eq]
  exact body ((p, l, e, rm, s), (m, av.toArray, below, meth, c), (va_A w0 s.heap.size, _), D, maxL) rfl rfl
    ⟨B.exec, B.bytes, hown, hts, hK, fun q h => Or.inr h, hml, B.notSynchronized, rfl, rfl⟩ ⟨B.returns, fun t h => h⟩ hX htab
    s.heap [] _ hP hD va_S.rf (jl_entry av hlen hcat)
section JX
variable {K : jk_T} {cc : ByteArray} {own : String} {Y : jy_T} {rm : Room} {nL k n pc : Nat} {lo : List (Option Value)} {st : List Value} {ws : va_W}
theorem j_throw (C : jC cc RX0 Y rm nL K) (X : jX K) {mc ms : Nat} {Pst : jp_T} {Pex : String → va_W → Prop} (T : jT Y mc ms Pst Pex K) {ik is ic : Nat} {cls text : String} (hk : Cond.classLink RX0 ik cls ∈ wG) (hini : Cond.initialized cls ∈ wG) (hstr : (is, text) ∈ xS) (hat : ∀ w ∈ vx_atS RX0 ic cls xNm, w ∈ xAt1 ++ (xAt2 ++ xAt3)) (hcls : Bundle.fit cls = true)
    (d0 : decode cc pc = .ok (.new ik, 3)) (d3 : decode cc (pc + 3) = .ok (.dup, 1)) (d4 : decode cc (pc + 4) = .ok (.ldc is, 2)) (d6 : decode cc (pc + 6) = .ok (.invokespecial ic, 3)) (d9 : decode cc (pc + 9) = .ok (.athrow, 1))
    (hf : 5 < rm.frames) (hlo : (st.map fun v => v.category).sum + 82 ≤ rm.locals) (hk1 : k + 1 ≤ rm.cells) (hn1 : n + 6 ≤ rm.slots) (hk2 : k + 1 ≤ mc) (hn2 : n + 6 ≤ ms) (hp : Pex cls ws) : jJ K k n pc lo st ws := by
  intro H locs ls hP hD hS hl
  obtain ⟨hU, hN, hw, hs, -⟩ := id X
  obtain ⟨sa, hsa⟩ := hs _ hstr
  refine jw_Q T.2.2 (vx_throwS (names := xNm) (text := text) (sa := sa) C.1 C.2.1 T.2.1 C.2.2.1 hcls (by decide) (C.2.2.2.1 _ hk) (C.2.2.2.1 _ hini) hsa ?_ ?_ hU hN hS (by rw [C.2.2.2.2.2.2.1]; exact hl.1) d0 d3 d4 d6 d9 (fun x hx => (T.1 x hx).elim) (by rw [C.2.2.2.2.2.2.2.2.1]; exact hf) (by rw [C.2.2.2.2.2.2.2.2.1]; exact hlo) (by rw [C.2.2.2.2.2.2.2.2.1]; exact hk1) (by rw [C.2.2.2.2.2.2.2.2.1]; exact hn1) C.2.2.2.2.2.2.2.1 ?_ hS.2.2 hk2 hn2)
  · intro w h
    rcases xAt_in w (hat w h) with g | g
    · exact C.2.2.2.1 w g
    · exact va_Nw.use (xcd_tab (List.all_eq_true.mp xW_cd w g)) (hw w g)
  · intro w h
    rcases List.mem_cons.mp h with rfl | h
    · rfl
    · rcases List.mem_cons.mp h with rfl | h
      · rfl
      · exact List.all_eq_true.mp xAt_ot w (hat w h)
  · intro t hvm hz hq
    exact ⟨⟨ws, hp, hP.kept (fun i q hi => hq _ (hP i q hi).lt), va_K.moved hvm C.2.2.2.2.1, hD⟩, Nat.le_trans hS.1 hz, fun q h1 h2 => by rw [hq q (Nat.lt_of_lt_of_le h1 hS.1)]; exact hS.2.1 q h1 h2⟩
/-- the n-th handler takes it -/
theorem j_catch (C : jC cc own Y rm nL K) {hh : List (Nat × Nat × Nat × Nat)} (tb : K.2.1.2.2.2.2.exceptionTable.toList = tableOf hh) {E : String} (pre : List (Nat × Nat × Nat × Nat)) (x : Nat × Nat × Nat × Nat) (suf : List (Nat × Nat × Nat × Nat)) (hs : hh = pre ++ x :: suf)
    (hpass : ∀ z ∈ pre, z.2.2.2 ≠ 0 ∧ ∃ nm, Cond.classLink own z.2.2.2 nm ∈ wG ∧ va_Nc E nm K.1.2.2.2.2) (hx : x.1 ≤ pc ∧ pc < x.2.1) (h0 : x.2.2.2 ≠ 0) {nm : String} (hlink : Cond.classLink own x.2.2.2 nm ∈ wG) (hcast : va_Nw (.castable E nm) K.1.2.2.2.2)
    (kk : ∀ q : Nat, jJ K k n x.2.2.1 lo [.ref q] ws) : jH K k n pc lo E ws := by
  intro H locs ls ce q rest hP hD hS hl hce hcv hcl
  subst hs
  refine vx_catch (E := E) C.2.2.1 (tableOf pre) ⟨x.1, x.2.1, x.2.2.1, x.2.2.2⟩ (tableOf suf) (by rw [tb]; unfold tableOf; rw [List.map_append]; rfl) (fun z hz => ?_) (by show (decide _ && decide _) = true; rw [decide_eq_true hx.1, decide_eq_true hx.2]; rfl) h0 (C.2.2.2.1 _ hlink) (va_Nw.use rfl hcast) hce hcv hcl (kk q H locs ls hP hD hS hl)
  obtain ⟨w, hw, rfl⟩ := List.mem_map.mp hz
  obtain ⟨a, nm1, b, c⟩ := hpass w hw
  exact Or.inr ⟨a, nm1, C.2.2.2.1 _ b, c⟩
theorem j_callVX (C : jC cc own Y rm nL K) (X : jX K) {y : MethodName} {cy : ByteArray} {mL ix : Nat} {ret : Option FieldType} {rmy : Room} {a : Nat} (As : List Value) {Pst : jp_T} {Pex : String → va_W → Prop} {wc wr : va_W} (isC isR : List Nat)
    (hM : MX K.1.2.1 y cy mL ret rmy K.2.2.2.1 Y (.ref a :: As) wc Pst Pex) (hC : isC.map (fun i => ws[i]?) = wc.map some) (hR : isR.map (fun i => ws[i]?) = wr.map some) (hnC : va_nd isC = true) (hnR : va_nd isR = true) (hdis : ∀ i ∈ isR, i ∉ isC)
    (hG : GoodIn wG (wsV own ix y.cls y (Cond.code y cy mL ret :: wG)))
    (hn : (y.cls ≠ "java/lang/invoke/MethodHandle" ∧ y.cls ≠ "java/lang/invoke/VarHandle" ∧ (parseMethodDescriptor y.desc).map (fun d => d.parameters.length) = some As.length))
    (ci q0 : Nat) {q : vw_C} {fs : List Value} (hc : vwCl[ci]? = some q) (hq : q.1 = y.cls) (he : wc[q0]? = some (a, .inr (ci, fs)))
    (hroom : rmy.frames + 1 ≤ rm.frames ∧ 8 + (mL + 11) + rmy.locals ≤ rm.locals) (hcells : k + rmy.cells ≤ rm.cells ∧ n + rmy.slots ≤ rm.slots)
    (hst : (st.map fun v => v.category).sum ≤ 8) (hd : decode cc pc = .ok (.invokevirtual ix, 3)) {ops : List Value} (hops : ops = As.reverse ++ .ref a :: st)
    (kk : ∀ r w1, Pst r w1 → jJ K (k + rmy.cells) (n + rmy.slots) (pc + 3) lo (r.toList ++ st) (wr ++ w1))
    (kx : ∀ E w1, Pex E w1 → jH K (k + rmy.cells) (n + rmy.slots) pc lo E (wr ++ w1)) : jJ K k n pc lo ops ws := by
  subst hops
  refine j_runX C isC isR hC hR hnC hnR hdis (fun H locs ls hP hD hS hl hF => ?_) kk kx
  have hrec := va_recv C.2.2.2.2.1 hP hc he
  rw [hq] at hrec
  exact vx_runV (As := As) (rest := st) (g := F0 K.2.1.1 pc ls (As.reverse ++ .ref a :: st)) ⟨C.1, C.2.1, C.2.2.2.2.2.2.1, C.2.2.1, C.2.2.2.1⟩ (hM H.size) (cwV As.length C.2.2.2.1 hG rfl rfl rfl ⟨rfl, hn⟩ (by rw [C.2.2.2.2.2.2.2.2.1]; exact hroom))
    ⟨jPx_blind, hrec, fun U hU hW => ⟨rfl, ⟨by rw [hU], by rw [hU]; exact hP, va_K.moved hW.alike C.2.2.2.2.1, hD.weaken (fun _ _ _ _ => trivial)⟩, xF_call X hS hU hW hF⟩⟩ rfl rfl hl.1 rfl (lv_room hst) hd (by rw [C.2.2.2.2.2.2.2.2.1]; exact hcells)
theorem j_callVF (C : jC cc own Y rm nL K) {y : MethodName} {cy : ByteArray} {mL ix : Nat} {ret : Option FieldType} {rmy : Room} {a : Nat} (As : List Value) {Pst : jp_T} {wc wr : va_W} (isC isR : List Nat)
    (hM : MJ K.1.2.1 y cy mL ret rmy K.2.2.2.1 Y (.ref a :: As) wc Pst) (hC : isC.map (fun i => ws[i]?) = wc.map some) (hR : isR.map (fun i => ws[i]?) = wr.map some) (hnC : va_nd isC = true) (hnR : va_nd isR = true) (hdis : ∀ i ∈ isR, i ∉ isC)
    (hG : GoodIn wG (wsV own ix y.cls y (Cond.code y cy mL ret :: wG)))
    (hn : (y.cls ≠ "java/lang/invoke/MethodHandle" ∧ y.cls ≠ "java/lang/invoke/VarHandle" ∧ (parseMethodDescriptor y.desc).map (fun d => d.parameters.length) = some As.length))
    (ci q0 : Nat) {q : vw_C} {fs : List Value} (hc : vwCl[ci]? = some q) (hq : q.1 = y.cls) (he : wc[q0]? = some (a, .inr (ci, fs)))
    (hroom : rmy.frames + 1 ≤ rm.frames ∧ 8 + (mL + 11) + rmy.locals ≤ rm.locals) (hcells : k + rmy.cells ≤ rm.cells ∧ n + rmy.slots ≤ rm.slots)
    (hst : (st.map fun v => v.category).sum ≤ 8) (hd : decode cc pc = .ok (.invokevirtual ix, 3)) {ops : List Value} (hops : ops = As.reverse ++ .ref a :: st)
    (kk : ∀ r w1, Pst r w1 → jJ K (k + rmy.cells) (n + rmy.slots) (pc + 3) lo (r.toList ++ st) (wr ++ w1)) : jJ K k n pc lo ops ws := by
  subst hops
  refine j_runF C isC isR hC hR hnC hnR hdis (fun H locs ls hP hD hS hl hF => ?_) kk
  have hrec := va_recv C.2.2.2.2.1 hP hc he
  rw [hq] at hrec
  exact va_runV (As := As) (rest := st) (g := F0 K.2.1.1 pc ls (As.reverse ++ .ref a :: st)) ⟨C.1, C.2.1, C.2.2.2.2.2.2.1, C.2.2.1, C.2.2.2.1⟩ (hM H.size) (cwV As.length C.2.2.2.1 hG rfl rfl rfl ⟨rfl, hn⟩ (by rw [C.2.2.2.2.2.2.2.2.1]; exact hroom))
    ⟨jPc_blind, hrec, fun U hU hW => ⟨rfl, by rw [hU], by rw [hU]; exact hP, va_K.moved hW.alike C.2.2.2.2.1, hD.weaken (fun _ _ _ _ => trivial)⟩⟩ rfl rfl hl.1 rfl (lv_room hst) hd (by rw [C.2.2.2.2.2.2.2.2.1]; exact hcells)
theorem j_callSF (C : jC cc own Y rm nL K) {y : MethodName} {cy : ByteArray} {mL ix : Nat} {ret : Option FieldType} {rmy : Room} (As : List Value) {Pst : jp_T} {wc wr : va_W} (isC isR : List Nat)
    (hM : MJ K.1.2.1 y cy mL ret rmy K.2.2.2.1 Y As wc Pst) (hC : isC.map (fun i => ws[i]?) = wc.map some) (hR : isR.map (fun i => ws[i]?) = wr.map some) (hnC : va_nd isC = true) (hnR : va_nd isR = true) (hdis : ∀ i ∈ isR, i ∉ isC)
    (hG : GoodIn wG (wsS own ix y (Cond.code y cy mL ret :: wG))) (hown : y.cls = own)
    (hn : (y.cls ≠ "java/lang/invoke/MethodHandle" ∧ y.cls ≠ "java/lang/invoke/VarHandle" ∧ (parseMethodDescriptor y.desc).map (fun d => d.parameters.length) = some As.length))
    (hroom : rmy.frames + 1 ≤ rm.frames ∧ 8 + (mL + 11) + rmy.locals ≤ rm.locals) (hcells : k + rmy.cells ≤ rm.cells ∧ n + rmy.slots ≤ rm.slots)
    (hst : (st.map fun v => v.category).sum ≤ 8) (hd : decode cc pc = .ok (.invokestatic ix, 3)) {ops : List Value} (hops : ops = As.reverse ++ st)
    (kk : ∀ r w1, Pst r w1 → jJ K (k + rmy.cells) (n + rmy.slots) (pc + 3) lo (r.toList ++ st) (wr ++ w1)) : jJ K k n pc lo ops ws := by
  subst hops
  refine j_runF C isC isR hC hR hnC hnR hdis (fun H locs ls hP hD hS hl hF => ?_) kk
  exact va_runS (As := As) (rest := st) (g := F0 K.2.1.1 pc ls (As.reverse ++ st)) ⟨C.1, C.2.1, C.2.2.2.2.2.2.1, C.2.2.1, C.2.2.2.1⟩ (hM H.size) (cwS As.length C.2.2.2.1 hG rfl rfl rfl ⟨hown, hn⟩ (by rw [C.2.2.2.2.2.2.2.2.1]; exact hroom))
    ⟨jPc_blind, fun U hU hW => ⟨rfl, by rw [hU], by rw [hU]; exact hP, va_K.moved hW.alike C.2.2.2.2.1, hD.weaken (fun _ _ _ _ => trivial)⟩⟩ rfl rfl hl.1 rfl (lv_room hst) hd (by rw [C.2.2.2.2.2.2.2.2.1]; exact hcells)
theorem j_callSW (C : jC cc own Y rm nL K) (X : jX K) {y : MethodName} {cy : ByteArray} {mL ix : Nat} {ret : Option FieldType} {hh : List (Nat × Nat × Nat × Nat)} {rmy : Room} (As : List Value) {Pst : jp_T} {wc wr : va_W} (isC isR : List Nat)
    (hM : MW K.1.2.1 y cy mL ret hh rmy K.2.2.2.1 Y As wc Pst) (hC : isC.map (fun i => ws[i]?) = wc.map some) (hR : isR.map (fun i => ws[i]?) = wr.map some) (hnC : va_nd isC = true) (hnR : va_nd isR = true) (hdis : ∀ i ∈ isR, i ∉ isC)
    (hG : GoodIn wG (va_wsS own ix y (Cond.codeWith y cy mL ret hh :: wG)))
    (hn : (y.cls ≠ "java/lang/invoke/MethodHandle" ∧ y.cls ≠ "java/lang/invoke/VarHandle" ∧ (parseMethodDescriptor y.desc).map (fun d => d.parameters.length) = some As.length))
    (hroom : rmy.frames + 1 ≤ rm.frames ∧ 8 + (mL + 11) + rmy.locals ≤ rm.locals) (hcells : k + rmy.cells ≤ rm.cells ∧ n + rmy.slots ≤ rm.slots)
    (hst : (st.map fun v => v.category).sum ≤ 8) (hd : decode cc pc = .ok (.invokestatic ix, 3)) {ops : List Value} (hops : ops = As.reverse ++ st)
    (kk : ∀ r w1, Pst r w1 → jJ K (k + rmy.cells) (n + rmy.slots) (pc + 3) lo (r.toList ++ st) (wr ++ w1)) : jJ K k n pc lo ops ws := by
  subst hops
  refine j_runF C isC isR hC hR hnC hnR hdis (fun H locs ls hP hD hS hl hF => ?_) kk
  exact vx_runSW (As := As) (rest := st) (g := F0 K.2.1.1 pc ls (As.reverse ++ st)) ⟨C.1, C.2.1, C.2.2.2.2.2.2.1, C.2.2.1, C.2.2.2.1⟩ (hM H.size) (vx_cwSW As.length C.2.2.2.1 hG rfl rfl rfl hn (by rw [C.2.2.2.2.2.2.2.2.1]; exact hroom))
    ⟨jPx_blind, fun U hU hW => ⟨rfl, ⟨by rw [hU], by rw [hU]; exact hP, va_K.moved hW.alike C.2.2.2.2.1, hD.weaken (fun _ _ _ _ => trivial)⟩, xF_call X hS hU hW hF⟩⟩ rfl rfl hl.1 rfl (lv_room hst) hd (by rw [C.2.2.2.2.2.2.2.2.1]; exact hcells)
end JX
