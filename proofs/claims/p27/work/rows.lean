section
/-- a private method of a class that the tables say can be made, by its rows of tables_1 -/
def lw_okq (q : MethodName × Nat) : Prop := (q.1.cls ≠ "java/lang/invoke/MethodHandle" ∧ q.1.cls ≠ "java/lang/invoke/VarHandle") ∧ Cond.instantiable q.1.cls q.2 ∈ tables_1 ∧ Cond.privateMethod q.1 ∈ tables_1 ∧ Cond.instanceMethod q.1 ∈ tables_1
theorem lw_p0 : lw_okq (⟨"TowerBench", "lay", "(II)V"⟩, 16) := ⟨⟨by decide +kernel, by decide +kernel⟩, List.mem_of_getElem? (i := 10) (by decide +kernel), List.mem_of_getElem? (i := 31) (by decide +kernel), List.mem_of_getElem? (i := 32) (by decide +kernel)⟩
theorem lw_p1 : lw_okq (⟨"java/lang/Throwable", "fillInStackTrace", "(I)Ljava/lang/Throwable;"⟩, 6) := ⟨⟨by decide +kernel, by decide +kernel⟩, List.mem_of_getElem? (i := 150) (by decide +kernel), List.mem_of_getElem? (i := 148) (by decide +kernel), List.mem_of_getElem? (i := 149) (by decide +kernel)⟩
theorem lw_p2 : lw_okq (⟨"TowerBench", "isDisk", "(I)Z"⟩, 16) := ⟨⟨by decide +kernel, by decide +kernel⟩, List.mem_of_getElem? (i := 10) (by decide +kernel), List.mem_of_getElem? (i := 194) (by decide +kernel), List.mem_of_getElem? (i := 195) (by decide +kernel)⟩
theorem lw_p3 : lw_okq (⟨"TowerBench", "isPeg", "(I)Z"⟩, 16) := ⟨⟨by decide +kernel, by decide +kernel⟩, List.mem_of_getElem? (i := 10) (by decide +kernel), List.mem_of_getElem? (i := 198) (by decide +kernel), List.mem_of_getElem? (i := 199) (by decide +kernel)⟩
theorem lw_p4 : lw_okq (⟨"TowerBench", "pegIn", "(II)I"⟩, 16) := ⟨⟨by decide +kernel, by decide +kernel⟩, List.mem_of_getElem? (i := 10) (by decide +kernel), List.mem_of_getElem? (i := 234) (by decide +kernel), List.mem_of_getElem? (i := 235) (by decide +kernel)⟩
theorem lw_p5 : lw_okq (⟨"TowerBench", "isPossible", "(II)Z"⟩, 16) := ⟨⟨by decide +kernel, by decide +kernel⟩, List.mem_of_getElem? (i := 10) (by decide +kernel), List.mem_of_getElem? (i := 285) (by decide +kernel), List.mem_of_getElem? (i := 286) (by decide +kernel)⟩
theorem lw_p6 : lw_okq (⟨"TowerBench", "readTops", "(I)V"⟩, 16) := ⟨⟨by decide +kernel, by decide +kernel⟩, List.mem_of_getElem? (i := 10) (by decide +kernel), List.mem_of_getElem? (i := 289) (by decide +kernel), List.mem_of_getElem? (i := 290) (by decide +kernel)⟩
theorem lw_p7 : lw_okq (⟨"TowerBench", "fits", "(II)Z"⟩, 16) := ⟨⟨by decide +kernel, by decide +kernel⟩, List.mem_of_getElem? (i := 10) (by decide +kernel), List.mem_of_getElem? (i := 293) (by decide +kernel), List.mem_of_getElem? (i := 294) (by decide +kernel)⟩
theorem lw_p8 : lw_okq (⟨"TowerBench", "behindMove", "(III)I"⟩, 16) := ⟨⟨by decide +kernel, by decide +kernel⟩, List.mem_of_getElem? (i := 10) (by decide +kernel), List.mem_of_getElem? (i := 297) (by decide +kernel), List.mem_of_getElem? (i := 298) (by decide +kernel)⟩
theorem lw_p9 : lw_okq (⟨"TowerBench", "keepsRule", "(I)Z"⟩, 16) := ⟨⟨by decide +kernel, by decide +kernel⟩, List.mem_of_getElem? (i := 10) (by decide +kernel), List.mem_of_getElem? (i := 301) (by decide +kernel), List.mem_of_getElem? (i := 302) (by decide +kernel)⟩
theorem lw_p10 : lw_okq (⟨"TowerBench", "diskBelow", "(II)I"⟩, 16) := ⟨⟨by decide +kernel, by decide +kernel⟩, List.mem_of_getElem? (i := 10) (by decide +kernel), List.mem_of_getElem? (i := 305) (by decide +kernel), List.mem_of_getElem? (i := 306) (by decide +kernel)⟩
theorem lw_p11 : lw_okq (⟨"TowerBench", "mayLieOn", "(II)Z"⟩, 16) := ⟨⟨by decide +kernel, by decide +kernel⟩, List.mem_of_getElem? (i := 10) (by decide +kernel), List.mem_of_getElem? (i := 309) (by decide +kernel), List.mem_of_getElem? (i := 310) (by decide +kernel)⟩
theorem lw_p12 : lw_okq (⟨"TowerBench", "wayFrom", "(I)I"⟩, 16) := ⟨⟨by decide +kernel, by decide +kernel⟩, List.mem_of_getElem? (i := 10) (by decide +kernel), List.mem_of_getElem? (i := 333) (by decide +kernel), List.mem_of_getElem? (i := 334) (by decide +kernel)⟩
theorem lw_p13 : lw_okq (⟨"TowerBench", "search", "(I[IZ)I"⟩, 16) := ⟨⟨by decide +kernel, by decide +kernel⟩, List.mem_of_getElem? (i := 10) (by decide +kernel), List.mem_of_getElem? (i := 337) (by decide +kernel), List.mem_of_getElem? (i := 338) (by decide +kernel)⟩
theorem lw_p14 : lw_okq (⟨"TowerBench", "isNumber", "(I)Z"⟩, 16) := ⟨⟨by decide +kernel, by decide +kernel⟩, List.mem_of_getElem? (i := 10) (by decide +kernel), List.mem_of_getElem? (i := 341) (by decide +kernel), List.mem_of_getElem? (i := 342) (by decide +kernel)⟩
theorem lw_p15 : lw_okq (⟨"TowerBench", "searchFrom", "(I[IZI)I"⟩, 16) := ⟨⟨by decide +kernel, by decide +kernel⟩, List.mem_of_getElem? (i := 10) (by decide +kernel), List.mem_of_getElem? (i := 345) (by decide +kernel), List.mem_of_getElem? (i := 346) (by decide +kernel)⟩
def lw_privs_1 : List (MethodName × Nat) := [(⟨"TowerBench", "lay", "(II)V"⟩, 16), (⟨"java/lang/Throwable", "fillInStackTrace", "(I)Ljava/lang/Throwable;"⟩, 6), (⟨"TowerBench", "isDisk", "(I)Z"⟩, 16), (⟨"TowerBench", "isPeg", "(I)Z"⟩, 16), (⟨"TowerBench", "pegIn", "(II)I"⟩, 16), (⟨"TowerBench", "isPossible", "(II)Z"⟩, 16), (⟨"TowerBench", "readTops", "(I)V"⟩, 16), (⟨"TowerBench", "fits", "(II)Z"⟩, 16), (⟨"TowerBench", "behindMove", "(III)I"⟩, 16), (⟨"TowerBench", "keepsRule", "(I)Z"⟩, 16), (⟨"TowerBench", "diskBelow", "(II)I"⟩, 16), (⟨"TowerBench", "mayLieOn", "(II)Z"⟩, 16), (⟨"TowerBench", "wayFrom", "(I)I"⟩, 16), (⟨"TowerBench", "search", "(I[IZ)I"⟩, 16), (⟨"TowerBench", "isNumber", "(I)Z"⟩, 16), (⟨"TowerBench", "searchFrom", "(I[IZI)I"⟩, 16)]
theorem lw_r1 : ∀ q ∈ lw_privs_1, lw_okq q := List.forall_mem_cons.mpr ⟨lw_p0, List.forall_mem_cons.mpr ⟨lw_p1, List.forall_mem_cons.mpr ⟨lw_p2, List.forall_mem_cons.mpr ⟨lw_p3, List.forall_mem_cons.mpr ⟨lw_p4, List.forall_mem_cons.mpr ⟨lw_p5, List.forall_mem_cons.mpr ⟨lw_p6, List.forall_mem_cons.mpr ⟨lw_p7, List.forall_mem_cons.mpr ⟨lw_p8, List.forall_mem_cons.mpr ⟨lw_p9, List.forall_mem_cons.mpr ⟨lw_p10, List.forall_mem_cons.mpr ⟨lw_p11, List.forall_mem_cons.mpr ⟨lw_p12, List.forall_mem_cons.mpr ⟨lw_p13, List.forall_mem_cons.mpr ⟨lw_p14, List.forall_mem_cons.mpr ⟨lw_p15, fun _ h => absurd h List.not_mem_nil⟩⟩⟩⟩⟩⟩⟩⟩⟩⟩⟩⟩⟩⟩⟩⟩
theorem lw_p16 : lw_okq (⟨"TowerBench", "isStep", "(IIZ)Z"⟩, 16) := ⟨⟨by decide +kernel, by decide +kernel⟩, List.mem_of_getElem? (i := 10) (by decide +kernel), List.mem_of_getElem? (i := 349) (by decide +kernel), List.mem_of_getElem? (i := 350) (by decide +kernel)⟩
theorem lw_p17 : lw_okq (⟨"TowerBench", "isAnyBarred", "()Z"⟩, 16) := ⟨⟨by decide +kernel, by decide +kernel⟩, List.mem_of_getElem? (i := 10) (by decide +kernel), List.mem_of_getElem? (i := 394) (by decide +kernel), List.mem_of_getElem? (i := 395) (by decide +kernel)⟩
theorem lw_p18 : lw_okq (⟨"TowerBench", "gather", "(III)I"⟩, 16) := ⟨⟨by decide +kernel, by decide +kernel⟩, List.mem_of_getElem? (i := 10) (by decide +kernel), List.mem_of_getElem? (i := 402) (by decide +kernel), List.mem_of_getElem? (i := 403) (by decide +kernel)⟩
def lw_privs_2 : List (MethodName × Nat) := [(⟨"TowerBench", "isStep", "(IIZ)Z"⟩, 16), (⟨"TowerBench", "isAnyBarred", "()Z"⟩, 16), (⟨"TowerBench", "gather", "(III)I"⟩, 16)]
theorem lw_r2 : ∀ q ∈ lw_privs_2, lw_okq q := List.forall_mem_cons.mpr ⟨lw_p16, List.forall_mem_cons.mpr ⟨lw_p17, List.forall_mem_cons.mpr ⟨lw_p18, fun _ h => absurd h List.not_mem_nil⟩⟩⟩
def lw_privs : List (MethodName × Nat) := lw_privs_1 ++ (lw_privs_2)
def lw_tbl : List Cond := k2_sels lw_privs ++ tables_1
theorem lw_privs_ok : ∀ q ∈ lw_privs, lw_okq q := by
  show ∀ q ∈ lw_privs_1 ++ (lw_privs_2), lw_okq q
  exact List.forall_mem_append.mpr ⟨lw_r1, lw_r2⟩
end
section
/-! ===== BEGIN words of one list among another's, by their places ===== -/
theorem goodIn_r {big : List Cond} (ws : List Cond) (ps : List Nat) (hp : ws = ps.filterMap (fun i => big[i]?)) (h : ws.all goodWord = true) : GoodIn big ws := by
  intro w hw
  have h1 := List.all_eq_true.mp h w hw
  rw [hp] at hw
  obtain ⟨i, -, hi⟩ := List.mem_filterMap.mp hw
  have hm : w ∈ big := by first | exact List.mem_of_getElem? hi | exact List.getElem?_mem hi
  exact ⟨hm, good_of_word h1⟩
theorem goodIn_app {big a b : List Cond} (ha : GoodIn big a) (hb : GoodIn big b) : GoodIn big (a ++ b) := fun w h => (List.mem_append.mp h).elim (ha w) (hb w)
theorem goodIn_ca {big a b : List Cond} {c : Cond} (ha : GoodIn big (c :: a)) (hb : GoodIn big b) : GoodIn big (c :: (a ++ b)) := fun w h => (List.mem_cons.mp h).elim (fun e => ha w (List.mem_cons.mpr (Or.inl e))) (fun h => (List.mem_append.mp h).elim (fun h => ha w (List.mem_cons.mpr (Or.inr h))) (hb w))
theorem goodIn_sub {big ws : List Cond} (hm : ∀ w ∈ ws, w ∈ big) (h : ws.all goodWord = true) : GoodIn big ws := fun w hw => ⟨hm w hw, good_of_word (List.all_eq_true.mp h w hw)⟩
/-! ===== END ===== -/

/-! ===== BEGIN exceptions that leave a method, and their catching by the caller (launches without stack traces) ===== -/
section VXA
/-! The laws vx_back, vx_callV, vx_callS, vx_callSW, vx_throw0, vx_throwS follow proofs of the library, with one case more: JvmDerived/Free/Laws.lean (Back.of_free), Shelf42/LK1.lean (callV, callS), Shelf/KitTraced.lean (throwNew0V, throwNewS). -/
/-- where a method has thrown q: the class by its name, the cell, what was written, the world -/
def vx_T (XC : String → State → State → Prop) (st : State) (q : Addr) (t : State) (mc ms : Nat) (free : Addr → Prop) : Prop :=
  ∃ (E : String) (ce : Cell) (L : List Loc), XC E st t ∧ t.heap[q]? = some ce ∧ ce.vm = .none ∧ st.vm.findClass E = some ce.cls ∧ st.WarmedH t.vm ∧ st.sameButNew ({ t with vm := st.vm } : State) L mc ms ∧ ∀ z ∈ L, free z.base
def vx_Q (Qc : Array Value → State → Outcome → State → Prop) (XC : String → State → State → Prop) (mc ms : Nat) (free : Addr → Prop) : Array Value → State → Outcome → State → Prop := fun a st o t =>
  (Qc a st o t ∧ ∃ L, FrameEnd st o t L mc ms ∧ ∀ q ∈ L, free q.base) ∨ ∃ q, o = .threw q ∧ vx_T XC st q t mc ms free
/-- a callee that returns or throws -/
def vx_Met (l : Launch) (y : MethodName) (ws : List Cond) (rm : Room) (Pc : Array Value → State → Prop) (Qc : Array Value → State → Outcome → State → Prop) (XC : String → State → State → Prop) (mc ms : Nat) (free : Addr → Prop) : Prop :=
  MetFree l y (headSpec ws rm) Pc (fun _ _ _ _ _ => True) (vx_Q Qc XC mc ms free)
def vx_Post (XC : String → State → State → Prop) (mc ms : Nat) (free : Addr → Prop) : Pt → Array Value → Addr → Pt → Prop := fun A a q B =>
  ∃ (g : JFrame) (mk : MethodId) (t : State) (L : List Loc) (E : String) (ce : Cell), B.U.heap = t.heap ∧ B.U.vm = t.vm ∧ XC E (A.U.calling g mk a) t ∧ t.heap[q]? = some ce ∧ ce.vm = .none ∧ A.U.vm.findClass E = some ce.cls ∧ B.locs = A.locs ++ L ∧ (∀ z ∈ L, free z.base) ∧ B.cells = A.cells + mc ∧ B.slots = A.slots + ms
def vx_Back (l : Launch) (R : Room) (p : Program) (e : Env) (below : List Frame) (s : State) (sargs : Array Value) (y : MethodName) (len W9 : Nat)
    (Pre : Pt → Array Value → Prop) (Post : Pt → Array Value → Option Value → Pt → Prop) (PostX : Pt → Array Value → Addr → Pt → Prop) : Prop :=
  ∀ (m : MethodId) (meth : Method) (c : Code) (A : Pt) (g : JFrame) (ig : Instr) (mk : MethodId) (a : Array Value),
    Stand p l e R s m sargs below meth c A.U A.locs A.cells A.slots → g.method = m → g.locals.size = c.maxLocals → decode c.code g.pc = .ok (ig, len) →
    2 * g.monitorRoom + (g.stack.map fun v => v.category).sum ≤ W9 → A.U.methodNamed? y = some mk → Pre A a →
    (∃ (v : Option Value) (B : Pt), Stand p l e R s m sargs below meth c B.U B.locs B.cells B.slots ∧ Post A a v B ∧
      Steps p.tables e below (doInvoke e (A.U.setTop g) [] mk a).1 (B.U.setTop { g with pc := g.pc + len, stack := v.toList ++ g.stack })) ∨
    (∃ (q : Addr) (B : Pt), Stand p l e R s m sargs below meth c B.U B.locs B.cells B.slots ∧ PostX A a q B ∧
      Steps p.tables e below (doInvoke e (A.U.setTop g) [] mk a).1 ((B.U.setTop g).pushFrame (.throwing q)))
section Payer
variable {l : Launch} {R : Room} {p : Program} {e : Env} {below : List Frame} {s : State} {sargs : Array Value} {y : MethodName} {len W9 : Nat}
theorem vx_back {ws : List Cond} {rm : Room} {Pc : Array Value → State → Prop} {Qc : Array Value → State → Outcome → State → Prop} {XC : String → State → State → Prop} {mc ms : Nat} {free : Addr → Prop} {bytes : ByteArray} {maxL : Nat} {ret : Option FieldType}
    (hM : vx_Met l y ws rm Pc Qc XC mc ms free) (hblind : FrameBlind Pc) (hrc : rm.cells = mc) (hrs : rm.slots = ms)
    (hframes : rm.frames + 1 ≤ R.frames) (hlocals : W9 + (maxL + 11) + rm.locals ≤ R.locals)
    (hws : ∀ w ∈ ws, ∀ a' U, s.WarmedH U.vm → w.before a' U = true) (hcode : Cond.code y bytes maxL ret ∈ ws) (hinit : ∀ a' U, s.WarmedH U.vm → (Cond.initialized y.cls).before a' U = true) :
    vx_Back l R p e below s sargs y len W9 (PreOf R mc ms Pc) (PostOf Qc mc ms free) (vx_Post XC mc ms free) := by
  intro m meth c A g ig mk a X hg hsize hdg hW hn hp
  have h1 : (headSpec ws rm).pre.before a A.U = true := atoms_intro fun w hw => hws w hw _ _ X.warmed
  have h2 : (Cond.code y bytes maxL ret).before a A.U = true := hws _ hcode _ _ X.warmed
  have h3 : (Cond.initialized y.cls).before a A.U = true := hinit _ _ X.warmed
  have h4 : A.cells + (headSpec ws rm).room.cells ≤ R.cells := by rw [show (headSpec ws rm).room.cells = mc from hrc]; exact hp.1
  have h5 : A.slots + (headSpec ws rm).room.slots ≤ R.slots := by rw [show (headSpec ws rm).room.slots = ms from hrs]; exact hp.2.1
  have hPc : Pc a (A.U.calling g mk a) := hblind _ _ _ _ hp.2.2
  obtain ⟨U, Ls, c0, s0⟩ := A
  dsimp only [Pt.U, Pt.locs, Pt.cells, Pt.slots] at h1 h2 h3 h4 h5 X hn hPc ⊢
  obtain ⟨methY, cY, hmY, hcY, -, hlY, -, -, -, -⟩ := Cond.code_spec hn h2
  obtain ⟨kY, hkY, -⟩ := className_of_methodNamed hn
  have hinitY : kY.init = .initialized := Cond.initialized_spec (findClass_of_methodNamed hn) hkY h3
  have h : At U g.method c below := by rw [hg]; exact X.here
  have hlocals9 : W9 + (maxL + 11) + (headSpec ws rm).room.locals ≤ R.locals := hlocals
  have happ : (headSpec ws rm).appliesLoose y e.platform (U.calling g mk a) = true :=
    Spec.appliesLoose_calling (g := g) h hdg hn hkY hinitY
      (X.room_calling (g := g) (R' := (headSpec ws rm).room) hsize hmY hcY hframes (by rw [hlY]; omega) h4 h5) h1
  obtain ⟨mid, hmid⟩ := h.above
  have hfr : (U.setTop g).frames = (.java g :: mid) ++ below := by rw [State.frames_setTop' g h.top, hmid]; rfl
  obtain ⟨o, s₂, hsteps, -, hend, hq⟩ := Steps.callFree hM p X.admits X.cas X.clock (acts := []) hfr happ hPc trivial
  have hq' : vx_Q Qc XC mc ms free a (U.calling g mk a) o s₂ := hq
  rw [State.frames_setTop' g h.top] at hend
  obtain ⟨g₀, hg0⟩ := Option.isSome_iff_exists.mp h.top
  obtain ⟨r, hr⟩ := State.topJava?_eq_some.mp hg0
  have hr' : (({ U with heap := s₂.heap, slotsUsed := s₂.slotsUsed } : State).setVm s₂.vm).frames = .java g₀ :: r := hr
  rcases hq' with ⟨hqc, L, hfe, hL⟩ | ⟨q, rfl, E, ce, L, hx, hce, hcv, hcl, hW₂, hsm, hL⟩
  · obtain ⟨⟨v, rfl⟩, hW₂, e2, q2, q3, q4, q5, q6⟩ := id hfe
    have e3 : s₂ = ({ (U.calling g mk a).setFrames s₂.frames with heap := s₂.heap, slotsUsed := s₂.slotsUsed } : State).setVm s₂.vm := by
      have : s₂ = ({ s₂ with vm := (U.calling g mk a).vm } : State).setVm s₂.vm := rfl
      rw [e2] at this
      exact this
    obtain ⟨c₂, i₂, len₂, hc₂, hd₂, hf₂⟩ := hend
    have hW' : U.WarmedH s₂.vm := hW₂
    have hcc : c₂ = c := by
      have h1 : s₂.code? g.method = U.code? g.method := by
        rw [State.code?_eq, State.code?_eq, hW'.alike.method?]
      exact Option.some.inj (hc₂.symm.trans (h1.trans h.code))
    subst hcc
    have hlen : len₂ = len := by rw [hdg] at hd₂; cases hd₂; rfl
    subst hlen
    have hs₂ : s₂ = (({ U with heap := s₂.heap, slotsUsed := s₂.slotsUsed } : State).setVm s₂.vm).setTop { g with pc := g.pc + len₂, stack := v.toList ++ g.stack } := by
      refine e3.trans ?_
      rw [hf₂, State.calling_eq h.top, State.setFrames_setFrames, State.setTop_of_frames _ hr', hr]
      rfl
    have hsame : U.sameButNew ({ U with heap := s₂.heap, slotsUsed := s₂.slotsUsed } : State) L mc ms := by
      refine ⟨?_, q2, q3, q4, q5, q6⟩
      obtain ⟨t, ht, -⟩ := State.frames_cons hr
      show ({ U with heap := s₂.heap, slotsUsed := s₂.slotsUsed } : State) = { U.setFrames U.frames with heap := s₂.heap, slotsUsed := s₂.slotsUsed }
      rw [State.setFrames_self ht]
    subst hg
    refine Or.inl ⟨v, ⟨(({ U with heap := s₂.heap, slotsUsed := s₂.slotsUsed } : State).setVm s₂.vm), Ls ++ L, c0 + mc, s0 + ms⟩,
      ⟨X.admits, X.cas, X.clock, X.frames, X.room, X.hears, X.method, X.code, (X.here.setHeapUsed s₂.heap s₂.slotsUsed).setVm hW'.alike, X.tail, State.WarmedH.trans X.warmed hW', X.limits, X.bytes, X.same.trans (hsame.setVm s.vm)⟩,
      ⟨g, mk, s₂, L, rfl, rfl, hqc, rfl, hL, rfl, rfl⟩, ?_⟩
    show Steps p.tables e below _ ((({ U with heap := s₂.heap, slotsUsed := s₂.slotsUsed } : State).setVm s₂.vm).setTop { g with pc := g.pc + len₂, stack := v.toList ++ g.stack })
    rw [← hs₂]
    exact hsteps
  · obtain ⟨e2, q2, q3, q4, q5, q6⟩ := id hsm
    have e3 : s₂ = ({ (U.calling g mk a).setFrames s₂.frames with heap := s₂.heap, slotsUsed := s₂.slotsUsed } : State).setVm s₂.vm := by
      have : s₂ = ({ s₂ with vm := (U.calling g mk a).vm } : State).setVm s₂.vm := rfl
      rw [e2] at this
      exact this
    have hf₂ : s₂.frames = .throwing q :: .java g :: U.frames.tail := hend
    have hW' : U.WarmedH s₂.vm := hW₂
    have hs₂ : s₂ = ((({ U with heap := s₂.heap, slotsUsed := s₂.slotsUsed } : State).setVm s₂.vm).setTop g).pushFrame (.throwing q) := by
      refine e3.trans ?_
      rw [hf₂, State.calling_eq h.top, State.setFrames_setFrames, State.pushFrame, State.frames_setTop _ hr', State.setTop_of_frames _ hr', State.setFrames_setFrames, hr]
      rfl
    have hsame : U.sameButNew ({ U with heap := s₂.heap, slotsUsed := s₂.slotsUsed } : State) L mc ms := by
      refine ⟨?_, q2, q3, q4, q5, q6⟩
      obtain ⟨t, ht, -⟩ := State.frames_cons hr
      show ({ U with heap := s₂.heap, slotsUsed := s₂.slotsUsed } : State) = { U.setFrames U.frames with heap := s₂.heap, slotsUsed := s₂.slotsUsed }
      rw [State.setFrames_self ht]
    subst hg
    refine Or.inr ⟨q, ⟨(({ U with heap := s₂.heap, slotsUsed := s₂.slotsUsed } : State).setVm s₂.vm), Ls ++ L, c0 + mc, s0 + ms⟩,
      ⟨X.admits, X.cas, X.clock, X.frames, X.room, X.hears, X.method, X.code, (X.here.setHeapUsed s₂.heap s₂.slotsUsed).setVm hW'.alike, X.tail, State.WarmedH.trans X.warmed hW', X.limits, X.bytes, X.same.trans (hsame.setVm s.vm)⟩,
      ⟨g, mk, s₂, L, E, ce, rfl, rfl, hx, hce, hcv, hcl, rfl, hL, rfl, rfl⟩, ?_⟩
    show Steps p.tables e below _ (((({ U with heap := s₂.heap, slotsUsed := s₂.slotsUsed } : State).setVm s₂.vm).setTop g).pushFrame (.throwing q))
    rw [← hs₂]
    exact hsteps
end Payer
section Calls
variable {p : Program} {l : Launch} {e : Env} {R : Room} {s : State} {m : MethodId} {args : Array Value} {below : List Frame} {meth : Method} {c : Code} {T : State} {locs : List Loc} {cells slots : Nat}
theorem vx_callV (X : Stand p l e R s m args below meth c T locs cells slots) (hexec : p.tables.exec = Jvm.exec) {own C : String} {index : Nat} {y : MethodName} {bytes : ByteArray} {maxL : Nat} {ret : Option FieldType}
    (hown : s.vm.findClass own = some m.cls) (hlink : (Cond.methodLink own index y).before args s = true) (hinst : (Cond.instanceMethod y).before args s = true) (hsel : (Cond.selects C y y).before args s = true)
    (hcode : (Cond.code y bytes maxL ret).before args s = true) (hy : y.cls ≠ "java/lang/invoke/MethodHandle" ∧ y.cls ≠ "java/lang/invoke/VarHandle")
    {W9 : Nat} {Pre : Pt → Array Value → Prop} {Post : Pt → Array Value → Option Value → Pt → Prop} {PostX : Pt → Array Value → Addr → Pt → Prop} (hK : vx_Back l R p e below s args y 3 W9 Pre Post PostX)
    {b : Addr} {cellB : Cell} (hcell : T.heap[b]? = some cellB) (hobj : cellB.vm.isStatics = false) (hcls : s.vm.findClass C = some cellB.cls)
    {g : JFrame} (hg : g.method = m) (hsize : g.locals.size = c.maxLocals) {argsL rest : List Value} (hlen : ∀ sig, parseMethodDescriptor y.desc = some sig → argsL.length = sig.parameters.length)
    (hstack : g.stack = argsL.reverse ++ .ref b :: rest) (hW : 2 * g.monitorRoom + (rest.map fun v => v.category).sum ≤ W9) (hdg : decode c.code g.pc = .ok (.invokevirtual index, 3))
    (hpre : ∀ vm₁, s.WarmedH vm₁ → Pre ⟨T.setVm vm₁, locs, cells, slots⟩ (Value.ref b :: argsL).toArray) :
    (∃ (v : Option Value) (vm₁ : Vm) (B : Pt), s.WarmedH vm₁ ∧ Stand p l e R s m args below meth c B.U B.locs B.cells B.slots ∧ Post ⟨T.setVm vm₁, locs, cells, slots⟩ (Value.ref b :: argsL).toArray v B ∧
      ∀ target, Steps p.tables e below (B.U.setTop { g with pc := g.pc + 3, stack := v.toList ++ rest }) target → Steps p.tables e below (T.setTop g) target) ∨
    (∃ (q : Addr) (vm₁ : Vm) (B : Pt), s.WarmedH vm₁ ∧ Stand p l e R s m args below meth c B.U B.locs B.cells B.slots ∧ PostX ⟨T.setVm vm₁, locs, cells, slots⟩ (Value.ref b :: argsL).toArray q B ∧
      Steps p.tables e below (T.setTop g) ((B.U.setTop { g with stack := rest }).pushFrame (.throwing q))) := by
  obtain ⟨mk, methM, hnamed, hmethM, hstM, habM⟩ := Cond.instanceMethod_spec hinst
  obtain ⟨methM', cM, hmethM', -, -, -, -, -, -, hsigM⟩ := Cond.code_spec hnamed hcode
  cases hmethM.symm.trans hmethM'
  obtain ⟨c2, r2, m2, q1, q2, q3, q4, kP, hkP, hkPi⟩ := Cond.selects_spec hsel
  cases hcls.symm.trans q1
  cases (State.methodFound?_of_named hnamed hy).symm.trans q2
  cases hnamed.symm.trans q3
  have hselP : selectMethod e.platform s.vm cellB.cls mk = .method mk := by rw [Launch.admits_selectMethod X.admits]; exact q4
  obtain ⟨vm₁, X₁, hstep₁⟩ := X.invokevirtual hexec hown hlink hnamed hmethM hstM hkP hkPi hy (a := b) (cell := cellB) hcell
    (fun z h => by rw [h] at hobj; cases hobj) hselP hmethM habM hkP hkPi (g := g) hg (argsL := argsL) (rest := rest) (hlen _ hsigM) hstack hdg
  rcases hK m meth c ⟨T.setVm vm₁, locs, cells, slots⟩ { g with stack := rest } (.invokevirtual index) mk (Value.ref b :: argsL).toArray X₁ hg hsize hdg hW (X₁.named hnamed) (hpre vm₁ X₁.warmed) with ⟨v, B, X', hpost, hsteps⟩ | ⟨q, B, X', hpost, hsteps⟩
  · exact Or.inl ⟨v, vm₁, B, X₁.warmed, X', hpost, fun target h => hstep₁ _ fun acts => by rw [doInvoke_state]; exact hsteps.trans h⟩
  · exact Or.inr ⟨q, vm₁, B, X₁.warmed, X', hpost, hstep₁ _ fun acts => by rw [doInvoke_state]; exact hsteps⟩
theorem vx_callS (X : Stand p l e R s m args below meth c T locs cells slots) (hexec : p.tables.exec = Jvm.exec) {own : String} {index : Nat} {y : MethodName} {bytes : ByteArray} {maxL : Nat} {ret : Option FieldType}
    (hown : s.vm.findClass own = some m.cls) (hlink : (Cond.methodLink own index y).before args s = true) (hstat : (Cond.static y).before args s = true) (hinit : (Cond.initialized y.cls).before args s = true)
    (hcode : (Cond.code y bytes maxL ret).before args s = true) (hy : y.cls ≠ "java/lang/invoke/MethodHandle" ∧ y.cls ≠ "java/lang/invoke/VarHandle")
    {W9 : Nat} {Pre : Pt → Array Value → Prop} {Post : Pt → Array Value → Option Value → Pt → Prop} {PostX : Pt → Array Value → Addr → Pt → Prop} (hK : vx_Back l R p e below s args y 3 W9 Pre Post PostX)
    {g : JFrame} (hg : g.method = m) (hsize : g.locals.size = c.maxLocals) {argsL rest : List Value} (hlen : ∀ sig, parseMethodDescriptor y.desc = some sig → argsL.length = sig.parameters.length)
    (hstack : g.stack = argsL.reverse ++ rest) (hW : 2 * g.monitorRoom + (rest.map fun v => v.category).sum ≤ W9) (hdg : decode c.code g.pc = .ok (.invokestatic index, 3))
    (hpre : ∀ vm₁, s.WarmedH vm₁ → Pre ⟨T.setVm vm₁, locs, cells, slots⟩ argsL.toArray) :
    (∃ (v : Option Value) (vm₁ : Vm) (B : Pt), s.WarmedH vm₁ ∧ Stand p l e R s m args below meth c B.U B.locs B.cells B.slots ∧ Post ⟨T.setVm vm₁, locs, cells, slots⟩ argsL.toArray v B ∧
      ∀ target, Steps p.tables e below (B.U.setTop { g with pc := g.pc + 3, stack := v.toList ++ rest }) target → Steps p.tables e below (T.setTop g) target) ∨
    (∃ (q : Addr) (vm₁ : Vm) (B : Pt), s.WarmedH vm₁ ∧ Stand p l e R s m args below meth c B.U B.locs B.cells B.slots ∧ PostX ⟨T.setVm vm₁, locs, cells, slots⟩ argsL.toArray q B ∧
      Steps p.tables e below (T.setTop g) ((B.U.setTop { g with stack := rest }).pushFrame (.throwing q))) := by
  obtain ⟨mk, hnamed⟩ := Cond.code_named hcode
  obtain ⟨methM, cM, hmethM, -, -, -, -, -, -, hsigM⟩ := Cond.code_spec hnamed hcode
  have hstatic : methM.isStatic = true := Cond.static_spec hnamed hmethM hstat
  obtain ⟨kP, hkP, -⟩ := className_of_methodNamed hnamed
  have hinitP : kP.init = .initialized := Cond.initialized_spec (findClass_of_methodNamed hnamed) hkP hinit
  obtain ⟨vm₁, X₁, hstep₁⟩ := X.invokestatic hexec hown hlink hnamed hmethM hstatic hkP hinitP hy (g := g) hg (argsL := argsL) (rest := rest) (hlen _ hsigM) hstack hdg
  rcases hK m meth c ⟨T.setVm vm₁, locs, cells, slots⟩ { g with stack := rest } (.invokestatic index) mk argsL.toArray X₁ hg hsize hdg hW (X₁.named hnamed) (hpre vm₁ X₁.warmed) with ⟨v, B, X', hpost, hsteps⟩ | ⟨q, B, X', hpost, hsteps⟩
  · exact Or.inl ⟨v, vm₁, B, X₁.warmed, X', hpost, fun target h => hstep₁ _ fun acts => by rw [doInvoke_state]; exact hsteps.trans h⟩
  · exact Or.inr ⟨q, vm₁, B, X₁.warmed, X', hpost, hstep₁ _ fun acts => by rw [doInvoke_state]; exact hsteps⟩
end Calls
theorem vx_cls {s : State} {T : State} {vm₁ : Vm} {E : String} {k : ClassId} (hW : s.WarmedH vm₁) (h : (T.setVm vm₁).vm.findClass E = some k) : s.vm.findClass E = some k := by
  have h1 : vm₁.findClass E = some k := h
  rw [hW.alike.findClass] at h1
  exact h1
/-- the method's frame g, with q thrown over it -/
def vx_W (p : Program) (l : Launch) (e : Env) (R : Room) (s : State) (m : MethodId) (args : Array Value) (below : List Frame) (meth : Method) (c : Code) (H : Heap) (locs : List Loc) (cells slots : Nat) (Q : State → Prop) (g : JFrame) (q : Addr) : Prop :=
  ∀ T : State, T.heap = H → Stand p l e R s m args below meth c T locs cells slots → ∃ t, Steps p.tables e below ((T.setTop g).pushFrame (.throwing q)) t ∧ Q t
def vx_Run (p : Program) (l : Launch) (e : Env) (R : Room) (s : State) (m : MethodId) (args : Array Value) (below : List Frame) (meth : Method) (c : Code) (H : Heap) (locs : List Loc) (cells slots mc ms : Nat) (g : JFrame) (rest : List Value) (Qa : State → Outcome → State → Prop) (XC : String → State → State → Prop) (free : Addr → Prop) : Prop :=
  ∀ T : State, T.heap = H → Stand p l e R s m args below meth c T locs cells slots →
    (∃ (v : Option Value) (st₀ t T' : State) (L : List Loc), st₀.heap = H ∧ Stand p l e R s m args below meth c T' (locs ++ L) (cells + mc) (slots + ms) ∧ (∀ q ∈ L, free q.base) ∧ T'.heap = t.heap ∧ T'.vm = t.vm ∧ Qa st₀ (.returned v) t ∧
      Goes p e below T g T' { g with pc := g.pc + 3, stack := v.toList ++ rest }) ∨
    (∃ (q : Addr) (st₀ t T' : State) (L : List Loc) (E : String) (ce : Cell), st₀.heap = H ∧ Stand p l e R s m args below meth c T' (locs ++ L) (cells + mc) (slots + ms) ∧ (∀ z ∈ L, free z.base) ∧ T'.heap = t.heap ∧ T'.vm = t.vm ∧ XC E st₀ t ∧ t.heap[q]? = some ce ∧ ce.vm = .none ∧ s.vm.findClass E = some ce.cls ∧
      Steps p.tables e below (T.setTop g) ((T'.setTop { g with stack := rest }).pushFrame (.throwing q)))
def vx_X {S : Type} (px : S → Prop) (B : String → S → State → Prop) (A : Nat → Prop) : String → State → State → Prop := fun E st t => ∃ u : S, px u ∧ B E u t ∧ va_F A st t
section Runs
variable {p : Program} {l : Launch} {e : Env} {R : Room} {s : State} {m : MethodId} {args : Array Value} {below : List Frame} {meth : Method} {c : Code} {H : Heap} {locs : List Loc} {cells slots : Nat}
variable {y : MethodName} {bytes cc : ByteArray} {maxL nL mc ms n index : Nat} {ret : Option FieldType} {ws : List Cond} {rm : Room} {Pc : Array Value → State → Prop} {Qc : Array Value → State → Outcome → State → Prop} {XC : String → State → State → Prop} {free : Addr → Prop} {Ts : List Cond} {own C : String} {b : Addr} {As rest : List Value} {g : JFrame}
theorem vx_callBack (cb : CallB R s args own index y bytes maxL ret ws rm mc ms n) (hM : vx_Met l y ws rm Pc Qc XC mc ms free) (hbl : FrameBlind Pc) : vx_Back l R p e below s args y 3 8 (PreOf R mc ms Pc) (PostOf Qc mc ms free) (vx_Post XC mc ms free) := by
  obtain ⟨hrc, hrs, hfr, hlo, hws, hcw, -, hini, -⟩ := cb
  exact vx_back (bytes := bytes) (maxL := maxL) (ret := ret) hM hbl hrc hrs hfr hlo hws hcw (fun a' U hW => word_at hW (Or.inl (by first | rfl | simp [Cond.onTables, Cond.keeps, Cond.steady])) hini)
theorem vx_runV (S : CallFix p m c cc nL s args Ts own) (hM : vx_Met l y ws rm Pc Qc XC mc ms free) (cw : CallW R s args own C index y bytes maxL ret ws rm mc ms n) (hp : PreV s H C b Pc As)
    (hg : g.method = m) (hn : As.length = n) (hsize : g.locals.size = nL) (hstack : g.stack = As.reverse ++ .ref b :: rest) (hW : 2 * g.monitorRoom + (rest.map fun v => v.category).sum ≤ 8) (hdg : decode cc g.pc = .ok (.invokevirtual index, 3)) (hf : cells + mc ≤ R.cells ∧ slots + ms ≤ R.slots) :
    vx_Run p l e R s m args below meth c H locs cells slots mc ms g rest (Qc (Value.ref b :: As).toArray) XC free := by
  have hK : vx_Back l R p e below s args y 3 8 (PreOf R mc ms Pc) (PostOf Qc mc ms free) (vx_Post XC mc ms free) := vx_callBack cw.1 hM hp.1
  obtain ⟨⟨-, -, -, -, -, -, hcode, -, hy, hlen, hl⟩, hin, hse⟩ := cw
  obtain ⟨hx, hb, hml, ho, -⟩ := S
  obtain ⟨-, ⟨cellB, hcB, hoB, hclB⟩, hPc⟩ := hp
  intro T hT X
  rcases vx_callV X hx (C := C) (bytes := bytes) (maxL := maxL) (ret := ret) ho hl hin hse hcode hy hK (by rw [hT]; exact hcB) hoB hclB hg (hsize.trans hml.symm) (argsL := As) (rest := rest) (fun sig h => hn.trans (hlen sig h)) hstack hW (by rw [hb]; exact hdg)
    (fun vm₁ hW₁ => ⟨hf.1, hf.2, hPc (T.setVm vm₁) hT hW₁⟩) with ⟨v, vm₁, ⟨U', l2, c2, s2⟩, hW₁, X', ⟨g', mk, t, L, e1, e2, hq, h1, hL, h2, h3⟩, st⟩ | ⟨q, vm₁, ⟨U', l2, c2, s2⟩, hW₁, X', ⟨g', mk, t, L, E, ce, e1, e2, hq, hce, hcv, hcl, h1, hL, h2, h3⟩, st⟩
  · dsimp only [Pt.U, Pt.locs, Pt.cells, Pt.slots] at X' e1 e2 h1 h2 h3 st
    subst h1; subst h2; subst h3
    exact Or.inl ⟨v, (T.setVm vm₁).calling g' mk (Value.ref b :: As).toArray, t, U', L, hT, X', hL, e1, e2, hq, st⟩
  · dsimp only [Pt.U, Pt.locs, Pt.cells, Pt.slots] at X' e1 e2 h1 h2 h3 st hcl
    subst h1; subst h2; subst h3
    exact Or.inr ⟨q, (T.setVm vm₁).calling g' mk (Value.ref b :: As).toArray, t, U', L, E, ce, hT, X', hL, e1, e2, hq, hce, hcv, vx_cls hW₁ hcl, st⟩
theorem vx_runS (S : CallFix p m c cc nL s args Ts own) (hM : vx_Met l y ws rm Pc Qc XC mc ms free) (cw : CallB R s args own index y bytes maxL ret ws rm mc ms n ∧ (Cond.static y).before args s = true) (hp : PreS s H Pc As)
    (hg : g.method = m) (hn : As.length = n) (hsize : g.locals.size = nL) (hstack : g.stack = As.reverse ++ rest) (hW : 2 * g.monitorRoom + (rest.map fun v => v.category).sum ≤ 8) (hdg : decode cc g.pc = .ok (.invokestatic index, 3)) (hf : cells + mc ≤ R.cells ∧ slots + ms ≤ R.slots) :
    vx_Run p l e R s m args below meth c H locs cells slots mc ms g rest (Qc As.toArray) XC free := by
  have hK : vx_Back l R p e below s args y 3 8 (PreOf R mc ms Pc) (PostOf Qc mc ms free) (vx_Post XC mc ms free) := vx_callBack cw.1 hM hp.1
  obtain ⟨⟨-, -, -, -, -, -, hcode, hini, hy, hlen, hl⟩, hstt⟩ := cw
  obtain ⟨hx, hb, hml, ho, -⟩ := S
  intro T hT X
  rcases vx_callS X hx (bytes := bytes) (maxL := maxL) (ret := ret) ho hl hstt hini hcode hy hK hg (hsize.trans hml.symm) (argsL := As) (rest := rest) (fun sig h => hn.trans (hlen sig h)) hstack hW (by rw [hb]; exact hdg)
    (fun vm₁ hW₁ => ⟨hf.1, hf.2, hp.2 (T.setVm vm₁) hT hW₁⟩) with ⟨v, vm₁, ⟨U', l2, c2, s2⟩, hW₁, X', ⟨g', mk, t, L, e1, e2, hq, h1, hL, h2, h3⟩, st⟩ | ⟨q, vm₁, ⟨U', l2, c2, s2⟩, hW₁, X', ⟨g', mk, t, L, E, ce, e1, e2, hq, hce, hcv, hcl, h1, hL, h2, h3⟩, st⟩
  · dsimp only [Pt.U, Pt.locs, Pt.cells, Pt.slots] at X' e1 e2 h1 h2 h3 st
    subst h1; subst h2; subst h3
    exact Or.inl ⟨v, (T.setVm vm₁).calling g' mk As.toArray, t, U', L, hT, X', hL, e1, e2, hq, st⟩
  · dsimp only [Pt.U, Pt.locs, Pt.cells, Pt.slots] at X' e1 e2 h1 h2 h3 st hcl
    subst h1; subst h2; subst h3
    exact Or.inr ⟨q, (T.setVm vm₁).calling g' mk As.toArray, t, U', L, E, ce, hT, X', hL, e1, e2, hq, hce, hcv, vx_cls hW₁ hcl, st⟩
end Runs
section Rows
variable {p : Program} {l : Launch} {e : Env} {R : Room} {s : State} {m : MethodId} {args : Array Value} {below : List Frame} {meth : Method} {c : Code} {H : Heap} {locs : List Loc} {cells slots : Nat} {Q : State → Prop}
variable {mc ms : Nat} {free : Addr → Prop} {A0 A1 : Nat → Prop} {H0 : Heap} {a : Array Value} {pc : Nat} {ls : Array Slot} {st0 rest : List Value}
theorem vx_keep {st₀ t T' : State} {L : List Loc} (h0 : st₀.heap = H) (e1 : T'.heap = t.heap) (hS : va_S A0 H0 H locs) (hA : ∀ q, q < H.size → A1 q → A0 q) (hf : ∀ q, free q → A0 q) (hL : ∀ q ∈ L, free q.base) (hF : va_F A1 st₀ t) :
    H.size ≤ T'.heap.size ∧ (∀ q : Nat, q < H.size → ¬ A1 q → T'.heap[q]? = H[q]?) ∧ va_S A0 H0 T'.heap (locs ++ L) := by
  obtain ⟨hz, hk⟩ := hF
  rw [h0] at hz hk
  exact ⟨by rw [e1]; exact hz, fun q h1 h2 => by rw [e1]; exact hk q h1 h2,
    ⟨Nat.le_trans hS.1 (by rw [e1]; exact hz), fun q h1 h2 => by rw [e1, hk q (Nat.lt_of_lt_of_le h1 hS.1) (fun z => h2 (hA q (Nat.lt_of_lt_of_le h1 hS.1) z))]; exact hS.2.1 q h1 h2, fun q hq => by
      rcases List.mem_append.mp hq with h | h
      · exact hS.2.2 q h
      · exact hf _ (hL q h)⟩⟩
theorem vx_calli {S SX : Type} {post : Int32 → S → Prop} {px : SX → Prop} {B : S → State → Prop} {BX : String → SX → State → Prop} {AX : Nat → Prop} (hr : vx_Run p l e R s m args below meth c H locs cells slots mc ms (F0 m pc ls st0) rest (va_Qi post B A1 a) (vx_X px BX AX) free) (hS : va_S A0 H0 H locs) (hA : ∀ q, q < H.size → A1 q → A0 q) (hf : ∀ q, free q → A0 q) (hAX : ∀ q, q < H.size → AX q → A0 q)
    (kx : ∀ (E : String) (ce : Cell) (q9 : Addr) (u : SX) (t : State) (H1 : Heap) (locs1 : List Loc), t.heap = H1 → s.vm.Alike t.vm → px u → BX E u t → H.size ≤ H1.size → (∀ q : Nat, q < H.size → ¬ AX q → H1[q]? = H[q]?) → va_S A0 H0 H1 locs1 → H1[q9]? = some ce → ce.vm = .none → s.vm.findClass E = some ce.cls → vx_W p l e R s m args below meth c H1 locs1 (cells + mc) (slots + ms) Q (F0 m pc ls rest) q9)
    (kk : ∀ (r : Int32) (u : S) (t : State) (H1 : Heap) (locs1 : List Loc), t.heap = H1 → s.vm.Alike t.vm → post r u → B u t → H.size ≤ H1.size → (∀ q : Nat, q < H.size → ¬ A1 q → H1[q]? = H[q]?) → va_S A0 H0 H1 locs1 → W p l e R s m args below meth c H1 locs1 (cells + mc) (slots + ms) Q (F0 m (pc + 3) ls (.int r :: rest))) : W p l e R s m args below meth c H locs cells slots Q (F0 m pc ls st0) := by
  intro T hT X
  rcases hr T hT X with ⟨v, st₀, t, T', L, h0, X', hL, e1, e2, ⟨⟨r, u, hv, hp, hb⟩, hF⟩, st⟩ | ⟨q, st₀, t, T', L, E, ce, h0, X', hL, e1, e2, ⟨u, hp, hb, hF⟩, hce, hcv, hcl, st⟩
  · cases hv
    obtain ⟨k1, k2, k3⟩ := vx_keep h0 e1 hS hA hf hL hF
    obtain ⟨t2, a1, b1⟩ := kk r u t T'.heap (locs ++ L) e1.symm (by rw [← e2]; exact X'.warmed.alike) hp hb k1 k2 k3 T' rfl X'
    exact ⟨t2, st t2 a1, b1⟩
  · obtain ⟨k1, k2, k3⟩ := vx_keep h0 e1 hS hAX hf hL hF
    obtain ⟨t2, a1, b1⟩ := kx E ce q u t T'.heap (locs ++ L) e1.symm (by rw [← e2]; exact X'.warmed.alike) hp hb k1 k2 k3 (by rw [e1]; exact hce) hcv hcl T' rfl X'
    exact ⟨t2, st.trans a1, b1⟩
theorem vx_calll {S SX : Type} {post : Int64 → S → Prop} {px : SX → Prop} {B : S → State → Prop} {BX : String → SX → State → Prop} {AX : Nat → Prop} (hr : vx_Run p l e R s m args below meth c H locs cells slots mc ms (F0 m pc ls st0) rest (va_Ql post B A1 a) (vx_X px BX AX) free) (hS : va_S A0 H0 H locs) (hA : ∀ q, q < H.size → A1 q → A0 q) (hf : ∀ q, free q → A0 q) (hAX : ∀ q, q < H.size → AX q → A0 q)
    (kx : ∀ (E : String) (ce : Cell) (q9 : Addr) (u : SX) (t : State) (H1 : Heap) (locs1 : List Loc), t.heap = H1 → s.vm.Alike t.vm → px u → BX E u t → H.size ≤ H1.size → (∀ q : Nat, q < H.size → ¬ AX q → H1[q]? = H[q]?) → va_S A0 H0 H1 locs1 → H1[q9]? = some ce → ce.vm = .none → s.vm.findClass E = some ce.cls → vx_W p l e R s m args below meth c H1 locs1 (cells + mc) (slots + ms) Q (F0 m pc ls rest) q9)
    (kk : ∀ (r : Int64) (u : S) (t : State) (H1 : Heap) (locs1 : List Loc), t.heap = H1 → s.vm.Alike t.vm → post r u → B u t → H.size ≤ H1.size → (∀ q : Nat, q < H.size → ¬ A1 q → H1[q]? = H[q]?) → va_S A0 H0 H1 locs1 → W p l e R s m args below meth c H1 locs1 (cells + mc) (slots + ms) Q (F0 m (pc + 3) ls (.long r :: rest))) : W p l e R s m args below meth c H locs cells slots Q (F0 m pc ls st0) := by
  intro T hT X
  rcases hr T hT X with ⟨v, st₀, t, T', L, h0, X', hL, e1, e2, ⟨⟨r, u, hv, hp, hb⟩, hF⟩, st⟩ | ⟨q, st₀, t, T', L, E, ce, h0, X', hL, e1, e2, ⟨u, hp, hb, hF⟩, hce, hcv, hcl, st⟩
  · cases hv
    obtain ⟨k1, k2, k3⟩ := vx_keep h0 e1 hS hA hf hL hF
    obtain ⟨t2, a1, b1⟩ := kk r u t T'.heap (locs ++ L) e1.symm (by rw [← e2]; exact X'.warmed.alike) hp hb k1 k2 k3 T' rfl X'
    exact ⟨t2, st t2 a1, b1⟩
  · obtain ⟨k1, k2, k3⟩ := vx_keep h0 e1 hS hAX hf hL hF
    obtain ⟨t2, a1, b1⟩ := kx E ce q u t T'.heap (locs ++ L) e1.symm (by rw [← e2]; exact X'.warmed.alike) hp hb k1 k2 k3 (by rw [e1]; exact hce) hcv hcl T' rfl X'
    exact ⟨t2, st.trans a1, b1⟩
theorem vx_callf {S SX : Type} {post : UInt32 → S → Prop} {px : SX → Prop} {B : S → State → Prop} {BX : String → SX → State → Prop} {AX : Nat → Prop} (hr : vx_Run p l e R s m args below meth c H locs cells slots mc ms (F0 m pc ls st0) rest (va_Qf post B A1 a) (vx_X px BX AX) free) (hS : va_S A0 H0 H locs) (hA : ∀ q, q < H.size → A1 q → A0 q) (hf : ∀ q, free q → A0 q) (hAX : ∀ q, q < H.size → AX q → A0 q)
    (kx : ∀ (E : String) (ce : Cell) (q9 : Addr) (u : SX) (t : State) (H1 : Heap) (locs1 : List Loc), t.heap = H1 → s.vm.Alike t.vm → px u → BX E u t → H.size ≤ H1.size → (∀ q : Nat, q < H.size → ¬ AX q → H1[q]? = H[q]?) → va_S A0 H0 H1 locs1 → H1[q9]? = some ce → ce.vm = .none → s.vm.findClass E = some ce.cls → vx_W p l e R s m args below meth c H1 locs1 (cells + mc) (slots + ms) Q (F0 m pc ls rest) q9)
    (kk : ∀ (r : UInt32) (u : S) (t : State) (H1 : Heap) (locs1 : List Loc), t.heap = H1 → s.vm.Alike t.vm → post r u → B u t → H.size ≤ H1.size → (∀ q : Nat, q < H.size → ¬ A1 q → H1[q]? = H[q]?) → va_S A0 H0 H1 locs1 → W p l e R s m args below meth c H1 locs1 (cells + mc) (slots + ms) Q (F0 m (pc + 3) ls (.float r :: rest))) : W p l e R s m args below meth c H locs cells slots Q (F0 m pc ls st0) := by
  intro T hT X
  rcases hr T hT X with ⟨v, st₀, t, T', L, h0, X', hL, e1, e2, ⟨⟨r, u, hv, hp, hb⟩, hF⟩, st⟩ | ⟨q, st₀, t, T', L, E, ce, h0, X', hL, e1, e2, ⟨u, hp, hb, hF⟩, hce, hcv, hcl, st⟩
  · cases hv
    obtain ⟨k1, k2, k3⟩ := vx_keep h0 e1 hS hA hf hL hF
    obtain ⟨t2, a1, b1⟩ := kk r u t T'.heap (locs ++ L) e1.symm (by rw [← e2]; exact X'.warmed.alike) hp hb k1 k2 k3 T' rfl X'
    exact ⟨t2, st t2 a1, b1⟩
  · obtain ⟨k1, k2, k3⟩ := vx_keep h0 e1 hS hAX hf hL hF
    obtain ⟨t2, a1, b1⟩ := kx E ce q u t T'.heap (locs ++ L) e1.symm (by rw [← e2]; exact X'.warmed.alike) hp hb k1 k2 k3 (by rw [e1]; exact hce) hcv hcl T' rfl X'
    exact ⟨t2, st.trans a1, b1⟩
theorem vx_calld {S SX : Type} {post : UInt64 → S → Prop} {px : SX → Prop} {B : S → State → Prop} {BX : String → SX → State → Prop} {AX : Nat → Prop} (hr : vx_Run p l e R s m args below meth c H locs cells slots mc ms (F0 m pc ls st0) rest (va_Qd post B A1 a) (vx_X px BX AX) free) (hS : va_S A0 H0 H locs) (hA : ∀ q, q < H.size → A1 q → A0 q) (hf : ∀ q, free q → A0 q) (hAX : ∀ q, q < H.size → AX q → A0 q)
    (kx : ∀ (E : String) (ce : Cell) (q9 : Addr) (u : SX) (t : State) (H1 : Heap) (locs1 : List Loc), t.heap = H1 → s.vm.Alike t.vm → px u → BX E u t → H.size ≤ H1.size → (∀ q : Nat, q < H.size → ¬ AX q → H1[q]? = H[q]?) → va_S A0 H0 H1 locs1 → H1[q9]? = some ce → ce.vm = .none → s.vm.findClass E = some ce.cls → vx_W p l e R s m args below meth c H1 locs1 (cells + mc) (slots + ms) Q (F0 m pc ls rest) q9)
    (kk : ∀ (r : UInt64) (u : S) (t : State) (H1 : Heap) (locs1 : List Loc), t.heap = H1 → s.vm.Alike t.vm → post r u → B u t → H.size ≤ H1.size → (∀ q : Nat, q < H.size → ¬ A1 q → H1[q]? = H[q]?) → va_S A0 H0 H1 locs1 → W p l e R s m args below meth c H1 locs1 (cells + mc) (slots + ms) Q (F0 m (pc + 3) ls (.double r :: rest))) : W p l e R s m args below meth c H locs cells slots Q (F0 m pc ls st0) := by
  intro T hT X
  rcases hr T hT X with ⟨v, st₀, t, T', L, h0, X', hL, e1, e2, ⟨⟨r, u, hv, hp, hb⟩, hF⟩, st⟩ | ⟨q, st₀, t, T', L, E, ce, h0, X', hL, e1, e2, ⟨u, hp, hb, hF⟩, hce, hcv, hcl, st⟩
  · cases hv
    obtain ⟨k1, k2, k3⟩ := vx_keep h0 e1 hS hA hf hL hF
    obtain ⟨t2, a1, b1⟩ := kk r u t T'.heap (locs ++ L) e1.symm (by rw [← e2]; exact X'.warmed.alike) hp hb k1 k2 k3 T' rfl X'
    exact ⟨t2, st t2 a1, b1⟩
  · obtain ⟨k1, k2, k3⟩ := vx_keep h0 e1 hS hAX hf hL hF
    obtain ⟨t2, a1, b1⟩ := kx E ce q u t T'.heap (locs ++ L) e1.symm (by rw [← e2]; exact X'.warmed.alike) hp hb k1 k2 k3 (by rw [e1]; exact hce) hcv hcl T' rfl X'
    exact ⟨t2, st.trans a1, b1⟩
theorem vx_callv {S SX : Type} {post : S → Prop} {px : SX → Prop} {B : S → State → Prop} {BX : String → SX → State → Prop} {AX : Nat → Prop} (hr : vx_Run p l e R s m args below meth c H locs cells slots mc ms (F0 m pc ls st0) rest (va_Qv post B A1 a) (vx_X px BX AX) free) (hS : va_S A0 H0 H locs) (hA : ∀ q, q < H.size → A1 q → A0 q) (hf : ∀ q, free q → A0 q) (hAX : ∀ q, q < H.size → AX q → A0 q)
    (kx : ∀ (E : String) (ce : Cell) (q9 : Addr) (u : SX) (t : State) (H1 : Heap) (locs1 : List Loc), t.heap = H1 → s.vm.Alike t.vm → px u → BX E u t → H.size ≤ H1.size → (∀ q : Nat, q < H.size → ¬ AX q → H1[q]? = H[q]?) → va_S A0 H0 H1 locs1 → H1[q9]? = some ce → ce.vm = .none → s.vm.findClass E = some ce.cls → vx_W p l e R s m args below meth c H1 locs1 (cells + mc) (slots + ms) Q (F0 m pc ls rest) q9)
    (kk : ∀ (u : S) (t : State) (H1 : Heap) (locs1 : List Loc), t.heap = H1 → s.vm.Alike t.vm → post u → B u t → H.size ≤ H1.size → (∀ q : Nat, q < H.size → ¬ A1 q → H1[q]? = H[q]?) → va_S A0 H0 H1 locs1 → W p l e R s m args below meth c H1 locs1 (cells + mc) (slots + ms) Q (F0 m (pc + 3) ls (rest))) : W p l e R s m args below meth c H locs cells slots Q (F0 m pc ls st0) := by
  intro T hT X
  rcases hr T hT X with ⟨v, st₀, t, T', L, h0, X', hL, e1, e2, ⟨⟨u, hv, hp, hb⟩, hF⟩, st⟩ | ⟨q, st₀, t, T', L, E, ce, h0, X', hL, e1, e2, ⟨u, hp, hb, hF⟩, hce, hcv, hcl, st⟩
  · cases hv
    obtain ⟨k1, k2, k3⟩ := vx_keep h0 e1 hS hA hf hL hF
    obtain ⟨t2, a1, b1⟩ := kk u t T'.heap (locs ++ L) e1.symm (by rw [← e2]; exact X'.warmed.alike) hp hb k1 k2 k3 T' rfl X'
    exact ⟨t2, st t2 a1, b1⟩
  · obtain ⟨k1, k2, k3⟩ := vx_keep h0 e1 hS hAX hf hL hF
    obtain ⟨t2, a1, b1⟩ := kx E ce q u t T'.heap (locs ++ L) e1.symm (by rw [← e2]; exact X'.warmed.alike) hp hb k1 k2 k3 (by rw [e1]; exact hce) hcv hcl T' rfl X'
    exact ⟨t2, st.trans a1, b1⟩
/-- caught by the row x of this method's table; the rows ahead don't take it -/
theorem vx_catch {own name : String} {E : String} {ce : Cell} {q : Addr} (hown : s.vm.findClass own = some m.cls) (pre : List ExceptionTableEntry) (x : ExceptionTableEntry) (suf : List ExceptionTableEntry) (hsplit : c.exceptionTable.toList = pre ++ x :: suf)
    (hpass : ∀ z ∈ pre, covers z pc = false ∨ (z.catchType ≠ 0 ∧ ∃ nm : String, (Cond.classLink own z.catchType nm).before args s = true ∧ va_Nc E nm s)) (hx : covers x pc = true) (h0 : x.catchType ≠ 0)
    (hlink : (Cond.classLink own x.catchType name).before args s = true) (hcast : (Cond.castable E name).before args s = true) (hcell : H[q]? = some ce) (hv : ce.vm = .none) (hcl : s.vm.findClass E = some ce.cls)
    (kk : W p l e R s m args below meth c H locs cells slots Q (F0 m x.handlerPc ls [.ref q])) : vx_W p l e R s m args below meth c H locs cells slots Q (F0 m pc ls rest) q := by
  intro T hT X
  have hpl : e.platform.magicAccessors = ({} : Platform).magicAccessors := by rw [X.admits.platform]
  obtain ⟨c3, c4, hc3, hc4, hasg⟩ := Cond.castable_spec hcast
  cases Option.some.inj (hc3.symm.trans hcl)
  obtain ⟨c5, hc5, hcl5⟩ := Cond.classLink_spec hown hlink e.platform hpl
  cases Option.some.inj (hc4.symm.trans hc5)
  obtain ⟨vm', X', st⟩ := X.thenCaughtThrough q (g := F0 m pc ls rest) rfl (Steps.refl _) (by rw [hT]; exact hcell) (by rw [hv]; rfl) (by obtain ⟨k9, h9, -⟩ := Vm.findClass_spec hcl; exact ⟨k9, h9⟩) pre x suf hsplit
    (fun z hz => by
      rcases hpass z hz with h | ⟨hz0, nm, hl1, hn1⟩
      · exact Or.inl h
      · obtain ⟨c6, hc6, hcl6⟩ := Cond.classLink_spec hown hl1 e.platform hpl
        obtain ⟨a8, b8, h1, h2, h3⟩ := hn1
        cases Option.some.inj (h1.symm.trans hcl)
        cases Option.some.inj (h2.symm.trans hc6)
        exact Or.inr ⟨hz0, _, hcl6, h3⟩) hx (Or.inr ⟨h0, c4, hcl5, hasg⟩)
  obtain ⟨t, a1, b1⟩ := kk (T.setVm vm') hT X'
  exact ⟨t, st.trans a1, b1⟩
end Rows
section Ends
variable {p : Program} {l : Launch} {e : Env} {R : Room} {s : State} {m : MethodId} {args : Array Value} {below : List Frame} {meth : Method} {c : Code} {H : Heap} {locs : List Loc} {cells slots : Nat} {Q : State → Prop}
variable {mc ms : Nat} {free : Addr → Prop} {A0 A1 : Nat → Prop} {H0 : Heap} {a : Array Value} {ls : Array Slot} {st0 rest : List Value}
variable {Qc : Array Value → State → Outcome → State → Prop} {XC : String → State → State → Prop}
/-- what a body that may throw owes at its end -/
def vx_MQ (below : List Frame) (Qc : Array Value → State → Outcome → State → Prop) (XC : String → State → State → Prop) (a : Array Value) (s : State) (mc ms : Nat) (free : Addr → Prop) : State → Prop := fun t =>
  ∃ o, t.status = .running ∧ Ended t below o ∧ vx_Q Qc XC mc ms free a s o t
theorem vx_ret {g : JFrame} {mc ms : Nat} (k : W p l e R s m args below meth c H locs cells slots (MQ below Qc args s mc ms free) g) : W p l e R s m args below meth c H locs cells slots (vx_MQ below Qc XC args s mc ms free) g := by
  intro T hT X
  obtain ⟨t, a1, o, b1, b2, b3, b4⟩ := k T hT X
  exact ⟨t, a1, o, b1, b2, Or.inl ⟨b3, b4⟩⟩
/-- not caught here: it goes on to the caller -/
theorem vx_widen {g : JFrame} {q : Addr} {k n : Nat} (h1 : cells ≤ k) (h2 : slots ≤ n) (kk : vx_W p l e R s m args below meth c H locs k n Q g q) : vx_W p l e R s m args below meth c H locs cells slots Q g q := fun T hT X => kk T hT (stand_widen X h1 h2)
theorem vx_out {pc : Nat} {E : String} {ce : Cell} {q : Addr} {mc ms : Nat} (hout : ∀ x ∈ c.exceptionTable.toList, covers x pc = false) (hlocks : meth.locks = false) (hcell : H[q]? = some ce) (hv : ce.vm = .none) (hcl : s.vm.findClass E = some ce.cls)
    (hx : ∀ t : State, t.heap = H → s.vm.Alike t.vm → XC E s t) (hf : ∀ z ∈ locs, free z.base) (hc : cells ≤ mc) (hs : slots ≤ ms) :
    vx_W p l e R s m args below meth c H locs cells slots (vx_MQ below Qc XC args s mc ms free) (F0 m pc ls rest) q := by
  intro T hT X
  obtain ⟨st1, hrun, hend, hW, hsm⟩ := X.leaveThrown q (g := F0 m pc ls rest) rfl rfl rfl hout hlocks
  have hcell9 : (T.setFrames (.throwing q :: below)).heap[q]? = some ce := by
    show T.heap[q]? = some ce
    rw [hT]; exact hcell
  exact ⟨_, st1, .threw q, hrun, hend, Or.inr ⟨q, rfl, E, ce, locs, hx _ hT hW.alike, hcell9, hv, hcl, hW, hsm.mono hc hs, hf⟩⟩
theorem vx_frame {U : State} {k n : Nat} (h : s.sameButNew ({ U with vm := s.vm } : State) locs k n) : s.heap.size ≤ U.heap.size ∧ ∀ q : Nat, q < s.heap.size → (∀ z ∈ locs, z.base ≠ q) → U.heap[q]? = s.heap[q]? := by
  obtain ⟨-, h2, -, -, -, h6⟩ := h
  refine ⟨h2, fun q hq hz => ?_⟩
  obtain ⟨c9, e1, e2, e3, e4⟩ := h6 q _ (Array.getElem?_eq_getElem hq)
  have hs : c9.slots = (s.heap[q]).slots := Array.ext_getElem? fun i => e4 i fun hm => hz _ hm rfl
  have h9 : c9 = s.heap[q] := by
    rw [hs] at e2
    exact e2
  have e5 : U.heap[q]? = some c9 := e1
  rw [e5, h9, Array.getElem?_eq_getElem hq]
/-- the words of a throw but the four that speak of the heap -/
def vx_no (w : Cond) : Bool := decide (w ≠ .isRef (.static Bundle.tN "UNASSIGNED_STACK" Bundle.steD)) && decide (w ≠ .isRef (.static Bundle.tN "SUPPRESSED_SENTINEL" Bundle.listD)) && decide (w ≠ .laysStatic Bundle.tN "UNASSIGNED_STACK" Bundle.steD) && decide (w ≠ .laysStatic Bundle.tN "SUPPRESSED_SENTINEL" Bundle.listD)
def vx_at0 (own : String) (ic : Nat) (X : String) (names : List String) : List Cond := (Bundle.ownAtoms0 own ic X names).filter vx_no
def vx_atS (own : String) (ic : Nat) (X : String) (names : List String) : List Cond := (Bundle.ownAtoms own ic X names).filter vx_no
/-- a word that the tables alone decide, or a good one -/
def vx_ot (w : Cond) : Bool := w.onTables || goodWord w
theorem vx_ot_at {args a' : Array Value} {s U : State} {w : Cond} (hW : s.WarmedH U.vm) (hvm : s.vm = U.vm) (hg : vx_ot w = true) (h : w.before args s = true) : w.before a' U = true := by
  simp only [vx_ot, Bool.or_eq_true] at hg
  rcases hg with hg | hg
  · exact va_tabs hg hvm h
  · exact word_at hW (good_of_word hg) h
/-- a list's words: the good ones out of the method's own list, the others by premises of their own -/
theorem vx_hat {args : Array Value} {s : State} {L B : List Cond} (h1 : ∀ w ∈ L.filter goodWord, w.before args s = true) (h2 : ∀ w ∈ L.filter (fun w => !goodWord w), w ∈ B) (h3 : ∀ w ∈ B, w.before args s = true) : ∀ w ∈ L, w.before args s = true := by
  intro w hw
  by_cases g : goodWord w = true
  · exact h1 w (List.mem_filter.mpr ⟨hw, g⟩)
  · refine h3 w (h2 w (List.mem_filter.mpr ⟨hw, ?_⟩))
    show (!goodWord w) = true
    cases hgw : goodWord w
    · rfl
    · exact absurd hgw g
theorem vx_c {args : Array Value} {s : State} {w : Cond} {B : List Cond} (h : w.before args s = true) (t : ∀ w ∈ B, w.before args s = true) : ∀ w' ∈ w :: B, w'.before args s = true := fun w' h' => (List.mem_cons.mp h').elim (fun e => by rw [e]; exact h) (t w')
theorem vx_n {args : Array Value} {s : State} : ∀ w ∈ ([] : List Cond), w.before args s = true := fun _ h => nomatch h
theorem vx_own {args : Array Value} {s : State} {L : List Cond} (h1 : ∀ w ∈ L.filter vx_no, w.before args s = true)
    (hU : (Cond.isRef (.static Bundle.tN "UNASSIGNED_STACK" Bundle.steD)).before args s = true) (hN : (Cond.isRef (.static Bundle.tN "SUPPRESSED_SENTINEL" Bundle.listD)).before args s = true)
    (lU : (Cond.laysStatic Bundle.tN "UNASSIGNED_STACK" Bundle.steD).before args s = true) (lN : (Cond.laysStatic Bundle.tN "SUPPRESSED_SENTINEL" Bundle.listD).before args s = true) : ∀ w ∈ L, w.before args s = true := by
  intro w hw
  by_cases e1 : w = .isRef (.static Bundle.tN "UNASSIGNED_STACK" Bundle.steD)
  · rw [e1]; exact hU
  · by_cases e2 : w = .isRef (.static Bundle.tN "SUPPRESSED_SENTINEL" Bundle.listD)
    · rw [e2]; exact hN
    · by_cases e3 : w = .laysStatic Bundle.tN "UNASSIGNED_STACK" Bundle.steD
      · rw [e3]; exact lU
      · by_cases e4 : w = .laysStatic Bundle.tN "SUPPRESSED_SENTINEL" Bundle.listD
        · rw [e4]; exact lN
        · exact h1 w (List.mem_filter.mpr ⟨hw, by unfold vx_no; rw [decide_eq_true e1, decide_eq_true e2, decide_eq_true e3, decide_eq_true e4]; rfl⟩)
/-- where a static field lies, its class's statics cell in H -/
def vx_L (C n d : String) (A : Nat → Prop) (U : State) (H : Heap) : Prop := ∃ (c : ClassId) (k : Class) (i : Nat) (f : Field) (a : Nat) (cell : Cell), U.vm.findClass C = some c ∧ U.fieldFound? C n d = some (c, k, i, f) ∧ f.isStatic = true ∧ k.statics = some a ∧ H[a]? = some cell ∧ cell.vm.isStatics = true ∧ cell.cls = c ∧ f.slot < cell.slots.size ∧ k.staticTypes[f.slot]? = some f.type ∧ ¬ A a
theorem vx_L.moved {C n d : String} {A : Nat → Prop} {u U : State} {H : Heap} (hvm : u.vm.Alike U.vm) (h : vx_L C n d A u H) : vx_L C n d A U H := by
  obtain ⟨c, k, i, f, a, cell, h1, h2, h3, h4, h5, h6, h7, h8, h9, h10⟩ := h
  obtain ⟨k', hi', he⟩ := State.fieldFound?_setVm hvm h2
  exact ⟨c, k', i, f, a, cell, by rw [hvm.findClass]; exact h1, hi', h3, by rw [he]; exact h4, h5, h6, h7, h8, by rw [he]; exact h9, h10⟩
theorem vx_L.kept {C n d : String} {A : Nat → Prop} {U : State} {H H1 : Heap} (h : vx_L C n d A U H) (hq : ∀ a : Nat, a < H.size → ¬ A a → H1[a]? = H[a]?) : vx_L C n d A U H1 := by
  obtain ⟨c, k, i, f, a, cell, h1, h2, h3, h4, h5, h6, h7, h8, h9, h10⟩ := h
  exact ⟨c, k, i, f, a, cell, h1, h2, h3, h4, by rw [hq a (Array.getElem?_eq_some_iff.mp h5).1 h10]; exact h5, h6, h7, h8, h9, h10⟩
theorem vx_L.narrow {C n d : String} {A B : Nat → Prop} {U : State} {H : Heap} (h : vx_L C n d A U H) (hAB : ∀ q, B q → A q) : vx_L C n d B U H := by
  obtain ⟨c, k, i, f, a, cell, h1, h2, h3, h4, h5, h6, h7, h8, h9, h10⟩ := h
  exact ⟨c, k, i, f, a, cell, h1, h2, h3, h4, h5, h6, h7, h8, h9, fun z => h10 (hAB _ z)⟩
theorem vx_L.word {C n d : String} {A : Nat → Prop} {s : State} {args : Array Value} (h : vx_L C n d A s s.heap) : (Cond.laysStatic C n d).before args s = true := by
  obtain ⟨c, k, i, f, a, cell, h1, h2, h3, h4, h5, h6, h7, h8, h9, -⟩ := h
  show (Cond.laysStatic C n d).holds args s none s [] = true
  exact Cond.laysStatic_of h1 h2 h3 h4 h5 h6 h7 h8 h9
/-- .. and what it holds: null or some reference -/
def vx_Zq (C n d : String) (A : Nat → Prop) (U : State) (H : Heap) : Prop := va_Zq C n d A U H ∧ vx_L C n d A U H
theorem vx_Zq.moved {C n d : String} {A : Nat → Prop} {u U : State} {H : Heap} (hvm : u.vm.Alike U.vm) (h : vx_Zq C n d A u H) : vx_Zq C n d A U H := ⟨va_Zq.moved hvm h.1, vx_L.moved hvm h.2⟩
theorem vx_Zq.kept {C n d : String} {A : Nat → Prop} {U : State} {H H1 : Heap} (h : vx_Zq C n d A U H) (hq : ∀ a : Nat, a < H.size → ¬ A a → H1[a]? = H[a]?) : vx_Zq C n d A U H1 := ⟨va_Zq.kept h.1 hq, vx_L.kept h.2 hq⟩
theorem vx_Zq.narrow {C n d : String} {A B : Nat → Prop} {U : State} {H : Heap} (h : vx_Zq C n d A U H) (hAB : ∀ q, B q → A q) : vx_Zq C n d B U H := ⟨va_Zq.narrow h.1 hAB, vx_L.narrow h.2 hAB⟩
theorem vx_Zqof {args : Array Value} {s : State} {C n d : String} {A : Nat → Prop} (hl : (Cond.laysStatic C n d).before args s = true) (hini : (Cond.initialized C).before args s = true) (h : (Cond.isRef (.static C n d)).before args s = true) (hA : ∀ a : Nat, a < s.heap.size → ¬ A a) : vx_Zq C n d A s s.heap := by
  refine ⟨va_Zqof hl hini h hA, ?_⟩
  obtain ⟨c, k, i, f, a, cell, h1, h2, h3, h4, h5, h6, h7, h8, h9⟩ := Cond.laysStatic_spec hl
  exact ⟨c, k, i, f, a, cell, h1, h2, h3, h4, h5, h6, h7, h8, h9, hA a (Array.getElem?_eq_some_iff.mp h5).1⟩
theorem vx_isRef {C n d : String} {v : Value} {A : Nat → Prop} {s : State} {args : Array Value} (h : va_Z C n d v A s s.heap) (hv : v.isRef = true) : (Cond.isRef (.static C n d)).before args s = true := by
  obtain ⟨cf, kf, fi, f, a, cell, h1, h2, h3, h4, h5, h6, h7, -⟩ := h
  have he : (Term.static C n d).eval args s none [] s = some v := by
    simp [Term.eval, State.fieldNamed?, h1, h2, h4, h5, h6, h7]
  simp only [Cond.before, Cond.holds, Cond.value, he]
  cases v <;> simp_all [Value.isRef]
theorem vx_isRefq {C n d : String} {A : Nat → Prop} {s : State} {args : Array Value} (h : va_Zq C n d A s s.heap) : (Cond.isRef (.static C n d)).before args s = true := by
  rcases h with h | ⟨t, h⟩
  · exact vx_isRef h rfl
  · exact vx_isRef h rfl
/-- the same frame, seen from here: as if the method were called anew in this heap -/
theorem vx_rebase {T : State} (X : Stand p l e R s m args below meth c T locs cells slots) {R' : Room} (hf : R'.frames ≤ R.frames) (hl : R'.locals ≤ R.locals) (hc : cells + R'.cells ≤ R.cells) (hs : slots + R'.slots ≤ R.slots) :
    Stand p l e R' ((T.setVm s.vm).setFrames (.invoking m args :: below)) m args below meth c T [] 0 0 := by
  have htop : (T.setVm s.vm).topJava?.isSome := X.here.top
  have hF : ((T.setVm s.vm).setFrames (.invoking m args :: below)).frames = .invoking m args :: below := State.frames_setFrames _ (State.cur_lt_of_top htop)
  obtain ⟨g₀, hg0⟩ := Option.isSome_iff_exists.mp htop
  obtain ⟨r, hr⟩ := State.topJava?_eq_some.mp hg0
  have hl9 : e.platform.stackLimits (T.setVm s.vm).me = e.platform.stackLimits s.me := X.limits
  have hb9 : (T.setVm s.vm).me.stackBytes = s.me.stackBytes := X.bytes
  refine ⟨X.admits, X.cas, X.clock, hF, ?_, X.hears, X.method, X.code, X.here, X.tail, X.warmed, ?_, ?_, ?_⟩
  · have h := X.room
    have hU : ((T.setVm s.vm).setFrames (.invoking m args :: below)).localsInUse = s.localsInUse := by
      rw [State.localsInUse_invoking hF (meth := meth) (c := c) X.method X.code, State.localsInUse_invoking X.frames X.method X.code]
    simp only [State.hasRoom, Bool.and_eq_true, decide_eq_true_eq] at h ⊢
    obtain ⟨⟨⟨⟨h1, h2, h3, h4, h5, h6⟩, h7⟩, h8⟩, h9⟩ := h
    rw [X.frames, List.length_cons] at h2 h3
    have q1 := X.heapSize
    have q2 := X.used
    simp only [hF, hU, List.length_cons, State.stackLimits_setFrames, State.stackBytes_setFrames, hl9, hb9]
    refine ⟨⟨⟨⟨by omega, by omega, by omega, by omega, by omega, h6⟩, ?_⟩, ?_⟩, X.book⟩
    · show T.heap.size + R'.cells ≤ e.platform.maxCells
      omega
    · show T.slotsUsed + R'.slots ≤ e.platform.maxSlots
      omega
  · rw [State.stackLimits_setFrames]; rfl
  · rw [State.stackBytes_setFrames]; rfl
  · refine ⟨?_, Nat.le_refl _, Nat.le_refl _, ?_, ?_, fun a c9 h9 => ⟨c9, h9, rfl, rfl, fun _ _ => rfl⟩⟩
    · obtain ⟨t, ht, -⟩ := State.frames_cons hr
      show T.setVm s.vm = { ((T.setVm s.vm).setFrames (.invoking m args :: below)).setFrames (T.setVm s.vm).frames with heap := T.heap, slotsUsed := T.slotsUsed }
      rw [State.setFrames_setFrames, State.setFrames_self ht]
      rfl
    · show T.slotsUsed = T.slotsUsed + ((T.heap.toList.drop T.heap.size).map (·.slots.size)).sum
      rw [List.drop_eq_nil_of_le (Nat.le_of_eq Array.length_toList)]
      rfl
    · show ((T.heap.toList.drop T.heap.size).map (·.slots.size)).sum ≤ 0
      rw [List.drop_eq_nil_of_le (Nat.le_of_eq Array.length_toList)]
      exact Nat.le_refl _
/-- 'throw new E()': new; dup; invokespecial; athrow -/
theorem vx_throw0 {cc : ByteArray} {pc : Nat} (hexec : p.tables.exec = Jvm.exec) (hb : c.code = cc) (hl : l.stackTraces = false) {own cls : String} {names : List String} {ik ic mc ms : Nat} {A : Nat → Prop}
    (hown : s.vm.findClass own = some m.cls) (hcls : Bundle.fit cls = true) (hnames : ∀ n ∈ names, Bundle.fit n = true)
    (hk : (Cond.classLink own ik cls).before args s = true) (hini : (Cond.initialized cls).before args s = true) (hat : ∀ w ∈ vx_at0 own ic cls names, w.before args s = true)
    (hgood : ∀ w ∈ Cond.classLink own ik cls :: Cond.initialized cls :: vx_at0 own ic cls names, vx_ot w = true)
    (hU : vx_Zq Bundle.tN "UNASSIGNED_STACK" Bundle.steD A s s.heap) (hN : vx_Zq Bundle.tN "SUPPRESSED_SENTINEL" Bundle.listD A s s.heap) (hS : va_S A s.heap H locs) (hsize : ls.size = c.maxLocals)
    (d0 : decode cc pc = .ok (.new ik, 3)) (d3 : decode cc (pc + 3) = .ok (.dup, 1)) (d4 : decode cc (pc + 4) = .ok (.invokespecial ic, 3)) (d7 : decode cc (pc + 7) = .ok (.athrow, 1))
    (hout : ∀ x ∈ c.exceptionTable.toList, covers x (pc + 7) = false)
    (hRframes : names.length + 3 < R.frames) (hRlocals : (rest.map fun v => v.category).sum + (13 * (names.length + 1) + 42) ≤ R.locals) (hRcells : cells + 1 ≤ R.cells) (hRslots : slots + 6 ≤ R.slots) (hlocks : meth.locks = false)
    (hx : ∀ t : State, s.vm.Alike t.vm → H.size ≤ t.heap.size → (∀ q : Nat, q < H.size → t.heap[q]? = H[q]?) → XC cls s t)
    (hf : ∀ z ∈ locs, free z.base) (hc : cells + 1 ≤ mc) (hs : slots + 6 ≤ ms) :
    W p l e R s m args below meth c H locs cells slots (vx_MQ below Qc XC args s mc ms free) (F0 m pc ls rest) := by
  intro T hT X
  have htr : e.platform.stackTraces = false := (show e.platform.stackTraces = l.stackTraces by rw [X.admits.platform]).trans hl
  have Y := vx_rebase X (R' := { frames := R.frames, locals := R.locals, cells := 1, slots := 6 }) (Nat.le_refl _) (Nat.le_refl _) hRcells hRslots
  obtain ⟨s', hA⟩ : ∃ z, z = (T.setVm s.vm).setFrames (.invoking m args :: below) := ⟨_, rfl⟩
  rw [← hA] at Y
  have hvm : s'.vm = s.vm := by rw [hA]; rfl
  have hhp : s'.heap = H := by rw [hA]; exact hT
  have hW0 : s.WarmedH s'.vm := by rw [hvm]; exact State.WarmedH.refl s
  have hat' : ∀ w ∈ vx_at0 own ic cls names, w.before args s' = true := fun w hw => vx_ot_at hW0 hvm.symm (hgood w (List.mem_cons_of_mem _ (List.mem_cons_of_mem _ hw))) (hat w hw)
  have hk' : (Cond.classLink own ik cls).before args s' = true := vx_ot_at hW0 hvm.symm (hgood _ List.mem_cons_self) hk
  have hini' : (Cond.initialized cls).before args s' = true := vx_ot_at hW0 hvm.symm (hgood _ (List.mem_cons_of_mem _ List.mem_cons_self)) hini
  have hU' : vx_Zq Bundle.tN "UNASSIGNED_STACK" Bundle.steD A s' s'.heap := by rw [hhp]; exact vx_Zq.moved hW0.alike (hU.kept hS.2.1)
  have hN' : vx_Zq Bundle.tN "SUPPRESSED_SENTINEL" Bundle.listD A s' s'.heap := by rw [hhp]; exact vx_Zq.moved hW0.alike (hN.kept hS.2.1)
  have h : ∀ w ∈ Bundle.ownAtoms0 own ic cls names, w.before args s' = true := vx_own hat' (vx_isRefq hU'.1) (vx_isRefq hN'.1) hU'.2.word hN'.2.word
  have hown' : s'.vm.findClass own = some m.cls := by rw [hvm]; exact hown
  have hins : (Cond.instantiable cls 6).before args s' = true := h _ (by simp [Bundle.ownAtoms0])
  obtain ⟨vm₁, cX, kX, hfX, hkX, -, -, X₁, st1⟩ := Y.newCold hexec (own := own) (C := cls) (index := ik) (n := 6) hown' hk' hins hini'
    (g := F0 m pc ls rest) rfl (by rw [hb]; exact d0) (Nat.le_refl _) (Nat.le_refl _)
  generalize hT1 : (T.setVm vm₁).pushCell { cls := cX, slots := kX.instanceTypes.map defaultValue, vm := .none } = T1 at X₁ st1
  have hcat : (Value.ref T.heap.size).category = 1 := rfl
  have hcellA : T1.heap[T.heap.size]? = some (freshCell cX kX) := by rw [← hT1]; exact State.heap_pushCell_size _ _
  have d3' : decode c.code (pc + 3) = .ok (.dup, 1) := by rw [hb]; exact d3
  obtain ⟨U, hsteps, hrun, hend, hW, hsame, ce, hce, hO⟩ := X₁.ctorThrow0 hexec htr (own := own) (cls := cls) (names := names) (ic := ic) hown' hcls hnames h (fun x hx => nomatch hx) hfX hkX hcellA (by rw [hhp, hT]; exact Nat.le_refl _)
    (g := { method := m, pc := pc + 4, locals := ls, stack := .ref T.heap.size :: .ref T.heap.size :: rest, locked := none }) rfl hsize rfl rfl (rest := rest) rfl
    (by rw [hb]; exact d4) (by rw [hb]; exact d7) hout hRframes (by simp only [List.map_cons, List.sum_cons, hcat]; omega) hlocks
  obtain ⟨f1, f2⟩ := vx_frame hsame
  rw [hhp] at f1 f2
  have hWs : s.WarmedH U.vm := State.WarmedH.trans hW0 hW
  have hcl : s.vm.findClass cls = some ce.cls := by
    have h9 := hO.cls
    rw [hvm] at h9
    exact h9
  have hall : s.sameButNew ({ U with vm := s.vm } : State) locs mc ms := by
    subst hA
    obtain ⟨e1, e2⟩ := hsame
    rw [State.setFrames_setFrames] at e1
    have h2 : (T.setVm s.vm).sameButNew ({ U with vm := s.vm } : State) [] (0 + 1) (0 + 6) := ⟨e1, e2⟩
    have h3 := X.same.trans h2
    rw [List.append_nil] at h3
    exact h3.mono hc hs
  refine ⟨U, ?_, .threw T.heap.size, hrun, hend, Or.inr ⟨T.heap.size, rfl, cls, ce, locs, hx U hWs.alike f1 (fun q hq => f2 q hq (fun z hz => nomatch hz)), hce, hO.vm, hcl, hWs, hall, hf⟩⟩
  refine st1 _ ?_
  show Steps p.tables e below (T1.setTop { method := m, pc := pc + 3, locals := ls, stack := .ref T.heap.size :: rest, locked := none }) _
  jvm_step X₁.here [X₁.here.top, hexec, d3', Value.category]
  exact hsteps
/-- 'throw new E("text")': new; dup; ldc; invokespecial; athrow -/
theorem vx_throwS {cc : ByteArray} {pc : Nat} (hexec : p.tables.exec = Jvm.exec) (hb : c.code = cc) (hl : l.stackTraces = false) {own cls text : String} {names : List String} {ik is ic mc ms sa : Nat} {A : Nat → Prop}
    (hown : s.vm.findClass own = some m.cls) (hcls : Bundle.fit cls = true) (hnames : ∀ n ∈ names, Bundle.fit n = true)
    (hk : (Cond.classLink own ik cls).before args s = true) (hini : (Cond.initialized cls).before args s = true) (hstr : vk_R own is text sa s) (hat : ∀ w ∈ vx_atS own ic cls names, w.before args s = true)
    (hgood : ∀ w ∈ Cond.classLink own ik cls :: Cond.initialized cls :: vx_atS own ic cls names, vx_ot w = true)
    (hU : vx_Zq Bundle.tN "UNASSIGNED_STACK" Bundle.steD A s s.heap) (hN : vx_Zq Bundle.tN "SUPPRESSED_SENTINEL" Bundle.listD A s s.heap) (hS : va_S A s.heap H locs) (hsize : ls.size = c.maxLocals)
    (d0 : decode cc pc = .ok (.new ik, 3)) (d3 : decode cc (pc + 3) = .ok (.dup, 1)) (d4 : decode cc (pc + 4) = .ok (.ldc is, 2)) (d6 : decode cc (pc + 6) = .ok (.invokespecial ic, 3)) (d9 : decode cc (pc + 9) = .ok (.athrow, 1))
    (hout : ∀ x ∈ c.exceptionTable.toList, covers x (pc + 9) = false)
    (hRframes : names.length + 3 < R.frames) (hRlocals : (rest.map fun v => v.category).sum + (13 * (names.length + 1) + 43) ≤ R.locals) (hRcells : cells + 1 ≤ R.cells) (hRslots : slots + 6 ≤ R.slots) (hlocks : meth.locks = false)
    (hx : ∀ t : State, s.vm.Alike t.vm → H.size ≤ t.heap.size → (∀ q : Nat, q < H.size → t.heap[q]? = H[q]?) → XC cls s t)
    (hf : ∀ z ∈ locs, free z.base) (hc : cells + 1 ≤ mc) (hs : slots + 6 ≤ ms) :
    W p l e R s m args below meth c H locs cells slots (vx_MQ below Qc XC args s mc ms free) (F0 m pc ls rest) := by
  intro T hT X
  have htr : e.platform.stackTraces = false := (show e.platform.stackTraces = l.stackTraces by rw [X.admits.platform]).trans hl
  have Y := vx_rebase X (R' := { frames := R.frames, locals := R.locals, cells := 1, slots := 6 }) (Nat.le_refl _) (Nat.le_refl _) hRcells hRslots
  obtain ⟨s', hA⟩ : ∃ z, z = (T.setVm s.vm).setFrames (.invoking m args :: below) := ⟨_, rfl⟩
  rw [← hA] at Y
  have hvm : s'.vm = s.vm := by rw [hA]; rfl
  have hhp : s'.heap = H := by rw [hA]; exact hT
  have hW0 : s.WarmedH s'.vm := by rw [hvm]; exact State.WarmedH.refl s
  have hat' : ∀ w ∈ vx_atS own ic cls names, w.before args s' = true := fun w hw => vx_ot_at hW0 hvm.symm (hgood w (List.mem_cons_of_mem _ (List.mem_cons_of_mem _ hw))) (hat w hw)
  have hk' : (Cond.classLink own ik cls).before args s' = true := vx_ot_at hW0 hvm.symm (hgood _ List.mem_cons_self) hk
  have hini' : (Cond.initialized cls).before args s' = true := vx_ot_at hW0 hvm.symm (hgood _ (List.mem_cons_of_mem _ List.mem_cons_self)) hini
  have hU' : vx_Zq Bundle.tN "UNASSIGNED_STACK" Bundle.steD A s' s'.heap := by rw [hhp]; exact vx_Zq.moved hW0.alike (hU.kept hS.2.1)
  have hN' : vx_Zq Bundle.tN "SUPPRESSED_SENTINEL" Bundle.listD A s' s'.heap := by rw [hhp]; exact vx_Zq.moved hW0.alike (hN.kept hS.2.1)
  have h : ∀ w ∈ Bundle.ownAtoms own ic cls names, w.before args s' = true := vx_own hat' (vx_isRefq hU'.1) (vx_isRefq hN'.1) hU'.2.word hN'.2.word
  have hown' : s'.vm.findClass own = some m.cls := by rw [hvm]; exact hown
  have hins : (Cond.instantiable cls 6).before args s' = true := h _ (by simp [Bundle.ownAtoms])
  obtain ⟨vm₁, cX, kX, hfX, hkX, -, -, X₁, st1⟩ := Y.newCold hexec (own := own) (C := cls) (index := ik) (n := 6) hown' hk' hins hini'
    (g := F0 m pc ls rest) rfl (by rw [hb]; exact d0) (Nat.le_refl _) (Nat.le_refl _)
  generalize hT1 : (T.setVm vm₁).pushCell { cls := cX, slots := kX.instanceTypes.map defaultValue, vm := .none } = T1 at X₁ st1
  have hcat : (Value.ref T.heap.size).category = 1 := rfl
  have hcellA : T1.heap[T.heap.size]? = some (freshCell cX kX) := by rw [← hT1]; exact State.heap_pushCell_size _ _
  have d3' : decode c.code (pc + 3) = .ok (.dup, 1) := by rw [hb]; exact d3
  have d4' : decode c.code (pc + 4) = .ok (.ldc is, 2) := by rw [hb]; exact d4
  have hstr' : vk_R own is text sa s' := vk_R.warm hW0 hstr
  obtain ⟨U, hsteps, hrun, hend, hW, hsame, ce, hce, hO⟩ := X₁.ctorThrowS hexec htr (own := own) (cls := cls) (names := names) (ic := ic) hown' hcls hnames h (fun x hx => nomatch hx) hfX hkX hcellA (by rw [hhp, hT]; exact Nat.le_refl _) (msg := .ref sa) rfl
    (g := { method := m, pc := pc + 6, locals := ls, stack := .ref sa :: .ref T.heap.size :: .ref T.heap.size :: rest, locked := none }) rfl hsize rfl rfl (rest := rest) rfl
    (by rw [hb]; exact d6) (by rw [hb]; exact d9) hout hRframes (by simp only [List.map_cons, List.sum_cons, hcat]; omega) hlocks
  obtain ⟨f1, f2⟩ := vx_frame hsame
  rw [hhp] at f1 f2
  have hWs : s.WarmedH U.vm := State.WarmedH.trans hW0 hW
  have hcl : s.vm.findClass cls = some ce.cls := by
    have h9 := hO.cls
    rw [hvm] at h9
    exact h9
  have hall : s.sameButNew ({ U with vm := s.vm } : State) locs mc ms := by
    subst hA
    obtain ⟨e1, e2⟩ := hsame
    rw [State.setFrames_setFrames] at e1
    have h2 : (T.setVm s.vm).sameButNew ({ U with vm := s.vm } : State) [] (0 + 1) (0 + 6) := ⟨e1, e2⟩
    have h3 := X.same.trans h2
    rw [List.append_nil] at h3
    exact h3.mono hc hs
  refine ⟨U, ?_, .threw T.heap.size, hrun, hend, Or.inr ⟨T.heap.size, rfl, cls, ce, locs, hx U hWs.alike f1 (fun q hq => f2 q hq (fun z hz => nomatch hz)), hce, hO.vm, hcl, hWs, hall, hf⟩⟩
  refine st1 _ ?_
  show Steps p.tables e below (T1.setTop { method := m, pc := pc + 3, locals := ls, stack := .ref T.heap.size :: rest, locked := none }) _
  jvm_step X₁.here [X₁.here.top, hexec, d3', Value.category]
  exact X₁.ldcString hexec (own := own) (text := text) (index := is) (a := sa) hown' hstr'.1 hstr'.2
    (g := { method := m, pc := pc + 4, locals := ls, stack := .ref T.heap.size :: .ref T.heap.size :: rest, locked := none }) rfl d4' _ hsteps
/-- 'throw new E("text")', the text by a wide index -/
theorem vx_throwSW {cc : ByteArray} {pc : Nat} (hexec : p.tables.exec = Jvm.exec) (hb : c.code = cc) (hl : l.stackTraces = false) {own cls text : String} {names : List String} {ik is ic mc ms sa : Nat} {A : Nat → Prop}
    (hown : s.vm.findClass own = some m.cls) (hcls : Bundle.fit cls = true) (hnames : ∀ n ∈ names, Bundle.fit n = true)
    (hk : (Cond.classLink own ik cls).before args s = true) (hini : (Cond.initialized cls).before args s = true) (hstr : vk_R own is text sa s) (hat : ∀ w ∈ vx_atS own ic cls names, w.before args s = true)
    (hgood : ∀ w ∈ Cond.classLink own ik cls :: Cond.initialized cls :: vx_atS own ic cls names, vx_ot w = true)
    (hU : vx_Zq Bundle.tN "UNASSIGNED_STACK" Bundle.steD A s s.heap) (hN : vx_Zq Bundle.tN "SUPPRESSED_SENTINEL" Bundle.listD A s s.heap) (hS : va_S A s.heap H locs) (hsize : ls.size = c.maxLocals)
    (d0 : decode cc pc = .ok (.new ik, 3)) (d3 : decode cc (pc + 3) = .ok (.dup, 1)) (d4 : decode cc (pc + 4) = .ok (.ldc_w is, 3)) (d7 : decode cc (pc + 7) = .ok (.invokespecial ic, 3)) (d10 : decode cc (pc + 10) = .ok (.athrow, 1))
    (hout : ∀ x ∈ c.exceptionTable.toList, covers x (pc + 10) = false)
    (hRframes : names.length + 3 < R.frames) (hRlocals : (rest.map fun v => v.category).sum + (13 * (names.length + 1) + 43) ≤ R.locals) (hRcells : cells + 1 ≤ R.cells) (hRslots : slots + 6 ≤ R.slots) (hlocks : meth.locks = false)
    (hx : ∀ t : State, s.vm.Alike t.vm → H.size ≤ t.heap.size → (∀ q : Nat, q < H.size → t.heap[q]? = H[q]?) → XC cls s t)
    (hf : ∀ z ∈ locs, free z.base) (hc : cells + 1 ≤ mc) (hs : slots + 6 ≤ ms) :
    W p l e R s m args below meth c H locs cells slots (vx_MQ below Qc XC args s mc ms free) (F0 m pc ls rest) := by
  intro T hT X
  have htr : e.platform.stackTraces = false := (show e.platform.stackTraces = l.stackTraces by rw [X.admits.platform]).trans hl
  have Y := vx_rebase X (R' := { frames := R.frames, locals := R.locals, cells := 1, slots := 6 }) (Nat.le_refl _) (Nat.le_refl _) hRcells hRslots
  obtain ⟨s', hA⟩ : ∃ z, z = (T.setVm s.vm).setFrames (.invoking m args :: below) := ⟨_, rfl⟩
  rw [← hA] at Y
  have hvm : s'.vm = s.vm := by rw [hA]; rfl
  have hhp : s'.heap = H := by rw [hA]; exact hT
  have hW0 : s.WarmedH s'.vm := by rw [hvm]; exact State.WarmedH.refl s
  have hat' : ∀ w ∈ vx_atS own ic cls names, w.before args s' = true := fun w hw => vx_ot_at hW0 hvm.symm (hgood w (List.mem_cons_of_mem _ (List.mem_cons_of_mem _ hw))) (hat w hw)
  have hk' : (Cond.classLink own ik cls).before args s' = true := vx_ot_at hW0 hvm.symm (hgood _ List.mem_cons_self) hk
  have hini' : (Cond.initialized cls).before args s' = true := vx_ot_at hW0 hvm.symm (hgood _ (List.mem_cons_of_mem _ List.mem_cons_self)) hini
  have hU' : vx_Zq Bundle.tN "UNASSIGNED_STACK" Bundle.steD A s' s'.heap := by rw [hhp]; exact vx_Zq.moved hW0.alike (hU.kept hS.2.1)
  have hN' : vx_Zq Bundle.tN "SUPPRESSED_SENTINEL" Bundle.listD A s' s'.heap := by rw [hhp]; exact vx_Zq.moved hW0.alike (hN.kept hS.2.1)
  have h : ∀ w ∈ Bundle.ownAtoms own ic cls names, w.before args s' = true := vx_own hat' (vx_isRefq hU'.1) (vx_isRefq hN'.1) hU'.2.word hN'.2.word
  have hown' : s'.vm.findClass own = some m.cls := by rw [hvm]; exact hown
  have hins : (Cond.instantiable cls 6).before args s' = true := h _ (by simp [Bundle.ownAtoms])
  obtain ⟨vm₁, cX, kX, hfX, hkX, -, -, X₁, st1⟩ := Y.newCold hexec (own := own) (C := cls) (index := ik) (n := 6) hown' hk' hins hini'
    (g := F0 m pc ls rest) rfl (by rw [hb]; exact d0) (Nat.le_refl _) (Nat.le_refl _)
  generalize hT1 : (T.setVm vm₁).pushCell { cls := cX, slots := kX.instanceTypes.map defaultValue, vm := .none } = T1 at X₁ st1
  have hcat : (Value.ref T.heap.size).category = 1 := rfl
  have hcellA : T1.heap[T.heap.size]? = some (freshCell cX kX) := by rw [← hT1]; exact State.heap_pushCell_size _ _
  have d3' : decode c.code (pc + 3) = .ok (.dup, 1) := by rw [hb]; exact d3
  have d4' : decode c.code (pc + 4) = .ok (.ldc_w is, 3) := by rw [hb]; exact d4
  have hstr' : vk_R own is text sa s' := vk_R.warm hW0 hstr
  obtain ⟨U, hsteps, hrun, hend, hW, hsame, ce, hce, hO⟩ := X₁.ctorThrowS hexec htr (own := own) (cls := cls) (names := names) (ic := ic) hown' hcls hnames h (fun x hx => nomatch hx) hfX hkX hcellA (by rw [hhp, hT]; exact Nat.le_refl _) (msg := .ref sa) rfl
    (g := { method := m, pc := pc + 7, locals := ls, stack := .ref sa :: .ref T.heap.size :: .ref T.heap.size :: rest, locked := none }) rfl hsize rfl rfl (rest := rest) rfl
    (by rw [hb]; exact d7) (by rw [hb]; exact d10) hout hRframes (by simp only [List.map_cons, List.sum_cons, hcat]; omega) hlocks
  obtain ⟨f1, f2⟩ := vx_frame hsame
  rw [hhp] at f1 f2
  have hWs : s.WarmedH U.vm := State.WarmedH.trans hW0 hW
  have hcl : s.vm.findClass cls = some ce.cls := by
    have h9 := hO.cls
    rw [hvm] at h9
    exact h9
  have hall : s.sameButNew ({ U with vm := s.vm } : State) locs mc ms := by
    subst hA
    obtain ⟨e1, e2⟩ := hsame
    rw [State.setFrames_setFrames] at e1
    have h2 : (T.setVm s.vm).sameButNew ({ U with vm := s.vm } : State) [] (0 + 1) (0 + 6) := ⟨e1, e2⟩
    have h3 := X.same.trans h2
    rw [List.append_nil] at h3
    exact h3.mono hc hs
  refine ⟨U, ?_, .threw T.heap.size, hrun, hend, Or.inr ⟨T.heap.size, rfl, cls, ce, locs, hx U hWs.alike f1 (fun q hq => f2 q hq (fun z hz => nomatch hz)), hce, hO.vm, hcl, hWs, hall, hf⟩⟩
  refine st1 _ ?_
  show Steps p.tables e below (T1.setTop { method := m, pc := pc + 3, locals := ls, stack := .ref T.heap.size :: rest, locked := none }) _
  jvm_step X₁.here [X₁.here.top, hexec, d3', Value.category]
  exact X₁.ldcStringW hexec (own := own) (text := text) (index := is) (a := sa) hown' hstr'.1 hstr'.2
    (g := { method := m, pc := pc + 4, locals := ls, stack := .ref T.heap.size :: .ref T.heap.size :: rest, locked := none }) rfl d4' _ hsteps
end Ends
section Bodies
variable {l : Launch}
theorem vx_ofW {y : MethodName} {ws ws' : List Cond} {rm : Room} {Pc : Array Value → State → Prop} {Qc : Array Value → State → Outcome → State → Prop} {XC : String → State → State → Prop} {mc ms : Nat} {free : Addr → Prop} {cc : ByteArray} {maxL : Nat} {ret : Option FieldType}
    (hy : plainName y.cls = true) (hw : ws = Cond.code y cc maxL ret :: ws')
    (body : ∀ p e s m args below meth c s₁, BodyLoose p l y (headSpec ws rm) cc maxL ret e s m args below meth c s₁ → c.maxLocals = maxL → (∀ x ∈ c.exceptionTable.toList, False) → Pc args s →
      W p l e (headSpec ws rm).room s m args below meth c s.heap [] 0 0 (vx_MQ below Qc XC args s mc ms free) (entryFrame m args maxL)) : vx_Met l y ws rm Pc Qc XC mc ms free := by
  refine MetFree.of_bodyS (code := cc) (maxLocals := maxL) (ret := ret) hy ?_ ?_
  · intro args s m h hn
    obtain ⟨meth, c, h1, h2, h3, h4, h5, h6, -, -⟩ := Cond.code_spec hn (atoms_spec (ws := ws) h _ (by rw [hw]; exact List.mem_cons_self))
    exact ⟨meth, c, h1, h2, h3, h4, h5, h6⟩
  · intro p e s m args below meth c s₁ B hml hP _
    have hh0 : s₁.heap = s.heap := by rw [B.state]; rfl
    have ht : ∀ x ∈ c.exceptionTable.toList, False := by
      obtain ⟨meth9, c9, h1, h2, -, -, -, -, h7, -⟩ := Cond.code_spec B.named (atoms_spec (ws := ws) B.pre _ (by rw [hw]; exact List.mem_cons_self))
      cases Option.some.inj (h1.symm.trans B.method)
      cases Option.some.inj (h2.symm.trans (Stand.of_body B).code)
      intro x hx
      rw [Array.isEmpty_iff.mp h7] at hx
      cases hx
    obtain ⟨t, a1, o, b1, b2, b3⟩ := body p e s m args below meth c s₁ B hml ht hP s₁ hh0 (Stand.of_body B)
    exact ⟨t, o, a1, b1, b2, b3⟩
/-- the table of a body with handlers -/
theorem vx_table {p : Program} {x y : MethodName} {S : Spec} {cc bytes : ByteArray} {maxL maxL' : Nat} {ret ret' : Option FieldType} {e : Env} {s s₁ : State} {m : MethodId} {args : Array Value} {below : List Frame} {meth : Method} {c : Code} {hh : List (Nat × Nat × Nat × Nat)}
    (B : BodyLoose p l y S cc maxL ret e s m args below meth c s₁) (h : (Cond.codeWith y bytes maxL' ret' hh).before args s = true) : c.exceptionTable.toList = tableOf hh := by
  obtain ⟨m9, meth9, c9, hn9, h1, h2, -, -, h6, -⟩ := Cond.codeWith_spec h
  cases Option.some.inj (hn9.symm.trans B.named)
  cases Option.some.inj (h1.symm.trans B.method)
  cases Option.some.inj (h2.symm.trans (Stand.of_body B).code)
  rw [← h6, table_eq]
end Bodies
end VXA
/-! ===== END ===== -/
/-! ===== BEGIN a static call of a method with an exception table ===== -/
section VXS
variable {p : Program} {l : Launch} {e : Env} {R : Room} {s : State} {m : MethodId} {args : Array Value} {below : List Frame} {meth : Method} {c : Code} {T : State} {H : Heap} {locs : List Loc} {cells slots : Nat}
abbrev vx_CSW (R : Room) (s : State) (args : Array Value) (own : String) (index : Nat) (y : MethodName) (bytes : ByteArray) (maxL : Nat) (ret : Option FieldType) (hh : List (Nat × Nat × Nat × Nat)) (ws : List Cond) (rm : Room) (mc ms n : Nat) : Prop :=
  (rm.cells = mc ∧ rm.slots = ms ∧ rm.frames + 1 ≤ R.frames ∧ 8 + (maxL + 11) + rm.locals ≤ R.locals ∧ (∀ w ∈ ws, ∀ (a' : Array Value) (U : State), s.WarmedH U.vm → w.before a' U = true) ∧ Cond.codeWith y bytes maxL ret hh ∈ ws) ∧
  (Cond.codeWith y bytes maxL ret hh).before args s = true ∧ (Cond.initialized y.cls).before args s = true ∧ (y.cls ≠ "java/lang/invoke/MethodHandle" ∧ y.cls ≠ "java/lang/invoke/VarHandle") ∧
  (∀ sig, parseMethodDescriptor y.desc = some sig → n = sig.parameters.length) ∧ (Cond.methodLink own index y).before args s = true ∧ (Cond.static y).before args s = true
theorem vx_cwSW {own : String} {index maxL mc ms : Nat} {y : MethodName} {bytes : ByteArray} {ret : Option FieldType} {hh : List (Nat × Nat × Nat × Nat)} {Ts ws ws' : List Cond} {rm : Room} (n : Nat) (ht : ∀ w ∈ Ts, w.before args s = true) (hT : GoodIn Ts (va_wsS own index y ws)) (hw : ws = Cond.codeWith y bytes maxL ret hh :: ws') (hrc : rm.cells = mc) (hrs : rm.slots = ms)
    (hd : y.cls ≠ "java/lang/invoke/MethodHandle" ∧ y.cls ≠ "java/lang/invoke/VarHandle" ∧ (parseMethodDescriptor y.desc).map (fun d => d.parameters.length) = some n) (hR : rm.frames + 1 ≤ R.frames ∧ 8 + (maxL + 11) + rm.locals ≤ R.locals) :
    vx_CSW R s args own index y bytes maxL ret hh ws rm mc ms n := by
  have ok : ∀ w ∈ va_wsS own index y ws, w.before args s = true := fun w h => ht w (hT w h).1
  have hG : GoodIn Ts ws := fun w h => hT w (by unfold va_wsS; exact List.mem_append_right _ h)
  have hc : Cond.codeWith y bytes maxL ret hh ∈ ws := by rw [hw]; exact List.mem_cons_self
  refine ⟨⟨hrc, hrs, hR.1, hR.2, pay_in ht hG, hc⟩, ht _ (hG _ hc).1, ok _ (by simp [va_wsS]), ⟨hd.1, hd.2.1⟩, fun sig h => ?_, ok _ (by simp [va_wsS]), ok _ (by simp [va_wsS])⟩
  have h2 := hd.2.2
  rw [h] at h2
  exact (Option.some.inj h2).symm
theorem vx_callSW (X : Stand p l e R s m args below meth c T locs cells slots) (hexec : p.tables.exec = Jvm.exec) {own : String} {index : Nat} {y : MethodName} {bytes : ByteArray} {maxL : Nat} {ret : Option FieldType} {hh : List (Nat × Nat × Nat × Nat)}
    (hown : s.vm.findClass own = some m.cls) (hlink : (Cond.methodLink own index y).before args s = true) (hstat : (Cond.static y).before args s = true) (hinit : (Cond.initialized y.cls).before args s = true)
    (hcode : (Cond.codeWith y bytes maxL ret hh).before args s = true) (hy : y.cls ≠ "java/lang/invoke/MethodHandle" ∧ y.cls ≠ "java/lang/invoke/VarHandle")
    {W9 : Nat} {Pre : Pt → Array Value → Prop} {Post : Pt → Array Value → Option Value → Pt → Prop} (hK : Back l R p e below s args y 3 W9 Pre Post)
    {g : JFrame} (hg : g.method = m) (hsize : g.locals.size = c.maxLocals) {argsL rest : List Value} (hlen : ∀ sig, parseMethodDescriptor y.desc = some sig → argsL.length = sig.parameters.length)
    (hstack : g.stack = argsL.reverse ++ rest) (hW : 2 * g.monitorRoom + (rest.map fun v => v.category).sum ≤ W9) (hdg : decode c.code g.pc = .ok (.invokestatic index, 3))
    (hpre : ∀ vm₁, s.WarmedH vm₁ → Pre ⟨T.setVm vm₁, locs, cells, slots⟩ argsL.toArray) :
    ∃ (v : Option Value) (vm₁ : Vm) (B : Pt), s.WarmedH vm₁ ∧ Stand p l e R s m args below meth c B.U B.locs B.cells B.slots ∧ Post ⟨T.setVm vm₁, locs, cells, slots⟩ argsL.toArray v B ∧
      ∀ target, Steps p.tables e below (B.U.setTop { g with pc := g.pc + 3, stack := v.toList ++ rest }) target → Steps p.tables e below (T.setTop g) target := by
  obtain ⟨mk, methM, cM, hnamed, hmethM, -, -, -, -, -, -, hsigM⟩ := Cond.codeWith_spec hcode
  have hstatic : methM.isStatic = true := Cond.static_spec hnamed hmethM hstat
  obtain ⟨kP, hkP, -⟩ := className_of_methodNamed hnamed
  have hinitP : kP.init = .initialized := Cond.initialized_spec (findClass_of_methodNamed hnamed) hkP hinit
  obtain ⟨vm₁, X₁, hstep₁⟩ := X.invokestatic hexec hown hlink hnamed hmethM hstatic hkP hinitP hy (g := g) hg (argsL := argsL) (rest := rest) (hlen _ hsigM) hstack hdg
  obtain ⟨v, B, X', hpost, hsteps⟩ := hK m meth c ⟨T.setVm vm₁, locs, cells, slots⟩ { g with stack := rest } (.invokestatic index) mk argsL.toArray X₁ hg hsize hdg hW (X₁.named hnamed) (hpre vm₁ X₁.warmed)
  exact ⟨v, vm₁, B, X₁.warmed, X', hpost, fun target h => hstep₁ _ fun acts => by rw [doInvoke_state]; exact hsteps.trans h⟩
theorem vx_runSW {y : MethodName} {bytes cc : ByteArray} {maxL nL mc ms n index : Nat} {ret : Option FieldType} {hh : List (Nat × Nat × Nat × Nat)} {ws : List Cond} {rm : Room} {Pc : Array Value → State → Prop} {Qc : Array Value → State → Outcome → State → Prop} {free : Addr → Prop} {Ts : List Cond} {own : String} {As rest : List Value} {g : JFrame}
    (S : CallFix p m c cc nL s args Ts own) (hM : Met l y ws rm Pc Qc mc ms free) (cw : vx_CSW R s args own index y bytes maxL ret hh ws rm mc ms n) (hp : PreS s H Pc As)
    (hg : g.method = m) (hn : As.length = n) (hsize : g.locals.size = nL) (hstack : g.stack = As.reverse ++ rest) (hW : 2 * g.monitorRoom + (rest.map fun v => v.category).sum ≤ 8) (hdg : decode cc g.pc = .ok (.invokestatic index, 3)) (hf : cells + mc ≤ R.cells ∧ slots + ms ≤ R.slots) :
    va_Run p l e R s m args below meth c H locs cells slots mc ms g rest (Qc As.toArray) (free) := by
  obtain ⟨⟨hrc, hrs, hfr, hlo, hws, hcw⟩, hcode, hini, hy, hlen, hl, hstt⟩ := cw
  have hK : Back l R p e below s args y 3 8 (PreOf R mc ms Pc) (PostOf Qc mc ms free) := va_backW (hh := hh) (bytes := bytes) (maxL := maxL) (ret := ret) hM hp.1 hrc hrs hfr hlo hws hcw (fun a' U hW => word_at hW (Or.inl (by first | rfl | simp [Cond.onTables, Cond.keeps, Cond.steady])) hini)
  obtain ⟨hx, hb, hml, ho, -⟩ := S
  intro T hT X
  obtain ⟨v, vm₁, ⟨U', l2, c2, s2⟩, hW₁, X', ⟨g', mk, t, L, e1, e2, hq, h1, hL, h2, h3⟩, st⟩ := vx_callSW X hx (hh := hh) (bytes := bytes) (maxL := maxL) (ret := ret) ho hl hstt hini hcode hy hK hg (hsize.trans hml.symm) (argsL := As) (rest := rest) (fun sig h => hn.trans (hlen sig h)) hstack hW (by rw [hb]; exact hdg)
    (fun vm₁ hW₁ => ⟨hf.1, hf.2, hp.2 (T.setVm vm₁) hT hW₁⟩)
  dsimp only [Pt.U, Pt.locs, Pt.cells, Pt.slots] at X' e1 e2 h1 h2 h3 st
  subst h1; subst h2; subst h3
  exact ⟨v, (T.setVm vm₁).calling g' mk As.toArray, t, U', L, hT, X', hL, e1, e2, hq, st⟩
/-- not caught here, past rows that name other classes: it goes on to the caller -/
theorem vx_outP {p : Program} {l : Launch} {e : Env} {R : Room} {s : State} {m : MethodId} {args : Array Value} {below : List Frame} {meth : Method} {c : Code} {H : Heap} {locs : List Loc} {cells slots : Nat} {free : Addr → Prop} {ls : Array Slot} {rest : List Value} {Qc : Array Value → State → Outcome → State → Prop} {XC : String → State → State → Prop}
    {pc : Nat} {own E : String} {ce : Cell} {q : Addr} {mc ms : Nat} (hown : s.vm.findClass own = some m.cls) (hlocks : meth.locks = false)
    (hpass : ∀ z ∈ c.exceptionTable.toList, covers z pc = false ∨ (z.catchType ≠ 0 ∧ ∃ nm : String, (Cond.classLink own z.catchType nm).before args s = true ∧ va_Nc E nm s)) (hcell : H[q]? = some ce) (hv : ce.vm = .none) (hcl : s.vm.findClass E = some ce.cls)
    (hx : ∀ t : State, t.heap = H → s.vm.Alike t.vm → XC E s t) (hf : ∀ z ∈ locs, free z.base) (hc : cells ≤ mc) (hs : slots ≤ ms) :
    vx_W p l e R s m args below meth c H locs cells slots (vx_MQ below Qc XC args s mc ms free) (F0 m pc ls rest) q := by
  intro T hT X
  have hpl : e.platform.magicAccessors = ({} : Platform).magicAccessors := by rw [X.admits.platform]
  obtain ⟨vm', hW', X', st⟩ := X.outThrough hlocks q (g := F0 m pc ls rest) rfl rfl rfl (cell := ce) (by rw [hT]; exact hcell) (by rw [hv]; rfl)
    (by obtain ⟨k9, h9, -⟩ := Vm.findClass_spec hcl; exact ⟨k9, h9⟩) (fun z hz => by
      rcases hpass z hz with h | ⟨hz0, nm, hl1, hn1⟩
      · exact Or.inl h
      · obtain ⟨c6, hc6, hcl6⟩ := Cond.classLink_spec hown hl1 e.platform hpl
        obtain ⟨a8, b8, h1, h2, h3⟩ := hn1
        cases Option.some.inj (h1.symm.trans hcl)
        cases Option.some.inj (h2.symm.trans hc6)
        exact Or.inr ⟨hz0, _, hcl6, h3⟩)
  obtain ⟨g₀, hfr⟩ := X'.frames_eq
  have hcell9 : ((T.setVm vm').setFrames (.throwing q :: below)).heap[q]? = some ce := by
    show T.heap[q]? = some ce
    rw [hT]; exact hcell
  have hend : Ended ((T.setVm vm').setFrames (.throwing q :: below)) below (.threw q) := State.frames_setFrames _ (State.cur_lt_of_frames hfr)
  refine ⟨(T.setVm vm').setFrames (.throwing q :: below), ?_, .threw q, X'.here.running, hend, Or.inr ⟨q, rfl, E, ce, locs, hx _ hT (X'.ends _).1.alike, hcell9, hv, hcl, (X'.ends _).1, (X'.ends _).2.mono hc hs, hf⟩⟩
  rw [X.pushThrowing_eq]
  exact st
/-- a thing of a world lies in the heap -/
theorem vx_lt {D : va_G} {cl : List vw_C} {ws : va_W} {H1 : Heap} (h : va_P D cl ws H1) {k : Nat} {q : Nat × va_E} (hk : ws[k]? = some q) : q.1 < H1.size := (h k q hk).lt
end VXS
/-! ===== END ===== -/
/-! ===== BEGIN methods with a table of their own: called by a name, returning or throwing ===== -/
section VXH
/-! vx_backW, vx_callVX, vx_callSX, vx_callVW, vx_runVW, vx_runVX, vx_runSX, vx_ofWH follow the same proofs as their sisters above (Free/Laws.lean, Shelf42/LK1.lean); vx_outP calls Shelf42/NT130.lean (outThrough). -/
section
variable {l : Launch} {R : Room} {p : Program} {e : Env} {below : List Frame} {s : State} {sargs : Array Value} {y : MethodName} {len W9 : Nat}
theorem vx_backW {ws : List Cond} {rm : Room} {Pc : Array Value → State → Prop} {Qc : Array Value → State → Outcome → State → Prop} {XC : String → State → State → Prop} {mc ms : Nat} {free : Addr → Prop} {bytes : ByteArray} {maxL : Nat} {ret : Option FieldType} {hh : List (Nat × Nat × Nat × Nat)}
    (hM : vx_Met l y ws rm Pc Qc XC mc ms free) (hblind : FrameBlind Pc) (hrc : rm.cells = mc) (hrs : rm.slots = ms)
    (hframes : rm.frames + 1 ≤ R.frames) (hlocals : W9 + (maxL + 11) + rm.locals ≤ R.locals)
    (hws : ∀ w ∈ ws, ∀ a' U, s.WarmedH U.vm → w.before a' U = true) (hcode : Cond.codeWith y bytes maxL ret hh ∈ ws) (hinit : ∀ a' U, s.WarmedH U.vm → (Cond.initialized y.cls).before a' U = true) :
    vx_Back l R p e below s sargs y len W9 (PreOf R mc ms Pc) (PostOf Qc mc ms free) (vx_Post XC mc ms free) := by
  intro m meth c A g ig mk a X hg hsize hdg hW hn hp
  have h1 : (headSpec ws rm).pre.before a A.U = true := atoms_intro fun w hw => hws w hw _ _ X.warmed
  have h2 : (Cond.codeWith y bytes maxL ret hh).before a A.U = true := hws _ hcode _ _ X.warmed
  have h3 : (Cond.initialized y.cls).before a A.U = true := hinit _ _ X.warmed
  have h4 : A.cells + (headSpec ws rm).room.cells ≤ R.cells := by rw [show (headSpec ws rm).room.cells = mc from hrc]; exact hp.1
  have h5 : A.slots + (headSpec ws rm).room.slots ≤ R.slots := by rw [show (headSpec ws rm).room.slots = ms from hrs]; exact hp.2.1
  have hPc : Pc a (A.U.calling g mk a) := hblind _ _ _ _ hp.2.2
  obtain ⟨U, Ls, c0, s0⟩ := A
  dsimp only [Pt.U, Pt.locs, Pt.cells, Pt.slots] at h1 h2 h3 h4 h5 X hn hPc ⊢
  obtain ⟨m9, methY, cY, hn9, hmY, hcY, -, hlY, -⟩ := Cond.codeWith_spec h2
  cases Option.some.inj (hn9.symm.trans hn)
  obtain ⟨kY, hkY, -⟩ := className_of_methodNamed hn
  have hinitY : kY.init = .initialized := Cond.initialized_spec (findClass_of_methodNamed hn) hkY h3
  have h : At U g.method c below := by rw [hg]; exact X.here
  have hlocals9 : W9 + (maxL + 11) + (headSpec ws rm).room.locals ≤ R.locals := hlocals
  have happ : (headSpec ws rm).appliesLoose y e.platform (U.calling g mk a) = true :=
    Spec.appliesLoose_calling (g := g) h hdg hn hkY hinitY
      (X.room_calling (g := g) (R' := (headSpec ws rm).room) hsize hmY hcY hframes (by rw [hlY]; omega) h4 h5) h1
  obtain ⟨mid, hmid⟩ := h.above
  have hfr : (U.setTop g).frames = (.java g :: mid) ++ below := by rw [State.frames_setTop' g h.top, hmid]; rfl
  obtain ⟨o, s₂, hsteps, -, hend, hq⟩ := Steps.callFree hM p X.admits X.cas X.clock (acts := []) hfr happ hPc trivial
  have hq' : vx_Q Qc XC mc ms free a (U.calling g mk a) o s₂ := hq
  rw [State.frames_setTop' g h.top] at hend
  obtain ⟨g₀, hg0⟩ := Option.isSome_iff_exists.mp h.top
  obtain ⟨r, hr⟩ := State.topJava?_eq_some.mp hg0
  have hr' : (({ U with heap := s₂.heap, slotsUsed := s₂.slotsUsed } : State).setVm s₂.vm).frames = .java g₀ :: r := hr
  rcases hq' with ⟨hqc, L, hfe, hL⟩ | ⟨q, rfl, E, ce, L, hx, hce, hcv, hcl, hW₂, hsm, hL⟩
  · obtain ⟨⟨v, rfl⟩, hW₂, e2, q2, q3, q4, q5, q6⟩ := id hfe
    have e3 : s₂ = ({ (U.calling g mk a).setFrames s₂.frames with heap := s₂.heap, slotsUsed := s₂.slotsUsed } : State).setVm s₂.vm := by
      have : s₂ = ({ s₂ with vm := (U.calling g mk a).vm } : State).setVm s₂.vm := rfl
      rw [e2] at this
      exact this
    obtain ⟨c₂, i₂, len₂, hc₂, hd₂, hf₂⟩ := hend
    have hW' : U.WarmedH s₂.vm := hW₂
    have hcc : c₂ = c := by
      have h1 : s₂.code? g.method = U.code? g.method := by
        rw [State.code?_eq, State.code?_eq, hW'.alike.method?]
      exact Option.some.inj (hc₂.symm.trans (h1.trans h.code))
    subst hcc
    have hlen : len₂ = len := by rw [hdg] at hd₂; cases hd₂; rfl
    subst hlen
    have hs₂ : s₂ = (({ U with heap := s₂.heap, slotsUsed := s₂.slotsUsed } : State).setVm s₂.vm).setTop { g with pc := g.pc + len₂, stack := v.toList ++ g.stack } := by
      refine e3.trans ?_
      rw [hf₂, State.calling_eq h.top, State.setFrames_setFrames, State.setTop_of_frames _ hr', hr]
      rfl
    have hsame : U.sameButNew ({ U with heap := s₂.heap, slotsUsed := s₂.slotsUsed } : State) L mc ms := by
      refine ⟨?_, q2, q3, q4, q5, q6⟩
      obtain ⟨t, ht, -⟩ := State.frames_cons hr
      show ({ U with heap := s₂.heap, slotsUsed := s₂.slotsUsed } : State) = { U.setFrames U.frames with heap := s₂.heap, slotsUsed := s₂.slotsUsed }
      rw [State.setFrames_self ht]
    subst hg
    refine Or.inl ⟨v, ⟨(({ U with heap := s₂.heap, slotsUsed := s₂.slotsUsed } : State).setVm s₂.vm), Ls ++ L, c0 + mc, s0 + ms⟩,
      ⟨X.admits, X.cas, X.clock, X.frames, X.room, X.hears, X.method, X.code, (X.here.setHeapUsed s₂.heap s₂.slotsUsed).setVm hW'.alike, X.tail, State.WarmedH.trans X.warmed hW', X.limits, X.bytes, X.same.trans (hsame.setVm s.vm)⟩,
      ⟨g, mk, s₂, L, rfl, rfl, hqc, rfl, hL, rfl, rfl⟩, ?_⟩
    show Steps p.tables e below _ ((({ U with heap := s₂.heap, slotsUsed := s₂.slotsUsed } : State).setVm s₂.vm).setTop { g with pc := g.pc + len₂, stack := v.toList ++ g.stack })
    rw [← hs₂]
    exact hsteps
  · obtain ⟨e2, q2, q3, q4, q5, q6⟩ := id hsm
    have e3 : s₂ = ({ (U.calling g mk a).setFrames s₂.frames with heap := s₂.heap, slotsUsed := s₂.slotsUsed } : State).setVm s₂.vm := by
      have : s₂ = ({ s₂ with vm := (U.calling g mk a).vm } : State).setVm s₂.vm := rfl
      rw [e2] at this
      exact this
    have hf₂ : s₂.frames = .throwing q :: .java g :: U.frames.tail := hend
    have hW' : U.WarmedH s₂.vm := hW₂
    have hs₂ : s₂ = ((({ U with heap := s₂.heap, slotsUsed := s₂.slotsUsed } : State).setVm s₂.vm).setTop g).pushFrame (.throwing q) := by
      refine e3.trans ?_
      rw [hf₂, State.calling_eq h.top, State.setFrames_setFrames, State.pushFrame, State.frames_setTop _ hr', State.setTop_of_frames _ hr', State.setFrames_setFrames, hr]
      rfl
    have hsame : U.sameButNew ({ U with heap := s₂.heap, slotsUsed := s₂.slotsUsed } : State) L mc ms := by
      refine ⟨?_, q2, q3, q4, q5, q6⟩
      obtain ⟨t, ht, -⟩ := State.frames_cons hr
      show ({ U with heap := s₂.heap, slotsUsed := s₂.slotsUsed } : State) = { U.setFrames U.frames with heap := s₂.heap, slotsUsed := s₂.slotsUsed }
      rw [State.setFrames_self ht]
    subst hg
    refine Or.inr ⟨q, ⟨(({ U with heap := s₂.heap, slotsUsed := s₂.slotsUsed } : State).setVm s₂.vm), Ls ++ L, c0 + mc, s0 + ms⟩,
      ⟨X.admits, X.cas, X.clock, X.frames, X.room, X.hears, X.method, X.code, (X.here.setHeapUsed s₂.heap s₂.slotsUsed).setVm hW'.alike, X.tail, State.WarmedH.trans X.warmed hW', X.limits, X.bytes, X.same.trans (hsame.setVm s.vm)⟩,
      ⟨g, mk, s₂, L, E, ce, rfl, rfl, hx, hce, hcv, hcl, rfl, hL, rfl, rfl⟩, ?_⟩
    show Steps p.tables e below _ (((({ U with heap := s₂.heap, slotsUsed := s₂.slotsUsed } : State).setVm s₂.vm).setTop g).pushFrame (.throwing q))
    rw [← hs₂]
    exact hsteps
end
variable {p : Program} {l : Launch} {e : Env} {R : Room} {s : State} {m : MethodId} {args : Array Value} {below : List Frame} {meth : Method} {c : Code} {T : State} {H : Heap} {locs : List Loc} {cells slots : Nat}
theorem vx_callVX (X : Stand p l e R s m args below meth c T locs cells slots) (hexec : p.tables.exec = Jvm.exec) {own C : String} {index : Nat} {y : MethodName} {bytes : ByteArray} {maxL : Nat} {ret : Option FieldType} {hh : List (Nat × Nat × Nat × Nat)}
    (hown : s.vm.findClass own = some m.cls) (hlink : (Cond.methodLink own index y).before args s = true) (hinst : (Cond.instanceMethod y).before args s = true) (hsel : (Cond.selects C y y).before args s = true)
    (hcode : (Cond.codeWith y bytes maxL ret hh).before args s = true) (hy : y.cls ≠ "java/lang/invoke/MethodHandle" ∧ y.cls ≠ "java/lang/invoke/VarHandle")
    {W9 : Nat} {Pre : Pt → Array Value → Prop} {Post : Pt → Array Value → Option Value → Pt → Prop} {PostX : Pt → Array Value → Addr → Pt → Prop} (hK : vx_Back l R p e below s args y 3 W9 Pre Post PostX)
    {b : Addr} {cellB : Cell} (hcell : T.heap[b]? = some cellB) (hobj : cellB.vm.isStatics = false) (hcls : s.vm.findClass C = some cellB.cls)
    {g : JFrame} (hg : g.method = m) (hsize : g.locals.size = c.maxLocals) {argsL rest : List Value} (hlen : ∀ sig, parseMethodDescriptor y.desc = some sig → argsL.length = sig.parameters.length)
    (hstack : g.stack = argsL.reverse ++ .ref b :: rest) (hW : 2 * g.monitorRoom + (rest.map fun v => v.category).sum ≤ W9) (hdg : decode c.code g.pc = .ok (.invokevirtual index, 3))
    (hpre : ∀ vm₁, s.WarmedH vm₁ → Pre ⟨T.setVm vm₁, locs, cells, slots⟩ (Value.ref b :: argsL).toArray) :
    (∃ (v : Option Value) (vm₁ : Vm) (B : Pt), s.WarmedH vm₁ ∧ Stand p l e R s m args below meth c B.U B.locs B.cells B.slots ∧ Post ⟨T.setVm vm₁, locs, cells, slots⟩ (Value.ref b :: argsL).toArray v B ∧
      ∀ target, Steps p.tables e below (B.U.setTop { g with pc := g.pc + 3, stack := v.toList ++ rest }) target → Steps p.tables e below (T.setTop g) target) ∨
    (∃ (q : Addr) (vm₁ : Vm) (B : Pt), s.WarmedH vm₁ ∧ Stand p l e R s m args below meth c B.U B.locs B.cells B.slots ∧ PostX ⟨T.setVm vm₁, locs, cells, slots⟩ (Value.ref b :: argsL).toArray q B ∧
      Steps p.tables e below (T.setTop g) ((B.U.setTop { g with stack := rest }).pushFrame (.throwing q))) := by
  obtain ⟨mk, methM, hnamed, hmethM, hstM, habM⟩ := Cond.instanceMethod_spec hinst
  obtain ⟨m8, methM', cM, hn8, hmethM', -, -, -, -, -, -, hsigM⟩ := Cond.codeWith_spec hcode
  cases Option.some.inj (hn8.symm.trans hnamed)
  cases hmethM.symm.trans hmethM'
  obtain ⟨c2, r2, m2, q1, q2, q3, q4, kP, hkP, hkPi⟩ := Cond.selects_spec hsel
  cases hcls.symm.trans q1
  cases (State.methodFound?_of_named hnamed hy).symm.trans q2
  cases hnamed.symm.trans q3
  have hselP : selectMethod e.platform s.vm cellB.cls mk = .method mk := by rw [Launch.admits_selectMethod X.admits]; exact q4
  obtain ⟨vm₁, X₁, hstep₁⟩ := X.invokevirtual hexec hown hlink hnamed hmethM hstM hkP hkPi hy (a := b) (cell := cellB) hcell
    (fun z h => by rw [h] at hobj; cases hobj) hselP hmethM habM hkP hkPi (g := g) hg (argsL := argsL) (rest := rest) (hlen _ hsigM) hstack hdg
  rcases hK m meth c ⟨T.setVm vm₁, locs, cells, slots⟩ { g with stack := rest } (.invokevirtual index) mk (Value.ref b :: argsL).toArray X₁ hg hsize hdg hW (X₁.named hnamed) (hpre vm₁ X₁.warmed) with ⟨v, B, X', hpost, hsteps⟩ | ⟨q, B, X', hpost, hsteps⟩
  · exact Or.inl ⟨v, vm₁, B, X₁.warmed, X', hpost, fun target h => hstep₁ _ fun acts => by rw [doInvoke_state]; exact hsteps.trans h⟩
  · exact Or.inr ⟨q, vm₁, B, X₁.warmed, X', hpost, hstep₁ _ fun acts => by rw [doInvoke_state]; exact hsteps⟩
theorem vx_callSX (X : Stand p l e R s m args below meth c T locs cells slots) (hexec : p.tables.exec = Jvm.exec) {own : String} {index : Nat} {y : MethodName} {bytes : ByteArray} {maxL : Nat} {ret : Option FieldType} {hh : List (Nat × Nat × Nat × Nat)}
    (hown : s.vm.findClass own = some m.cls) (hlink : (Cond.methodLink own index y).before args s = true) (hstat : (Cond.static y).before args s = true) (hinit : (Cond.initialized y.cls).before args s = true)
    (hcode : (Cond.codeWith y bytes maxL ret hh).before args s = true) (hy : y.cls ≠ "java/lang/invoke/MethodHandle" ∧ y.cls ≠ "java/lang/invoke/VarHandle")
    {W9 : Nat} {Pre : Pt → Array Value → Prop} {Post : Pt → Array Value → Option Value → Pt → Prop} {PostX : Pt → Array Value → Addr → Pt → Prop} (hK : vx_Back l R p e below s args y 3 W9 Pre Post PostX)
    {g : JFrame} (hg : g.method = m) (hsize : g.locals.size = c.maxLocals) {argsL rest : List Value} (hlen : ∀ sig, parseMethodDescriptor y.desc = some sig → argsL.length = sig.parameters.length)
    (hstack : g.stack = argsL.reverse ++ rest) (hW : 2 * g.monitorRoom + (rest.map fun v => v.category).sum ≤ W9) (hdg : decode c.code g.pc = .ok (.invokestatic index, 3))
    (hpre : ∀ vm₁, s.WarmedH vm₁ → Pre ⟨T.setVm vm₁, locs, cells, slots⟩ argsL.toArray) :
    (∃ (v : Option Value) (vm₁ : Vm) (B : Pt), s.WarmedH vm₁ ∧ Stand p l e R s m args below meth c B.U B.locs B.cells B.slots ∧ Post ⟨T.setVm vm₁, locs, cells, slots⟩ argsL.toArray v B ∧
      ∀ target, Steps p.tables e below (B.U.setTop { g with pc := g.pc + 3, stack := v.toList ++ rest }) target → Steps p.tables e below (T.setTop g) target) ∨
    (∃ (q : Addr) (vm₁ : Vm) (B : Pt), s.WarmedH vm₁ ∧ Stand p l e R s m args below meth c B.U B.locs B.cells B.slots ∧ PostX ⟨T.setVm vm₁, locs, cells, slots⟩ argsL.toArray q B ∧
      Steps p.tables e below (T.setTop g) ((B.U.setTop { g with stack := rest }).pushFrame (.throwing q))) := by
  obtain ⟨mk, methM, cM, hnamed, hmethM, -, -, -, -, -, -, hsigM⟩ := Cond.codeWith_spec hcode
  have hstatic : methM.isStatic = true := Cond.static_spec hnamed hmethM hstat
  obtain ⟨kP, hkP, -⟩ := className_of_methodNamed hnamed
  have hinitP : kP.init = .initialized := Cond.initialized_spec (findClass_of_methodNamed hnamed) hkP hinit
  obtain ⟨vm₁, X₁, hstep₁⟩ := X.invokestatic hexec hown hlink hnamed hmethM hstatic hkP hinitP hy (g := g) hg (argsL := argsL) (rest := rest) (hlen _ hsigM) hstack hdg
  rcases hK m meth c ⟨T.setVm vm₁, locs, cells, slots⟩ { g with stack := rest } (.invokestatic index) mk argsL.toArray X₁ hg hsize hdg hW (X₁.named hnamed) (hpre vm₁ X₁.warmed) with ⟨v, B, X', hpost, hsteps⟩ | ⟨q, B, X', hpost, hsteps⟩
  · exact Or.inl ⟨v, vm₁, B, X₁.warmed, X', hpost, fun target h => hstep₁ _ fun acts => by rw [doInvoke_state]; exact hsteps.trans h⟩
  · exact Or.inr ⟨q, vm₁, B, X₁.warmed, X', hpost, hstep₁ _ fun acts => by rw [doInvoke_state]; exact hsteps⟩
theorem vx_callVW (X : Stand p l e R s m args below meth c T locs cells slots) (hexec : p.tables.exec = Jvm.exec) {own C : String} {index : Nat} {y : MethodName} {bytes : ByteArray} {maxL : Nat} {ret : Option FieldType} {hh : List (Nat × Nat × Nat × Nat)}
    (hown : s.vm.findClass own = some m.cls) (hlink : (Cond.methodLink own index y).before args s = true) (hinst : (Cond.instanceMethod y).before args s = true) (hsel : (Cond.selects C y y).before args s = true)
    (hcode : (Cond.codeWith y bytes maxL ret hh).before args s = true) (hy : y.cls ≠ "java/lang/invoke/MethodHandle" ∧ y.cls ≠ "java/lang/invoke/VarHandle")
    {W9 : Nat} {Pre : Pt → Array Value → Prop} {Post : Pt → Array Value → Option Value → Pt → Prop} (hK : Back l R p e below s args y 3 W9 Pre Post)
    {b : Addr} {cellB : Cell} (hcell : T.heap[b]? = some cellB) (hobj : cellB.vm.isStatics = false) (hcls : s.vm.findClass C = some cellB.cls)
    {g : JFrame} (hg : g.method = m) (hsize : g.locals.size = c.maxLocals) {argsL rest : List Value} (hlen : ∀ sig, parseMethodDescriptor y.desc = some sig → argsL.length = sig.parameters.length)
    (hstack : g.stack = argsL.reverse ++ .ref b :: rest) (hW : 2 * g.monitorRoom + (rest.map fun v => v.category).sum ≤ W9) (hdg : decode c.code g.pc = .ok (.invokevirtual index, 3))
    (hpre : ∀ vm₁, s.WarmedH vm₁ → Pre ⟨T.setVm vm₁, locs, cells, slots⟩ (Value.ref b :: argsL).toArray) :
    ∃ (v : Option Value) (vm₁ : Vm) (B : Pt), s.WarmedH vm₁ ∧ Stand p l e R s m args below meth c B.U B.locs B.cells B.slots ∧ Post ⟨T.setVm vm₁, locs, cells, slots⟩ (Value.ref b :: argsL).toArray v B ∧
      ∀ target, Steps p.tables e below (B.U.setTop { g with pc := g.pc + 3, stack := v.toList ++ rest }) target → Steps p.tables e below (T.setTop g) target := by
  obtain ⟨mk, methM, hnamed, hmethM, hstM, habM⟩ := Cond.instanceMethod_spec hinst
  obtain ⟨m8, methM', cM, hn8, hmethM', -, -, -, -, -, -, hsigM⟩ := Cond.codeWith_spec hcode
  cases Option.some.inj (hn8.symm.trans hnamed)
  cases hmethM.symm.trans hmethM'
  obtain ⟨c2, r2, m2, q1, q2, q3, q4, kP, hkP, hkPi⟩ := Cond.selects_spec hsel
  cases hcls.symm.trans q1
  cases (State.methodFound?_of_named hnamed hy).symm.trans q2
  cases hnamed.symm.trans q3
  have hselP : selectMethod e.platform s.vm cellB.cls mk = .method mk := by rw [Launch.admits_selectMethod X.admits]; exact q4
  obtain ⟨vm₁, X₁, hstep₁⟩ := X.invokevirtual hexec hown hlink hnamed hmethM hstM hkP hkPi hy (a := b) (cell := cellB) hcell
    (fun z h => by rw [h] at hobj; cases hobj) hselP hmethM habM hkP hkPi (g := g) hg (argsL := argsL) (rest := rest) (hlen _ hsigM) hstack hdg
  obtain ⟨v, B, X', hpost, hsteps⟩ := hK m meth c ⟨T.setVm vm₁, locs, cells, slots⟩ { g with stack := rest } (.invokevirtual index) mk (Value.ref b :: argsL).toArray X₁ hg hsize hdg hW (X₁.named hnamed) (hpre vm₁ X₁.warmed)
  exact ⟨v, vm₁, B, X₁.warmed, X', hpost, fun target h => hstep₁ _ fun acts => by rw [doInvoke_state]; exact hsteps.trans h⟩
abbrev vx_CVW (R : Room) (s : State) (args : Array Value) (own C : String) (index : Nat) (y : MethodName) (bytes : ByteArray) (maxL : Nat) (ret : Option FieldType) (hh : List (Nat × Nat × Nat × Nat)) (ws : List Cond) (rm : Room) (mc ms n : Nat) : Prop :=
  (rm.cells = mc ∧ rm.slots = ms ∧ rm.frames + 1 ≤ R.frames ∧ 8 + (maxL + 11) + rm.locals ≤ R.locals ∧ (∀ w ∈ ws, ∀ (a' : Array Value) (U : State), s.WarmedH U.vm → w.before a' U = true) ∧ Cond.codeWith y bytes maxL ret hh ∈ ws) ∧
  (Cond.codeWith y bytes maxL ret hh).before args s = true ∧ (Cond.initialized y.cls).before args s = true ∧ (y.cls ≠ "java/lang/invoke/MethodHandle" ∧ y.cls ≠ "java/lang/invoke/VarHandle") ∧
  (∀ sig, parseMethodDescriptor y.desc = some sig → n = sig.parameters.length) ∧ (Cond.methodLink own index y).before args s = true ∧ (Cond.instanceMethod y).before args s = true ∧ (Cond.selects C y y).before args s = true
theorem vx_cwVW {own C : String} {index maxL mc ms : Nat} {y : MethodName} {bytes : ByteArray} {ret : Option FieldType} {hh : List (Nat × Nat × Nat × Nat)} {Ts ws ws' : List Cond} {rm : Room} (n : Nat) (ht : ∀ w ∈ Ts, w.before args s = true) (hT : GoodIn Ts (wsV own index C y ws)) (hw : ws = Cond.codeWith y bytes maxL ret hh :: ws') (hrc : rm.cells = mc) (hrs : rm.slots = ms)
    (hd : y.cls = C ∧ y.cls ≠ "java/lang/invoke/MethodHandle" ∧ y.cls ≠ "java/lang/invoke/VarHandle" ∧ (parseMethodDescriptor y.desc).map (fun d => d.parameters.length) = some n) (hR : rm.frames + 1 ≤ R.frames ∧ 8 + (maxL + 11) + rm.locals ≤ R.locals) :
    vx_CVW R s args own C index y bytes maxL ret hh ws rm mc ms n := by
  obtain ⟨hC, hd⟩ := hd
  subst hC
  have ok : ∀ w ∈ wsV own index y.cls y ws, w.before args s = true := fun w h => ht w (hT w h).1
  have hG : GoodIn Ts ws := fun w h => hT w (by unfold wsV; exact List.mem_append_right _ h)
  have hc : Cond.codeWith y bytes maxL ret hh ∈ ws := by rw [hw]; exact List.mem_cons_self
  refine ⟨⟨hrc, hrs, hR.1, hR.2, pay_in ht hG, hc⟩, ht _ (hG _ hc).1, ok _ (by simp [wsV]), ⟨hd.1, hd.2.1⟩, fun sig h => ?_, ok _ (by simp [wsV]), ok _ (by simp [wsV]), ok _ (by simp [wsV])⟩
  have h2 := hd.2.2
  rw [h] at h2
  exact (Option.some.inj h2).symm
theorem vx_runVW {y : MethodName} {bytes cc : ByteArray} {maxL nL mc ms n index : Nat} {ret : Option FieldType} {hh : List (Nat × Nat × Nat × Nat)} {ws : List Cond} {rm : Room} {Pc : Array Value → State → Prop} {Qc : Array Value → State → Outcome → State → Prop} {free : Addr → Prop} {Ts : List Cond} {own C : String} {b : Addr} {As rest : List Value} {g : JFrame}
    (S : CallFix p m c cc nL s args Ts own) (hM : Met l y ws rm Pc Qc mc ms free) (cw : vx_CVW R s args own C index y bytes maxL ret hh ws rm mc ms n) (hp : PreV s H C b Pc As)
    (hg : g.method = m) (hn : As.length = n) (hsize : g.locals.size = nL) (hstack : g.stack = As.reverse ++ .ref b :: rest) (hW : 2 * g.monitorRoom + (rest.map fun v => v.category).sum ≤ 8) (hdg : decode cc g.pc = .ok (.invokevirtual index, 3)) (hf : cells + mc ≤ R.cells ∧ slots + ms ≤ R.slots) :
    va_Run p l e R s m args below meth c H locs cells slots mc ms g rest (Qc (Value.ref b :: As).toArray) free := by
  obtain ⟨⟨hrc, hrs, hfr, hlo, hws, hcw⟩, hcode, hini, hy, hlen, hl, hin, hse⟩ := cw
  have hK : Back l R p e below s args y 3 8 (PreOf R mc ms Pc) (PostOf Qc mc ms free) := va_backW (hh := hh) (bytes := bytes) (maxL := maxL) (ret := ret) hM hp.1 hrc hrs hfr hlo hws hcw (fun a' U hW => word_at hW (Or.inl (by first | rfl | simp [Cond.onTables, Cond.keeps, Cond.steady])) hini)
  obtain ⟨hx, hb, hml, ho, -⟩ := S
  obtain ⟨-, ⟨cellB, hcB, hoB, hclB⟩, hPc⟩ := hp
  intro T hT X
  obtain ⟨v, vm₁, ⟨U', l2, c2, s2⟩, hW₁, X', ⟨g', mk, t, L, e1, e2, hq, h1, hL, h2, h3⟩, st⟩ := vx_callVW X hx (C := C) (hh := hh) (bytes := bytes) (maxL := maxL) (ret := ret) ho hl hin hse hcode hy hK (by rw [hT]; exact hcB) hoB hclB hg (hsize.trans hml.symm) (argsL := As) (rest := rest) (fun sig h => hn.trans (hlen sig h)) hstack hW (by rw [hb]; exact hdg)
    (fun vm₁ hW₁ => ⟨hf.1, hf.2, hPc (T.setVm vm₁) hT hW₁⟩)
  dsimp only [Pt.U, Pt.locs, Pt.cells, Pt.slots] at X' e1 e2 h1 h2 h3 st
  subst h1; subst h2; subst h3
  exact ⟨v, (T.setVm vm₁).calling g' mk (Value.ref b :: As).toArray, t, U', L, hT, X', hL, e1, e2, hq, st⟩
section
variable {y : MethodName} {bytes cc : ByteArray} {maxL nL mc ms n index : Nat} {ret : Option FieldType} {ws : List Cond} {rm : Room} {Pc : Array Value → State → Prop} {Qc : Array Value → State → Outcome → State → Prop} {XC : String → State → State → Prop} {free : Addr → Prop} {Ts : List Cond} {own C : String} {b : Addr} {As rest : List Value} {g : JFrame}
theorem vx_runVX {hh : List (Nat × Nat × Nat × Nat)} (S : CallFix p m c cc nL s args Ts own) (hM : vx_Met l y ws rm Pc Qc XC mc ms free) (cw : vx_CVW R s args own C index y bytes maxL ret hh ws rm mc ms n) (hp : PreV s H C b Pc As)
    (hg : g.method = m) (hn : As.length = n) (hsize : g.locals.size = nL) (hstack : g.stack = As.reverse ++ .ref b :: rest) (hW : 2 * g.monitorRoom + (rest.map fun v => v.category).sum ≤ 8) (hdg : decode cc g.pc = .ok (.invokevirtual index, 3)) (hf : cells + mc ≤ R.cells ∧ slots + ms ≤ R.slots) :
    vx_Run p l e R s m args below meth c H locs cells slots mc ms g rest (Qc (Value.ref b :: As).toArray) XC free := by
  obtain ⟨⟨hrc, hrs, hfr, hlo, hws, hcw⟩, hcode, hini, hy, hlen, hl, hin, hse⟩ := cw
  have hK : vx_Back l R p e below s args y 3 8 (PreOf R mc ms Pc) (PostOf Qc mc ms free) (vx_Post XC mc ms free) := vx_backW (hh := hh) (bytes := bytes) (maxL := maxL) (ret := ret) hM hp.1 hrc hrs hfr hlo hws hcw (fun a' U hW => word_at hW (Or.inl (by first | rfl | simp [Cond.onTables, Cond.keeps, Cond.steady])) hini)
  obtain ⟨hx, hb, hml, ho, -⟩ := S
  obtain ⟨-, ⟨cellB, hcB, hoB, hclB⟩, hPc⟩ := hp
  intro T hT X
  rcases vx_callVX X hx (C := C) (hh := hh) (bytes := bytes) (maxL := maxL) (ret := ret) ho hl hin hse hcode hy hK (by rw [hT]; exact hcB) hoB hclB hg (hsize.trans hml.symm) (argsL := As) (rest := rest) (fun sig h => hn.trans (hlen sig h)) hstack hW (by rw [hb]; exact hdg)
    (fun vm₁ hW₁ => ⟨hf.1, hf.2, hPc (T.setVm vm₁) hT hW₁⟩) with ⟨v, vm₁, ⟨U', l2, c2, s2⟩, hW₁, X', ⟨g', mk, t, L, e1, e2, hq, h1, hL, h2, h3⟩, st⟩ | ⟨q, vm₁, ⟨U', l2, c2, s2⟩, hW₁, X', ⟨g', mk, t, L, E, ce, e1, e2, hq, hce, hcv, hcl, h1, hL, h2, h3⟩, st⟩
  · dsimp only [Pt.U, Pt.locs, Pt.cells, Pt.slots] at X' e1 e2 h1 h2 h3 st
    subst h1; subst h2; subst h3
    exact Or.inl ⟨v, (T.setVm vm₁).calling g' mk (Value.ref b :: As).toArray, t, U', L, hT, X', hL, e1, e2, hq, st⟩
  · dsimp only [Pt.U, Pt.locs, Pt.cells, Pt.slots] at X' e1 e2 h1 h2 h3 st hcl
    subst h1; subst h2; subst h3
    exact Or.inr ⟨q, (T.setVm vm₁).calling g' mk (Value.ref b :: As).toArray, t, U', L, E, ce, hT, X', hL, e1, e2, hq, hce, hcv, vx_cls hW₁ hcl, st⟩
theorem vx_runSX {hh : List (Nat × Nat × Nat × Nat)} (S : CallFix p m c cc nL s args Ts own) (hM : vx_Met l y ws rm Pc Qc XC mc ms free) (cw : vx_CSW R s args own index y bytes maxL ret hh ws rm mc ms n) (hp : PreS s H Pc As)
    (hg : g.method = m) (hn : As.length = n) (hsize : g.locals.size = nL) (hstack : g.stack = As.reverse ++ rest) (hW : 2 * g.monitorRoom + (rest.map fun v => v.category).sum ≤ 8) (hdg : decode cc g.pc = .ok (.invokestatic index, 3)) (hf : cells + mc ≤ R.cells ∧ slots + ms ≤ R.slots) :
    vx_Run p l e R s m args below meth c H locs cells slots mc ms g rest (Qc As.toArray) XC free := by
  obtain ⟨⟨hrc, hrs, hfr, hlo, hws, hcw⟩, hcode, hini, hy, hlen, hl, hstt⟩ := cw
  have hK : vx_Back l R p e below s args y 3 8 (PreOf R mc ms Pc) (PostOf Qc mc ms free) (vx_Post XC mc ms free) := vx_backW (hh := hh) (bytes := bytes) (maxL := maxL) (ret := ret) hM hp.1 hrc hrs hfr hlo hws hcw (fun a' U hW => word_at hW (Or.inl (by first | rfl | simp [Cond.onTables, Cond.keeps, Cond.steady])) hini)
  obtain ⟨hx, hb, hml, ho, -⟩ := S
  intro T hT X
  rcases vx_callSX X hx (hh := hh) (bytes := bytes) (maxL := maxL) (ret := ret) ho hl hstt hini hcode hy hK hg (hsize.trans hml.symm) (argsL := As) (rest := rest) (fun sig h => hn.trans (hlen sig h)) hstack hW (by rw [hb]; exact hdg)
    (fun vm₁ hW₁ => ⟨hf.1, hf.2, hp.2 (T.setVm vm₁) hT hW₁⟩) with ⟨v, vm₁, ⟨U', l2, c2, s2⟩, hW₁, X', ⟨g', mk, t, L, e1, e2, hq, h1, hL, h2, h3⟩, st⟩ | ⟨q, vm₁, ⟨U', l2, c2, s2⟩, hW₁, X', ⟨g', mk, t, L, E, ce, e1, e2, hq, hce, hcv, hcl, h1, hL, h2, h3⟩, st⟩
  · dsimp only [Pt.U, Pt.locs, Pt.cells, Pt.slots] at X' e1 e2 h1 h2 h3 st
    subst h1; subst h2; subst h3
    exact Or.inl ⟨v, (T.setVm vm₁).calling g' mk As.toArray, t, U', L, hT, X', hL, e1, e2, hq, st⟩
  · dsimp only [Pt.U, Pt.locs, Pt.cells, Pt.slots] at X' e1 e2 h1 h2 h3 st hcl
    subst h1; subst h2; subst h3
    exact Or.inr ⟨q, (T.setVm vm₁).calling g' mk As.toArray, t, U', L, E, ce, hT, X', hL, e1, e2, hq, hce, hcv, vx_cls hW₁ hcl, st⟩
end
end VXH
theorem vx_ofWH {l : Launch} {y : MethodName} {ws ws' : List Cond} {rm : Room} {Pc : Array Value → State → Prop} {Qc : Array Value → State → Outcome → State → Prop} {XC : String → State → State → Prop} {mc ms : Nat} {free : Addr → Prop} {cc : ByteArray} {maxL : Nat} {ret : Option FieldType} {hh : List (Nat × Nat × Nat × Nat)}
    (hy : plainName y.cls = true) (hw : ws = Cond.codeWith y cc maxL ret hh :: ws')
    (body : ∀ p e s m args below meth c s₁, BodyLoose p l y (headSpec ws rm) cc maxL ret e s m args below meth c s₁ → c.maxLocals = maxL → Pc args s →
      W p l e (headSpec ws rm).room s m args below meth c s.heap [] 0 0 (vx_MQ below Qc XC args s mc ms free) (entryFrame m args maxL)) : vx_Met l y ws rm Pc Qc XC mc ms free := by
  refine MetFree.of_bodyS (code := cc) (maxLocals := maxL) (ret := ret) hy ?_ ?_
  · intro args s m h hn
    obtain ⟨m9, meth, c, hn9, h1, h2, h3, h4, -, h5, h6, -⟩ := Cond.codeWith_spec (atoms_spec (ws := ws) h _ (by rw [hw]; exact List.mem_cons_self))
    cases hn.symm.trans hn9
    exact ⟨meth, c, h1, h2, h3, h4, h5, h6⟩
  · intro p e s m args below meth c s₁ B hml hP _
    have hh0 : s₁.heap = s.heap := by rw [B.state]; rfl
    obtain ⟨t, a1, o, b1, b2, b3⟩ := body p e s m args below meth c s₁ B hml hP s₁ hh0 (Stand.of_body B)
    exact ⟨t, o, a1, b1, b2, b3⟩
/-! ===== END ===== -/
end
section
def RX0 : String := "TowerBench"
def TX0 : u_T := fun k => match k with
  | 0 => ("TowerBench", "pegCount", "I", false)
  | 1 => ("TowerBench", "diskCount", "I", false)
  | 2 => ("TowerBench", "ruleOn", "Z", false)
  | 3 => ("TowerBench", "weight", "[I", true)
  | 4 => ("TowerBench", "colour", "[I", true)
  | 5 => ("TowerBench", "allowed", "[Z", true)
  | 6 => ("TowerBench", "now", "I", false)
  | 7 => ("TowerBench", "target", "I", false)
  | 8 => ("TowerBench", "trail", "[I", true)
  | 9 => ("TowerBench", "moveCount", "I", false)
  | 10 => ("TowerBench", "tops", "[I", true)
  | 11 => ("TowerBench", "far", "[I", true)
  | 12 => ("TowerBench", "measured", "Z", false)
  | 13 => ("TowerBench", "seen", "[I", true)
  | 14 => ("TowerBench", "queue", "[I", true)
  | _ => ("TowerBench", "splitNumbers", "[I", true)
def tyX0 : Nat → FieldType := fun k => match k with
  | 0 => .int
  | 1 => .int
  | 2 => .boolean
  | 3 => .array .int
  | 4 => .array .int
  | 5 => .array .boolean
  | 6 => .int
  | 7 => .int
  | 8 => .array .int
  | 9 => .int
  | 10 => .array .int
  | 11 => .array .int
  | 12 => .boolean
  | 13 => .array .int
  | 14 => .array .int
  | _ => .array .int
abbrev wsX00 : List Cond := u_ws RX0 TX0 16
theorem nmX0 : ∀ a, a < 16 → ∀ b, b < 16 → a ≠ b → (TX0 a).2.1 ≠ (TX0 b).2.1 := by decide +kernel
theorem tyX0_ok : ∀ k, k < 16 → parseFieldDescriptor (TX0 k).2.2.1 = some (tyX0 k) := by decide +kernel
abbrev cX0_init : ByteArray := prog_1_method_1_code
def yX0_init : MethodName := ⟨RX0, "<init>", "()V"⟩
abbrev cX0_begin : ByteArray := prog_1_method_2_code
def yX0_begin : MethodName := ⟨RX0, "begin", "(II)I"⟩
abbrev cX0_put : ByteArray := prog_1_method_3_code
def yX0_put : MethodName := ⟨RX0, "put", "(II)I"⟩
abbrev cX0_aim : ByteArray := prog_1_method_4_code
def yX0_aim : MethodName := ⟨RX0, "aim", "(II)I"⟩
abbrev cX0_allow : ByteArray := prog_1_method_5_code
def yX0_allow : MethodName := ⟨RX0, "allow", "(IIZ)Z"⟩
abbrev cX0_setColour : ByteArray := prog_1_method_6_code
def yX0_setColour : MethodName := ⟨RX0, "setColour", "(II)I"⟩
abbrev cX0_setRule : ByteArray := prog_1_method_7_code
def yX0_setRule : MethodName := ⟨RX0, "setRule", "(Z)Z"⟩
abbrev cX0_move : ByteArray := prog_1_method_8_code
def yX0_move : MethodName := ⟨RX0, "move", "(II)I"⟩
abbrev cX0_takeBack : ByteArray := prog_1_method_9_code
def yX0_takeBack : MethodName := ⟨RX0, "takeBack", "()I"⟩
abbrev cX0_layStart : ByteArray := prog_1_method_10_code
def yX0_layStart : MethodName := ⟨RX0, "layStart", "()I"⟩
abbrev cX0_pegs : ByteArray := prog_1_method_11_code
def yX0_pegs : MethodName := ⟨RX0, "pegs", "()I"⟩
abbrev cX0_disks : ByteArray := prog_1_method_12_code
def yX0_disks : MethodName := ⟨RX0, "disks", "()I"⟩
abbrev cX0_moves : ByteArray := prog_1_method_13_code
def yX0_moves : MethodName := ⟨RX0, "moves", "()I"⟩
abbrev cX0_pegOf : ByteArray := prog_1_method_14_code
def yX0_pegOf : MethodName := ⟨RX0, "pegOf", "(I)I"⟩
abbrev cX0_top : ByteArray := prog_1_method_15_code
def yX0_top : MethodName := ⟨RX0, "top", "(I)I"⟩
abbrev cX0_arrangement : ByteArray := prog_1_method_16_code
def yX0_arrangement : MethodName := ⟨RX0, "arrangement", "()I"⟩
abbrev cX0_goal : ByteArray := prog_1_method_17_code
def yX0_goal : MethodName := ⟨RX0, "goal", "()I"⟩
abbrev cX0_isLawful : ByteArray := prog_1_method_18_code
def yX0_isLawful : MethodName := ⟨RX0, "isLawful", "()Z"⟩
abbrev cX0_canMove : ByteArray := prog_1_method_19_code
def yX0_canMove : MethodName := ⟨RX0, "canMove", "(II)Z"⟩
abbrev cX0_way : ByteArray := prog_1_method_20_code
def yX0_way : MethodName := ⟨RX0, "way", "()I"⟩
abbrev cX0_wayByDisks : ByteArray := prog_1_method_21_code
def yX0_wayByDisks : MethodName := ⟨RX0, "wayByDisks", "()I"⟩
abbrev cX0_lost : ByteArray := prog_1_method_22_code
def yX0_lost : MethodName := ⟨RX0, "lost", "()I"⟩
abbrev cX0_next : ByteArray := prog_1_method_23_code
def yX0_next : MethodName := ⟨RX0, "next", "()I"⟩
abbrev cX0_reachable : ByteArray := prog_1_method_24_code
def yX0_reachable : MethodName := ⟨RX0, "reachable", "()I"⟩
abbrev cX0_lay : ByteArray := prog_1_method_26_code
def yX0_lay : MethodName := ⟨RX0, "lay", "(II)V"⟩
abbrev cX0_isPeg : ByteArray := prog_1_method_27_code
def yX0_isPeg : MethodName := ⟨RX0, "isPeg", "(I)Z"⟩
abbrev cX0_isDisk : ByteArray := prog_1_method_28_code
def yX0_isDisk : MethodName := ⟨RX0, "isDisk", "(I)Z"⟩
abbrev cX0_isNumber : ByteArray := prog_1_method_29_code
def yX0_isNumber : MethodName := ⟨RX0, "isNumber", "(I)Z"⟩
abbrev cX0_pairOf : ByteArray := prog_1_method_30_code
def yX0_pairOf : MethodName := ⟨RX0, "pairOf", "(II)I"⟩
abbrev cX0_isAnyBarred : ByteArray := prog_1_method_31_code
def yX0_isAnyBarred : MethodName := ⟨RX0, "isAnyBarred", "()Z"⟩
abbrev cX0_pegIn : ByteArray := prog_1_method_32_code
def yX0_pegIn : MethodName := ⟨RX0, "pegIn", "(II)I"⟩
abbrev cX0_diskBelow : ByteArray := prog_1_method_33_code
def yX0_diskBelow : MethodName := ⟨RX0, "diskBelow", "(II)I"⟩
abbrev cX0_mayLieOn : ByteArray := prog_1_method_34_code
def yX0_mayLieOn : MethodName := ⟨RX0, "mayLieOn", "(II)Z"⟩
abbrev cX0_keepsRule : ByteArray := prog_1_method_35_code
def yX0_keepsRule : MethodName := ⟨RX0, "keepsRule", "(I)Z"⟩
abbrev cX0_readTops : ByteArray := prog_1_method_36_code
def yX0_readTops : MethodName := ⟨RX0, "readTops", "(I)V"⟩
abbrev cX0_fits : ByteArray := prog_1_method_37_code
def yX0_fits : MethodName := ⟨RX0, "fits", "(II)Z"⟩
abbrev cX0_behindMove : ByteArray := prog_1_method_38_code
def yX0_behindMove : MethodName := ⟨RX0, "behindMove", "(III)I"⟩
abbrev cX0_isPossible : ByteArray := prog_1_method_39_code
def yX0_isPossible : MethodName := ⟨RX0, "isPossible", "(II)Z"⟩
abbrev cX0_isStep : ByteArray := prog_1_method_40_code
def yX0_isStep : MethodName := ⟨RX0, "isStep", "(IIZ)Z"⟩
abbrev cX0_wayFrom : ByteArray := prog_1_method_41_code
def yX0_wayFrom : MethodName := ⟨RX0, "wayFrom", "(I)I"⟩
abbrev cX0_search : ByteArray := prog_1_method_42_code
def yX0_search : MethodName := ⟨RX0, "search", "(I[IZ)I"⟩
abbrev cX0_searchFrom : ByteArray := prog_1_method_43_code
def yX0_searchFrom : MethodName := ⟨RX0, "searchFrom", "(I[IZI)I"⟩
abbrev cX0_thirdPeg : ByteArray := prog_1_method_44_code
def yX0_thirdPeg : MethodName := ⟨RX0, "thirdPeg", "(II)I"⟩
abbrev cX0_gather : ByteArray := prog_1_method_45_code
def yX0_gather : MethodName := ⟨RX0, "gather", "(III)I"⟩
abbrev cX0_splitIndex : ByteArray := prog_1_method_46_code
def yX0_splitIndex : MethodName := ⟨RX0, "splitIndex", "(II)I"⟩
abbrev cX0_splitTable : ByteArray := prog_1_method_47_code
def yX0_splitTable : MethodName := ⟨RX0, "splitTable", "()[I"⟩
abbrev cX0_splitNumber : ByteArray := prog_1_method_48_code
def yX0_splitNumber : MethodName := ⟨RX0, "splitNumber", "([III)I"⟩
def RX1 : String := "TowerBenchModel"
def TX1 : u_T := fun k => match k with
  | _ => ("", "", "", false)
def tyX1 : Nat → FieldType := fun k => match k with
  | _ => .int
abbrev wsX10 : List Cond := u_ws RX1 TX1 0
theorem nmX1 : ∀ a, a < 0 → ∀ b, b < 0 → a ≠ b → (TX1 a).2.1 ≠ (TX1 b).2.1 := by decide +kernel
theorem tyX1_ok : ∀ k, k < 0 → parseFieldDescriptor (TX1 k).2.2.1 = some (tyX1 k) := by decide +kernel
def RJ9 : String := "java/lang/Math"
def TJ9 : u_T := fun k => match k with
  | _ => ("", "", "", false)
def tyJ9 : Nat → FieldType := fun k => match k with
  | _ => .int
abbrev wsJ90 : List Cond := u_ws RJ9 TJ9 0
theorem nmJ9 : ∀ a, a < 0 → ∀ b, b < 0 → a ≠ b → (TJ9 a).2.1 ≠ (TJ9 b).2.1 := by decide +kernel
theorem tyJ9_ok : ∀ k, k < 0 → parseFieldDescriptor (TJ9 k).2.2.1 = some (tyJ9 k) := by decide +kernel
abbrev cJ9_min_7cf53 : ByteArray := prog_8_method_69_code
def yJ9_min_7cf53 : MethodName := ⟨RJ9, "min", "(II)I"⟩
def RJ0 : String := "java/lang/String"
def TJ0 : u_T := fun k => match k with
  | _ => ("", "", "", false)
def tyJ0 : Nat → FieldType := fun k => match k with
  | _ => .int
abbrev wsJ00 : List Cond := u_ws RJ0 TJ0 0
theorem nmJ0 : ∀ a, a < 0 → ∀ b, b < 0 → a ≠ b → (TJ0 a).2.1 ≠ (TJ0 b).2.1 := by decide +kernel
theorem tyJ0_ok : ∀ k, k < 0 → parseFieldDescriptor (TJ0 k).2.2.1 = some (tyJ0 k) := by decide +kernel
def RL : String := "TowerBenchLaw"
abbrev cL_cell : ByteArray := method_2_code
def yL_cell : MethodName := ⟨RL, "cell", "([II)I"⟩
abbrev cL_low : ByteArray := method_3_code
def yL_low : MethodName := ⟨RL, "low", "(II)I"⟩
abbrev cL_begin : ByteArray := method_4_code
def yL_begin : MethodName := ⟨RL, "begin", "(LTowerBench;II)I"⟩
abbrev cL_put : ByteArray := method_5_code
def yL_put : MethodName := ⟨RL, "put", "(LTowerBench;II)I"⟩
abbrev cL_aim : ByteArray := method_6_code
def yL_aim : MethodName := ⟨RL, "aim", "(LTowerBench;II)I"⟩
abbrev cL_allow : ByteArray := method_7_code
def yL_allow : MethodName := ⟨RL, "allow", "(LTowerBench;IIZ)I"⟩
abbrev cL_setColour : ByteArray := method_8_code
def yL_setColour : MethodName := ⟨RL, "setColour", "(LTowerBench;II)I"⟩
abbrev cL_move : ByteArray := method_9_code
def yL_move : MethodName := ⟨RL, "move", "(LTowerBench;II)I"⟩
abbrev cL_takeBack : ByteArray := method_10_code
def yL_takeBack : MethodName := ⟨RL, "takeBack", "(LTowerBench;)I"⟩
abbrev cL_lost : ByteArray := method_11_code
def yL_lost : MethodName := ⟨RL, "lost", "(LTowerBench;)I"⟩
abbrev cL_wayByDisks : ByteArray := method_12_code
def yL_wayByDisks : MethodName := ⟨RL, "wayByDisks", "(LTowerBench;)I"⟩
abbrev cL_act : ByteArray := method_13_code
def yL_act : MethodName := ⟨RL, "act", "(LTowerBench;I)I"⟩
abbrev cL_areAlike : ByteArray := method_14_code
def yL_areAlike : MethodName := ⟨RL, "areAlike", "(LTowerBench;LTowerBench;)Z"⟩
abbrev cL_isNowSo : ByteArray := method_15_code
def yL_isNowSo : MethodName := ⟨RL, "isNowSo", "(LTowerBench;)Z"⟩
abbrev cL_areWaysSo : ByteArray := method_16_code
def yL_areWaysSo : MethodName := ⟨RL, "areWaysSo", "(LTowerBench;)Z"⟩
abbrev cL_law : ByteArray := code
def yL_law : MethodName := ⟨RL, "law", "([I)Z"⟩
abbrev vwCl : List vw_C := [(RX0, TX0, 16)]
-- the words that every method here is given: those of the tables that stay
def wG : List Cond := lw_tbl.filter goodWord
theorem wG_tbl : ∀ w ∈ wG, w ∈ lw_tbl := fun w h => (List.mem_filter.mp h).1
theorem wG_of {w : Cond} (k : Nat) (h : lw_tbl[k]? = some w) (g : goodWord w = true) : w ∈ wG := List.mem_filter.mpr ⟨List.mem_of_getElem? h, g⟩
theorem wG_good : GoodIn wG wG := fun w h => ⟨h, good_of_word (List.mem_filter.mp h).2⟩
theorem wG_sub {ws : List Cond} (h : ∀ w ∈ ws, w ∈ wG) : GoodIn wG ws := fun w q => wG_good w (h w q)
theorem wG_code {y : MethodName} {cc : ByteArray} {n : Nat} {r : Option FieldType} (h : Cond.code y cc n r ∈ wG) : ∀ w ∈ (Cond.code y cc n r :: wG), w ∈ wG := fun w q => by
  rcases List.mem_cons.mp q with rfl | q
  · exact h
  · exact q
theorem wG_V {own : String} {idx : Nat} {C : String} {y : MethodName} {cc : ByteArray} {n : Nat} {r : Option FieldType} (h1 : Cond.methodLink own idx y ∈ wG) (h2 : Cond.instanceMethod y ∈ wG) (h3 : Cond.selects C y y ∈ wG) (h4 : Cond.initialized C ∈ wG) (h5 : Cond.code y cc n r ∈ wG) : GoodIn wG (wsV own idx C y (Cond.code y cc n r :: wG)) := wG_sub (fun w q => by
  rcases List.mem_append.mp q with q | q
  · simp only [List.mem_cons, List.not_mem_nil, or_false] at q
    rcases q with rfl | rfl | rfl | rfl
    · exact h1
    · exact h2
    · exact h3
    · exact h4
  · exact wG_code h5 w q)
theorem wG_S {own : String} {idx : Nat} {y : MethodName} {cc : ByteArray} {n : Nat} {r : Option FieldType} (h1 : Cond.methodLink own idx y ∈ wG) (h2 : Cond.static y ∈ wG) (h4 : Cond.initialized own ∈ wG) (h5 : Cond.code y cc n r ∈ wG) : GoodIn wG (wsS own idx y (Cond.code y cc n r :: wG)) := wG_sub (fun w q => by
  rcases List.mem_append.mp q with q | q
  · simp only [List.mem_cons, List.not_mem_nil, or_false] at q
    rcases q with rfl | rfl | rfl
    · exact h1
    · exact h2
    · exact h4
  · exact wG_code h5 w q)
theorem wG_SW {own : String} {idx : Nat} {y : MethodName} {cc : ByteArray} {n : Nat} {r : Option FieldType} {hh : List (Nat × Nat × Nat × Nat)} (h1 : Cond.methodLink own idx y ∈ wG) (h2 : Cond.static y ∈ wG) (h4 : Cond.initialized y.cls ∈ wG) (h5 : Cond.codeWith y cc n r hh ∈ wG) : GoodIn wG (va_wsS own idx y (Cond.codeWith y cc n r hh :: wG)) := wG_sub (fun w q => by
  rcases List.mem_append.mp q with q | q
  · simp only [List.mem_cons, List.not_mem_nil, or_false] at q
    rcases q with rfl | rfl | rfl
    · exact h1
    · exact h2
    · exact h4
  · rcases List.mem_cons.mp q with rfl | q
    · exact h5
    · exact q)
theorem wG_head {y : MethodName} {cc : ByteArray} {n : Nat} {r : Option FieldType} {args : Array Value} {s : State} (h : ∀ w ∈ (Cond.code y cc n r :: wG), w.before args s = true) : ∀ w ∈ wG, w.before args s = true := fun w q => h w (List.mem_cons_of_mem _ q)
theorem wd_in_L : (.initialized RL : Cond) ∈ wG := wG_of 19 (by decide +kernel) (by decide +kernel)
theorem wd_in_0 : (.initialized RX0 : Cond) ∈ wG := wG_of 20 (by decide +kernel) (by decide +kernel)
theorem wd_in_J9 : (.initialized RJ9 : Cond) ∈ wG := wG_of 21 (by decide +kernel) (by decide +kernel)
theorem wd_in_java_lang_Throwable : (.initialized "java/lang/Throwable" : Cond) ∈ wG := wG_of 22 (by decide +kernel) (by decide +kernel)
theorem wd_in_java_lang_Exception : (.initialized "java/lang/Exception" : Cond) ∈ wG := wG_of 23 (by decide +kernel) (by decide +kernel)
theorem wd_in_java_lang_RuntimeException : (.initialized "java/lang/RuntimeException" : Cond) ∈ wG := wG_of 24 (by decide +kernel) (by decide +kernel)
theorem wd_in_java_lang_IllegalArgumentException : (.initialized "java/lang/IllegalArgumentException" : Cond) ∈ wG := wG_of 25 (by decide +kernel) (by decide +kernel)
theorem wd_in_java_lang_IndexOutOfBoundsException : (.initialized "java/lang/IndexOutOfBoundsException" : Cond) ∈ wG := wG_of 26 (by decide +kernel) (by decide +kernel)
theorem wd_in_java_lang_IllegalStateException : (.initialized "java/lang/IllegalStateException" : Cond) ∈ wG := wG_of 27 (by decide +kernel) (by decide +kernel)
theorem wd_clL_9 : (.classLink RL 9 "TowerBench" : Cond) ∈ wG := wG_of 28 (by decide +kernel) (by decide +kernel)
theorem wd_it_0 : (.instantiable RX0 16 : Cond) ∈ wG := wG_of 29 (by decide +kernel) (by decide +kernel)
theorem wd_mlL_119 : (.methodLink RL 119 yX0_init : Cond) ∈ wG := wG_of 30 (by decide +kernel) (by decide +kernel)
theorem wd_im_X0_init : (.instanceMethod yX0_init : Cond) ∈ wG := wG_of 31 (by decide +kernel) (by decide +kernel)
theorem wd_co_X0_init : (.code yX0_init cX0_init 1 (Option.none : Option FieldType) : Cond) ∈ wG := wG_of 32 (by decide +kernel) (by decide +kernel)
theorem wd_mo0_1 : (.methodLink RX0 1 objectInit : Cond) ∈ wG := wG_of 33 (by decide +kernel) (by decide +kernel)
theorem wd_im_oi : (.instanceMethod objectInit : Cond) ∈ wG := wG_of 34 (by decide +kernel) (by decide +kernel)
theorem wd_co_oi : (.code objectInit ⟨#[0xb1]⟩ 1 none : Cond) ∈ wG := wG_of 35 (by decide +kernel) (by decide +kernel)
theorem wd_ml0_35 : (.methodLink RX0 35 yX0_splitTable : Cond) ∈ wG := wG_of 36 (by decide +kernel) (by decide +kernel)
theorem wd_st_X0_splitTable : (.static yX0_splitTable : Cond) ∈ wG := wG_of 37 (by decide +kernel) (by decide +kernel)
theorem wd_co_X0_splitTable : (.code yX0_splitTable cX0_splitTable 3 (Option.some (FieldType.array FieldType.int)) : Cond) ∈ wG := wG_of 38 (by decide +kernel) (by decide +kernel)
theorem wd_ml0_156 : (.methodLink RX0 156 yX0_splitIndex : Cond) ∈ wG := wG_of 39 (by decide +kernel) (by decide +kernel)
theorem wd_st_X0_splitIndex : (.static yX0_splitIndex : Cond) ∈ wG := wG_of 40 (by decide +kernel) (by decide +kernel)
theorem wd_co_X0_splitIndex : (.code yX0_splitIndex cX0_splitIndex 2 (Option.some FieldType.int) : Cond) ∈ wG := wG_of 41 (by decide +kernel) (by decide +kernel)
theorem wd_ml0_179 : (.methodLink RX0 179 yX0_splitNumber : Cond) ∈ wG := wG_of 42 (by decide +kernel) (by decide +kernel)
theorem wd_st_X0_splitNumber : (.static yX0_splitNumber : Cond) ∈ wG := wG_of 43 (by decide +kernel) (by decide +kernel)
theorem wd_co_X0_splitNumber : (.code yX0_splitNumber cX0_splitNumber 6 (Option.some FieldType.int) : Cond) ∈ wG := wG_of 44 (by decide +kernel) (by decide +kernel)
theorem wd_k0_185 : (.constant RX0 185 (2147483647) : Cond) ∈ wG := wG_of 45 (by decide +kernel) (by decide +kernel)
theorem wd_ml0_143 : (.methodLink RX0 143 yJ9_min_7cf53 : Cond) ∈ wG := wG_of 46 (by decide +kernel) (by decide +kernel)
theorem wd_st_J9_min_7cf53 : (.static yJ9_min_7cf53 : Cond) ∈ wG := wG_of 47 (by decide +kernel) (by decide +kernel)
theorem wd_co_J9_min_7cf53 : (.code yJ9_min_7cf53 cJ9_min_7cf53 2 (Option.some FieldType.int) : Cond) ∈ wG := wG_of 48 (by decide +kernel) (by decide +kernel)
theorem wd_ml0_42 : (.methodLink RX0 42 yX0_lay : Cond) ∈ wG := wG_of 49 (by decide +kernel) (by decide +kernel)
theorem wd_im_X0_lay : (.instanceMethod yX0_lay : Cond) ∈ wG := wG_of 51 (by decide +kernel) (by decide +kernel)
theorem wd_co_X0_lay : (.code yX0_lay cX0_lay 5 (Option.none : Option FieldType) : Cond) ∈ wG := wG_of 52 (by decide +kernel) (by decide +kernel)
theorem wd_fl0_117 : (.fieldLink RX0 117 "TowerBench" "pegCount" "I" : Cond) ∈ wG := wG_of 53 (by decide +kernel) (by decide +kernel)
theorem wd_fl0_53 : (.fieldLink RX0 53 "TowerBench" "diskCount" "I" : Cond) ∈ wG := wG_of 54 (by decide +kernel) (by decide +kernel)
theorem wd_fl0_102 : (.fieldLink RX0 102 "TowerBench" "ruleOn" "Z" : Cond) ∈ wG := wG_of 55 (by decide +kernel) (by decide +kernel)
theorem wd_fl0_9 : (.fieldLink RX0 9 "TowerBench" "weight" "[I" : Cond) ∈ wG := wG_of 56 (by decide +kernel) (by decide +kernel)
theorem wd_fl0_13 : (.fieldLink RX0 13 "TowerBench" "colour" "[I" : Cond) ∈ wG := wG_of 57 (by decide +kernel) (by decide +kernel)
theorem wd_fl0_16 : (.fieldLink RX0 16 "TowerBench" "allowed" "[Z" : Cond) ∈ wG := wG_of 58 (by decide +kernel) (by decide +kernel)
theorem wd_fl0_77 : (.fieldLink RX0 77 "TowerBench" "now" "I" : Cond) ∈ wG := wG_of 59 (by decide +kernel) (by decide +kernel)
theorem wd_fl0_84 : (.fieldLink RX0 84 "TowerBench" "target" "I" : Cond) ∈ wG := wG_of 60 (by decide +kernel) (by decide +kernel)
theorem wd_fl0_20 : (.fieldLink RX0 20 "TowerBench" "trail" "[I" : Cond) ∈ wG := wG_of 61 (by decide +kernel) (by decide +kernel)
theorem wd_fl0_69 : (.fieldLink RX0 69 "TowerBench" "moveCount" "I" : Cond) ∈ wG := wG_of 62 (by decide +kernel) (by decide +kernel)
theorem wd_fl0_23 : (.fieldLink RX0 23 "TowerBench" "tops" "[I" : Cond) ∈ wG := wG_of 63 (by decide +kernel) (by decide +kernel)
theorem wd_fl0_26 : (.fieldLink RX0 26 "TowerBench" "far" "[I" : Cond) ∈ wG := wG_of 64 (by decide +kernel) (by decide +kernel)
theorem wd_fl0_87 : (.fieldLink RX0 87 "TowerBench" "measured" "Z" : Cond) ∈ wG := wG_of 65 (by decide +kernel) (by decide +kernel)
theorem wd_fl0_29 : (.fieldLink RX0 29 "TowerBench" "seen" "[I" : Cond) ∈ wG := wG_of 66 (by decide +kernel) (by decide +kernel)
theorem wd_fl0_32 : (.fieldLink RX0 32 "TowerBench" "queue" "[I" : Cond) ∈ wG := wG_of 67 (by decide +kernel) (by decide +kernel)
theorem wd_fl0_39 : (.fieldLink RX0 39 "TowerBench" "splitNumbers" "[I" : Cond) ∈ wG := wG_of 68 (by decide +kernel) (by decide +kernel)
theorem wd_la0_pegCount : (.lays RX0 "TowerBench" "pegCount" "I" : Cond) ∈ wG := wG_of 69 (by decide +kernel) (by decide +kernel)
theorem wd_la0_diskCount : (.lays RX0 "TowerBench" "diskCount" "I" : Cond) ∈ wG := wG_of 71 (by decide +kernel) (by decide +kernel)
theorem wd_la0_ruleOn : (.lays RX0 "TowerBench" "ruleOn" "Z" : Cond) ∈ wG := wG_of 73 (by decide +kernel) (by decide +kernel)
theorem wd_la0_weight : (.laysFinal RX0 "TowerBench" "weight" "[I" : Cond) ∈ wG := wG_of 75 (by decide +kernel) (by decide +kernel)
theorem wd_la0_colour : (.laysFinal RX0 "TowerBench" "colour" "[I" : Cond) ∈ wG := wG_of 77 (by decide +kernel) (by decide +kernel)
theorem wd_la0_allowed : (.laysFinal RX0 "TowerBench" "allowed" "[Z" : Cond) ∈ wG := wG_of 79 (by decide +kernel) (by decide +kernel)
theorem wd_la0_now : (.lays RX0 "TowerBench" "now" "I" : Cond) ∈ wG := wG_of 81 (by decide +kernel) (by decide +kernel)
theorem wd_la0_target : (.lays RX0 "TowerBench" "target" "I" : Cond) ∈ wG := wG_of 83 (by decide +kernel) (by decide +kernel)
theorem wd_la0_trail : (.laysFinal RX0 "TowerBench" "trail" "[I" : Cond) ∈ wG := wG_of 85 (by decide +kernel) (by decide +kernel)
theorem wd_la0_moveCount : (.lays RX0 "TowerBench" "moveCount" "I" : Cond) ∈ wG := wG_of 87 (by decide +kernel) (by decide +kernel)
theorem wd_la0_tops : (.laysFinal RX0 "TowerBench" "tops" "[I" : Cond) ∈ wG := wG_of 89 (by decide +kernel) (by decide +kernel)
theorem wd_la0_far : (.laysFinal RX0 "TowerBench" "far" "[I" : Cond) ∈ wG := wG_of 91 (by decide +kernel) (by decide +kernel)
theorem wd_la0_measured : (.lays RX0 "TowerBench" "measured" "Z" : Cond) ∈ wG := wG_of 93 (by decide +kernel) (by decide +kernel)
theorem wd_la0_seen : (.laysFinal RX0 "TowerBench" "seen" "[I" : Cond) ∈ wG := wG_of 95 (by decide +kernel) (by decide +kernel)
theorem wd_la0_queue : (.laysFinal RX0 "TowerBench" "queue" "[I" : Cond) ∈ wG := wG_of 97 (by decide +kernel) (by decide +kernel)
theorem wd_la0_splitNumbers : (.laysFinal RX0 "TowerBench" "splitNumbers" "[I" : Cond) ∈ wG := wG_of 99 (by decide +kernel) (by decide +kernel)
theorem wd_ac_int : (.arrayClass .int : Cond) ∈ wG := wG_of 102 (by decide +kernel) (by decide +kernel)
theorem wd_ac_boolean : (.arrayClass .boolean : Cond) ∈ wG := wG_of 103 (by decide +kernel) (by decide +kernel)
theorem wd_mlL_120 : (.methodLink RL 120 yL_cell : Cond) ∈ wG := wG_of 104 (by decide +kernel) (by decide +kernel)
theorem wd_st_L_cell : (.static yL_cell : Cond) ∈ wG := wG_of 105 (by decide +kernel) (by decide +kernel)
theorem wd_co_L_cell : (.code yL_cell cL_cell 2 (Option.some FieldType.int) : Cond) ∈ wG := wG_of 106 (by decide +kernel) (by decide +kernel)
theorem wd_mlL_124 : (.methodLink RL 124 yL_act : Cond) ∈ wG := wG_of 107 (by decide +kernel) (by decide +kernel)
theorem wd_st_L_act : (.static yL_act : Cond) ∈ wG := wG_of 108 (by decide +kernel) (by decide +kernel)
theorem wd_co_L_act : (.code yL_act cL_act 7 (Option.some FieldType.int) : Cond) ∈ wG := wG_of 109 (by decide +kernel) (by decide +kernel)
theorem wd_mlL_47 : (.methodLink RL 47 yL_low : Cond) ∈ wG := wG_of 110 (by decide +kernel) (by decide +kernel)
theorem wd_st_L_low : (.static yL_low : Cond) ∈ wG := wG_of 111 (by decide +kernel) (by decide +kernel)
theorem wd_co_L_low : (.code yL_low cL_low 2 (Option.some FieldType.int) : Cond) ∈ wG := wG_of 112 (by decide +kernel) (by decide +kernel)
theorem wd_kL_7 : (.constant RL 7 (2147483647) : Cond) ∈ wG := wG_of 113 (by decide +kernel) (by decide +kernel)
theorem wd_mlL_52 : (.methodLink RL 52 yX0_pegs : Cond) ∈ wG := wG_of 114 (by decide +kernel) (by decide +kernel)
theorem wd_im_X0_pegs : (.instanceMethod yX0_pegs : Cond) ∈ wG := wG_of 115 (by decide +kernel) (by decide +kernel)
theorem wd_se_X0_pegs : (.selects RX0 yX0_pegs yX0_pegs : Cond) ∈ wG := wG_of 116 (by decide +kernel) (by decide +kernel)
theorem wd_co_X0_pegs : (.code yX0_pegs cX0_pegs 1 (Option.some FieldType.int) : Cond) ∈ wG := wG_of 117 (by decide +kernel) (by decide +kernel)
theorem wd_mlL_55 : (.methodLink RL 55 yX0_disks : Cond) ∈ wG := wG_of 118 (by decide +kernel) (by decide +kernel)
theorem wd_im_X0_disks : (.instanceMethod yX0_disks : Cond) ∈ wG := wG_of 119 (by decide +kernel) (by decide +kernel)
theorem wd_se_X0_disks : (.selects RX0 yX0_disks yX0_disks : Cond) ∈ wG := wG_of 120 (by decide +kernel) (by decide +kernel)
theorem wd_co_X0_disks : (.code yX0_disks cX0_disks 1 (Option.some FieldType.int) : Cond) ∈ wG := wG_of 121 (by decide +kernel) (by decide +kernel)
theorem wd_mlL_58 : (.methodLink RL 58 yL_begin : Cond) ∈ wG := wG_of 122 (by decide +kernel) (by decide +kernel)
theorem wd_st_L_begin : (.static yL_begin : Cond) ∈ wG := wG_of 123 (by decide +kernel) (by decide +kernel)
theorem wd_cw_L_begin : (.codeWith yL_begin cL_begin 4 (Option.some FieldType.int) [(0, 6, 7, 14)] : Cond) ∈ wG := wG_of 124 (by decide +kernel) (by decide +kernel)
theorem wd_clL_14 : (.classLink RL 14 "java/lang/IllegalArgumentException" : Cond) ∈ wG := wG_of 125 (by decide +kernel) (by decide +kernel)
theorem wd_mlL_8 : (.methodLink RL 8 yX0_begin : Cond) ∈ wG := wG_of 126 (by decide +kernel) (by decide +kernel)
theorem wd_im_X0_begin : (.instanceMethod yX0_begin : Cond) ∈ wG := wG_of 127 (by decide +kernel) (by decide +kernel)
theorem wd_se_X0_begin : (.selects RX0 yX0_begin yX0_begin : Cond) ∈ wG := wG_of 128 (by decide +kernel) (by decide +kernel)
theorem wd_co_X0_begin : (.code yX0_begin cX0_begin 3 (Option.some FieldType.int) : Cond) ∈ wG := wG_of 129 (by decide +kernel) (by decide +kernel)
theorem wd_cl0_46 : (.classLink RX0 46 "java/lang/IllegalArgumentException" : Cond) ∈ wG := wG_of 130 (by decide +kernel) (by decide +kernel)
theorem wd_ac_byte : (.arrayClass .byte : Cond) ∈ wG := wG_of 197 (by decide +kernel) (by decide +kernel)
theorem wd_kL_16 : (.constant RL 16 (-99999) : Cond) ∈ wG := wG_of 198 (by decide +kernel) (by decide +kernel)
theorem wd_mlL_61 : (.methodLink RL 61 yX0_layStart : Cond) ∈ wG := wG_of 199 (by decide +kernel) (by decide +kernel)
theorem wd_im_X0_layStart : (.instanceMethod yX0_layStart : Cond) ∈ wG := wG_of 200 (by decide +kernel) (by decide +kernel)
theorem wd_se_X0_layStart : (.selects RX0 yX0_layStart yX0_layStart : Cond) ∈ wG := wG_of 201 (by decide +kernel) (by decide +kernel)
theorem wd_co_X0_layStart : (.code yX0_layStart cX0_layStart 2 (Option.some FieldType.int) : Cond) ∈ wG := wG_of 202 (by decide +kernel) (by decide +kernel)
theorem wd_mlL_64 : (.methodLink RL 64 yL_put : Cond) ∈ wG := wG_of 203 (by decide +kernel) (by decide +kernel)
theorem wd_st_L_put : (.static yL_put : Cond) ∈ wG := wG_of 204 (by decide +kernel) (by decide +kernel)
theorem wd_cw_L_put : (.codeWith yL_put cL_put 4 (Option.some FieldType.int) [(0, 6, 7, 20), (0, 6, 11, 22)] : Cond) ∈ wG := wG_of 205 (by decide +kernel) (by decide +kernel)
theorem wd_clL_20 : (.classLink RL 20 "java/lang/IndexOutOfBoundsException" : Cond) ∈ wG := wG_of 206 (by decide +kernel) (by decide +kernel)
theorem wd_clL_22 : (.classLink RL 22 "java/lang/IllegalStateException" : Cond) ∈ wG := wG_of 207 (by decide +kernel) (by decide +kernel)
theorem wd_mlL_17 : (.methodLink RL 17 yX0_put : Cond) ∈ wG := wG_of 208 (by decide +kernel) (by decide +kernel)
theorem wd_im_X0_put : (.instanceMethod yX0_put : Cond) ∈ wG := wG_of 209 (by decide +kernel) (by decide +kernel)
theorem wd_se_X0_put : (.selects RX0 yX0_put yX0_put : Cond) ∈ wG := wG_of 210 (by decide +kernel) (by decide +kernel)
theorem wd_co_X0_put : (.code yX0_put cX0_put 4 (Option.some FieldType.int) : Cond) ∈ wG := wG_of 211 (by decide +kernel) (by decide +kernel)
theorem wd_ml0_57 : (.methodLink RX0 57 yX0_isDisk : Cond) ∈ wG := wG_of 212 (by decide +kernel) (by decide +kernel)
theorem wd_im_X0_isDisk : (.instanceMethod yX0_isDisk : Cond) ∈ wG := wG_of 214 (by decide +kernel) (by decide +kernel)
theorem wd_co_X0_isDisk : (.code yX0_isDisk cX0_isDisk 2 (Option.some FieldType.boolean) : Cond) ∈ wG := wG_of 215 (by decide +kernel) (by decide +kernel)
theorem wd_ml0_61 : (.methodLink RX0 61 yX0_isPeg : Cond) ∈ wG := wG_of 216 (by decide +kernel) (by decide +kernel)
theorem wd_im_X0_isPeg : (.instanceMethod yX0_isPeg : Cond) ∈ wG := wG_of 218 (by decide +kernel) (by decide +kernel)
theorem wd_co_X0_isPeg : (.code yX0_isPeg cX0_isPeg 2 (Option.some FieldType.boolean) : Cond) ∈ wG := wG_of 219 (by decide +kernel) (by decide +kernel)
theorem wd_cl0_64 : (.classLink RX0 64 "java/lang/IndexOutOfBoundsException" : Cond) ∈ wG := wG_of 220 (by decide +kernel) (by decide +kernel)
theorem wd_cl0_72 : (.classLink RX0 72 "java/lang/IllegalStateException" : Cond) ∈ wG := wG_of 236 (by decide +kernel) (by decide +kernel)
theorem wd_ml0_80 : (.methodLink RX0 80 yX0_pegIn : Cond) ∈ wG := wG_of 252 (by decide +kernel) (by decide +kernel)
theorem wd_im_X0_pegIn : (.instanceMethod yX0_pegIn : Cond) ∈ wG := wG_of 254 (by decide +kernel) (by decide +kernel)
theorem wd_co_X0_pegIn : (.code yX0_pegIn cX0_pegIn 4 (Option.some FieldType.int) : Cond) ∈ wG := wG_of 255 (by decide +kernel) (by decide +kernel)
theorem wd_mlL_66 : (.methodLink RL 66 yL_aim : Cond) ∈ wG := wG_of 256 (by decide +kernel) (by decide +kernel)
theorem wd_st_L_aim : (.static yL_aim : Cond) ∈ wG := wG_of 257 (by decide +kernel) (by decide +kernel)
theorem wd_cw_L_aim : (.codeWith yL_aim cL_aim 4 (Option.some FieldType.int) [(0, 6, 7, 20)] : Cond) ∈ wG := wG_of 258 (by decide +kernel) (by decide +kernel)
theorem wd_mlL_24 : (.methodLink RL 24 yX0_aim : Cond) ∈ wG := wG_of 259 (by decide +kernel) (by decide +kernel)
theorem wd_im_X0_aim : (.instanceMethod yX0_aim : Cond) ∈ wG := wG_of 260 (by decide +kernel) (by decide +kernel)
theorem wd_se_X0_aim : (.selects RX0 yX0_aim yX0_aim : Cond) ∈ wG := wG_of 261 (by decide +kernel) (by decide +kernel)
theorem wd_co_X0_aim : (.code yX0_aim cX0_aim 4 (Option.some FieldType.int) : Cond) ∈ wG := wG_of 262 (by decide +kernel) (by decide +kernel)
theorem wd_mlL_68 : (.methodLink RL 68 yL_allow : Cond) ∈ wG := wG_of 263 (by decide +kernel) (by decide +kernel)
theorem wd_st_L_allow : (.static yL_allow : Cond) ∈ wG := wG_of 264 (by decide +kernel) (by decide +kernel)
theorem wd_cw_L_allow : (.codeWith yL_allow cL_allow 5 (Option.some FieldType.int) [(0, 15, 16, 20), (0, 15, 21, 14)] : Cond) ∈ wG := wG_of 265 (by decide +kernel) (by decide +kernel)
theorem wd_mlL_27 : (.methodLink RL 27 yX0_allow : Cond) ∈ wG := wG_of 266 (by decide +kernel) (by decide +kernel)
theorem wd_im_X0_allow : (.instanceMethod yX0_allow : Cond) ∈ wG := wG_of 267 (by decide +kernel) (by decide +kernel)
theorem wd_se_X0_allow : (.selects RX0 yX0_allow yX0_allow : Cond) ∈ wG := wG_of 268 (by decide +kernel) (by decide +kernel)
theorem wd_co_X0_allow : (.code yX0_allow cX0_allow 6 (Option.some FieldType.boolean) : Cond) ∈ wG := wG_of 269 (by decide +kernel) (by decide +kernel)
theorem wd_ml0_95 : (.methodLink RX0 95 yX0_pairOf : Cond) ∈ wG := wG_of 272 (by decide +kernel) (by decide +kernel)
theorem wd_st_X0_pairOf : (.static yX0_pairOf : Cond) ∈ wG := wG_of 273 (by decide +kernel) (by decide +kernel)
theorem wd_co_X0_pairOf : (.code yX0_pairOf cX0_pairOf 2 (Option.some FieldType.int) : Cond) ∈ wG := wG_of 274 (by decide +kernel) (by decide +kernel)
theorem wd_mlL_71 : (.methodLink RL 71 yL_setColour : Cond) ∈ wG := wG_of 275 (by decide +kernel) (by decide +kernel)
theorem wd_st_L_setColour : (.static yL_setColour : Cond) ∈ wG := wG_of 276 (by decide +kernel) (by decide +kernel)
theorem wd_cw_L_setColour : (.codeWith yL_setColour cL_setColour 4 (Option.some FieldType.int) [(0, 6, 7, 20), (0, 6, 11, 14)] : Cond) ∈ wG := wG_of 277 (by decide +kernel) (by decide +kernel)
theorem wd_mlL_31 : (.methodLink RL 31 yX0_setColour : Cond) ∈ wG := wG_of 278 (by decide +kernel) (by decide +kernel)
theorem wd_im_X0_setColour : (.instanceMethod yX0_setColour : Cond) ∈ wG := wG_of 279 (by decide +kernel) (by decide +kernel)
theorem wd_se_X0_setColour : (.selects RX0 yX0_setColour yX0_setColour : Cond) ∈ wG := wG_of 280 (by decide +kernel) (by decide +kernel)
theorem wd_co_X0_setColour : (.code yX0_setColour cX0_setColour 4 (Option.some FieldType.int) : Cond) ∈ wG := wG_of 281 (by decide +kernel) (by decide +kernel)
theorem wd_mlL_73 : (.methodLink RL 73 yX0_setRule : Cond) ∈ wG := wG_of 284 (by decide +kernel) (by decide +kernel)
theorem wd_im_X0_setRule : (.instanceMethod yX0_setRule : Cond) ∈ wG := wG_of 285 (by decide +kernel) (by decide +kernel)
theorem wd_se_X0_setRule : (.selects RX0 yX0_setRule yX0_setRule : Cond) ∈ wG := wG_of 286 (by decide +kernel) (by decide +kernel)
theorem wd_co_X0_setRule : (.code yX0_setRule cX0_setRule 3 (Option.some FieldType.boolean) : Cond) ∈ wG := wG_of 287 (by decide +kernel) (by decide +kernel)
theorem wd_mlL_77 : (.methodLink RL 77 yL_takeBack : Cond) ∈ wG := wG_of 288 (by decide +kernel) (by decide +kernel)
theorem wd_st_L_takeBack : (.static yL_takeBack : Cond) ∈ wG := wG_of 289 (by decide +kernel) (by decide +kernel)
theorem wd_cw_L_takeBack : (.codeWith yL_takeBack cL_takeBack 2 (Option.some FieldType.int) [(0, 4, 5, 22)] : Cond) ∈ wG := wG_of 290 (by decide +kernel) (by decide +kernel)
theorem wd_mlL_37 : (.methodLink RL 37 yX0_takeBack : Cond) ∈ wG := wG_of 291 (by decide +kernel) (by decide +kernel)
theorem wd_im_X0_takeBack : (.instanceMethod yX0_takeBack : Cond) ∈ wG := wG_of 292 (by decide +kernel) (by decide +kernel)
theorem wd_se_X0_takeBack : (.selects RX0 yX0_takeBack yX0_takeBack : Cond) ∈ wG := wG_of 293 (by decide +kernel) (by decide +kernel)
theorem wd_co_X0_takeBack : (.code yX0_takeBack cX0_takeBack 1 (Option.some FieldType.int) : Cond) ∈ wG := wG_of 294 (by decide +kernel) (by decide +kernel)
theorem wd_mlL_80 : (.methodLink RL 80 yL_move : Cond) ∈ wG := wG_of 296 (by decide +kernel) (by decide +kernel)
theorem wd_st_L_move : (.static yL_move : Cond) ∈ wG := wG_of 297 (by decide +kernel) (by decide +kernel)
theorem wd_cw_L_move : (.codeWith yL_move cL_move 4 (Option.some FieldType.int) [(0, 6, 7, 20), (0, 6, 11, 22)] : Cond) ∈ wG := wG_of 298 (by decide +kernel) (by decide +kernel)
theorem wd_mlL_34 : (.methodLink RL 34 yX0_move : Cond) ∈ wG := wG_of 299 (by decide +kernel) (by decide +kernel)
theorem wd_im_X0_move : (.instanceMethod yX0_move : Cond) ∈ wG := wG_of 300 (by decide +kernel) (by decide +kernel)
theorem wd_se_X0_move : (.selects RX0 yX0_move yX0_move : Cond) ∈ wG := wG_of 301 (by decide +kernel) (by decide +kernel)
theorem wd_co_X0_move : (.code yX0_move cX0_move 4 (Option.some FieldType.int) : Cond) ∈ wG := wG_of 302 (by decide +kernel) (by decide +kernel)
theorem wd_ml0_105 : (.methodLink RX0 105 yX0_isPossible : Cond) ∈ wG := wG_of 303 (by decide +kernel) (by decide +kernel)
theorem wd_im_X0_isPossible : (.instanceMethod yX0_isPossible : Cond) ∈ wG := wG_of 305 (by decide +kernel) (by decide +kernel)
theorem wd_co_X0_isPossible : (.code yX0_isPossible cX0_isPossible 3 (Option.some FieldType.boolean) : Cond) ∈ wG := wG_of 306 (by decide +kernel) (by decide +kernel)
theorem wd_ml0_120 : (.methodLink RX0 120 yX0_readTops : Cond) ∈ wG := wG_of 307 (by decide +kernel) (by decide +kernel)
theorem wd_im_X0_readTops : (.instanceMethod yX0_readTops : Cond) ∈ wG := wG_of 309 (by decide +kernel) (by decide +kernel)
theorem wd_co_X0_readTops : (.code yX0_readTops cX0_readTops 4 (Option.none : Option FieldType) : Cond) ∈ wG := wG_of 310 (by decide +kernel) (by decide +kernel)
theorem wd_ml0_165 : (.methodLink RX0 165 yX0_fits : Cond) ∈ wG := wG_of 311 (by decide +kernel) (by decide +kernel)
theorem wd_im_X0_fits : (.instanceMethod yX0_fits : Cond) ∈ wG := wG_of 313 (by decide +kernel) (by decide +kernel)
theorem wd_co_X0_fits : (.code yX0_fits cX0_fits 5 (Option.some FieldType.boolean) : Cond) ∈ wG := wG_of 314 (by decide +kernel) (by decide +kernel)
theorem wd_ml0_111 : (.methodLink RX0 111 yX0_behindMove : Cond) ∈ wG := wG_of 315 (by decide +kernel) (by decide +kernel)
theorem wd_im_X0_behindMove : (.instanceMethod yX0_behindMove : Cond) ∈ wG := wG_of 317 (by decide +kernel) (by decide +kernel)
theorem wd_co_X0_behindMove : (.code yX0_behindMove cX0_behindMove 5 (Option.some FieldType.int) : Cond) ∈ wG := wG_of 318 (by decide +kernel) (by decide +kernel)
theorem wd_ml0_124 : (.methodLink RX0 124 yX0_keepsRule : Cond) ∈ wG := wG_of 319 (by decide +kernel) (by decide +kernel)
theorem wd_im_X0_keepsRule : (.instanceMethod yX0_keepsRule : Cond) ∈ wG := wG_of 321 (by decide +kernel) (by decide +kernel)
theorem wd_co_X0_keepsRule : (.code yX0_keepsRule cX0_keepsRule 3 (Option.some FieldType.boolean) : Cond) ∈ wG := wG_of 322 (by decide +kernel) (by decide +kernel)
theorem wd_ml0_159 : (.methodLink RX0 159 yX0_diskBelow : Cond) ∈ wG := wG_of 323 (by decide +kernel) (by decide +kernel)
theorem wd_im_X0_diskBelow : (.instanceMethod yX0_diskBelow : Cond) ∈ wG := wG_of 325 (by decide +kernel) (by decide +kernel)
theorem wd_co_X0_diskBelow : (.code yX0_diskBelow cX0_diskBelow 5 (Option.some FieldType.int) : Cond) ∈ wG := wG_of 326 (by decide +kernel) (by decide +kernel)
theorem wd_ml0_162 : (.methodLink RX0 162 yX0_mayLieOn : Cond) ∈ wG := wG_of 327 (by decide +kernel) (by decide +kernel)
theorem wd_im_X0_mayLieOn : (.instanceMethod yX0_mayLieOn : Cond) ∈ wG := wG_of 329 (by decide +kernel) (by decide +kernel)
theorem wd_co_X0_mayLieOn : (.code yX0_mayLieOn cX0_mayLieOn 3 (Option.some FieldType.boolean) : Cond) ∈ wG := wG_of 330 (by decide +kernel) (by decide +kernel)
theorem wd_mlL_128 : (.methodLink RL 128 yL_areAlike : Cond) ∈ wG := wG_of 332 (by decide +kernel) (by decide +kernel)
theorem wd_st_L_areAlike : (.static yL_areAlike : Cond) ∈ wG := wG_of 333 (by decide +kernel) (by decide +kernel)
theorem wd_co_L_areAlike : (.code yL_areAlike cL_areAlike 2 (Option.some FieldType.boolean) : Cond) ∈ wG := wG_of 334 (by decide +kernel) (by decide +kernel)
theorem wd_mlL_82 : (.methodLink RL 82 yX0_moves : Cond) ∈ wG := wG_of 335 (by decide +kernel) (by decide +kernel)
theorem wd_im_X0_moves : (.instanceMethod yX0_moves : Cond) ∈ wG := wG_of 336 (by decide +kernel) (by decide +kernel)
theorem wd_se_X0_moves : (.selects RX0 yX0_moves yX0_moves : Cond) ∈ wG := wG_of 337 (by decide +kernel) (by decide +kernel)
theorem wd_co_X0_moves : (.code yX0_moves cX0_moves 1 (Option.some FieldType.int) : Cond) ∈ wG := wG_of 338 (by decide +kernel) (by decide +kernel)
theorem wd_mlL_85 : (.methodLink RL 85 yX0_arrangement : Cond) ∈ wG := wG_of 339 (by decide +kernel) (by decide +kernel)
theorem wd_im_X0_arrangement : (.instanceMethod yX0_arrangement : Cond) ∈ wG := wG_of 340 (by decide +kernel) (by decide +kernel)
theorem wd_se_X0_arrangement : (.selects RX0 yX0_arrangement yX0_arrangement : Cond) ∈ wG := wG_of 341 (by decide +kernel) (by decide +kernel)
theorem wd_co_X0_arrangement : (.code yX0_arrangement cX0_arrangement 1 (Option.some FieldType.int) : Cond) ∈ wG := wG_of 342 (by decide +kernel) (by decide +kernel)
theorem wd_mlL_88 : (.methodLink RL 88 yX0_goal : Cond) ∈ wG := wG_of 343 (by decide +kernel) (by decide +kernel)
theorem wd_im_X0_goal : (.instanceMethod yX0_goal : Cond) ∈ wG := wG_of 344 (by decide +kernel) (by decide +kernel)
theorem wd_se_X0_goal : (.selects RX0 yX0_goal yX0_goal : Cond) ∈ wG := wG_of 345 (by decide +kernel) (by decide +kernel)
theorem wd_co_X0_goal : (.code yX0_goal cX0_goal 1 (Option.some FieldType.int) : Cond) ∈ wG := wG_of 346 (by decide +kernel) (by decide +kernel)
theorem wd_mlL_91 : (.methodLink RL 91 yX0_way : Cond) ∈ wG := wG_of 347 (by decide +kernel) (by decide +kernel)
theorem wd_im_X0_way : (.instanceMethod yX0_way : Cond) ∈ wG := wG_of 348 (by decide +kernel) (by decide +kernel)
theorem wd_se_X0_way : (.selects RX0 yX0_way yX0_way : Cond) ∈ wG := wG_of 349 (by decide +kernel) (by decide +kernel)
theorem wd_co_X0_way : (.code yX0_way cX0_way 1 (Option.some FieldType.int) : Cond) ∈ wG := wG_of 350 (by decide +kernel) (by decide +kernel)
theorem wd_ml0_127 : (.methodLink RX0 127 yX0_wayFrom : Cond) ∈ wG := wG_of 351 (by decide +kernel) (by decide +kernel)
theorem wd_im_X0_wayFrom : (.instanceMethod yX0_wayFrom : Cond) ∈ wG := wG_of 353 (by decide +kernel) (by decide +kernel)
theorem wd_co_X0_wayFrom : (.code yX0_wayFrom cX0_wayFrom 2 (Option.some FieldType.int) : Cond) ∈ wG := wG_of 354 (by decide +kernel) (by decide +kernel)
theorem wd_ml0_150 : (.methodLink RX0 150 yX0_search : Cond) ∈ wG := wG_of 355 (by decide +kernel) (by decide +kernel)
theorem wd_im_X0_search : (.instanceMethod yX0_search : Cond) ∈ wG := wG_of 357 (by decide +kernel) (by decide +kernel)
theorem wd_co_X0_search : (.code yX0_search cX0_search 6 (Option.some FieldType.int) : Cond) ∈ wG := wG_of 358 (by decide +kernel) (by decide +kernel)
theorem wd_ml0_168 : (.methodLink RX0 168 yX0_isNumber : Cond) ∈ wG := wG_of 359 (by decide +kernel) (by decide +kernel)
theorem wd_im_X0_isNumber : (.instanceMethod yX0_isNumber : Cond) ∈ wG := wG_of 361 (by decide +kernel) (by decide +kernel)
theorem wd_co_X0_isNumber : (.code yX0_isNumber cX0_isNumber 2 (Option.some FieldType.boolean) : Cond) ∈ wG := wG_of 362 (by decide +kernel) (by decide +kernel)
theorem wd_ml0_171 : (.methodLink RX0 171 yX0_searchFrom : Cond) ∈ wG := wG_of 363 (by decide +kernel) (by decide +kernel)
theorem wd_im_X0_searchFrom : (.instanceMethod yX0_searchFrom : Cond) ∈ wG := wG_of 365 (by decide +kernel) (by decide +kernel)
theorem wd_co_X0_searchFrom : (.code yX0_searchFrom cX0_searchFrom 9 (Option.some FieldType.int) : Cond) ∈ wG := wG_of 366 (by decide +kernel) (by decide +kernel)
theorem wd_ml0_175 : (.methodLink RX0 175 yX0_isStep : Cond) ∈ wG := wG_of 367 (by decide +kernel) (by decide +kernel)
theorem wd_im_X0_isStep : (.instanceMethod yX0_isStep : Cond) ∈ wG := wG_of 369 (by decide +kernel) (by decide +kernel)
theorem wd_co_X0_isStep : (.code yX0_isStep cX0_isStep 5 (Option.some FieldType.boolean) : Cond) ∈ wG := wG_of 370 (by decide +kernel) (by decide +kernel)
theorem wd_mlL_94 : (.methodLink RL 94 yX0_reachable : Cond) ∈ wG := wG_of 371 (by decide +kernel) (by decide +kernel)
theorem wd_im_X0_reachable : (.instanceMethod yX0_reachable : Cond) ∈ wG := wG_of 372 (by decide +kernel) (by decide +kernel)
theorem wd_se_X0_reachable : (.selects RX0 yX0_reachable yX0_reachable : Cond) ∈ wG := wG_of 373 (by decide +kernel) (by decide +kernel)
theorem wd_co_X0_reachable : (.code yX0_reachable cX0_reachable 1 (Option.some FieldType.int) : Cond) ∈ wG := wG_of 374 (by decide +kernel) (by decide +kernel)
theorem wd_mlL_132 : (.methodLink RL 132 yL_isNowSo : Cond) ∈ wG := wG_of 375 (by decide +kernel) (by decide +kernel)
theorem wd_st_L_isNowSo : (.static yL_isNowSo : Cond) ∈ wG := wG_of 376 (by decide +kernel) (by decide +kernel)
theorem wd_co_L_isNowSo : (.code yL_isNowSo cL_isNowSo 8 (Option.some FieldType.boolean) : Cond) ∈ wG := wG_of 377 (by decide +kernel) (by decide +kernel)
theorem wd_mlL_97 : (.methodLink RL 97 yX0_pegOf : Cond) ∈ wG := wG_of 378 (by decide +kernel) (by decide +kernel)
theorem wd_im_X0_pegOf : (.instanceMethod yX0_pegOf : Cond) ∈ wG := wG_of 379 (by decide +kernel) (by decide +kernel)
theorem wd_se_X0_pegOf : (.selects RX0 yX0_pegOf yX0_pegOf : Cond) ∈ wG := wG_of 380 (by decide +kernel) (by decide +kernel)
theorem wd_co_X0_pegOf : (.code yX0_pegOf cX0_pegOf 2 (Option.some FieldType.int) : Cond) ∈ wG := wG_of 381 (by decide +kernel) (by decide +kernel)
theorem wd_mlL_101 : (.methodLink RL 101 yX0_top : Cond) ∈ wG := wG_of 382 (by decide +kernel) (by decide +kernel)
theorem wd_im_X0_top : (.instanceMethod yX0_top : Cond) ∈ wG := wG_of 383 (by decide +kernel) (by decide +kernel)
theorem wd_se_X0_top : (.selects RX0 yX0_top yX0_top : Cond) ∈ wG := wG_of 384 (by decide +kernel) (by decide +kernel)
theorem wd_co_X0_top : (.code yX0_top cX0_top 2 (Option.some FieldType.int) : Cond) ∈ wG := wG_of 385 (by decide +kernel) (by decide +kernel)
theorem wd_mlL_104 : (.methodLink RL 104 yX0_canMove : Cond) ∈ wG := wG_of 386 (by decide +kernel) (by decide +kernel)
theorem wd_im_X0_canMove : (.instanceMethod yX0_canMove : Cond) ∈ wG := wG_of 387 (by decide +kernel) (by decide +kernel)
theorem wd_se_X0_canMove : (.selects RX0 yX0_canMove yX0_canMove : Cond) ∈ wG := wG_of 388 (by decide +kernel) (by decide +kernel)
theorem wd_co_X0_canMove : (.code yX0_canMove cX0_canMove 3 (Option.some FieldType.boolean) : Cond) ∈ wG := wG_of 389 (by decide +kernel) (by decide +kernel)
theorem wd_mlL_136 : (.methodLink RL 136 yL_areWaysSo : Cond) ∈ wG := wG_of 390 (by decide +kernel) (by decide +kernel)
theorem wd_st_L_areWaysSo : (.static yL_areWaysSo : Cond) ∈ wG := wG_of 391 (by decide +kernel) (by decide +kernel)
theorem wd_co_L_areWaysSo : (.code yL_areWaysSo cL_areWaysSo 13 (Option.some FieldType.boolean) : Cond) ∈ wG := wG_of 392 (by decide +kernel) (by decide +kernel)
theorem wd_mlL_108 : (.methodLink RL 108 yX0_next : Cond) ∈ wG := wG_of 393 (by decide +kernel) (by decide +kernel)
theorem wd_im_X0_next : (.instanceMethod yX0_next : Cond) ∈ wG := wG_of 394 (by decide +kernel) (by decide +kernel)
theorem wd_se_X0_next : (.selects RX0 yX0_next yX0_next : Cond) ∈ wG := wG_of 395 (by decide +kernel) (by decide +kernel)
theorem wd_co_X0_next : (.code yX0_next cX0_next 4 (Option.some FieldType.int) : Cond) ∈ wG := wG_of 396 (by decide +kernel) (by decide +kernel)
theorem wd_mlL_111 : (.methodLink RL 111 yL_lost : Cond) ∈ wG := wG_of 397 (by decide +kernel) (by decide +kernel)
theorem wd_st_L_lost : (.static yL_lost : Cond) ∈ wG := wG_of 398 (by decide +kernel) (by decide +kernel)
theorem wd_cw_L_lost : (.codeWith yL_lost cL_lost 2 (Option.some FieldType.int) [(0, 4, 5, 22)] : Cond) ∈ wG := wG_of 399 (by decide +kernel) (by decide +kernel)
theorem wd_mlL_41 : (.methodLink RL 41 yX0_lost : Cond) ∈ wG := wG_of 400 (by decide +kernel) (by decide +kernel)
theorem wd_im_X0_lost : (.instanceMethod yX0_lost : Cond) ∈ wG := wG_of 401 (by decide +kernel) (by decide +kernel)
theorem wd_se_X0_lost : (.selects RX0 yX0_lost yX0_lost : Cond) ∈ wG := wG_of 402 (by decide +kernel) (by decide +kernel)
theorem wd_co_X0_lost : (.code yX0_lost cX0_lost 3 (Option.some FieldType.int) : Cond) ∈ wG := wG_of 403 (by decide +kernel) (by decide +kernel)
theorem wd_mlL_113 : (.methodLink RL 113 yL_wayByDisks : Cond) ∈ wG := wG_of 405 (by decide +kernel) (by decide +kernel)
theorem wd_st_L_wayByDisks : (.static yL_wayByDisks : Cond) ∈ wG := wG_of 406 (by decide +kernel) (by decide +kernel)
theorem wd_cw_L_wayByDisks : (.codeWith yL_wayByDisks cL_wayByDisks 2 (Option.some FieldType.int) [(0, 4, 5, 22)] : Cond) ∈ wG := wG_of 407 (by decide +kernel) (by decide +kernel)
theorem wd_mlL_44 : (.methodLink RL 44 yX0_wayByDisks : Cond) ∈ wG := wG_of 408 (by decide +kernel) (by decide +kernel)
theorem wd_im_X0_wayByDisks : (.instanceMethod yX0_wayByDisks : Cond) ∈ wG := wG_of 409 (by decide +kernel) (by decide +kernel)
theorem wd_se_X0_wayByDisks : (.selects RX0 yX0_wayByDisks yX0_wayByDisks : Cond) ∈ wG := wG_of 410 (by decide +kernel) (by decide +kernel)
theorem wd_co_X0_wayByDisks : (.code yX0_wayByDisks cX0_wayByDisks 7 (Option.some FieldType.int) : Cond) ∈ wG := wG_of 411 (by decide +kernel) (by decide +kernel)
theorem wd_ml0_131 : (.methodLink RX0 131 yX0_isAnyBarred : Cond) ∈ wG := wG_of 412 (by decide +kernel) (by decide +kernel)
theorem wd_im_X0_isAnyBarred : (.instanceMethod yX0_isAnyBarred : Cond) ∈ wG := wG_of 414 (by decide +kernel) (by decide +kernel)
theorem wd_co_X0_isAnyBarred : (.code yX0_isAnyBarred cX0_isAnyBarred 2 (Option.some FieldType.boolean) : Cond) ∈ wG := wG_of 415 (by decide +kernel) (by decide +kernel)
theorem wd_ml0_137 : (.methodLink RX0 137 yX0_thirdPeg : Cond) ∈ wG := wG_of 417 (by decide +kernel) (by decide +kernel)
theorem wd_st_X0_thirdPeg : (.static yX0_thirdPeg : Cond) ∈ wG := wG_of 418 (by decide +kernel) (by decide +kernel)
theorem wd_co_X0_thirdPeg : (.code yX0_thirdPeg cX0_thirdPeg 2 (Option.some FieldType.int) : Cond) ∈ wG := wG_of 419 (by decide +kernel) (by decide +kernel)
theorem wd_ml0_140 : (.methodLink RX0 140 yX0_gather : Cond) ∈ wG := wG_of 420 (by decide +kernel) (by decide +kernel)
theorem wd_im_X0_gather : (.instanceMethod yX0_gather : Cond) ∈ wG := wG_of 422 (by decide +kernel) (by decide +kernel)
theorem wd_co_X0_gather : (.code yX0_gather cX0_gather 8 (Option.some FieldType.int) : Cond) ∈ wG := wG_of 423 (by decide +kernel) (by decide +kernel)
theorem wd_mlL_115 : (.methodLink RL 115 yX0_isLawful : Cond) ∈ wG := wG_of 424 (by decide +kernel) (by decide +kernel)
theorem wd_im_X0_isLawful : (.instanceMethod yX0_isLawful : Cond) ∈ wG := wG_of 425 (by decide +kernel) (by decide +kernel)
theorem wd_se_X0_isLawful : (.selects RX0 yX0_isLawful yX0_isLawful : Cond) ∈ wG := wG_of 426 (by decide +kernel) (by decide +kernel)
theorem wd_co_X0_isLawful : (.code yX0_isLawful cX0_isLawful 1 (Option.some FieldType.boolean) : Cond) ∈ wG := wG_of 427 (by decide +kernel) (by decide +kernel)
theorem wd_se_X0_lay : (.selects RX0 yX0_lay yX0_lay : Cond) ∈ wG := wG_of 0 (by decide +kernel) (by decide +kernel)
theorem wd_se_X0_isDisk : (.selects RX0 yX0_isDisk yX0_isDisk : Cond) ∈ wG := wG_of 2 (by decide +kernel) (by decide +kernel)
theorem wd_se_X0_isPeg : (.selects RX0 yX0_isPeg yX0_isPeg : Cond) ∈ wG := wG_of 3 (by decide +kernel) (by decide +kernel)
theorem wd_se_X0_pegIn : (.selects RX0 yX0_pegIn yX0_pegIn : Cond) ∈ wG := wG_of 4 (by decide +kernel) (by decide +kernel)
theorem wd_se_X0_isPossible : (.selects RX0 yX0_isPossible yX0_isPossible : Cond) ∈ wG := wG_of 5 (by decide +kernel) (by decide +kernel)
theorem wd_se_X0_readTops : (.selects RX0 yX0_readTops yX0_readTops : Cond) ∈ wG := wG_of 6 (by decide +kernel) (by decide +kernel)
theorem wd_se_X0_fits : (.selects RX0 yX0_fits yX0_fits : Cond) ∈ wG := wG_of 7 (by decide +kernel) (by decide +kernel)
theorem wd_se_X0_behindMove : (.selects RX0 yX0_behindMove yX0_behindMove : Cond) ∈ wG := wG_of 8 (by decide +kernel) (by decide +kernel)
theorem wd_se_X0_keepsRule : (.selects RX0 yX0_keepsRule yX0_keepsRule : Cond) ∈ wG := wG_of 9 (by decide +kernel) (by decide +kernel)
theorem wd_se_X0_diskBelow : (.selects RX0 yX0_diskBelow yX0_diskBelow : Cond) ∈ wG := wG_of 10 (by decide +kernel) (by decide +kernel)
theorem wd_se_X0_mayLieOn : (.selects RX0 yX0_mayLieOn yX0_mayLieOn : Cond) ∈ wG := wG_of 11 (by decide +kernel) (by decide +kernel)
theorem wd_se_X0_wayFrom : (.selects RX0 yX0_wayFrom yX0_wayFrom : Cond) ∈ wG := wG_of 12 (by decide +kernel) (by decide +kernel)
theorem wd_se_X0_search : (.selects RX0 yX0_search yX0_search : Cond) ∈ wG := wG_of 13 (by decide +kernel) (by decide +kernel)
theorem wd_se_X0_isNumber : (.selects RX0 yX0_isNumber yX0_isNumber : Cond) ∈ wG := wG_of 14 (by decide +kernel) (by decide +kernel)
theorem wd_se_X0_searchFrom : (.selects RX0 yX0_searchFrom yX0_searchFrom : Cond) ∈ wG := wG_of 15 (by decide +kernel) (by decide +kernel)
theorem wd_se_X0_isStep : (.selects RX0 yX0_isStep yX0_isStep : Cond) ∈ wG := wG_of 16 (by decide +kernel) (by decide +kernel)
theorem wd_se_X0_isAnyBarred : (.selects RX0 yX0_isAnyBarred yX0_isAnyBarred : Cond) ∈ wG := wG_of 17 (by decide +kernel) (by decide +kernel)
theorem wd_se_X0_gather : (.selects RX0 yX0_gather yX0_gather : Cond) ∈ wG := wG_of 18 (by decide +kernel) (by decide +kernel)
theorem wG_X0 : ∀ w ∈ u_ws RX0 TX0 16, w ∈ wG := by
  intro w hw
  obtain ⟨k, hk, rfl⟩ := List.mem_map.mp hw
  have hk := List.mem_range.mp hk
  rcases (show k = 0 ∨ k = 1 ∨ k = 2 ∨ k = 3 ∨ k = 4 ∨ k = 5 ∨ k = 6 ∨ k = 7 ∨ k = 8 ∨ k = 9 ∨ k = 10 ∨ k = 11 ∨ k = 12 ∨ k = 13 ∨ k = 14 ∨ k = 15 by omega) with rfl | rfl | rfl | rfl | rfl | rfl | rfl | rfl | rfl | rfl | rfl | rfl | rfl | rfl | rfl | rfl
  · exact wd_la0_pegCount
  · exact wd_la0_diskCount
  · exact wd_la0_ruleOn
  · exact wd_la0_weight
  · exact wd_la0_colour
  · exact wd_la0_allowed
  · exact wd_la0_now
  · exact wd_la0_target
  · exact wd_la0_trail
  · exact wd_la0_moveCount
  · exact wd_la0_tops
  · exact wd_la0_far
  · exact wd_la0_measured
  · exact wd_la0_seen
  · exact wd_la0_queue
  · exact wd_la0_splitNumbers
theorem gw_0_35 : GoodIn wG (wsS RX0 35 yX0_splitTable (Cond.code yX0_splitTable cX0_splitTable 3 (Option.some (FieldType.array FieldType.int)) :: wG)) := wG_S wd_ml0_35 wd_st_X0_splitTable wd_in_0 wd_co_X0_splitTable
theorem gw_0_156 : GoodIn wG (wsS RX0 156 yX0_splitIndex (Cond.code yX0_splitIndex cX0_splitIndex 2 (Option.some FieldType.int) :: wG)) := wG_S wd_ml0_156 wd_st_X0_splitIndex wd_in_0 wd_co_X0_splitIndex
theorem gw_0_179 : GoodIn wG (wsS RX0 179 yX0_splitNumber (Cond.code yX0_splitNumber cX0_splitNumber 6 (Option.some FieldType.int) :: wG)) := wG_S wd_ml0_179 wd_st_X0_splitNumber wd_in_0 wd_co_X0_splitNumber
theorem gw_0_42 : GoodIn wG (wsV RX0 42 RX0 yX0_lay (Cond.code yX0_lay cX0_lay 5 (Option.none : Option FieldType) :: wG)) := wG_V wd_ml0_42 wd_im_X0_lay wd_se_X0_lay wd_in_0 wd_co_X0_lay
theorem gw_L_120 : GoodIn wG (wsS RL 120 yL_cell (Cond.code yL_cell cL_cell 2 (Option.some FieldType.int) :: wG)) := wG_S wd_mlL_120 wd_st_L_cell wd_in_L wd_co_L_cell
theorem gw_L_124 : GoodIn wG (wsS RL 124 yL_act (Cond.code yL_act cL_act 7 (Option.some FieldType.int) :: wG)) := wG_S wd_mlL_124 wd_st_L_act wd_in_L wd_co_L_act
theorem gw_L_47 : GoodIn wG (wsS RL 47 yL_low (Cond.code yL_low cL_low 2 (Option.some FieldType.int) :: wG)) := wG_S wd_mlL_47 wd_st_L_low wd_in_L wd_co_L_low
theorem gw_L_52 : GoodIn wG (wsV RL 52 RX0 yX0_pegs (Cond.code yX0_pegs cX0_pegs 1 (Option.some FieldType.int) :: wG)) := wG_V wd_mlL_52 wd_im_X0_pegs wd_se_X0_pegs wd_in_0 wd_co_X0_pegs
theorem gw_L_55 : GoodIn wG (wsV RL 55 RX0 yX0_disks (Cond.code yX0_disks cX0_disks 1 (Option.some FieldType.int) :: wG)) := wG_V wd_mlL_55 wd_im_X0_disks wd_se_X0_disks wd_in_0 wd_co_X0_disks
theorem gw_L_58 : GoodIn wG (va_wsS RL 58 yL_begin (Cond.codeWith yL_begin cL_begin 4 (Option.some FieldType.int) [(0, 6, 7, 14)] :: wG)) := wG_SW wd_mlL_58 wd_st_L_begin wd_in_L wd_cw_L_begin
theorem gw_L_8 : GoodIn wG (wsV RL 8 RX0 yX0_begin (Cond.code yX0_begin cX0_begin 3 (Option.some FieldType.int) :: wG)) := wG_V wd_mlL_8 wd_im_X0_begin wd_se_X0_begin wd_in_0 wd_co_X0_begin
theorem gw_L_61 : GoodIn wG (wsV RL 61 RX0 yX0_layStart (Cond.code yX0_layStart cX0_layStart 2 (Option.some FieldType.int) :: wG)) := wG_V wd_mlL_61 wd_im_X0_layStart wd_se_X0_layStart wd_in_0 wd_co_X0_layStart
theorem gw_L_64 : GoodIn wG (va_wsS RL 64 yL_put (Cond.codeWith yL_put cL_put 4 (Option.some FieldType.int) [(0, 6, 7, 20), (0, 6, 11, 22)] :: wG)) := wG_SW wd_mlL_64 wd_st_L_put wd_in_L wd_cw_L_put
theorem gw_L_17 : GoodIn wG (wsV RL 17 RX0 yX0_put (Cond.code yX0_put cX0_put 4 (Option.some FieldType.int) :: wG)) := wG_V wd_mlL_17 wd_im_X0_put wd_se_X0_put wd_in_0 wd_co_X0_put
theorem gw_0_57 : GoodIn wG (wsV RX0 57 RX0 yX0_isDisk (Cond.code yX0_isDisk cX0_isDisk 2 (Option.some FieldType.boolean) :: wG)) := wG_V wd_ml0_57 wd_im_X0_isDisk wd_se_X0_isDisk wd_in_0 wd_co_X0_isDisk
theorem gw_0_61 : GoodIn wG (wsV RX0 61 RX0 yX0_isPeg (Cond.code yX0_isPeg cX0_isPeg 2 (Option.some FieldType.boolean) :: wG)) := wG_V wd_ml0_61 wd_im_X0_isPeg wd_se_X0_isPeg wd_in_0 wd_co_X0_isPeg
theorem gw_0_80 : GoodIn wG (wsV RX0 80 RX0 yX0_pegIn (Cond.code yX0_pegIn cX0_pegIn 4 (Option.some FieldType.int) :: wG)) := wG_V wd_ml0_80 wd_im_X0_pegIn wd_se_X0_pegIn wd_in_0 wd_co_X0_pegIn
theorem gw_L_66 : GoodIn wG (va_wsS RL 66 yL_aim (Cond.codeWith yL_aim cL_aim 4 (Option.some FieldType.int) [(0, 6, 7, 20)] :: wG)) := wG_SW wd_mlL_66 wd_st_L_aim wd_in_L wd_cw_L_aim
theorem gw_L_24 : GoodIn wG (wsV RL 24 RX0 yX0_aim (Cond.code yX0_aim cX0_aim 4 (Option.some FieldType.int) :: wG)) := wG_V wd_mlL_24 wd_im_X0_aim wd_se_X0_aim wd_in_0 wd_co_X0_aim
theorem gw_L_68 : GoodIn wG (va_wsS RL 68 yL_allow (Cond.codeWith yL_allow cL_allow 5 (Option.some FieldType.int) [(0, 15, 16, 20), (0, 15, 21, 14)] :: wG)) := wG_SW wd_mlL_68 wd_st_L_allow wd_in_L wd_cw_L_allow
theorem gw_L_27 : GoodIn wG (wsV RL 27 RX0 yX0_allow (Cond.code yX0_allow cX0_allow 6 (Option.some FieldType.boolean) :: wG)) := wG_V wd_mlL_27 wd_im_X0_allow wd_se_X0_allow wd_in_0 wd_co_X0_allow
theorem gw_0_95 : GoodIn wG (wsS RX0 95 yX0_pairOf (Cond.code yX0_pairOf cX0_pairOf 2 (Option.some FieldType.int) :: wG)) := wG_S wd_ml0_95 wd_st_X0_pairOf wd_in_0 wd_co_X0_pairOf
theorem gw_L_71 : GoodIn wG (va_wsS RL 71 yL_setColour (Cond.codeWith yL_setColour cL_setColour 4 (Option.some FieldType.int) [(0, 6, 7, 20), (0, 6, 11, 14)] :: wG)) := wG_SW wd_mlL_71 wd_st_L_setColour wd_in_L wd_cw_L_setColour
theorem gw_L_31 : GoodIn wG (wsV RL 31 RX0 yX0_setColour (Cond.code yX0_setColour cX0_setColour 4 (Option.some FieldType.int) :: wG)) := wG_V wd_mlL_31 wd_im_X0_setColour wd_se_X0_setColour wd_in_0 wd_co_X0_setColour
theorem gw_L_73 : GoodIn wG (wsV RL 73 RX0 yX0_setRule (Cond.code yX0_setRule cX0_setRule 3 (Option.some FieldType.boolean) :: wG)) := wG_V wd_mlL_73 wd_im_X0_setRule wd_se_X0_setRule wd_in_0 wd_co_X0_setRule
theorem gw_L_77 : GoodIn wG (va_wsS RL 77 yL_takeBack (Cond.codeWith yL_takeBack cL_takeBack 2 (Option.some FieldType.int) [(0, 4, 5, 22)] :: wG)) := wG_SW wd_mlL_77 wd_st_L_takeBack wd_in_L wd_cw_L_takeBack
theorem gw_L_37 : GoodIn wG (wsV RL 37 RX0 yX0_takeBack (Cond.code yX0_takeBack cX0_takeBack 1 (Option.some FieldType.int) :: wG)) := wG_V wd_mlL_37 wd_im_X0_takeBack wd_se_X0_takeBack wd_in_0 wd_co_X0_takeBack
theorem gw_L_80 : GoodIn wG (va_wsS RL 80 yL_move (Cond.codeWith yL_move cL_move 4 (Option.some FieldType.int) [(0, 6, 7, 20), (0, 6, 11, 22)] :: wG)) := wG_SW wd_mlL_80 wd_st_L_move wd_in_L wd_cw_L_move
theorem gw_L_34 : GoodIn wG (wsV RL 34 RX0 yX0_move (Cond.code yX0_move cX0_move 4 (Option.some FieldType.int) :: wG)) := wG_V wd_mlL_34 wd_im_X0_move wd_se_X0_move wd_in_0 wd_co_X0_move
theorem gw_0_105 : GoodIn wG (wsV RX0 105 RX0 yX0_isPossible (Cond.code yX0_isPossible cX0_isPossible 3 (Option.some FieldType.boolean) :: wG)) := wG_V wd_ml0_105 wd_im_X0_isPossible wd_se_X0_isPossible wd_in_0 wd_co_X0_isPossible
theorem gw_0_120 : GoodIn wG (wsV RX0 120 RX0 yX0_readTops (Cond.code yX0_readTops cX0_readTops 4 (Option.none : Option FieldType) :: wG)) := wG_V wd_ml0_120 wd_im_X0_readTops wd_se_X0_readTops wd_in_0 wd_co_X0_readTops
theorem gw_0_165 : GoodIn wG (wsV RX0 165 RX0 yX0_fits (Cond.code yX0_fits cX0_fits 5 (Option.some FieldType.boolean) :: wG)) := wG_V wd_ml0_165 wd_im_X0_fits wd_se_X0_fits wd_in_0 wd_co_X0_fits
theorem gw_0_111 : GoodIn wG (wsV RX0 111 RX0 yX0_behindMove (Cond.code yX0_behindMove cX0_behindMove 5 (Option.some FieldType.int) :: wG)) := wG_V wd_ml0_111 wd_im_X0_behindMove wd_se_X0_behindMove wd_in_0 wd_co_X0_behindMove
theorem gw_0_124 : GoodIn wG (wsV RX0 124 RX0 yX0_keepsRule (Cond.code yX0_keepsRule cX0_keepsRule 3 (Option.some FieldType.boolean) :: wG)) := wG_V wd_ml0_124 wd_im_X0_keepsRule wd_se_X0_keepsRule wd_in_0 wd_co_X0_keepsRule
theorem gw_0_159 : GoodIn wG (wsV RX0 159 RX0 yX0_diskBelow (Cond.code yX0_diskBelow cX0_diskBelow 5 (Option.some FieldType.int) :: wG)) := wG_V wd_ml0_159 wd_im_X0_diskBelow wd_se_X0_diskBelow wd_in_0 wd_co_X0_diskBelow
theorem gw_0_162 : GoodIn wG (wsV RX0 162 RX0 yX0_mayLieOn (Cond.code yX0_mayLieOn cX0_mayLieOn 3 (Option.some FieldType.boolean) :: wG)) := wG_V wd_ml0_162 wd_im_X0_mayLieOn wd_se_X0_mayLieOn wd_in_0 wd_co_X0_mayLieOn
theorem gw_L_128 : GoodIn wG (wsS RL 128 yL_areAlike (Cond.code yL_areAlike cL_areAlike 2 (Option.some FieldType.boolean) :: wG)) := wG_S wd_mlL_128 wd_st_L_areAlike wd_in_L wd_co_L_areAlike
theorem gw_L_82 : GoodIn wG (wsV RL 82 RX0 yX0_moves (Cond.code yX0_moves cX0_moves 1 (Option.some FieldType.int) :: wG)) := wG_V wd_mlL_82 wd_im_X0_moves wd_se_X0_moves wd_in_0 wd_co_X0_moves
theorem gw_L_85 : GoodIn wG (wsV RL 85 RX0 yX0_arrangement (Cond.code yX0_arrangement cX0_arrangement 1 (Option.some FieldType.int) :: wG)) := wG_V wd_mlL_85 wd_im_X0_arrangement wd_se_X0_arrangement wd_in_0 wd_co_X0_arrangement
theorem gw_L_88 : GoodIn wG (wsV RL 88 RX0 yX0_goal (Cond.code yX0_goal cX0_goal 1 (Option.some FieldType.int) :: wG)) := wG_V wd_mlL_88 wd_im_X0_goal wd_se_X0_goal wd_in_0 wd_co_X0_goal
theorem gw_L_91 : GoodIn wG (wsV RL 91 RX0 yX0_way (Cond.code yX0_way cX0_way 1 (Option.some FieldType.int) :: wG)) := wG_V wd_mlL_91 wd_im_X0_way wd_se_X0_way wd_in_0 wd_co_X0_way
theorem gw_0_127 : GoodIn wG (wsV RX0 127 RX0 yX0_wayFrom (Cond.code yX0_wayFrom cX0_wayFrom 2 (Option.some FieldType.int) :: wG)) := wG_V wd_ml0_127 wd_im_X0_wayFrom wd_se_X0_wayFrom wd_in_0 wd_co_X0_wayFrom
theorem gw_0_150 : GoodIn wG (wsV RX0 150 RX0 yX0_search (Cond.code yX0_search cX0_search 6 (Option.some FieldType.int) :: wG)) := wG_V wd_ml0_150 wd_im_X0_search wd_se_X0_search wd_in_0 wd_co_X0_search
theorem gw_0_168 : GoodIn wG (wsV RX0 168 RX0 yX0_isNumber (Cond.code yX0_isNumber cX0_isNumber 2 (Option.some FieldType.boolean) :: wG)) := wG_V wd_ml0_168 wd_im_X0_isNumber wd_se_X0_isNumber wd_in_0 wd_co_X0_isNumber
theorem gw_0_171 : GoodIn wG (wsV RX0 171 RX0 yX0_searchFrom (Cond.code yX0_searchFrom cX0_searchFrom 9 (Option.some FieldType.int) :: wG)) := wG_V wd_ml0_171 wd_im_X0_searchFrom wd_se_X0_searchFrom wd_in_0 wd_co_X0_searchFrom
theorem gw_0_175 : GoodIn wG (wsV RX0 175 RX0 yX0_isStep (Cond.code yX0_isStep cX0_isStep 5 (Option.some FieldType.boolean) :: wG)) := wG_V wd_ml0_175 wd_im_X0_isStep wd_se_X0_isStep wd_in_0 wd_co_X0_isStep
theorem gw_L_94 : GoodIn wG (wsV RL 94 RX0 yX0_reachable (Cond.code yX0_reachable cX0_reachable 1 (Option.some FieldType.int) :: wG)) := wG_V wd_mlL_94 wd_im_X0_reachable wd_se_X0_reachable wd_in_0 wd_co_X0_reachable
theorem gw_L_132 : GoodIn wG (wsS RL 132 yL_isNowSo (Cond.code yL_isNowSo cL_isNowSo 8 (Option.some FieldType.boolean) :: wG)) := wG_S wd_mlL_132 wd_st_L_isNowSo wd_in_L wd_co_L_isNowSo
theorem gw_L_97 : GoodIn wG (wsV RL 97 RX0 yX0_pegOf (Cond.code yX0_pegOf cX0_pegOf 2 (Option.some FieldType.int) :: wG)) := wG_V wd_mlL_97 wd_im_X0_pegOf wd_se_X0_pegOf wd_in_0 wd_co_X0_pegOf
theorem gw_L_101 : GoodIn wG (wsV RL 101 RX0 yX0_top (Cond.code yX0_top cX0_top 2 (Option.some FieldType.int) :: wG)) := wG_V wd_mlL_101 wd_im_X0_top wd_se_X0_top wd_in_0 wd_co_X0_top
theorem gw_L_104 : GoodIn wG (wsV RL 104 RX0 yX0_canMove (Cond.code yX0_canMove cX0_canMove 3 (Option.some FieldType.boolean) :: wG)) := wG_V wd_mlL_104 wd_im_X0_canMove wd_se_X0_canMove wd_in_0 wd_co_X0_canMove
theorem gw_L_136 : GoodIn wG (wsS RL 136 yL_areWaysSo (Cond.code yL_areWaysSo cL_areWaysSo 13 (Option.some FieldType.boolean) :: wG)) := wG_S wd_mlL_136 wd_st_L_areWaysSo wd_in_L wd_co_L_areWaysSo
theorem gw_L_108 : GoodIn wG (wsV RL 108 RX0 yX0_next (Cond.code yX0_next cX0_next 4 (Option.some FieldType.int) :: wG)) := wG_V wd_mlL_108 wd_im_X0_next wd_se_X0_next wd_in_0 wd_co_X0_next
theorem gw_L_111 : GoodIn wG (va_wsS RL 111 yL_lost (Cond.codeWith yL_lost cL_lost 2 (Option.some FieldType.int) [(0, 4, 5, 22)] :: wG)) := wG_SW wd_mlL_111 wd_st_L_lost wd_in_L wd_cw_L_lost
theorem gw_L_41 : GoodIn wG (wsV RL 41 RX0 yX0_lost (Cond.code yX0_lost cX0_lost 3 (Option.some FieldType.int) :: wG)) := wG_V wd_mlL_41 wd_im_X0_lost wd_se_X0_lost wd_in_0 wd_co_X0_lost
theorem gw_L_113 : GoodIn wG (va_wsS RL 113 yL_wayByDisks (Cond.codeWith yL_wayByDisks cL_wayByDisks 2 (Option.some FieldType.int) [(0, 4, 5, 22)] :: wG)) := wG_SW wd_mlL_113 wd_st_L_wayByDisks wd_in_L wd_cw_L_wayByDisks
theorem gw_L_44 : GoodIn wG (wsV RL 44 RX0 yX0_wayByDisks (Cond.code yX0_wayByDisks cX0_wayByDisks 7 (Option.some FieldType.int) :: wG)) := wG_V wd_mlL_44 wd_im_X0_wayByDisks wd_se_X0_wayByDisks wd_in_0 wd_co_X0_wayByDisks
theorem gw_0_131 : GoodIn wG (wsV RX0 131 RX0 yX0_isAnyBarred (Cond.code yX0_isAnyBarred cX0_isAnyBarred 2 (Option.some FieldType.boolean) :: wG)) := wG_V wd_ml0_131 wd_im_X0_isAnyBarred wd_se_X0_isAnyBarred wd_in_0 wd_co_X0_isAnyBarred
theorem gw_0_137 : GoodIn wG (wsS RX0 137 yX0_thirdPeg (Cond.code yX0_thirdPeg cX0_thirdPeg 2 (Option.some FieldType.int) :: wG)) := wG_S wd_ml0_137 wd_st_X0_thirdPeg wd_in_0 wd_co_X0_thirdPeg
theorem gw_0_140 : GoodIn wG (wsV RX0 140 RX0 yX0_gather (Cond.code yX0_gather cX0_gather 8 (Option.some FieldType.int) :: wG)) := wG_V wd_ml0_140 wd_im_X0_gather wd_se_X0_gather wd_in_0 wd_co_X0_gather
theorem gw_L_115 : GoodIn wG (wsV RL 115 RX0 yX0_isLawful (Cond.code yX0_isLawful cX0_isLawful 1 (Option.some FieldType.boolean) :: wG)) := wG_V wd_mlL_115 wd_im_X0_isLawful wd_se_X0_isLawful wd_in_0 wd_co_X0_isLawful
end
section
theorem dX0_init_0 : decode cX0_init 0 = .ok (.aload_n 0, 1) := by decide +kernel
theorem dX0_init_1 : decode cX0_init 1 = .ok (.invokespecial 1, 3) := by decide +kernel
theorem dX0_init_4 : decode cX0_init 4 = .ok (.aload_n 0, 1) := by decide +kernel
theorem dX0_init_5 : decode cX0_init 5 = .ok (.bipush 7, 2) := by decide +kernel
theorem dX0_init_7 : decode cX0_init 7 = .ok (.newarray .int, 2) := by decide +kernel
theorem dX0_init_9 : decode cX0_init 9 = .ok (.putfield 9, 3) := by decide +kernel
theorem dX0_init_12 : decode cX0_init 12 = .ok (.aload_n 0, 1) := by decide +kernel
theorem dX0_init_13 : decode cX0_init 13 = .ok (.bipush 6, 2) := by decide +kernel
theorem dX0_init_15 : decode cX0_init 15 = .ok (.newarray .int, 2) := by decide +kernel
theorem dX0_init_17 : decode cX0_init 17 = .ok (.putfield 13, 3) := by decide +kernel
theorem dX0_init_20 : decode cX0_init 20 = .ok (.aload_n 0, 1) := by decide +kernel
theorem dX0_init_21 : decode cX0_init 21 = .ok (.bipush 25, 2) := by decide +kernel
theorem dX0_init_23 : decode cX0_init 23 = .ok (.newarray .boolean, 2) := by decide +kernel
theorem dX0_init_25 : decode cX0_init 25 = .ok (.putfield 16, 3) := by decide +kernel
theorem dX0_init_28 : decode cX0_init 28 = .ok (.aload_n 0, 1) := by decide +kernel
theorem dX0_init_29 : decode cX0_init 29 = .ok (.sipush 500, 3) := by decide +kernel
theorem dX0_init_32 : decode cX0_init 32 = .ok (.newarray .int, 2) := by decide +kernel
theorem dX0_init_34 : decode cX0_init 34 = .ok (.putfield 20, 3) := by decide +kernel
theorem dX0_init_37 : decode cX0_init 37 = .ok (.aload_n 0, 1) := by decide +kernel
theorem dX0_init_38 : decode cX0_init 38 = .ok (.iconst 5, 1) := by decide +kernel
theorem dX0_init_39 : decode cX0_init 39 = .ok (.newarray .int, 2) := by decide +kernel
theorem dX0_init_41 : decode cX0_init 41 = .ok (.putfield 23, 3) := by decide +kernel
theorem dX0_init_44 : decode cX0_init 44 = .ok (.aload_n 0, 1) := by decide +kernel
theorem dX0_init_45 : decode cX0_init 45 = .ok (.sipush 15625, 3) := by decide +kernel
theorem dX0_init_48 : decode cX0_init 48 = .ok (.newarray .int, 2) := by decide +kernel
theorem dX0_init_50 : decode cX0_init 50 = .ok (.putfield 26, 3) := by decide +kernel
theorem dX0_init_53 : decode cX0_init 53 = .ok (.aload_n 0, 1) := by decide +kernel
theorem dX0_init_54 : decode cX0_init 54 = .ok (.sipush 15625, 3) := by decide +kernel
theorem dX0_init_57 : decode cX0_init 57 = .ok (.newarray .int, 2) := by decide +kernel
theorem dX0_init_59 : decode cX0_init 59 = .ok (.putfield 29, 3) := by decide +kernel
theorem dX0_init_62 : decode cX0_init 62 = .ok (.aload_n 0, 1) := by decide +kernel
theorem dX0_init_63 : decode cX0_init 63 = .ok (.sipush 15625, 3) := by decide +kernel
theorem dX0_init_66 : decode cX0_init 66 = .ok (.newarray .int, 2) := by decide +kernel
theorem dX0_init_68 : decode cX0_init 68 = .ok (.putfield 32, 3) := by decide +kernel
theorem dX0_init_71 : decode cX0_init 71 = .ok (.aload_n 0, 1) := by decide +kernel
theorem dX0_init_72 : decode cX0_init 72 = .ok (.invokestatic 35, 3) := by decide +kernel
theorem dX0_init_75 : decode cX0_init 75 = .ok (.putfield 39, 3) := by decide +kernel
theorem dX0_init_78 : decode cX0_init 78 = .ok (.aload_n 0, 1) := by decide +kernel
theorem dX0_init_79 : decode cX0_init 79 = .ok (.iconst 3, 1) := by decide +kernel
theorem dX0_init_80 : decode cX0_init 80 = .ok (.iconst 3, 1) := by decide +kernel
theorem dX0_init_81 : decode cX0_init 81 = .ok (.invokevirtual 42, 3) := by decide +kernel
theorem dX0_init_84 : decode cX0_init 84 = .ok (.return_, 1) := by decide +kernel
theorem dX0_begin_0 : decode cX0_begin 0 = .ok (.iload_n 1, 1) := by decide +kernel
theorem dX0_begin_1 : decode cX0_begin 1 = .ok (.iconst 3, 1) := by decide +kernel
theorem dX0_begin_2 : decode cX0_begin 2 = .ok (.if_icmp .lt 19, 3) := by decide +kernel
theorem dX0_begin_5 : decode cX0_begin 5 = .ok (.iload_n 1, 1) := by decide +kernel
theorem dX0_begin_6 : decode cX0_begin 6 = .ok (.iconst 5, 1) := by decide +kernel
theorem dX0_begin_7 : decode cX0_begin 7 = .ok (.if_icmp .gt 14, 3) := by decide +kernel
theorem dX0_begin_10 : decode cX0_begin 10 = .ok (.iload_n 2, 1) := by decide +kernel
theorem dX0_begin_11 : decode cX0_begin 11 = .ok (.iconst 1, 1) := by decide +kernel
theorem dX0_begin_12 : decode cX0_begin 12 = .ok (.if_icmp .lt 9, 3) := by decide +kernel
theorem dX0_begin_15 : decode cX0_begin 15 = .ok (.iload_n 2, 1) := by decide +kernel
theorem dX0_begin_16 : decode cX0_begin 16 = .ok (.bipush 6, 2) := by decide +kernel
theorem dX0_begin_18 : decode cX0_begin 18 = .ok (.if_icmp .le 13, 3) := by decide +kernel
theorem dX0_begin_21 : decode cX0_begin 21 = .ok (.new 46, 3) := by decide +kernel
theorem dX0_begin_24 : decode cX0_begin 24 = .ok (.dup, 1) := by decide +kernel
theorem dX0_begin_25 : decode cX0_begin 25 = .ok (.ldc 48, 2) := by decide +kernel
theorem dX0_begin_27 : decode cX0_begin 27 = .ok (.invokespecial 50, 3) := by decide +kernel
theorem dX0_begin_30 : decode cX0_begin 30 = .ok (.athrow, 1) := by decide +kernel
theorem dX0_begin_31 : decode cX0_begin 31 = .ok (.aload_n 0, 1) := by decide +kernel
theorem dX0_begin_32 : decode cX0_begin 32 = .ok (.iload_n 1, 1) := by decide +kernel
theorem dX0_begin_33 : decode cX0_begin 33 = .ok (.iload_n 2, 1) := by decide +kernel
theorem dX0_begin_34 : decode cX0_begin 34 = .ok (.invokevirtual 42, 3) := by decide +kernel
theorem dX0_begin_37 : decode cX0_begin 37 = .ok (.aload_n 0, 1) := by decide +kernel
theorem dX0_begin_38 : decode cX0_begin 38 = .ok (.getfield 9, 3) := by decide +kernel
theorem dX0_begin_41 : decode cX0_begin 41 = .ok (.aload_n 0, 1) := by decide +kernel
theorem dX0_begin_42 : decode cX0_begin 42 = .ok (.getfield 53, 3) := by decide +kernel
theorem dX0_begin_45 : decode cX0_begin 45 = .ok (.iaload, 1) := by decide +kernel
theorem dX0_begin_46 : decode cX0_begin 46 = .ok (.ireturn, 1) := by decide +kernel
theorem dX0_put_0 : decode cX0_put 0 = .ok (.aload_n 0, 1) := by decide +kernel
theorem dX0_put_1 : decode cX0_put 1 = .ok (.iload_n 1, 1) := by decide +kernel
theorem dX0_put_2 : decode cX0_put 2 = .ok (.invokevirtual 57, 3) := by decide +kernel
theorem dX0_put_5 : decode cX0_put 5 = .ok (.ifCond .eq 11, 3) := by decide +kernel
theorem dX0_put_8 : decode cX0_put 8 = .ok (.aload_n 0, 1) := by decide +kernel
theorem dX0_put_9 : decode cX0_put 9 = .ok (.iload_n 2, 1) := by decide +kernel
theorem dX0_put_10 : decode cX0_put 10 = .ok (.invokevirtual 61, 3) := by decide +kernel
theorem dX0_put_13 : decode cX0_put 13 = .ok (.ifCond .ne 13, 3) := by decide +kernel
theorem dX0_put_16 : decode cX0_put 16 = .ok (.new 64, 3) := by decide +kernel
theorem dX0_put_19 : decode cX0_put 19 = .ok (.dup, 1) := by decide +kernel
theorem dX0_put_20 : decode cX0_put 20 = .ok (.ldc 66, 2) := by decide +kernel
theorem dX0_put_22 : decode cX0_put 22 = .ok (.invokespecial 68, 3) := by decide +kernel
theorem dX0_put_25 : decode cX0_put 25 = .ok (.athrow, 1) := by decide +kernel
theorem dX0_put_26 : decode cX0_put 26 = .ok (.aload_n 0, 1) := by decide +kernel
theorem dX0_put_27 : decode cX0_put 27 = .ok (.getfield 69, 3) := by decide +kernel
theorem dX0_put_30 : decode cX0_put 30 = .ok (.ifCond .le 13, 3) := by decide +kernel
theorem dX0_put_33 : decode cX0_put 33 = .ok (.new 72, 3) := by decide +kernel
theorem dX0_put_36 : decode cX0_put 36 = .ok (.dup, 1) := by decide +kernel
theorem dX0_put_37 : decode cX0_put 37 = .ok (.ldc 74, 2) := by decide +kernel
theorem dX0_put_39 : decode cX0_put 39 = .ok (.invokespecial 76, 3) := by decide +kernel
theorem dX0_put_42 : decode cX0_put 42 = .ok (.athrow, 1) := by decide +kernel
theorem dX0_put_43 : decode cX0_put 43 = .ok (.aload_n 0, 1) := by decide +kernel
theorem dX0_put_44 : decode cX0_put 44 = .ok (.aload_n 0, 1) := by decide +kernel
theorem dX0_put_45 : decode cX0_put 45 = .ok (.getfield 77, 3) := by decide +kernel
theorem dX0_put_48 : decode cX0_put 48 = .ok (.iload_n 1, 1) := by decide +kernel
theorem dX0_put_49 : decode cX0_put 49 = .ok (.invokevirtual 80, 3) := by decide +kernel
theorem dX0_put_52 : decode cX0_put 52 = .ok (.istore_n 3, 1) := by decide +kernel
theorem dX0_put_53 : decode cX0_put 53 = .ok (.aload_n 0, 1) := by decide +kernel
theorem dX0_put_54 : decode cX0_put 54 = .ok (.dup, 1) := by decide +kernel
theorem dX0_put_55 : decode cX0_put 55 = .ok (.getfield 77, 3) := by decide +kernel
theorem dX0_put_58 : decode cX0_put 58 = .ok (.iload_n 2, 1) := by decide +kernel
theorem dX0_put_59 : decode cX0_put 59 = .ok (.iload_n 3, 1) := by decide +kernel
theorem dX0_put_60 : decode cX0_put 60 = .ok (.isub, 1) := by decide +kernel
theorem dX0_put_61 : decode cX0_put 61 = .ok (.aload_n 0, 1) := by decide +kernel
theorem dX0_put_62 : decode cX0_put 62 = .ok (.getfield 9, 3) := by decide +kernel
theorem dX0_put_65 : decode cX0_put 65 = .ok (.iload_n 1, 1) := by decide +kernel
theorem dX0_put_66 : decode cX0_put 66 = .ok (.iaload, 1) := by decide +kernel
theorem dX0_put_67 : decode cX0_put 67 = .ok (.imul, 1) := by decide +kernel
theorem dX0_put_68 : decode cX0_put 68 = .ok (.iadd, 1) := by decide +kernel
theorem dX0_put_69 : decode cX0_put 69 = .ok (.putfield 77, 3) := by decide +kernel
theorem dX0_put_72 : decode cX0_put 72 = .ok (.iload_n 3, 1) := by decide +kernel
theorem dX0_put_73 : decode cX0_put 73 = .ok (.ireturn, 1) := by decide +kernel
theorem dX0_aim_0 : decode cX0_aim 0 = .ok (.aload_n 0, 1) := by decide +kernel
theorem dX0_aim_1 : decode cX0_aim 1 = .ok (.iload_n 1, 1) := by decide +kernel
theorem dX0_aim_2 : decode cX0_aim 2 = .ok (.invokevirtual 57, 3) := by decide +kernel
theorem dX0_aim_5 : decode cX0_aim 5 = .ok (.ifCond .eq 11, 3) := by decide +kernel
theorem dX0_aim_8 : decode cX0_aim 8 = .ok (.aload_n 0, 1) := by decide +kernel
theorem dX0_aim_9 : decode cX0_aim 9 = .ok (.iload_n 2, 1) := by decide +kernel
theorem dX0_aim_10 : decode cX0_aim 10 = .ok (.invokevirtual 61, 3) := by decide +kernel
theorem dX0_aim_13 : decode cX0_aim 13 = .ok (.ifCond .ne 13, 3) := by decide +kernel
theorem dX0_aim_16 : decode cX0_aim 16 = .ok (.new 64, 3) := by decide +kernel
theorem dX0_aim_19 : decode cX0_aim 19 = .ok (.dup, 1) := by decide +kernel
theorem dX0_aim_20 : decode cX0_aim 20 = .ok (.ldc 66, 2) := by decide +kernel
theorem dX0_aim_22 : decode cX0_aim 22 = .ok (.invokespecial 68, 3) := by decide +kernel
theorem dX0_aim_25 : decode cX0_aim 25 = .ok (.athrow, 1) := by decide +kernel
theorem dX0_aim_26 : decode cX0_aim 26 = .ok (.aload_n 0, 1) := by decide +kernel
theorem dX0_aim_27 : decode cX0_aim 27 = .ok (.aload_n 0, 1) := by decide +kernel
theorem dX0_aim_28 : decode cX0_aim 28 = .ok (.getfield 84, 3) := by decide +kernel
theorem dX0_aim_31 : decode cX0_aim 31 = .ok (.iload_n 1, 1) := by decide +kernel
theorem dX0_aim_32 : decode cX0_aim 32 = .ok (.invokevirtual 80, 3) := by decide +kernel
theorem dX0_aim_35 : decode cX0_aim 35 = .ok (.istore_n 3, 1) := by decide +kernel
theorem dX0_aim_36 : decode cX0_aim 36 = .ok (.aload_n 0, 1) := by decide +kernel
theorem dX0_aim_37 : decode cX0_aim 37 = .ok (.dup, 1) := by decide +kernel
theorem dX0_aim_38 : decode cX0_aim 38 = .ok (.getfield 84, 3) := by decide +kernel
theorem dX0_aim_41 : decode cX0_aim 41 = .ok (.iload_n 2, 1) := by decide +kernel
theorem dX0_aim_42 : decode cX0_aim 42 = .ok (.iload_n 3, 1) := by decide +kernel
theorem dX0_aim_43 : decode cX0_aim 43 = .ok (.isub, 1) := by decide +kernel
theorem dX0_aim_44 : decode cX0_aim 44 = .ok (.aload_n 0, 1) := by decide +kernel
theorem dX0_aim_45 : decode cX0_aim 45 = .ok (.getfield 9, 3) := by decide +kernel
theorem dX0_aim_48 : decode cX0_aim 48 = .ok (.iload_n 1, 1) := by decide +kernel
theorem dX0_aim_49 : decode cX0_aim 49 = .ok (.iaload, 1) := by decide +kernel
theorem dX0_aim_50 : decode cX0_aim 50 = .ok (.imul, 1) := by decide +kernel
theorem dX0_aim_51 : decode cX0_aim 51 = .ok (.iadd, 1) := by decide +kernel
theorem dX0_aim_52 : decode cX0_aim 52 = .ok (.putfield 84, 3) := by decide +kernel
theorem dX0_aim_55 : decode cX0_aim 55 = .ok (.aload_n 0, 1) := by decide +kernel
theorem dX0_aim_56 : decode cX0_aim 56 = .ok (.iconst 0, 1) := by decide +kernel
theorem dX0_aim_57 : decode cX0_aim 57 = .ok (.putfield 87, 3) := by decide +kernel
theorem dX0_aim_60 : decode cX0_aim 60 = .ok (.iload_n 3, 1) := by decide +kernel
theorem dX0_aim_61 : decode cX0_aim 61 = .ok (.ireturn, 1) := by decide +kernel
theorem dX0_allow_0 : decode cX0_allow 0 = .ok (.aload_n 0, 1) := by decide +kernel
theorem dX0_allow_1 : decode cX0_allow 1 = .ok (.iload_n 1, 1) := by decide +kernel
theorem dX0_allow_2 : decode cX0_allow 2 = .ok (.invokevirtual 61, 3) := by decide +kernel
theorem dX0_allow_5 : decode cX0_allow 5 = .ok (.ifCond .eq 11, 3) := by decide +kernel
theorem dX0_allow_8 : decode cX0_allow 8 = .ok (.aload_n 0, 1) := by decide +kernel
theorem dX0_allow_9 : decode cX0_allow 9 = .ok (.iload_n 2, 1) := by decide +kernel
theorem dX0_allow_10 : decode cX0_allow 10 = .ok (.invokevirtual 61, 3) := by decide +kernel
theorem dX0_allow_13 : decode cX0_allow 13 = .ok (.ifCond .ne 13, 3) := by decide +kernel
theorem dX0_allow_16 : decode cX0_allow 16 = .ok (.new 64, 3) := by decide +kernel
theorem dX0_allow_19 : decode cX0_allow 19 = .ok (.dup, 1) := by decide +kernel
theorem dX0_allow_20 : decode cX0_allow 20 = .ok (.ldc 91, 2) := by decide +kernel
theorem dX0_allow_22 : decode cX0_allow 22 = .ok (.invokespecial 68, 3) := by decide +kernel
theorem dX0_allow_25 : decode cX0_allow 25 = .ok (.athrow, 1) := by decide +kernel
theorem dX0_allow_26 : decode cX0_allow 26 = .ok (.iload_n 1, 1) := by decide +kernel
theorem dX0_allow_27 : decode cX0_allow 27 = .ok (.iload_n 2, 1) := by decide +kernel
theorem dX0_allow_28 : decode cX0_allow 28 = .ok (.if_icmp .ne 13, 3) := by decide +kernel
theorem dX0_allow_31 : decode cX0_allow 31 = .ok (.new 46, 3) := by decide +kernel
theorem dX0_allow_34 : decode cX0_allow 34 = .ok (.dup, 1) := by decide +kernel
theorem dX0_allow_35 : decode cX0_allow 35 = .ok (.ldc 93, 2) := by decide +kernel
theorem dX0_allow_37 : decode cX0_allow 37 = .ok (.invokespecial 50, 3) := by decide +kernel
theorem dX0_allow_40 : decode cX0_allow 40 = .ok (.athrow, 1) := by decide +kernel
theorem dX0_allow_41 : decode cX0_allow 41 = .ok (.iload_n 1, 1) := by decide +kernel
theorem dX0_allow_42 : decode cX0_allow 42 = .ok (.iload_n 2, 1) := by decide +kernel
theorem dX0_allow_43 : decode cX0_allow 43 = .ok (.invokestatic 95, 3) := by decide +kernel
theorem dX0_allow_46 : decode cX0_allow 46 = .ok (.istore 4, 2) := by decide +kernel
theorem dX0_allow_48 : decode cX0_allow 48 = .ok (.aload_n 0, 1) := by decide +kernel
theorem dX0_allow_49 : decode cX0_allow 49 = .ok (.getfield 16, 3) := by decide +kernel
theorem dX0_allow_52 : decode cX0_allow 52 = .ok (.iload 4, 2) := by decide +kernel
theorem dX0_allow_54 : decode cX0_allow 54 = .ok (.baload, 1) := by decide +kernel
theorem dX0_allow_55 : decode cX0_allow 55 = .ok (.istore 5, 2) := by decide +kernel
theorem dX0_allow_57 : decode cX0_allow 57 = .ok (.aload_n 0, 1) := by decide +kernel
theorem dX0_allow_58 : decode cX0_allow 58 = .ok (.getfield 16, 3) := by decide +kernel
theorem dX0_allow_61 : decode cX0_allow 61 = .ok (.iload 4, 2) := by decide +kernel
theorem dX0_allow_63 : decode cX0_allow 63 = .ok (.iload_n 3, 1) := by decide +kernel
theorem dX0_allow_64 : decode cX0_allow 64 = .ok (.bastore, 1) := by decide +kernel
theorem dX0_allow_65 : decode cX0_allow 65 = .ok (.aload_n 0, 1) := by decide +kernel
theorem dX0_allow_66 : decode cX0_allow 66 = .ok (.iconst 0, 1) := by decide +kernel
theorem dX0_allow_67 : decode cX0_allow 67 = .ok (.putfield 87, 3) := by decide +kernel
theorem dX0_allow_70 : decode cX0_allow 70 = .ok (.iload 5, 2) := by decide +kernel
theorem dX0_allow_72 : decode cX0_allow 72 = .ok (.ireturn, 1) := by decide +kernel
theorem dX0_setColour_0 : decode cX0_setColour 0 = .ok (.aload_n 0, 1) := by decide +kernel
theorem dX0_setColour_1 : decode cX0_setColour 1 = .ok (.iload_n 1, 1) := by decide +kernel
theorem dX0_setColour_2 : decode cX0_setColour 2 = .ok (.invokevirtual 57, 3) := by decide +kernel
theorem dX0_setColour_5 : decode cX0_setColour 5 = .ok (.ifCond .ne 13, 3) := by decide +kernel
theorem dX0_setColour_8 : decode cX0_setColour 8 = .ok (.new 64, 3) := by decide +kernel
theorem dX0_setColour_11 : decode cX0_setColour 11 = .ok (.dup, 1) := by decide +kernel
theorem dX0_setColour_12 : decode cX0_setColour 12 = .ok (.ldc 98, 2) := by decide +kernel
theorem dX0_setColour_14 : decode cX0_setColour 14 = .ok (.invokespecial 68, 3) := by decide +kernel
theorem dX0_setColour_17 : decode cX0_setColour 17 = .ok (.athrow, 1) := by decide +kernel
theorem dX0_setColour_18 : decode cX0_setColour 18 = .ok (.iload_n 2, 1) := by decide +kernel
theorem dX0_setColour_19 : decode cX0_setColour 19 = .ok (.ifCond .lt 8, 3) := by decide +kernel
theorem dX0_setColour_22 : decode cX0_setColour 22 = .ok (.iload_n 2, 1) := by decide +kernel
theorem dX0_setColour_23 : decode cX0_setColour 23 = .ok (.iconst 1, 1) := by decide +kernel
theorem dX0_setColour_24 : decode cX0_setColour 24 = .ok (.if_icmp .le 13, 3) := by decide +kernel
theorem dX0_setColour_27 : decode cX0_setColour 27 = .ok (.new 46, 3) := by decide +kernel
theorem dX0_setColour_30 : decode cX0_setColour 30 = .ok (.dup, 1) := by decide +kernel
theorem dX0_setColour_31 : decode cX0_setColour 31 = .ok (.ldc 100, 2) := by decide +kernel
theorem dX0_setColour_33 : decode cX0_setColour 33 = .ok (.invokespecial 50, 3) := by decide +kernel
theorem dX0_setColour_36 : decode cX0_setColour 36 = .ok (.athrow, 1) := by decide +kernel
theorem dX0_setColour_37 : decode cX0_setColour 37 = .ok (.aload_n 0, 1) := by decide +kernel
theorem dX0_setColour_38 : decode cX0_setColour 38 = .ok (.getfield 13, 3) := by decide +kernel
theorem dX0_setColour_41 : decode cX0_setColour 41 = .ok (.iload_n 1, 1) := by decide +kernel
theorem dX0_setColour_42 : decode cX0_setColour 42 = .ok (.iaload, 1) := by decide +kernel
theorem dX0_setColour_43 : decode cX0_setColour 43 = .ok (.istore_n 3, 1) := by decide +kernel
theorem dX0_setColour_44 : decode cX0_setColour 44 = .ok (.aload_n 0, 1) := by decide +kernel
theorem dX0_setColour_45 : decode cX0_setColour 45 = .ok (.getfield 13, 3) := by decide +kernel
theorem dX0_setColour_48 : decode cX0_setColour 48 = .ok (.iload_n 1, 1) := by decide +kernel
theorem dX0_setColour_49 : decode cX0_setColour 49 = .ok (.iload_n 2, 1) := by decide +kernel
theorem dX0_setColour_50 : decode cX0_setColour 50 = .ok (.iastore, 1) := by decide +kernel
theorem dX0_setColour_51 : decode cX0_setColour 51 = .ok (.aload_n 0, 1) := by decide +kernel
theorem dX0_setColour_52 : decode cX0_setColour 52 = .ok (.iconst 0, 1) := by decide +kernel
theorem dX0_setColour_53 : decode cX0_setColour 53 = .ok (.putfield 87, 3) := by decide +kernel
theorem dX0_setColour_56 : decode cX0_setColour 56 = .ok (.iload_n 3, 1) := by decide +kernel
theorem dX0_setColour_57 : decode cX0_setColour 57 = .ok (.ireturn, 1) := by decide +kernel
theorem dX0_setRule_0 : decode cX0_setRule 0 = .ok (.aload_n 0, 1) := by decide +kernel
theorem dX0_setRule_1 : decode cX0_setRule 1 = .ok (.getfield 102, 3) := by decide +kernel
theorem dX0_setRule_4 : decode cX0_setRule 4 = .ok (.istore_n 2, 1) := by decide +kernel
theorem dX0_setRule_5 : decode cX0_setRule 5 = .ok (.aload_n 0, 1) := by decide +kernel
theorem dX0_setRule_6 : decode cX0_setRule 6 = .ok (.iload_n 1, 1) := by decide +kernel
theorem dX0_setRule_7 : decode cX0_setRule 7 = .ok (.putfield 102, 3) := by decide +kernel
theorem dX0_setRule_10 : decode cX0_setRule 10 = .ok (.aload_n 0, 1) := by decide +kernel
theorem dX0_setRule_11 : decode cX0_setRule 11 = .ok (.iconst 0, 1) := by decide +kernel
theorem dX0_setRule_12 : decode cX0_setRule 12 = .ok (.putfield 87, 3) := by decide +kernel
theorem dX0_setRule_15 : decode cX0_setRule 15 = .ok (.iload_n 2, 1) := by decide +kernel
theorem dX0_setRule_16 : decode cX0_setRule 16 = .ok (.ireturn, 1) := by decide +kernel
theorem dX0_move_0 : decode cX0_move 0 = .ok (.aload_n 0, 1) := by decide +kernel
theorem dX0_move_1 : decode cX0_move 1 = .ok (.iload_n 1, 1) := by decide +kernel
theorem dX0_move_2 : decode cX0_move 2 = .ok (.invokevirtual 61, 3) := by decide +kernel
theorem dX0_move_5 : decode cX0_move 5 = .ok (.ifCond .eq 11, 3) := by decide +kernel
theorem dX0_move_8 : decode cX0_move 8 = .ok (.aload_n 0, 1) := by decide +kernel
theorem dX0_move_9 : decode cX0_move 9 = .ok (.iload_n 2, 1) := by decide +kernel
theorem dX0_move_10 : decode cX0_move 10 = .ok (.invokevirtual 61, 3) := by decide +kernel
theorem dX0_move_13 : decode cX0_move 13 = .ok (.ifCond .ne 13, 3) := by decide +kernel
theorem dX0_move_16 : decode cX0_move 16 = .ok (.new 64, 3) := by decide +kernel
theorem dX0_move_19 : decode cX0_move 19 = .ok (.dup, 1) := by decide +kernel
theorem dX0_move_20 : decode cX0_move 20 = .ok (.ldc 91, 2) := by decide +kernel
theorem dX0_move_22 : decode cX0_move 22 = .ok (.invokespecial 68, 3) := by decide +kernel
theorem dX0_move_25 : decode cX0_move 25 = .ok (.athrow, 1) := by decide +kernel
theorem dX0_move_26 : decode cX0_move 26 = .ok (.aload_n 0, 1) := by decide +kernel
theorem dX0_move_27 : decode cX0_move 27 = .ok (.getfield 69, 3) := by decide +kernel
theorem dX0_move_30 : decode cX0_move 30 = .ok (.sipush 500, 3) := by decide +kernel
theorem dX0_move_33 : decode cX0_move 33 = .ok (.if_icmp .ge 12, 3) := by decide +kernel
theorem dX0_move_36 : decode cX0_move 36 = .ok (.aload_n 0, 1) := by decide +kernel
theorem dX0_move_37 : decode cX0_move 37 = .ok (.iload_n 1, 1) := by decide +kernel
theorem dX0_move_38 : decode cX0_move 38 = .ok (.iload_n 2, 1) := by decide +kernel
theorem dX0_move_39 : decode cX0_move 39 = .ok (.invokevirtual 105, 3) := by decide +kernel
theorem dX0_move_42 : decode cX0_move 42 = .ok (.ifCond .ne 13, 3) := by decide +kernel
theorem dX0_move_45 : decode cX0_move 45 = .ok (.new 72, 3) := by decide +kernel
theorem dX0_move_48 : decode cX0_move 48 = .ok (.dup, 1) := by decide +kernel
theorem dX0_move_49 : decode cX0_move 49 = .ok (.ldc 109, 2) := by decide +kernel
theorem dX0_move_51 : decode cX0_move 51 = .ok (.invokespecial 76, 3) := by decide +kernel
theorem dX0_move_54 : decode cX0_move 54 = .ok (.athrow, 1) := by decide +kernel
theorem dX0_move_55 : decode cX0_move 55 = .ok (.aload_n 0, 1) := by decide +kernel
theorem dX0_move_56 : decode cX0_move 56 = .ok (.getfield 23, 3) := by decide +kernel
theorem dX0_move_59 : decode cX0_move 59 = .ok (.iload_n 1, 1) := by decide +kernel
theorem dX0_move_60 : decode cX0_move 60 = .ok (.iaload, 1) := by decide +kernel
theorem dX0_move_61 : decode cX0_move 61 = .ok (.istore_n 3, 1) := by decide +kernel
theorem dX0_move_62 : decode cX0_move 62 = .ok (.aload_n 0, 1) := by decide +kernel
theorem dX0_move_63 : decode cX0_move 63 = .ok (.getfield 20, 3) := by decide +kernel
theorem dX0_move_66 : decode cX0_move 66 = .ok (.aload_n 0, 1) := by decide +kernel
theorem dX0_move_67 : decode cX0_move 67 = .ok (.getfield 69, 3) := by decide +kernel
theorem dX0_move_70 : decode cX0_move 70 = .ok (.aload_n 0, 1) := by decide +kernel
theorem dX0_move_71 : decode cX0_move 71 = .ok (.getfield 77, 3) := by decide +kernel
theorem dX0_move_74 : decode cX0_move 74 = .ok (.iastore, 1) := by decide +kernel
theorem dX0_move_75 : decode cX0_move 75 = .ok (.aload_n 0, 1) := by decide +kernel
theorem dX0_move_76 : decode cX0_move 76 = .ok (.dup, 1) := by decide +kernel
theorem dX0_move_77 : decode cX0_move 77 = .ok (.getfield 69, 3) := by decide +kernel
theorem dX0_move_80 : decode cX0_move 80 = .ok (.iconst 1, 1) := by decide +kernel
theorem dX0_move_81 : decode cX0_move 81 = .ok (.iadd, 1) := by decide +kernel
theorem dX0_move_82 : decode cX0_move 82 = .ok (.putfield 69, 3) := by decide +kernel
theorem dX0_move_85 : decode cX0_move 85 = .ok (.aload_n 0, 1) := by decide +kernel
theorem dX0_move_86 : decode cX0_move 86 = .ok (.aload_n 0, 1) := by decide +kernel
theorem dX0_move_87 : decode cX0_move 87 = .ok (.aload_n 0, 1) := by decide +kernel
theorem dX0_move_88 : decode cX0_move 88 = .ok (.getfield 77, 3) := by decide +kernel
theorem dX0_move_91 : decode cX0_move 91 = .ok (.iload_n 1, 1) := by decide +kernel
theorem dX0_move_92 : decode cX0_move 92 = .ok (.iload_n 2, 1) := by decide +kernel
theorem dX0_move_93 : decode cX0_move 93 = .ok (.invokevirtual 111, 3) := by decide +kernel
theorem dX0_move_96 : decode cX0_move 96 = .ok (.putfield 77, 3) := by decide +kernel
theorem dX0_move_99 : decode cX0_move 99 = .ok (.iload_n 3, 1) := by decide +kernel
theorem dX0_move_100 : decode cX0_move 100 = .ok (.ireturn, 1) := by decide +kernel
theorem dX0_takeBack_0 : decode cX0_takeBack 0 = .ok (.aload_n 0, 1) := by decide +kernel
theorem dX0_takeBack_1 : decode cX0_takeBack 1 = .ok (.getfield 69, 3) := by decide +kernel
theorem dX0_takeBack_4 : decode cX0_takeBack 4 = .ok (.iconst 1, 1) := by decide +kernel
theorem dX0_takeBack_5 : decode cX0_takeBack 5 = .ok (.if_icmp .ge 13, 3) := by decide +kernel
theorem dX0_takeBack_8 : decode cX0_takeBack 8 = .ok (.new 72, 3) := by decide +kernel
theorem dX0_takeBack_11 : decode cX0_takeBack 11 = .ok (.dup, 1) := by decide +kernel
theorem dX0_takeBack_12 : decode cX0_takeBack 12 = .ok (.ldc 115, 2) := by decide +kernel
theorem dX0_takeBack_14 : decode cX0_takeBack 14 = .ok (.invokespecial 76, 3) := by decide +kernel
theorem dX0_takeBack_17 : decode cX0_takeBack 17 = .ok (.athrow, 1) := by decide +kernel
theorem dX0_takeBack_18 : decode cX0_takeBack 18 = .ok (.aload_n 0, 1) := by decide +kernel
theorem dX0_takeBack_19 : decode cX0_takeBack 19 = .ok (.dup, 1) := by decide +kernel
theorem dX0_takeBack_20 : decode cX0_takeBack 20 = .ok (.getfield 69, 3) := by decide +kernel
theorem dX0_takeBack_23 : decode cX0_takeBack 23 = .ok (.iconst 1, 1) := by decide +kernel
theorem dX0_takeBack_24 : decode cX0_takeBack 24 = .ok (.isub, 1) := by decide +kernel
theorem dX0_takeBack_25 : decode cX0_takeBack 25 = .ok (.putfield 69, 3) := by decide +kernel
theorem dX0_takeBack_28 : decode cX0_takeBack 28 = .ok (.aload_n 0, 1) := by decide +kernel
theorem dX0_takeBack_29 : decode cX0_takeBack 29 = .ok (.aload_n 0, 1) := by decide +kernel
theorem dX0_takeBack_30 : decode cX0_takeBack 30 = .ok (.getfield 20, 3) := by decide +kernel
theorem dX0_takeBack_33 : decode cX0_takeBack 33 = .ok (.aload_n 0, 1) := by decide +kernel
theorem dX0_takeBack_34 : decode cX0_takeBack 34 = .ok (.getfield 69, 3) := by decide +kernel
theorem dX0_takeBack_37 : decode cX0_takeBack 37 = .ok (.iaload, 1) := by decide +kernel
theorem dX0_takeBack_38 : decode cX0_takeBack 38 = .ok (.putfield 77, 3) := by decide +kernel
theorem dX0_takeBack_41 : decode cX0_takeBack 41 = .ok (.aload_n 0, 1) := by decide +kernel
theorem dX0_takeBack_42 : decode cX0_takeBack 42 = .ok (.getfield 69, 3) := by decide +kernel
theorem dX0_takeBack_45 : decode cX0_takeBack 45 = .ok (.ireturn, 1) := by decide +kernel
theorem dX0_layStart_0 : decode cX0_layStart 0 = .ok (.aload_n 0, 1) := by decide +kernel
theorem dX0_layStart_1 : decode cX0_layStart 1 = .ok (.getfield 69, 3) := by decide +kernel
theorem dX0_layStart_4 : decode cX0_layStart 4 = .ok (.istore_n 1, 1) := by decide +kernel
theorem dX0_layStart_5 : decode cX0_layStart 5 = .ok (.aload_n 0, 1) := by decide +kernel
theorem dX0_layStart_6 : decode cX0_layStart 6 = .ok (.iconst 0, 1) := by decide +kernel
theorem dX0_layStart_7 : decode cX0_layStart 7 = .ok (.putfield 69, 3) := by decide +kernel
theorem dX0_layStart_10 : decode cX0_layStart 10 = .ok (.iload_n 1, 1) := by decide +kernel
theorem dX0_layStart_11 : decode cX0_layStart 11 = .ok (.ireturn, 1) := by decide +kernel
theorem dX0_pegs_0 : decode cX0_pegs 0 = .ok (.aload_n 0, 1) := by decide +kernel
theorem dX0_pegs_1 : decode cX0_pegs 1 = .ok (.getfield 117, 3) := by decide +kernel
theorem dX0_pegs_4 : decode cX0_pegs 4 = .ok (.ireturn, 1) := by decide +kernel
theorem dX0_disks_0 : decode cX0_disks 0 = .ok (.aload_n 0, 1) := by decide +kernel
theorem dX0_disks_1 : decode cX0_disks 1 = .ok (.getfield 53, 3) := by decide +kernel
theorem dX0_disks_4 : decode cX0_disks 4 = .ok (.ireturn, 1) := by decide +kernel
theorem dX0_moves_0 : decode cX0_moves 0 = .ok (.aload_n 0, 1) := by decide +kernel
theorem dX0_moves_1 : decode cX0_moves 1 = .ok (.getfield 69, 3) := by decide +kernel
theorem dX0_moves_4 : decode cX0_moves 4 = .ok (.ireturn, 1) := by decide +kernel
theorem dX0_pegOf_0 : decode cX0_pegOf 0 = .ok (.aload_n 0, 1) := by decide +kernel
theorem dX0_pegOf_1 : decode cX0_pegOf 1 = .ok (.iload_n 1, 1) := by decide +kernel
theorem dX0_pegOf_2 : decode cX0_pegOf 2 = .ok (.invokevirtual 57, 3) := by decide +kernel
theorem dX0_pegOf_5 : decode cX0_pegOf 5 = .ok (.ifCond .ne 13, 3) := by decide +kernel
theorem dX0_pegOf_8 : decode cX0_pegOf 8 = .ok (.new 64, 3) := by decide +kernel
theorem dX0_pegOf_11 : decode cX0_pegOf 11 = .ok (.dup, 1) := by decide +kernel
theorem dX0_pegOf_12 : decode cX0_pegOf 12 = .ok (.ldc 98, 2) := by decide +kernel
theorem dX0_pegOf_14 : decode cX0_pegOf 14 = .ok (.invokespecial 68, 3) := by decide +kernel
theorem dX0_pegOf_17 : decode cX0_pegOf 17 = .ok (.athrow, 1) := by decide +kernel
theorem dX0_pegOf_18 : decode cX0_pegOf 18 = .ok (.aload_n 0, 1) := by decide +kernel
theorem dX0_pegOf_19 : decode cX0_pegOf 19 = .ok (.aload_n 0, 1) := by decide +kernel
theorem dX0_pegOf_20 : decode cX0_pegOf 20 = .ok (.getfield 77, 3) := by decide +kernel
theorem dX0_pegOf_23 : decode cX0_pegOf 23 = .ok (.iload_n 1, 1) := by decide +kernel
theorem dX0_pegOf_24 : decode cX0_pegOf 24 = .ok (.invokevirtual 80, 3) := by decide +kernel
theorem dX0_pegOf_27 : decode cX0_pegOf 27 = .ok (.ireturn, 1) := by decide +kernel
theorem dX0_top_0 : decode cX0_top 0 = .ok (.aload_n 0, 1) := by decide +kernel
theorem dX0_top_1 : decode cX0_top 1 = .ok (.iload_n 1, 1) := by decide +kernel
theorem dX0_top_2 : decode cX0_top 2 = .ok (.invokevirtual 61, 3) := by decide +kernel
theorem dX0_top_5 : decode cX0_top 5 = .ok (.ifCond .ne 13, 3) := by decide +kernel
theorem dX0_top_8 : decode cX0_top 8 = .ok (.new 64, 3) := by decide +kernel
theorem dX0_top_11 : decode cX0_top 11 = .ok (.dup, 1) := by decide +kernel
theorem dX0_top_12 : decode cX0_top 12 = .ok (.ldc 91, 2) := by decide +kernel
theorem dX0_top_14 : decode cX0_top 14 = .ok (.invokespecial 68, 3) := by decide +kernel
theorem dX0_top_17 : decode cX0_top 17 = .ok (.athrow, 1) := by decide +kernel
theorem dX0_top_18 : decode cX0_top 18 = .ok (.aload_n 0, 1) := by decide +kernel
theorem dX0_top_19 : decode cX0_top 19 = .ok (.aload_n 0, 1) := by decide +kernel
theorem dX0_top_20 : decode cX0_top 20 = .ok (.getfield 77, 3) := by decide +kernel
theorem dX0_top_23 : decode cX0_top 23 = .ok (.invokevirtual 120, 3) := by decide +kernel
theorem dX0_top_26 : decode cX0_top 26 = .ok (.aload_n 0, 1) := by decide +kernel
theorem dX0_top_27 : decode cX0_top 27 = .ok (.getfield 23, 3) := by decide +kernel
theorem dX0_top_30 : decode cX0_top 30 = .ok (.iload_n 1, 1) := by decide +kernel
theorem dX0_top_31 : decode cX0_top 31 = .ok (.iaload, 1) := by decide +kernel
theorem dX0_top_32 : decode cX0_top 32 = .ok (.ireturn, 1) := by decide +kernel
theorem dX0_arrangement_0 : decode cX0_arrangement 0 = .ok (.aload_n 0, 1) := by decide +kernel
theorem dX0_arrangement_1 : decode cX0_arrangement 1 = .ok (.getfield 77, 3) := by decide +kernel
theorem dX0_arrangement_4 : decode cX0_arrangement 4 = .ok (.ireturn, 1) := by decide +kernel
theorem dX0_goal_0 : decode cX0_goal 0 = .ok (.aload_n 0, 1) := by decide +kernel
theorem dX0_goal_1 : decode cX0_goal 1 = .ok (.getfield 84, 3) := by decide +kernel
theorem dX0_goal_4 : decode cX0_goal 4 = .ok (.ireturn, 1) := by decide +kernel
theorem dX0_isLawful_0 : decode cX0_isLawful 0 = .ok (.aload_n 0, 1) := by decide +kernel
theorem dX0_isLawful_1 : decode cX0_isLawful 1 = .ok (.aload_n 0, 1) := by decide +kernel
theorem dX0_isLawful_2 : decode cX0_isLawful 2 = .ok (.getfield 77, 3) := by decide +kernel
theorem dX0_isLawful_5 : decode cX0_isLawful 5 = .ok (.invokevirtual 124, 3) := by decide +kernel
theorem dX0_isLawful_8 : decode cX0_isLawful 8 = .ok (.ireturn, 1) := by decide +kernel
theorem dX0_canMove_0 : decode cX0_canMove 0 = .ok (.aload_n 0, 1) := by decide +kernel
theorem dX0_canMove_1 : decode cX0_canMove 1 = .ok (.iload_n 1, 1) := by decide +kernel
theorem dX0_canMove_2 : decode cX0_canMove 2 = .ok (.invokevirtual 61, 3) := by decide +kernel
theorem dX0_canMove_5 : decode cX0_canMove 5 = .ok (.ifCond .eq 11, 3) := by decide +kernel
theorem dX0_canMove_8 : decode cX0_canMove 8 = .ok (.aload_n 0, 1) := by decide +kernel
theorem dX0_canMove_9 : decode cX0_canMove 9 = .ok (.iload_n 2, 1) := by decide +kernel
theorem dX0_canMove_10 : decode cX0_canMove 10 = .ok (.invokevirtual 61, 3) := by decide +kernel
theorem dX0_canMove_13 : decode cX0_canMove 13 = .ok (.ifCond .ne 13, 3) := by decide +kernel
theorem dX0_canMove_16 : decode cX0_canMove 16 = .ok (.new 64, 3) := by decide +kernel
theorem dX0_canMove_19 : decode cX0_canMove 19 = .ok (.dup, 1) := by decide +kernel
theorem dX0_canMove_20 : decode cX0_canMove 20 = .ok (.ldc 91, 2) := by decide +kernel
theorem dX0_canMove_22 : decode cX0_canMove 22 = .ok (.invokespecial 68, 3) := by decide +kernel
theorem dX0_canMove_25 : decode cX0_canMove 25 = .ok (.athrow, 1) := by decide +kernel
theorem dX0_canMove_26 : decode cX0_canMove 26 = .ok (.aload_n 0, 1) := by decide +kernel
theorem dX0_canMove_27 : decode cX0_canMove 27 = .ok (.iload_n 1, 1) := by decide +kernel
theorem dX0_canMove_28 : decode cX0_canMove 28 = .ok (.iload_n 2, 1) := by decide +kernel
theorem dX0_canMove_29 : decode cX0_canMove 29 = .ok (.invokevirtual 105, 3) := by decide +kernel
theorem dX0_canMove_32 : decode cX0_canMove 32 = .ok (.ireturn, 1) := by decide +kernel
theorem dX0_way_0 : decode cX0_way 0 = .ok (.aload_n 0, 1) := by decide +kernel
theorem dX0_way_1 : decode cX0_way 1 = .ok (.aload_n 0, 1) := by decide +kernel
theorem dX0_way_2 : decode cX0_way 2 = .ok (.getfield 77, 3) := by decide +kernel
theorem dX0_way_5 : decode cX0_way 5 = .ok (.invokevirtual 127, 3) := by decide +kernel
theorem dX0_way_8 : decode cX0_way 8 = .ok (.ireturn, 1) := by decide +kernel
theorem dX0_wayByDisks_0 : decode cX0_wayByDisks 0 = .ok (.aload_n 0, 1) := by decide +kernel
theorem dX0_wayByDisks_1 : decode cX0_wayByDisks 1 = .ok (.getfield 117, 3) := by decide +kernel
theorem dX0_wayByDisks_4 : decode cX0_wayByDisks 4 = .ok (.iconst 3, 1) := by decide +kernel
theorem dX0_wayByDisks_5 : decode cX0_wayByDisks 5 = .ok (.if_icmp .gt 17, 3) := by decide +kernel
theorem dX0_wayByDisks_8 : decode cX0_wayByDisks 8 = .ok (.aload_n 0, 1) := by decide +kernel
theorem dX0_wayByDisks_9 : decode cX0_wayByDisks 9 = .ok (.getfield 102, 3) := by decide +kernel
theorem dX0_wayByDisks_12 : decode cX0_wayByDisks 12 = .ok (.ifCond .ne 10, 3) := by decide +kernel
theorem dX0_wayByDisks_15 : decode cX0_wayByDisks 15 = .ok (.aload_n 0, 1) := by decide +kernel
theorem dX0_wayByDisks_16 : decode cX0_wayByDisks 16 = .ok (.invokevirtual 131, 3) := by decide +kernel
theorem dX0_wayByDisks_19 : decode cX0_wayByDisks 19 = .ok (.ifCond .eq 13, 3) := by decide +kernel
theorem dX0_wayByDisks_22 : decode cX0_wayByDisks 22 = .ok (.new 72, 3) := by decide +kernel
theorem dX0_wayByDisks_25 : decode cX0_wayByDisks 25 = .ok (.dup, 1) := by decide +kernel
theorem dX0_wayByDisks_26 : decode cX0_wayByDisks 26 = .ok (.ldc 135, 2) := by decide +kernel
theorem dX0_wayByDisks_28 : decode cX0_wayByDisks 28 = .ok (.invokespecial 76, 3) := by decide +kernel
theorem dX0_wayByDisks_31 : decode cX0_wayByDisks 31 = .ok (.athrow, 1) := by decide +kernel
theorem dX0_wayByDisks_32 : decode cX0_wayByDisks 32 = .ok (.aload_n 0, 1) := by decide +kernel
theorem dX0_wayByDisks_33 : decode cX0_wayByDisks 33 = .ok (.getfield 53, 3) := by decide +kernel
theorem dX0_wayByDisks_36 : decode cX0_wayByDisks 36 = .ok (.iconst 1, 1) := by decide +kernel
theorem dX0_wayByDisks_37 : decode cX0_wayByDisks 37 = .ok (.isub, 1) := by decide +kernel
theorem dX0_wayByDisks_38 : decode cX0_wayByDisks 38 = .ok (.istore_n 1, 1) := by decide +kernel
theorem dX0_wayByDisks_39 : decode cX0_wayByDisks 39 = .ok (.iload_n 1, 1) := by decide +kernel
theorem dX0_wayByDisks_40 : decode cX0_wayByDisks 40 = .ok (.ifCond .lt 30, 3) := by decide +kernel
theorem dX0_wayByDisks_43 : decode cX0_wayByDisks 43 = .ok (.aload_n 0, 1) := by decide +kernel
theorem dX0_wayByDisks_44 : decode cX0_wayByDisks 44 = .ok (.aload_n 0, 1) := by decide +kernel
theorem dX0_wayByDisks_45 : decode cX0_wayByDisks 45 = .ok (.getfield 77, 3) := by decide +kernel
theorem dX0_wayByDisks_48 : decode cX0_wayByDisks 48 = .ok (.iload_n 1, 1) := by decide +kernel
theorem dX0_wayByDisks_49 : decode cX0_wayByDisks 49 = .ok (.invokevirtual 80, 3) := by decide +kernel
theorem dX0_wayByDisks_52 : decode cX0_wayByDisks 52 = .ok (.aload_n 0, 1) := by decide +kernel
theorem dX0_wayByDisks_53 : decode cX0_wayByDisks 53 = .ok (.aload_n 0, 1) := by decide +kernel
theorem dX0_wayByDisks_54 : decode cX0_wayByDisks 54 = .ok (.getfield 84, 3) := by decide +kernel
theorem dX0_wayByDisks_57 : decode cX0_wayByDisks 57 = .ok (.iload_n 1, 1) := by decide +kernel
theorem dX0_wayByDisks_58 : decode cX0_wayByDisks 58 = .ok (.invokevirtual 80, 3) := by decide +kernel
theorem dX0_wayByDisks_61 : decode cX0_wayByDisks 61 = .ok (.if_icmp .ne 9, 3) := by decide +kernel
theorem dX0_wayByDisks_64 : decode cX0_wayByDisks 64 = .ok (.iinc 1 (-1), 3) := by decide +kernel
theorem dX0_wayByDisks_67 : decode cX0_wayByDisks 67 = .ok (.goto (-28), 3) := by decide +kernel
theorem dX0_wayByDisks_70 : decode cX0_wayByDisks 70 = .ok (.iload_n 1, 1) := by decide +kernel
theorem dX0_wayByDisks_71 : decode cX0_wayByDisks 71 = .ok (.ifCond .ge 5, 3) := by decide +kernel
theorem dX0_wayByDisks_74 : decode cX0_wayByDisks 74 = .ok (.iconst 0, 1) := by decide +kernel
theorem dX0_wayByDisks_75 : decode cX0_wayByDisks 75 = .ok (.ireturn, 1) := by decide +kernel
theorem dX0_wayByDisks_76 : decode cX0_wayByDisks 76 = .ok (.aload_n 0, 1) := by decide +kernel
theorem dX0_wayByDisks_77 : decode cX0_wayByDisks 77 = .ok (.aload_n 0, 1) := by decide +kernel
theorem dX0_wayByDisks_78 : decode cX0_wayByDisks 78 = .ok (.getfield 77, 3) := by decide +kernel
theorem dX0_wayByDisks_81 : decode cX0_wayByDisks 81 = .ok (.iload_n 1, 1) := by decide +kernel
theorem dX0_wayByDisks_82 : decode cX0_wayByDisks 82 = .ok (.invokevirtual 80, 3) := by decide +kernel
theorem dX0_wayByDisks_85 : decode cX0_wayByDisks 85 = .ok (.istore_n 2, 1) := by decide +kernel
theorem dX0_wayByDisks_86 : decode cX0_wayByDisks 86 = .ok (.aload_n 0, 1) := by decide +kernel
theorem dX0_wayByDisks_87 : decode cX0_wayByDisks 87 = .ok (.aload_n 0, 1) := by decide +kernel
theorem dX0_wayByDisks_88 : decode cX0_wayByDisks 88 = .ok (.getfield 84, 3) := by decide +kernel
theorem dX0_wayByDisks_91 : decode cX0_wayByDisks 91 = .ok (.iload_n 1, 1) := by decide +kernel
theorem dX0_wayByDisks_92 : decode cX0_wayByDisks 92 = .ok (.invokevirtual 80, 3) := by decide +kernel
theorem dX0_wayByDisks_95 : decode cX0_wayByDisks 95 = .ok (.istore_n 3, 1) := by decide +kernel
theorem dX0_wayByDisks_96 : decode cX0_wayByDisks 96 = .ok (.iload_n 2, 1) := by decide +kernel
theorem dX0_wayByDisks_97 : decode cX0_wayByDisks 97 = .ok (.iload_n 3, 1) := by decide +kernel
theorem dX0_wayByDisks_98 : decode cX0_wayByDisks 98 = .ok (.invokestatic 137, 3) := by decide +kernel
theorem dX0_wayByDisks_101 : decode cX0_wayByDisks 101 = .ok (.istore 4, 2) := by decide +kernel
theorem dX0_wayByDisks_103 : decode cX0_wayByDisks 103 = .ok (.aload_n 0, 1) := by decide +kernel
theorem dX0_wayByDisks_104 : decode cX0_wayByDisks 104 = .ok (.aload_n 0, 1) := by decide +kernel
theorem dX0_wayByDisks_105 : decode cX0_wayByDisks 105 = .ok (.getfield 77, 3) := by decide +kernel
theorem dX0_wayByDisks_108 : decode cX0_wayByDisks 108 = .ok (.iload_n 1, 1) := by decide +kernel
theorem dX0_wayByDisks_109 : decode cX0_wayByDisks 109 = .ok (.iload 4, 2) := by decide +kernel
theorem dX0_wayByDisks_111 : decode cX0_wayByDisks 111 = .ok (.invokevirtual 140, 3) := by decide +kernel
theorem dX0_wayByDisks_114 : decode cX0_wayByDisks 114 = .ok (.aload_n 0, 1) := by decide +kernel
theorem dX0_wayByDisks_115 : decode cX0_wayByDisks 115 = .ok (.aload_n 0, 1) := by decide +kernel
theorem dX0_wayByDisks_116 : decode cX0_wayByDisks 116 = .ok (.getfield 84, 3) := by decide +kernel
theorem dX0_wayByDisks_119 : decode cX0_wayByDisks 119 = .ok (.iload_n 1, 1) := by decide +kernel
theorem dX0_wayByDisks_120 : decode cX0_wayByDisks 120 = .ok (.iload 4, 2) := by decide +kernel
theorem dX0_wayByDisks_122 : decode cX0_wayByDisks 122 = .ok (.invokevirtual 140, 3) := by decide +kernel
theorem dX0_wayByDisks_125 : decode cX0_wayByDisks 125 = .ok (.iadd, 1) := by decide +kernel
theorem dX0_wayByDisks_126 : decode cX0_wayByDisks 126 = .ok (.iconst 1, 1) := by decide +kernel
theorem dX0_wayByDisks_127 : decode cX0_wayByDisks 127 = .ok (.iadd, 1) := by decide +kernel
theorem dX0_wayByDisks_128 : decode cX0_wayByDisks 128 = .ok (.istore 5, 2) := by decide +kernel
theorem dX0_wayByDisks_130 : decode cX0_wayByDisks 130 = .ok (.aload_n 0, 1) := by decide +kernel
theorem dX0_wayByDisks_131 : decode cX0_wayByDisks 131 = .ok (.aload_n 0, 1) := by decide +kernel
theorem dX0_wayByDisks_132 : decode cX0_wayByDisks 132 = .ok (.getfield 77, 3) := by decide +kernel
theorem dX0_wayByDisks_135 : decode cX0_wayByDisks 135 = .ok (.iload_n 1, 1) := by decide +kernel
theorem dX0_wayByDisks_136 : decode cX0_wayByDisks 136 = .ok (.iload_n 3, 1) := by decide +kernel
theorem dX0_wayByDisks_137 : decode cX0_wayByDisks 137 = .ok (.invokevirtual 140, 3) := by decide +kernel
theorem dX0_wayByDisks_140 : decode cX0_wayByDisks 140 = .ok (.aload_n 0, 1) := by decide +kernel
theorem dX0_wayByDisks_141 : decode cX0_wayByDisks 141 = .ok (.aload_n 0, 1) := by decide +kernel
theorem dX0_wayByDisks_142 : decode cX0_wayByDisks 142 = .ok (.getfield 84, 3) := by decide +kernel
theorem dX0_wayByDisks_145 : decode cX0_wayByDisks 145 = .ok (.iload_n 1, 1) := by decide +kernel
theorem dX0_wayByDisks_146 : decode cX0_wayByDisks 146 = .ok (.iload_n 2, 1) := by decide +kernel
theorem dX0_wayByDisks_147 : decode cX0_wayByDisks 147 = .ok (.invokevirtual 140, 3) := by decide +kernel
theorem dX0_wayByDisks_150 : decode cX0_wayByDisks 150 = .ok (.iadd, 1) := by decide +kernel
theorem dX0_wayByDisks_151 : decode cX0_wayByDisks 151 = .ok (.iconst 1, 1) := by decide +kernel
theorem dX0_wayByDisks_152 : decode cX0_wayByDisks 152 = .ok (.iload_n 1, 1) := by decide +kernel
theorem dX0_wayByDisks_153 : decode cX0_wayByDisks 153 = .ok (.ishl, 1) := by decide +kernel
theorem dX0_wayByDisks_154 : decode cX0_wayByDisks 154 = .ok (.iadd, 1) := by decide +kernel
theorem dX0_wayByDisks_155 : decode cX0_wayByDisks 155 = .ok (.iconst 1, 1) := by decide +kernel
theorem dX0_wayByDisks_156 : decode cX0_wayByDisks 156 = .ok (.iadd, 1) := by decide +kernel
theorem dX0_wayByDisks_157 : decode cX0_wayByDisks 157 = .ok (.istore 6, 2) := by decide +kernel
theorem dX0_wayByDisks_159 : decode cX0_wayByDisks 159 = .ok (.iload 5, 2) := by decide +kernel
theorem dX0_wayByDisks_161 : decode cX0_wayByDisks 161 = .ok (.iload 6, 2) := by decide +kernel
theorem dX0_wayByDisks_163 : decode cX0_wayByDisks 163 = .ok (.invokestatic 143, 3) := by decide +kernel
theorem dX0_wayByDisks_166 : decode cX0_wayByDisks 166 = .ok (.ireturn, 1) := by decide +kernel
theorem dX0_lost_0 : decode cX0_lost 0 = .ok (.aload_n 0, 1) := by decide +kernel
theorem dX0_lost_1 : decode cX0_lost 1 = .ok (.aload_n 0, 1) := by decide +kernel
theorem dX0_lost_2 : decode cX0_lost 2 = .ok (.getfield 77, 3) := by decide +kernel
theorem dX0_lost_5 : decode cX0_lost 5 = .ok (.invokevirtual 127, 3) := by decide +kernel
theorem dX0_lost_8 : decode cX0_lost 8 = .ok (.istore_n 1, 1) := by decide +kernel
theorem dX0_lost_9 : decode cX0_lost 9 = .ok (.aload_n 0, 1) := by decide +kernel
theorem dX0_lost_10 : decode cX0_lost 10 = .ok (.aload_n 0, 1) := by decide +kernel
theorem dX0_lost_11 : decode cX0_lost 11 = .ok (.getfield 69, 3) := by decide +kernel
theorem dX0_lost_14 : decode cX0_lost 14 = .ok (.ifCond .le 12, 3) := by decide +kernel
theorem dX0_lost_17 : decode cX0_lost 17 = .ok (.aload_n 0, 1) := by decide +kernel
theorem dX0_lost_18 : decode cX0_lost 18 = .ok (.getfield 20, 3) := by decide +kernel
theorem dX0_lost_21 : decode cX0_lost 21 = .ok (.iconst 0, 1) := by decide +kernel
theorem dX0_lost_22 : decode cX0_lost 22 = .ok (.iaload, 1) := by decide +kernel
theorem dX0_lost_23 : decode cX0_lost 23 = .ok (.goto 7, 3) := by decide +kernel
theorem dX0_lost_26 : decode cX0_lost 26 = .ok (.aload_n 0, 1) := by decide +kernel
theorem dX0_lost_27 : decode cX0_lost 27 = .ok (.getfield 77, 3) := by decide +kernel
theorem dX0_lost_30 : decode cX0_lost 30 = .ok (.invokevirtual 127, 3) := by decide +kernel
theorem dX0_lost_33 : decode cX0_lost 33 = .ok (.istore_n 2, 1) := by decide +kernel
theorem dX0_lost_34 : decode cX0_lost 34 = .ok (.iload_n 1, 1) := by decide +kernel
theorem dX0_lost_35 : decode cX0_lost 35 = .ok (.iconst (-1), 1) := by decide +kernel
theorem dX0_lost_36 : decode cX0_lost 36 = .ok (.if_icmp .eq 8, 3) := by decide +kernel
theorem dX0_lost_39 : decode cX0_lost 39 = .ok (.iload_n 2, 1) := by decide +kernel
theorem dX0_lost_40 : decode cX0_lost 40 = .ok (.iconst (-1), 1) := by decide +kernel
theorem dX0_lost_41 : decode cX0_lost 41 = .ok (.if_icmp .ne 13, 3) := by decide +kernel
theorem dX0_lost_44 : decode cX0_lost 44 = .ok (.new 72, 3) := by decide +kernel
theorem dX0_lost_47 : decode cX0_lost 47 = .ok (.dup, 1) := by decide +kernel
theorem dX0_lost_48 : decode cX0_lost 48 = .ok (.ldc 148, 2) := by decide +kernel
theorem dX0_lost_50 : decode cX0_lost 50 = .ok (.invokespecial 76, 3) := by decide +kernel
theorem dX0_lost_53 : decode cX0_lost 53 = .ok (.athrow, 1) := by decide +kernel
theorem dX0_lost_54 : decode cX0_lost 54 = .ok (.aload_n 0, 1) := by decide +kernel
theorem dX0_lost_55 : decode cX0_lost 55 = .ok (.getfield 69, 3) := by decide +kernel
theorem dX0_lost_58 : decode cX0_lost 58 = .ok (.iload_n 1, 1) := by decide +kernel
theorem dX0_lost_59 : decode cX0_lost 59 = .ok (.iadd, 1) := by decide +kernel
theorem dX0_lost_60 : decode cX0_lost 60 = .ok (.iload_n 2, 1) := by decide +kernel
theorem dX0_lost_61 : decode cX0_lost 61 = .ok (.isub, 1) := by decide +kernel
theorem dX0_lost_62 : decode cX0_lost 62 = .ok (.ireturn, 1) := by decide +kernel
theorem dX0_next_0 : decode cX0_next 0 = .ok (.aload_n 0, 1) := by decide +kernel
theorem dX0_next_1 : decode cX0_next 1 = .ok (.aload_n 0, 1) := by decide +kernel
theorem dX0_next_2 : decode cX0_next 2 = .ok (.getfield 77, 3) := by decide +kernel
theorem dX0_next_5 : decode cX0_next 5 = .ok (.invokevirtual 127, 3) := by decide +kernel
theorem dX0_next_8 : decode cX0_next 8 = .ok (.istore_n 1, 1) := by decide +kernel
theorem dX0_next_9 : decode cX0_next 9 = .ok (.iload_n 1, 1) := by decide +kernel
theorem dX0_next_10 : decode cX0_next 10 = .ok (.iconst 1, 1) := by decide +kernel
theorem dX0_next_11 : decode cX0_next 11 = .ok (.if_icmp .ge 5, 3) := by decide +kernel
theorem dX0_next_14 : decode cX0_next 14 = .ok (.iconst (-1), 1) := by decide +kernel
theorem dX0_next_15 : decode cX0_next 15 = .ok (.ireturn, 1) := by decide +kernel
theorem dX0_next_16 : decode cX0_next 16 = .ok (.iconst 0, 1) := by decide +kernel
theorem dX0_next_17 : decode cX0_next 17 = .ok (.istore_n 2, 1) := by decide +kernel
theorem dX0_next_18 : decode cX0_next 18 = .ok (.iload_n 2, 1) := by decide +kernel
theorem dX0_next_19 : decode cX0_next 19 = .ok (.aload_n 0, 1) := by decide +kernel
theorem dX0_next_20 : decode cX0_next 20 = .ok (.getfield 117, 3) := by decide +kernel
theorem dX0_next_23 : decode cX0_next 23 = .ok (.if_icmp .ge 61, 3) := by decide +kernel
theorem dX0_next_26 : decode cX0_next 26 = .ok (.iconst 0, 1) := by decide +kernel
theorem dX0_next_27 : decode cX0_next 27 = .ok (.istore_n 3, 1) := by decide +kernel
theorem dX0_next_28 : decode cX0_next 28 = .ok (.iload_n 3, 1) := by decide +kernel
theorem dX0_next_29 : decode cX0_next 29 = .ok (.aload_n 0, 1) := by decide +kernel
theorem dX0_next_30 : decode cX0_next 30 = .ok (.getfield 117, 3) := by decide +kernel
theorem dX0_next_33 : decode cX0_next 33 = .ok (.if_icmp .ge 45, 3) := by decide +kernel
theorem dX0_next_36 : decode cX0_next 36 = .ok (.aload_n 0, 1) := by decide +kernel
theorem dX0_next_37 : decode cX0_next 37 = .ok (.iload_n 2, 1) := by decide +kernel
theorem dX0_next_38 : decode cX0_next 38 = .ok (.iload_n 3, 1) := by decide +kernel
theorem dX0_next_39 : decode cX0_next 39 = .ok (.invokevirtual 105, 3) := by decide +kernel
theorem dX0_next_42 : decode cX0_next 42 = .ok (.ifCond .eq 30, 3) := by decide +kernel
theorem dX0_next_45 : decode cX0_next 45 = .ok (.aload_n 0, 1) := by decide +kernel
theorem dX0_next_46 : decode cX0_next 46 = .ok (.aload_n 0, 1) := by decide +kernel
theorem dX0_next_47 : decode cX0_next 47 = .ok (.aload_n 0, 1) := by decide +kernel
theorem dX0_next_48 : decode cX0_next 48 = .ok (.getfield 77, 3) := by decide +kernel
theorem dX0_next_51 : decode cX0_next 51 = .ok (.iload_n 2, 1) := by decide +kernel
theorem dX0_next_52 : decode cX0_next 52 = .ok (.iload_n 3, 1) := by decide +kernel
theorem dX0_next_53 : decode cX0_next 53 = .ok (.invokevirtual 111, 3) := by decide +kernel
theorem dX0_next_56 : decode cX0_next 56 = .ok (.invokevirtual 127, 3) := by decide +kernel
theorem dX0_next_59 : decode cX0_next 59 = .ok (.iload_n 1, 1) := by decide +kernel
theorem dX0_next_60 : decode cX0_next 60 = .ok (.iconst 1, 1) := by decide +kernel
theorem dX0_next_61 : decode cX0_next 61 = .ok (.isub, 1) := by decide +kernel
theorem dX0_next_62 : decode cX0_next 62 = .ok (.if_icmp .ne 10, 3) := by decide +kernel
theorem dX0_next_65 : decode cX0_next 65 = .ok (.bipush 10, 2) := by decide +kernel
theorem dX0_next_67 : decode cX0_next 67 = .ok (.iload_n 2, 1) := by decide +kernel
theorem dX0_next_68 : decode cX0_next 68 = .ok (.imul, 1) := by decide +kernel
theorem dX0_next_69 : decode cX0_next 69 = .ok (.iload_n 3, 1) := by decide +kernel
theorem dX0_next_70 : decode cX0_next 70 = .ok (.iadd, 1) := by decide +kernel
theorem dX0_next_71 : decode cX0_next 71 = .ok (.ireturn, 1) := by decide +kernel
theorem dX0_next_72 : decode cX0_next 72 = .ok (.iinc 3 1, 3) := by decide +kernel
theorem dX0_next_75 : decode cX0_next 75 = .ok (.goto (-47), 3) := by decide +kernel
theorem dX0_next_78 : decode cX0_next 78 = .ok (.iinc 2 1, 3) := by decide +kernel
theorem dX0_next_81 : decode cX0_next 81 = .ok (.goto (-63), 3) := by decide +kernel
theorem dX0_next_84 : decode cX0_next 84 = .ok (.iconst (-1), 1) := by decide +kernel
theorem dX0_next_85 : decode cX0_next 85 = .ok (.ireturn, 1) := by decide +kernel
theorem dX0_reachable_0 : decode cX0_reachable 0 = .ok (.aload_n 0, 1) := by decide +kernel
theorem dX0_reachable_1 : decode cX0_reachable 1 = .ok (.aload_n 0, 1) := by decide +kernel
theorem dX0_reachable_2 : decode cX0_reachable 2 = .ok (.getfield 77, 3) := by decide +kernel
theorem dX0_reachable_5 : decode cX0_reachable 5 = .ok (.aload_n 0, 1) := by decide +kernel
theorem dX0_reachable_6 : decode cX0_reachable 6 = .ok (.getfield 29, 3) := by decide +kernel
theorem dX0_reachable_9 : decode cX0_reachable 9 = .ok (.iconst 0, 1) := by decide +kernel
theorem dX0_reachable_10 : decode cX0_reachable 10 = .ok (.invokevirtual 150, 3) := by decide +kernel
theorem dX0_reachable_13 : decode cX0_reachable 13 = .ok (.ireturn, 1) := by decide +kernel
theorem dX0_lay_0 : decode cX0_lay 0 = .ok (.aload_n 0, 1) := by decide +kernel
theorem dX0_lay_1 : decode cX0_lay 1 = .ok (.iload_n 1, 1) := by decide +kernel
theorem dX0_lay_2 : decode cX0_lay 2 = .ok (.putfield 117, 3) := by decide +kernel
theorem dX0_lay_5 : decode cX0_lay 5 = .ok (.aload_n 0, 1) := by decide +kernel
theorem dX0_lay_6 : decode cX0_lay 6 = .ok (.iload_n 2, 1) := by decide +kernel
theorem dX0_lay_7 : decode cX0_lay 7 = .ok (.putfield 53, 3) := by decide +kernel
theorem dX0_lay_10 : decode cX0_lay 10 = .ok (.iconst 1, 1) := by decide +kernel
theorem dX0_lay_11 : decode cX0_lay 11 = .ok (.istore_n 3, 1) := by decide +kernel
theorem dX0_lay_12 : decode cX0_lay 12 = .ok (.iconst 0, 1) := by decide +kernel
theorem dX0_lay_13 : decode cX0_lay 13 = .ok (.istore 4, 2) := by decide +kernel
theorem dX0_lay_15 : decode cX0_lay 15 = .ok (.iload 4, 2) := by decide +kernel
theorem dX0_lay_17 : decode cX0_lay 17 = .ok (.aload_n 0, 1) := by decide +kernel
theorem dX0_lay_18 : decode cX0_lay 18 = .ok (.getfield 9, 3) := by decide +kernel
theorem dX0_lay_21 : decode cX0_lay 21 = .ok (.arraylength, 1) := by decide +kernel
theorem dX0_lay_22 : decode cX0_lay 22 = .ok (.if_icmp .ge 21, 3) := by decide +kernel
theorem dX0_lay_25 : decode cX0_lay 25 = .ok (.aload_n 0, 1) := by decide +kernel
theorem dX0_lay_26 : decode cX0_lay 26 = .ok (.getfield 9, 3) := by decide +kernel
theorem dX0_lay_29 : decode cX0_lay 29 = .ok (.iload 4, 2) := by decide +kernel
theorem dX0_lay_31 : decode cX0_lay 31 = .ok (.iload_n 3, 1) := by decide +kernel
theorem dX0_lay_32 : decode cX0_lay 32 = .ok (.iastore, 1) := by decide +kernel
theorem dX0_lay_33 : decode cX0_lay 33 = .ok (.iload_n 3, 1) := by decide +kernel
theorem dX0_lay_34 : decode cX0_lay 34 = .ok (.iload_n 1, 1) := by decide +kernel
theorem dX0_lay_35 : decode cX0_lay 35 = .ok (.imul, 1) := by decide +kernel
theorem dX0_lay_36 : decode cX0_lay 36 = .ok (.istore_n 3, 1) := by decide +kernel
theorem dX0_lay_37 : decode cX0_lay 37 = .ok (.iinc 4 1, 3) := by decide +kernel
theorem dX0_lay_40 : decode cX0_lay 40 = .ok (.goto (-25), 3) := by decide +kernel
theorem dX0_lay_43 : decode cX0_lay 43 = .ok (.iconst 0, 1) := by decide +kernel
theorem dX0_lay_44 : decode cX0_lay 44 = .ok (.istore 4, 2) := by decide +kernel
theorem dX0_lay_46 : decode cX0_lay 46 = .ok (.iload 4, 2) := by decide +kernel
theorem dX0_lay_48 : decode cX0_lay 48 = .ok (.aload_n 0, 1) := by decide +kernel
theorem dX0_lay_49 : decode cX0_lay 49 = .ok (.getfield 13, 3) := by decide +kernel
theorem dX0_lay_52 : decode cX0_lay 52 = .ok (.arraylength, 1) := by decide +kernel
theorem dX0_lay_53 : decode cX0_lay 53 = .ok (.if_icmp .ge 17, 3) := by decide +kernel
theorem dX0_lay_56 : decode cX0_lay 56 = .ok (.aload_n 0, 1) := by decide +kernel
theorem dX0_lay_57 : decode cX0_lay 57 = .ok (.getfield 13, 3) := by decide +kernel
theorem dX0_lay_60 : decode cX0_lay 60 = .ok (.iload 4, 2) := by decide +kernel
theorem dX0_lay_62 : decode cX0_lay 62 = .ok (.iconst 0, 1) := by decide +kernel
theorem dX0_lay_63 : decode cX0_lay 63 = .ok (.iastore, 1) := by decide +kernel
theorem dX0_lay_64 : decode cX0_lay 64 = .ok (.iinc 4 1, 3) := by decide +kernel
theorem dX0_lay_67 : decode cX0_lay 67 = .ok (.goto (-21), 3) := by decide +kernel
theorem dX0_lay_70 : decode cX0_lay 70 = .ok (.iconst 0, 1) := by decide +kernel
theorem dX0_lay_71 : decode cX0_lay 71 = .ok (.istore 4, 2) := by decide +kernel
theorem dX0_lay_73 : decode cX0_lay 73 = .ok (.iload 4, 2) := by decide +kernel
theorem dX0_lay_75 : decode cX0_lay 75 = .ok (.aload_n 0, 1) := by decide +kernel
theorem dX0_lay_76 : decode cX0_lay 76 = .ok (.getfield 16, 3) := by decide +kernel
theorem dX0_lay_79 : decode cX0_lay 79 = .ok (.arraylength, 1) := by decide +kernel
theorem dX0_lay_80 : decode cX0_lay 80 = .ok (.if_icmp .ge 17, 3) := by decide +kernel
theorem dX0_lay_83 : decode cX0_lay 83 = .ok (.aload_n 0, 1) := by decide +kernel
theorem dX0_lay_84 : decode cX0_lay 84 = .ok (.getfield 16, 3) := by decide +kernel
theorem dX0_lay_87 : decode cX0_lay 87 = .ok (.iload 4, 2) := by decide +kernel
theorem dX0_lay_89 : decode cX0_lay 89 = .ok (.iconst 1, 1) := by decide +kernel
theorem dX0_lay_90 : decode cX0_lay 90 = .ok (.bastore, 1) := by decide +kernel
theorem dX0_lay_91 : decode cX0_lay 91 = .ok (.iinc 4 1, 3) := by decide +kernel
theorem dX0_lay_94 : decode cX0_lay 94 = .ok (.goto (-21), 3) := by decide +kernel
theorem dX0_lay_97 : decode cX0_lay 97 = .ok (.aload_n 0, 1) := by decide +kernel
theorem dX0_lay_98 : decode cX0_lay 98 = .ok (.iconst 0, 1) := by decide +kernel
theorem dX0_lay_99 : decode cX0_lay 99 = .ok (.putfield 102, 3) := by decide +kernel
theorem dX0_lay_102 : decode cX0_lay 102 = .ok (.aload_n 0, 1) := by decide +kernel
theorem dX0_lay_103 : decode cX0_lay 103 = .ok (.iconst 0, 1) := by decide +kernel
theorem dX0_lay_104 : decode cX0_lay 104 = .ok (.putfield 77, 3) := by decide +kernel
theorem dX0_lay_107 : decode cX0_lay 107 = .ok (.aload_n 0, 1) := by decide +kernel
theorem dX0_lay_108 : decode cX0_lay 108 = .ok (.aload_n 0, 1) := by decide +kernel
theorem dX0_lay_109 : decode cX0_lay 109 = .ok (.getfield 9, 3) := by decide +kernel
theorem dX0_lay_112 : decode cX0_lay 112 = .ok (.aload_n 0, 1) := by decide +kernel
theorem dX0_lay_113 : decode cX0_lay 113 = .ok (.getfield 53, 3) := by decide +kernel
theorem dX0_lay_116 : decode cX0_lay 116 = .ok (.iaload, 1) := by decide +kernel
theorem dX0_lay_117 : decode cX0_lay 117 = .ok (.iconst 1, 1) := by decide +kernel
theorem dX0_lay_118 : decode cX0_lay 118 = .ok (.isub, 1) := by decide +kernel
theorem dX0_lay_119 : decode cX0_lay 119 = .ok (.putfield 84, 3) := by decide +kernel
theorem dX0_lay_122 : decode cX0_lay 122 = .ok (.aload_n 0, 1) := by decide +kernel
theorem dX0_lay_123 : decode cX0_lay 123 = .ok (.iconst 0, 1) := by decide +kernel
theorem dX0_lay_124 : decode cX0_lay 124 = .ok (.putfield 69, 3) := by decide +kernel
theorem dX0_lay_127 : decode cX0_lay 127 = .ok (.aload_n 0, 1) := by decide +kernel
theorem dX0_lay_128 : decode cX0_lay 128 = .ok (.iconst 0, 1) := by decide +kernel
theorem dX0_lay_129 : decode cX0_lay 129 = .ok (.putfield 87, 3) := by decide +kernel
theorem dX0_lay_132 : decode cX0_lay 132 = .ok (.return_, 1) := by decide +kernel
theorem dX0_isPeg_0 : decode cX0_isPeg 0 = .ok (.iload_n 1, 1) := by decide +kernel
theorem dX0_isPeg_1 : decode cX0_isPeg 1 = .ok (.ifCond .lt 15, 3) := by decide +kernel
theorem dX0_isPeg_4 : decode cX0_isPeg 4 = .ok (.iload_n 1, 1) := by decide +kernel
theorem dX0_isPeg_5 : decode cX0_isPeg 5 = .ok (.aload_n 0, 1) := by decide +kernel
theorem dX0_isPeg_6 : decode cX0_isPeg 6 = .ok (.getfield 117, 3) := by decide +kernel
theorem dX0_isPeg_9 : decode cX0_isPeg 9 = .ok (.if_icmp .ge 7, 3) := by decide +kernel
theorem dX0_isPeg_12 : decode cX0_isPeg 12 = .ok (.iconst 1, 1) := by decide +kernel
theorem dX0_isPeg_13 : decode cX0_isPeg 13 = .ok (.goto 4, 3) := by decide +kernel
theorem dX0_isPeg_16 : decode cX0_isPeg 16 = .ok (.iconst 0, 1) := by decide +kernel
theorem dX0_isPeg_17 : decode cX0_isPeg 17 = .ok (.ireturn, 1) := by decide +kernel
theorem dX0_isDisk_0 : decode cX0_isDisk 0 = .ok (.iload_n 1, 1) := by decide +kernel
theorem dX0_isDisk_1 : decode cX0_isDisk 1 = .ok (.ifCond .lt 15, 3) := by decide +kernel
theorem dX0_isDisk_4 : decode cX0_isDisk 4 = .ok (.iload_n 1, 1) := by decide +kernel
theorem dX0_isDisk_5 : decode cX0_isDisk 5 = .ok (.aload_n 0, 1) := by decide +kernel
theorem dX0_isDisk_6 : decode cX0_isDisk 6 = .ok (.getfield 53, 3) := by decide +kernel
theorem dX0_isDisk_9 : decode cX0_isDisk 9 = .ok (.if_icmp .ge 7, 3) := by decide +kernel
theorem dX0_isDisk_12 : decode cX0_isDisk 12 = .ok (.iconst 1, 1) := by decide +kernel
theorem dX0_isDisk_13 : decode cX0_isDisk 13 = .ok (.goto 4, 3) := by decide +kernel
theorem dX0_isDisk_16 : decode cX0_isDisk 16 = .ok (.iconst 0, 1) := by decide +kernel
theorem dX0_isDisk_17 : decode cX0_isDisk 17 = .ok (.ireturn, 1) := by decide +kernel
theorem dX0_isNumber_0 : decode cX0_isNumber 0 = .ok (.iload_n 1, 1) := by decide +kernel
theorem dX0_isNumber_1 : decode cX0_isNumber 1 = .ok (.ifCond .lt 20, 3) := by decide +kernel
theorem dX0_isNumber_4 : decode cX0_isNumber 4 = .ok (.iload_n 1, 1) := by decide +kernel
theorem dX0_isNumber_5 : decode cX0_isNumber 5 = .ok (.aload_n 0, 1) := by decide +kernel
theorem dX0_isNumber_6 : decode cX0_isNumber 6 = .ok (.getfield 9, 3) := by decide +kernel
theorem dX0_isNumber_9 : decode cX0_isNumber 9 = .ok (.aload_n 0, 1) := by decide +kernel
theorem dX0_isNumber_10 : decode cX0_isNumber 10 = .ok (.getfield 53, 3) := by decide +kernel
theorem dX0_isNumber_13 : decode cX0_isNumber 13 = .ok (.iaload, 1) := by decide +kernel
theorem dX0_isNumber_14 : decode cX0_isNumber 14 = .ok (.if_icmp .ge 7, 3) := by decide +kernel
theorem dX0_isNumber_17 : decode cX0_isNumber 17 = .ok (.iconst 1, 1) := by decide +kernel
theorem dX0_isNumber_18 : decode cX0_isNumber 18 = .ok (.goto 4, 3) := by decide +kernel
theorem dX0_isNumber_21 : decode cX0_isNumber 21 = .ok (.iconst 0, 1) := by decide +kernel
theorem dX0_isNumber_22 : decode cX0_isNumber 22 = .ok (.ireturn, 1) := by decide +kernel
theorem dX0_pairOf_0 : decode cX0_pairOf 0 = .ok (.iload_n 0, 1) := by decide +kernel
theorem dX0_pairOf_1 : decode cX0_pairOf 1 = .ok (.iconst 5, 1) := by decide +kernel
theorem dX0_pairOf_2 : decode cX0_pairOf 2 = .ok (.imul, 1) := by decide +kernel
theorem dX0_pairOf_3 : decode cX0_pairOf 3 = .ok (.iload_n 1, 1) := by decide +kernel
theorem dX0_pairOf_4 : decode cX0_pairOf 4 = .ok (.iadd, 1) := by decide +kernel
theorem dX0_pairOf_5 : decode cX0_pairOf 5 = .ok (.ireturn, 1) := by decide +kernel
theorem dX0_isAnyBarred_0 : decode cX0_isAnyBarred 0 = .ok (.iconst 0, 1) := by decide +kernel
theorem dX0_isAnyBarred_1 : decode cX0_isAnyBarred 1 = .ok (.istore_n 1, 1) := by decide +kernel
theorem dX0_isAnyBarred_2 : decode cX0_isAnyBarred 2 = .ok (.iload_n 1, 1) := by decide +kernel
theorem dX0_isAnyBarred_3 : decode cX0_isAnyBarred 3 = .ok (.aload_n 0, 1) := by decide +kernel
theorem dX0_isAnyBarred_4 : decode cX0_isAnyBarred 4 = .ok (.getfield 16, 3) := by decide +kernel
theorem dX0_isAnyBarred_7 : decode cX0_isAnyBarred 7 = .ok (.arraylength, 1) := by decide +kernel
theorem dX0_isAnyBarred_8 : decode cX0_isAnyBarred 8 = .ok (.if_icmp .ge 20, 3) := by decide +kernel
theorem dX0_isAnyBarred_11 : decode cX0_isAnyBarred 11 = .ok (.aload_n 0, 1) := by decide +kernel
theorem dX0_isAnyBarred_12 : decode cX0_isAnyBarred 12 = .ok (.getfield 16, 3) := by decide +kernel
theorem dX0_isAnyBarred_15 : decode cX0_isAnyBarred 15 = .ok (.iload_n 1, 1) := by decide +kernel
theorem dX0_isAnyBarred_16 : decode cX0_isAnyBarred 16 = .ok (.baload, 1) := by decide +kernel
theorem dX0_isAnyBarred_17 : decode cX0_isAnyBarred 17 = .ok (.ifCond .ne 5, 3) := by decide +kernel
theorem dX0_isAnyBarred_20 : decode cX0_isAnyBarred 20 = .ok (.iconst 1, 1) := by decide +kernel
theorem dX0_isAnyBarred_21 : decode cX0_isAnyBarred 21 = .ok (.ireturn, 1) := by decide +kernel
theorem dX0_isAnyBarred_22 : decode cX0_isAnyBarred 22 = .ok (.iinc 1 1, 3) := by decide +kernel
theorem dX0_isAnyBarred_25 : decode cX0_isAnyBarred 25 = .ok (.goto (-23), 3) := by decide +kernel
theorem dX0_isAnyBarred_28 : decode cX0_isAnyBarred 28 = .ok (.iconst 0, 1) := by decide +kernel
theorem dX0_isAnyBarred_29 : decode cX0_isAnyBarred 29 = .ok (.ireturn, 1) := by decide +kernel
theorem dX0_pegIn_0 : decode cX0_pegIn 0 = .ok (.aload_n 0, 1) := by decide +kernel
theorem dX0_pegIn_1 : decode cX0_pegIn 1 = .ok (.getfield 9, 3) := by decide +kernel
theorem dX0_pegIn_4 : decode cX0_pegIn 4 = .ok (.iload_n 2, 1) := by decide +kernel
theorem dX0_pegIn_5 : decode cX0_pegIn 5 = .ok (.iaload, 1) := by decide +kernel
theorem dX0_pegIn_6 : decode cX0_pegIn 6 = .ok (.istore_n 3, 1) := by decide +kernel
theorem dX0_pegIn_7 : decode cX0_pegIn 7 = .ok (.iload_n 3, 1) := by decide +kernel
theorem dX0_pegIn_8 : decode cX0_pegIn 8 = .ok (.iconst 1, 1) := by decide +kernel
theorem dX0_pegIn_9 : decode cX0_pegIn 9 = .ok (.if_icmp .lt 11, 3) := by decide +kernel
theorem dX0_pegIn_12 : decode cX0_pegIn 12 = .ok (.aload_n 0, 1) := by decide +kernel
theorem dX0_pegIn_13 : decode cX0_pegIn 13 = .ok (.getfield 117, 3) := by decide +kernel
theorem dX0_pegIn_16 : decode cX0_pegIn 16 = .ok (.iconst 1, 1) := by decide +kernel
theorem dX0_pegIn_17 : decode cX0_pegIn 17 = .ok (.if_icmp .ge 5, 3) := by decide +kernel
theorem dX0_pegIn_20 : decode cX0_pegIn 20 = .ok (.iconst 0, 1) := by decide +kernel
theorem dX0_pegIn_21 : decode cX0_pegIn 21 = .ok (.ireturn, 1) := by decide +kernel
theorem dX0_pegIn_22 : decode cX0_pegIn 22 = .ok (.iload_n 1, 1) := by decide +kernel
theorem dX0_pegIn_23 : decode cX0_pegIn 23 = .ok (.iload_n 3, 1) := by decide +kernel
theorem dX0_pegIn_24 : decode cX0_pegIn 24 = .ok (.idiv, 1) := by decide +kernel
theorem dX0_pegIn_25 : decode cX0_pegIn 25 = .ok (.aload_n 0, 1) := by decide +kernel
theorem dX0_pegIn_26 : decode cX0_pegIn 26 = .ok (.getfield 117, 3) := by decide +kernel
theorem dX0_pegIn_29 : decode cX0_pegIn 29 = .ok (.irem, 1) := by decide +kernel
theorem dX0_pegIn_30 : decode cX0_pegIn 30 = .ok (.ireturn, 1) := by decide +kernel
theorem dX0_diskBelow_0 : decode cX0_diskBelow 0 = .ok (.aload_n 0, 1) := by decide +kernel
theorem dX0_diskBelow_1 : decode cX0_diskBelow 1 = .ok (.iload_n 1, 1) := by decide +kernel
theorem dX0_diskBelow_2 : decode cX0_diskBelow 2 = .ok (.iload_n 2, 1) := by decide +kernel
theorem dX0_diskBelow_3 : decode cX0_diskBelow 3 = .ok (.invokevirtual 80, 3) := by decide +kernel
theorem dX0_diskBelow_6 : decode cX0_diskBelow 6 = .ok (.istore_n 3, 1) := by decide +kernel
theorem dX0_diskBelow_7 : decode cX0_diskBelow 7 = .ok (.iload_n 2, 1) := by decide +kernel
theorem dX0_diskBelow_8 : decode cX0_diskBelow 8 = .ok (.iconst 1, 1) := by decide +kernel
theorem dX0_diskBelow_9 : decode cX0_diskBelow 9 = .ok (.iadd, 1) := by decide +kernel
theorem dX0_diskBelow_10 : decode cX0_diskBelow 10 = .ok (.istore 4, 2) := by decide +kernel
theorem dX0_diskBelow_12 : decode cX0_diskBelow 12 = .ok (.iload 4, 2) := by decide +kernel
theorem dX0_diskBelow_14 : decode cX0_diskBelow 14 = .ok (.aload_n 0, 1) := by decide +kernel
theorem dX0_diskBelow_15 : decode cX0_diskBelow 15 = .ok (.getfield 53, 3) := by decide +kernel
theorem dX0_diskBelow_18 : decode cX0_diskBelow 18 = .ok (.if_icmp .ge 23, 3) := by decide +kernel
theorem dX0_diskBelow_21 : decode cX0_diskBelow 21 = .ok (.aload_n 0, 1) := by decide +kernel
theorem dX0_diskBelow_22 : decode cX0_diskBelow 22 = .ok (.iload_n 1, 1) := by decide +kernel
theorem dX0_diskBelow_23 : decode cX0_diskBelow 23 = .ok (.iload 4, 2) := by decide +kernel
theorem dX0_diskBelow_25 : decode cX0_diskBelow 25 = .ok (.invokevirtual 80, 3) := by decide +kernel
theorem dX0_diskBelow_28 : decode cX0_diskBelow 28 = .ok (.iload_n 3, 1) := by decide +kernel
theorem dX0_diskBelow_29 : decode cX0_diskBelow 29 = .ok (.if_icmp .ne 6, 3) := by decide +kernel
theorem dX0_diskBelow_32 : decode cX0_diskBelow 32 = .ok (.iload 4, 2) := by decide +kernel
theorem dX0_diskBelow_34 : decode cX0_diskBelow 34 = .ok (.ireturn, 1) := by decide +kernel
theorem dX0_diskBelow_35 : decode cX0_diskBelow 35 = .ok (.iinc 4 1, 3) := by decide +kernel
theorem dX0_diskBelow_38 : decode cX0_diskBelow 38 = .ok (.goto (-26), 3) := by decide +kernel
theorem dX0_diskBelow_41 : decode cX0_diskBelow 41 = .ok (.iconst (-1), 1) := by decide +kernel
theorem dX0_diskBelow_42 : decode cX0_diskBelow 42 = .ok (.ireturn, 1) := by decide +kernel
theorem dX0_mayLieOn_0 : decode cX0_mayLieOn 0 = .ok (.aload_n 0, 1) := by decide +kernel
theorem dX0_mayLieOn_1 : decode cX0_mayLieOn 1 = .ok (.getfield 102, 3) := by decide +kernel
theorem dX0_mayLieOn_4 : decode cX0_mayLieOn 4 = .ok (.ifCond .eq 23, 3) := by decide +kernel
theorem dX0_mayLieOn_7 : decode cX0_mayLieOn 7 = .ok (.iload_n 2, 1) := by decide +kernel
theorem dX0_mayLieOn_8 : decode cX0_mayLieOn 8 = .ok (.iconst (-1), 1) := by decide +kernel
theorem dX0_mayLieOn_9 : decode cX0_mayLieOn 9 = .ok (.if_icmp .eq 18, 3) := by decide +kernel
theorem dX0_mayLieOn_12 : decode cX0_mayLieOn 12 = .ok (.aload_n 0, 1) := by decide +kernel
theorem dX0_mayLieOn_13 : decode cX0_mayLieOn 13 = .ok (.getfield 13, 3) := by decide +kernel
theorem dX0_mayLieOn_16 : decode cX0_mayLieOn 16 = .ok (.iload_n 1, 1) := by decide +kernel
theorem dX0_mayLieOn_17 : decode cX0_mayLieOn 17 = .ok (.iaload, 1) := by decide +kernel
theorem dX0_mayLieOn_18 : decode cX0_mayLieOn 18 = .ok (.aload_n 0, 1) := by decide +kernel
theorem dX0_mayLieOn_19 : decode cX0_mayLieOn 19 = .ok (.getfield 13, 3) := by decide +kernel
theorem dX0_mayLieOn_22 : decode cX0_mayLieOn 22 = .ok (.iload_n 2, 1) := by decide +kernel
theorem dX0_mayLieOn_23 : decode cX0_mayLieOn 23 = .ok (.iaload, 1) := by decide +kernel
theorem dX0_mayLieOn_24 : decode cX0_mayLieOn 24 = .ok (.if_icmp .eq 7, 3) := by decide +kernel
theorem dX0_mayLieOn_27 : decode cX0_mayLieOn 27 = .ok (.iconst 1, 1) := by decide +kernel
theorem dX0_mayLieOn_28 : decode cX0_mayLieOn 28 = .ok (.goto 4, 3) := by decide +kernel
theorem dX0_mayLieOn_31 : decode cX0_mayLieOn 31 = .ok (.iconst 0, 1) := by decide +kernel
theorem dX0_mayLieOn_32 : decode cX0_mayLieOn 32 = .ok (.ireturn, 1) := by decide +kernel
theorem dX0_keepsRule_0 : decode cX0_keepsRule 0 = .ok (.iconst 0, 1) := by decide +kernel
theorem dX0_keepsRule_1 : decode cX0_keepsRule 1 = .ok (.istore_n 2, 1) := by decide +kernel
theorem dX0_keepsRule_2 : decode cX0_keepsRule 2 = .ok (.iload_n 2, 1) := by decide +kernel
theorem dX0_keepsRule_3 : decode cX0_keepsRule 3 = .ok (.aload_n 0, 1) := by decide +kernel
theorem dX0_keepsRule_4 : decode cX0_keepsRule 4 = .ok (.getfield 53, 3) := by decide +kernel
theorem dX0_keepsRule_7 : decode cX0_keepsRule 7 = .ok (.if_icmp .ge 25, 3) := by decide +kernel
theorem dX0_keepsRule_10 : decode cX0_keepsRule 10 = .ok (.aload_n 0, 1) := by decide +kernel
theorem dX0_keepsRule_11 : decode cX0_keepsRule 11 = .ok (.iload_n 2, 1) := by decide +kernel
theorem dX0_keepsRule_12 : decode cX0_keepsRule 12 = .ok (.aload_n 0, 1) := by decide +kernel
theorem dX0_keepsRule_13 : decode cX0_keepsRule 13 = .ok (.iload_n 1, 1) := by decide +kernel
theorem dX0_keepsRule_14 : decode cX0_keepsRule 14 = .ok (.iload_n 2, 1) := by decide +kernel
theorem dX0_keepsRule_15 : decode cX0_keepsRule 15 = .ok (.invokevirtual 159, 3) := by decide +kernel
theorem dX0_keepsRule_18 : decode cX0_keepsRule 18 = .ok (.invokevirtual 162, 3) := by decide +kernel
theorem dX0_keepsRule_21 : decode cX0_keepsRule 21 = .ok (.ifCond .ne 5, 3) := by decide +kernel
theorem dX0_keepsRule_24 : decode cX0_keepsRule 24 = .ok (.iconst 0, 1) := by decide +kernel
theorem dX0_keepsRule_25 : decode cX0_keepsRule 25 = .ok (.ireturn, 1) := by decide +kernel
theorem dX0_keepsRule_26 : decode cX0_keepsRule 26 = .ok (.iinc 2 1, 3) := by decide +kernel
theorem dX0_keepsRule_29 : decode cX0_keepsRule 29 = .ok (.goto (-27), 3) := by decide +kernel
theorem dX0_keepsRule_32 : decode cX0_keepsRule 32 = .ok (.iconst 1, 1) := by decide +kernel
theorem dX0_keepsRule_33 : decode cX0_keepsRule 33 = .ok (.ireturn, 1) := by decide +kernel
theorem dX0_readTops_0 : decode cX0_readTops 0 = .ok (.iconst 0, 1) := by decide +kernel
theorem dX0_readTops_1 : decode cX0_readTops 1 = .ok (.istore_n 2, 1) := by decide +kernel
theorem dX0_readTops_2 : decode cX0_readTops 2 = .ok (.iload_n 2, 1) := by decide +kernel
theorem dX0_readTops_3 : decode cX0_readTops 3 = .ok (.aload_n 0, 1) := by decide +kernel
theorem dX0_readTops_4 : decode cX0_readTops 4 = .ok (.getfield 23, 3) := by decide +kernel
theorem dX0_readTops_7 : decode cX0_readTops 7 = .ok (.arraylength, 1) := by decide +kernel
theorem dX0_readTops_8 : decode cX0_readTops 8 = .ok (.if_icmp .ge 16, 3) := by decide +kernel
theorem dX0_readTops_11 : decode cX0_readTops 11 = .ok (.aload_n 0, 1) := by decide +kernel
theorem dX0_readTops_12 : decode cX0_readTops 12 = .ok (.getfield 23, 3) := by decide +kernel
theorem dX0_readTops_15 : decode cX0_readTops 15 = .ok (.iload_n 2, 1) := by decide +kernel
theorem dX0_readTops_16 : decode cX0_readTops 16 = .ok (.iconst (-1), 1) := by decide +kernel
theorem dX0_readTops_17 : decode cX0_readTops 17 = .ok (.iastore, 1) := by decide +kernel
theorem dX0_readTops_18 : decode cX0_readTops 18 = .ok (.iinc 2 1, 3) := by decide +kernel
theorem dX0_readTops_21 : decode cX0_readTops 21 = .ok (.goto (-19), 3) := by decide +kernel
theorem dX0_readTops_24 : decode cX0_readTops 24 = .ok (.aload_n 0, 1) := by decide +kernel
theorem dX0_readTops_25 : decode cX0_readTops 25 = .ok (.getfield 53, 3) := by decide +kernel
theorem dX0_readTops_28 : decode cX0_readTops 28 = .ok (.iconst 1, 1) := by decide +kernel
theorem dX0_readTops_29 : decode cX0_readTops 29 = .ok (.isub, 1) := by decide +kernel
theorem dX0_readTops_30 : decode cX0_readTops 30 = .ok (.istore_n 2, 1) := by decide +kernel
theorem dX0_readTops_31 : decode cX0_readTops 31 = .ok (.iload_n 2, 1) := by decide +kernel
theorem dX0_readTops_32 : decode cX0_readTops 32 = .ok (.ifCond .lt 31, 3) := by decide +kernel
theorem dX0_readTops_35 : decode cX0_readTops 35 = .ok (.aload_n 0, 1) := by decide +kernel
theorem dX0_readTops_36 : decode cX0_readTops 36 = .ok (.iload_n 1, 1) := by decide +kernel
theorem dX0_readTops_37 : decode cX0_readTops 37 = .ok (.iload_n 2, 1) := by decide +kernel
theorem dX0_readTops_38 : decode cX0_readTops 38 = .ok (.invokevirtual 80, 3) := by decide +kernel
theorem dX0_readTops_41 : decode cX0_readTops 41 = .ok (.istore_n 3, 1) := by decide +kernel
theorem dX0_readTops_42 : decode cX0_readTops 42 = .ok (.aload_n 0, 1) := by decide +kernel
theorem dX0_readTops_43 : decode cX0_readTops 43 = .ok (.iload_n 3, 1) := by decide +kernel
theorem dX0_readTops_44 : decode cX0_readTops 44 = .ok (.invokevirtual 61, 3) := by decide +kernel
theorem dX0_readTops_47 : decode cX0_readTops 47 = .ok (.ifCond .eq 10, 3) := by decide +kernel
theorem dX0_readTops_50 : decode cX0_readTops 50 = .ok (.aload_n 0, 1) := by decide +kernel
theorem dX0_readTops_51 : decode cX0_readTops 51 = .ok (.getfield 23, 3) := by decide +kernel
theorem dX0_readTops_54 : decode cX0_readTops 54 = .ok (.iload_n 3, 1) := by decide +kernel
theorem dX0_readTops_55 : decode cX0_readTops 55 = .ok (.iload_n 2, 1) := by decide +kernel
theorem dX0_readTops_56 : decode cX0_readTops 56 = .ok (.iastore, 1) := by decide +kernel
theorem dX0_readTops_57 : decode cX0_readTops 57 = .ok (.iinc 2 (-1), 3) := by decide +kernel
theorem dX0_readTops_60 : decode cX0_readTops 60 = .ok (.goto (-29), 3) := by decide +kernel
theorem dX0_readTops_63 : decode cX0_readTops 63 = .ok (.return_, 1) := by decide +kernel
theorem dX0_fits_0 : decode cX0_fits 0 = .ok (.aload_n 0, 1) := by decide +kernel
theorem dX0_fits_1 : decode cX0_fits 1 = .ok (.getfield 23, 3) := by decide +kernel
theorem dX0_fits_4 : decode cX0_fits 4 = .ok (.iload_n 1, 1) := by decide +kernel
theorem dX0_fits_5 : decode cX0_fits 5 = .ok (.iaload, 1) := by decide +kernel
theorem dX0_fits_6 : decode cX0_fits 6 = .ok (.istore_n 3, 1) := by decide +kernel
theorem dX0_fits_7 : decode cX0_fits 7 = .ok (.aload_n 0, 1) := by decide +kernel
theorem dX0_fits_8 : decode cX0_fits 8 = .ok (.getfield 23, 3) := by decide +kernel
theorem dX0_fits_11 : decode cX0_fits 11 = .ok (.iload_n 2, 1) := by decide +kernel
theorem dX0_fits_12 : decode cX0_fits 12 = .ok (.iaload, 1) := by decide +kernel
theorem dX0_fits_13 : decode cX0_fits 13 = .ok (.istore 4, 2) := by decide +kernel
theorem dX0_fits_15 : decode cX0_fits 15 = .ok (.iload_n 1, 1) := by decide +kernel
theorem dX0_fits_16 : decode cX0_fits 16 = .ok (.iload_n 2, 1) := by decide +kernel
theorem dX0_fits_17 : decode cX0_fits 17 = .ok (.if_icmp .eq 24, 3) := by decide +kernel
theorem dX0_fits_20 : decode cX0_fits 20 = .ok (.iload_n 3, 1) := by decide +kernel
theorem dX0_fits_21 : decode cX0_fits 21 = .ok (.iconst (-1), 1) := by decide +kernel
theorem dX0_fits_22 : decode cX0_fits 22 = .ok (.if_icmp .eq 19, 3) := by decide +kernel
theorem dX0_fits_25 : decode cX0_fits 25 = .ok (.iload 4, 2) := by decide +kernel
theorem dX0_fits_27 : decode cX0_fits 27 = .ok (.iconst (-1), 1) := by decide +kernel
theorem dX0_fits_28 : decode cX0_fits 28 = .ok (.if_icmp .eq 9, 3) := by decide +kernel
theorem dX0_fits_31 : decode cX0_fits 31 = .ok (.iload 4, 2) := by decide +kernel
theorem dX0_fits_33 : decode cX0_fits 33 = .ok (.iload_n 3, 1) := by decide +kernel
theorem dX0_fits_34 : decode cX0_fits 34 = .ok (.if_icmp .le 7, 3) := by decide +kernel
theorem dX0_fits_37 : decode cX0_fits 37 = .ok (.iconst 1, 1) := by decide +kernel
theorem dX0_fits_38 : decode cX0_fits 38 = .ok (.goto 4, 3) := by decide +kernel
theorem dX0_fits_41 : decode cX0_fits 41 = .ok (.iconst 0, 1) := by decide +kernel
theorem dX0_fits_42 : decode cX0_fits 42 = .ok (.ireturn, 1) := by decide +kernel
theorem dX0_behindMove_0 : decode cX0_behindMove 0 = .ok (.aload_n 0, 1) := by decide +kernel
theorem dX0_behindMove_1 : decode cX0_behindMove 1 = .ok (.getfield 23, 3) := by decide +kernel
theorem dX0_behindMove_4 : decode cX0_behindMove 4 = .ok (.iload_n 2, 1) := by decide +kernel
theorem dX0_behindMove_5 : decode cX0_behindMove 5 = .ok (.iaload, 1) := by decide +kernel
theorem dX0_behindMove_6 : decode cX0_behindMove 6 = .ok (.istore 4, 2) := by decide +kernel
theorem dX0_behindMove_8 : decode cX0_behindMove 8 = .ok (.aload_n 0, 1) := by decide +kernel
theorem dX0_behindMove_9 : decode cX0_behindMove 9 = .ok (.iload 4, 2) := by decide +kernel
theorem dX0_behindMove_11 : decode cX0_behindMove 11 = .ok (.invokevirtual 57, 3) := by decide +kernel
theorem dX0_behindMove_14 : decode cX0_behindMove 14 = .ok (.ifCond .ne 5, 3) := by decide +kernel
theorem dX0_behindMove_17 : decode cX0_behindMove 17 = .ok (.iload_n 1, 1) := by decide +kernel
theorem dX0_behindMove_18 : decode cX0_behindMove 18 = .ok (.ireturn, 1) := by decide +kernel
theorem dX0_behindMove_19 : decode cX0_behindMove 19 = .ok (.iload_n 1, 1) := by decide +kernel
theorem dX0_behindMove_20 : decode cX0_behindMove 20 = .ok (.iload_n 3, 1) := by decide +kernel
theorem dX0_behindMove_21 : decode cX0_behindMove 21 = .ok (.iload_n 2, 1) := by decide +kernel
theorem dX0_behindMove_22 : decode cX0_behindMove 22 = .ok (.isub, 1) := by decide +kernel
theorem dX0_behindMove_23 : decode cX0_behindMove 23 = .ok (.aload_n 0, 1) := by decide +kernel
theorem dX0_behindMove_24 : decode cX0_behindMove 24 = .ok (.getfield 9, 3) := by decide +kernel
theorem dX0_behindMove_27 : decode cX0_behindMove 27 = .ok (.iload 4, 2) := by decide +kernel
theorem dX0_behindMove_29 : decode cX0_behindMove 29 = .ok (.iaload, 1) := by decide +kernel
theorem dX0_behindMove_30 : decode cX0_behindMove 30 = .ok (.imul, 1) := by decide +kernel
theorem dX0_behindMove_31 : decode cX0_behindMove 31 = .ok (.iadd, 1) := by decide +kernel
theorem dX0_behindMove_32 : decode cX0_behindMove 32 = .ok (.ireturn, 1) := by decide +kernel
theorem dX0_isPossible_0 : decode cX0_isPossible 0 = .ok (.aload_n 0, 1) := by decide +kernel
theorem dX0_isPossible_1 : decode cX0_isPossible 1 = .ok (.aload_n 0, 1) := by decide +kernel
theorem dX0_isPossible_2 : decode cX0_isPossible 2 = .ok (.getfield 77, 3) := by decide +kernel
theorem dX0_isPossible_5 : decode cX0_isPossible 5 = .ok (.invokevirtual 120, 3) := by decide +kernel
theorem dX0_isPossible_8 : decode cX0_isPossible 8 = .ok (.aload_n 0, 1) := by decide +kernel
theorem dX0_isPossible_9 : decode cX0_isPossible 9 = .ok (.iload_n 1, 1) := by decide +kernel
theorem dX0_isPossible_10 : decode cX0_isPossible 10 = .ok (.iload_n 2, 1) := by decide +kernel
theorem dX0_isPossible_11 : decode cX0_isPossible 11 = .ok (.invokevirtual 165, 3) := by decide +kernel
theorem dX0_isPossible_14 : decode cX0_isPossible 14 = .ok (.ifCond .eq 37, 3) := by decide +kernel
theorem dX0_isPossible_17 : decode cX0_isPossible 17 = .ok (.aload_n 0, 1) := by decide +kernel
theorem dX0_isPossible_18 : decode cX0_isPossible 18 = .ok (.getfield 16, 3) := by decide +kernel
theorem dX0_isPossible_21 : decode cX0_isPossible 21 = .ok (.iload_n 1, 1) := by decide +kernel
theorem dX0_isPossible_22 : decode cX0_isPossible 22 = .ok (.iload_n 2, 1) := by decide +kernel
theorem dX0_isPossible_23 : decode cX0_isPossible 23 = .ok (.invokestatic 95, 3) := by decide +kernel
theorem dX0_isPossible_26 : decode cX0_isPossible 26 = .ok (.baload, 1) := by decide +kernel
theorem dX0_isPossible_27 : decode cX0_isPossible 27 = .ok (.ifCond .eq 24, 3) := by decide +kernel
theorem dX0_isPossible_30 : decode cX0_isPossible 30 = .ok (.aload_n 0, 1) := by decide +kernel
theorem dX0_isPossible_31 : decode cX0_isPossible 31 = .ok (.aload_n 0, 1) := by decide +kernel
theorem dX0_isPossible_32 : decode cX0_isPossible 32 = .ok (.aload_n 0, 1) := by decide +kernel
theorem dX0_isPossible_33 : decode cX0_isPossible 33 = .ok (.getfield 77, 3) := by decide +kernel
theorem dX0_isPossible_36 : decode cX0_isPossible 36 = .ok (.iload_n 1, 1) := by decide +kernel
theorem dX0_isPossible_37 : decode cX0_isPossible 37 = .ok (.iload_n 2, 1) := by decide +kernel
theorem dX0_isPossible_38 : decode cX0_isPossible 38 = .ok (.invokevirtual 111, 3) := by decide +kernel
theorem dX0_isPossible_41 : decode cX0_isPossible 41 = .ok (.invokevirtual 124, 3) := by decide +kernel
theorem dX0_isPossible_44 : decode cX0_isPossible 44 = .ok (.ifCond .eq 7, 3) := by decide +kernel
theorem dX0_isPossible_47 : decode cX0_isPossible 47 = .ok (.iconst 1, 1) := by decide +kernel
theorem dX0_isPossible_48 : decode cX0_isPossible 48 = .ok (.goto 4, 3) := by decide +kernel
theorem dX0_isPossible_51 : decode cX0_isPossible 51 = .ok (.iconst 0, 1) := by decide +kernel
theorem dX0_isPossible_52 : decode cX0_isPossible 52 = .ok (.ireturn, 1) := by decide +kernel
theorem dX0_isStep_0 : decode cX0_isStep 0 = .ok (.aload_n 0, 1) := by decide +kernel
theorem dX0_isStep_1 : decode cX0_isStep 1 = .ok (.iload_n 1, 1) := by decide +kernel
theorem dX0_isStep_2 : decode cX0_isStep 2 = .ok (.iload_n 2, 1) := by decide +kernel
theorem dX0_isStep_3 : decode cX0_isStep 3 = .ok (.invokevirtual 165, 3) := by decide +kernel
theorem dX0_isStep_6 : decode cX0_isStep 6 = .ok (.ifCond .ne 5, 3) := by decide +kernel
theorem dX0_isStep_9 : decode cX0_isStep 9 = .ok (.iconst 0, 1) := by decide +kernel
theorem dX0_isStep_10 : decode cX0_isStep 10 = .ok (.ireturn, 1) := by decide +kernel
theorem dX0_isStep_11 : decode cX0_isStep 11 = .ok (.iload_n 3, 1) := by decide +kernel
theorem dX0_isStep_12 : decode cX0_isStep 12 = .ok (.ifCond .eq 11, 3) := by decide +kernel
theorem dX0_isStep_15 : decode cX0_isStep 15 = .ok (.iload_n 2, 1) := by decide +kernel
theorem dX0_isStep_16 : decode cX0_isStep 16 = .ok (.iload_n 1, 1) := by decide +kernel
theorem dX0_isStep_17 : decode cX0_isStep 17 = .ok (.invokestatic 95, 3) := by decide +kernel
theorem dX0_isStep_20 : decode cX0_isStep 20 = .ok (.goto 8, 3) := by decide +kernel
theorem dX0_isStep_23 : decode cX0_isStep 23 = .ok (.iload_n 1, 1) := by decide +kernel
theorem dX0_isStep_24 : decode cX0_isStep 24 = .ok (.iload_n 2, 1) := by decide +kernel
theorem dX0_isStep_25 : decode cX0_isStep 25 = .ok (.invokestatic 95, 3) := by decide +kernel
theorem dX0_isStep_28 : decode cX0_isStep 28 = .ok (.istore 4, 2) := by decide +kernel
theorem dX0_isStep_30 : decode cX0_isStep 30 = .ok (.aload_n 0, 1) := by decide +kernel
theorem dX0_isStep_31 : decode cX0_isStep 31 = .ok (.getfield 16, 3) := by decide +kernel
theorem dX0_isStep_34 : decode cX0_isStep 34 = .ok (.iload 4, 2) := by decide +kernel
theorem dX0_isStep_36 : decode cX0_isStep 36 = .ok (.baload, 1) := by decide +kernel
theorem dX0_isStep_37 : decode cX0_isStep 37 = .ok (.ifCond .eq 26, 3) := by decide +kernel
theorem dX0_isStep_40 : decode cX0_isStep 40 = .ok (.aload_n 0, 1) := by decide +kernel
theorem dX0_isStep_41 : decode cX0_isStep 41 = .ok (.aload_n 0, 1) := by decide +kernel
theorem dX0_isStep_42 : decode cX0_isStep 42 = .ok (.getfield 23, 3) := by decide +kernel
theorem dX0_isStep_45 : decode cX0_isStep 45 = .ok (.iload_n 1, 1) := by decide +kernel
theorem dX0_isStep_46 : decode cX0_isStep 46 = .ok (.iaload, 1) := by decide +kernel
theorem dX0_isStep_47 : decode cX0_isStep 47 = .ok (.aload_n 0, 1) := by decide +kernel
theorem dX0_isStep_48 : decode cX0_isStep 48 = .ok (.getfield 23, 3) := by decide +kernel
theorem dX0_isStep_51 : decode cX0_isStep 51 = .ok (.iload_n 2, 1) := by decide +kernel
theorem dX0_isStep_52 : decode cX0_isStep 52 = .ok (.iaload, 1) := by decide +kernel
theorem dX0_isStep_53 : decode cX0_isStep 53 = .ok (.invokevirtual 162, 3) := by decide +kernel
theorem dX0_isStep_56 : decode cX0_isStep 56 = .ok (.ifCond .eq 7, 3) := by decide +kernel
theorem dX0_isStep_59 : decode cX0_isStep 59 = .ok (.iconst 1, 1) := by decide +kernel
theorem dX0_isStep_60 : decode cX0_isStep 60 = .ok (.goto 4, 3) := by decide +kernel
theorem dX0_isStep_63 : decode cX0_isStep 63 = .ok (.iconst 0, 1) := by decide +kernel
theorem dX0_isStep_64 : decode cX0_isStep 64 = .ok (.ireturn, 1) := by decide +kernel
theorem dX0_wayFrom_0 : decode cX0_wayFrom 0 = .ok (.aload_n 0, 1) := by decide +kernel
theorem dX0_wayFrom_1 : decode cX0_wayFrom 1 = .ok (.getfield 87, 3) := by decide +kernel
theorem dX0_wayFrom_4 : decode cX0_wayFrom 4 = .ok (.ifCond .ne 22, 3) := by decide +kernel
theorem dX0_wayFrom_7 : decode cX0_wayFrom 7 = .ok (.aload_n 0, 1) := by decide +kernel
theorem dX0_wayFrom_8 : decode cX0_wayFrom 8 = .ok (.aload_n 0, 1) := by decide +kernel
theorem dX0_wayFrom_9 : decode cX0_wayFrom 9 = .ok (.getfield 84, 3) := by decide +kernel
theorem dX0_wayFrom_12 : decode cX0_wayFrom 12 = .ok (.aload_n 0, 1) := by decide +kernel
theorem dX0_wayFrom_13 : decode cX0_wayFrom 13 = .ok (.getfield 26, 3) := by decide +kernel
theorem dX0_wayFrom_16 : decode cX0_wayFrom 16 = .ok (.iconst 1, 1) := by decide +kernel
theorem dX0_wayFrom_17 : decode cX0_wayFrom 17 = .ok (.invokevirtual 150, 3) := by decide +kernel
theorem dX0_wayFrom_20 : decode cX0_wayFrom 20 = .ok (.pop, 1) := by decide +kernel
theorem dX0_wayFrom_21 : decode cX0_wayFrom 21 = .ok (.aload_n 0, 1) := by decide +kernel
theorem dX0_wayFrom_22 : decode cX0_wayFrom 22 = .ok (.iconst 1, 1) := by decide +kernel
theorem dX0_wayFrom_23 : decode cX0_wayFrom 23 = .ok (.putfield 87, 3) := by decide +kernel
theorem dX0_wayFrom_26 : decode cX0_wayFrom 26 = .ok (.aload_n 0, 1) := by decide +kernel
theorem dX0_wayFrom_27 : decode cX0_wayFrom 27 = .ok (.iload_n 1, 1) := by decide +kernel
theorem dX0_wayFrom_28 : decode cX0_wayFrom 28 = .ok (.invokevirtual 168, 3) := by decide +kernel
theorem dX0_wayFrom_31 : decode cX0_wayFrom 31 = .ok (.ifCond .eq 12, 3) := by decide +kernel
theorem dX0_wayFrom_34 : decode cX0_wayFrom 34 = .ok (.aload_n 0, 1) := by decide +kernel
theorem dX0_wayFrom_35 : decode cX0_wayFrom 35 = .ok (.getfield 26, 3) := by decide +kernel
theorem dX0_wayFrom_38 : decode cX0_wayFrom 38 = .ok (.iload_n 1, 1) := by decide +kernel
theorem dX0_wayFrom_39 : decode cX0_wayFrom 39 = .ok (.iaload, 1) := by decide +kernel
theorem dX0_wayFrom_40 : decode cX0_wayFrom 40 = .ok (.goto 4, 3) := by decide +kernel
theorem dX0_wayFrom_43 : decode cX0_wayFrom 43 = .ok (.iconst (-1), 1) := by decide +kernel
theorem dX0_wayFrom_44 : decode cX0_wayFrom 44 = .ok (.ireturn, 1) := by decide +kernel
theorem dX0_search_0 : decode cX0_search 0 = .ok (.iconst 0, 1) := by decide +kernel
theorem dX0_search_1 : decode cX0_search 1 = .ok (.istore 4, 2) := by decide +kernel
theorem dX0_search_3 : decode cX0_search 3 = .ok (.iload 4, 2) := by decide +kernel
theorem dX0_search_5 : decode cX0_search 5 = .ok (.aload_n 0, 1) := by decide +kernel
theorem dX0_search_6 : decode cX0_search 6 = .ok (.getfield 9, 3) := by decide +kernel
theorem dX0_search_9 : decode cX0_search 9 = .ok (.aload_n 0, 1) := by decide +kernel
theorem dX0_search_10 : decode cX0_search 10 = .ok (.getfield 53, 3) := by decide +kernel
theorem dX0_search_13 : decode cX0_search 13 = .ok (.iaload, 1) := by decide +kernel
theorem dX0_search_14 : decode cX0_search 14 = .ok (.if_icmp .ge 21, 3) := by decide +kernel
theorem dX0_search_17 : decode cX0_search 17 = .ok (.iload 4, 2) := by decide +kernel
theorem dX0_search_19 : decode cX0_search 19 = .ok (.aload_n 2, 1) := by decide +kernel
theorem dX0_search_20 : decode cX0_search 20 = .ok (.arraylength, 1) := by decide +kernel
theorem dX0_search_21 : decode cX0_search 21 = .ok (.if_icmp .ge 14, 3) := by decide +kernel
theorem dX0_search_24 : decode cX0_search 24 = .ok (.aload_n 2, 1) := by decide +kernel
theorem dX0_search_25 : decode cX0_search 25 = .ok (.iload 4, 2) := by decide +kernel
theorem dX0_search_27 : decode cX0_search 27 = .ok (.iconst (-1), 1) := by decide +kernel
theorem dX0_search_28 : decode cX0_search 28 = .ok (.iastore, 1) := by decide +kernel
theorem dX0_search_29 : decode cX0_search 29 = .ok (.iinc 4 1, 3) := by decide +kernel
theorem dX0_search_32 : decode cX0_search 32 = .ok (.goto (-29), 3) := by decide +kernel
theorem dX0_search_35 : decode cX0_search 35 = .ok (.aload_n 0, 1) := by decide +kernel
theorem dX0_search_36 : decode cX0_search 36 = .ok (.iload_n 1, 1) := by decide +kernel
theorem dX0_search_37 : decode cX0_search 37 = .ok (.invokevirtual 168, 3) := by decide +kernel
theorem dX0_search_40 : decode cX0_search 40 = .ok (.ifCond .eq 11, 3) := by decide +kernel
theorem dX0_search_43 : decode cX0_search 43 = .ok (.aload_n 0, 1) := by decide +kernel
theorem dX0_search_44 : decode cX0_search 44 = .ok (.iload_n 1, 1) := by decide +kernel
theorem dX0_search_45 : decode cX0_search 45 = .ok (.invokevirtual 124, 3) := by decide +kernel
theorem dX0_search_48 : decode cX0_search 48 = .ok (.ifCond .ne 5, 3) := by decide +kernel
theorem dX0_search_51 : decode cX0_search 51 = .ok (.iconst 0, 1) := by decide +kernel
theorem dX0_search_52 : decode cX0_search 52 = .ok (.ireturn, 1) := by decide +kernel
theorem dX0_search_53 : decode cX0_search 53 = .ok (.aload_n 2, 1) := by decide +kernel
theorem dX0_search_54 : decode cX0_search 54 = .ok (.iload_n 1, 1) := by decide +kernel
theorem dX0_search_55 : decode cX0_search 55 = .ok (.iconst 0, 1) := by decide +kernel
theorem dX0_search_56 : decode cX0_search 56 = .ok (.iastore, 1) := by decide +kernel
theorem dX0_search_57 : decode cX0_search 57 = .ok (.aload_n 0, 1) := by decide +kernel
theorem dX0_search_58 : decode cX0_search 58 = .ok (.getfield 32, 3) := by decide +kernel
theorem dX0_search_61 : decode cX0_search 61 = .ok (.iconst 0, 1) := by decide +kernel
theorem dX0_search_62 : decode cX0_search 62 = .ok (.iload_n 1, 1) := by decide +kernel
theorem dX0_search_63 : decode cX0_search 63 = .ok (.iastore, 1) := by decide +kernel
theorem dX0_search_64 : decode cX0_search 64 = .ok (.iconst 1, 1) := by decide +kernel
theorem dX0_search_65 : decode cX0_search 65 = .ok (.istore 4, 2) := by decide +kernel
theorem dX0_search_67 : decode cX0_search 67 = .ok (.iconst 0, 1) := by decide +kernel
theorem dX0_search_68 : decode cX0_search 68 = .ok (.istore 5, 2) := by decide +kernel
theorem dX0_search_70 : decode cX0_search 70 = .ok (.iload 5, 2) := by decide +kernel
theorem dX0_search_72 : decode cX0_search 72 = .ok (.iload 4, 2) := by decide +kernel
theorem dX0_search_74 : decode cX0_search 74 = .ok (.if_icmp .ge 36, 3) := by decide +kernel
theorem dX0_search_77 : decode cX0_search 77 = .ok (.iload 5, 2) := by decide +kernel
theorem dX0_search_79 : decode cX0_search 79 = .ok (.aload_n 0, 1) := by decide +kernel
theorem dX0_search_80 : decode cX0_search 80 = .ok (.getfield 32, 3) := by decide +kernel
theorem dX0_search_83 : decode cX0_search 83 = .ok (.arraylength, 1) := by decide +kernel
theorem dX0_search_84 : decode cX0_search 84 = .ok (.if_icmp .ge 26, 3) := by decide +kernel
theorem dX0_search_87 : decode cX0_search 87 = .ok (.aload_n 0, 1) := by decide +kernel
theorem dX0_search_88 : decode cX0_search 88 = .ok (.aload_n 0, 1) := by decide +kernel
theorem dX0_search_89 : decode cX0_search 89 = .ok (.getfield 32, 3) := by decide +kernel
theorem dX0_search_92 : decode cX0_search 92 = .ok (.iload 5, 2) := by decide +kernel
theorem dX0_search_94 : decode cX0_search 94 = .ok (.iaload, 1) := by decide +kernel
theorem dX0_search_95 : decode cX0_search 95 = .ok (.aload_n 2, 1) := by decide +kernel
theorem dX0_search_96 : decode cX0_search 96 = .ok (.iload_n 3, 1) := by decide +kernel
theorem dX0_search_97 : decode cX0_search 97 = .ok (.iload 4, 2) := by decide +kernel
theorem dX0_search_99 : decode cX0_search 99 = .ok (.invokevirtual 171, 3) := by decide +kernel
theorem dX0_search_102 : decode cX0_search 102 = .ok (.istore 4, 2) := by decide +kernel
theorem dX0_search_104 : decode cX0_search 104 = .ok (.iinc 5 1, 3) := by decide +kernel
theorem dX0_search_107 : decode cX0_search 107 = .ok (.goto (-37), 3) := by decide +kernel
theorem dX0_search_110 : decode cX0_search 110 = .ok (.iload 4, 2) := by decide +kernel
theorem dX0_search_112 : decode cX0_search 112 = .ok (.ireturn, 1) := by decide +kernel
theorem dX0_searchFrom_0 : decode cX0_searchFrom 0 = .ok (.iload 4, 2) := by decide +kernel
theorem dX0_searchFrom_2 : decode cX0_searchFrom 2 = .ok (.istore 5, 2) := by decide +kernel
theorem dX0_searchFrom_4 : decode cX0_searchFrom 4 = .ok (.aload_n 0, 1) := by decide +kernel
theorem dX0_searchFrom_5 : decode cX0_searchFrom 5 = .ok (.iload_n 1, 1) := by decide +kernel
theorem dX0_searchFrom_6 : decode cX0_searchFrom 6 = .ok (.invokevirtual 120, 3) := by decide +kernel
theorem dX0_searchFrom_9 : decode cX0_searchFrom 9 = .ok (.iconst 0, 1) := by decide +kernel
theorem dX0_searchFrom_10 : decode cX0_searchFrom 10 = .ok (.istore 6, 2) := by decide +kernel
theorem dX0_searchFrom_12 : decode cX0_searchFrom 12 = .ok (.iload 6, 2) := by decide +kernel
theorem dX0_searchFrom_14 : decode cX0_searchFrom 14 = .ok (.aload_n 0, 1) := by decide +kernel
theorem dX0_searchFrom_15 : decode cX0_searchFrom 15 = .ok (.getfield 117, 3) := by decide +kernel
theorem dX0_searchFrom_18 : decode cX0_searchFrom 18 = .ok (.if_icmp .ge 98, 3) := by decide +kernel
theorem dX0_searchFrom_21 : decode cX0_searchFrom 21 = .ok (.iconst 0, 1) := by decide +kernel
theorem dX0_searchFrom_22 : decode cX0_searchFrom 22 = .ok (.istore 7, 2) := by decide +kernel
theorem dX0_searchFrom_24 : decode cX0_searchFrom 24 = .ok (.iload 7, 2) := by decide +kernel
theorem dX0_searchFrom_26 : decode cX0_searchFrom 26 = .ok (.aload_n 0, 1) := by decide +kernel
theorem dX0_searchFrom_27 : decode cX0_searchFrom 27 = .ok (.getfield 117, 3) := by decide +kernel
theorem dX0_searchFrom_30 : decode cX0_searchFrom 30 = .ok (.if_icmp .ge 80, 3) := by decide +kernel
theorem dX0_searchFrom_33 : decode cX0_searchFrom 33 = .ok (.aload_n 0, 1) := by decide +kernel
theorem dX0_searchFrom_34 : decode cX0_searchFrom 34 = .ok (.iload 6, 2) := by decide +kernel
theorem dX0_searchFrom_36 : decode cX0_searchFrom 36 = .ok (.iload 7, 2) := by decide +kernel
theorem dX0_searchFrom_38 : decode cX0_searchFrom 38 = .ok (.iload_n 3, 1) := by decide +kernel
theorem dX0_searchFrom_39 : decode cX0_searchFrom 39 = .ok (.invokevirtual 175, 3) := by decide +kernel
theorem dX0_searchFrom_42 : decode cX0_searchFrom 42 = .ok (.ifCond .eq 62, 3) := by decide +kernel
theorem dX0_searchFrom_45 : decode cX0_searchFrom 45 = .ok (.aload_n 0, 1) := by decide +kernel
theorem dX0_searchFrom_46 : decode cX0_searchFrom 46 = .ok (.iload_n 1, 1) := by decide +kernel
theorem dX0_searchFrom_47 : decode cX0_searchFrom 47 = .ok (.iload 6, 2) := by decide +kernel
theorem dX0_searchFrom_49 : decode cX0_searchFrom 49 = .ok (.iload 7, 2) := by decide +kernel
theorem dX0_searchFrom_51 : decode cX0_searchFrom 51 = .ok (.invokevirtual 111, 3) := by decide +kernel
theorem dX0_searchFrom_54 : decode cX0_searchFrom 54 = .ok (.istore 8, 2) := by decide +kernel
theorem dX0_searchFrom_56 : decode cX0_searchFrom 56 = .ok (.aload_n 0, 1) := by decide +kernel
theorem dX0_searchFrom_57 : decode cX0_searchFrom 57 = .ok (.iload 8, 2) := by decide +kernel
theorem dX0_searchFrom_59 : decode cX0_searchFrom 59 = .ok (.invokevirtual 168, 3) := by decide +kernel
theorem dX0_searchFrom_62 : decode cX0_searchFrom 62 = .ok (.ifCond .eq 42, 3) := by decide +kernel
theorem dX0_searchFrom_65 : decode cX0_searchFrom 65 = .ok (.aload_n 2, 1) := by decide +kernel
theorem dX0_searchFrom_66 : decode cX0_searchFrom 66 = .ok (.iload 8, 2) := by decide +kernel
theorem dX0_searchFrom_68 : decode cX0_searchFrom 68 = .ok (.iaload, 1) := by decide +kernel
theorem dX0_searchFrom_69 : decode cX0_searchFrom 69 = .ok (.iconst (-1), 1) := by decide +kernel
theorem dX0_searchFrom_70 : decode cX0_searchFrom 70 = .ok (.if_icmp .ne 34, 3) := by decide +kernel
theorem dX0_searchFrom_73 : decode cX0_searchFrom 73 = .ok (.iload 5, 2) := by decide +kernel
theorem dX0_searchFrom_75 : decode cX0_searchFrom 75 = .ok (.aload_n 0, 1) := by decide +kernel
theorem dX0_searchFrom_76 : decode cX0_searchFrom 76 = .ok (.getfield 32, 3) := by decide +kernel
theorem dX0_searchFrom_79 : decode cX0_searchFrom 79 = .ok (.arraylength, 1) := by decide +kernel
theorem dX0_searchFrom_80 : decode cX0_searchFrom 80 = .ok (.if_icmp .ge 24, 3) := by decide +kernel
theorem dX0_searchFrom_83 : decode cX0_searchFrom 83 = .ok (.aload_n 2, 1) := by decide +kernel
theorem dX0_searchFrom_84 : decode cX0_searchFrom 84 = .ok (.iload 8, 2) := by decide +kernel
theorem dX0_searchFrom_86 : decode cX0_searchFrom 86 = .ok (.aload_n 2, 1) := by decide +kernel
theorem dX0_searchFrom_87 : decode cX0_searchFrom 87 = .ok (.iload_n 1, 1) := by decide +kernel
theorem dX0_searchFrom_88 : decode cX0_searchFrom 88 = .ok (.iaload, 1) := by decide +kernel
theorem dX0_searchFrom_89 : decode cX0_searchFrom 89 = .ok (.iconst 1, 1) := by decide +kernel
theorem dX0_searchFrom_90 : decode cX0_searchFrom 90 = .ok (.iadd, 1) := by decide +kernel
theorem dX0_searchFrom_91 : decode cX0_searchFrom 91 = .ok (.iastore, 1) := by decide +kernel
theorem dX0_searchFrom_92 : decode cX0_searchFrom 92 = .ok (.aload_n 0, 1) := by decide +kernel
theorem dX0_searchFrom_93 : decode cX0_searchFrom 93 = .ok (.getfield 32, 3) := by decide +kernel
theorem dX0_searchFrom_96 : decode cX0_searchFrom 96 = .ok (.iload 5, 2) := by decide +kernel
theorem dX0_searchFrom_98 : decode cX0_searchFrom 98 = .ok (.iload 8, 2) := by decide +kernel
theorem dX0_searchFrom_100 : decode cX0_searchFrom 100 = .ok (.iastore, 1) := by decide +kernel
theorem dX0_searchFrom_101 : decode cX0_searchFrom 101 = .ok (.iinc 5 1, 3) := by decide +kernel
theorem dX0_searchFrom_104 : decode cX0_searchFrom 104 = .ok (.iinc 7 1, 3) := by decide +kernel
theorem dX0_searchFrom_107 : decode cX0_searchFrom 107 = .ok (.goto (-83), 3) := by decide +kernel
theorem dX0_searchFrom_110 : decode cX0_searchFrom 110 = .ok (.iinc 6 1, 3) := by decide +kernel
theorem dX0_searchFrom_113 : decode cX0_searchFrom 113 = .ok (.goto (-101), 3) := by decide +kernel
theorem dX0_searchFrom_116 : decode cX0_searchFrom 116 = .ok (.iload 5, 2) := by decide +kernel
theorem dX0_searchFrom_118 : decode cX0_searchFrom 118 = .ok (.ireturn, 1) := by decide +kernel
theorem dX0_thirdPeg_0 : decode cX0_thirdPeg 0 = .ok (.iconst 3, 1) := by decide +kernel
theorem dX0_thirdPeg_1 : decode cX0_thirdPeg 1 = .ok (.iload_n 0, 1) := by decide +kernel
theorem dX0_thirdPeg_2 : decode cX0_thirdPeg 2 = .ok (.isub, 1) := by decide +kernel
theorem dX0_thirdPeg_3 : decode cX0_thirdPeg 3 = .ok (.iload_n 1, 1) := by decide +kernel
theorem dX0_thirdPeg_4 : decode cX0_thirdPeg 4 = .ok (.isub, 1) := by decide +kernel
theorem dX0_thirdPeg_5 : decode cX0_thirdPeg 5 = .ok (.ireturn, 1) := by decide +kernel
theorem dX0_gather_0 : decode cX0_gather 0 = .ok (.iload_n 3, 1) := by decide +kernel
theorem dX0_gather_1 : decode cX0_gather 1 = .ok (.istore 4, 2) := by decide +kernel
theorem dX0_gather_3 : decode cX0_gather 3 = .ok (.iconst 0, 1) := by decide +kernel
theorem dX0_gather_4 : decode cX0_gather 4 = .ok (.istore 5, 2) := by decide +kernel
theorem dX0_gather_6 : decode cX0_gather 6 = .ok (.iload_n 2, 1) := by decide +kernel
theorem dX0_gather_7 : decode cX0_gather 7 = .ok (.iconst 1, 1) := by decide +kernel
theorem dX0_gather_8 : decode cX0_gather 8 = .ok (.isub, 1) := by decide +kernel
theorem dX0_gather_9 : decode cX0_gather 9 = .ok (.istore 6, 2) := by decide +kernel
theorem dX0_gather_11 : decode cX0_gather 11 = .ok (.iload 6, 2) := by decide +kernel
theorem dX0_gather_13 : decode cX0_gather 13 = .ok (.ifCond .lt 43, 3) := by decide +kernel
theorem dX0_gather_16 : decode cX0_gather 16 = .ok (.aload_n 0, 1) := by decide +kernel
theorem dX0_gather_17 : decode cX0_gather 17 = .ok (.iload_n 1, 1) := by decide +kernel
theorem dX0_gather_18 : decode cX0_gather 18 = .ok (.iload 6, 2) := by decide +kernel
theorem dX0_gather_20 : decode cX0_gather 20 = .ok (.invokevirtual 80, 3) := by decide +kernel
theorem dX0_gather_23 : decode cX0_gather 23 = .ok (.istore 7, 2) := by decide +kernel
theorem dX0_gather_25 : decode cX0_gather 25 = .ok (.iload 7, 2) := by decide +kernel
theorem dX0_gather_27 : decode cX0_gather 27 = .ok (.iload 4, 2) := by decide +kernel
theorem dX0_gather_29 : decode cX0_gather 29 = .ok (.if_icmp .eq 21, 3) := by decide +kernel
theorem dX0_gather_32 : decode cX0_gather 32 = .ok (.iload 7, 2) := by decide +kernel
theorem dX0_gather_34 : decode cX0_gather 34 = .ok (.iload 4, 2) := by decide +kernel
theorem dX0_gather_36 : decode cX0_gather 36 = .ok (.invokestatic 137, 3) := by decide +kernel
theorem dX0_gather_39 : decode cX0_gather 39 = .ok (.istore 4, 2) := by decide +kernel
theorem dX0_gather_41 : decode cX0_gather 41 = .ok (.iload 5, 2) := by decide +kernel
theorem dX0_gather_43 : decode cX0_gather 43 = .ok (.iconst 1, 1) := by decide +kernel
theorem dX0_gather_44 : decode cX0_gather 44 = .ok (.iload 6, 2) := by decide +kernel
theorem dX0_gather_46 : decode cX0_gather 46 = .ok (.ishl, 1) := by decide +kernel
theorem dX0_gather_47 : decode cX0_gather 47 = .ok (.iadd, 1) := by decide +kernel
theorem dX0_gather_48 : decode cX0_gather 48 = .ok (.istore 5, 2) := by decide +kernel
theorem dX0_gather_50 : decode cX0_gather 50 = .ok (.iinc 6 (-1), 3) := by decide +kernel
theorem dX0_gather_53 : decode cX0_gather 53 = .ok (.goto (-42), 3) := by decide +kernel
theorem dX0_gather_56 : decode cX0_gather 56 = .ok (.iload 5, 2) := by decide +kernel
theorem dX0_gather_58 : decode cX0_gather 58 = .ok (.ireturn, 1) := by decide +kernel
theorem dX0_splitIndex_0 : decode cX0_splitIndex 0 = .ok (.iload_n 1, 1) := by decide +kernel
theorem dX0_splitIndex_1 : decode cX0_splitIndex 1 = .ok (.iconst 3, 1) := by decide +kernel
theorem dX0_splitIndex_2 : decode cX0_splitIndex 2 = .ok (.isub, 1) := by decide +kernel
theorem dX0_splitIndex_3 : decode cX0_splitIndex 3 = .ok (.bipush 21, 2) := by decide +kernel
theorem dX0_splitIndex_5 : decode cX0_splitIndex 5 = .ok (.imul, 1) := by decide +kernel
theorem dX0_splitIndex_6 : decode cX0_splitIndex 6 = .ok (.iload_n 0, 1) := by decide +kernel
theorem dX0_splitIndex_7 : decode cX0_splitIndex 7 = .ok (.iadd, 1) := by decide +kernel
theorem dX0_splitIndex_8 : decode cX0_splitIndex 8 = .ok (.ireturn, 1) := by decide +kernel
theorem dX0_splitTable_0 : decode cX0_splitTable 0 = .ok (.bipush 20, 2) := by decide +kernel
theorem dX0_splitTable_2 : decode cX0_splitTable 2 = .ok (.iconst 5, 1) := by decide +kernel
theorem dX0_splitTable_3 : decode cX0_splitTable 3 = .ok (.invokestatic 156, 3) := by decide +kernel
theorem dX0_splitTable_6 : decode cX0_splitTable 6 = .ok (.iconst 1, 1) := by decide +kernel
theorem dX0_splitTable_7 : decode cX0_splitTable 7 = .ok (.iadd, 1) := by decide +kernel
theorem dX0_splitTable_8 : decode cX0_splitTable 8 = .ok (.newarray .int, 2) := by decide +kernel
theorem dX0_splitTable_10 : decode cX0_splitTable 10 = .ok (.astore_n 0, 1) := by decide +kernel
theorem dX0_splitTable_11 : decode cX0_splitTable 11 = .ok (.iconst 3, 1) := by decide +kernel
theorem dX0_splitTable_12 : decode cX0_splitTable 12 = .ok (.istore_n 1, 1) := by decide +kernel
theorem dX0_splitTable_13 : decode cX0_splitTable 13 = .ok (.iload_n 1, 1) := by decide +kernel
theorem dX0_splitTable_14 : decode cX0_splitTable 14 = .ok (.iconst 5, 1) := by decide +kernel
theorem dX0_splitTable_15 : decode cX0_splitTable 15 = .ok (.if_icmp .gt 36, 3) := by decide +kernel
theorem dX0_splitTable_18 : decode cX0_splitTable 18 = .ok (.iconst 0, 1) := by decide +kernel
theorem dX0_splitTable_19 : decode cX0_splitTable 19 = .ok (.istore_n 2, 1) := by decide +kernel
theorem dX0_splitTable_20 : decode cX0_splitTable 20 = .ok (.iload_n 2, 1) := by decide +kernel
theorem dX0_splitTable_21 : decode cX0_splitTable 21 = .ok (.bipush 20, 2) := by decide +kernel
theorem dX0_splitTable_23 : decode cX0_splitTable 23 = .ok (.if_icmp .gt 22, 3) := by decide +kernel
theorem dX0_splitTable_26 : decode cX0_splitTable 26 = .ok (.aload_n 0, 1) := by decide +kernel
theorem dX0_splitTable_27 : decode cX0_splitTable 27 = .ok (.iload_n 2, 1) := by decide +kernel
theorem dX0_splitTable_28 : decode cX0_splitTable 28 = .ok (.iload_n 1, 1) := by decide +kernel
theorem dX0_splitTable_29 : decode cX0_splitTable 29 = .ok (.invokestatic 156, 3) := by decide +kernel
theorem dX0_splitTable_32 : decode cX0_splitTable 32 = .ok (.aload_n 0, 1) := by decide +kernel
theorem dX0_splitTable_33 : decode cX0_splitTable 33 = .ok (.iload_n 2, 1) := by decide +kernel
theorem dX0_splitTable_34 : decode cX0_splitTable 34 = .ok (.iload_n 1, 1) := by decide +kernel
theorem dX0_splitTable_35 : decode cX0_splitTable 35 = .ok (.invokestatic 179, 3) := by decide +kernel
theorem dX0_splitTable_38 : decode cX0_splitTable 38 = .ok (.iastore, 1) := by decide +kernel
theorem dX0_splitTable_39 : decode cX0_splitTable 39 = .ok (.iinc 2 1, 3) := by decide +kernel
theorem dX0_splitTable_42 : decode cX0_splitTable 42 = .ok (.goto (-22), 3) := by decide +kernel
theorem dX0_splitTable_45 : decode cX0_splitTable 45 = .ok (.iinc 1 1, 3) := by decide +kernel
theorem dX0_splitTable_48 : decode cX0_splitTable 48 = .ok (.goto (-35), 3) := by decide +kernel
theorem dX0_splitTable_51 : decode cX0_splitTable 51 = .ok (.aload_n 0, 1) := by decide +kernel
theorem dX0_splitTable_52 : decode cX0_splitTable 52 = .ok (.areturn, 1) := by decide +kernel
theorem dX0_splitNumber_0 : decode cX0_splitNumber 0 = .ok (.iload_n 2, 1) := by decide +kernel
theorem dX0_splitNumber_1 : decode cX0_splitNumber 1 = .ok (.iconst 3, 1) := by decide +kernel
theorem dX0_splitNumber_2 : decode cX0_splitNumber 2 = .ok (.if_icmp .ne 9, 3) := by decide +kernel
theorem dX0_splitNumber_5 : decode cX0_splitNumber 5 = .ok (.iconst 1, 1) := by decide +kernel
theorem dX0_splitNumber_6 : decode cX0_splitNumber 6 = .ok (.iload_n 1, 1) := by decide +kernel
theorem dX0_splitNumber_7 : decode cX0_splitNumber 7 = .ok (.ishl, 1) := by decide +kernel
theorem dX0_splitNumber_8 : decode cX0_splitNumber 8 = .ok (.iconst 1, 1) := by decide +kernel
theorem dX0_splitNumber_9 : decode cX0_splitNumber 9 = .ok (.isub, 1) := by decide +kernel
theorem dX0_splitNumber_10 : decode cX0_splitNumber 10 = .ok (.ireturn, 1) := by decide +kernel
theorem dX0_splitNumber_11 : decode cX0_splitNumber 11 = .ok (.iload_n 1, 1) := by decide +kernel
theorem dX0_splitNumber_12 : decode cX0_splitNumber 12 = .ok (.iconst 2, 1) := by decide +kernel
theorem dX0_splitNumber_13 : decode cX0_splitNumber 13 = .ok (.if_icmp .ge 5, 3) := by decide +kernel
theorem dX0_splitNumber_16 : decode cX0_splitNumber 16 = .ok (.iload_n 1, 1) := by decide +kernel
theorem dX0_splitNumber_17 : decode cX0_splitNumber 17 = .ok (.ireturn, 1) := by decide +kernel
theorem dX0_splitNumber_18 : decode cX0_splitNumber 18 = .ok (.ldc 185, 2) := by decide +kernel
theorem dX0_splitNumber_20 : decode cX0_splitNumber 20 = .ok (.istore_n 3, 1) := by decide +kernel
theorem dX0_splitNumber_21 : decode cX0_splitNumber 21 = .ok (.iconst 1, 1) := by decide +kernel
theorem dX0_splitNumber_22 : decode cX0_splitNumber 22 = .ok (.istore 4, 2) := by decide +kernel
theorem dX0_splitNumber_24 : decode cX0_splitNumber 24 = .ok (.iload 4, 2) := by decide +kernel
theorem dX0_splitNumber_26 : decode cX0_splitNumber 26 = .ok (.iload_n 1, 1) := by decide +kernel
theorem dX0_splitNumber_27 : decode cX0_splitNumber 27 = .ok (.if_icmp .ge 41, 3) := by decide +kernel
theorem dX0_splitNumber_30 : decode cX0_splitNumber 30 = .ok (.iconst 2, 1) := by decide +kernel
theorem dX0_splitNumber_31 : decode cX0_splitNumber 31 = .ok (.aload_n 0, 1) := by decide +kernel
theorem dX0_splitNumber_32 : decode cX0_splitNumber 32 = .ok (.iload 4, 2) := by decide +kernel
theorem dX0_splitNumber_34 : decode cX0_splitNumber 34 = .ok (.iload_n 2, 1) := by decide +kernel
theorem dX0_splitNumber_35 : decode cX0_splitNumber 35 = .ok (.invokestatic 156, 3) := by decide +kernel
theorem dX0_splitNumber_38 : decode cX0_splitNumber 38 = .ok (.iaload, 1) := by decide +kernel
theorem dX0_splitNumber_39 : decode cX0_splitNumber 39 = .ok (.imul, 1) := by decide +kernel
theorem dX0_splitNumber_40 : decode cX0_splitNumber 40 = .ok (.aload_n 0, 1) := by decide +kernel
theorem dX0_splitNumber_41 : decode cX0_splitNumber 41 = .ok (.iload_n 1, 1) := by decide +kernel
theorem dX0_splitNumber_42 : decode cX0_splitNumber 42 = .ok (.iload 4, 2) := by decide +kernel
theorem dX0_splitNumber_44 : decode cX0_splitNumber 44 = .ok (.isub, 1) := by decide +kernel
theorem dX0_splitNumber_45 : decode cX0_splitNumber 45 = .ok (.iload_n 2, 1) := by decide +kernel
theorem dX0_splitNumber_46 : decode cX0_splitNumber 46 = .ok (.iconst 1, 1) := by decide +kernel
theorem dX0_splitNumber_47 : decode cX0_splitNumber 47 = .ok (.isub, 1) := by decide +kernel
theorem dX0_splitNumber_48 : decode cX0_splitNumber 48 = .ok (.invokestatic 156, 3) := by decide +kernel
theorem dX0_splitNumber_51 : decode cX0_splitNumber 51 = .ok (.iaload, 1) := by decide +kernel
theorem dX0_splitNumber_52 : decode cX0_splitNumber 52 = .ok (.iadd, 1) := by decide +kernel
theorem dX0_splitNumber_53 : decode cX0_splitNumber 53 = .ok (.istore 5, 2) := by decide +kernel
theorem dX0_splitNumber_55 : decode cX0_splitNumber 55 = .ok (.iload_n 3, 1) := by decide +kernel
theorem dX0_splitNumber_56 : decode cX0_splitNumber 56 = .ok (.iload 5, 2) := by decide +kernel
theorem dX0_splitNumber_58 : decode cX0_splitNumber 58 = .ok (.invokestatic 143, 3) := by decide +kernel
theorem dX0_splitNumber_61 : decode cX0_splitNumber 61 = .ok (.istore_n 3, 1) := by decide +kernel
theorem dX0_splitNumber_62 : decode cX0_splitNumber 62 = .ok (.iinc 4 1, 3) := by decide +kernel
theorem dX0_splitNumber_65 : decode cX0_splitNumber 65 = .ok (.goto (-41), 3) := by decide +kernel
theorem dX0_splitNumber_68 : decode cX0_splitNumber 68 = .ok (.iload_n 3, 1) := by decide +kernel
theorem dX0_splitNumber_69 : decode cX0_splitNumber 69 = .ok (.ireturn, 1) := by decide +kernel
theorem dJ9_min_7cf53_0 : decode cJ9_min_7cf53 0 = .ok (.iload_n 0, 1) := by decide +kernel
theorem dJ9_min_7cf53_1 : decode cJ9_min_7cf53 1 = .ok (.iload_n 1, 1) := by decide +kernel
theorem dJ9_min_7cf53_2 : decode cJ9_min_7cf53 2 = .ok (.if_icmp .gt 7, 3) := by decide +kernel
theorem dJ9_min_7cf53_5 : decode cJ9_min_7cf53 5 = .ok (.iload_n 0, 1) := by decide +kernel
theorem dJ9_min_7cf53_6 : decode cJ9_min_7cf53 6 = .ok (.goto 4, 3) := by decide +kernel
theorem dJ9_min_7cf53_9 : decode cJ9_min_7cf53 9 = .ok (.iload_n 1, 1) := by decide +kernel
theorem dJ9_min_7cf53_10 : decode cJ9_min_7cf53 10 = .ok (.ireturn, 1) := by decide +kernel
end
section
theorem dL_cell_0 : decode cL_cell 0 = .ok (.iload_n 1, 1) := by decide +kernel
theorem dL_cell_1 : decode cL_cell 1 = .ok (.aload_n 0, 1) := by decide +kernel
theorem dL_cell_2 : decode cL_cell 2 = .ok (.arraylength, 1) := by decide +kernel
theorem dL_cell_3 : decode cL_cell 3 = .ok (.if_icmp .ge 9, 3) := by decide +kernel
theorem dL_cell_6 : decode cL_cell 6 = .ok (.aload_n 0, 1) := by decide +kernel
theorem dL_cell_7 : decode cL_cell 7 = .ok (.iload_n 1, 1) := by decide +kernel
theorem dL_cell_8 : decode cL_cell 8 = .ok (.iaload, 1) := by decide +kernel
theorem dL_cell_9 : decode cL_cell 9 = .ok (.goto 18, 3) := by decide +kernel
theorem dL_cell_12 : decode cL_cell 12 = .ok (.sipush 7919, 3) := by decide +kernel
theorem dL_cell_15 : decode cL_cell 15 = .ok (.iload_n 1, 1) := by decide +kernel
theorem dL_cell_16 : decode cL_cell 16 = .ok (.sipush 431, 3) := by decide +kernel
theorem dL_cell_19 : decode cL_cell 19 = .ok (.iadd, 1) := by decide +kernel
theorem dL_cell_20 : decode cL_cell 20 = .ok (.imul, 1) := by decide +kernel
theorem dL_cell_21 : decode cL_cell 21 = .ok (.iload_n 1, 1) := by decide +kernel
theorem dL_cell_22 : decode cL_cell 22 = .ok (.sipush 1453, 3) := by decide +kernel
theorem dL_cell_25 : decode cL_cell 25 = .ok (.iadd, 1) := by decide +kernel
theorem dL_cell_26 : decode cL_cell 26 = .ok (.imul, 1) := by decide +kernel
theorem dL_cell_27 : decode cL_cell 27 = .ok (.ireturn, 1) := by decide +kernel
theorem dL_low_0 : decode cL_low 0 = .ok (.iload_n 0, 1) := by decide +kernel
theorem dL_low_1 : decode cL_low 1 = .ok (.ldc 7, 2) := by decide +kernel
theorem dL_low_3 : decode cL_low 3 = .ok (.iand, 1) := by decide +kernel
theorem dL_low_4 : decode cL_low 4 = .ok (.iload_n 1, 1) := by decide +kernel
theorem dL_low_5 : decode cL_low 5 = .ok (.irem, 1) := by decide +kernel
theorem dL_low_6 : decode cL_low 6 = .ok (.ireturn, 1) := by decide +kernel
theorem dL_begin_0 : decode cL_begin 0 = .ok (.aload_n 0, 1) := by decide +kernel
theorem dL_begin_1 : decode cL_begin 1 = .ok (.iload_n 1, 1) := by decide +kernel
theorem dL_begin_2 : decode cL_begin 2 = .ok (.iload_n 2, 1) := by decide +kernel
theorem dL_begin_3 : decode cL_begin 3 = .ok (.invokevirtual 8, 3) := by decide +kernel
theorem dL_begin_6 : decode cL_begin 6 = .ok (.ireturn, 1) := by decide +kernel
theorem dL_begin_7 : decode cL_begin 7 = .ok (.astore_n 3, 1) := by decide +kernel
theorem dL_begin_8 : decode cL_begin 8 = .ok (.ldc 16, 2) := by decide +kernel
theorem dL_begin_10 : decode cL_begin 10 = .ok (.ireturn, 1) := by decide +kernel
theorem dL_put_0 : decode cL_put 0 = .ok (.aload_n 0, 1) := by decide +kernel
theorem dL_put_1 : decode cL_put 1 = .ok (.iload_n 1, 1) := by decide +kernel
theorem dL_put_2 : decode cL_put 2 = .ok (.iload_n 2, 1) := by decide +kernel
theorem dL_put_3 : decode cL_put 3 = .ok (.invokevirtual 17, 3) := by decide +kernel
theorem dL_put_6 : decode cL_put 6 = .ok (.ireturn, 1) := by decide +kernel
theorem dL_put_7 : decode cL_put 7 = .ok (.astore_n 3, 1) := by decide +kernel
theorem dL_put_8 : decode cL_put 8 = .ok (.ldc 16, 2) := by decide +kernel
theorem dL_put_10 : decode cL_put 10 = .ok (.ireturn, 1) := by decide +kernel
theorem dL_put_11 : decode cL_put 11 = .ok (.astore_n 3, 1) := by decide +kernel
theorem dL_put_12 : decode cL_put 12 = .ok (.ldc 16, 2) := by decide +kernel
theorem dL_put_14 : decode cL_put 14 = .ok (.ireturn, 1) := by decide +kernel
theorem dL_aim_0 : decode cL_aim 0 = .ok (.aload_n 0, 1) := by decide +kernel
theorem dL_aim_1 : decode cL_aim 1 = .ok (.iload_n 1, 1) := by decide +kernel
theorem dL_aim_2 : decode cL_aim 2 = .ok (.iload_n 2, 1) := by decide +kernel
theorem dL_aim_3 : decode cL_aim 3 = .ok (.invokevirtual 24, 3) := by decide +kernel
theorem dL_aim_6 : decode cL_aim 6 = .ok (.ireturn, 1) := by decide +kernel
theorem dL_aim_7 : decode cL_aim 7 = .ok (.astore_n 3, 1) := by decide +kernel
theorem dL_aim_8 : decode cL_aim 8 = .ok (.ldc 16, 2) := by decide +kernel
theorem dL_aim_10 : decode cL_aim 10 = .ok (.ireturn, 1) := by decide +kernel
theorem dL_allow_0 : decode cL_allow 0 = .ok (.aload_n 0, 1) := by decide +kernel
theorem dL_allow_1 : decode cL_allow 1 = .ok (.iload_n 1, 1) := by decide +kernel
theorem dL_allow_2 : decode cL_allow 2 = .ok (.iload_n 2, 1) := by decide +kernel
theorem dL_allow_3 : decode cL_allow 3 = .ok (.iload_n 3, 1) := by decide +kernel
theorem dL_allow_4 : decode cL_allow 4 = .ok (.invokevirtual 27, 3) := by decide +kernel
theorem dL_allow_7 : decode cL_allow 7 = .ok (.ifCond .eq 7, 3) := by decide +kernel
theorem dL_allow_10 : decode cL_allow 10 = .ok (.iconst 1, 1) := by decide +kernel
theorem dL_allow_11 : decode cL_allow 11 = .ok (.goto 4, 3) := by decide +kernel
theorem dL_allow_14 : decode cL_allow 14 = .ok (.iconst 0, 1) := by decide +kernel
theorem dL_allow_15 : decode cL_allow 15 = .ok (.ireturn, 1) := by decide +kernel
theorem dL_allow_16 : decode cL_allow 16 = .ok (.astore 4, 2) := by decide +kernel
theorem dL_allow_18 : decode cL_allow 18 = .ok (.ldc 16, 2) := by decide +kernel
theorem dL_allow_20 : decode cL_allow 20 = .ok (.ireturn, 1) := by decide +kernel
theorem dL_allow_21 : decode cL_allow 21 = .ok (.astore 4, 2) := by decide +kernel
theorem dL_allow_23 : decode cL_allow 23 = .ok (.ldc 16, 2) := by decide +kernel
theorem dL_allow_25 : decode cL_allow 25 = .ok (.ireturn, 1) := by decide +kernel
theorem dL_setColour_0 : decode cL_setColour 0 = .ok (.aload_n 0, 1) := by decide +kernel
theorem dL_setColour_1 : decode cL_setColour 1 = .ok (.iload_n 1, 1) := by decide +kernel
theorem dL_setColour_2 : decode cL_setColour 2 = .ok (.iload_n 2, 1) := by decide +kernel
theorem dL_setColour_3 : decode cL_setColour 3 = .ok (.invokevirtual 31, 3) := by decide +kernel
theorem dL_setColour_6 : decode cL_setColour 6 = .ok (.ireturn, 1) := by decide +kernel
theorem dL_setColour_7 : decode cL_setColour 7 = .ok (.astore_n 3, 1) := by decide +kernel
theorem dL_setColour_8 : decode cL_setColour 8 = .ok (.ldc 16, 2) := by decide +kernel
theorem dL_setColour_10 : decode cL_setColour 10 = .ok (.ireturn, 1) := by decide +kernel
theorem dL_setColour_11 : decode cL_setColour 11 = .ok (.astore_n 3, 1) := by decide +kernel
theorem dL_setColour_12 : decode cL_setColour 12 = .ok (.ldc 16, 2) := by decide +kernel
theorem dL_setColour_14 : decode cL_setColour 14 = .ok (.ireturn, 1) := by decide +kernel
theorem dL_move_0 : decode cL_move 0 = .ok (.aload_n 0, 1) := by decide +kernel
theorem dL_move_1 : decode cL_move 1 = .ok (.iload_n 1, 1) := by decide +kernel
theorem dL_move_2 : decode cL_move 2 = .ok (.iload_n 2, 1) := by decide +kernel
theorem dL_move_3 : decode cL_move 3 = .ok (.invokevirtual 34, 3) := by decide +kernel
theorem dL_move_6 : decode cL_move 6 = .ok (.ireturn, 1) := by decide +kernel
theorem dL_move_7 : decode cL_move 7 = .ok (.astore_n 3, 1) := by decide +kernel
theorem dL_move_8 : decode cL_move 8 = .ok (.ldc 16, 2) := by decide +kernel
theorem dL_move_10 : decode cL_move 10 = .ok (.ireturn, 1) := by decide +kernel
theorem dL_move_11 : decode cL_move 11 = .ok (.astore_n 3, 1) := by decide +kernel
theorem dL_move_12 : decode cL_move 12 = .ok (.ldc 16, 2) := by decide +kernel
theorem dL_move_14 : decode cL_move 14 = .ok (.ireturn, 1) := by decide +kernel
theorem dL_takeBack_0 : decode cL_takeBack 0 = .ok (.aload_n 0, 1) := by decide +kernel
theorem dL_takeBack_1 : decode cL_takeBack 1 = .ok (.invokevirtual 37, 3) := by decide +kernel
theorem dL_takeBack_4 : decode cL_takeBack 4 = .ok (.ireturn, 1) := by decide +kernel
theorem dL_takeBack_5 : decode cL_takeBack 5 = .ok (.astore_n 1, 1) := by decide +kernel
theorem dL_takeBack_6 : decode cL_takeBack 6 = .ok (.ldc 16, 2) := by decide +kernel
theorem dL_takeBack_8 : decode cL_takeBack 8 = .ok (.ireturn, 1) := by decide +kernel
theorem dL_lost_0 : decode cL_lost 0 = .ok (.aload_n 0, 1) := by decide +kernel
theorem dL_lost_1 : decode cL_lost 1 = .ok (.invokevirtual 41, 3) := by decide +kernel
theorem dL_lost_4 : decode cL_lost 4 = .ok (.ireturn, 1) := by decide +kernel
theorem dL_lost_5 : decode cL_lost 5 = .ok (.astore_n 1, 1) := by decide +kernel
theorem dL_lost_6 : decode cL_lost 6 = .ok (.ldc 16, 2) := by decide +kernel
theorem dL_lost_8 : decode cL_lost 8 = .ok (.ireturn, 1) := by decide +kernel
theorem dL_wayByDisks_0 : decode cL_wayByDisks 0 = .ok (.aload_n 0, 1) := by decide +kernel
theorem dL_wayByDisks_1 : decode cL_wayByDisks 1 = .ok (.invokevirtual 44, 3) := by decide +kernel
theorem dL_wayByDisks_4 : decode cL_wayByDisks 4 = .ok (.ireturn, 1) := by decide +kernel
theorem dL_wayByDisks_5 : decode cL_wayByDisks 5 = .ok (.astore_n 1, 1) := by decide +kernel
theorem dL_wayByDisks_6 : decode cL_wayByDisks 6 = .ok (.iconst (-1), 1) := by decide +kernel
theorem dL_wayByDisks_7 : decode cL_wayByDisks 7 = .ok (.ireturn, 1) := by decide +kernel
theorem dL_act_0 : decode cL_act 0 = .ok (.iload_n 1, 1) := by decide +kernel
theorem dL_act_1 : decode cL_act 1 = .ok (.bipush 24, 2) := by decide +kernel
theorem dL_act_3 : decode cL_act 3 = .ok (.ishr, 1) := by decide +kernel
theorem dL_act_4 : decode cL_act 4 = .ok (.bipush 9, 2) := by decide +kernel
theorem dL_act_6 : decode cL_act 6 = .ok (.invokestatic 47, 3) := by decide +kernel
theorem dL_act_9 : decode cL_act 9 = .ok (.ifCond .ne 7, 3) := by decide +kernel
theorem dL_act_12 : decode cL_act 12 = .ok (.iconst 1, 1) := by decide +kernel
theorem dL_act_13 : decode cL_act 13 = .ok (.goto 4, 3) := by decide +kernel
theorem dL_act_16 : decode cL_act 16 = .ok (.iconst 0, 1) := by decide +kernel
theorem dL_act_17 : decode cL_act 17 = .ok (.istore_n 2, 1) := by decide +kernel
theorem dL_act_18 : decode cL_act 18 = .ok (.aload_n 0, 1) := by decide +kernel
theorem dL_act_19 : decode cL_act 19 = .ok (.invokevirtual 52, 3) := by decide +kernel
theorem dL_act_22 : decode cL_act 22 = .ok (.istore_n 3, 1) := by decide +kernel
theorem dL_act_23 : decode cL_act 23 = .ok (.iload_n 1, 1) := by decide +kernel
theorem dL_act_24 : decode cL_act 24 = .ok (.iconst 4, 1) := by decide +kernel
theorem dL_act_25 : decode cL_act 25 = .ok (.ishr, 1) := by decide +kernel
theorem dL_act_26 : decode cL_act 26 = .ok (.iload_n 3, 1) := by decide +kernel
theorem dL_act_27 : decode cL_act 27 = .ok (.iload_n 2, 1) := by decide +kernel
theorem dL_act_28 : decode cL_act 28 = .ok (.ifCond .eq 7, 3) := by decide +kernel
theorem dL_act_31 : decode cL_act 31 = .ok (.iconst 1, 1) := by decide +kernel
theorem dL_act_32 : decode cL_act 32 = .ok (.goto 4, 3) := by decide +kernel
theorem dL_act_35 : decode cL_act 35 = .ok (.iconst 0, 1) := by decide +kernel
theorem dL_act_36 : decode cL_act 36 = .ok (.iadd, 1) := by decide +kernel
theorem dL_act_37 : decode cL_act 37 = .ok (.invokestatic 47, 3) := by decide +kernel
theorem dL_act_40 : decode cL_act 40 = .ok (.istore 4, 2) := by decide +kernel
theorem dL_act_42 : decode cL_act 42 = .ok (.iload_n 2, 1) := by decide +kernel
theorem dL_act_43 : decode cL_act 43 = .ok (.ifCond .eq 18, 3) := by decide +kernel
theorem dL_act_46 : decode cL_act 46 = .ok (.iload_n 1, 1) := by decide +kernel
theorem dL_act_47 : decode cL_act 47 = .ok (.bipush 7, 2) := by decide +kernel
theorem dL_act_49 : decode cL_act 49 = .ok (.ishr, 1) := by decide +kernel
theorem dL_act_50 : decode cL_act 50 = .ok (.iload_n 3, 1) := by decide +kernel
theorem dL_act_51 : decode cL_act 51 = .ok (.iconst 2, 1) := by decide +kernel
theorem dL_act_52 : decode cL_act 52 = .ok (.iadd, 1) := by decide +kernel
theorem dL_act_53 : decode cL_act 53 = .ok (.invokestatic 47, 3) := by decide +kernel
theorem dL_act_56 : decode cL_act 56 = .ok (.iconst 1, 1) := by decide +kernel
theorem dL_act_57 : decode cL_act 57 = .ok (.isub, 1) := by decide +kernel
theorem dL_act_58 : decode cL_act 58 = .ok (.goto 20, 3) := by decide +kernel
theorem dL_act_61 : decode cL_act 61 = .ok (.iload 4, 2) := by decide +kernel
theorem dL_act_63 : decode cL_act 63 = .ok (.iconst 1, 1) := by decide +kernel
theorem dL_act_64 : decode cL_act 64 = .ok (.iadd, 1) := by decide +kernel
theorem dL_act_65 : decode cL_act 65 = .ok (.iload_n 1, 1) := by decide +kernel
theorem dL_act_66 : decode cL_act 66 = .ok (.bipush 7, 2) := by decide +kernel
theorem dL_act_68 : decode cL_act 68 = .ok (.ishr, 1) := by decide +kernel
theorem dL_act_69 : decode cL_act 69 = .ok (.iload_n 3, 1) := by decide +kernel
theorem dL_act_70 : decode cL_act 70 = .ok (.iconst 1, 1) := by decide +kernel
theorem dL_act_71 : decode cL_act 71 = .ok (.isub, 1) := by decide +kernel
theorem dL_act_72 : decode cL_act 72 = .ok (.invokestatic 47, 3) := by decide +kernel
theorem dL_act_75 : decode cL_act 75 = .ok (.iadd, 1) := by decide +kernel
theorem dL_act_76 : decode cL_act 76 = .ok (.iload_n 3, 1) := by decide +kernel
theorem dL_act_77 : decode cL_act 77 = .ok (.irem, 1) := by decide +kernel
theorem dL_act_78 : decode cL_act 78 = .ok (.istore 5, 2) := by decide +kernel
theorem dL_act_80 : decode cL_act 80 = .ok (.iload_n 1, 1) := by decide +kernel
theorem dL_act_81 : decode cL_act 81 = .ok (.bipush 10, 2) := by decide +kernel
theorem dL_act_83 : decode cL_act 83 = .ok (.ishr, 1) := by decide +kernel
theorem dL_act_84 : decode cL_act 84 = .ok (.aload_n 0, 1) := by decide +kernel
theorem dL_act_85 : decode cL_act 85 = .ok (.invokevirtual 55, 3) := by decide +kernel
theorem dL_act_88 : decode cL_act 88 = .ok (.iload_n 2, 1) := by decide +kernel
theorem dL_act_89 : decode cL_act 89 = .ok (.ifCond .eq 7, 3) := by decide +kernel
theorem dL_act_92 : decode cL_act 92 = .ok (.iconst 1, 1) := by decide +kernel
theorem dL_act_93 : decode cL_act 93 = .ok (.goto 4, 3) := by decide +kernel
theorem dL_act_96 : decode cL_act 96 = .ok (.iconst 0, 1) := by decide +kernel
theorem dL_act_97 : decode cL_act 97 = .ok (.iadd, 1) := by decide +kernel
theorem dL_act_98 : decode cL_act 98 = .ok (.invokestatic 47, 3) := by decide +kernel
theorem dL_act_101 : decode cL_act 101 = .ok (.istore 6, 2) := by decide +kernel
theorem dL_act_103 : decode cL_act 103 = .ok (.iload_n 1, 1) := by decide +kernel
theorem dL_act_104 : decode cL_act 104 = .ok (.bipush 12, 2) := by decide +kernel
theorem dL_act_106 : decode cL_act 106 = .ok (.invokestatic 47, 3) := by decide +kernel
theorem dL_act_109 : decode cL_act 109 = .ok (.tableswitch 231 0 7 #[47, 122, 122, 131, 140, 165, 197, 226], 47) := by decide +kernel
theorem dL_act_156 : decode cL_act 156 = .ok (.iload_n 1, 1) := by decide +kernel
theorem dL_act_157 : decode cL_act 157 = .ok (.bipush 14, 2) := by decide +kernel
theorem dL_act_159 : decode cL_act 159 = .ok (.ishr, 1) := by decide +kernel
theorem dL_act_160 : decode cL_act 160 = .ok (.iconst 4, 1) := by decide +kernel
theorem dL_act_161 : decode cL_act 161 = .ok (.invokestatic 47, 3) := by decide +kernel
theorem dL_act_164 : decode cL_act 164 = .ok (.ifCond .ne 62, 3) := by decide +kernel
theorem dL_act_167 : decode cL_act 167 = .ok (.aload_n 0, 1) := by decide +kernel
theorem dL_act_168 : decode cL_act 168 = .ok (.iload_n 2, 1) := by decide +kernel
theorem dL_act_169 : decode cL_act 169 = .ok (.ifCond .eq 15, 3) := by decide +kernel
theorem dL_act_172 : decode cL_act 172 = .ok (.iload_n 1, 1) := by decide +kernel
theorem dL_act_173 : decode cL_act 173 = .ok (.bipush 15, 2) := by decide +kernel
theorem dL_act_175 : decode cL_act 175 = .ok (.ishr, 1) := by decide +kernel
theorem dL_act_176 : decode cL_act 176 = .ok (.bipush 8, 2) := by decide +kernel
theorem dL_act_178 : decode cL_act 178 = .ok (.invokestatic 47, 3) := by decide +kernel
theorem dL_act_181 : decode cL_act 181 = .ok (.goto 13, 3) := by decide +kernel
theorem dL_act_184 : decode cL_act 184 = .ok (.iconst 3, 1) := by decide +kernel
theorem dL_act_185 : decode cL_act 185 = .ok (.iload_n 1, 1) := by decide +kernel
theorem dL_act_186 : decode cL_act 186 = .ok (.bipush 15, 2) := by decide +kernel
theorem dL_act_188 : decode cL_act 188 = .ok (.ishr, 1) := by decide +kernel
theorem dL_act_189 : decode cL_act 189 = .ok (.iconst 2, 1) := by decide +kernel
theorem dL_act_190 : decode cL_act 190 = .ok (.invokestatic 47, 3) := by decide +kernel
theorem dL_act_193 : decode cL_act 193 = .ok (.iadd, 1) := by decide +kernel
theorem dL_act_194 : decode cL_act 194 = .ok (.iload_n 2, 1) := by decide +kernel
theorem dL_act_195 : decode cL_act 195 = .ok (.ifCond .eq 15, 3) := by decide +kernel
theorem dL_act_198 : decode cL_act 198 = .ok (.iload_n 1, 1) := by decide +kernel
theorem dL_act_199 : decode cL_act 199 = .ok (.bipush 18, 2) := by decide +kernel
theorem dL_act_201 : decode cL_act 201 = .ok (.ishr, 1) := by decide +kernel
theorem dL_act_202 : decode cL_act 202 = .ok (.bipush 8, 2) := by decide +kernel
theorem dL_act_204 : decode cL_act 204 = .ok (.invokestatic 47, 3) := by decide +kernel
theorem dL_act_207 : decode cL_act 207 = .ok (.goto 13, 3) := by decide +kernel
theorem dL_act_210 : decode cL_act 210 = .ok (.iconst 1, 1) := by decide +kernel
theorem dL_act_211 : decode cL_act 211 = .ok (.iload_n 1, 1) := by decide +kernel
theorem dL_act_212 : decode cL_act 212 = .ok (.bipush 18, 2) := by decide +kernel
theorem dL_act_214 : decode cL_act 214 = .ok (.ishr, 1) := by decide +kernel
theorem dL_act_215 : decode cL_act 215 = .ok (.iconst 4, 1) := by decide +kernel
theorem dL_act_216 : decode cL_act 216 = .ok (.invokestatic 47, 3) := by decide +kernel
theorem dL_act_219 : decode cL_act 219 = .ok (.iadd, 1) := by decide +kernel
theorem dL_act_220 : decode cL_act 220 = .ok (.invokestatic 58, 3) := by decide +kernel
theorem dL_act_223 : decode cL_act 223 = .ok (.goto 7, 3) := by decide +kernel
theorem dL_act_226 : decode cL_act 226 = .ok (.aload_n 0, 1) := by decide +kernel
theorem dL_act_227 : decode cL_act 227 = .ok (.invokevirtual 61, 3) := by decide +kernel
theorem dL_act_230 : decode cL_act 230 = .ok (.ireturn, 1) := by decide +kernel
theorem dL_act_231 : decode cL_act 231 = .ok (.aload_n 0, 1) := by decide +kernel
theorem dL_act_232 : decode cL_act 232 = .ok (.iload 6, 2) := by decide +kernel
theorem dL_act_234 : decode cL_act 234 = .ok (.iload 5, 2) := by decide +kernel
theorem dL_act_236 : decode cL_act 236 = .ok (.invokestatic 64, 3) := by decide +kernel
theorem dL_act_239 : decode cL_act 239 = .ok (.ireturn, 1) := by decide +kernel
theorem dL_act_240 : decode cL_act 240 = .ok (.aload_n 0, 1) := by decide +kernel
theorem dL_act_241 : decode cL_act 241 = .ok (.iload 6, 2) := by decide +kernel
theorem dL_act_243 : decode cL_act 243 = .ok (.iload 5, 2) := by decide +kernel
theorem dL_act_245 : decode cL_act 245 = .ok (.invokestatic 66, 3) := by decide +kernel
theorem dL_act_248 : decode cL_act 248 = .ok (.ireturn, 1) := by decide +kernel
theorem dL_act_249 : decode cL_act 249 = .ok (.aload_n 0, 1) := by decide +kernel
theorem dL_act_250 : decode cL_act 250 = .ok (.iload 4, 2) := by decide +kernel
theorem dL_act_252 : decode cL_act 252 = .ok (.iload 5, 2) := by decide +kernel
theorem dL_act_254 : decode cL_act 254 = .ok (.iload_n 1, 1) := by decide +kernel
theorem dL_act_255 : decode cL_act 255 = .ok (.bipush 14, 2) := by decide +kernel
theorem dL_act_257 : decode cL_act 257 = .ok (.ishr, 1) := by decide +kernel
theorem dL_act_258 : decode cL_act 258 = .ok (.iconst 3, 1) := by decide +kernel
theorem dL_act_259 : decode cL_act 259 = .ok (.invokestatic 47, 3) := by decide +kernel
theorem dL_act_262 : decode cL_act 262 = .ok (.ifCond .le 7, 3) := by decide +kernel
theorem dL_act_265 : decode cL_act 265 = .ok (.iconst 1, 1) := by decide +kernel
theorem dL_act_266 : decode cL_act 266 = .ok (.goto 4, 3) := by decide +kernel
theorem dL_act_269 : decode cL_act 269 = .ok (.iconst 0, 1) := by decide +kernel
theorem dL_act_270 : decode cL_act 270 = .ok (.invokestatic 68, 3) := by decide +kernel
theorem dL_act_273 : decode cL_act 273 = .ok (.ireturn, 1) := by decide +kernel
theorem dL_act_274 : decode cL_act 274 = .ok (.aload_n 0, 1) := by decide +kernel
theorem dL_act_275 : decode cL_act 275 = .ok (.iload 6, 2) := by decide +kernel
theorem dL_act_277 : decode cL_act 277 = .ok (.iload_n 2, 1) := by decide +kernel
theorem dL_act_278 : decode cL_act 278 = .ok (.ifCond .eq 16, 3) := by decide +kernel
theorem dL_act_281 : decode cL_act 281 = .ok (.iload_n 1, 1) := by decide +kernel
theorem dL_act_282 : decode cL_act 282 = .ok (.bipush 14, 2) := by decide +kernel
theorem dL_act_284 : decode cL_act 284 = .ok (.ishr, 1) := by decide +kernel
theorem dL_act_285 : decode cL_act 285 = .ok (.iconst 4, 1) := by decide +kernel
theorem dL_act_286 : decode cL_act 286 = .ok (.invokestatic 47, 3) := by decide +kernel
theorem dL_act_289 : decode cL_act 289 = .ok (.iconst 1, 1) := by decide +kernel
theorem dL_act_290 : decode cL_act 290 = .ok (.isub, 1) := by decide +kernel
theorem dL_act_291 : decode cL_act 291 = .ok (.goto 11, 3) := by decide +kernel
theorem dL_act_294 : decode cL_act 294 = .ok (.iload_n 1, 1) := by decide +kernel
theorem dL_act_295 : decode cL_act 295 = .ok (.bipush 14, 2) := by decide +kernel
theorem dL_act_297 : decode cL_act 297 = .ok (.ishr, 1) := by decide +kernel
theorem dL_act_298 : decode cL_act 298 = .ok (.iconst 2, 1) := by decide +kernel
theorem dL_act_299 : decode cL_act 299 = .ok (.invokestatic 47, 3) := by decide +kernel
theorem dL_act_302 : decode cL_act 302 = .ok (.invokestatic 71, 3) := by decide +kernel
theorem dL_act_305 : decode cL_act 305 = .ok (.ireturn, 1) := by decide +kernel
theorem dL_act_306 : decode cL_act 306 = .ok (.aload_n 0, 1) := by decide +kernel
theorem dL_act_307 : decode cL_act 307 = .ok (.iload_n 1, 1) := by decide +kernel
theorem dL_act_308 : decode cL_act 308 = .ok (.bipush 14, 2) := by decide +kernel
theorem dL_act_310 : decode cL_act 310 = .ok (.ishr, 1) := by decide +kernel
theorem dL_act_311 : decode cL_act 311 = .ok (.iconst 3, 1) := by decide +kernel
theorem dL_act_312 : decode cL_act 312 = .ok (.invokestatic 47, 3) := by decide +kernel
theorem dL_act_315 : decode cL_act 315 = .ok (.ifCond .ne 7, 3) := by decide +kernel
theorem dL_act_318 : decode cL_act 318 = .ok (.iconst 1, 1) := by decide +kernel
theorem dL_act_319 : decode cL_act 319 = .ok (.goto 4, 3) := by decide +kernel
theorem dL_act_322 : decode cL_act 322 = .ok (.iconst 0, 1) := by decide +kernel
theorem dL_act_323 : decode cL_act 323 = .ok (.invokevirtual 73, 3) := by decide +kernel
theorem dL_act_326 : decode cL_act 326 = .ok (.ifCond .eq 7, 3) := by decide +kernel
theorem dL_act_329 : decode cL_act 329 = .ok (.iconst 1, 1) := by decide +kernel
theorem dL_act_330 : decode cL_act 330 = .ok (.goto 4, 3) := by decide +kernel
theorem dL_act_333 : decode cL_act 333 = .ok (.iconst 0, 1) := by decide +kernel
theorem dL_act_334 : decode cL_act 334 = .ok (.ireturn, 1) := by decide +kernel
theorem dL_act_335 : decode cL_act 335 = .ok (.aload_n 0, 1) := by decide +kernel
theorem dL_act_336 : decode cL_act 336 = .ok (.invokestatic 77, 3) := by decide +kernel
theorem dL_act_339 : decode cL_act 339 = .ok (.ireturn, 1) := by decide +kernel
theorem dL_act_340 : decode cL_act 340 = .ok (.aload_n 0, 1) := by decide +kernel
theorem dL_act_341 : decode cL_act 341 = .ok (.iload 4, 2) := by decide +kernel
theorem dL_act_343 : decode cL_act 343 = .ok (.iload 5, 2) := by decide +kernel
theorem dL_act_345 : decode cL_act 345 = .ok (.invokestatic 80, 3) := by decide +kernel
theorem dL_act_348 : decode cL_act 348 = .ok (.ireturn, 1) := by decide +kernel
theorem dL_areAlike_0 : decode cL_areAlike 0 = .ok (.aload_n 0, 1) := by decide +kernel
theorem dL_areAlike_1 : decode cL_areAlike 1 = .ok (.invokevirtual 52, 3) := by decide +kernel
theorem dL_areAlike_4 : decode cL_areAlike 4 = .ok (.aload_n 1, 1) := by decide +kernel
theorem dL_areAlike_5 : decode cL_areAlike 5 = .ok (.invokevirtual 52, 3) := by decide +kernel
theorem dL_areAlike_8 : decode cL_areAlike 8 = .ok (.if_icmp .ne 73, 3) := by decide +kernel
theorem dL_areAlike_11 : decode cL_areAlike 11 = .ok (.aload_n 0, 1) := by decide +kernel
theorem dL_areAlike_12 : decode cL_areAlike 12 = .ok (.invokevirtual 55, 3) := by decide +kernel
theorem dL_areAlike_15 : decode cL_areAlike 15 = .ok (.aload_n 1, 1) := by decide +kernel
theorem dL_areAlike_16 : decode cL_areAlike 16 = .ok (.invokevirtual 55, 3) := by decide +kernel
theorem dL_areAlike_19 : decode cL_areAlike 19 = .ok (.if_icmp .ne 62, 3) := by decide +kernel
theorem dL_areAlike_22 : decode cL_areAlike 22 = .ok (.aload_n 0, 1) := by decide +kernel
theorem dL_areAlike_23 : decode cL_areAlike 23 = .ok (.invokevirtual 82, 3) := by decide +kernel
theorem dL_areAlike_26 : decode cL_areAlike 26 = .ok (.aload_n 1, 1) := by decide +kernel
theorem dL_areAlike_27 : decode cL_areAlike 27 = .ok (.invokevirtual 82, 3) := by decide +kernel
theorem dL_areAlike_30 : decode cL_areAlike 30 = .ok (.if_icmp .ne 51, 3) := by decide +kernel
theorem dL_areAlike_33 : decode cL_areAlike 33 = .ok (.aload_n 0, 1) := by decide +kernel
theorem dL_areAlike_34 : decode cL_areAlike 34 = .ok (.invokevirtual 85, 3) := by decide +kernel
theorem dL_areAlike_37 : decode cL_areAlike 37 = .ok (.aload_n 1, 1) := by decide +kernel
theorem dL_areAlike_38 : decode cL_areAlike 38 = .ok (.invokevirtual 85, 3) := by decide +kernel
theorem dL_areAlike_41 : decode cL_areAlike 41 = .ok (.if_icmp .ne 40, 3) := by decide +kernel
theorem dL_areAlike_44 : decode cL_areAlike 44 = .ok (.aload_n 0, 1) := by decide +kernel
theorem dL_areAlike_45 : decode cL_areAlike 45 = .ok (.invokevirtual 88, 3) := by decide +kernel
theorem dL_areAlike_48 : decode cL_areAlike 48 = .ok (.aload_n 1, 1) := by decide +kernel
theorem dL_areAlike_49 : decode cL_areAlike 49 = .ok (.invokevirtual 88, 3) := by decide +kernel
theorem dL_areAlike_52 : decode cL_areAlike 52 = .ok (.if_icmp .ne 29, 3) := by decide +kernel
theorem dL_areAlike_55 : decode cL_areAlike 55 = .ok (.aload_n 0, 1) := by decide +kernel
theorem dL_areAlike_56 : decode cL_areAlike 56 = .ok (.invokevirtual 91, 3) := by decide +kernel
theorem dL_areAlike_59 : decode cL_areAlike 59 = .ok (.aload_n 1, 1) := by decide +kernel
theorem dL_areAlike_60 : decode cL_areAlike 60 = .ok (.invokevirtual 91, 3) := by decide +kernel
theorem dL_areAlike_63 : decode cL_areAlike 63 = .ok (.if_icmp .ne 18, 3) := by decide +kernel
theorem dL_areAlike_66 : decode cL_areAlike 66 = .ok (.aload_n 0, 1) := by decide +kernel
theorem dL_areAlike_67 : decode cL_areAlike 67 = .ok (.invokevirtual 94, 3) := by decide +kernel
theorem dL_areAlike_70 : decode cL_areAlike 70 = .ok (.aload_n 1, 1) := by decide +kernel
theorem dL_areAlike_71 : decode cL_areAlike 71 = .ok (.invokevirtual 94, 3) := by decide +kernel
theorem dL_areAlike_74 : decode cL_areAlike 74 = .ok (.if_icmp .ne 7, 3) := by decide +kernel
theorem dL_areAlike_77 : decode cL_areAlike 77 = .ok (.iconst 1, 1) := by decide +kernel
theorem dL_areAlike_78 : decode cL_areAlike 78 = .ok (.goto 4, 3) := by decide +kernel
theorem dL_areAlike_81 : decode cL_areAlike 81 = .ok (.iconst 0, 1) := by decide +kernel
theorem dL_areAlike_82 : decode cL_areAlike 82 = .ok (.ireturn, 1) := by decide +kernel
theorem dL_isNowSo_0 : decode cL_isNowSo 0 = .ok (.aload_n 0, 1) := by decide +kernel
theorem dL_isNowSo_1 : decode cL_isNowSo 1 = .ok (.invokevirtual 52, 3) := by decide +kernel
theorem dL_isNowSo_4 : decode cL_isNowSo 4 = .ok (.istore_n 1, 1) := by decide +kernel
theorem dL_isNowSo_5 : decode cL_isNowSo 5 = .ok (.iconst 0, 1) := by decide +kernel
theorem dL_isNowSo_6 : decode cL_isNowSo 6 = .ok (.istore_n 2, 1) := by decide +kernel
theorem dL_isNowSo_7 : decode cL_isNowSo 7 = .ok (.aload_n 0, 1) := by decide +kernel
theorem dL_isNowSo_8 : decode cL_isNowSo 8 = .ok (.invokevirtual 55, 3) := by decide +kernel
theorem dL_isNowSo_11 : decode cL_isNowSo 11 = .ok (.iconst 1, 1) := by decide +kernel
theorem dL_isNowSo_12 : decode cL_isNowSo 12 = .ok (.isub, 1) := by decide +kernel
theorem dL_isNowSo_13 : decode cL_isNowSo 13 = .ok (.istore_n 3, 1) := by decide +kernel
theorem dL_isNowSo_14 : decode cL_isNowSo 14 = .ok (.iload_n 3, 1) := by decide +kernel
theorem dL_isNowSo_15 : decode cL_isNowSo 15 = .ok (.ifCond .lt 19, 3) := by decide +kernel
theorem dL_isNowSo_18 : decode cL_isNowSo 18 = .ok (.iload_n 1, 1) := by decide +kernel
theorem dL_isNowSo_19 : decode cL_isNowSo 19 = .ok (.iload_n 2, 1) := by decide +kernel
theorem dL_isNowSo_20 : decode cL_isNowSo 20 = .ok (.imul, 1) := by decide +kernel
theorem dL_isNowSo_21 : decode cL_isNowSo 21 = .ok (.aload_n 0, 1) := by decide +kernel
theorem dL_isNowSo_22 : decode cL_isNowSo 22 = .ok (.iload_n 3, 1) := by decide +kernel
theorem dL_isNowSo_23 : decode cL_isNowSo 23 = .ok (.invokevirtual 97, 3) := by decide +kernel
theorem dL_isNowSo_26 : decode cL_isNowSo 26 = .ok (.iadd, 1) := by decide +kernel
theorem dL_isNowSo_27 : decode cL_isNowSo 27 = .ok (.istore_n 2, 1) := by decide +kernel
theorem dL_isNowSo_28 : decode cL_isNowSo 28 = .ok (.iinc 3 (-1), 3) := by decide +kernel
theorem dL_isNowSo_31 : decode cL_isNowSo 31 = .ok (.goto (-17), 3) := by decide +kernel
theorem dL_isNowSo_34 : decode cL_isNowSo 34 = .ok (.iload_n 2, 1) := by decide +kernel
theorem dL_isNowSo_35 : decode cL_isNowSo 35 = .ok (.aload_n 0, 1) := by decide +kernel
theorem dL_isNowSo_36 : decode cL_isNowSo 36 = .ok (.invokevirtual 85, 3) := by decide +kernel
theorem dL_isNowSo_39 : decode cL_isNowSo 39 = .ok (.if_icmp .ne 7, 3) := by decide +kernel
theorem dL_isNowSo_42 : decode cL_isNowSo 42 = .ok (.iconst 1, 1) := by decide +kernel
theorem dL_isNowSo_43 : decode cL_isNowSo 43 = .ok (.goto 4, 3) := by decide +kernel
theorem dL_isNowSo_46 : decode cL_isNowSo 46 = .ok (.iconst 0, 1) := by decide +kernel
theorem dL_isNowSo_47 : decode cL_isNowSo 47 = .ok (.istore_n 3, 1) := by decide +kernel
theorem dL_isNowSo_48 : decode cL_isNowSo 48 = .ok (.iconst 0, 1) := by decide +kernel
theorem dL_isNowSo_49 : decode cL_isNowSo 49 = .ok (.istore 4, 2) := by decide +kernel
theorem dL_isNowSo_51 : decode cL_isNowSo 51 = .ok (.iload 4, 2) := by decide +kernel
theorem dL_isNowSo_53 : decode cL_isNowSo 53 = .ok (.iload_n 1, 1) := by decide +kernel
theorem dL_isNowSo_54 : decode cL_isNowSo 54 = .ok (.if_icmp .ge 167, 3) := by decide +kernel
theorem dL_isNowSo_57 : decode cL_isNowSo 57 = .ok (.aload_n 0, 1) := by decide +kernel
theorem dL_isNowSo_58 : decode cL_isNowSo 58 = .ok (.iload 4, 2) := by decide +kernel
theorem dL_isNowSo_60 : decode cL_isNowSo 60 = .ok (.invokevirtual 101, 3) := by decide +kernel
theorem dL_isNowSo_63 : decode cL_isNowSo 63 = .ok (.istore 5, 2) := by decide +kernel
theorem dL_isNowSo_65 : decode cL_isNowSo 65 = .ok (.iload_n 3, 1) := by decide +kernel
theorem dL_isNowSo_66 : decode cL_isNowSo 66 = .ok (.ifCond .eq 35, 3) := by decide +kernel
theorem dL_isNowSo_69 : decode cL_isNowSo 69 = .ok (.iload 5, 2) := by decide +kernel
theorem dL_isNowSo_71 : decode cL_isNowSo 71 = .ok (.iconst (-1), 1) := by decide +kernel
theorem dL_isNowSo_72 : decode cL_isNowSo 72 = .ok (.if_icmp .eq 14, 3) := by decide +kernel
theorem dL_isNowSo_75 : decode cL_isNowSo 75 = .ok (.aload_n 0, 1) := by decide +kernel
theorem dL_isNowSo_76 : decode cL_isNowSo 76 = .ok (.iload 5, 2) := by decide +kernel
theorem dL_isNowSo_78 : decode cL_isNowSo 78 = .ok (.invokevirtual 97, 3) := by decide +kernel
theorem dL_isNowSo_81 : decode cL_isNowSo 81 = .ok (.iload 4, 2) := by decide +kernel
theorem dL_isNowSo_83 : decode cL_isNowSo 83 = .ok (.if_icmp .ne 18, 3) := by decide +kernel
theorem dL_isNowSo_86 : decode cL_isNowSo 86 = .ok (.aload_n 0, 1) := by decide +kernel
theorem dL_isNowSo_87 : decode cL_isNowSo 87 = .ok (.iload 4, 2) := by decide +kernel
theorem dL_isNowSo_89 : decode cL_isNowSo 89 = .ok (.iload 4, 2) := by decide +kernel
theorem dL_isNowSo_91 : decode cL_isNowSo 91 = .ok (.invokevirtual 104, 3) := by decide +kernel
theorem dL_isNowSo_94 : decode cL_isNowSo 94 = .ok (.ifCond .ne 7, 3) := by decide +kernel
theorem dL_isNowSo_97 : decode cL_isNowSo 97 = .ok (.iconst 1, 1) := by decide +kernel
theorem dL_isNowSo_98 : decode cL_isNowSo 98 = .ok (.goto 4, 3) := by decide +kernel
theorem dL_isNowSo_101 : decode cL_isNowSo 101 = .ok (.iconst 0, 1) := by decide +kernel
theorem dL_isNowSo_102 : decode cL_isNowSo 102 = .ok (.istore_n 3, 1) := by decide +kernel
theorem dL_isNowSo_103 : decode cL_isNowSo 103 = .ok (.iconst 0, 1) := by decide +kernel
theorem dL_isNowSo_104 : decode cL_isNowSo 104 = .ok (.istore 6, 2) := by decide +kernel
theorem dL_isNowSo_106 : decode cL_isNowSo 106 = .ok (.iload 6, 2) := by decide +kernel
theorem dL_isNowSo_108 : decode cL_isNowSo 108 = .ok (.aload_n 0, 1) := by decide +kernel
theorem dL_isNowSo_109 : decode cL_isNowSo 109 = .ok (.invokevirtual 55, 3) := by decide +kernel
theorem dL_isNowSo_112 : decode cL_isNowSo 112 = .ok (.if_icmp .ge 42, 3) := by decide +kernel
theorem dL_isNowSo_115 : decode cL_isNowSo 115 = .ok (.iload_n 3, 1) := by decide +kernel
theorem dL_isNowSo_116 : decode cL_isNowSo 116 = .ok (.ifCond .eq 30, 3) := by decide +kernel
theorem dL_isNowSo_119 : decode cL_isNowSo 119 = .ok (.aload_n 0, 1) := by decide +kernel
theorem dL_isNowSo_120 : decode cL_isNowSo 120 = .ok (.iload 6, 2) := by decide +kernel
theorem dL_isNowSo_122 : decode cL_isNowSo 122 = .ok (.invokevirtual 97, 3) := by decide +kernel
theorem dL_isNowSo_125 : decode cL_isNowSo 125 = .ok (.iload 4, 2) := by decide +kernel
theorem dL_isNowSo_127 : decode cL_isNowSo 127 = .ok (.if_icmp .ne 15, 3) := by decide +kernel
theorem dL_isNowSo_130 : decode cL_isNowSo 130 = .ok (.iload 5, 2) := by decide +kernel
theorem dL_isNowSo_132 : decode cL_isNowSo 132 = .ok (.ifCond .lt 14, 3) := by decide +kernel
theorem dL_isNowSo_135 : decode cL_isNowSo 135 = .ok (.iload 5, 2) := by decide +kernel
theorem dL_isNowSo_137 : decode cL_isNowSo 137 = .ok (.iload 6, 2) := by decide +kernel
theorem dL_isNowSo_139 : decode cL_isNowSo 139 = .ok (.if_icmp .gt 7, 3) := by decide +kernel
theorem dL_isNowSo_142 : decode cL_isNowSo 142 = .ok (.iconst 1, 1) := by decide +kernel
theorem dL_isNowSo_143 : decode cL_isNowSo 143 = .ok (.goto 4, 3) := by decide +kernel
theorem dL_isNowSo_146 : decode cL_isNowSo 146 = .ok (.iconst 0, 1) := by decide +kernel
theorem dL_isNowSo_147 : decode cL_isNowSo 147 = .ok (.istore_n 3, 1) := by decide +kernel
theorem dL_isNowSo_148 : decode cL_isNowSo 148 = .ok (.iinc 6 1, 3) := by decide +kernel
theorem dL_isNowSo_151 : decode cL_isNowSo 151 = .ok (.goto (-45), 3) := by decide +kernel
theorem dL_isNowSo_154 : decode cL_isNowSo 154 = .ok (.iconst 0, 1) := by decide +kernel
theorem dL_isNowSo_155 : decode cL_isNowSo 155 = .ok (.istore 6, 2) := by decide +kernel
theorem dL_isNowSo_157 : decode cL_isNowSo 157 = .ok (.iload 6, 2) := by decide +kernel
theorem dL_isNowSo_159 : decode cL_isNowSo 159 = .ok (.iload_n 1, 1) := by decide +kernel
theorem dL_isNowSo_160 : decode cL_isNowSo 160 = .ok (.if_icmp .ge 55, 3) := by decide +kernel
theorem dL_isNowSo_163 : decode cL_isNowSo 163 = .ok (.aload_n 0, 1) := by decide +kernel
theorem dL_isNowSo_164 : decode cL_isNowSo 164 = .ok (.iload 6, 2) := by decide +kernel
theorem dL_isNowSo_166 : decode cL_isNowSo 166 = .ok (.invokevirtual 101, 3) := by decide +kernel
theorem dL_isNowSo_169 : decode cL_isNowSo 169 = .ok (.istore 7, 2) := by decide +kernel
theorem dL_isNowSo_171 : decode cL_isNowSo 171 = .ok (.iload_n 3, 1) := by decide +kernel
theorem dL_isNowSo_172 : decode cL_isNowSo 172 = .ok (.ifCond .eq 35, 3) := by decide +kernel
theorem dL_isNowSo_175 : decode cL_isNowSo 175 = .ok (.aload_n 0, 1) := by decide +kernel
theorem dL_isNowSo_176 : decode cL_isNowSo 176 = .ok (.iload 4, 2) := by decide +kernel
theorem dL_isNowSo_178 : decode cL_isNowSo 178 = .ok (.iload 6, 2) := by decide +kernel
theorem dL_isNowSo_180 : decode cL_isNowSo 180 = .ok (.invokevirtual 104, 3) := by decide +kernel
theorem dL_isNowSo_183 : decode cL_isNowSo 183 = .ok (.ifCond .eq 20, 3) := by decide +kernel
theorem dL_isNowSo_186 : decode cL_isNowSo 186 = .ok (.iload 5, 2) := by decide +kernel
theorem dL_isNowSo_188 : decode cL_isNowSo 188 = .ok (.ifCond .lt 19, 3) := by decide +kernel
theorem dL_isNowSo_191 : decode cL_isNowSo 191 = .ok (.iload 7, 2) := by decide +kernel
theorem dL_isNowSo_193 : decode cL_isNowSo 193 = .ok (.ifCond .lt 10, 3) := by decide +kernel
theorem dL_isNowSo_196 : decode cL_isNowSo 196 = .ok (.iload 7, 2) := by decide +kernel
theorem dL_isNowSo_198 : decode cL_isNowSo 198 = .ok (.iload 5, 2) := by decide +kernel
theorem dL_isNowSo_200 : decode cL_isNowSo 200 = .ok (.if_icmp .le 7, 3) := by decide +kernel
theorem dL_isNowSo_203 : decode cL_isNowSo 203 = .ok (.iconst 1, 1) := by decide +kernel
theorem dL_isNowSo_204 : decode cL_isNowSo 204 = .ok (.goto 4, 3) := by decide +kernel
theorem dL_isNowSo_207 : decode cL_isNowSo 207 = .ok (.iconst 0, 1) := by decide +kernel
theorem dL_isNowSo_208 : decode cL_isNowSo 208 = .ok (.istore_n 3, 1) := by decide +kernel
theorem dL_isNowSo_209 : decode cL_isNowSo 209 = .ok (.iinc 6 1, 3) := by decide +kernel
theorem dL_isNowSo_212 : decode cL_isNowSo 212 = .ok (.goto (-55), 3) := by decide +kernel
theorem dL_isNowSo_215 : decode cL_isNowSo 215 = .ok (.iinc 4 1, 3) := by decide +kernel
theorem dL_isNowSo_218 : decode cL_isNowSo 218 = .ok (.goto (-167), 3) := by decide +kernel
theorem dL_isNowSo_221 : decode cL_isNowSo 221 = .ok (.iload_n 3, 1) := by decide +kernel
theorem dL_isNowSo_222 : decode cL_isNowSo 222 = .ok (.ireturn, 1) := by decide +kernel
theorem dL_areWaysSo_0 : decode cL_areWaysSo 0 = .ok (.aload_n 0, 1) := by decide +kernel
theorem dL_areWaysSo_1 : decode cL_areWaysSo 1 = .ok (.invokevirtual 91, 3) := by decide +kernel
theorem dL_areWaysSo_4 : decode cL_areWaysSo 4 = .ok (.istore_n 1, 1) := by decide +kernel
theorem dL_areWaysSo_5 : decode cL_areWaysSo 5 = .ok (.aload_n 0, 1) := by decide +kernel
theorem dL_areWaysSo_6 : decode cL_areWaysSo 6 = .ok (.invokevirtual 108, 3) := by decide +kernel
theorem dL_areWaysSo_9 : decode cL_areWaysSo 9 = .ok (.istore_n 2, 1) := by decide +kernel
theorem dL_areWaysSo_10 : decode cL_areWaysSo 10 = .ok (.aload_n 0, 1) := by decide +kernel
theorem dL_areWaysSo_11 : decode cL_areWaysSo 11 = .ok (.invokestatic 111, 3) := by decide +kernel
theorem dL_areWaysSo_14 : decode cL_areWaysSo 14 = .ok (.istore_n 3, 1) := by decide +kernel
theorem dL_areWaysSo_15 : decode cL_areWaysSo 15 = .ok (.aload_n 0, 1) := by decide +kernel
theorem dL_areWaysSo_16 : decode cL_areWaysSo 16 = .ok (.invokestatic 113, 3) := by decide +kernel
theorem dL_areWaysSo_19 : decode cL_areWaysSo 19 = .ok (.istore 4, 2) := by decide +kernel
theorem dL_areWaysSo_21 : decode cL_areWaysSo 21 = .ok (.iload_n 1, 1) := by decide +kernel
theorem dL_areWaysSo_22 : decode cL_areWaysSo 22 = .ok (.ifCond .le 7, 3) := by decide +kernel
theorem dL_areWaysSo_25 : decode cL_areWaysSo 25 = .ok (.iconst 1, 1) := by decide +kernel
theorem dL_areWaysSo_26 : decode cL_areWaysSo 26 = .ok (.goto 4, 3) := by decide +kernel
theorem dL_areWaysSo_29 : decode cL_areWaysSo 29 = .ok (.iconst 0, 1) := by decide +kernel
theorem dL_areWaysSo_30 : decode cL_areWaysSo 30 = .ok (.iload_n 2, 1) := by decide +kernel
theorem dL_areWaysSo_31 : decode cL_areWaysSo 31 = .ok (.ifCond .lt 7, 3) := by decide +kernel
theorem dL_areWaysSo_34 : decode cL_areWaysSo 34 = .ok (.iconst 1, 1) := by decide +kernel
theorem dL_areWaysSo_35 : decode cL_areWaysSo 35 = .ok (.goto 4, 3) := by decide +kernel
theorem dL_areWaysSo_38 : decode cL_areWaysSo 38 = .ok (.iconst 0, 1) := by decide +kernel
theorem dL_areWaysSo_39 : decode cL_areWaysSo 39 = .ok (.if_icmp .ne 81, 3) := by decide +kernel
theorem dL_areWaysSo_42 : decode cL_areWaysSo 42 = .ok (.iload_n 1, 1) := by decide +kernel
theorem dL_areWaysSo_43 : decode cL_areWaysSo 43 = .ok (.ifCond .ne 14, 3) := by decide +kernel
theorem dL_areWaysSo_46 : decode cL_areWaysSo 46 = .ok (.aload_n 0, 1) := by decide +kernel
theorem dL_areWaysSo_47 : decode cL_areWaysSo 47 = .ok (.invokevirtual 85, 3) := by decide +kernel
theorem dL_areWaysSo_50 : decode cL_areWaysSo 50 = .ok (.aload_n 0, 1) := by decide +kernel
theorem dL_areWaysSo_51 : decode cL_areWaysSo 51 = .ok (.invokevirtual 88, 3) := by decide +kernel
theorem dL_areWaysSo_54 : decode cL_areWaysSo 54 = .ok (.if_icmp .ne 66, 3) := by decide +kernel
theorem dL_areWaysSo_57 : decode cL_areWaysSo 57 = .ok (.iload_n 1, 1) := by decide +kernel
theorem dL_areWaysSo_58 : decode cL_areWaysSo 58 = .ok (.ifCond .lt 10, 3) := by decide +kernel
theorem dL_areWaysSo_61 : decode cL_areWaysSo 61 = .ok (.aload_n 0, 1) := by decide +kernel
theorem dL_areWaysSo_62 : decode cL_areWaysSo 62 = .ok (.invokevirtual 115, 3) := by decide +kernel
theorem dL_areWaysSo_65 : decode cL_areWaysSo 65 = .ok (.ifCond .eq 55, 3) := by decide +kernel
theorem dL_areWaysSo_68 : decode cL_areWaysSo 68 = .ok (.iload 4, 2) := by decide +kernel
theorem dL_areWaysSo_70 : decode cL_areWaysSo 70 = .ok (.ifCond .lt 9, 3) := by decide +kernel
theorem dL_areWaysSo_73 : decode cL_areWaysSo 73 = .ok (.iload 4, 2) := by decide +kernel
theorem dL_areWaysSo_75 : decode cL_areWaysSo 75 = .ok (.iload_n 1, 1) := by decide +kernel
theorem dL_areWaysSo_76 : decode cL_areWaysSo 76 = .ok (.if_icmp .ne 44, 3) := by decide +kernel
theorem dL_areWaysSo_79 : decode cL_areWaysSo 79 = .ok (.aload_n 0, 1) := by decide +kernel
theorem dL_areWaysSo_80 : decode cL_areWaysSo 80 = .ok (.invokevirtual 94, 3) := by decide +kernel
theorem dL_areWaysSo_83 : decode cL_areWaysSo 83 = .ok (.ifCond .ne 7, 3) := by decide +kernel
theorem dL_areWaysSo_86 : decode cL_areWaysSo 86 = .ok (.iconst 1, 1) := by decide +kernel
theorem dL_areWaysSo_87 : decode cL_areWaysSo 87 = .ok (.goto 4, 3) := by decide +kernel
theorem dL_areWaysSo_90 : decode cL_areWaysSo 90 = .ok (.iconst 0, 1) := by decide +kernel
theorem dL_areWaysSo_91 : decode cL_areWaysSo 91 = .ok (.aload_n 0, 1) := by decide +kernel
theorem dL_areWaysSo_92 : decode cL_areWaysSo 92 = .ok (.invokevirtual 115, 3) := by decide +kernel
theorem dL_areWaysSo_95 : decode cL_areWaysSo 95 = .ok (.ifCond .ne 7, 3) := by decide +kernel
theorem dL_areWaysSo_98 : decode cL_areWaysSo 98 = .ok (.iconst 1, 1) := by decide +kernel
theorem dL_areWaysSo_99 : decode cL_areWaysSo 99 = .ok (.goto 4, 3) := by decide +kernel
theorem dL_areWaysSo_102 : decode cL_areWaysSo 102 = .ok (.iconst 0, 1) := by decide +kernel
theorem dL_areWaysSo_103 : decode cL_areWaysSo 103 = .ok (.if_icmp .ne 17, 3) := by decide +kernel
theorem dL_areWaysSo_106 : decode cL_areWaysSo 106 = .ok (.iload_n 3, 1) := by decide +kernel
theorem dL_areWaysSo_107 : decode cL_areWaysSo 107 = .ok (.ldc 16, 2) := by decide +kernel
theorem dL_areWaysSo_109 : decode cL_areWaysSo 109 = .ok (.if_icmp .eq 7, 3) := by decide +kernel
theorem dL_areWaysSo_112 : decode cL_areWaysSo 112 = .ok (.iload_n 1, 1) := by decide +kernel
theorem dL_areWaysSo_113 : decode cL_areWaysSo 113 = .ok (.ifCond .lt 7, 3) := by decide +kernel
theorem dL_areWaysSo_116 : decode cL_areWaysSo 116 = .ok (.iconst 1, 1) := by decide +kernel
theorem dL_areWaysSo_117 : decode cL_areWaysSo 117 = .ok (.goto 4, 3) := by decide +kernel
theorem dL_areWaysSo_120 : decode cL_areWaysSo 120 = .ok (.iconst 0, 1) := by decide +kernel
theorem dL_areWaysSo_121 : decode cL_areWaysSo 121 = .ok (.istore 5, 2) := by decide +kernel
theorem dL_areWaysSo_123 : decode cL_areWaysSo 123 = .ok (.iload 5, 2) := by decide +kernel
theorem dL_areWaysSo_125 : decode cL_areWaysSo 125 = .ok (.ifCond .eq 225, 3) := by decide +kernel
theorem dL_areWaysSo_128 : decode cL_areWaysSo 128 = .ok (.aload_n 0, 1) := by decide +kernel
theorem dL_areWaysSo_129 : decode cL_areWaysSo 129 = .ok (.invokevirtual 82, 3) := by decide +kernel
theorem dL_areWaysSo_132 : decode cL_areWaysSo 132 = .ok (.sipush 500, 3) := by decide +kernel
theorem dL_areWaysSo_135 : decode cL_areWaysSo 135 = .ok (.if_icmp .ge 215, 3) := by decide +kernel
theorem dL_areWaysSo_138 : decode cL_areWaysSo 138 = .ok (.aload_n 0, 1) := by decide +kernel
theorem dL_areWaysSo_139 : decode cL_areWaysSo 139 = .ok (.invokevirtual 52, 3) := by decide +kernel
theorem dL_areWaysSo_142 : decode cL_areWaysSo 142 = .ok (.istore 6, 2) := by decide +kernel
theorem dL_areWaysSo_144 : decode cL_areWaysSo 144 = .ok (.iconst 0, 1) := by decide +kernel
theorem dL_areWaysSo_145 : decode cL_areWaysSo 145 = .ok (.istore 7, 2) := by decide +kernel
theorem dL_areWaysSo_147 : decode cL_areWaysSo 147 = .ok (.iload 7, 2) := by decide +kernel
theorem dL_areWaysSo_149 : decode cL_areWaysSo 149 = .ok (.iload 6, 2) := by decide +kernel
theorem dL_areWaysSo_151 : decode cL_areWaysSo 151 = .ok (.iload 6, 2) := by decide +kernel
theorem dL_areWaysSo_153 : decode cL_areWaysSo 153 = .ok (.imul, 1) := by decide +kernel
theorem dL_areWaysSo_154 : decode cL_areWaysSo 154 = .ok (.if_icmp .ge 196, 3) := by decide +kernel
theorem dL_areWaysSo_157 : decode cL_areWaysSo 157 = .ok (.aload_n 0, 1) := by decide +kernel
theorem dL_areWaysSo_158 : decode cL_areWaysSo 158 = .ok (.iload 7, 2) := by decide +kernel
theorem dL_areWaysSo_160 : decode cL_areWaysSo 160 = .ok (.iload 6, 2) := by decide +kernel
theorem dL_areWaysSo_162 : decode cL_areWaysSo 162 = .ok (.idiv, 1) := by decide +kernel
theorem dL_areWaysSo_163 : decode cL_areWaysSo 163 = .ok (.iload 7, 2) := by decide +kernel
theorem dL_areWaysSo_165 : decode cL_areWaysSo 165 = .ok (.iload 6, 2) := by decide +kernel
theorem dL_areWaysSo_167 : decode cL_areWaysSo 167 = .ok (.irem, 1) := by decide +kernel
theorem dL_areWaysSo_168 : decode cL_areWaysSo 168 = .ok (.invokevirtual 104, 3) := by decide +kernel
theorem dL_areWaysSo_171 : decode cL_areWaysSo 171 = .ok (.ifCond .eq 173, 3) := by decide +kernel
theorem dL_areWaysSo_174 : decode cL_areWaysSo 174 = .ok (.aload_n 0, 1) := by decide +kernel
theorem dL_areWaysSo_175 : decode cL_areWaysSo 175 = .ok (.iload 7, 2) := by decide +kernel
theorem dL_areWaysSo_177 : decode cL_areWaysSo 177 = .ok (.iload 6, 2) := by decide +kernel
theorem dL_areWaysSo_179 : decode cL_areWaysSo 179 = .ok (.idiv, 1) := by decide +kernel
theorem dL_areWaysSo_180 : decode cL_areWaysSo 180 = .ok (.iload 7, 2) := by decide +kernel
theorem dL_areWaysSo_182 : decode cL_areWaysSo 182 = .ok (.iload 6, 2) := by decide +kernel
theorem dL_areWaysSo_184 : decode cL_areWaysSo 184 = .ok (.irem, 1) := by decide +kernel
theorem dL_areWaysSo_185 : decode cL_areWaysSo 185 = .ok (.invokevirtual 34, 3) := by decide +kernel
theorem dL_areWaysSo_188 : decode cL_areWaysSo 188 = .ok (.istore 8, 2) := by decide +kernel
theorem dL_areWaysSo_190 : decode cL_areWaysSo 190 = .ok (.aload_n 0, 1) := by decide +kernel
theorem dL_areWaysSo_191 : decode cL_areWaysSo 191 = .ok (.invokevirtual 91, 3) := by decide +kernel
theorem dL_areWaysSo_194 : decode cL_areWaysSo 194 = .ok (.istore 9, 2) := by decide +kernel
theorem dL_areWaysSo_196 : decode cL_areWaysSo 196 = .ok (.aload_n 0, 1) := by decide +kernel
theorem dL_areWaysSo_197 : decode cL_areWaysSo 197 = .ok (.invokestatic 111, 3) := by decide +kernel
theorem dL_areWaysSo_200 : decode cL_areWaysSo 200 = .ok (.istore 10, 2) := by decide +kernel
theorem dL_areWaysSo_202 : decode cL_areWaysSo 202 = .ok (.bipush 10, 2) := by decide +kernel
theorem dL_areWaysSo_204 : decode cL_areWaysSo 204 = .ok (.iload 7, 2) := by decide +kernel
theorem dL_areWaysSo_206 : decode cL_areWaysSo 206 = .ok (.iload 6, 2) := by decide +kernel
theorem dL_areWaysSo_208 : decode cL_areWaysSo 208 = .ok (.idiv, 1) := by decide +kernel
theorem dL_areWaysSo_209 : decode cL_areWaysSo 209 = .ok (.imul, 1) := by decide +kernel
theorem dL_areWaysSo_210 : decode cL_areWaysSo 210 = .ok (.iload 7, 2) := by decide +kernel
theorem dL_areWaysSo_212 : decode cL_areWaysSo 212 = .ok (.iload 6, 2) := by decide +kernel
theorem dL_areWaysSo_214 : decode cL_areWaysSo 214 = .ok (.irem, 1) := by decide +kernel
theorem dL_areWaysSo_215 : decode cL_areWaysSo 215 = .ok (.iadd, 1) := by decide +kernel
theorem dL_areWaysSo_216 : decode cL_areWaysSo 216 = .ok (.istore 11, 2) := by decide +kernel
theorem dL_areWaysSo_218 : decode cL_areWaysSo 218 = .ok (.iload 5, 2) := by decide +kernel
theorem dL_areWaysSo_220 : decode cL_areWaysSo 220 = .ok (.ifCond .eq 89, 3) := by decide +kernel
theorem dL_areWaysSo_223 : decode cL_areWaysSo 223 = .ok (.iload_n 1, 1) := by decide +kernel
theorem dL_areWaysSo_224 : decode cL_areWaysSo 224 = .ok (.ifCond .lt 23, 3) := by decide +kernel
theorem dL_areWaysSo_227 : decode cL_areWaysSo 227 = .ok (.aload_n 0, 1) := by decide +kernel
theorem dL_areWaysSo_228 : decode cL_areWaysSo 228 = .ok (.invokevirtual 115, 3) := by decide +kernel
theorem dL_areWaysSo_231 : decode cL_areWaysSo 231 = .ok (.ifCond .eq 16, 3) := by decide +kernel
theorem dL_areWaysSo_234 : decode cL_areWaysSo 234 = .ok (.iload 9, 2) := by decide +kernel
theorem dL_areWaysSo_236 : decode cL_areWaysSo 236 = .ok (.ifCond .lt 11, 3) := by decide +kernel
theorem dL_areWaysSo_239 : decode cL_areWaysSo 239 = .ok (.iload 9, 2) := by decide +kernel
theorem dL_areWaysSo_241 : decode cL_areWaysSo 241 = .ok (.iload_n 1, 1) := by decide +kernel
theorem dL_areWaysSo_242 : decode cL_areWaysSo 242 = .ok (.iconst 1, 1) := by decide +kernel
theorem dL_areWaysSo_243 : decode cL_areWaysSo 243 = .ok (.isub, 1) := by decide +kernel
theorem dL_areWaysSo_244 : decode cL_areWaysSo 244 = .ok (.if_icmp .lt 65, 3) := by decide +kernel
theorem dL_areWaysSo_247 : decode cL_areWaysSo 247 = .ok (.iload 11, 2) := by decide +kernel
theorem dL_areWaysSo_249 : decode cL_areWaysSo 249 = .ok (.iload_n 2, 1) := by decide +kernel
theorem dL_areWaysSo_250 : decode cL_areWaysSo 250 = .ok (.if_icmp .ne 11, 3) := by decide +kernel
theorem dL_areWaysSo_253 : decode cL_areWaysSo 253 = .ok (.iload 9, 2) := by decide +kernel
theorem dL_areWaysSo_255 : decode cL_areWaysSo 255 = .ok (.iload_n 1, 1) := by decide +kernel
theorem dL_areWaysSo_256 : decode cL_areWaysSo 256 = .ok (.iconst 1, 1) := by decide +kernel
theorem dL_areWaysSo_257 : decode cL_areWaysSo 257 = .ok (.isub, 1) := by decide +kernel
theorem dL_areWaysSo_258 : decode cL_areWaysSo 258 = .ok (.if_icmp .ne 51, 3) := by decide +kernel
theorem dL_areWaysSo_261 : decode cL_areWaysSo 261 = .ok (.iload 11, 2) := by decide +kernel
theorem dL_areWaysSo_263 : decode cL_areWaysSo 263 = .ok (.iload_n 2, 1) := by decide +kernel
theorem dL_areWaysSo_264 : decode cL_areWaysSo 264 = .ok (.if_icmp .ge 15, 3) := by decide +kernel
theorem dL_areWaysSo_267 : decode cL_areWaysSo 267 = .ok (.iload_n 2, 1) := by decide +kernel
theorem dL_areWaysSo_268 : decode cL_areWaysSo 268 = .ok (.ifCond .lt 11, 3) := by decide +kernel
theorem dL_areWaysSo_271 : decode cL_areWaysSo 271 = .ok (.iload 9, 2) := by decide +kernel
theorem dL_areWaysSo_273 : decode cL_areWaysSo 273 = .ok (.iload_n 1, 1) := by decide +kernel
theorem dL_areWaysSo_274 : decode cL_areWaysSo 274 = .ok (.iconst 1, 1) := by decide +kernel
theorem dL_areWaysSo_275 : decode cL_areWaysSo 275 = .ok (.isub, 1) := by decide +kernel
theorem dL_areWaysSo_276 : decode cL_areWaysSo 276 = .ok (.if_icmp .eq 33, 3) := by decide +kernel
theorem dL_areWaysSo_279 : decode cL_areWaysSo 279 = .ok (.iload_n 3, 1) := by decide +kernel
theorem dL_areWaysSo_280 : decode cL_areWaysSo 280 = .ok (.ldc 16, 2) := by decide +kernel
theorem dL_areWaysSo_282 : decode cL_areWaysSo 282 = .ok (.if_icmp .eq 23, 3) := by decide +kernel
theorem dL_areWaysSo_285 : decode cL_areWaysSo 285 = .ok (.iload 10, 2) := by decide +kernel
theorem dL_areWaysSo_287 : decode cL_areWaysSo 287 = .ok (.ldc 16, 2) := by decide +kernel
theorem dL_areWaysSo_289 : decode cL_areWaysSo 289 = .ok (.if_icmp .eq 16, 3) := by decide +kernel
theorem dL_areWaysSo_292 : decode cL_areWaysSo 292 = .ok (.iload 10, 2) := by decide +kernel
theorem dL_areWaysSo_294 : decode cL_areWaysSo 294 = .ok (.iload_n 3, 1) := by decide +kernel
theorem dL_areWaysSo_295 : decode cL_areWaysSo 295 = .ok (.iconst 1, 1) := by decide +kernel
theorem dL_areWaysSo_296 : decode cL_areWaysSo 296 = .ok (.iadd, 1) := by decide +kernel
theorem dL_areWaysSo_297 : decode cL_areWaysSo 297 = .ok (.iload 9, 2) := by decide +kernel
theorem dL_areWaysSo_299 : decode cL_areWaysSo 299 = .ok (.iadd, 1) := by decide +kernel
theorem dL_areWaysSo_300 : decode cL_areWaysSo 300 = .ok (.iload_n 1, 1) := by decide +kernel
theorem dL_areWaysSo_301 : decode cL_areWaysSo 301 = .ok (.isub, 1) := by decide +kernel
theorem dL_areWaysSo_302 : decode cL_areWaysSo 302 = .ok (.if_icmp .ne 7, 3) := by decide +kernel
theorem dL_areWaysSo_305 : decode cL_areWaysSo 305 = .ok (.iconst 1, 1) := by decide +kernel
theorem dL_areWaysSo_306 : decode cL_areWaysSo 306 = .ok (.goto 4, 3) := by decide +kernel
theorem dL_areWaysSo_309 : decode cL_areWaysSo 309 = .ok (.iconst 0, 1) := by decide +kernel
theorem dL_areWaysSo_310 : decode cL_areWaysSo 310 = .ok (.istore 5, 2) := by decide +kernel
theorem dL_areWaysSo_312 : decode cL_areWaysSo 312 = .ok (.aload_n 0, 1) := by decide +kernel
theorem dL_areWaysSo_313 : decode cL_areWaysSo 313 = .ok (.invokevirtual 37, 3) := by decide +kernel
theorem dL_areWaysSo_316 : decode cL_areWaysSo 316 = .ok (.istore 12, 2) := by decide +kernel
theorem dL_areWaysSo_318 : decode cL_areWaysSo 318 = .ok (.iload 5, 2) := by decide +kernel
theorem dL_areWaysSo_320 : decode cL_areWaysSo 320 = .ok (.ifCond .eq 21, 3) := by decide +kernel
theorem dL_areWaysSo_323 : decode cL_areWaysSo 323 = .ok (.iload 8, 2) := by decide +kernel
theorem dL_areWaysSo_325 : decode cL_areWaysSo 325 = .ok (.ifCond .lt 16, 3) := by decide +kernel
theorem dL_areWaysSo_328 : decode cL_areWaysSo 328 = .ok (.iload 12, 2) := by decide +kernel
theorem dL_areWaysSo_330 : decode cL_areWaysSo 330 = .ok (.aload_n 0, 1) := by decide +kernel
theorem dL_areWaysSo_331 : decode cL_areWaysSo 331 = .ok (.invokevirtual 82, 3) := by decide +kernel
theorem dL_areWaysSo_334 : decode cL_areWaysSo 334 = .ok (.if_icmp .ne 7, 3) := by decide +kernel
theorem dL_areWaysSo_337 : decode cL_areWaysSo 337 = .ok (.iconst 1, 1) := by decide +kernel
theorem dL_areWaysSo_338 : decode cL_areWaysSo 338 = .ok (.goto 4, 3) := by decide +kernel
theorem dL_areWaysSo_341 : decode cL_areWaysSo 341 = .ok (.iconst 0, 1) := by decide +kernel
theorem dL_areWaysSo_342 : decode cL_areWaysSo 342 = .ok (.istore 5, 2) := by decide +kernel
theorem dL_areWaysSo_344 : decode cL_areWaysSo 344 = .ok (.iinc 7 1, 3) := by decide +kernel
theorem dL_areWaysSo_347 : decode cL_areWaysSo 347 = .ok (.goto (-200), 3) := by decide +kernel
theorem dL_areWaysSo_350 : decode cL_areWaysSo 350 = .ok (.iload 5, 2) := by decide +kernel
theorem dL_areWaysSo_352 : decode cL_areWaysSo 352 = .ok (.ifCond .eq 15, 3) := by decide +kernel
theorem dL_areWaysSo_355 : decode cL_areWaysSo 355 = .ok (.aload_n 0, 1) := by decide +kernel
theorem dL_areWaysSo_356 : decode cL_areWaysSo 356 = .ok (.invokevirtual 91, 3) := by decide +kernel
theorem dL_areWaysSo_359 : decode cL_areWaysSo 359 = .ok (.iload_n 1, 1) := by decide +kernel
theorem dL_areWaysSo_360 : decode cL_areWaysSo 360 = .ok (.if_icmp .ne 7, 3) := by decide +kernel
theorem dL_areWaysSo_363 : decode cL_areWaysSo 363 = .ok (.iconst 1, 1) := by decide +kernel
theorem dL_areWaysSo_364 : decode cL_areWaysSo 364 = .ok (.goto 4, 3) := by decide +kernel
theorem dL_areWaysSo_367 : decode cL_areWaysSo 367 = .ok (.iconst 0, 1) := by decide +kernel
theorem dL_areWaysSo_368 : decode cL_areWaysSo 368 = .ok (.ireturn, 1) := by decide +kernel
theorem dL_law_0 : decode cL_law 0 = .ok (.new 9, 3) := by decide +kernel
theorem dL_law_3 : decode cL_law 3 = .ok (.dup, 1) := by decide +kernel
theorem dL_law_4 : decode cL_law 4 = .ok (.invokespecial 119, 3) := by decide +kernel
theorem dL_law_7 : decode cL_law 7 = .ok (.astore_n 1, 1) := by decide +kernel
theorem dL_law_8 : decode cL_law 8 = .ok (.new 9, 3) := by decide +kernel
theorem dL_law_11 : decode cL_law 11 = .ok (.dup, 1) := by decide +kernel
theorem dL_law_12 : decode cL_law 12 = .ok (.invokespecial 119, 3) := by decide +kernel
theorem dL_law_15 : decode cL_law 15 = .ok (.astore_n 2, 1) := by decide +kernel
theorem dL_law_16 : decode cL_law 16 = .ok (.iconst 0, 1) := by decide +kernel
theorem dL_law_17 : decode cL_law 17 = .ok (.istore_n 3, 1) := by decide +kernel
theorem dL_law_18 : decode cL_law 18 = .ok (.iload_n 3, 1) := by decide +kernel
theorem dL_law_19 : decode cL_law 19 = .ok (.bipush 50, 2) := by decide +kernel
theorem dL_law_21 : decode cL_law 21 = .ok (.if_icmp .ge 73, 3) := by decide +kernel
theorem dL_law_24 : decode cL_law 24 = .ok (.aload_n 0, 1) := by decide +kernel
theorem dL_law_25 : decode cL_law 25 = .ok (.iload_n 3, 1) := by decide +kernel
theorem dL_law_26 : decode cL_law 26 = .ok (.invokestatic 120, 3) := by decide +kernel
theorem dL_law_29 : decode cL_law 29 = .ok (.istore 4, 2) := by decide +kernel
theorem dL_law_31 : decode cL_law 31 = .ok (.aload_n 1, 1) := by decide +kernel
theorem dL_law_32 : decode cL_law 32 = .ok (.iload 4, 2) := by decide +kernel
theorem dL_law_34 : decode cL_law 34 = .ok (.invokestatic 124, 3) := by decide +kernel
theorem dL_law_37 : decode cL_law 37 = .ok (.istore 5, 2) := by decide +kernel
theorem dL_law_39 : decode cL_law 39 = .ok (.iload 5, 2) := by decide +kernel
theorem dL_law_41 : decode cL_law 41 = .ok (.ldc 16, 2) := by decide +kernel
theorem dL_law_43 : decode cL_law 43 = .ok (.if_icmp .eq 14, 3) := by decide +kernel
theorem dL_law_46 : decode cL_law 46 = .ok (.aload_n 2, 1) := by decide +kernel
theorem dL_law_47 : decode cL_law 47 = .ok (.iload 4, 2) := by decide +kernel
theorem dL_law_49 : decode cL_law 49 = .ok (.invokestatic 124, 3) := by decide +kernel
theorem dL_law_52 : decode cL_law 52 = .ok (.iload 5, 2) := by decide +kernel
theorem dL_law_54 : decode cL_law 54 = .ok (.if_icmp .ne 32, 3) := by decide +kernel
theorem dL_law_57 : decode cL_law 57 = .ok (.aload_n 1, 1) := by decide +kernel
theorem dL_law_58 : decode cL_law 58 = .ok (.aload_n 2, 1) := by decide +kernel
theorem dL_law_59 : decode cL_law 59 = .ok (.invokestatic 128, 3) := by decide +kernel
theorem dL_law_62 : decode cL_law 62 = .ok (.ifCond .eq 24, 3) := by decide +kernel
theorem dL_law_65 : decode cL_law 65 = .ok (.aload_n 1, 1) := by decide +kernel
theorem dL_law_66 : decode cL_law 66 = .ok (.invokestatic 132, 3) := by decide +kernel
theorem dL_law_69 : decode cL_law 69 = .ok (.ifCond .eq 17, 3) := by decide +kernel
theorem dL_law_72 : decode cL_law 72 = .ok (.iload_n 3, 1) := by decide +kernel
theorem dL_law_73 : decode cL_law 73 = .ok (.iconst 5, 1) := by decide +kernel
theorem dL_law_74 : decode cL_law 74 = .ok (.irem, 1) := by decide +kernel
theorem dL_law_75 : decode cL_law 75 = .ok (.iconst 4, 1) := by decide +kernel
theorem dL_law_76 : decode cL_law 76 = .ok (.if_icmp .ne 12, 3) := by decide +kernel
theorem dL_law_79 : decode cL_law 79 = .ok (.aload_n 1, 1) := by decide +kernel
theorem dL_law_80 : decode cL_law 80 = .ok (.invokestatic 136, 3) := by decide +kernel
theorem dL_law_83 : decode cL_law 83 = .ok (.ifCond .ne 5, 3) := by decide +kernel
theorem dL_law_86 : decode cL_law 86 = .ok (.iconst 0, 1) := by decide +kernel
theorem dL_law_87 : decode cL_law 87 = .ok (.ireturn, 1) := by decide +kernel
theorem dL_law_88 : decode cL_law 88 = .ok (.iinc 3 1, 3) := by decide +kernel
theorem dL_law_91 : decode cL_law 91 = .ok (.goto (-73), 3) := by decide +kernel
theorem dL_law_94 : decode cL_law 94 = .ok (.iconst 1, 1) := by decide +kernel
theorem dL_law_95 : decode cL_law 95 = .ok (.ireturn, 1) := by decide +kernel
end
section
/-! A walk over worlds, with all that stays in one tuple: jJ K k n pc lo st ws says that the machine at pc, with locals lo, stack st and world ws, with k cells and n slots made so far, comes to an end as wanted. -/
abbrev jk_T : Type := (Program × Launch × Env × Room × State) × (MethodId × Array Value × List Frame × Method × Code) × ((Nat → Prop) × (State → Prop)) × va_G × Nat
def jl_has (ls : Array Slot) (nL : Nat) (lo : List (Option Value)) : Prop := ls.size = nL ∧ lv_wf ls ∧ ∀ (i : Nat) (v : Value), lo[i]? = some (some v) → ls[i]? = some (.val v) ∧ v.category = 1
def jJ (K : jk_T) (k n : Nat) (pc : Nat) (lo : List (Option Value)) (st : List Value) (ws : va_W) : Prop :=
  ∀ (H : Heap) (locs : List Loc) (ls : Array Slot), va_P K.2.2.2.1 vwCl ws H → va_D K.2.2.1.1 ws → va_S K.2.2.1.1 K.1.2.2.2.2.heap H locs → jl_has ls K.2.2.2.2 lo →
    W K.1.1 K.1.2.1 K.1.2.2.1 K.1.2.2.2.1 K.1.2.2.2.2 K.2.1.1 K.2.1.2.1 K.2.1.2.2.1 K.2.1.2.2.2.1 K.2.1.2.2.2.2 H locs k n K.2.2.1.2 (F0 K.2.1.1 pc ls st)
abbrev jy_T : Type := ClassId × ClassId × ClassId
def jtys (Y : jy_T) : List (ClassId × FieldType) := [(Y.1, .int), (Y.2.1, .boolean)]
def jC (cc : ByteArray) (own : String) (Y : jy_T) (rm : Room) (nL : Nat) (K : jk_T) : Prop :=
  K.1.1.tables.exec = Jvm.exec ∧ K.2.1.2.2.2.2.code = cc ∧ K.1.2.2.2.2.vm.findClass own = some K.2.1.1.cls ∧ (∀ w ∈ wG, w.before K.2.1.2.1 K.1.2.2.2.2 = true) ∧ va_K K.2.2.2.1 vwCl (jtys Y) K.1.2.2.2.2 ∧
  (∀ q, K.1.2.2.2.2.heap.size ≤ q → K.2.2.1.1 q) ∧ K.2.1.2.2.2.2.maxLocals = K.2.2.2.2 ∧ K.2.1.2.2.2.1.locks = false ∧ K.1.2.2.2.1 = rm ∧ K.2.2.2.2 = nL
-- the ends of a method: what it answers, with which world
abbrev jp_T : Type := Option Value → va_W → Prop
def jQ (D : va_G) (Y : jy_T) (A : Nat → Prop) (Pst : jp_T) : Array Value → State → Outcome → State → Prop := fun _ st o t =>
  (∃ (r : Option Value) (w : va_W), o = .returned r ∧ Pst r w ∧ va_P D vwCl w t.heap ∧ va_K D vwCl (jtys Y) t ∧ va_D A w) ∧ va_F A st t
def jR (Y : jy_T) (ret : Option FieldType) (mc ms : Nat) (Pst : jp_T) (K : jk_T) : Prop :=
  K.2.1.2.2.2.1.sig.returnType = ret ∧ ∀ t, MQ K.2.1.2.2.1 (jQ K.2.2.2.1 Y K.2.2.1.1 Pst) K.2.1.2.1 K.1.2.2.2.2 mc ms K.2.2.1.1 t → K.2.2.1.2 t
def jPc (D : va_G) (Y : jy_T) (av : List Value) (w0 : va_W) (sz : Nat) : Array Value → State → Prop :=
  va_Pc av (fun U => U.heap.size = sz ∧ va_P D vwCl w0 U.heap ∧ va_K D vwCl (jtys Y) U ∧ va_D (fun _ => True) w0)
/-- a method's contract: from the world w0, with the arguments av, it answers r with the world w so that Pst r w -/
def MJ (l : Launch) (y : MethodName) (cc : ByteArray) (maxL : Nat) (ret : Option FieldType) (rm : Room) (D : va_G) (Y : jy_T) (av : List Value) (w0 : va_W) (Pst : jp_T) : Prop :=
  ∀ sz, Met l y (Cond.code y cc maxL ret :: wG) rm (jPc D Y av w0 sz) (jQ D Y (va_A w0 sz) Pst) rm.cells rm.slots (va_A w0 sz)
def jargs : List Value → Nat → List (Option Value) := fun vs n => vs.map some ++ List.replicate (n - vs.length) none
theorem jl_entry (vs : List Value) {n : Nat} (h : vs.length ≤ n) (hc : ∀ v ∈ vs, v.category = 1) : jl_has ((lg_sl vs ++ List.replicate (n - (lg_sl vs).length) Slot.unset).toArray) n (jargs vs n) := by
  have hlen : ∀ us : List Value, (∀ v ∈ us, v.category = 1) → lg_sl us = us.map Slot.val := by
    intro us hu
    induction us with
    | nil => rfl
    | cons a us ih =>
      have h1 : a.category = 1 := hu a List.mem_cons_self
      show (if a.category = 2 then [Slot.val a, .second] else [Slot.val a]) ++ lg_sl us = _
      rw [if_neg (by omega), ih (fun v hv => hu v (List.mem_cons_of_mem _ hv))]
      rfl
  have e := hlen vs hc
  obtain ⟨h1, h2, -⟩ := lv_entry vs (n := n) (by rw [e, List.length_map]; exact h)
  refine ⟨h1, h2, fun i v hv => ?_⟩
  rw [e]
  unfold jargs at hv
  by_cases hi : i < vs.length
  · rw [List.getElem?_append_left (by simpa using hi), List.getElem?_map] at hv
    have hg : vs[i]? = some vs[i] := List.getElem?_eq_getElem hi
    rw [hg] at hv
    simp only [Option.map_some, Option.some.injEq] at hv
    subst hv
    refine ⟨?_, hc _ (List.getElem_mem hi)⟩
    rw [List.getElem?_toArray, List.getElem?_append_left (by simpa using hi), List.getElem?_map, hg]
    rfl
  · rw [List.getElem?_append_right (by simp; omega)] at hv
    have := List.eq_of_mem_replicate (List.mem_of_getElem? hv)
    cases this
def jl_list (lo : List (Option Value)) (nL : Nat) : List (Nat × Value) := (List.range nL).filterMap (fun j => (lo[j]?.join).map (fun w => (j, w)))
theorem jl_lv {ls : Array Slot} {nL : Nat} {lo : List (Option Value)} (h : jl_has ls nL lo) : lv_has ls nL (jl_list lo nL) := by
  obtain ⟨h1, h2, h3⟩ := h
  refine ⟨h1, h2, fun q hq => ?_⟩
  obtain ⟨j, -, hj⟩ := List.mem_filterMap.mp hq
  cases hjj : lo[j]? with
  | none => rw [hjj] at hj; cases hj
  | some ow =>
    cases ow with
    | none => rw [hjj] at hj; cases hj
    | some w =>
      rw [hjj] at hj
      cases hj
      exact (h3 j w hjj).1
theorem jl_back {ls ls' : Array Slot} {nL : Nat} {lo : List (Option Value)} {i : Nat} {v : Value} (h : jl_has ls nL lo) (hc : v.category = 1) (g : lv_has ls' nL ((i, v) :: (jl_list lo nL).filter (fun q => !(q.1 == i) && !(q.1 + 1 == i && q.2.category == 2)))) : jl_has ls' nL (lo.set i (some v)) := by
  obtain ⟨h1, h2, h3⟩ := h
  obtain ⟨g1, g2, g3⟩ := g
  refine ⟨g1, g2, fun j w hj => ?_⟩
  by_cases hji : j = i
  · subst hji
    by_cases hlt : j < lo.length
    · rw [List.getElem?_set_self hlt] at hj
      cases hj
      exact ⟨g3 (j, v) List.mem_cons_self, hc⟩
    · rw [List.getElem?_eq_none (by simpa using hlt)] at hj
      cases hj
  · rw [List.getElem?_set_ne (fun q => hji q.symm)] at hj
    have hw := h3 j w hj
    refine ⟨g3 (j, w) (List.mem_cons_of_mem _ (List.mem_filter.mpr ⟨List.mem_filterMap.mpr ⟨j, List.mem_range.mpr ?_, by rw [hj]; rfl⟩, ?_⟩)), hw.2⟩
    · rw [← h1]; exact lv_lt hw.1
    · simp [hji, hw.2]
theorem j_top {K : jk_T} {k n pc : Nat} {lo : List (Option Value)} {st : List Value} {ws : va_W} (x y : Int32) (h : x = y) (kk : jJ K k n pc lo (.int y :: st) ws) : jJ K k n pc lo (.int x :: st) ws := h ▸ kk
theorem j_eq {K : jk_T} {k n pc : Nat} {lo lo' : List (Option Value)} {st st' : List Value} {ws ws2 : va_W} (h1 : lo = lo') (h2 : st = st') (h3 : ws = ws2) (kk : jJ K k n pc lo' st' ws2) : jJ K k n pc lo st ws := by
  subst h1; subst h2; subst h3; exact kk
theorem j_widen {K : jk_T} {k n k' n' pc : Nat} {lo : List (Option Value)} {st : List Value} {ws : va_W} (h1 : k ≤ k') (h2 : n ≤ n') (kk : jJ K k' n' pc lo st ws) : jJ K k n pc lo st ws :=
  fun H locs ls hP hD hS hl => W.widen h1 h2 (kk H locs ls hP hD hS hl)
section JR
variable {K : jk_T} {cc : ByteArray} {own : String} {Y : jy_T} {rm : Room} {nL k n pc : Nat} {lo : List (Option Value)} {st : List Value} {ws : va_W}
theorem j_iload_n (C : jC cc own Y rm nL K) {i : Fin 4} {x : Int32} (hd : decode cc pc = .ok (.iload_n i, 1)) (h : lo[(i : Nat)]? = some (some (.int x))) (kk : jJ K k n (pc + 1) lo (.int x :: st) ws) : jJ K k n pc lo st ws :=
  fun H locs ls hP hD hS hl => lv_iload_n C.1 C.2.1 hd rfl (hl.2.2 _ _ h).1 (kk H locs ls hP hD hS hl)
theorem j_iload (C : jC cc own Y rm nL K) {i : Nat} {x : Int32} (hd : decode cc pc = .ok (.iload i, 2)) (h : lo[i]? = some (some (.int x))) (kk : jJ K k n (pc + 2) lo (.int x :: st) ws) : jJ K k n pc lo st ws :=
  fun H locs ls hP hD hS hl => lv_iload C.1 C.2.1 hd (hl.2.2 _ _ h).1 (kk H locs ls hP hD hS hl)
theorem j_aload_n (C : jC cc own Y rm nL K) {i : Fin 4} {x : Nat} (hd : decode cc pc = .ok (.aload_n i, 1)) (h : lo[(i : Nat)]? = some (some (.ref x))) (kk : jJ K k n (pc + 1) lo (.ref x :: st) ws) : jJ K k n pc lo st ws :=
  fun H locs ls hP hD hS hl => lv_aload_n C.1 C.2.1 hd rfl (hl.2.2 _ _ h).1 (kk H locs ls hP hD hS hl)
theorem j_aload (C : jC cc own Y rm nL K) {i : Nat} {x : Nat} (hd : decode cc pc = .ok (.aload i, 2)) (h : lo[i]? = some (some (.ref x))) (kk : jJ K k n (pc + 2) lo (.ref x :: st) ws) : jJ K k n pc lo st ws :=
  fun H locs ls hP hD hS hl => lv_aload C.1 C.2.1 hd (hl.2.2 _ _ h).1 (kk H locs ls hP hD hS hl)
theorem j_istore_n (C : jC cc own Y rm nL K) {i : Fin 4} {x : Int32} (hd : decode cc pc = .ok (.istore_n i, 1)) (hi : (i : Nat) < nL) (kk : jJ K k n (pc + 1) (lo.set (i : Nat) (some (.int x))) st ws) : jJ K k n pc lo (.int x :: st) ws :=
  fun H locs ls hP hD hS hl => lv_istore_n C.1 C.2.1 hd rfl (jl_lv hl) (by rw [C.2.2.2.2.2.2.2.2.2]; exact hi) rfl (fun ls' h' => kk H locs ls' hP hD hS (jl_back hl rfl h'))
theorem j_istore (C : jC cc own Y rm nL K) {i : Nat} {x : Int32} (hd : decode cc pc = .ok (.istore i, 2)) (hi : i < nL) (kk : jJ K k n (pc + 2) (lo.set i (some (.int x))) st ws) : jJ K k n pc lo (.int x :: st) ws :=
  fun H locs ls hP hD hS hl => lv_istore C.1 C.2.1 hd (jl_lv hl) (by rw [C.2.2.2.2.2.2.2.2.2]; exact hi) rfl (fun ls' h' => kk H locs ls' hP hD hS (jl_back hl rfl h'))
theorem j_astore_n (C : jC cc own Y rm nL K) {i : Fin 4} {x : Nat} (hd : decode cc pc = .ok (.astore_n i, 1)) (hi : (i : Nat) < nL) (kk : jJ K k n (pc + 1) (lo.set (i : Nat) (some (.ref x))) st ws) : jJ K k n pc lo (.ref x :: st) ws :=
  fun H locs ls hP hD hS hl => lv_astore_n C.1 C.2.1 hd rfl (jl_lv hl) (by rw [C.2.2.2.2.2.2.2.2.2]; exact hi) rfl (fun ls' h' => kk H locs ls' hP hD hS (jl_back hl rfl h'))
theorem j_astore (C : jC cc own Y rm nL K) {i : Nat} {x : Nat} (hd : decode cc pc = .ok (.astore i, 2)) (hi : i < nL) (kk : jJ K k n (pc + 2) (lo.set i (some (.ref x))) st ws) : jJ K k n pc lo (.ref x :: st) ws :=
  fun H locs ls hP hD hS hl => lv_astore C.1 C.2.1 hd (jl_lv hl) (by rw [C.2.2.2.2.2.2.2.2.2]; exact hi) rfl (fun ls' h' => kk H locs ls' hP hD hS (jl_back hl rfl h'))
theorem jl_mem {ls : Array Slot} {nL : Nat} {lo : List (Option Value)} (h : jl_has ls nL lo) {i : Nat} {v : Value} (hv : lo[i]? = some (some v)) : ∃ j : Nat, (jl_list lo nL)[j]? = some (i, v) :=
  List.getElem?_of_mem (List.mem_filterMap.mpr ⟨i, List.mem_range.mpr (by rw [← h.1]; exact lv_lt (h.2.2 i v hv).1), by rw [hv]; rfl⟩)
theorem j_iinc (C : jC cc own Y rm nL K) {i : Nat} {d : Int} {x v : Int32} (hd : decode cc pc = .ok (.iinc i d, 3)) (h : lo[i]? = some (some (.int x))) (hv : x + Int32.ofInt d = v) (kk : jJ K k n (pc + 3) (lo.set i (some (.int v))) st ws) : jJ K k n pc lo st ws := by
  intro H locs ls hP hD hS hl
  obtain ⟨j, hj⟩ := jl_mem hl h
  exact lv_iinc C.1 C.2.1 hd (jl_lv hl) hj hv (by rw [← hl.1]; exact lv_lt (hl.2.2 i _ h).1) rfl (fun ls' h' => kk H locs ls' hP hD hS (jl_back hl rfl h'))
theorem j_iconst (C : jC cc own Y rm nL K) {d : Int} (v : Int32) (hd : decode cc pc = .ok (.iconst d, 1)) (hv : Int32.ofInt d = v) (kk : jJ K k n (pc + 1) lo (.int v :: st) ws) : jJ K k n pc lo st ws :=
  fun H locs ls hP hD hS hl => lv_iconst C.1 C.2.1 hd hv (kk H locs ls hP hD hS hl)
theorem j_bipush (C : jC cc own Y rm nL K) {d : Int} (v : Int32) (hd : decode cc pc = .ok (.bipush d, 2)) (hv : (Int8.ofInt d).toInt32 = v) (kk : jJ K k n (pc + 2) lo (.int v :: st) ws) : jJ K k n pc lo st ws :=
  fun H locs ls hP hD hS hl => lv_bipush C.1 C.2.1 hd hv (kk H locs ls hP hD hS hl)
theorem j_sipush (C : jC cc own Y rm nL K) {d : Int} (v : Int32) (hd : decode cc pc = .ok (.sipush d, 3)) (hv : (Int16.ofInt d).toInt32 = v) (kk : jJ K k n (pc + 3) lo (.int v :: st) ws) : jJ K k n pc lo st ws :=
  fun H locs ls hP hD hS hl => lv_sipush C.1 C.2.1 hd hv (kk H locs ls hP hD hS hl)
theorem j_ldc (C : jC cc own Y rm nL K) {ix : Nat} {v : Int32} (hd : decode cc pc = .ok (.ldc ix, 2)) (hw : Cond.constant own ix v ∈ wG) (kk : jJ K k n (pc + 2) lo (.int v :: st) ws) : jJ K k n pc lo st ws :=
  fun H locs ls hP hD hS hl => lv_ldc C.1 C.2.1 C.2.2.1 (C.2.2.2.1 _ hw) hd (kk H locs ls hP hD hS hl)
theorem j_iadd (C : jC cc own Y rm nL K) {x y : Int32} (hd : decode cc pc = .ok (.iadd, 1)) (kk : jJ K k n (pc + 1) lo (.int (x + y) :: st) ws) : jJ K k n pc lo (.int y :: .int x :: st) ws :=
  fun H locs ls hP hD hS hl => lv_iadd C.1 C.2.1 hd (kk H locs ls hP hD hS hl)
theorem j_isub (C : jC cc own Y rm nL K) {x y : Int32} (hd : decode cc pc = .ok (.isub, 1)) (kk : jJ K k n (pc + 1) lo (.int (x - y) :: st) ws) : jJ K k n pc lo (.int y :: .int x :: st) ws :=
  fun H locs ls hP hD hS hl => lv_isub C.1 C.2.1 hd (kk H locs ls hP hD hS hl)
theorem j_imul (C : jC cc own Y rm nL K) {x y : Int32} (hd : decode cc pc = .ok (.imul, 1)) (kk : jJ K k n (pc + 1) lo (.int (x * y) :: st) ws) : jJ K k n pc lo (.int y :: .int x :: st) ws :=
  fun H locs ls hP hD hS hl => lv_imul C.1 C.2.1 hd (kk H locs ls hP hD hS hl)
theorem j_iand (C : jC cc own Y rm nL K) {x y : Int32} (hd : decode cc pc = .ok (.iand, 1)) (kk : jJ K k n (pc + 1) lo (.int (x &&& y) :: st) ws) : jJ K k n pc lo (.int y :: .int x :: st) ws :=
  fun H locs ls hP hD hS hl => lv_iand C.1 C.2.1 hd (kk H locs ls hP hD hS hl)
theorem j_ishl (C : jC cc own Y rm nL K) {x y : Int32} (hd : decode cc pc = .ok (.ishl, 1)) (kk : jJ K k n (pc + 1) lo (.int (x <<< (y &&& 31)) :: st) ws) : jJ K k n pc lo (.int y :: .int x :: st) ws :=
  fun H locs ls hP hD hS hl => lv_ishl C.1 C.2.1 hd (kk H locs ls hP hD hS hl)
theorem j_idiv (C : jC cc own Y rm nL K) {x y : Int32} (hd : decode cc pc = .ok (.idiv, 1)) (hne : ¬ y = 0) (kk : jJ K k n (pc + 1) lo (.int (x / y) :: st) ws) : jJ K k n pc lo (.int y :: .int x :: st) ws :=
  fun H locs ls hP hD hS hl => lv_idiv C.1 C.2.1 hd hne (kk H locs ls hP hD hS hl)
theorem j_irem (C : jC cc own Y rm nL K) {x y : Int32} (hd : decode cc pc = .ok (.irem, 1)) (hne : ¬ y = 0) (kk : jJ K k n (pc + 1) lo (.int (x - x / y * y) :: st) ws) : jJ K k n pc lo (.int y :: .int x :: st) ws :=
  fun H locs ls hP hD hS hl => lv_irem C.1 C.2.1 hd hne (kk H locs ls hP hD hS hl)
theorem j_dup (C : jC cc own Y rm nL K) {v : Value} (hd : decode cc pc = .ok (.dup, 1)) (hc : v.category = 1) (kk : jJ K k n (pc + 1) lo (v :: v :: st) ws) : jJ K k n pc lo (v :: st) ws :=
  fun H locs ls hP hD hS hl => lv_dup C.1 C.2.1 hd hc (kk H locs ls hP hD hS hl)
theorem j_pop (C : jC cc own Y rm nL K) {v : Value} (hd : decode cc pc = .ok (.pop, 1)) (hc : v.category = 1) (kk : jJ K k n (pc + 1) lo st ws) : jJ K k n pc lo (v :: st) ws :=
  fun H locs ls hP hD hS hl => lv_pop C.1 C.2.1 hd hc (kk H locs ls hP hD hS hl)
theorem j_goto (C : jC cc own Y rm nL K) {off : Int} (tgt : Nat) (hd : decode cc pc = .ok (.goto off, 3)) (ht : (pc : Int) + off = (tgt : Int)) (kk : jJ K k n tgt lo st ws) : jJ K k n pc lo st ws :=
  fun H locs ls hP hD hS hl => lv_goto C.1 C.2.1 hd ht (kk H locs ls hP hD hS hl)
theorem j_if_eq (C : jC cc own Y rm nL K) {x : Int32} {off : Int} (tgt : Nat) (hd : decode cc pc = .ok (.ifCond .eq off, 3)) (ht : (pc : Int) + off = (tgt : Int)) (kt : x = 0 → jJ K k n tgt lo st ws) (kf : ¬ x = 0 → jJ K k n (pc + 3) lo st ws) : jJ K k n pc lo (.int x :: st) ws :=
  fun H locs ls hP hD hS hl => lv_if_eq C.1 C.2.1 hd ht (fun c => kt c H locs ls hP hD hS hl) (fun c => kf c H locs ls hP hD hS hl)
theorem j_icmp_eq (C : jC cc own Y rm nL K) {x y : Int32} {off : Int} (tgt : Nat) (hd : decode cc pc = .ok (.if_icmp .eq off, 3)) (ht : (pc : Int) + off = (tgt : Int)) (kt : x = y → jJ K k n tgt lo st ws) (kf : ¬ x = y → jJ K k n (pc + 3) lo st ws) : jJ K k n pc lo (.int y :: .int x :: st) ws :=
  fun H locs ls hP hD hS hl => lv_icmp_eq C.1 C.2.1 hd ht (fun c => kt c H locs ls hP hD hS hl) (fun c => kf c H locs ls hP hD hS hl)
theorem jN_icmp_eq (C : jC cc own Y rm nL K) {a b : Nat} {off : Int} (tgt : Nat) (ha : a < 2 ^ 31) (hb : b < 2 ^ 31) (hd : decode cc pc = .ok (.if_icmp .eq off, 3)) (ht : (pc : Int) + off = (tgt : Int)) (kt : a = b → jJ K k n tgt lo st ws) (kf : a ≠ b → jJ K k n (pc + 3) lo st ws) : jJ K k n pc lo (.int (nI b) :: .int (nI a) :: st) ws :=
  j_icmp_eq C tgt hd ht (fun c => kt ((nI_eq ha hb).mp c)) (fun c => kf (fun q => c ((nI_eq ha hb).mpr q)))
theorem j_if_ne (C : jC cc own Y rm nL K) {x : Int32} {off : Int} (tgt : Nat) (hd : decode cc pc = .ok (.ifCond .ne off, 3)) (ht : (pc : Int) + off = (tgt : Int)) (kt : ¬ x = 0 → jJ K k n tgt lo st ws) (kf : x = 0 → jJ K k n (pc + 3) lo st ws) : jJ K k n pc lo (.int x :: st) ws :=
  fun H locs ls hP hD hS hl => lv_if_ne C.1 C.2.1 hd ht (fun c => kt c H locs ls hP hD hS hl) (fun c => kf c H locs ls hP hD hS hl)
theorem j_icmp_ne (C : jC cc own Y rm nL K) {x y : Int32} {off : Int} (tgt : Nat) (hd : decode cc pc = .ok (.if_icmp .ne off, 3)) (ht : (pc : Int) + off = (tgt : Int)) (kt : ¬ x = y → jJ K k n tgt lo st ws) (kf : x = y → jJ K k n (pc + 3) lo st ws) : jJ K k n pc lo (.int y :: .int x :: st) ws :=
  fun H locs ls hP hD hS hl => lv_icmp_ne C.1 C.2.1 hd ht (fun c => kt c H locs ls hP hD hS hl) (fun c => kf c H locs ls hP hD hS hl)
theorem jN_icmp_ne (C : jC cc own Y rm nL K) {a b : Nat} {off : Int} (tgt : Nat) (ha : a < 2 ^ 31) (hb : b < 2 ^ 31) (hd : decode cc pc = .ok (.if_icmp .ne off, 3)) (ht : (pc : Int) + off = (tgt : Int)) (kt : a ≠ b → jJ K k n tgt lo st ws) (kf : a = b → jJ K k n (pc + 3) lo st ws) : jJ K k n pc lo (.int (nI b) :: .int (nI a) :: st) ws :=
  j_icmp_ne C tgt hd ht (fun c => kt (fun q => c ((nI_eq ha hb).mpr q))) (fun c => kf ((nI_eq ha hb).mp c))
theorem j_if_lt (C : jC cc own Y rm nL K) {x : Int32} {off : Int} (tgt : Nat) (hd : decode cc pc = .ok (.ifCond .lt off, 3)) (ht : (pc : Int) + off = (tgt : Int)) (kt : x < 0 → jJ K k n tgt lo st ws) (kf : ¬ x < 0 → jJ K k n (pc + 3) lo st ws) : jJ K k n pc lo (.int x :: st) ws :=
  fun H locs ls hP hD hS hl => lv_if_lt C.1 C.2.1 hd ht (fun c => kt c H locs ls hP hD hS hl) (fun c => kf c H locs ls hP hD hS hl)
theorem j_icmp_lt (C : jC cc own Y rm nL K) {x y : Int32} {off : Int} (tgt : Nat) (hd : decode cc pc = .ok (.if_icmp .lt off, 3)) (ht : (pc : Int) + off = (tgt : Int)) (kt : x < y → jJ K k n tgt lo st ws) (kf : ¬ x < y → jJ K k n (pc + 3) lo st ws) : jJ K k n pc lo (.int y :: .int x :: st) ws :=
  fun H locs ls hP hD hS hl => lv_icmp_lt C.1 C.2.1 hd ht (fun c => kt c H locs ls hP hD hS hl) (fun c => kf c H locs ls hP hD hS hl)
theorem jN_icmp_lt (C : jC cc own Y rm nL K) {a b : Nat} {off : Int} (tgt : Nat) (ha : a < 2 ^ 31) (hb : b < 2 ^ 31) (hd : decode cc pc = .ok (.if_icmp .lt off, 3)) (ht : (pc : Int) + off = (tgt : Int)) (kt : a < b → jJ K k n tgt lo st ws) (kf : b ≤ a → jJ K k n (pc + 3) lo st ws) : jJ K k n pc lo (.int (nI b) :: .int (nI a) :: st) ws :=
  j_icmp_lt C tgt hd ht (fun c => kt ((nI_ltI ha hb).mp c)) (fun c => kf (by have h2 : ¬ a < b := fun q => c ((nI_ltI ha hb).mpr q); omega))
theorem j_if_ge (C : jC cc own Y rm nL K) {x : Int32} {off : Int} (tgt : Nat) (hd : decode cc pc = .ok (.ifCond .ge off, 3)) (ht : (pc : Int) + off = (tgt : Int)) (kt : 0 ≤ x → jJ K k n tgt lo st ws) (kf : ¬ 0 ≤ x → jJ K k n (pc + 3) lo st ws) : jJ K k n pc lo (.int x :: st) ws :=
  fun H locs ls hP hD hS hl => lv_if_ge C.1 C.2.1 hd ht (fun c => kt c H locs ls hP hD hS hl) (fun c => kf c H locs ls hP hD hS hl)
theorem j_icmp_ge (C : jC cc own Y rm nL K) {x y : Int32} {off : Int} (tgt : Nat) (hd : decode cc pc = .ok (.if_icmp .ge off, 3)) (ht : (pc : Int) + off = (tgt : Int)) (kt : y ≤ x → jJ K k n tgt lo st ws) (kf : ¬ y ≤ x → jJ K k n (pc + 3) lo st ws) : jJ K k n pc lo (.int y :: .int x :: st) ws :=
  fun H locs ls hP hD hS hl => lv_icmp_ge C.1 C.2.1 hd ht (fun c => kt c H locs ls hP hD hS hl) (fun c => kf c H locs ls hP hD hS hl)
theorem jN_icmp_ge (C : jC cc own Y rm nL K) {a b : Nat} {off : Int} (tgt : Nat) (ha : a < 2 ^ 31) (hb : b < 2 ^ 31) (hd : decode cc pc = .ok (.if_icmp .ge off, 3)) (ht : (pc : Int) + off = (tgt : Int)) (kt : b ≤ a → jJ K k n tgt lo st ws) (kf : a < b → jJ K k n (pc + 3) lo st ws) : jJ K k n pc lo (.int (nI b) :: .int (nI a) :: st) ws :=
  j_icmp_ge C tgt hd ht (fun c => kt ((nI_leI hb ha).mp c)) (fun c => kf (by have h2 : ¬ b ≤ a := fun q => c ((nI_leI hb ha).mpr q); omega))
theorem j_if_gt (C : jC cc own Y rm nL K) {x : Int32} {off : Int} (tgt : Nat) (hd : decode cc pc = .ok (.ifCond .gt off, 3)) (ht : (pc : Int) + off = (tgt : Int)) (kt : 0 < x → jJ K k n tgt lo st ws) (kf : ¬ 0 < x → jJ K k n (pc + 3) lo st ws) : jJ K k n pc lo (.int x :: st) ws :=
  fun H locs ls hP hD hS hl => lv_if_gt C.1 C.2.1 hd ht (fun c => kt c H locs ls hP hD hS hl) (fun c => kf c H locs ls hP hD hS hl)
theorem j_icmp_gt (C : jC cc own Y rm nL K) {x y : Int32} {off : Int} (tgt : Nat) (hd : decode cc pc = .ok (.if_icmp .gt off, 3)) (ht : (pc : Int) + off = (tgt : Int)) (kt : y < x → jJ K k n tgt lo st ws) (kf : ¬ y < x → jJ K k n (pc + 3) lo st ws) : jJ K k n pc lo (.int y :: .int x :: st) ws :=
  fun H locs ls hP hD hS hl => lv_icmp_gt C.1 C.2.1 hd ht (fun c => kt c H locs ls hP hD hS hl) (fun c => kf c H locs ls hP hD hS hl)
theorem jN_icmp_gt (C : jC cc own Y rm nL K) {a b : Nat} {off : Int} (tgt : Nat) (ha : a < 2 ^ 31) (hb : b < 2 ^ 31) (hd : decode cc pc = .ok (.if_icmp .gt off, 3)) (ht : (pc : Int) + off = (tgt : Int)) (kt : b < a → jJ K k n tgt lo st ws) (kf : a ≤ b → jJ K k n (pc + 3) lo st ws) : jJ K k n pc lo (.int (nI b) :: .int (nI a) :: st) ws :=
  j_icmp_gt C tgt hd ht (fun c => kt ((nI_ltI hb ha).mp c)) (fun c => kf (by have h2 : ¬ b < a := fun q => c ((nI_ltI hb ha).mpr q); omega))
theorem j_if_le (C : jC cc own Y rm nL K) {x : Int32} {off : Int} (tgt : Nat) (hd : decode cc pc = .ok (.ifCond .le off, 3)) (ht : (pc : Int) + off = (tgt : Int)) (kt : x ≤ 0 → jJ K k n tgt lo st ws) (kf : ¬ x ≤ 0 → jJ K k n (pc + 3) lo st ws) : jJ K k n pc lo (.int x :: st) ws :=
  fun H locs ls hP hD hS hl => lv_if_le C.1 C.2.1 hd ht (fun c => kt c H locs ls hP hD hS hl) (fun c => kf c H locs ls hP hD hS hl)
theorem j_icmp_le (C : jC cc own Y rm nL K) {x y : Int32} {off : Int} (tgt : Nat) (hd : decode cc pc = .ok (.if_icmp .le off, 3)) (ht : (pc : Int) + off = (tgt : Int)) (kt : x ≤ y → jJ K k n tgt lo st ws) (kf : ¬ x ≤ y → jJ K k n (pc + 3) lo st ws) : jJ K k n pc lo (.int y :: .int x :: st) ws :=
  fun H locs ls hP hD hS hl => lv_icmp_le C.1 C.2.1 hd ht (fun c => kt c H locs ls hP hD hS hl) (fun c => kf c H locs ls hP hD hS hl)
theorem jN_icmp_le (C : jC cc own Y rm nL K) {a b : Nat} {off : Int} (tgt : Nat) (ha : a < 2 ^ 31) (hb : b < 2 ^ 31) (hd : decode cc pc = .ok (.if_icmp .le off, 3)) (ht : (pc : Int) + off = (tgt : Int)) (kt : a ≤ b → jJ K k n tgt lo st ws) (kf : b < a → jJ K k n (pc + 3) lo st ws) : jJ K k n pc lo (.int (nI b) :: .int (nI a) :: st) ws :=
  j_icmp_le C tgt hd ht (fun c => kt ((nI_leI ha hb).mp c)) (fun c => kf (by have h2 : ¬ a ≤ b := fun q => c ((nI_leI ha hb).mpr q); omega))
def bi (b : Bool) : Int32 := if b then 1 else 0
theorem bi_0 (b : Bool) : bi b = 0 ↔ b = false := by cases b <;> decide
theorem bi_1 (b : Bool) : bi b = 1 ↔ b = true := by cases b <;> decide
theorem bi_n0 (b : Bool) : ¬ bi b = 0 ↔ b = true := by cases b <;> decide
theorem bi_inj {a b : Bool} : bi a = bi b ↔ a = b := by cases a <;> cases b <;> decide
theorem bi_nar (b : Bool) : narrow .boolean (.int (bi b)) = .int (bi b) := by cases b <;> decide
theorem bi_vp (b : Bool) : vp_nar .boolean (bi b) = bi b := by cases b <;> decide
theorem bi_fit (b : Bool) : fits .boolean (.int (bi b)) = true := by cases b <;> decide
theorem jB_if_eq (C : jC cc own Y rm nL K) {b : Bool} {off : Int} (tgt : Nat) (hd : decode cc pc = .ok (.ifCond .eq off, 3)) (ht : (pc : Int) + off = (tgt : Int)) (kt : b = false → jJ K k n tgt lo st ws) (kf : b = true → jJ K k n (pc + 3) lo st ws) : jJ K k n pc lo (.int (bi b) :: st) ws :=
  j_if_eq C tgt hd ht (fun c => kt ((bi_0 b).mp c)) (fun c => kf ((bi_n0 b).mp c))
theorem jB_if_ne (C : jC cc own Y rm nL K) {b : Bool} {off : Int} (tgt : Nat) (hd : decode cc pc = .ok (.ifCond .ne off, 3)) (ht : (pc : Int) + off = (tgt : Int)) (kt : b = true → jJ K k n tgt lo st ws) (kf : b = false → jJ K k n (pc + 3) lo st ws) : jJ K k n pc lo (.int (bi b) :: st) ws :=
  j_if_ne C tgt hd ht (fun c => kt ((bi_n0 b).mp c)) (fun c => kf ((bi_0 b).mp c))
theorem j_iald (C : jC cc own Y rm nL K) (q0 : Nat) {a N : Nat} {f : Nat → Int32} (ha : ws[q0]? = some (a, .inl (Y.1, N, .inl f))) {i : Int32} (j : Nat) (hi : i = nI j) (hj : j < N) (hN : N < 2 ^ 31) (hd : decode cc pc = .ok (.iaload, 1)) (kk : jJ K k n (pc + 1) lo (.int (f j) :: st) ws) : jJ K k n pc lo (.int i :: .ref a :: st) ws := by
  subst hi
  intro H locs ls hP hD hS hl
  have h := kk H locs ls hP hD hS hl
  rw [← nI_clamp (n := j) (by omega)] at h
  exact va_iald C.1 C.2.1 C.2.2.2.2.1 hP q0 0 ha rfl (vp_in_nI hj hN) hd h
theorem j_zald (C : jC cc own Y rm nL K) (q0 : Nat) {a N : Nat} {f : Nat → Int32} (ha : ws[q0]? = some (a, .inl (Y.2.1, N, .inl f))) {i : Int32} (j : Nat) (hi : i = nI j) (hj : j < N) (hN : N < 2 ^ 31) (hd : decode cc pc = .ok (.baload, 1)) (kk : jJ K k n (pc + 1) lo (.int (f j) :: st) ws) : jJ K k n pc lo (.int i :: .ref a :: st) ws := by
  subst hi
  intro H locs ls hP hD hS hl
  have h := kk H locs ls hP hD hS hl
  rw [← nI_clamp (n := j) (by omega)] at h
  exact va_zald C.1 C.2.1 C.2.2.2.2.1 hP q0 1 ha rfl (vp_in_nI hj hN) hd h
theorem j_iast (C : jC cc own Y rm nL K) (q0 : Nat) {a N : Nat} {f : Nat → Int32} (ha : ws[q0]? = some (a, .inl (Y.1, N, .inl f))) {i x : Int32} (j : Nat) (hi : i = nI j) (hj : j < N) (hN : N < 2 ^ 31) {ws2 : va_W} (hd : decode cc pc = .ok (.iastore, 1)) (hs : ws.set q0 (a, .inl (Y.1, N, .inl (upd f j x))) = ws2) (kk : jJ K k n (pc + 1) lo st ws2) : jJ K k n pc lo (.int x :: .int i :: .ref a :: st) ws := by
  subst hi
  subst hs
  intro H locs ls hP hD hS hl
  refine va_iast C.1 C.2.1 C.2.2.2.2.1 hP hD hS q0 0 ha rfl (vp_in_nI hj hN) hd (fun H1 locs1 hP1 hD1 hS1 => ?_)
  rw [nI_clamp (n := j) (by omega)] at hP1 hD1
  exact kk H1 locs1 ls hP1 hD1 hS1 hl
theorem j_zast (C : jC cc own Y rm nL K) (q0 : Nat) {a N : Nat} {f : Nat → Int32} (ha : ws[q0]? = some (a, .inl (Y.2.1, N, .inl f))) {i x : Int32} (j : Nat) (hi : i = nI j) (hj : j < N) (hN : N < 2 ^ 31) {ws2 : va_W} (hd : decode cc pc = .ok (.bastore, 1)) (hs : ws.set q0 (a, .inl (Y.2.1, N, .inl (upd f j (vp_nar .boolean x)))) = ws2) (kk : jJ K k n (pc + 1) lo st ws2) : jJ K k n pc lo (.int x :: .int i :: .ref a :: st) ws := by
  subst hi
  subst hs
  intro H locs ls hP hD hS hl
  refine va_zast C.1 C.2.1 C.2.2.2.2.1 hP hD hS q0 1 ha rfl (vp_in_nI hj hN) hd (fun H1 locs1 hP1 hD1 hS1 => ?_)
  rw [nI_clamp (n := j) (by omega)] at hP1 hD1
  exact kk H1 locs1 ls hP1 hD1 hS1 hl
theorem j_alenG (C : jC cc own Y rm nL K) (q0 t0 : Nat) {a : Nat} {cA : ClassId} {x : vp_A} {ty : FieldType} (ha : ws[q0]? = some (a, .inl (cA, x))) (ht : (jtys Y)[t0]? = some (cA, ty)) {v : Int32} (hv : nI x.1 = v) (hd : decode cc pc = .ok (.arraylength, 1)) (kk : jJ K k n (pc + 1) lo (.int v :: st) ws) : jJ K k n pc lo (.ref a :: st) ws :=
  fun H locs ls hP hD hS hl => va_alen C.1 C.2.1 C.2.2.2.2.1 hP q0 t0 ha ht hv hd (kk H locs ls hP hD hS hl)
theorem j_get (C : jC cc own Y rm nL K) {cn ref : String} {T : u_T} {N ci ix : Nat} (hin : ∀ w ∈ u_ws cn T N, w ∈ wG) (q0 : Nat) {a : Nat} {fs : List Value} (he : ws[q0]? = some (a, .inr (ci, fs))) (hc : vwCl[ci]? = some (cn, T, N)) (kf : Nat) (hk : kf < N) (hl0 : Cond.fieldLink own ix ref (T kf).2.1 (T kf).2.2.1 ∈ wG) (href : (T kf).1 = ref) {v : Value} (hv : fs[kf]? = some v) (hd : decode cc pc = .ok (.getfield ix, 3)) (kk : jJ K k n (pc + 3) lo (v :: st) ws) : jJ K k n pc lo (.ref a :: st) ws :=
  fun H locs ls hP hD hS hl => va_get C.1 C.2.1 C.2.2.2.1 hin C.2.2.1 C.2.2.2.2.1 hP q0 he hc kf hk (C.2.2.2.1 _ hl0) (fun x h => by rw [← href]; exact h) hv hd (kk H locs ls hP hD hS hl)
theorem j_put (C : jC cc own Y rm nL K) {cn ref : String} {T : u_T} {N ci ix : Nat} (hin : ∀ w ∈ u_ws cn T N, w ∈ wG) (ty0 : Nat → FieldType) (hty : ∀ k, k < N → parseFieldDescriptor (T k).2.2.1 = some (ty0 k)) (hnm : ∀ a, a < N → ∀ b, b < N → a ≠ b → (T a).2.1 ≠ (T b).2.1) (q0 : Nat) {a : Nat} {fs : List Value} (he : ws[q0]? = some (a, .inr (ci, fs))) (hc : vwCl[ci]? = some (cn, T, N)) (kf : Nat) (hk : kf < N) (hl0 : Cond.fieldLink own ix ref (T kf).2.1 (T kf).2.2.1 ∈ wG) (href : (T kf).1 = ref) (hfin : (T kf).2.2.2 = false) {v : Value} (hn : narrow (ty0 kf) v = v) (hfit : fits (ty0 kf) v = true) (hlen : kf < fs.length) {ws2 : va_W} (hd : decode cc pc = .ok (.putfield ix, 3)) (hs : ws.set q0 (a, .inr (ci, fs.set kf v)) = ws2) (kk : jJ K k n (pc + 3) lo st ws2) : jJ K k n pc lo (v :: .ref a :: st) ws := by
  subst hs
  exact fun H locs ls hP hD hS hl => va_put C.1 C.2.1 C.2.2.2.1 hin ty0 hty hnm C.2.2.1 C.2.2.2.2.1 hP hD hS q0 he hc kf hk (C.2.2.2.1 _ hl0) (fun x h => by rw [← href]; exact h) hfin (hty kf hk) hn hfit hlen hd (fun H1 locs1 hP1 hD1 hS1 => kk H1 locs1 ls hP1 hD1 hS1 hl)
theorem j_putF (C : jC cc own Y rm nL K) (hini : K.2.1.2.2.2.1.name = "<init>") {cn ref : String} {T : u_T} {N ci ix : Nat} (hin : ∀ w ∈ u_ws cn T N, w ∈ wG) (ty0 : Nat → FieldType) (hty : ∀ k, k < N → parseFieldDescriptor (T k).2.2.1 = some (ty0 k)) (hnm : ∀ a, a < N → ∀ b, b < N → a ≠ b → (T a).2.1 ≠ (T b).2.1) (q0 : Nat) {a : Nat} {fs : List Value} (he : ws[q0]? = some (a, .inr (ci, fs))) (hc : vwCl[ci]? = some (cn, T, N)) (kf : Nat) (hk : kf < N) (hl0 : Cond.fieldLink own ix ref (T kf).2.1 (T kf).2.2.1 ∈ wG) (href : (T kf).1 = ref) (hfin : (T kf).2.2.2 = true) (hdec : (T kf).1 = own) {v : Value} (hn : narrow (ty0 kf) v = v) (hfit : fits (ty0 kf) v = true) (hlen : kf < fs.length) {ws2 : va_W} (hd : decode cc pc = .ok (.putfield ix, 3)) (hs : ws.set q0 (a, .inr (ci, fs.set kf v)) = ws2) (kk : jJ K k n (pc + 3) lo st ws2) : jJ K k n pc lo (v :: .ref a :: st) ws := by
  subst hs
  exact fun H locs ls hP hD hS hl => va_putF C.1 C.2.1 C.2.2.2.1 hin ty0 hty hnm C.2.2.1 C.2.2.2.2.1 hP hD hS q0 he hc kf hk (C.2.2.2.1 _ hl0) (fun x h => by rw [← href]; exact h) hfin hini hdec (hty kf hk) hn hfit hlen hd (fun H1 locs1 hP1 hD1 hS1 => kk H1 locs1 ls hP1 hD1 hS1 hl)
theorem j_newa_int (C : jC cc own Y rm nL K) (N : Nat) {x : Int32} (hx : x = nI N) (hN : N < 100000) (hk : k + 1 ≤ rm.cells) (hn : n + N ≤ rm.slots) (hd : decode cc pc = .ok (.newarray .int, 2)) (kk : ∀ q : Nat, jJ K (k + 1) (n + N) (pc + 2) lo (.ref q :: st) (ws ++ [(q, .inl (Y.1, N, .inl (fun _ => 0)))])) : jJ K k n pc lo (.int x :: st) ws := by
  subst hx
  intro H locs ls hP hD hS hl
  have hcl : (nI N).toNatClampNeg = N := nI_clamp (by omega)
  refine va_newa (atype := .int) (a0 := (N, .inl (fun _ => 0))) (ty := .int) (N' := N) C.1 C.2.1 (C.2.2.2.1 _ wd_ac_int) rfl C.2.2.2.2.1 hP hD hS C.2.2.2.2.2.1 (fun cA => rfl) (nI_pos (by omega)) hcl (by show N * _ ≤ 536870912; simp only [componentBytes]; omega) (by rw [C.2.2.2.2.2.2.2.2.1]; exact hk) (by rw [C.2.2.2.2.2.2.2.2.1]; exact hn) hd (fun q cA H1 hK1 hP1 hD1 hS1 => ?_)
  have e1 := (C.2.2.2.2.1.2 0 _ rfl).2
  have e2 := (hK1.2 2 (cA, .int) rfl).2
  have e3 : cA = Y.1 := by
    have e4 : some cA = some Y.1 := e2.symm.trans e1
    exact Option.some.inj e4
  subst e3
  exact kk q H1 locs ls hP1 hD1 hS1 hl
theorem j_newa_boolean (C : jC cc own Y rm nL K) (N : Nat) {x : Int32} (hx : x = nI N) (hN : N < 100000) (hk : k + 1 ≤ rm.cells) (hn : n + N ≤ rm.slots) (hd : decode cc pc = .ok (.newarray .boolean, 2)) (kk : ∀ q : Nat, jJ K (k + 1) (n + N) (pc + 2) lo (.ref q :: st) (ws ++ [(q, .inl (Y.2.1, N, .inl (fun _ => 0)))])) : jJ K k n pc lo (.int x :: st) ws := by
  subst hx
  intro H locs ls hP hD hS hl
  have hcl : (nI N).toNatClampNeg = N := nI_clamp (by omega)
  refine va_newa (atype := .boolean) (a0 := (N, .inl (fun _ => 0))) (ty := .boolean) (N' := N) C.1 C.2.1 (C.2.2.2.1 _ wd_ac_boolean) rfl C.2.2.2.2.1 hP hD hS C.2.2.2.2.2.1 (fun cA => rfl) (nI_pos (by omega)) hcl (by show N * _ ≤ 536870912; simp only [componentBytes]; omega) (by rw [C.2.2.2.2.2.2.2.2.1]; exact hk) (by rw [C.2.2.2.2.2.2.2.2.1]; exact hn) hd (fun q cA H1 hK1 hP1 hD1 hS1 => ?_)
  have e1 := (C.2.2.2.2.1.2 1 _ rfl).2
  have e2 := (hK1.2 2 (cA, .boolean) rfl).2
  have e3 : cA = Y.2.1 := by
    have e4 : some cA = some Y.2.1 := e2.symm.trans e1
    exact Option.some.inj e4
  subst e3
  exact kk q H1 locs ls hP1 hD1 hS1 hl
-- objects
theorem j_new (C : jC cc own Y rm nL K) {cn : String} {T : u_T} {N ci ix : Nat} (hin : ∀ w ∈ u_ws cn T N, w ∈ wG) (ty0 : Nat → FieldType) (hty : ∀ k, k < N → parseFieldDescriptor (T k).2.2.1 = some (ty0 k)) (hcl : Cond.classLink own ix cn ∈ wG) (hit : Cond.instantiable cn N ∈ wG) (hii : Cond.initialized cn ∈ wG) (hc : vwCl[ci]? = some (cn, T, N)) {fs : List Value} (hfs : ∀ j, j < N → defaultValue (ty0 j) = vp_V fs j) (hk : k + 1 ≤ rm.cells) (hn : n + N ≤ rm.slots) (hd : decode cc pc = .ok (.new ix, 3)) (kk : ∀ q : Nat, jJ K (k + 1) (n + N) (pc + 3) lo (.ref q :: st) (ws ++ [(q, .inr (ci, fs))])) : jJ K k n pc lo st ws :=
  fun H locs ls hP hD hS hl => va_new C.1 C.2.1 C.2.2.2.1 hin ty0 hty C.2.2.1 (C.2.2.2.1 _ hcl) (C.2.2.2.1 _ hit) (C.2.2.2.1 _ hii) C.2.2.2.2.1 hP hD hS C.2.2.2.2.2.1 hc hfs (by rw [C.2.2.2.2.2.2.2.2.1]; exact hk) (by rw [C.2.2.2.2.2.2.2.2.1]; exact hn) hd (fun q H1 hP1 hD1 hS1 => kk q H1 locs ls hP1 hD1 hS1 hl)
theorem j_objInit (C : jC cc own Y rm nL K) {ix a : Nat} (hl0 : Cond.methodLink own ix objectInit ∈ wG) (hd : decode cc pc = .ok (.invokespecial ix, 3)) (hst : (st.map fun v => v.category).sum = 0) (hf : 1 ≤ rm.frames) (hlo : 12 ≤ rm.locals) (kk : jJ K k n (pc + 3) lo st ws) : jJ K k n pc lo (.ref a :: st) ws :=
  fun H locs ls hP hD hS hl => W.objInit C.1 C.2.1 C.2.2.1 (C.2.2.2.1 _ hl0) (C.2.2.2.1 _ wd_im_oi) (C.2.2.2.1 _ wd_co_oi) rfl (by rw [C.2.2.2.2.2.2.1]; exact hl.1) rfl hd (by rw [C.2.2.2.2.2.2.2.2.1]; exact hf) (by rw [C.2.2.2.2.2.2.2.2.1, hst]; exact hlo) (kk H locs ls hP hD hS hl)
-- the ends
theorem jw_Q {p : Program} {l : Launch} {e : Env} {R : Room} {s : State} {m : MethodId} {args : Array Value} {below : List Frame} {meth : Method} {c : Code} {H : Heap} {locs : List Loc} {cells slots : Nat} {Q Q' : State → Prop} {g : JFrame} (h : ∀ t, Q t → Q' t) (kk : W p l e R s m args below meth c H locs cells slots Q g) : W p l e R s m args below meth c H locs cells slots Q' g := by
  intro T hT X
  obtain ⟨t, a, b⟩ := kk T hT X
  exact ⟨t, a, h t b⟩
def jI (P : Int32 → va_W → Prop) : jp_T := fun r w => ∃ x, r = some (.int x) ∧ P x w
def jV (P : va_W → Prop) : jp_T := fun r w => r = none ∧ P w
def jA (P : Nat → va_W → Prop) : jp_T := fun r w => ∃ x, r = some (.ref x) ∧ P x w
theorem jq_of (C : jC cc own Y rm nL K) {Pst : jp_T} {H : Heap} {locs : List Loc} {r : Option Value} (hp : Pst r ws) (hP : va_P K.2.2.2.1 vwCl ws H) (hD : va_D K.2.2.1.1 ws) (hS : va_S K.2.2.1.1 K.1.2.2.2.2.heap H locs) {t : State} (ht : t.heap = H) (hW : K.1.2.2.2.2.WarmedH t.vm) : jQ K.2.2.2.1 Y K.2.2.1.1 Pst K.2.1.2.1 K.1.2.2.2.2 (.returned r) t :=
  ⟨⟨r, ws, rfl, hp, by rw [ht]; exact hP, va_K.moved hW.alike C.2.2.2.2.1, hD⟩, hS.F ht⟩
theorem j_reti (C : jC cc own Y rm nL K) {P : Int32 → va_W → Prop} (hR : jR Y (some .int) k n (jI P) K) {x : Int32} (hd : decode cc pc = .ok (.ireturn, 1)) (hp : P x ws) : jJ K k n pc lo [.int x] ws :=
  fun H locs ls hP hD hS hl => jw_Q hR.2 (W.iret C.1 C.2.1 hR.1 (fun t ht hW => jq_of C ⟨x, rfl, hp⟩ hP hD hS ht hW) hS.2.2 hd C.2.2.2.2.2.2.2.1)
theorem j_retz (C : jC cc own Y rm nL K) {P : Int32 → va_W → Prop} (hR : jR Y (some .boolean) k n (jI P) K) {x : Int32} (hd : decode cc pc = .ok (.ireturn, 1)) (hn : narrow .boolean (.int x) = .int x) (hp : P x ws) : jJ K k n pc lo [.int x] ws :=
  fun H locs ls hP hD hS hl => jw_Q hR.2 (W.zret C.1 C.2.1 hR.1 hn (fun t ht hW => jq_of C ⟨x, rfl, hp⟩ hP hD hS ht hW) hS.2.2 hd C.2.2.2.2.2.2.2.1)
theorem j_retv (C : jC cc own Y rm nL K) {P : va_W → Prop} (hR : jR Y none k n (jV P) K) (hd : decode cc pc = .ok (.return_, 1)) (hp : P ws) : jJ K k n pc lo [] ws :=
  fun H locs ls hP hD hS hl => jw_Q hR.2 (W.vret C.1 C.2.1 hR.1 (fun t ht hW => jq_of C ⟨rfl, hp⟩ hP hD hS ht hW) hS.2.2 hd C.2.2.2.2.2.2.2.1)
theorem j_reta (C : jC cc own Y rm nL K) {P : Nat → va_W → Prop} {tt : FieldType} (hR : jR Y (some (.array tt)) k n (jA P) K) {x : Nat} (hd : decode cc pc = .ok (.areturn, 1)) (hp : P x ws) : jJ K k n pc lo [.ref x] ws :=
  fun H locs ls hP hD hS hl => jw_Q hR.2 (W.aret C.1 C.2.1 hR.1 (Or.inr ⟨_, rfl⟩) (Or.inr ⟨_, rfl⟩) (fun t ht hW => jq_of C ⟨x, rfl, hp⟩ hP hD hS ht hW) hS.2.2 hd C.2.2.2.2.2.2.2.1)
-- the start
theorem j_enter {l : Launch} {y : MethodName} {maxL : Nat} {ret : Option FieldType} {D : va_G} {av : List Value} {w0 : va_W} {Pst : jp_T} (hy : plainName y.cls = true) (hlen : av.length ≤ maxL) (hcat : ∀ v ∈ av, v.category = 1)
    (body : ∀ K : jk_T, K.1.2.1 = l → K.2.2.2.1 = D → K.2.1.2.2.2.1.name = y.name → jC cc y.cls Y rm maxL K → jR Y ret rm.cells rm.slots Pst K → jJ K 0 0 0 (jargs av maxL) [] w0) : MJ l y cc maxL ret rm D Y av w0 Pst := by
  intro sz
  refine Met.ofW (cc := cc) (maxL := maxL) (ret := ret) hy rfl ?_
  intro p e s m args below meth c s₁ B hml hv
  obtain ⟨rfl, hsz, hP, hK, hD0⟩ := hv
  have hnm := name_of_methodNamed B.named B.method
  have hts := wG_head (atoms_spec (ws := Cond.code y cc maxL ret :: wG) B.pre)
  have hown : s.vm.findClass y.cls = some m.cls := findClass_of_methodNamed B.named
  subst hsz
  have hD := hD0.self (sz := s.heap.size)
  rw [lg_entry_eq]
  exact body ((p, l, e, rm, s), (m, av.toArray, below, meth, c), (va_A w0 s.heap.size, _), D, maxL) rfl rfl hnm.1
    ⟨B.exec, B.bytes, hown, hts, hK, fun q h => Or.inr h, hml, B.notSynchronized, rfl, rfl⟩ ⟨B.returns, fun t h => h⟩
    s.heap [] _ hP hD va_S.rf (jl_entry av hlen hcat)
-- calls on the whole world
theorem j_run (C : jC cc own Y rm nL K) {Pst : jp_T} {mc ms : Nat} {ops : List Value}
    (hr : ∀ (H : Heap) (locs : List Loc) (ls : Array Slot), va_P K.2.2.2.1 vwCl ws H → va_D K.2.2.1.1 ws → va_S K.2.2.1.1 K.1.2.2.2.2.heap H locs → jl_has ls K.2.2.2.2 lo →
      va_Run K.1.1 K.1.2.1 K.1.2.2.1 K.1.2.2.2.1 K.1.2.2.2.2 K.2.1.1 K.2.1.2.1 K.2.1.2.2.1 K.2.1.2.2.2.1 K.2.1.2.2.2.2 H locs k n mc ms (F0 K.2.1.1 pc ls ops) st (jQ K.2.2.2.1 Y (va_A ws H.size) Pst #[]) (va_A ws H.size))
    (kk : ∀ r w1, Pst r w1 → jJ K (k + mc) (n + ms) (pc + 3) lo (r.toList ++ st) w1) : jJ K k n pc lo ops ws := by
  intro H locs ls hP hD hS hl T hT X
  obtain ⟨v, st₀, t, T', L, h0, X', hL, e1, e2, ⟨⟨r, w1, hv, hp, hP1, hK1, hD1⟩, hz, hk⟩, hst⟩ := hr H locs ls hP hD hS hl T hT X
  cases hv
  rw [h0] at hz hk
  have hAA : ∀ q, va_A ws H.size q → K.2.2.1.1 q := by
    intro q hq
    rcases hq with ⟨i, en, hi⟩ | hq
    · exact hD.2 i _ hi
    · exact C.2.2.2.2.2.1 q (Nat.le_trans hS.1 hq)
  have hS1 : va_S K.2.2.1.1 K.1.2.2.2.2.heap T'.heap (locs ++ L) := ⟨Nat.le_trans hS.1 (by rw [e1]; exact hz), fun q h1 h2 => by
      rw [e1, hk q (Nat.lt_of_lt_of_le h1 hS.1) (fun z => h2 (hAA q z))]; exact hS.2.1 q h1 h2, fun q hq => by
      rcases List.mem_append.mp hq with h | h
      · exact hS.2.2 q h
      · exact hAA _ (hL q h)⟩
  obtain ⟨t2, a1, b1⟩ := kk v w1 hp T'.heap (locs ++ L) ls (by rw [e1]; exact hP1) (hD1.weaken (fun _ q _ h => hAA _ h)) hS1 hl T' rfl X'
  exact ⟨t2, hst t2 a1, b1⟩
theorem jPc_blind {D : va_G} {av : List Value} {w0 : va_W} {sz : Nat} : FrameBlind (jPc D Y av w0 sz) := fun a U g mk q => by
  obtain ⟨q0, q1, qP, qK, qD⟩ := q
  exact ⟨q0, q1, qP, va_K.moved (u := U) (U := U.calling g mk a) (Vm.Alike.refl U.vm) qK, qD⟩
theorem j_callV (C : jC cc own Y rm nL K) {y : MethodName} {cy : ByteArray} {mL ix : Nat} {ret : Option FieldType} {rmy : Room} {a : Nat} {As : List Value} {Pst : jp_T}
    (hM : MJ K.1.2.1 y cy mL ret rmy K.2.2.2.1 Y (.ref a :: As) ws Pst) (hG : GoodIn wG (wsV own ix y.cls y (Cond.code y cy mL ret :: wG)))
    (hn : (y.cls ≠ "java/lang/invoke/MethodHandle" ∧ y.cls ≠ "java/lang/invoke/VarHandle" ∧ (parseMethodDescriptor y.desc).map (fun d => d.parameters.length) = some As.length))
    {ci q0 : Nat} {q : vw_C} {fs : List Value} (hc : vwCl[ci]? = some q) (hq : q.1 = y.cls) (he : ws[q0]? = some (a, .inr (ci, fs)))
    (hroom : rmy.frames + 1 ≤ rm.frames ∧ 8 + (mL + 11) + rmy.locals ≤ rm.locals) (hcells : k + rmy.cells ≤ rm.cells ∧ n + rmy.slots ≤ rm.slots)
    (hst : (st.map fun v => v.category).sum ≤ 8) (hd : decode cc pc = .ok (.invokevirtual ix, 3))
    (kk : ∀ r w1, Pst r w1 → jJ K (k + rmy.cells) (n + rmy.slots) (pc + 3) lo (r.toList ++ st) w1) : jJ K k n pc lo (As.reverse ++ .ref a :: st) ws := by
  refine j_run C (fun H locs ls hP hD hS hl => ?_) kk
  have hrec := va_recv C.2.2.2.2.1 hP hc he
  rw [hq] at hrec
  exact va_runV (As := As) (rest := st) (g := F0 K.2.1.1 pc ls (As.reverse ++ .ref a :: st)) ⟨C.1, C.2.1, C.2.2.2.2.2.2.1, C.2.2.1, C.2.2.2.1⟩ (hM H.size) (cwV As.length C.2.2.2.1 hG rfl rfl rfl ⟨rfl, hn⟩ (by rw [C.2.2.2.2.2.2.2.2.1]; exact hroom))
    ⟨jPc_blind, hrec, fun U hU hW => ⟨rfl, by rw [hU], by rw [hU]; exact hP, va_K.moved hW.alike C.2.2.2.2.1, hD.weaken (fun _ _ _ _ => trivial)⟩⟩ rfl rfl hl.1 rfl (lv_room hst) hd (by rw [C.2.2.2.2.2.2.2.2.1]; exact hcells)
theorem j_callS (C : jC cc own Y rm nL K) {y : MethodName} {cy : ByteArray} {mL ix : Nat} {ret : Option FieldType} {rmy : Room} {As : List Value} {Pst : jp_T}
    (hM : MJ K.1.2.1 y cy mL ret rmy K.2.2.2.1 Y As ws Pst) (hG : GoodIn wG (wsS own ix y (Cond.code y cy mL ret :: wG))) (hown : y.cls = own)
    (hn : (y.cls ≠ "java/lang/invoke/MethodHandle" ∧ y.cls ≠ "java/lang/invoke/VarHandle" ∧ (parseMethodDescriptor y.desc).map (fun d => d.parameters.length) = some As.length))
    (hroom : rmy.frames + 1 ≤ rm.frames ∧ 8 + (mL + 11) + rmy.locals ≤ rm.locals) (hcells : k + rmy.cells ≤ rm.cells ∧ n + rmy.slots ≤ rm.slots)
    (hst : (st.map fun v => v.category).sum ≤ 8) (hd : decode cc pc = .ok (.invokestatic ix, 3))
    (kk : ∀ r w1, Pst r w1 → jJ K (k + rmy.cells) (n + rmy.slots) (pc + 3) lo (r.toList ++ st) w1) : jJ K k n pc lo (As.reverse ++ st) ws := by
  refine j_run C (fun H locs ls hP hD hS hl => ?_) kk
  exact va_runS (As := As) (rest := st) (g := F0 K.2.1.1 pc ls (As.reverse ++ st)) ⟨C.1, C.2.1, C.2.2.2.2.2.2.1, C.2.2.1, C.2.2.2.1⟩ (hM H.size) (cwS As.length C.2.2.2.1 hG rfl rfl rfl ⟨hown, hn⟩ (by rw [C.2.2.2.2.2.2.2.2.1]; exact hroom))
    ⟨jPc_blind, fun U hU hW => ⟨rfl, by rw [hU], by rw [hU]; exact hP, va_K.moved hW.alike C.2.2.2.2.1, hD.weaken (fun _ _ _ _ => trivial)⟩⟩ rfl rfl hl.1 rfl (lv_room hst) hd (by rw [C.2.2.2.2.2.2.2.2.1]; exact hcells)
theorem j_callV0i (C : jC cc own Y rm nL K) {y : MethodName} {cy : ByteArray} {mL ix : Nat} {ret : Option FieldType} {rmy : Room} {a : Nat}  {P : Int32 → va_W → Prop}
    (hM : MJ K.1.2.1 y cy mL ret rmy K.2.2.2.1 Y (.ref a :: []) ws (jI P)) (hG : GoodIn wG (wsV own ix y.cls y (Cond.code y cy mL ret :: wG)))
    (hn : (y.cls ≠ "java/lang/invoke/MethodHandle" ∧ y.cls ≠ "java/lang/invoke/VarHandle" ∧ (parseMethodDescriptor y.desc).map (fun d => d.parameters.length) = some 0))
    (ci q0 : Nat) {q : vw_C} {fs : List Value} (hc : vwCl[ci]? = some q) (hq : q.1 = y.cls) (he : ws[q0]? = some (a, .inr (ci, fs)))
    (hroom : rmy.frames + 1 ≤ rm.frames ∧ 8 + (mL + 11) + rmy.locals ≤ rm.locals) (hcells : k + rmy.cells ≤ rm.cells ∧ n + rmy.slots ≤ rm.slots)
    (hst : (st.map fun v => v.category).sum ≤ 8) (hd : decode cc pc = .ok (.invokevirtual ix, 3)) (kk : ∀ (x : Int32) w1, P x w1 → jJ K (k + rmy.cells) (n + rmy.slots) (pc + 3) lo (.int x :: st) w1) : jJ K k n pc lo (.ref a :: st) ws :=
  j_callV C (As := []) hM hG hn hc hq he hroom hcells hst hd (fun r w1 hp => by obtain ⟨x, rfl, hp⟩ := hp; exact kk x w1 hp)
theorem j_callS0i (C : jC cc own Y rm nL K) {y : MethodName} {cy : ByteArray} {mL ix : Nat} {ret : Option FieldType} {rmy : Room}  {P : Int32 → va_W → Prop}
    (hM : MJ K.1.2.1 y cy mL ret rmy K.2.2.2.1 Y [] ws (jI P)) (hG : GoodIn wG (wsS own ix y (Cond.code y cy mL ret :: wG))) (hown : y.cls = own)
    (hn : (y.cls ≠ "java/lang/invoke/MethodHandle" ∧ y.cls ≠ "java/lang/invoke/VarHandle" ∧ (parseMethodDescriptor y.desc).map (fun d => d.parameters.length) = some 0))
    (hroom : rmy.frames + 1 ≤ rm.frames ∧ 8 + (mL + 11) + rmy.locals ≤ rm.locals) (hcells : k + rmy.cells ≤ rm.cells ∧ n + rmy.slots ≤ rm.slots)
    (hst : (st.map fun v => v.category).sum ≤ 8) (hd : decode cc pc = .ok (.invokestatic ix, 3)) (kk : ∀ (x : Int32) w1, P x w1 → jJ K (k + rmy.cells) (n + rmy.slots) (pc + 3) lo (.int x :: st) w1) : jJ K k n pc lo (st) ws :=
  j_callS C (As := []) hM hG hown hn hroom hcells hst hd (fun r w1 hp => by obtain ⟨x, rfl, hp⟩ := hp; exact kk x w1 hp)
theorem j_callV1i (C : jC cc own Y rm nL K) {y : MethodName} {cy : ByteArray} {mL ix : Nat} {ret : Option FieldType} {rmy : Room} {a : Nat} {v1 : Value} {P : Int32 → va_W → Prop}
    (hM : MJ K.1.2.1 y cy mL ret rmy K.2.2.2.1 Y (.ref a :: [v1]) ws (jI P)) (hG : GoodIn wG (wsV own ix y.cls y (Cond.code y cy mL ret :: wG)))
    (hn : (y.cls ≠ "java/lang/invoke/MethodHandle" ∧ y.cls ≠ "java/lang/invoke/VarHandle" ∧ (parseMethodDescriptor y.desc).map (fun d => d.parameters.length) = some 1))
    (ci q0 : Nat) {q : vw_C} {fs : List Value} (hc : vwCl[ci]? = some q) (hq : q.1 = y.cls) (he : ws[q0]? = some (a, .inr (ci, fs)))
    (hroom : rmy.frames + 1 ≤ rm.frames ∧ 8 + (mL + 11) + rmy.locals ≤ rm.locals) (hcells : k + rmy.cells ≤ rm.cells ∧ n + rmy.slots ≤ rm.slots)
    (hst : (st.map fun v => v.category).sum ≤ 8) (hd : decode cc pc = .ok (.invokevirtual ix, 3)) (kk : ∀ (x : Int32) w1, P x w1 → jJ K (k + rmy.cells) (n + rmy.slots) (pc + 3) lo (.int x :: st) w1) : jJ K k n pc lo (v1 :: .ref a :: st) ws :=
  j_callV C (As := [v1]) hM hG hn hc hq he hroom hcells hst hd (fun r w1 hp => by obtain ⟨x, rfl, hp⟩ := hp; exact kk x w1 hp)
theorem j_callS1i (C : jC cc own Y rm nL K) {y : MethodName} {cy : ByteArray} {mL ix : Nat} {ret : Option FieldType} {rmy : Room} {v1 : Value} {P : Int32 → va_W → Prop}
    (hM : MJ K.1.2.1 y cy mL ret rmy K.2.2.2.1 Y [v1] ws (jI P)) (hG : GoodIn wG (wsS own ix y (Cond.code y cy mL ret :: wG))) (hown : y.cls = own)
    (hn : (y.cls ≠ "java/lang/invoke/MethodHandle" ∧ y.cls ≠ "java/lang/invoke/VarHandle" ∧ (parseMethodDescriptor y.desc).map (fun d => d.parameters.length) = some 1))
    (hroom : rmy.frames + 1 ≤ rm.frames ∧ 8 + (mL + 11) + rmy.locals ≤ rm.locals) (hcells : k + rmy.cells ≤ rm.cells ∧ n + rmy.slots ≤ rm.slots)
    (hst : (st.map fun v => v.category).sum ≤ 8) (hd : decode cc pc = .ok (.invokestatic ix, 3)) (kk : ∀ (x : Int32) w1, P x w1 → jJ K (k + rmy.cells) (n + rmy.slots) (pc + 3) lo (.int x :: st) w1) : jJ K k n pc lo (v1 :: st) ws :=
  j_callS C (As := [v1]) hM hG hown hn hroom hcells hst hd (fun r w1 hp => by obtain ⟨x, rfl, hp⟩ := hp; exact kk x w1 hp)
theorem j_callV2i (C : jC cc own Y rm nL K) {y : MethodName} {cy : ByteArray} {mL ix : Nat} {ret : Option FieldType} {rmy : Room} {a : Nat} {v1 v2 : Value} {P : Int32 → va_W → Prop}
    (hM : MJ K.1.2.1 y cy mL ret rmy K.2.2.2.1 Y (.ref a :: [v1, v2]) ws (jI P)) (hG : GoodIn wG (wsV own ix y.cls y (Cond.code y cy mL ret :: wG)))
    (hn : (y.cls ≠ "java/lang/invoke/MethodHandle" ∧ y.cls ≠ "java/lang/invoke/VarHandle" ∧ (parseMethodDescriptor y.desc).map (fun d => d.parameters.length) = some 2))
    (ci q0 : Nat) {q : vw_C} {fs : List Value} (hc : vwCl[ci]? = some q) (hq : q.1 = y.cls) (he : ws[q0]? = some (a, .inr (ci, fs)))
    (hroom : rmy.frames + 1 ≤ rm.frames ∧ 8 + (mL + 11) + rmy.locals ≤ rm.locals) (hcells : k + rmy.cells ≤ rm.cells ∧ n + rmy.slots ≤ rm.slots)
    (hst : (st.map fun v => v.category).sum ≤ 8) (hd : decode cc pc = .ok (.invokevirtual ix, 3)) (kk : ∀ (x : Int32) w1, P x w1 → jJ K (k + rmy.cells) (n + rmy.slots) (pc + 3) lo (.int x :: st) w1) : jJ K k n pc lo (v2 :: v1 :: .ref a :: st) ws :=
  j_callV C (As := [v1, v2]) hM hG hn hc hq he hroom hcells hst hd (fun r w1 hp => by obtain ⟨x, rfl, hp⟩ := hp; exact kk x w1 hp)
theorem j_callS2i (C : jC cc own Y rm nL K) {y : MethodName} {cy : ByteArray} {mL ix : Nat} {ret : Option FieldType} {rmy : Room} {v1 v2 : Value} {P : Int32 → va_W → Prop}
    (hM : MJ K.1.2.1 y cy mL ret rmy K.2.2.2.1 Y [v1, v2] ws (jI P)) (hG : GoodIn wG (wsS own ix y (Cond.code y cy mL ret :: wG))) (hown : y.cls = own)
    (hn : (y.cls ≠ "java/lang/invoke/MethodHandle" ∧ y.cls ≠ "java/lang/invoke/VarHandle" ∧ (parseMethodDescriptor y.desc).map (fun d => d.parameters.length) = some 2))
    (hroom : rmy.frames + 1 ≤ rm.frames ∧ 8 + (mL + 11) + rmy.locals ≤ rm.locals) (hcells : k + rmy.cells ≤ rm.cells ∧ n + rmy.slots ≤ rm.slots)
    (hst : (st.map fun v => v.category).sum ≤ 8) (hd : decode cc pc = .ok (.invokestatic ix, 3)) (kk : ∀ (x : Int32) w1, P x w1 → jJ K (k + rmy.cells) (n + rmy.slots) (pc + 3) lo (.int x :: st) w1) : jJ K k n pc lo (v2 :: v1 :: st) ws :=
  j_callS C (As := [v1, v2]) hM hG hown hn hroom hcells hst hd (fun r w1 hp => by obtain ⟨x, rfl, hp⟩ := hp; exact kk x w1 hp)
theorem j_callV3i (C : jC cc own Y rm nL K) {y : MethodName} {cy : ByteArray} {mL ix : Nat} {ret : Option FieldType} {rmy : Room} {a : Nat} {v1 v2 v3 : Value} {P : Int32 → va_W → Prop}
    (hM : MJ K.1.2.1 y cy mL ret rmy K.2.2.2.1 Y (.ref a :: [v1, v2, v3]) ws (jI P)) (hG : GoodIn wG (wsV own ix y.cls y (Cond.code y cy mL ret :: wG)))
    (hn : (y.cls ≠ "java/lang/invoke/MethodHandle" ∧ y.cls ≠ "java/lang/invoke/VarHandle" ∧ (parseMethodDescriptor y.desc).map (fun d => d.parameters.length) = some 3))
    (ci q0 : Nat) {q : vw_C} {fs : List Value} (hc : vwCl[ci]? = some q) (hq : q.1 = y.cls) (he : ws[q0]? = some (a, .inr (ci, fs)))
    (hroom : rmy.frames + 1 ≤ rm.frames ∧ 8 + (mL + 11) + rmy.locals ≤ rm.locals) (hcells : k + rmy.cells ≤ rm.cells ∧ n + rmy.slots ≤ rm.slots)
    (hst : (st.map fun v => v.category).sum ≤ 8) (hd : decode cc pc = .ok (.invokevirtual ix, 3)) (kk : ∀ (x : Int32) w1, P x w1 → jJ K (k + rmy.cells) (n + rmy.slots) (pc + 3) lo (.int x :: st) w1) : jJ K k n pc lo (v3 :: v2 :: v1 :: .ref a :: st) ws :=
  j_callV C (As := [v1, v2, v3]) hM hG hn hc hq he hroom hcells hst hd (fun r w1 hp => by obtain ⟨x, rfl, hp⟩ := hp; exact kk x w1 hp)
theorem j_callS3i (C : jC cc own Y rm nL K) {y : MethodName} {cy : ByteArray} {mL ix : Nat} {ret : Option FieldType} {rmy : Room} {v1 v2 v3 : Value} {P : Int32 → va_W → Prop}
    (hM : MJ K.1.2.1 y cy mL ret rmy K.2.2.2.1 Y [v1, v2, v3] ws (jI P)) (hG : GoodIn wG (wsS own ix y (Cond.code y cy mL ret :: wG))) (hown : y.cls = own)
    (hn : (y.cls ≠ "java/lang/invoke/MethodHandle" ∧ y.cls ≠ "java/lang/invoke/VarHandle" ∧ (parseMethodDescriptor y.desc).map (fun d => d.parameters.length) = some 3))
    (hroom : rmy.frames + 1 ≤ rm.frames ∧ 8 + (mL + 11) + rmy.locals ≤ rm.locals) (hcells : k + rmy.cells ≤ rm.cells ∧ n + rmy.slots ≤ rm.slots)
    (hst : (st.map fun v => v.category).sum ≤ 8) (hd : decode cc pc = .ok (.invokestatic ix, 3)) (kk : ∀ (x : Int32) w1, P x w1 → jJ K (k + rmy.cells) (n + rmy.slots) (pc + 3) lo (.int x :: st) w1) : jJ K k n pc lo (v3 :: v2 :: v1 :: st) ws :=
  j_callS C (As := [v1, v2, v3]) hM hG hown hn hroom hcells hst hd (fun r w1 hp => by obtain ⟨x, rfl, hp⟩ := hp; exact kk x w1 hp)
theorem j_callV4i (C : jC cc own Y rm nL K) {y : MethodName} {cy : ByteArray} {mL ix : Nat} {ret : Option FieldType} {rmy : Room} {a : Nat} {v1 v2 v3 v4 : Value} {P : Int32 → va_W → Prop}
    (hM : MJ K.1.2.1 y cy mL ret rmy K.2.2.2.1 Y (.ref a :: [v1, v2, v3, v4]) ws (jI P)) (hG : GoodIn wG (wsV own ix y.cls y (Cond.code y cy mL ret :: wG)))
    (hn : (y.cls ≠ "java/lang/invoke/MethodHandle" ∧ y.cls ≠ "java/lang/invoke/VarHandle" ∧ (parseMethodDescriptor y.desc).map (fun d => d.parameters.length) = some 4))
    (ci q0 : Nat) {q : vw_C} {fs : List Value} (hc : vwCl[ci]? = some q) (hq : q.1 = y.cls) (he : ws[q0]? = some (a, .inr (ci, fs)))
    (hroom : rmy.frames + 1 ≤ rm.frames ∧ 8 + (mL + 11) + rmy.locals ≤ rm.locals) (hcells : k + rmy.cells ≤ rm.cells ∧ n + rmy.slots ≤ rm.slots)
    (hst : (st.map fun v => v.category).sum ≤ 8) (hd : decode cc pc = .ok (.invokevirtual ix, 3)) (kk : ∀ (x : Int32) w1, P x w1 → jJ K (k + rmy.cells) (n + rmy.slots) (pc + 3) lo (.int x :: st) w1) : jJ K k n pc lo (v4 :: v3 :: v2 :: v1 :: .ref a :: st) ws :=
  j_callV C (As := [v1, v2, v3, v4]) hM hG hn hc hq he hroom hcells hst hd (fun r w1 hp => by obtain ⟨x, rfl, hp⟩ := hp; exact kk x w1 hp)
theorem j_callS4i (C : jC cc own Y rm nL K) {y : MethodName} {cy : ByteArray} {mL ix : Nat} {ret : Option FieldType} {rmy : Room} {v1 v2 v3 v4 : Value} {P : Int32 → va_W → Prop}
    (hM : MJ K.1.2.1 y cy mL ret rmy K.2.2.2.1 Y [v1, v2, v3, v4] ws (jI P)) (hG : GoodIn wG (wsS own ix y (Cond.code y cy mL ret :: wG))) (hown : y.cls = own)
    (hn : (y.cls ≠ "java/lang/invoke/MethodHandle" ∧ y.cls ≠ "java/lang/invoke/VarHandle" ∧ (parseMethodDescriptor y.desc).map (fun d => d.parameters.length) = some 4))
    (hroom : rmy.frames + 1 ≤ rm.frames ∧ 8 + (mL + 11) + rmy.locals ≤ rm.locals) (hcells : k + rmy.cells ≤ rm.cells ∧ n + rmy.slots ≤ rm.slots)
    (hst : (st.map fun v => v.category).sum ≤ 8) (hd : decode cc pc = .ok (.invokestatic ix, 3)) (kk : ∀ (x : Int32) w1, P x w1 → jJ K (k + rmy.cells) (n + rmy.slots) (pc + 3) lo (.int x :: st) w1) : jJ K k n pc lo (v4 :: v3 :: v2 :: v1 :: st) ws :=
  j_callS C (As := [v1, v2, v3, v4]) hM hG hown hn hroom hcells hst hd (fun r w1 hp => by obtain ⟨x, rfl, hp⟩ := hp; exact kk x w1 hp)
theorem j_callV5i (C : jC cc own Y rm nL K) {y : MethodName} {cy : ByteArray} {mL ix : Nat} {ret : Option FieldType} {rmy : Room} {a : Nat} {v1 v2 v3 v4 v5 : Value} {P : Int32 → va_W → Prop}
    (hM : MJ K.1.2.1 y cy mL ret rmy K.2.2.2.1 Y (.ref a :: [v1, v2, v3, v4, v5]) ws (jI P)) (hG : GoodIn wG (wsV own ix y.cls y (Cond.code y cy mL ret :: wG)))
    (hn : (y.cls ≠ "java/lang/invoke/MethodHandle" ∧ y.cls ≠ "java/lang/invoke/VarHandle" ∧ (parseMethodDescriptor y.desc).map (fun d => d.parameters.length) = some 5))
    (ci q0 : Nat) {q : vw_C} {fs : List Value} (hc : vwCl[ci]? = some q) (hq : q.1 = y.cls) (he : ws[q0]? = some (a, .inr (ci, fs)))
    (hroom : rmy.frames + 1 ≤ rm.frames ∧ 8 + (mL + 11) + rmy.locals ≤ rm.locals) (hcells : k + rmy.cells ≤ rm.cells ∧ n + rmy.slots ≤ rm.slots)
    (hst : (st.map fun v => v.category).sum ≤ 8) (hd : decode cc pc = .ok (.invokevirtual ix, 3)) (kk : ∀ (x : Int32) w1, P x w1 → jJ K (k + rmy.cells) (n + rmy.slots) (pc + 3) lo (.int x :: st) w1) : jJ K k n pc lo (v5 :: v4 :: v3 :: v2 :: v1 :: .ref a :: st) ws :=
  j_callV C (As := [v1, v2, v3, v4, v5]) hM hG hn hc hq he hroom hcells hst hd (fun r w1 hp => by obtain ⟨x, rfl, hp⟩ := hp; exact kk x w1 hp)
theorem j_callS5i (C : jC cc own Y rm nL K) {y : MethodName} {cy : ByteArray} {mL ix : Nat} {ret : Option FieldType} {rmy : Room} {v1 v2 v3 v4 v5 : Value} {P : Int32 → va_W → Prop}
    (hM : MJ K.1.2.1 y cy mL ret rmy K.2.2.2.1 Y [v1, v2, v3, v4, v5] ws (jI P)) (hG : GoodIn wG (wsS own ix y (Cond.code y cy mL ret :: wG))) (hown : y.cls = own)
    (hn : (y.cls ≠ "java/lang/invoke/MethodHandle" ∧ y.cls ≠ "java/lang/invoke/VarHandle" ∧ (parseMethodDescriptor y.desc).map (fun d => d.parameters.length) = some 5))
    (hroom : rmy.frames + 1 ≤ rm.frames ∧ 8 + (mL + 11) + rmy.locals ≤ rm.locals) (hcells : k + rmy.cells ≤ rm.cells ∧ n + rmy.slots ≤ rm.slots)
    (hst : (st.map fun v => v.category).sum ≤ 8) (hd : decode cc pc = .ok (.invokestatic ix, 3)) (kk : ∀ (x : Int32) w1, P x w1 → jJ K (k + rmy.cells) (n + rmy.slots) (pc + 3) lo (.int x :: st) w1) : jJ K k n pc lo (v5 :: v4 :: v3 :: v2 :: v1 :: st) ws :=
  j_callS C (As := [v1, v2, v3, v4, v5]) hM hG hown hn hroom hcells hst hd (fun r w1 hp => by obtain ⟨x, rfl, hp⟩ := hp; exact kk x w1 hp)
theorem j_callV0v (C : jC cc own Y rm nL K) {y : MethodName} {cy : ByteArray} {mL ix : Nat} {ret : Option FieldType} {rmy : Room} {a : Nat}  {P : va_W → Prop}
    (hM : MJ K.1.2.1 y cy mL ret rmy K.2.2.2.1 Y (.ref a :: []) ws (jV P)) (hG : GoodIn wG (wsV own ix y.cls y (Cond.code y cy mL ret :: wG)))
    (hn : (y.cls ≠ "java/lang/invoke/MethodHandle" ∧ y.cls ≠ "java/lang/invoke/VarHandle" ∧ (parseMethodDescriptor y.desc).map (fun d => d.parameters.length) = some 0))
    (ci q0 : Nat) {q : vw_C} {fs : List Value} (hc : vwCl[ci]? = some q) (hq : q.1 = y.cls) (he : ws[q0]? = some (a, .inr (ci, fs)))
    (hroom : rmy.frames + 1 ≤ rm.frames ∧ 8 + (mL + 11) + rmy.locals ≤ rm.locals) (hcells : k + rmy.cells ≤ rm.cells ∧ n + rmy.slots ≤ rm.slots)
    (hst : (st.map fun v => v.category).sum ≤ 8) (hd : decode cc pc = .ok (.invokevirtual ix, 3)) (kk : ∀ w1, P w1 → jJ K (k + rmy.cells) (n + rmy.slots) (pc + 3) lo st w1) : jJ K k n pc lo (.ref a :: st) ws :=
  j_callV C (As := []) hM hG hn hc hq he hroom hcells hst hd (fun r w1 hp => by obtain ⟨rfl, hp⟩ := hp; exact kk w1 hp)
theorem j_callS0v (C : jC cc own Y rm nL K) {y : MethodName} {cy : ByteArray} {mL ix : Nat} {ret : Option FieldType} {rmy : Room}  {P : va_W → Prop}
    (hM : MJ K.1.2.1 y cy mL ret rmy K.2.2.2.1 Y [] ws (jV P)) (hG : GoodIn wG (wsS own ix y (Cond.code y cy mL ret :: wG))) (hown : y.cls = own)
    (hn : (y.cls ≠ "java/lang/invoke/MethodHandle" ∧ y.cls ≠ "java/lang/invoke/VarHandle" ∧ (parseMethodDescriptor y.desc).map (fun d => d.parameters.length) = some 0))
    (hroom : rmy.frames + 1 ≤ rm.frames ∧ 8 + (mL + 11) + rmy.locals ≤ rm.locals) (hcells : k + rmy.cells ≤ rm.cells ∧ n + rmy.slots ≤ rm.slots)
    (hst : (st.map fun v => v.category).sum ≤ 8) (hd : decode cc pc = .ok (.invokestatic ix, 3)) (kk : ∀ w1, P w1 → jJ K (k + rmy.cells) (n + rmy.slots) (pc + 3) lo st w1) : jJ K k n pc lo (st) ws :=
  j_callS C (As := []) hM hG hown hn hroom hcells hst hd (fun r w1 hp => by obtain ⟨rfl, hp⟩ := hp; exact kk w1 hp)
theorem j_callV1v (C : jC cc own Y rm nL K) {y : MethodName} {cy : ByteArray} {mL ix : Nat} {ret : Option FieldType} {rmy : Room} {a : Nat} {v1 : Value} {P : va_W → Prop}
    (hM : MJ K.1.2.1 y cy mL ret rmy K.2.2.2.1 Y (.ref a :: [v1]) ws (jV P)) (hG : GoodIn wG (wsV own ix y.cls y (Cond.code y cy mL ret :: wG)))
    (hn : (y.cls ≠ "java/lang/invoke/MethodHandle" ∧ y.cls ≠ "java/lang/invoke/VarHandle" ∧ (parseMethodDescriptor y.desc).map (fun d => d.parameters.length) = some 1))
    (ci q0 : Nat) {q : vw_C} {fs : List Value} (hc : vwCl[ci]? = some q) (hq : q.1 = y.cls) (he : ws[q0]? = some (a, .inr (ci, fs)))
    (hroom : rmy.frames + 1 ≤ rm.frames ∧ 8 + (mL + 11) + rmy.locals ≤ rm.locals) (hcells : k + rmy.cells ≤ rm.cells ∧ n + rmy.slots ≤ rm.slots)
    (hst : (st.map fun v => v.category).sum ≤ 8) (hd : decode cc pc = .ok (.invokevirtual ix, 3)) (kk : ∀ w1, P w1 → jJ K (k + rmy.cells) (n + rmy.slots) (pc + 3) lo st w1) : jJ K k n pc lo (v1 :: .ref a :: st) ws :=
  j_callV C (As := [v1]) hM hG hn hc hq he hroom hcells hst hd (fun r w1 hp => by obtain ⟨rfl, hp⟩ := hp; exact kk w1 hp)
theorem j_callS1v (C : jC cc own Y rm nL K) {y : MethodName} {cy : ByteArray} {mL ix : Nat} {ret : Option FieldType} {rmy : Room} {v1 : Value} {P : va_W → Prop}
    (hM : MJ K.1.2.1 y cy mL ret rmy K.2.2.2.1 Y [v1] ws (jV P)) (hG : GoodIn wG (wsS own ix y (Cond.code y cy mL ret :: wG))) (hown : y.cls = own)
    (hn : (y.cls ≠ "java/lang/invoke/MethodHandle" ∧ y.cls ≠ "java/lang/invoke/VarHandle" ∧ (parseMethodDescriptor y.desc).map (fun d => d.parameters.length) = some 1))
    (hroom : rmy.frames + 1 ≤ rm.frames ∧ 8 + (mL + 11) + rmy.locals ≤ rm.locals) (hcells : k + rmy.cells ≤ rm.cells ∧ n + rmy.slots ≤ rm.slots)
    (hst : (st.map fun v => v.category).sum ≤ 8) (hd : decode cc pc = .ok (.invokestatic ix, 3)) (kk : ∀ w1, P w1 → jJ K (k + rmy.cells) (n + rmy.slots) (pc + 3) lo st w1) : jJ K k n pc lo (v1 :: st) ws :=
  j_callS C (As := [v1]) hM hG hown hn hroom hcells hst hd (fun r w1 hp => by obtain ⟨rfl, hp⟩ := hp; exact kk w1 hp)
theorem j_callV2v (C : jC cc own Y rm nL K) {y : MethodName} {cy : ByteArray} {mL ix : Nat} {ret : Option FieldType} {rmy : Room} {a : Nat} {v1 v2 : Value} {P : va_W → Prop}
    (hM : MJ K.1.2.1 y cy mL ret rmy K.2.2.2.1 Y (.ref a :: [v1, v2]) ws (jV P)) (hG : GoodIn wG (wsV own ix y.cls y (Cond.code y cy mL ret :: wG)))
    (hn : (y.cls ≠ "java/lang/invoke/MethodHandle" ∧ y.cls ≠ "java/lang/invoke/VarHandle" ∧ (parseMethodDescriptor y.desc).map (fun d => d.parameters.length) = some 2))
    (ci q0 : Nat) {q : vw_C} {fs : List Value} (hc : vwCl[ci]? = some q) (hq : q.1 = y.cls) (he : ws[q0]? = some (a, .inr (ci, fs)))
    (hroom : rmy.frames + 1 ≤ rm.frames ∧ 8 + (mL + 11) + rmy.locals ≤ rm.locals) (hcells : k + rmy.cells ≤ rm.cells ∧ n + rmy.slots ≤ rm.slots)
    (hst : (st.map fun v => v.category).sum ≤ 8) (hd : decode cc pc = .ok (.invokevirtual ix, 3)) (kk : ∀ w1, P w1 → jJ K (k + rmy.cells) (n + rmy.slots) (pc + 3) lo st w1) : jJ K k n pc lo (v2 :: v1 :: .ref a :: st) ws :=
  j_callV C (As := [v1, v2]) hM hG hn hc hq he hroom hcells hst hd (fun r w1 hp => by obtain ⟨rfl, hp⟩ := hp; exact kk w1 hp)
theorem j_callS2v (C : jC cc own Y rm nL K) {y : MethodName} {cy : ByteArray} {mL ix : Nat} {ret : Option FieldType} {rmy : Room} {v1 v2 : Value} {P : va_W → Prop}
    (hM : MJ K.1.2.1 y cy mL ret rmy K.2.2.2.1 Y [v1, v2] ws (jV P)) (hG : GoodIn wG (wsS own ix y (Cond.code y cy mL ret :: wG))) (hown : y.cls = own)
    (hn : (y.cls ≠ "java/lang/invoke/MethodHandle" ∧ y.cls ≠ "java/lang/invoke/VarHandle" ∧ (parseMethodDescriptor y.desc).map (fun d => d.parameters.length) = some 2))
    (hroom : rmy.frames + 1 ≤ rm.frames ∧ 8 + (mL + 11) + rmy.locals ≤ rm.locals) (hcells : k + rmy.cells ≤ rm.cells ∧ n + rmy.slots ≤ rm.slots)
    (hst : (st.map fun v => v.category).sum ≤ 8) (hd : decode cc pc = .ok (.invokestatic ix, 3)) (kk : ∀ w1, P w1 → jJ K (k + rmy.cells) (n + rmy.slots) (pc + 3) lo st w1) : jJ K k n pc lo (v2 :: v1 :: st) ws :=
  j_callS C (As := [v1, v2]) hM hG hown hn hroom hcells hst hd (fun r w1 hp => by obtain ⟨rfl, hp⟩ := hp; exact kk w1 hp)
theorem j_callV3v (C : jC cc own Y rm nL K) {y : MethodName} {cy : ByteArray} {mL ix : Nat} {ret : Option FieldType} {rmy : Room} {a : Nat} {v1 v2 v3 : Value} {P : va_W → Prop}
    (hM : MJ K.1.2.1 y cy mL ret rmy K.2.2.2.1 Y (.ref a :: [v1, v2, v3]) ws (jV P)) (hG : GoodIn wG (wsV own ix y.cls y (Cond.code y cy mL ret :: wG)))
    (hn : (y.cls ≠ "java/lang/invoke/MethodHandle" ∧ y.cls ≠ "java/lang/invoke/VarHandle" ∧ (parseMethodDescriptor y.desc).map (fun d => d.parameters.length) = some 3))
    (ci q0 : Nat) {q : vw_C} {fs : List Value} (hc : vwCl[ci]? = some q) (hq : q.1 = y.cls) (he : ws[q0]? = some (a, .inr (ci, fs)))
    (hroom : rmy.frames + 1 ≤ rm.frames ∧ 8 + (mL + 11) + rmy.locals ≤ rm.locals) (hcells : k + rmy.cells ≤ rm.cells ∧ n + rmy.slots ≤ rm.slots)
    (hst : (st.map fun v => v.category).sum ≤ 8) (hd : decode cc pc = .ok (.invokevirtual ix, 3)) (kk : ∀ w1, P w1 → jJ K (k + rmy.cells) (n + rmy.slots) (pc + 3) lo st w1) : jJ K k n pc lo (v3 :: v2 :: v1 :: .ref a :: st) ws :=
  j_callV C (As := [v1, v2, v3]) hM hG hn hc hq he hroom hcells hst hd (fun r w1 hp => by obtain ⟨rfl, hp⟩ := hp; exact kk w1 hp)
theorem j_callS3v (C : jC cc own Y rm nL K) {y : MethodName} {cy : ByteArray} {mL ix : Nat} {ret : Option FieldType} {rmy : Room} {v1 v2 v3 : Value} {P : va_W → Prop}
    (hM : MJ K.1.2.1 y cy mL ret rmy K.2.2.2.1 Y [v1, v2, v3] ws (jV P)) (hG : GoodIn wG (wsS own ix y (Cond.code y cy mL ret :: wG))) (hown : y.cls = own)
    (hn : (y.cls ≠ "java/lang/invoke/MethodHandle" ∧ y.cls ≠ "java/lang/invoke/VarHandle" ∧ (parseMethodDescriptor y.desc).map (fun d => d.parameters.length) = some 3))
    (hroom : rmy.frames + 1 ≤ rm.frames ∧ 8 + (mL + 11) + rmy.locals ≤ rm.locals) (hcells : k + rmy.cells ≤ rm.cells ∧ n + rmy.slots ≤ rm.slots)
    (hst : (st.map fun v => v.category).sum ≤ 8) (hd : decode cc pc = .ok (.invokestatic ix, 3)) (kk : ∀ w1, P w1 → jJ K (k + rmy.cells) (n + rmy.slots) (pc + 3) lo st w1) : jJ K k n pc lo (v3 :: v2 :: v1 :: st) ws :=
  j_callS C (As := [v1, v2, v3]) hM hG hown hn hroom hcells hst hd (fun r w1 hp => by obtain ⟨rfl, hp⟩ := hp; exact kk w1 hp)
theorem j_callV4v (C : jC cc own Y rm nL K) {y : MethodName} {cy : ByteArray} {mL ix : Nat} {ret : Option FieldType} {rmy : Room} {a : Nat} {v1 v2 v3 v4 : Value} {P : va_W → Prop}
    (hM : MJ K.1.2.1 y cy mL ret rmy K.2.2.2.1 Y (.ref a :: [v1, v2, v3, v4]) ws (jV P)) (hG : GoodIn wG (wsV own ix y.cls y (Cond.code y cy mL ret :: wG)))
    (hn : (y.cls ≠ "java/lang/invoke/MethodHandle" ∧ y.cls ≠ "java/lang/invoke/VarHandle" ∧ (parseMethodDescriptor y.desc).map (fun d => d.parameters.length) = some 4))
    (ci q0 : Nat) {q : vw_C} {fs : List Value} (hc : vwCl[ci]? = some q) (hq : q.1 = y.cls) (he : ws[q0]? = some (a, .inr (ci, fs)))
    (hroom : rmy.frames + 1 ≤ rm.frames ∧ 8 + (mL + 11) + rmy.locals ≤ rm.locals) (hcells : k + rmy.cells ≤ rm.cells ∧ n + rmy.slots ≤ rm.slots)
    (hst : (st.map fun v => v.category).sum ≤ 8) (hd : decode cc pc = .ok (.invokevirtual ix, 3)) (kk : ∀ w1, P w1 → jJ K (k + rmy.cells) (n + rmy.slots) (pc + 3) lo st w1) : jJ K k n pc lo (v4 :: v3 :: v2 :: v1 :: .ref a :: st) ws :=
  j_callV C (As := [v1, v2, v3, v4]) hM hG hn hc hq he hroom hcells hst hd (fun r w1 hp => by obtain ⟨rfl, hp⟩ := hp; exact kk w1 hp)
theorem j_callS4v (C : jC cc own Y rm nL K) {y : MethodName} {cy : ByteArray} {mL ix : Nat} {ret : Option FieldType} {rmy : Room} {v1 v2 v3 v4 : Value} {P : va_W → Prop}
    (hM : MJ K.1.2.1 y cy mL ret rmy K.2.2.2.1 Y [v1, v2, v3, v4] ws (jV P)) (hG : GoodIn wG (wsS own ix y (Cond.code y cy mL ret :: wG))) (hown : y.cls = own)
    (hn : (y.cls ≠ "java/lang/invoke/MethodHandle" ∧ y.cls ≠ "java/lang/invoke/VarHandle" ∧ (parseMethodDescriptor y.desc).map (fun d => d.parameters.length) = some 4))
    (hroom : rmy.frames + 1 ≤ rm.frames ∧ 8 + (mL + 11) + rmy.locals ≤ rm.locals) (hcells : k + rmy.cells ≤ rm.cells ∧ n + rmy.slots ≤ rm.slots)
    (hst : (st.map fun v => v.category).sum ≤ 8) (hd : decode cc pc = .ok (.invokestatic ix, 3)) (kk : ∀ w1, P w1 → jJ K (k + rmy.cells) (n + rmy.slots) (pc + 3) lo st w1) : jJ K k n pc lo (v4 :: v3 :: v2 :: v1 :: st) ws :=
  j_callS C (As := [v1, v2, v3, v4]) hM hG hown hn hroom hcells hst hd (fun r w1 hp => by obtain ⟨rfl, hp⟩ := hp; exact kk w1 hp)
theorem j_callV5v (C : jC cc own Y rm nL K) {y : MethodName} {cy : ByteArray} {mL ix : Nat} {ret : Option FieldType} {rmy : Room} {a : Nat} {v1 v2 v3 v4 v5 : Value} {P : va_W → Prop}
    (hM : MJ K.1.2.1 y cy mL ret rmy K.2.2.2.1 Y (.ref a :: [v1, v2, v3, v4, v5]) ws (jV P)) (hG : GoodIn wG (wsV own ix y.cls y (Cond.code y cy mL ret :: wG)))
    (hn : (y.cls ≠ "java/lang/invoke/MethodHandle" ∧ y.cls ≠ "java/lang/invoke/VarHandle" ∧ (parseMethodDescriptor y.desc).map (fun d => d.parameters.length) = some 5))
    (ci q0 : Nat) {q : vw_C} {fs : List Value} (hc : vwCl[ci]? = some q) (hq : q.1 = y.cls) (he : ws[q0]? = some (a, .inr (ci, fs)))
    (hroom : rmy.frames + 1 ≤ rm.frames ∧ 8 + (mL + 11) + rmy.locals ≤ rm.locals) (hcells : k + rmy.cells ≤ rm.cells ∧ n + rmy.slots ≤ rm.slots)
    (hst : (st.map fun v => v.category).sum ≤ 8) (hd : decode cc pc = .ok (.invokevirtual ix, 3)) (kk : ∀ w1, P w1 → jJ K (k + rmy.cells) (n + rmy.slots) (pc + 3) lo st w1) : jJ K k n pc lo (v5 :: v4 :: v3 :: v2 :: v1 :: .ref a :: st) ws :=
  j_callV C (As := [v1, v2, v3, v4, v5]) hM hG hn hc hq he hroom hcells hst hd (fun r w1 hp => by obtain ⟨rfl, hp⟩ := hp; exact kk w1 hp)
theorem j_callS5v (C : jC cc own Y rm nL K) {y : MethodName} {cy : ByteArray} {mL ix : Nat} {ret : Option FieldType} {rmy : Room} {v1 v2 v3 v4 v5 : Value} {P : va_W → Prop}
    (hM : MJ K.1.2.1 y cy mL ret rmy K.2.2.2.1 Y [v1, v2, v3, v4, v5] ws (jV P)) (hG : GoodIn wG (wsS own ix y (Cond.code y cy mL ret :: wG))) (hown : y.cls = own)
    (hn : (y.cls ≠ "java/lang/invoke/MethodHandle" ∧ y.cls ≠ "java/lang/invoke/VarHandle" ∧ (parseMethodDescriptor y.desc).map (fun d => d.parameters.length) = some 5))
    (hroom : rmy.frames + 1 ≤ rm.frames ∧ 8 + (mL + 11) + rmy.locals ≤ rm.locals) (hcells : k + rmy.cells ≤ rm.cells ∧ n + rmy.slots ≤ rm.slots)
    (hst : (st.map fun v => v.category).sum ≤ 8) (hd : decode cc pc = .ok (.invokestatic ix, 3)) (kk : ∀ w1, P w1 → jJ K (k + rmy.cells) (n + rmy.slots) (pc + 3) lo st w1) : jJ K k n pc lo (v5 :: v4 :: v3 :: v2 :: v1 :: st) ws :=
  j_callS C (As := [v1, v2, v3, v4, v5]) hM hG hown hn hroom hcells hst hd (fun r w1 hp => by obtain ⟨rfl, hp⟩ := hp; exact kk w1 hp)
theorem j_callV0a (C : jC cc own Y rm nL K) {y : MethodName} {cy : ByteArray} {mL ix : Nat} {ret : Option FieldType} {rmy : Room} {a : Nat}  {P : Nat → va_W → Prop}
    (hM : MJ K.1.2.1 y cy mL ret rmy K.2.2.2.1 Y (.ref a :: []) ws (jA P)) (hG : GoodIn wG (wsV own ix y.cls y (Cond.code y cy mL ret :: wG)))
    (hn : (y.cls ≠ "java/lang/invoke/MethodHandle" ∧ y.cls ≠ "java/lang/invoke/VarHandle" ∧ (parseMethodDescriptor y.desc).map (fun d => d.parameters.length) = some 0))
    (ci q0 : Nat) {q : vw_C} {fs : List Value} (hc : vwCl[ci]? = some q) (hq : q.1 = y.cls) (he : ws[q0]? = some (a, .inr (ci, fs)))
    (hroom : rmy.frames + 1 ≤ rm.frames ∧ 8 + (mL + 11) + rmy.locals ≤ rm.locals) (hcells : k + rmy.cells ≤ rm.cells ∧ n + rmy.slots ≤ rm.slots)
    (hst : (st.map fun v => v.category).sum ≤ 8) (hd : decode cc pc = .ok (.invokevirtual ix, 3)) (kk : ∀ (x : Nat) w1, P x w1 → jJ K (k + rmy.cells) (n + rmy.slots) (pc + 3) lo (.ref x :: st) w1) : jJ K k n pc lo (.ref a :: st) ws :=
  j_callV C (As := []) hM hG hn hc hq he hroom hcells hst hd (fun r w1 hp => by obtain ⟨x, rfl, hp⟩ := hp; exact kk x w1 hp)
theorem j_callS0a (C : jC cc own Y rm nL K) {y : MethodName} {cy : ByteArray} {mL ix : Nat} {ret : Option FieldType} {rmy : Room}  {P : Nat → va_W → Prop}
    (hM : MJ K.1.2.1 y cy mL ret rmy K.2.2.2.1 Y [] ws (jA P)) (hG : GoodIn wG (wsS own ix y (Cond.code y cy mL ret :: wG))) (hown : y.cls = own)
    (hn : (y.cls ≠ "java/lang/invoke/MethodHandle" ∧ y.cls ≠ "java/lang/invoke/VarHandle" ∧ (parseMethodDescriptor y.desc).map (fun d => d.parameters.length) = some 0))
    (hroom : rmy.frames + 1 ≤ rm.frames ∧ 8 + (mL + 11) + rmy.locals ≤ rm.locals) (hcells : k + rmy.cells ≤ rm.cells ∧ n + rmy.slots ≤ rm.slots)
    (hst : (st.map fun v => v.category).sum ≤ 8) (hd : decode cc pc = .ok (.invokestatic ix, 3)) (kk : ∀ (x : Nat) w1, P x w1 → jJ K (k + rmy.cells) (n + rmy.slots) (pc + 3) lo (.ref x :: st) w1) : jJ K k n pc lo (st) ws :=
  j_callS C (As := []) hM hG hown hn hroom hcells hst hd (fun r w1 hp => by obtain ⟨x, rfl, hp⟩ := hp; exact kk x w1 hp)
theorem j_callV1a (C : jC cc own Y rm nL K) {y : MethodName} {cy : ByteArray} {mL ix : Nat} {ret : Option FieldType} {rmy : Room} {a : Nat} {v1 : Value} {P : Nat → va_W → Prop}
    (hM : MJ K.1.2.1 y cy mL ret rmy K.2.2.2.1 Y (.ref a :: [v1]) ws (jA P)) (hG : GoodIn wG (wsV own ix y.cls y (Cond.code y cy mL ret :: wG)))
    (hn : (y.cls ≠ "java/lang/invoke/MethodHandle" ∧ y.cls ≠ "java/lang/invoke/VarHandle" ∧ (parseMethodDescriptor y.desc).map (fun d => d.parameters.length) = some 1))
    (ci q0 : Nat) {q : vw_C} {fs : List Value} (hc : vwCl[ci]? = some q) (hq : q.1 = y.cls) (he : ws[q0]? = some (a, .inr (ci, fs)))
    (hroom : rmy.frames + 1 ≤ rm.frames ∧ 8 + (mL + 11) + rmy.locals ≤ rm.locals) (hcells : k + rmy.cells ≤ rm.cells ∧ n + rmy.slots ≤ rm.slots)
    (hst : (st.map fun v => v.category).sum ≤ 8) (hd : decode cc pc = .ok (.invokevirtual ix, 3)) (kk : ∀ (x : Nat) w1, P x w1 → jJ K (k + rmy.cells) (n + rmy.slots) (pc + 3) lo (.ref x :: st) w1) : jJ K k n pc lo (v1 :: .ref a :: st) ws :=
  j_callV C (As := [v1]) hM hG hn hc hq he hroom hcells hst hd (fun r w1 hp => by obtain ⟨x, rfl, hp⟩ := hp; exact kk x w1 hp)
theorem j_callS1a (C : jC cc own Y rm nL K) {y : MethodName} {cy : ByteArray} {mL ix : Nat} {ret : Option FieldType} {rmy : Room} {v1 : Value} {P : Nat → va_W → Prop}
    (hM : MJ K.1.2.1 y cy mL ret rmy K.2.2.2.1 Y [v1] ws (jA P)) (hG : GoodIn wG (wsS own ix y (Cond.code y cy mL ret :: wG))) (hown : y.cls = own)
    (hn : (y.cls ≠ "java/lang/invoke/MethodHandle" ∧ y.cls ≠ "java/lang/invoke/VarHandle" ∧ (parseMethodDescriptor y.desc).map (fun d => d.parameters.length) = some 1))
    (hroom : rmy.frames + 1 ≤ rm.frames ∧ 8 + (mL + 11) + rmy.locals ≤ rm.locals) (hcells : k + rmy.cells ≤ rm.cells ∧ n + rmy.slots ≤ rm.slots)
    (hst : (st.map fun v => v.category).sum ≤ 8) (hd : decode cc pc = .ok (.invokestatic ix, 3)) (kk : ∀ (x : Nat) w1, P x w1 → jJ K (k + rmy.cells) (n + rmy.slots) (pc + 3) lo (.ref x :: st) w1) : jJ K k n pc lo (v1 :: st) ws :=
  j_callS C (As := [v1]) hM hG hown hn hroom hcells hst hd (fun r w1 hp => by obtain ⟨x, rfl, hp⟩ := hp; exact kk x w1 hp)
theorem j_callV2a (C : jC cc own Y rm nL K) {y : MethodName} {cy : ByteArray} {mL ix : Nat} {ret : Option FieldType} {rmy : Room} {a : Nat} {v1 v2 : Value} {P : Nat → va_W → Prop}
    (hM : MJ K.1.2.1 y cy mL ret rmy K.2.2.2.1 Y (.ref a :: [v1, v2]) ws (jA P)) (hG : GoodIn wG (wsV own ix y.cls y (Cond.code y cy mL ret :: wG)))
    (hn : (y.cls ≠ "java/lang/invoke/MethodHandle" ∧ y.cls ≠ "java/lang/invoke/VarHandle" ∧ (parseMethodDescriptor y.desc).map (fun d => d.parameters.length) = some 2))
    (ci q0 : Nat) {q : vw_C} {fs : List Value} (hc : vwCl[ci]? = some q) (hq : q.1 = y.cls) (he : ws[q0]? = some (a, .inr (ci, fs)))
    (hroom : rmy.frames + 1 ≤ rm.frames ∧ 8 + (mL + 11) + rmy.locals ≤ rm.locals) (hcells : k + rmy.cells ≤ rm.cells ∧ n + rmy.slots ≤ rm.slots)
    (hst : (st.map fun v => v.category).sum ≤ 8) (hd : decode cc pc = .ok (.invokevirtual ix, 3)) (kk : ∀ (x : Nat) w1, P x w1 → jJ K (k + rmy.cells) (n + rmy.slots) (pc + 3) lo (.ref x :: st) w1) : jJ K k n pc lo (v2 :: v1 :: .ref a :: st) ws :=
  j_callV C (As := [v1, v2]) hM hG hn hc hq he hroom hcells hst hd (fun r w1 hp => by obtain ⟨x, rfl, hp⟩ := hp; exact kk x w1 hp)
theorem j_callS2a (C : jC cc own Y rm nL K) {y : MethodName} {cy : ByteArray} {mL ix : Nat} {ret : Option FieldType} {rmy : Room} {v1 v2 : Value} {P : Nat → va_W → Prop}
    (hM : MJ K.1.2.1 y cy mL ret rmy K.2.2.2.1 Y [v1, v2] ws (jA P)) (hG : GoodIn wG (wsS own ix y (Cond.code y cy mL ret :: wG))) (hown : y.cls = own)
    (hn : (y.cls ≠ "java/lang/invoke/MethodHandle" ∧ y.cls ≠ "java/lang/invoke/VarHandle" ∧ (parseMethodDescriptor y.desc).map (fun d => d.parameters.length) = some 2))
    (hroom : rmy.frames + 1 ≤ rm.frames ∧ 8 + (mL + 11) + rmy.locals ≤ rm.locals) (hcells : k + rmy.cells ≤ rm.cells ∧ n + rmy.slots ≤ rm.slots)
    (hst : (st.map fun v => v.category).sum ≤ 8) (hd : decode cc pc = .ok (.invokestatic ix, 3)) (kk : ∀ (x : Nat) w1, P x w1 → jJ K (k + rmy.cells) (n + rmy.slots) (pc + 3) lo (.ref x :: st) w1) : jJ K k n pc lo (v2 :: v1 :: st) ws :=
  j_callS C (As := [v1, v2]) hM hG hown hn hroom hcells hst hd (fun r w1 hp => by obtain ⟨x, rfl, hp⟩ := hp; exact kk x w1 hp)
theorem j_callV3a (C : jC cc own Y rm nL K) {y : MethodName} {cy : ByteArray} {mL ix : Nat} {ret : Option FieldType} {rmy : Room} {a : Nat} {v1 v2 v3 : Value} {P : Nat → va_W → Prop}
    (hM : MJ K.1.2.1 y cy mL ret rmy K.2.2.2.1 Y (.ref a :: [v1, v2, v3]) ws (jA P)) (hG : GoodIn wG (wsV own ix y.cls y (Cond.code y cy mL ret :: wG)))
    (hn : (y.cls ≠ "java/lang/invoke/MethodHandle" ∧ y.cls ≠ "java/lang/invoke/VarHandle" ∧ (parseMethodDescriptor y.desc).map (fun d => d.parameters.length) = some 3))
    (ci q0 : Nat) {q : vw_C} {fs : List Value} (hc : vwCl[ci]? = some q) (hq : q.1 = y.cls) (he : ws[q0]? = some (a, .inr (ci, fs)))
    (hroom : rmy.frames + 1 ≤ rm.frames ∧ 8 + (mL + 11) + rmy.locals ≤ rm.locals) (hcells : k + rmy.cells ≤ rm.cells ∧ n + rmy.slots ≤ rm.slots)
    (hst : (st.map fun v => v.category).sum ≤ 8) (hd : decode cc pc = .ok (.invokevirtual ix, 3)) (kk : ∀ (x : Nat) w1, P x w1 → jJ K (k + rmy.cells) (n + rmy.slots) (pc + 3) lo (.ref x :: st) w1) : jJ K k n pc lo (v3 :: v2 :: v1 :: .ref a :: st) ws :=
  j_callV C (As := [v1, v2, v3]) hM hG hn hc hq he hroom hcells hst hd (fun r w1 hp => by obtain ⟨x, rfl, hp⟩ := hp; exact kk x w1 hp)
theorem j_callS3a (C : jC cc own Y rm nL K) {y : MethodName} {cy : ByteArray} {mL ix : Nat} {ret : Option FieldType} {rmy : Room} {v1 v2 v3 : Value} {P : Nat → va_W → Prop}
    (hM : MJ K.1.2.1 y cy mL ret rmy K.2.2.2.1 Y [v1, v2, v3] ws (jA P)) (hG : GoodIn wG (wsS own ix y (Cond.code y cy mL ret :: wG))) (hown : y.cls = own)
    (hn : (y.cls ≠ "java/lang/invoke/MethodHandle" ∧ y.cls ≠ "java/lang/invoke/VarHandle" ∧ (parseMethodDescriptor y.desc).map (fun d => d.parameters.length) = some 3))
    (hroom : rmy.frames + 1 ≤ rm.frames ∧ 8 + (mL + 11) + rmy.locals ≤ rm.locals) (hcells : k + rmy.cells ≤ rm.cells ∧ n + rmy.slots ≤ rm.slots)
    (hst : (st.map fun v => v.category).sum ≤ 8) (hd : decode cc pc = .ok (.invokestatic ix, 3)) (kk : ∀ (x : Nat) w1, P x w1 → jJ K (k + rmy.cells) (n + rmy.slots) (pc + 3) lo (.ref x :: st) w1) : jJ K k n pc lo (v3 :: v2 :: v1 :: st) ws :=
  j_callS C (As := [v1, v2, v3]) hM hG hown hn hroom hcells hst hd (fun r w1 hp => by obtain ⟨x, rfl, hp⟩ := hp; exact kk x w1 hp)
theorem j_callV4a (C : jC cc own Y rm nL K) {y : MethodName} {cy : ByteArray} {mL ix : Nat} {ret : Option FieldType} {rmy : Room} {a : Nat} {v1 v2 v3 v4 : Value} {P : Nat → va_W → Prop}
    (hM : MJ K.1.2.1 y cy mL ret rmy K.2.2.2.1 Y (.ref a :: [v1, v2, v3, v4]) ws (jA P)) (hG : GoodIn wG (wsV own ix y.cls y (Cond.code y cy mL ret :: wG)))
    (hn : (y.cls ≠ "java/lang/invoke/MethodHandle" ∧ y.cls ≠ "java/lang/invoke/VarHandle" ∧ (parseMethodDescriptor y.desc).map (fun d => d.parameters.length) = some 4))
    (ci q0 : Nat) {q : vw_C} {fs : List Value} (hc : vwCl[ci]? = some q) (hq : q.1 = y.cls) (he : ws[q0]? = some (a, .inr (ci, fs)))
    (hroom : rmy.frames + 1 ≤ rm.frames ∧ 8 + (mL + 11) + rmy.locals ≤ rm.locals) (hcells : k + rmy.cells ≤ rm.cells ∧ n + rmy.slots ≤ rm.slots)
    (hst : (st.map fun v => v.category).sum ≤ 8) (hd : decode cc pc = .ok (.invokevirtual ix, 3)) (kk : ∀ (x : Nat) w1, P x w1 → jJ K (k + rmy.cells) (n + rmy.slots) (pc + 3) lo (.ref x :: st) w1) : jJ K k n pc lo (v4 :: v3 :: v2 :: v1 :: .ref a :: st) ws :=
  j_callV C (As := [v1, v2, v3, v4]) hM hG hn hc hq he hroom hcells hst hd (fun r w1 hp => by obtain ⟨x, rfl, hp⟩ := hp; exact kk x w1 hp)
theorem j_callS4a (C : jC cc own Y rm nL K) {y : MethodName} {cy : ByteArray} {mL ix : Nat} {ret : Option FieldType} {rmy : Room} {v1 v2 v3 v4 : Value} {P : Nat → va_W → Prop}
    (hM : MJ K.1.2.1 y cy mL ret rmy K.2.2.2.1 Y [v1, v2, v3, v4] ws (jA P)) (hG : GoodIn wG (wsS own ix y (Cond.code y cy mL ret :: wG))) (hown : y.cls = own)
    (hn : (y.cls ≠ "java/lang/invoke/MethodHandle" ∧ y.cls ≠ "java/lang/invoke/VarHandle" ∧ (parseMethodDescriptor y.desc).map (fun d => d.parameters.length) = some 4))
    (hroom : rmy.frames + 1 ≤ rm.frames ∧ 8 + (mL + 11) + rmy.locals ≤ rm.locals) (hcells : k + rmy.cells ≤ rm.cells ∧ n + rmy.slots ≤ rm.slots)
    (hst : (st.map fun v => v.category).sum ≤ 8) (hd : decode cc pc = .ok (.invokestatic ix, 3)) (kk : ∀ (x : Nat) w1, P x w1 → jJ K (k + rmy.cells) (n + rmy.slots) (pc + 3) lo (.ref x :: st) w1) : jJ K k n pc lo (v4 :: v3 :: v2 :: v1 :: st) ws :=
  j_callS C (As := [v1, v2, v3, v4]) hM hG hown hn hroom hcells hst hd (fun r w1 hp => by obtain ⟨x, rfl, hp⟩ := hp; exact kk x w1 hp)
theorem j_callV5a (C : jC cc own Y rm nL K) {y : MethodName} {cy : ByteArray} {mL ix : Nat} {ret : Option FieldType} {rmy : Room} {a : Nat} {v1 v2 v3 v4 v5 : Value} {P : Nat → va_W → Prop}
    (hM : MJ K.1.2.1 y cy mL ret rmy K.2.2.2.1 Y (.ref a :: [v1, v2, v3, v4, v5]) ws (jA P)) (hG : GoodIn wG (wsV own ix y.cls y (Cond.code y cy mL ret :: wG)))
    (hn : (y.cls ≠ "java/lang/invoke/MethodHandle" ∧ y.cls ≠ "java/lang/invoke/VarHandle" ∧ (parseMethodDescriptor y.desc).map (fun d => d.parameters.length) = some 5))
    (ci q0 : Nat) {q : vw_C} {fs : List Value} (hc : vwCl[ci]? = some q) (hq : q.1 = y.cls) (he : ws[q0]? = some (a, .inr (ci, fs)))
    (hroom : rmy.frames + 1 ≤ rm.frames ∧ 8 + (mL + 11) + rmy.locals ≤ rm.locals) (hcells : k + rmy.cells ≤ rm.cells ∧ n + rmy.slots ≤ rm.slots)
    (hst : (st.map fun v => v.category).sum ≤ 8) (hd : decode cc pc = .ok (.invokevirtual ix, 3)) (kk : ∀ (x : Nat) w1, P x w1 → jJ K (k + rmy.cells) (n + rmy.slots) (pc + 3) lo (.ref x :: st) w1) : jJ K k n pc lo (v5 :: v4 :: v3 :: v2 :: v1 :: .ref a :: st) ws :=
  j_callV C (As := [v1, v2, v3, v4, v5]) hM hG hn hc hq he hroom hcells hst hd (fun r w1 hp => by obtain ⟨x, rfl, hp⟩ := hp; exact kk x w1 hp)
theorem j_callS5a (C : jC cc own Y rm nL K) {y : MethodName} {cy : ByteArray} {mL ix : Nat} {ret : Option FieldType} {rmy : Room} {v1 v2 v3 v4 v5 : Value} {P : Nat → va_W → Prop}
    (hM : MJ K.1.2.1 y cy mL ret rmy K.2.2.2.1 Y [v1, v2, v3, v4, v5] ws (jA P)) (hG : GoodIn wG (wsS own ix y (Cond.code y cy mL ret :: wG))) (hown : y.cls = own)
    (hn : (y.cls ≠ "java/lang/invoke/MethodHandle" ∧ y.cls ≠ "java/lang/invoke/VarHandle" ∧ (parseMethodDescriptor y.desc).map (fun d => d.parameters.length) = some 5))
    (hroom : rmy.frames + 1 ≤ rm.frames ∧ 8 + (mL + 11) + rmy.locals ≤ rm.locals) (hcells : k + rmy.cells ≤ rm.cells ∧ n + rmy.slots ≤ rm.slots)
    (hst : (st.map fun v => v.category).sum ≤ 8) (hd : decode cc pc = .ok (.invokestatic ix, 3)) (kk : ∀ (x : Nat) w1, P x w1 → jJ K (k + rmy.cells) (n + rmy.slots) (pc + 3) lo (.ref x :: st) w1) : jJ K k n pc lo (v5 :: v4 :: v3 :: v2 :: v1 :: st) ws :=
  j_callS C (As := [v1, v2, v3, v4, v5]) hM hG hown hn hroom hcells hst hd (fun r w1 hp => by obtain ⟨x, rfl, hp⟩ := hp; exact kk x w1 hp)
end JR
end
section
section JS
variable {K : jk_T} {cc : ByteArray} {own : String} {Y : jy_T} {rm : Room} {nL kc nc pc : Nat} {st : List Value} {ws : va_W}
theorem j_istore_0 (C : jC cc own Y rm nL K) {l0 : Option Value} {tl : List (Option Value)} {x : Int32} (hd : decode cc pc = .ok (.istore_n 0, 1)) (hi : 0 < nL) (kk : jJ K kc nc (pc + 1) (some (.int x) :: tl) st ws) : jJ K kc nc pc (l0 :: tl) (.int x :: st) ws := j_istore_n C hd hi kk
theorem j_astore_0 (C : jC cc own Y rm nL K) {l0 : Option Value} {tl : List (Option Value)} {x : Nat} (hd : decode cc pc = .ok (.astore_n 0, 1)) (hi : 0 < nL) (kk : jJ K kc nc (pc + 1) (some (.ref x) :: tl) st ws) : jJ K kc nc pc (l0 :: tl) (.ref x :: st) ws := j_astore_n C hd hi kk
theorem j_iinc_0 (C : jC cc own Y rm nL K) {tl : List (Option Value)} {x : Int32} (v : Int32) {d : Int} (hv : x + Int32.ofInt d = v) (hd : decode cc pc = .ok (.iinc 0 d, 3)) (kk : jJ K kc nc (pc + 3) (some (.int v) :: tl) st ws) : jJ K kc nc pc (some (.int x) :: tl) st ws := j_iinc C hd rfl hv kk
theorem j_istore_1 (C : jC cc own Y rm nL K) {l0 l1 : Option Value} {tl : List (Option Value)} {x : Int32} (hd : decode cc pc = .ok (.istore_n 1, 1)) (hi : 1 < nL) (kk : jJ K kc nc (pc + 1) (l0 :: some (.int x) :: tl) st ws) : jJ K kc nc pc (l0 :: l1 :: tl) (.int x :: st) ws := j_istore_n C hd hi kk
theorem j_astore_1 (C : jC cc own Y rm nL K) {l0 l1 : Option Value} {tl : List (Option Value)} {x : Nat} (hd : decode cc pc = .ok (.astore_n 1, 1)) (hi : 1 < nL) (kk : jJ K kc nc (pc + 1) (l0 :: some (.ref x) :: tl) st ws) : jJ K kc nc pc (l0 :: l1 :: tl) (.ref x :: st) ws := j_astore_n C hd hi kk
theorem j_iinc_1 (C : jC cc own Y rm nL K) {l0 : Option Value} {tl : List (Option Value)} {x : Int32} (v : Int32) {d : Int} (hv : x + Int32.ofInt d = v) (hd : decode cc pc = .ok (.iinc 1 d, 3)) (kk : jJ K kc nc (pc + 3) (l0 :: some (.int v) :: tl) st ws) : jJ K kc nc pc (l0 :: some (.int x) :: tl) st ws := j_iinc C hd rfl hv kk
theorem j_istore_2 (C : jC cc own Y rm nL K) {l0 l1 l2 : Option Value} {tl : List (Option Value)} {x : Int32} (hd : decode cc pc = .ok (.istore_n 2, 1)) (hi : 2 < nL) (kk : jJ K kc nc (pc + 1) (l0 :: l1 :: some (.int x) :: tl) st ws) : jJ K kc nc pc (l0 :: l1 :: l2 :: tl) (.int x :: st) ws := j_istore_n C hd hi kk
theorem j_astore_2 (C : jC cc own Y rm nL K) {l0 l1 l2 : Option Value} {tl : List (Option Value)} {x : Nat} (hd : decode cc pc = .ok (.astore_n 2, 1)) (hi : 2 < nL) (kk : jJ K kc nc (pc + 1) (l0 :: l1 :: some (.ref x) :: tl) st ws) : jJ K kc nc pc (l0 :: l1 :: l2 :: tl) (.ref x :: st) ws := j_astore_n C hd hi kk
theorem j_iinc_2 (C : jC cc own Y rm nL K) {l0 l1 : Option Value} {tl : List (Option Value)} {x : Int32} (v : Int32) {d : Int} (hv : x + Int32.ofInt d = v) (hd : decode cc pc = .ok (.iinc 2 d, 3)) (kk : jJ K kc nc (pc + 3) (l0 :: l1 :: some (.int v) :: tl) st ws) : jJ K kc nc pc (l0 :: l1 :: some (.int x) :: tl) st ws := j_iinc C hd rfl hv kk
theorem j_istore_3 (C : jC cc own Y rm nL K) {l0 l1 l2 l3 : Option Value} {tl : List (Option Value)} {x : Int32} (hd : decode cc pc = .ok (.istore_n 3, 1)) (hi : 3 < nL) (kk : jJ K kc nc (pc + 1) (l0 :: l1 :: l2 :: some (.int x) :: tl) st ws) : jJ K kc nc pc (l0 :: l1 :: l2 :: l3 :: tl) (.int x :: st) ws := j_istore_n C hd hi kk
theorem j_astore_3 (C : jC cc own Y rm nL K) {l0 l1 l2 l3 : Option Value} {tl : List (Option Value)} {x : Nat} (hd : decode cc pc = .ok (.astore_n 3, 1)) (hi : 3 < nL) (kk : jJ K kc nc (pc + 1) (l0 :: l1 :: l2 :: some (.ref x) :: tl) st ws) : jJ K kc nc pc (l0 :: l1 :: l2 :: l3 :: tl) (.ref x :: st) ws := j_astore_n C hd hi kk
theorem j_iinc_3 (C : jC cc own Y rm nL K) {l0 l1 l2 : Option Value} {tl : List (Option Value)} {x : Int32} (v : Int32) {d : Int} (hv : x + Int32.ofInt d = v) (hd : decode cc pc = .ok (.iinc 3 d, 3)) (kk : jJ K kc nc (pc + 3) (l0 :: l1 :: l2 :: some (.int v) :: tl) st ws) : jJ K kc nc pc (l0 :: l1 :: l2 :: some (.int x) :: tl) st ws := j_iinc C hd rfl hv kk
theorem j_istore_4 (C : jC cc own Y rm nL K) {l0 l1 l2 l3 l4 : Option Value} {tl : List (Option Value)} {x : Int32} (hd : decode cc pc = .ok (.istore 4, 2)) (hi : 4 < nL) (kk : jJ K kc nc (pc + 2) (l0 :: l1 :: l2 :: l3 :: some (.int x) :: tl) st ws) : jJ K kc nc pc (l0 :: l1 :: l2 :: l3 :: l4 :: tl) (.int x :: st) ws := j_istore C hd hi kk
theorem j_astore_4 (C : jC cc own Y rm nL K) {l0 l1 l2 l3 l4 : Option Value} {tl : List (Option Value)} {x : Nat} (hd : decode cc pc = .ok (.astore 4, 2)) (hi : 4 < nL) (kk : jJ K kc nc (pc + 2) (l0 :: l1 :: l2 :: l3 :: some (.ref x) :: tl) st ws) : jJ K kc nc pc (l0 :: l1 :: l2 :: l3 :: l4 :: tl) (.ref x :: st) ws := j_astore C hd hi kk
theorem j_iinc_4 (C : jC cc own Y rm nL K) {l0 l1 l2 l3 : Option Value} {tl : List (Option Value)} {x : Int32} (v : Int32) {d : Int} (hv : x + Int32.ofInt d = v) (hd : decode cc pc = .ok (.iinc 4 d, 3)) (kk : jJ K kc nc (pc + 3) (l0 :: l1 :: l2 :: l3 :: some (.int v) :: tl) st ws) : jJ K kc nc pc (l0 :: l1 :: l2 :: l3 :: some (.int x) :: tl) st ws := j_iinc C hd rfl hv kk
theorem j_istore_5 (C : jC cc own Y rm nL K) {l0 l1 l2 l3 l4 l5 : Option Value} {tl : List (Option Value)} {x : Int32} (hd : decode cc pc = .ok (.istore 5, 2)) (hi : 5 < nL) (kk : jJ K kc nc (pc + 2) (l0 :: l1 :: l2 :: l3 :: l4 :: some (.int x) :: tl) st ws) : jJ K kc nc pc (l0 :: l1 :: l2 :: l3 :: l4 :: l5 :: tl) (.int x :: st) ws := j_istore C hd hi kk
theorem j_astore_5 (C : jC cc own Y rm nL K) {l0 l1 l2 l3 l4 l5 : Option Value} {tl : List (Option Value)} {x : Nat} (hd : decode cc pc = .ok (.astore 5, 2)) (hi : 5 < nL) (kk : jJ K kc nc (pc + 2) (l0 :: l1 :: l2 :: l3 :: l4 :: some (.ref x) :: tl) st ws) : jJ K kc nc pc (l0 :: l1 :: l2 :: l3 :: l4 :: l5 :: tl) (.ref x :: st) ws := j_astore C hd hi kk
theorem j_iinc_5 (C : jC cc own Y rm nL K) {l0 l1 l2 l3 l4 : Option Value} {tl : List (Option Value)} {x : Int32} (v : Int32) {d : Int} (hv : x + Int32.ofInt d = v) (hd : decode cc pc = .ok (.iinc 5 d, 3)) (kk : jJ K kc nc (pc + 3) (l0 :: l1 :: l2 :: l3 :: l4 :: some (.int v) :: tl) st ws) : jJ K kc nc pc (l0 :: l1 :: l2 :: l3 :: l4 :: some (.int x) :: tl) st ws := j_iinc C hd rfl hv kk
theorem j_istore_6 (C : jC cc own Y rm nL K) {l0 l1 l2 l3 l4 l5 l6 : Option Value} {tl : List (Option Value)} {x : Int32} (hd : decode cc pc = .ok (.istore 6, 2)) (hi : 6 < nL) (kk : jJ K kc nc (pc + 2) (l0 :: l1 :: l2 :: l3 :: l4 :: l5 :: some (.int x) :: tl) st ws) : jJ K kc nc pc (l0 :: l1 :: l2 :: l3 :: l4 :: l5 :: l6 :: tl) (.int x :: st) ws := j_istore C hd hi kk
theorem j_astore_6 (C : jC cc own Y rm nL K) {l0 l1 l2 l3 l4 l5 l6 : Option Value} {tl : List (Option Value)} {x : Nat} (hd : decode cc pc = .ok (.astore 6, 2)) (hi : 6 < nL) (kk : jJ K kc nc (pc + 2) (l0 :: l1 :: l2 :: l3 :: l4 :: l5 :: some (.ref x) :: tl) st ws) : jJ K kc nc pc (l0 :: l1 :: l2 :: l3 :: l4 :: l5 :: l6 :: tl) (.ref x :: st) ws := j_astore C hd hi kk
theorem j_iinc_6 (C : jC cc own Y rm nL K) {l0 l1 l2 l3 l4 l5 : Option Value} {tl : List (Option Value)} {x : Int32} (v : Int32) {d : Int} (hv : x + Int32.ofInt d = v) (hd : decode cc pc = .ok (.iinc 6 d, 3)) (kk : jJ K kc nc (pc + 3) (l0 :: l1 :: l2 :: l3 :: l4 :: l5 :: some (.int v) :: tl) st ws) : jJ K kc nc pc (l0 :: l1 :: l2 :: l3 :: l4 :: l5 :: some (.int x) :: tl) st ws := j_iinc C hd rfl hv kk
theorem j_istore_7 (C : jC cc own Y rm nL K) {l0 l1 l2 l3 l4 l5 l6 l7 : Option Value} {tl : List (Option Value)} {x : Int32} (hd : decode cc pc = .ok (.istore 7, 2)) (hi : 7 < nL) (kk : jJ K kc nc (pc + 2) (l0 :: l1 :: l2 :: l3 :: l4 :: l5 :: l6 :: some (.int x) :: tl) st ws) : jJ K kc nc pc (l0 :: l1 :: l2 :: l3 :: l4 :: l5 :: l6 :: l7 :: tl) (.int x :: st) ws := j_istore C hd hi kk
theorem j_astore_7 (C : jC cc own Y rm nL K) {l0 l1 l2 l3 l4 l5 l6 l7 : Option Value} {tl : List (Option Value)} {x : Nat} (hd : decode cc pc = .ok (.astore 7, 2)) (hi : 7 < nL) (kk : jJ K kc nc (pc + 2) (l0 :: l1 :: l2 :: l3 :: l4 :: l5 :: l6 :: some (.ref x) :: tl) st ws) : jJ K kc nc pc (l0 :: l1 :: l2 :: l3 :: l4 :: l5 :: l6 :: l7 :: tl) (.ref x :: st) ws := j_astore C hd hi kk
theorem j_iinc_7 (C : jC cc own Y rm nL K) {l0 l1 l2 l3 l4 l5 l6 : Option Value} {tl : List (Option Value)} {x : Int32} (v : Int32) {d : Int} (hv : x + Int32.ofInt d = v) (hd : decode cc pc = .ok (.iinc 7 d, 3)) (kk : jJ K kc nc (pc + 3) (l0 :: l1 :: l2 :: l3 :: l4 :: l5 :: l6 :: some (.int v) :: tl) st ws) : jJ K kc nc pc (l0 :: l1 :: l2 :: l3 :: l4 :: l5 :: l6 :: some (.int x) :: tl) st ws := j_iinc C hd rfl hv kk
theorem j_istore_8 (C : jC cc own Y rm nL K) {l0 l1 l2 l3 l4 l5 l6 l7 l8 : Option Value} {tl : List (Option Value)} {x : Int32} (hd : decode cc pc = .ok (.istore 8, 2)) (hi : 8 < nL) (kk : jJ K kc nc (pc + 2) (l0 :: l1 :: l2 :: l3 :: l4 :: l5 :: l6 :: l7 :: some (.int x) :: tl) st ws) : jJ K kc nc pc (l0 :: l1 :: l2 :: l3 :: l4 :: l5 :: l6 :: l7 :: l8 :: tl) (.int x :: st) ws := j_istore C hd hi kk
theorem j_astore_8 (C : jC cc own Y rm nL K) {l0 l1 l2 l3 l4 l5 l6 l7 l8 : Option Value} {tl : List (Option Value)} {x : Nat} (hd : decode cc pc = .ok (.astore 8, 2)) (hi : 8 < nL) (kk : jJ K kc nc (pc + 2) (l0 :: l1 :: l2 :: l3 :: l4 :: l5 :: l6 :: l7 :: some (.ref x) :: tl) st ws) : jJ K kc nc pc (l0 :: l1 :: l2 :: l3 :: l4 :: l5 :: l6 :: l7 :: l8 :: tl) (.ref x :: st) ws := j_astore C hd hi kk
theorem j_iinc_8 (C : jC cc own Y rm nL K) {l0 l1 l2 l3 l4 l5 l6 l7 : Option Value} {tl : List (Option Value)} {x : Int32} (v : Int32) {d : Int} (hv : x + Int32.ofInt d = v) (hd : decode cc pc = .ok (.iinc 8 d, 3)) (kk : jJ K kc nc (pc + 3) (l0 :: l1 :: l2 :: l3 :: l4 :: l5 :: l6 :: l7 :: some (.int v) :: tl) st ws) : jJ K kc nc pc (l0 :: l1 :: l2 :: l3 :: l4 :: l5 :: l6 :: l7 :: some (.int x) :: tl) st ws := j_iinc C hd rfl hv kk
theorem j_istore_9 (C : jC cc own Y rm nL K) {l0 l1 l2 l3 l4 l5 l6 l7 l8 l9 : Option Value} {tl : List (Option Value)} {x : Int32} (hd : decode cc pc = .ok (.istore 9, 2)) (hi : 9 < nL) (kk : jJ K kc nc (pc + 2) (l0 :: l1 :: l2 :: l3 :: l4 :: l5 :: l6 :: l7 :: l8 :: some (.int x) :: tl) st ws) : jJ K kc nc pc (l0 :: l1 :: l2 :: l3 :: l4 :: l5 :: l6 :: l7 :: l8 :: l9 :: tl) (.int x :: st) ws := j_istore C hd hi kk
theorem j_astore_9 (C : jC cc own Y rm nL K) {l0 l1 l2 l3 l4 l5 l6 l7 l8 l9 : Option Value} {tl : List (Option Value)} {x : Nat} (hd : decode cc pc = .ok (.astore 9, 2)) (hi : 9 < nL) (kk : jJ K kc nc (pc + 2) (l0 :: l1 :: l2 :: l3 :: l4 :: l5 :: l6 :: l7 :: l8 :: some (.ref x) :: tl) st ws) : jJ K kc nc pc (l0 :: l1 :: l2 :: l3 :: l4 :: l5 :: l6 :: l7 :: l8 :: l9 :: tl) (.ref x :: st) ws := j_astore C hd hi kk
theorem j_iinc_9 (C : jC cc own Y rm nL K) {l0 l1 l2 l3 l4 l5 l6 l7 l8 : Option Value} {tl : List (Option Value)} {x : Int32} (v : Int32) {d : Int} (hv : x + Int32.ofInt d = v) (hd : decode cc pc = .ok (.iinc 9 d, 3)) (kk : jJ K kc nc (pc + 3) (l0 :: l1 :: l2 :: l3 :: l4 :: l5 :: l6 :: l7 :: l8 :: some (.int v) :: tl) st ws) : jJ K kc nc pc (l0 :: l1 :: l2 :: l3 :: l4 :: l5 :: l6 :: l7 :: l8 :: some (.int x) :: tl) st ws := j_iinc C hd rfl hv kk
theorem j_istore_10 (C : jC cc own Y rm nL K) {l0 l1 l2 l3 l4 l5 l6 l7 l8 l9 l10 : Option Value} {tl : List (Option Value)} {x : Int32} (hd : decode cc pc = .ok (.istore 10, 2)) (hi : 10 < nL) (kk : jJ K kc nc (pc + 2) (l0 :: l1 :: l2 :: l3 :: l4 :: l5 :: l6 :: l7 :: l8 :: l9 :: some (.int x) :: tl) st ws) : jJ K kc nc pc (l0 :: l1 :: l2 :: l3 :: l4 :: l5 :: l6 :: l7 :: l8 :: l9 :: l10 :: tl) (.int x :: st) ws := j_istore C hd hi kk
theorem j_astore_10 (C : jC cc own Y rm nL K) {l0 l1 l2 l3 l4 l5 l6 l7 l8 l9 l10 : Option Value} {tl : List (Option Value)} {x : Nat} (hd : decode cc pc = .ok (.astore 10, 2)) (hi : 10 < nL) (kk : jJ K kc nc (pc + 2) (l0 :: l1 :: l2 :: l3 :: l4 :: l5 :: l6 :: l7 :: l8 :: l9 :: some (.ref x) :: tl) st ws) : jJ K kc nc pc (l0 :: l1 :: l2 :: l3 :: l4 :: l5 :: l6 :: l7 :: l8 :: l9 :: l10 :: tl) (.ref x :: st) ws := j_astore C hd hi kk
theorem j_iinc_10 (C : jC cc own Y rm nL K) {l0 l1 l2 l3 l4 l5 l6 l7 l8 l9 : Option Value} {tl : List (Option Value)} {x : Int32} (v : Int32) {d : Int} (hv : x + Int32.ofInt d = v) (hd : decode cc pc = .ok (.iinc 10 d, 3)) (kk : jJ K kc nc (pc + 3) (l0 :: l1 :: l2 :: l3 :: l4 :: l5 :: l6 :: l7 :: l8 :: l9 :: some (.int v) :: tl) st ws) : jJ K kc nc pc (l0 :: l1 :: l2 :: l3 :: l4 :: l5 :: l6 :: l7 :: l8 :: l9 :: some (.int x) :: tl) st ws := j_iinc C hd rfl hv kk
theorem j_istore_11 (C : jC cc own Y rm nL K) {l0 l1 l2 l3 l4 l5 l6 l7 l8 l9 l10 l11 : Option Value} {tl : List (Option Value)} {x : Int32} (hd : decode cc pc = .ok (.istore 11, 2)) (hi : 11 < nL) (kk : jJ K kc nc (pc + 2) (l0 :: l1 :: l2 :: l3 :: l4 :: l5 :: l6 :: l7 :: l8 :: l9 :: l10 :: some (.int x) :: tl) st ws) : jJ K kc nc pc (l0 :: l1 :: l2 :: l3 :: l4 :: l5 :: l6 :: l7 :: l8 :: l9 :: l10 :: l11 :: tl) (.int x :: st) ws := j_istore C hd hi kk
theorem j_astore_11 (C : jC cc own Y rm nL K) {l0 l1 l2 l3 l4 l5 l6 l7 l8 l9 l10 l11 : Option Value} {tl : List (Option Value)} {x : Nat} (hd : decode cc pc = .ok (.astore 11, 2)) (hi : 11 < nL) (kk : jJ K kc nc (pc + 2) (l0 :: l1 :: l2 :: l3 :: l4 :: l5 :: l6 :: l7 :: l8 :: l9 :: l10 :: some (.ref x) :: tl) st ws) : jJ K kc nc pc (l0 :: l1 :: l2 :: l3 :: l4 :: l5 :: l6 :: l7 :: l8 :: l9 :: l10 :: l11 :: tl) (.ref x :: st) ws := j_astore C hd hi kk
theorem j_iinc_11 (C : jC cc own Y rm nL K) {l0 l1 l2 l3 l4 l5 l6 l7 l8 l9 l10 : Option Value} {tl : List (Option Value)} {x : Int32} (v : Int32) {d : Int} (hv : x + Int32.ofInt d = v) (hd : decode cc pc = .ok (.iinc 11 d, 3)) (kk : jJ K kc nc (pc + 3) (l0 :: l1 :: l2 :: l3 :: l4 :: l5 :: l6 :: l7 :: l8 :: l9 :: l10 :: some (.int v) :: tl) st ws) : jJ K kc nc pc (l0 :: l1 :: l2 :: l3 :: l4 :: l5 :: l6 :: l7 :: l8 :: l9 :: l10 :: some (.int x) :: tl) st ws := j_iinc C hd rfl hv kk
theorem j_istore_12 (C : jC cc own Y rm nL K) {l0 l1 l2 l3 l4 l5 l6 l7 l8 l9 l10 l11 l12 : Option Value} {tl : List (Option Value)} {x : Int32} (hd : decode cc pc = .ok (.istore 12, 2)) (hi : 12 < nL) (kk : jJ K kc nc (pc + 2) (l0 :: l1 :: l2 :: l3 :: l4 :: l5 :: l6 :: l7 :: l8 :: l9 :: l10 :: l11 :: some (.int x) :: tl) st ws) : jJ K kc nc pc (l0 :: l1 :: l2 :: l3 :: l4 :: l5 :: l6 :: l7 :: l8 :: l9 :: l10 :: l11 :: l12 :: tl) (.int x :: st) ws := j_istore C hd hi kk
theorem j_astore_12 (C : jC cc own Y rm nL K) {l0 l1 l2 l3 l4 l5 l6 l7 l8 l9 l10 l11 l12 : Option Value} {tl : List (Option Value)} {x : Nat} (hd : decode cc pc = .ok (.astore 12, 2)) (hi : 12 < nL) (kk : jJ K kc nc (pc + 2) (l0 :: l1 :: l2 :: l3 :: l4 :: l5 :: l6 :: l7 :: l8 :: l9 :: l10 :: l11 :: some (.ref x) :: tl) st ws) : jJ K kc nc pc (l0 :: l1 :: l2 :: l3 :: l4 :: l5 :: l6 :: l7 :: l8 :: l9 :: l10 :: l11 :: l12 :: tl) (.ref x :: st) ws := j_astore C hd hi kk
theorem j_iinc_12 (C : jC cc own Y rm nL K) {l0 l1 l2 l3 l4 l5 l6 l7 l8 l9 l10 l11 : Option Value} {tl : List (Option Value)} {x : Int32} (v : Int32) {d : Int} (hv : x + Int32.ofInt d = v) (hd : decode cc pc = .ok (.iinc 12 d, 3)) (kk : jJ K kc nc (pc + 3) (l0 :: l1 :: l2 :: l3 :: l4 :: l5 :: l6 :: l7 :: l8 :: l9 :: l10 :: l11 :: some (.int v) :: tl) st ws) : jJ K kc nc pc (l0 :: l1 :: l2 :: l3 :: l4 :: l5 :: l6 :: l7 :: l8 :: l9 :: l10 :: l11 :: some (.int x) :: tl) st ws := j_iinc C hd rfl hv kk
theorem j_istore_13 (C : jC cc own Y rm nL K) {l0 l1 l2 l3 l4 l5 l6 l7 l8 l9 l10 l11 l12 l13 : Option Value} {tl : List (Option Value)} {x : Int32} (hd : decode cc pc = .ok (.istore 13, 2)) (hi : 13 < nL) (kk : jJ K kc nc (pc + 2) (l0 :: l1 :: l2 :: l3 :: l4 :: l5 :: l6 :: l7 :: l8 :: l9 :: l10 :: l11 :: l12 :: some (.int x) :: tl) st ws) : jJ K kc nc pc (l0 :: l1 :: l2 :: l3 :: l4 :: l5 :: l6 :: l7 :: l8 :: l9 :: l10 :: l11 :: l12 :: l13 :: tl) (.int x :: st) ws := j_istore C hd hi kk
theorem j_astore_13 (C : jC cc own Y rm nL K) {l0 l1 l2 l3 l4 l5 l6 l7 l8 l9 l10 l11 l12 l13 : Option Value} {tl : List (Option Value)} {x : Nat} (hd : decode cc pc = .ok (.astore 13, 2)) (hi : 13 < nL) (kk : jJ K kc nc (pc + 2) (l0 :: l1 :: l2 :: l3 :: l4 :: l5 :: l6 :: l7 :: l8 :: l9 :: l10 :: l11 :: l12 :: some (.ref x) :: tl) st ws) : jJ K kc nc pc (l0 :: l1 :: l2 :: l3 :: l4 :: l5 :: l6 :: l7 :: l8 :: l9 :: l10 :: l11 :: l12 :: l13 :: tl) (.ref x :: st) ws := j_astore C hd hi kk
theorem j_iinc_13 (C : jC cc own Y rm nL K) {l0 l1 l2 l3 l4 l5 l6 l7 l8 l9 l10 l11 l12 : Option Value} {tl : List (Option Value)} {x : Int32} (v : Int32) {d : Int} (hv : x + Int32.ofInt d = v) (hd : decode cc pc = .ok (.iinc 13 d, 3)) (kk : jJ K kc nc (pc + 3) (l0 :: l1 :: l2 :: l3 :: l4 :: l5 :: l6 :: l7 :: l8 :: l9 :: l10 :: l11 :: l12 :: some (.int v) :: tl) st ws) : jJ K kc nc pc (l0 :: l1 :: l2 :: l3 :: l4 :: l5 :: l6 :: l7 :: l8 :: l9 :: l10 :: l11 :: l12 :: some (.int x) :: tl) st ws := j_iinc C hd rfl hv kk
theorem vp_cell_c {cA : ClassId} {N : Nat} {f g : Nat → Int32} (h : ∀ j, j < N → f j = g j) : vp_cell cA (N, .inl f) = vp_cell cA (N, .inl g) := by
  show arrV cA N (fun j => .int (f j)) = arrV cA N (fun j => .int (g j))
  unfold arrV
  have e : (fun j : Fin N => Value.int (f j.val)) = (fun j : Fin N => Value.int (g j.val)) := funext fun j => by rw [h j.val j.isLt]
  rw [e]
theorem j_eqv (q0 : Nat) {a N : Nat} {cA : ClassId} {f g : Nat → Int32} (he : ws[q0]? = some (a, .inl (cA, N, .inl f))) (h : ∀ j, j < N → f j = g j) {ws2 : va_W} (hs : ws.set q0 (a, .inl (cA, N, .inl g)) = ws2) {lo : List (Option Value)} (kk : jJ K kc nc pc lo st ws2) : jJ K kc nc pc lo st ws := by
  subst hs
  intro H locs ls hP hD hS hl
  have h1 : va_at K.2.2.2.1 vwCl (a, .inl (cA, N, .inl g)) H := by
    have h2 := hP q0 _ he
    show H[a]? = some (vp_cell cA (N, .inl g))
    rw [← vp_cell_c h]; exact h2
  exact kk H locs ls (hP.set hD he h1 (fun q _ => rfl)) (hD.set he) hS hl
end JS
def wA (Y : jy_T) (ad : Nat → Nat) (p n ru nw tg mc me : Int32) (we co al tr to fa se qu sp : Nat → Int32) : va_W := [(ad 0, .inr (0, [.int p, .int n, .int ru, .ref (ad 1), .ref (ad 2), .ref (ad 3), .int nw, .int tg, .ref (ad 4), .int mc, .ref (ad 5), .ref (ad 6), .int me, .ref (ad 7), .ref (ad 8), .ref (ad 9)])), (ad 1, .inl (Y.1, 7, .inl we)), (ad 2, .inl (Y.1, 6, .inl co)), (ad 3, .inl (Y.2.1, 25, .inl al)), (ad 4, .inl (Y.1, 500, .inl tr)), (ad 5, .inl (Y.1, 5, .inl to)), (ad 6, .inl (Y.1, 15625, .inl fa)), (ad 7, .inl (Y.1, 15625, .inl se)), (ad 8, .inl (Y.1, 15625, .inl qu)), (ad 9, .inl (Y.1, 63, .inl sp))]
section JW0
variable {K : jk_T} {cc : ByteArray} {Y : jy_T} {rm : Room} {nL kc nc pc : Nat} {lo : List (Option Value)} {st : List Value} {ad : Nat → Nat} {p n ru nw tg mc me : Int32} {we co al tr to fa se qu sp : Nat → Int32}
theorem g0_pegCount (C : jC cc RX0 Y rm nL K) (hd : decode cc pc = .ok (.getfield 117, 3)) (kk : jJ K kc nc (pc + 3) lo (.int p :: st) (wA Y ad p n ru nw tg mc me we co al tr to fa se qu sp)) : jJ K kc nc pc lo (.ref (ad 0) :: st) (wA Y ad p n ru nw tg mc me we co al tr to fa se qu sp) :=
  j_get C wG_X0 0 rfl rfl 0 (by decide) wd_fl0_117 rfl rfl hd kk
theorem p0_pegCount (C : jC cc RX0 Y rm nL K) {x : Int32} (hd : decode cc pc = .ok (.putfield 117, 3)) (kk : jJ K kc nc (pc + 3) lo st (wA Y ad x n ru nw tg mc me we co al tr to fa se qu sp)) : jJ K kc nc pc lo (.int x :: .ref (ad 0) :: st) (wA Y ad p n ru nw tg mc me we co al tr to fa se qu sp) :=
  j_put (fs := [.int p, .int n, .int ru, .ref (ad 1), .ref (ad 2), .ref (ad 3), .int nw, .int tg, .ref (ad 4), .int mc, .ref (ad 5), .ref (ad 6), .int me, .ref (ad 7), .ref (ad 8), .ref (ad 9)]) (ws2 := (wA Y ad x n ru nw tg mc me we co al tr to fa se qu sp)) C wG_X0 tyX0 tyX0_ok nmX0 0 rfl rfl 0 (by decide) wd_fl0_117 rfl rfl rfl rfl (Nat.le_of_ble_eq_true rfl) hd rfl kk
theorem g0_diskCount (C : jC cc RX0 Y rm nL K) (hd : decode cc pc = .ok (.getfield 53, 3)) (kk : jJ K kc nc (pc + 3) lo (.int n :: st) (wA Y ad p n ru nw tg mc me we co al tr to fa se qu sp)) : jJ K kc nc pc lo (.ref (ad 0) :: st) (wA Y ad p n ru nw tg mc me we co al tr to fa se qu sp) :=
  j_get C wG_X0 0 rfl rfl 1 (by decide) wd_fl0_53 rfl rfl hd kk
theorem p0_diskCount (C : jC cc RX0 Y rm nL K) {x : Int32} (hd : decode cc pc = .ok (.putfield 53, 3)) (kk : jJ K kc nc (pc + 3) lo st (wA Y ad p x ru nw tg mc me we co al tr to fa se qu sp)) : jJ K kc nc pc lo (.int x :: .ref (ad 0) :: st) (wA Y ad p n ru nw tg mc me we co al tr to fa se qu sp) :=
  j_put (fs := [.int p, .int n, .int ru, .ref (ad 1), .ref (ad 2), .ref (ad 3), .int nw, .int tg, .ref (ad 4), .int mc, .ref (ad 5), .ref (ad 6), .int me, .ref (ad 7), .ref (ad 8), .ref (ad 9)]) (ws2 := (wA Y ad p x ru nw tg mc me we co al tr to fa se qu sp)) C wG_X0 tyX0 tyX0_ok nmX0 0 rfl rfl 1 (by decide) wd_fl0_53 rfl rfl rfl rfl (Nat.le_of_ble_eq_true rfl) hd rfl kk
theorem g0_ruleOn (C : jC cc RX0 Y rm nL K) (hd : decode cc pc = .ok (.getfield 102, 3)) (kk : jJ K kc nc (pc + 3) lo (.int ru :: st) (wA Y ad p n ru nw tg mc me we co al tr to fa se qu sp)) : jJ K kc nc pc lo (.ref (ad 0) :: st) (wA Y ad p n ru nw tg mc me we co al tr to fa se qu sp) :=
  j_get C wG_X0 0 rfl rfl 2 (by decide) wd_fl0_102 rfl rfl hd kk
theorem p0_ruleOn (C : jC cc RX0 Y rm nL K) {b : Bool} (hd : decode cc pc = .ok (.putfield 102, 3)) (kk : jJ K kc nc (pc + 3) lo st (wA Y ad p n (bi b) nw tg mc me we co al tr to fa se qu sp)) : jJ K kc nc pc lo (.int (bi b) :: .ref (ad 0) :: st) (wA Y ad p n ru nw tg mc me we co al tr to fa se qu sp) :=
  j_put (fs := [.int p, .int n, .int ru, .ref (ad 1), .ref (ad 2), .ref (ad 3), .int nw, .int tg, .ref (ad 4), .int mc, .ref (ad 5), .ref (ad 6), .int me, .ref (ad 7), .ref (ad 8), .ref (ad 9)]) (ws2 := (wA Y ad p n (bi b) nw tg mc me we co al tr to fa se qu sp)) C wG_X0 tyX0 tyX0_ok nmX0 0 rfl rfl 2 (by decide) wd_fl0_102 rfl rfl (bi_nar b) (bi_fit b) (Nat.le_of_ble_eq_true rfl) hd rfl kk
theorem g0_weight (C : jC cc RX0 Y rm nL K) (hd : decode cc pc = .ok (.getfield 9, 3)) (kk : jJ K kc nc (pc + 3) lo (.ref (ad 1) :: st) (wA Y ad p n ru nw tg mc me we co al tr to fa se qu sp)) : jJ K kc nc pc lo (.ref (ad 0) :: st) (wA Y ad p n ru nw tg mc me we co al tr to fa se qu sp) :=
  j_get C wG_X0 0 rfl rfl 3 (by decide) wd_fl0_9 rfl rfl hd kk
theorem g0_colour (C : jC cc RX0 Y rm nL K) (hd : decode cc pc = .ok (.getfield 13, 3)) (kk : jJ K kc nc (pc + 3) lo (.ref (ad 2) :: st) (wA Y ad p n ru nw tg mc me we co al tr to fa se qu sp)) : jJ K kc nc pc lo (.ref (ad 0) :: st) (wA Y ad p n ru nw tg mc me we co al tr to fa se qu sp) :=
  j_get C wG_X0 0 rfl rfl 4 (by decide) wd_fl0_13 rfl rfl hd kk
theorem g0_allowed (C : jC cc RX0 Y rm nL K) (hd : decode cc pc = .ok (.getfield 16, 3)) (kk : jJ K kc nc (pc + 3) lo (.ref (ad 3) :: st) (wA Y ad p n ru nw tg mc me we co al tr to fa se qu sp)) : jJ K kc nc pc lo (.ref (ad 0) :: st) (wA Y ad p n ru nw tg mc me we co al tr to fa se qu sp) :=
  j_get C wG_X0 0 rfl rfl 5 (by decide) wd_fl0_16 rfl rfl hd kk
theorem g0_now (C : jC cc RX0 Y rm nL K) (hd : decode cc pc = .ok (.getfield 77, 3)) (kk : jJ K kc nc (pc + 3) lo (.int nw :: st) (wA Y ad p n ru nw tg mc me we co al tr to fa se qu sp)) : jJ K kc nc pc lo (.ref (ad 0) :: st) (wA Y ad p n ru nw tg mc me we co al tr to fa se qu sp) :=
  j_get C wG_X0 0 rfl rfl 6 (by decide) wd_fl0_77 rfl rfl hd kk
theorem p0_now (C : jC cc RX0 Y rm nL K) {x : Int32} (hd : decode cc pc = .ok (.putfield 77, 3)) (kk : jJ K kc nc (pc + 3) lo st (wA Y ad p n ru x tg mc me we co al tr to fa se qu sp)) : jJ K kc nc pc lo (.int x :: .ref (ad 0) :: st) (wA Y ad p n ru nw tg mc me we co al tr to fa se qu sp) :=
  j_put (fs := [.int p, .int n, .int ru, .ref (ad 1), .ref (ad 2), .ref (ad 3), .int nw, .int tg, .ref (ad 4), .int mc, .ref (ad 5), .ref (ad 6), .int me, .ref (ad 7), .ref (ad 8), .ref (ad 9)]) (ws2 := (wA Y ad p n ru x tg mc me we co al tr to fa se qu sp)) C wG_X0 tyX0 tyX0_ok nmX0 0 rfl rfl 6 (by decide) wd_fl0_77 rfl rfl rfl rfl (Nat.le_of_ble_eq_true rfl) hd rfl kk
theorem g0_target (C : jC cc RX0 Y rm nL K) (hd : decode cc pc = .ok (.getfield 84, 3)) (kk : jJ K kc nc (pc + 3) lo (.int tg :: st) (wA Y ad p n ru nw tg mc me we co al tr to fa se qu sp)) : jJ K kc nc pc lo (.ref (ad 0) :: st) (wA Y ad p n ru nw tg mc me we co al tr to fa se qu sp) :=
  j_get C wG_X0 0 rfl rfl 7 (by decide) wd_fl0_84 rfl rfl hd kk
theorem p0_target (C : jC cc RX0 Y rm nL K) {x : Int32} (hd : decode cc pc = .ok (.putfield 84, 3)) (kk : jJ K kc nc (pc + 3) lo st (wA Y ad p n ru nw x mc me we co al tr to fa se qu sp)) : jJ K kc nc pc lo (.int x :: .ref (ad 0) :: st) (wA Y ad p n ru nw tg mc me we co al tr to fa se qu sp) :=
  j_put (fs := [.int p, .int n, .int ru, .ref (ad 1), .ref (ad 2), .ref (ad 3), .int nw, .int tg, .ref (ad 4), .int mc, .ref (ad 5), .ref (ad 6), .int me, .ref (ad 7), .ref (ad 8), .ref (ad 9)]) (ws2 := (wA Y ad p n ru nw x mc me we co al tr to fa se qu sp)) C wG_X0 tyX0 tyX0_ok nmX0 0 rfl rfl 7 (by decide) wd_fl0_84 rfl rfl rfl rfl (Nat.le_of_ble_eq_true rfl) hd rfl kk
theorem g0_trail (C : jC cc RX0 Y rm nL K) (hd : decode cc pc = .ok (.getfield 20, 3)) (kk : jJ K kc nc (pc + 3) lo (.ref (ad 4) :: st) (wA Y ad p n ru nw tg mc me we co al tr to fa se qu sp)) : jJ K kc nc pc lo (.ref (ad 0) :: st) (wA Y ad p n ru nw tg mc me we co al tr to fa se qu sp) :=
  j_get C wG_X0 0 rfl rfl 8 (by decide) wd_fl0_20 rfl rfl hd kk
theorem g0_moveCount (C : jC cc RX0 Y rm nL K) (hd : decode cc pc = .ok (.getfield 69, 3)) (kk : jJ K kc nc (pc + 3) lo (.int mc :: st) (wA Y ad p n ru nw tg mc me we co al tr to fa se qu sp)) : jJ K kc nc pc lo (.ref (ad 0) :: st) (wA Y ad p n ru nw tg mc me we co al tr to fa se qu sp) :=
  j_get C wG_X0 0 rfl rfl 9 (by decide) wd_fl0_69 rfl rfl hd kk
theorem p0_moveCount (C : jC cc RX0 Y rm nL K) {x : Int32} (hd : decode cc pc = .ok (.putfield 69, 3)) (kk : jJ K kc nc (pc + 3) lo st (wA Y ad p n ru nw tg x me we co al tr to fa se qu sp)) : jJ K kc nc pc lo (.int x :: .ref (ad 0) :: st) (wA Y ad p n ru nw tg mc me we co al tr to fa se qu sp) :=
  j_put (fs := [.int p, .int n, .int ru, .ref (ad 1), .ref (ad 2), .ref (ad 3), .int nw, .int tg, .ref (ad 4), .int mc, .ref (ad 5), .ref (ad 6), .int me, .ref (ad 7), .ref (ad 8), .ref (ad 9)]) (ws2 := (wA Y ad p n ru nw tg x me we co al tr to fa se qu sp)) C wG_X0 tyX0 tyX0_ok nmX0 0 rfl rfl 9 (by decide) wd_fl0_69 rfl rfl rfl rfl (Nat.le_of_ble_eq_true rfl) hd rfl kk
theorem g0_tops (C : jC cc RX0 Y rm nL K) (hd : decode cc pc = .ok (.getfield 23, 3)) (kk : jJ K kc nc (pc + 3) lo (.ref (ad 5) :: st) (wA Y ad p n ru nw tg mc me we co al tr to fa se qu sp)) : jJ K kc nc pc lo (.ref (ad 0) :: st) (wA Y ad p n ru nw tg mc me we co al tr to fa se qu sp) :=
  j_get C wG_X0 0 rfl rfl 10 (by decide) wd_fl0_23 rfl rfl hd kk
theorem g0_far (C : jC cc RX0 Y rm nL K) (hd : decode cc pc = .ok (.getfield 26, 3)) (kk : jJ K kc nc (pc + 3) lo (.ref (ad 6) :: st) (wA Y ad p n ru nw tg mc me we co al tr to fa se qu sp)) : jJ K kc nc pc lo (.ref (ad 0) :: st) (wA Y ad p n ru nw tg mc me we co al tr to fa se qu sp) :=
  j_get C wG_X0 0 rfl rfl 11 (by decide) wd_fl0_26 rfl rfl hd kk
theorem g0_measured (C : jC cc RX0 Y rm nL K) (hd : decode cc pc = .ok (.getfield 87, 3)) (kk : jJ K kc nc (pc + 3) lo (.int me :: st) (wA Y ad p n ru nw tg mc me we co al tr to fa se qu sp)) : jJ K kc nc pc lo (.ref (ad 0) :: st) (wA Y ad p n ru nw tg mc me we co al tr to fa se qu sp) :=
  j_get C wG_X0 0 rfl rfl 12 (by decide) wd_fl0_87 rfl rfl hd kk
theorem p0_measured (C : jC cc RX0 Y rm nL K) {b : Bool} (hd : decode cc pc = .ok (.putfield 87, 3)) (kk : jJ K kc nc (pc + 3) lo st (wA Y ad p n ru nw tg mc (bi b) we co al tr to fa se qu sp)) : jJ K kc nc pc lo (.int (bi b) :: .ref (ad 0) :: st) (wA Y ad p n ru nw tg mc me we co al tr to fa se qu sp) :=
  j_put (fs := [.int p, .int n, .int ru, .ref (ad 1), .ref (ad 2), .ref (ad 3), .int nw, .int tg, .ref (ad 4), .int mc, .ref (ad 5), .ref (ad 6), .int me, .ref (ad 7), .ref (ad 8), .ref (ad 9)]) (ws2 := (wA Y ad p n ru nw tg mc (bi b) we co al tr to fa se qu sp)) C wG_X0 tyX0 tyX0_ok nmX0 0 rfl rfl 12 (by decide) wd_fl0_87 rfl rfl (bi_nar b) (bi_fit b) (Nat.le_of_ble_eq_true rfl) hd rfl kk
theorem g0_seen (C : jC cc RX0 Y rm nL K) (hd : decode cc pc = .ok (.getfield 29, 3)) (kk : jJ K kc nc (pc + 3) lo (.ref (ad 7) :: st) (wA Y ad p n ru nw tg mc me we co al tr to fa se qu sp)) : jJ K kc nc pc lo (.ref (ad 0) :: st) (wA Y ad p n ru nw tg mc me we co al tr to fa se qu sp) :=
  j_get C wG_X0 0 rfl rfl 13 (by decide) wd_fl0_29 rfl rfl hd kk
theorem g0_queue (C : jC cc RX0 Y rm nL K) (hd : decode cc pc = .ok (.getfield 32, 3)) (kk : jJ K kc nc (pc + 3) lo (.ref (ad 8) :: st) (wA Y ad p n ru nw tg mc me we co al tr to fa se qu sp)) : jJ K kc nc pc lo (.ref (ad 0) :: st) (wA Y ad p n ru nw tg mc me we co al tr to fa se qu sp) :=
  j_get C wG_X0 0 rfl rfl 14 (by decide) wd_fl0_32 rfl rfl hd kk
theorem g0_splitNumbers (C : jC cc RX0 Y rm nL K) (hd : decode cc pc = .ok (.getfield 39, 3)) (kk : jJ K kc nc (pc + 3) lo (.ref (ad 9) :: st) (wA Y ad p n ru nw tg mc me we co al tr to fa se qu sp)) : jJ K kc nc pc lo (.ref (ad 0) :: st) (wA Y ad p n ru nw tg mc me we co al tr to fa se qu sp) :=
  j_get C wG_X0 0 rfl rfl 15 (by decide) wd_fl0_39 rfl rfl hd kk
theorem l0_we (C : jC cc RX0 Y rm nL K) {i : Int32} (j : Nat) (hi : i = nI j) (hj : j < 7) (hd : decode cc pc = .ok (.iaload, 1)) (kk : jJ K kc nc (pc + 1) lo (.int (we j) :: st) (wA Y ad p n ru nw tg mc me we co al tr to fa se qu sp)) : jJ K kc nc pc lo (.int i :: .ref (ad 1) :: st) (wA Y ad p n ru nw tg mc me we co al tr to fa se qu sp) :=
  j_iald C 1 rfl j hi hj (by decide) hd kk
theorem s0_we (C : jC cc RX0 Y rm nL K) {i x : Int32} (j : Nat) (hi : i = nI j) (hj : j < 7) (hd : decode cc pc = .ok (.iastore, 1)) (kk : jJ K kc nc (pc + 1) lo st (wA Y ad p n ru nw tg mc me (upd we j x) co al tr to fa se qu sp)) : jJ K kc nc pc lo (.int x :: .int i :: .ref (ad 1) :: st) (wA Y ad p n ru nw tg mc me we co al tr to fa se qu sp) :=
  j_iast C 1 rfl j hi hj (by decide) hd rfl kk
theorem e0_we (g : Nat → Int32) (h : ∀ j, j < 7 → we j = g j) (kk : jJ K kc nc pc lo st (wA Y ad p n ru nw tg mc me g co al tr to fa se qu sp)) : jJ K kc nc pc lo st (wA Y ad p n ru nw tg mc me we co al tr to fa se qu sp) := j_eqv 1 rfl h rfl kk
theorem n0_we (C : jC cc RX0 Y rm nL K) (hd : decode cc pc = .ok (.arraylength, 1)) (kk : jJ K kc nc (pc + 1) lo (.int (nI 7) :: st) (wA Y ad p n ru nw tg mc me we co al tr to fa se qu sp)) : jJ K kc nc pc lo (.ref (ad 1) :: st) (wA Y ad p n ru nw tg mc me we co al tr to fa se qu sp) :=
  j_alenG C 1 0 rfl rfl rfl hd kk
theorem l0_co (C : jC cc RX0 Y rm nL K) {i : Int32} (j : Nat) (hi : i = nI j) (hj : j < 6) (hd : decode cc pc = .ok (.iaload, 1)) (kk : jJ K kc nc (pc + 1) lo (.int (co j) :: st) (wA Y ad p n ru nw tg mc me we co al tr to fa se qu sp)) : jJ K kc nc pc lo (.int i :: .ref (ad 2) :: st) (wA Y ad p n ru nw tg mc me we co al tr to fa se qu sp) :=
  j_iald C 2 rfl j hi hj (by decide) hd kk
theorem s0_co (C : jC cc RX0 Y rm nL K) {i x : Int32} (j : Nat) (hi : i = nI j) (hj : j < 6) (hd : decode cc pc = .ok (.iastore, 1)) (kk : jJ K kc nc (pc + 1) lo st (wA Y ad p n ru nw tg mc me we (upd co j x) al tr to fa se qu sp)) : jJ K kc nc pc lo (.int x :: .int i :: .ref (ad 2) :: st) (wA Y ad p n ru nw tg mc me we co al tr to fa se qu sp) :=
  j_iast C 2 rfl j hi hj (by decide) hd rfl kk
theorem e0_co (g : Nat → Int32) (h : ∀ j, j < 6 → co j = g j) (kk : jJ K kc nc pc lo st (wA Y ad p n ru nw tg mc me we g al tr to fa se qu sp)) : jJ K kc nc pc lo st (wA Y ad p n ru nw tg mc me we co al tr to fa se qu sp) := j_eqv 2 rfl h rfl kk
theorem n0_co (C : jC cc RX0 Y rm nL K) (hd : decode cc pc = .ok (.arraylength, 1)) (kk : jJ K kc nc (pc + 1) lo (.int (nI 6) :: st) (wA Y ad p n ru nw tg mc me we co al tr to fa se qu sp)) : jJ K kc nc pc lo (.ref (ad 2) :: st) (wA Y ad p n ru nw tg mc me we co al tr to fa se qu sp) :=
  j_alenG C 2 0 rfl rfl rfl hd kk
theorem l0_al (C : jC cc RX0 Y rm nL K) {i : Int32} (j : Nat) (hi : i = nI j) (hj : j < 25) (hd : decode cc pc = .ok (.baload, 1)) (kk : jJ K kc nc (pc + 1) lo (.int (al j) :: st) (wA Y ad p n ru nw tg mc me we co al tr to fa se qu sp)) : jJ K kc nc pc lo (.int i :: .ref (ad 3) :: st) (wA Y ad p n ru nw tg mc me we co al tr to fa se qu sp) :=
  j_zald C 3 rfl j hi hj (by decide) hd kk
theorem s0_al (C : jC cc RX0 Y rm nL K) {i : Int32} {b : Bool} (j : Nat) (hi : i = nI j) (hj : j < 25) (hd : decode cc pc = .ok (.bastore, 1)) (kk : jJ K kc nc (pc + 1) lo st (wA Y ad p n ru nw tg mc me we co (upd al j (bi b)) tr to fa se qu sp)) : jJ K kc nc pc lo (.int (bi b) :: .int i :: .ref (ad 3) :: st) (wA Y ad p n ru nw tg mc me we co al tr to fa se qu sp) :=
  j_zast C 3 rfl j hi hj (by decide) hd (by rw [bi_vp]; rfl) kk
theorem e0_al (g : Nat → Int32) (h : ∀ j, j < 25 → al j = g j) (kk : jJ K kc nc pc lo st (wA Y ad p n ru nw tg mc me we co g tr to fa se qu sp)) : jJ K kc nc pc lo st (wA Y ad p n ru nw tg mc me we co al tr to fa se qu sp) := j_eqv 3 rfl h rfl kk
theorem n0_al (C : jC cc RX0 Y rm nL K) (hd : decode cc pc = .ok (.arraylength, 1)) (kk : jJ K kc nc (pc + 1) lo (.int (nI 25) :: st) (wA Y ad p n ru nw tg mc me we co al tr to fa se qu sp)) : jJ K kc nc pc lo (.ref (ad 3) :: st) (wA Y ad p n ru nw tg mc me we co al tr to fa se qu sp) :=
  j_alenG C 3 1 rfl rfl rfl hd kk
theorem l0_tr (C : jC cc RX0 Y rm nL K) {i : Int32} (j : Nat) (hi : i = nI j) (hj : j < 500) (hd : decode cc pc = .ok (.iaload, 1)) (kk : jJ K kc nc (pc + 1) lo (.int (tr j) :: st) (wA Y ad p n ru nw tg mc me we co al tr to fa se qu sp)) : jJ K kc nc pc lo (.int i :: .ref (ad 4) :: st) (wA Y ad p n ru nw tg mc me we co al tr to fa se qu sp) :=
  j_iald C 4 rfl j hi hj (by decide) hd kk
theorem s0_tr (C : jC cc RX0 Y rm nL K) {i x : Int32} (j : Nat) (hi : i = nI j) (hj : j < 500) (hd : decode cc pc = .ok (.iastore, 1)) (kk : jJ K kc nc (pc + 1) lo st (wA Y ad p n ru nw tg mc me we co al (upd tr j x) to fa se qu sp)) : jJ K kc nc pc lo (.int x :: .int i :: .ref (ad 4) :: st) (wA Y ad p n ru nw tg mc me we co al tr to fa se qu sp) :=
  j_iast C 4 rfl j hi hj (by decide) hd rfl kk
theorem e0_tr (g : Nat → Int32) (h : ∀ j, j < 500 → tr j = g j) (kk : jJ K kc nc pc lo st (wA Y ad p n ru nw tg mc me we co al g to fa se qu sp)) : jJ K kc nc pc lo st (wA Y ad p n ru nw tg mc me we co al tr to fa se qu sp) := j_eqv 4 rfl h rfl kk
theorem n0_tr (C : jC cc RX0 Y rm nL K) (hd : decode cc pc = .ok (.arraylength, 1)) (kk : jJ K kc nc (pc + 1) lo (.int (nI 500) :: st) (wA Y ad p n ru nw tg mc me we co al tr to fa se qu sp)) : jJ K kc nc pc lo (.ref (ad 4) :: st) (wA Y ad p n ru nw tg mc me we co al tr to fa se qu sp) :=
  j_alenG C 4 0 rfl rfl rfl hd kk
theorem l0_to (C : jC cc RX0 Y rm nL K) {i : Int32} (j : Nat) (hi : i = nI j) (hj : j < 5) (hd : decode cc pc = .ok (.iaload, 1)) (kk : jJ K kc nc (pc + 1) lo (.int (to j) :: st) (wA Y ad p n ru nw tg mc me we co al tr to fa se qu sp)) : jJ K kc nc pc lo (.int i :: .ref (ad 5) :: st) (wA Y ad p n ru nw tg mc me we co al tr to fa se qu sp) :=
  j_iald C 5 rfl j hi hj (by decide) hd kk
theorem s0_to (C : jC cc RX0 Y rm nL K) {i x : Int32} (j : Nat) (hi : i = nI j) (hj : j < 5) (hd : decode cc pc = .ok (.iastore, 1)) (kk : jJ K kc nc (pc + 1) lo st (wA Y ad p n ru nw tg mc me we co al tr (upd to j x) fa se qu sp)) : jJ K kc nc pc lo (.int x :: .int i :: .ref (ad 5) :: st) (wA Y ad p n ru nw tg mc me we co al tr to fa se qu sp) :=
  j_iast C 5 rfl j hi hj (by decide) hd rfl kk
theorem e0_to (g : Nat → Int32) (h : ∀ j, j < 5 → to j = g j) (kk : jJ K kc nc pc lo st (wA Y ad p n ru nw tg mc me we co al tr g fa se qu sp)) : jJ K kc nc pc lo st (wA Y ad p n ru nw tg mc me we co al tr to fa se qu sp) := j_eqv 5 rfl h rfl kk
theorem n0_to (C : jC cc RX0 Y rm nL K) (hd : decode cc pc = .ok (.arraylength, 1)) (kk : jJ K kc nc (pc + 1) lo (.int (nI 5) :: st) (wA Y ad p n ru nw tg mc me we co al tr to fa se qu sp)) : jJ K kc nc pc lo (.ref (ad 5) :: st) (wA Y ad p n ru nw tg mc me we co al tr to fa se qu sp) :=
  j_alenG C 5 0 rfl rfl rfl hd kk
theorem l0_fa (C : jC cc RX0 Y rm nL K) {i : Int32} (j : Nat) (hi : i = nI j) (hj : j < 15625) (hd : decode cc pc = .ok (.iaload, 1)) (kk : jJ K kc nc (pc + 1) lo (.int (fa j) :: st) (wA Y ad p n ru nw tg mc me we co al tr to fa se qu sp)) : jJ K kc nc pc lo (.int i :: .ref (ad 6) :: st) (wA Y ad p n ru nw tg mc me we co al tr to fa se qu sp) :=
  j_iald C 6 rfl j hi hj (by decide) hd kk
theorem s0_fa (C : jC cc RX0 Y rm nL K) {i x : Int32} (j : Nat) (hi : i = nI j) (hj : j < 15625) (hd : decode cc pc = .ok (.iastore, 1)) (kk : jJ K kc nc (pc + 1) lo st (wA Y ad p n ru nw tg mc me we co al tr to (upd fa j x) se qu sp)) : jJ K kc nc pc lo (.int x :: .int i :: .ref (ad 6) :: st) (wA Y ad p n ru nw tg mc me we co al tr to fa se qu sp) :=
  j_iast C 6 rfl j hi hj (by decide) hd rfl kk
theorem e0_fa (g : Nat → Int32) (h : ∀ j, j < 15625 → fa j = g j) (kk : jJ K kc nc pc lo st (wA Y ad p n ru nw tg mc me we co al tr to g se qu sp)) : jJ K kc nc pc lo st (wA Y ad p n ru nw tg mc me we co al tr to fa se qu sp) := j_eqv 6 rfl h rfl kk
theorem n0_fa (C : jC cc RX0 Y rm nL K) (hd : decode cc pc = .ok (.arraylength, 1)) (kk : jJ K kc nc (pc + 1) lo (.int (nI 15625) :: st) (wA Y ad p n ru nw tg mc me we co al tr to fa se qu sp)) : jJ K kc nc pc lo (.ref (ad 6) :: st) (wA Y ad p n ru nw tg mc me we co al tr to fa se qu sp) :=
  j_alenG C 6 0 rfl rfl rfl hd kk
theorem l0_se (C : jC cc RX0 Y rm nL K) {i : Int32} (j : Nat) (hi : i = nI j) (hj : j < 15625) (hd : decode cc pc = .ok (.iaload, 1)) (kk : jJ K kc nc (pc + 1) lo (.int (se j) :: st) (wA Y ad p n ru nw tg mc me we co al tr to fa se qu sp)) : jJ K kc nc pc lo (.int i :: .ref (ad 7) :: st) (wA Y ad p n ru nw tg mc me we co al tr to fa se qu sp) :=
  j_iald C 7 rfl j hi hj (by decide) hd kk
theorem s0_se (C : jC cc RX0 Y rm nL K) {i x : Int32} (j : Nat) (hi : i = nI j) (hj : j < 15625) (hd : decode cc pc = .ok (.iastore, 1)) (kk : jJ K kc nc (pc + 1) lo st (wA Y ad p n ru nw tg mc me we co al tr to fa (upd se j x) qu sp)) : jJ K kc nc pc lo (.int x :: .int i :: .ref (ad 7) :: st) (wA Y ad p n ru nw tg mc me we co al tr to fa se qu sp) :=
  j_iast C 7 rfl j hi hj (by decide) hd rfl kk
theorem e0_se (g : Nat → Int32) (h : ∀ j, j < 15625 → se j = g j) (kk : jJ K kc nc pc lo st (wA Y ad p n ru nw tg mc me we co al tr to fa g qu sp)) : jJ K kc nc pc lo st (wA Y ad p n ru nw tg mc me we co al tr to fa se qu sp) := j_eqv 7 rfl h rfl kk
theorem n0_se (C : jC cc RX0 Y rm nL K) (hd : decode cc pc = .ok (.arraylength, 1)) (kk : jJ K kc nc (pc + 1) lo (.int (nI 15625) :: st) (wA Y ad p n ru nw tg mc me we co al tr to fa se qu sp)) : jJ K kc nc pc lo (.ref (ad 7) :: st) (wA Y ad p n ru nw tg mc me we co al tr to fa se qu sp) :=
  j_alenG C 7 0 rfl rfl rfl hd kk
theorem l0_qu (C : jC cc RX0 Y rm nL K) {i : Int32} (j : Nat) (hi : i = nI j) (hj : j < 15625) (hd : decode cc pc = .ok (.iaload, 1)) (kk : jJ K kc nc (pc + 1) lo (.int (qu j) :: st) (wA Y ad p n ru nw tg mc me we co al tr to fa se qu sp)) : jJ K kc nc pc lo (.int i :: .ref (ad 8) :: st) (wA Y ad p n ru nw tg mc me we co al tr to fa se qu sp) :=
  j_iald C 8 rfl j hi hj (by decide) hd kk
theorem s0_qu (C : jC cc RX0 Y rm nL K) {i x : Int32} (j : Nat) (hi : i = nI j) (hj : j < 15625) (hd : decode cc pc = .ok (.iastore, 1)) (kk : jJ K kc nc (pc + 1) lo st (wA Y ad p n ru nw tg mc me we co al tr to fa se (upd qu j x) sp)) : jJ K kc nc pc lo (.int x :: .int i :: .ref (ad 8) :: st) (wA Y ad p n ru nw tg mc me we co al tr to fa se qu sp) :=
  j_iast C 8 rfl j hi hj (by decide) hd rfl kk
theorem e0_qu (g : Nat → Int32) (h : ∀ j, j < 15625 → qu j = g j) (kk : jJ K kc nc pc lo st (wA Y ad p n ru nw tg mc me we co al tr to fa se g sp)) : jJ K kc nc pc lo st (wA Y ad p n ru nw tg mc me we co al tr to fa se qu sp) := j_eqv 8 rfl h rfl kk
theorem n0_qu (C : jC cc RX0 Y rm nL K) (hd : decode cc pc = .ok (.arraylength, 1)) (kk : jJ K kc nc (pc + 1) lo (.int (nI 15625) :: st) (wA Y ad p n ru nw tg mc me we co al tr to fa se qu sp)) : jJ K kc nc pc lo (.ref (ad 8) :: st) (wA Y ad p n ru nw tg mc me we co al tr to fa se qu sp) :=
  j_alenG C 8 0 rfl rfl rfl hd kk
theorem l0_sp (C : jC cc RX0 Y rm nL K) {i : Int32} (j : Nat) (hi : i = nI j) (hj : j < 63) (hd : decode cc pc = .ok (.iaload, 1)) (kk : jJ K kc nc (pc + 1) lo (.int (sp j) :: st) (wA Y ad p n ru nw tg mc me we co al tr to fa se qu sp)) : jJ K kc nc pc lo (.int i :: .ref (ad 9) :: st) (wA Y ad p n ru nw tg mc me we co al tr to fa se qu sp) :=
  j_iald C 9 rfl j hi hj (by decide) hd kk
theorem s0_sp (C : jC cc RX0 Y rm nL K) {i x : Int32} (j : Nat) (hi : i = nI j) (hj : j < 63) (hd : decode cc pc = .ok (.iastore, 1)) (kk : jJ K kc nc (pc + 1) lo st (wA Y ad p n ru nw tg mc me we co al tr to fa se qu (upd sp j x))) : jJ K kc nc pc lo (.int x :: .int i :: .ref (ad 9) :: st) (wA Y ad p n ru nw tg mc me we co al tr to fa se qu sp) :=
  j_iast C 9 rfl j hi hj (by decide) hd rfl kk
theorem e0_sp (g : Nat → Int32) (h : ∀ j, j < 63 → sp j = g j) (kk : jJ K kc nc pc lo st (wA Y ad p n ru nw tg mc me we co al tr to fa se qu g)) : jJ K kc nc pc lo st (wA Y ad p n ru nw tg mc me we co al tr to fa se qu sp) := j_eqv 9 rfl h rfl kk
theorem n0_sp (C : jC cc RX0 Y rm nL K) (hd : decode cc pc = .ok (.arraylength, 1)) (kk : jJ K kc nc (pc + 1) lo (.int (nI 63) :: st) (wA Y ad p n ru nw tg mc me we co al tr to fa se qu sp)) : jJ K kc nc pc lo (.ref (ad 9) :: st) (wA Y ad p n ru nw tg mc me we co al tr to fa se qu sp) :=
  j_alenG C 9 0 rfl rfl rfl hd kk
end JW0
theorem nd_X0_begin : (yX0_begin.cls ≠ "java/lang/invoke/MethodHandle" ∧ yX0_begin.cls ≠ "java/lang/invoke/VarHandle" ∧ (parseMethodDescriptor yX0_begin.desc).map (fun d => d.parameters.length) = some 2) := by decide +kernel
theorem nd_X0_put : (yX0_put.cls ≠ "java/lang/invoke/MethodHandle" ∧ yX0_put.cls ≠ "java/lang/invoke/VarHandle" ∧ (parseMethodDescriptor yX0_put.desc).map (fun d => d.parameters.length) = some 2) := by decide +kernel
theorem nd_X0_aim : (yX0_aim.cls ≠ "java/lang/invoke/MethodHandle" ∧ yX0_aim.cls ≠ "java/lang/invoke/VarHandle" ∧ (parseMethodDescriptor yX0_aim.desc).map (fun d => d.parameters.length) = some 2) := by decide +kernel
theorem nd_X0_allow : (yX0_allow.cls ≠ "java/lang/invoke/MethodHandle" ∧ yX0_allow.cls ≠ "java/lang/invoke/VarHandle" ∧ (parseMethodDescriptor yX0_allow.desc).map (fun d => d.parameters.length) = some 3) := by decide +kernel
theorem nd_X0_setColour : (yX0_setColour.cls ≠ "java/lang/invoke/MethodHandle" ∧ yX0_setColour.cls ≠ "java/lang/invoke/VarHandle" ∧ (parseMethodDescriptor yX0_setColour.desc).map (fun d => d.parameters.length) = some 2) := by decide +kernel
theorem nd_X0_setRule : (yX0_setRule.cls ≠ "java/lang/invoke/MethodHandle" ∧ yX0_setRule.cls ≠ "java/lang/invoke/VarHandle" ∧ (parseMethodDescriptor yX0_setRule.desc).map (fun d => d.parameters.length) = some 1) := by decide +kernel
theorem nd_X0_move : (yX0_move.cls ≠ "java/lang/invoke/MethodHandle" ∧ yX0_move.cls ≠ "java/lang/invoke/VarHandle" ∧ (parseMethodDescriptor yX0_move.desc).map (fun d => d.parameters.length) = some 2) := by decide +kernel
theorem nd_X0_takeBack : (yX0_takeBack.cls ≠ "java/lang/invoke/MethodHandle" ∧ yX0_takeBack.cls ≠ "java/lang/invoke/VarHandle" ∧ (parseMethodDescriptor yX0_takeBack.desc).map (fun d => d.parameters.length) = some 0) := by decide +kernel
theorem nd_X0_layStart : (yX0_layStart.cls ≠ "java/lang/invoke/MethodHandle" ∧ yX0_layStart.cls ≠ "java/lang/invoke/VarHandle" ∧ (parseMethodDescriptor yX0_layStart.desc).map (fun d => d.parameters.length) = some 0) := by decide +kernel
theorem nd_X0_pegs : (yX0_pegs.cls ≠ "java/lang/invoke/MethodHandle" ∧ yX0_pegs.cls ≠ "java/lang/invoke/VarHandle" ∧ (parseMethodDescriptor yX0_pegs.desc).map (fun d => d.parameters.length) = some 0) := by decide +kernel
theorem nd_X0_disks : (yX0_disks.cls ≠ "java/lang/invoke/MethodHandle" ∧ yX0_disks.cls ≠ "java/lang/invoke/VarHandle" ∧ (parseMethodDescriptor yX0_disks.desc).map (fun d => d.parameters.length) = some 0) := by decide +kernel
theorem nd_X0_moves : (yX0_moves.cls ≠ "java/lang/invoke/MethodHandle" ∧ yX0_moves.cls ≠ "java/lang/invoke/VarHandle" ∧ (parseMethodDescriptor yX0_moves.desc).map (fun d => d.parameters.length) = some 0) := by decide +kernel
theorem nd_X0_pegOf : (yX0_pegOf.cls ≠ "java/lang/invoke/MethodHandle" ∧ yX0_pegOf.cls ≠ "java/lang/invoke/VarHandle" ∧ (parseMethodDescriptor yX0_pegOf.desc).map (fun d => d.parameters.length) = some 1) := by decide +kernel
theorem nd_X0_top : (yX0_top.cls ≠ "java/lang/invoke/MethodHandle" ∧ yX0_top.cls ≠ "java/lang/invoke/VarHandle" ∧ (parseMethodDescriptor yX0_top.desc).map (fun d => d.parameters.length) = some 1) := by decide +kernel
theorem nd_X0_arrangement : (yX0_arrangement.cls ≠ "java/lang/invoke/MethodHandle" ∧ yX0_arrangement.cls ≠ "java/lang/invoke/VarHandle" ∧ (parseMethodDescriptor yX0_arrangement.desc).map (fun d => d.parameters.length) = some 0) := by decide +kernel
theorem nd_X0_goal : (yX0_goal.cls ≠ "java/lang/invoke/MethodHandle" ∧ yX0_goal.cls ≠ "java/lang/invoke/VarHandle" ∧ (parseMethodDescriptor yX0_goal.desc).map (fun d => d.parameters.length) = some 0) := by decide +kernel
theorem nd_X0_isLawful : (yX0_isLawful.cls ≠ "java/lang/invoke/MethodHandle" ∧ yX0_isLawful.cls ≠ "java/lang/invoke/VarHandle" ∧ (parseMethodDescriptor yX0_isLawful.desc).map (fun d => d.parameters.length) = some 0) := by decide +kernel
theorem nd_X0_canMove : (yX0_canMove.cls ≠ "java/lang/invoke/MethodHandle" ∧ yX0_canMove.cls ≠ "java/lang/invoke/VarHandle" ∧ (parseMethodDescriptor yX0_canMove.desc).map (fun d => d.parameters.length) = some 2) := by decide +kernel
theorem nd_X0_way : (yX0_way.cls ≠ "java/lang/invoke/MethodHandle" ∧ yX0_way.cls ≠ "java/lang/invoke/VarHandle" ∧ (parseMethodDescriptor yX0_way.desc).map (fun d => d.parameters.length) = some 0) := by decide +kernel
theorem nd_X0_wayByDisks : (yX0_wayByDisks.cls ≠ "java/lang/invoke/MethodHandle" ∧ yX0_wayByDisks.cls ≠ "java/lang/invoke/VarHandle" ∧ (parseMethodDescriptor yX0_wayByDisks.desc).map (fun d => d.parameters.length) = some 0) := by decide +kernel
theorem nd_X0_lost : (yX0_lost.cls ≠ "java/lang/invoke/MethodHandle" ∧ yX0_lost.cls ≠ "java/lang/invoke/VarHandle" ∧ (parseMethodDescriptor yX0_lost.desc).map (fun d => d.parameters.length) = some 0) := by decide +kernel
theorem nd_X0_next : (yX0_next.cls ≠ "java/lang/invoke/MethodHandle" ∧ yX0_next.cls ≠ "java/lang/invoke/VarHandle" ∧ (parseMethodDescriptor yX0_next.desc).map (fun d => d.parameters.length) = some 0) := by decide +kernel
theorem nd_X0_reachable : (yX0_reachable.cls ≠ "java/lang/invoke/MethodHandle" ∧ yX0_reachable.cls ≠ "java/lang/invoke/VarHandle" ∧ (parseMethodDescriptor yX0_reachable.desc).map (fun d => d.parameters.length) = some 0) := by decide +kernel
theorem nd_X0_lay : (yX0_lay.cls ≠ "java/lang/invoke/MethodHandle" ∧ yX0_lay.cls ≠ "java/lang/invoke/VarHandle" ∧ (parseMethodDescriptor yX0_lay.desc).map (fun d => d.parameters.length) = some 2) := by decide +kernel
theorem nd_X0_isPeg : (yX0_isPeg.cls ≠ "java/lang/invoke/MethodHandle" ∧ yX0_isPeg.cls ≠ "java/lang/invoke/VarHandle" ∧ (parseMethodDescriptor yX0_isPeg.desc).map (fun d => d.parameters.length) = some 1) := by decide +kernel
theorem nd_X0_isDisk : (yX0_isDisk.cls ≠ "java/lang/invoke/MethodHandle" ∧ yX0_isDisk.cls ≠ "java/lang/invoke/VarHandle" ∧ (parseMethodDescriptor yX0_isDisk.desc).map (fun d => d.parameters.length) = some 1) := by decide +kernel
theorem nd_X0_isNumber : (yX0_isNumber.cls ≠ "java/lang/invoke/MethodHandle" ∧ yX0_isNumber.cls ≠ "java/lang/invoke/VarHandle" ∧ (parseMethodDescriptor yX0_isNumber.desc).map (fun d => d.parameters.length) = some 1) := by decide +kernel
theorem nd_X0_pairOf : (yX0_pairOf.cls ≠ "java/lang/invoke/MethodHandle" ∧ yX0_pairOf.cls ≠ "java/lang/invoke/VarHandle" ∧ (parseMethodDescriptor yX0_pairOf.desc).map (fun d => d.parameters.length) = some 2) := by decide +kernel
theorem nd_X0_isAnyBarred : (yX0_isAnyBarred.cls ≠ "java/lang/invoke/MethodHandle" ∧ yX0_isAnyBarred.cls ≠ "java/lang/invoke/VarHandle" ∧ (parseMethodDescriptor yX0_isAnyBarred.desc).map (fun d => d.parameters.length) = some 0) := by decide +kernel
theorem nd_X0_pegIn : (yX0_pegIn.cls ≠ "java/lang/invoke/MethodHandle" ∧ yX0_pegIn.cls ≠ "java/lang/invoke/VarHandle" ∧ (parseMethodDescriptor yX0_pegIn.desc).map (fun d => d.parameters.length) = some 2) := by decide +kernel
theorem nd_X0_diskBelow : (yX0_diskBelow.cls ≠ "java/lang/invoke/MethodHandle" ∧ yX0_diskBelow.cls ≠ "java/lang/invoke/VarHandle" ∧ (parseMethodDescriptor yX0_diskBelow.desc).map (fun d => d.parameters.length) = some 2) := by decide +kernel
theorem nd_X0_mayLieOn : (yX0_mayLieOn.cls ≠ "java/lang/invoke/MethodHandle" ∧ yX0_mayLieOn.cls ≠ "java/lang/invoke/VarHandle" ∧ (parseMethodDescriptor yX0_mayLieOn.desc).map (fun d => d.parameters.length) = some 2) := by decide +kernel
theorem nd_X0_keepsRule : (yX0_keepsRule.cls ≠ "java/lang/invoke/MethodHandle" ∧ yX0_keepsRule.cls ≠ "java/lang/invoke/VarHandle" ∧ (parseMethodDescriptor yX0_keepsRule.desc).map (fun d => d.parameters.length) = some 1) := by decide +kernel
theorem nd_X0_readTops : (yX0_readTops.cls ≠ "java/lang/invoke/MethodHandle" ∧ yX0_readTops.cls ≠ "java/lang/invoke/VarHandle" ∧ (parseMethodDescriptor yX0_readTops.desc).map (fun d => d.parameters.length) = some 1) := by decide +kernel
theorem nd_X0_fits : (yX0_fits.cls ≠ "java/lang/invoke/MethodHandle" ∧ yX0_fits.cls ≠ "java/lang/invoke/VarHandle" ∧ (parseMethodDescriptor yX0_fits.desc).map (fun d => d.parameters.length) = some 2) := by decide +kernel
theorem nd_X0_behindMove : (yX0_behindMove.cls ≠ "java/lang/invoke/MethodHandle" ∧ yX0_behindMove.cls ≠ "java/lang/invoke/VarHandle" ∧ (parseMethodDescriptor yX0_behindMove.desc).map (fun d => d.parameters.length) = some 3) := by decide +kernel
theorem nd_X0_isPossible : (yX0_isPossible.cls ≠ "java/lang/invoke/MethodHandle" ∧ yX0_isPossible.cls ≠ "java/lang/invoke/VarHandle" ∧ (parseMethodDescriptor yX0_isPossible.desc).map (fun d => d.parameters.length) = some 2) := by decide +kernel
theorem nd_X0_isStep : (yX0_isStep.cls ≠ "java/lang/invoke/MethodHandle" ∧ yX0_isStep.cls ≠ "java/lang/invoke/VarHandle" ∧ (parseMethodDescriptor yX0_isStep.desc).map (fun d => d.parameters.length) = some 3) := by decide +kernel
theorem nd_X0_wayFrom : (yX0_wayFrom.cls ≠ "java/lang/invoke/MethodHandle" ∧ yX0_wayFrom.cls ≠ "java/lang/invoke/VarHandle" ∧ (parseMethodDescriptor yX0_wayFrom.desc).map (fun d => d.parameters.length) = some 1) := by decide +kernel
theorem nd_X0_search : (yX0_search.cls ≠ "java/lang/invoke/MethodHandle" ∧ yX0_search.cls ≠ "java/lang/invoke/VarHandle" ∧ (parseMethodDescriptor yX0_search.desc).map (fun d => d.parameters.length) = some 3) := by decide +kernel
theorem nd_X0_searchFrom : (yX0_searchFrom.cls ≠ "java/lang/invoke/MethodHandle" ∧ yX0_searchFrom.cls ≠ "java/lang/invoke/VarHandle" ∧ (parseMethodDescriptor yX0_searchFrom.desc).map (fun d => d.parameters.length) = some 4) := by decide +kernel
theorem nd_X0_thirdPeg : (yX0_thirdPeg.cls ≠ "java/lang/invoke/MethodHandle" ∧ yX0_thirdPeg.cls ≠ "java/lang/invoke/VarHandle" ∧ (parseMethodDescriptor yX0_thirdPeg.desc).map (fun d => d.parameters.length) = some 2) := by decide +kernel
theorem nd_X0_gather : (yX0_gather.cls ≠ "java/lang/invoke/MethodHandle" ∧ yX0_gather.cls ≠ "java/lang/invoke/VarHandle" ∧ (parseMethodDescriptor yX0_gather.desc).map (fun d => d.parameters.length) = some 3) := by decide +kernel
theorem nd_X0_splitIndex : (yX0_splitIndex.cls ≠ "java/lang/invoke/MethodHandle" ∧ yX0_splitIndex.cls ≠ "java/lang/invoke/VarHandle" ∧ (parseMethodDescriptor yX0_splitIndex.desc).map (fun d => d.parameters.length) = some 2) := by decide +kernel
theorem nd_X0_splitTable : (yX0_splitTable.cls ≠ "java/lang/invoke/MethodHandle" ∧ yX0_splitTable.cls ≠ "java/lang/invoke/VarHandle" ∧ (parseMethodDescriptor yX0_splitTable.desc).map (fun d => d.parameters.length) = some 0) := by decide +kernel
theorem nd_X0_splitNumber : (yX0_splitNumber.cls ≠ "java/lang/invoke/MethodHandle" ∧ yX0_splitNumber.cls ≠ "java/lang/invoke/VarHandle" ∧ (parseMethodDescriptor yX0_splitNumber.desc).map (fun d => d.parameters.length) = some 3) := by decide +kernel
theorem nd_J9_min_7cf53 : (yJ9_min_7cf53.cls ≠ "java/lang/invoke/MethodHandle" ∧ yJ9_min_7cf53.cls ≠ "java/lang/invoke/VarHandle" ∧ (parseMethodDescriptor yJ9_min_7cf53.desc).map (fun d => d.parameters.length) = some 2) := by decide +kernel
theorem nd_L_cell : (yL_cell.cls ≠ "java/lang/invoke/MethodHandle" ∧ yL_cell.cls ≠ "java/lang/invoke/VarHandle" ∧ (parseMethodDescriptor yL_cell.desc).map (fun d => d.parameters.length) = some 2) := by decide +kernel
theorem nd_L_low : (yL_low.cls ≠ "java/lang/invoke/MethodHandle" ∧ yL_low.cls ≠ "java/lang/invoke/VarHandle" ∧ (parseMethodDescriptor yL_low.desc).map (fun d => d.parameters.length) = some 2) := by decide +kernel
theorem nd_L_begin : (yL_begin.cls ≠ "java/lang/invoke/MethodHandle" ∧ yL_begin.cls ≠ "java/lang/invoke/VarHandle" ∧ (parseMethodDescriptor yL_begin.desc).map (fun d => d.parameters.length) = some 3) := by decide +kernel
theorem nd_L_put : (yL_put.cls ≠ "java/lang/invoke/MethodHandle" ∧ yL_put.cls ≠ "java/lang/invoke/VarHandle" ∧ (parseMethodDescriptor yL_put.desc).map (fun d => d.parameters.length) = some 3) := by decide +kernel
theorem nd_L_aim : (yL_aim.cls ≠ "java/lang/invoke/MethodHandle" ∧ yL_aim.cls ≠ "java/lang/invoke/VarHandle" ∧ (parseMethodDescriptor yL_aim.desc).map (fun d => d.parameters.length) = some 3) := by decide +kernel
theorem nd_L_allow : (yL_allow.cls ≠ "java/lang/invoke/MethodHandle" ∧ yL_allow.cls ≠ "java/lang/invoke/VarHandle" ∧ (parseMethodDescriptor yL_allow.desc).map (fun d => d.parameters.length) = some 4) := by decide +kernel
theorem nd_L_setColour : (yL_setColour.cls ≠ "java/lang/invoke/MethodHandle" ∧ yL_setColour.cls ≠ "java/lang/invoke/VarHandle" ∧ (parseMethodDescriptor yL_setColour.desc).map (fun d => d.parameters.length) = some 3) := by decide +kernel
theorem nd_L_move : (yL_move.cls ≠ "java/lang/invoke/MethodHandle" ∧ yL_move.cls ≠ "java/lang/invoke/VarHandle" ∧ (parseMethodDescriptor yL_move.desc).map (fun d => d.parameters.length) = some 3) := by decide +kernel
theorem nd_L_takeBack : (yL_takeBack.cls ≠ "java/lang/invoke/MethodHandle" ∧ yL_takeBack.cls ≠ "java/lang/invoke/VarHandle" ∧ (parseMethodDescriptor yL_takeBack.desc).map (fun d => d.parameters.length) = some 1) := by decide +kernel
theorem nd_L_lost : (yL_lost.cls ≠ "java/lang/invoke/MethodHandle" ∧ yL_lost.cls ≠ "java/lang/invoke/VarHandle" ∧ (parseMethodDescriptor yL_lost.desc).map (fun d => d.parameters.length) = some 1) := by decide +kernel
theorem nd_L_wayByDisks : (yL_wayByDisks.cls ≠ "java/lang/invoke/MethodHandle" ∧ yL_wayByDisks.cls ≠ "java/lang/invoke/VarHandle" ∧ (parseMethodDescriptor yL_wayByDisks.desc).map (fun d => d.parameters.length) = some 1) := by decide +kernel
theorem nd_L_act : (yL_act.cls ≠ "java/lang/invoke/MethodHandle" ∧ yL_act.cls ≠ "java/lang/invoke/VarHandle" ∧ (parseMethodDescriptor yL_act.desc).map (fun d => d.parameters.length) = some 2) := by decide +kernel
theorem nd_L_areAlike : (yL_areAlike.cls ≠ "java/lang/invoke/MethodHandle" ∧ yL_areAlike.cls ≠ "java/lang/invoke/VarHandle" ∧ (parseMethodDescriptor yL_areAlike.desc).map (fun d => d.parameters.length) = some 2) := by decide +kernel
theorem nd_L_isNowSo : (yL_isNowSo.cls ≠ "java/lang/invoke/MethodHandle" ∧ yL_isNowSo.cls ≠ "java/lang/invoke/VarHandle" ∧ (parseMethodDescriptor yL_isNowSo.desc).map (fun d => d.parameters.length) = some 1) := by decide +kernel
theorem nd_L_areWaysSo : (yL_areWaysSo.cls ≠ "java/lang/invoke/MethodHandle" ∧ yL_areWaysSo.cls ≠ "java/lang/invoke/VarHandle" ∧ (parseMethodDescriptor yL_areWaysSo.desc).map (fun d => d.parameters.length) = some 1) := by decide +kernel
theorem nd_L_law : (yL_law.cls ≠ "java/lang/invoke/MethodHandle" ∧ yL_law.cls ≠ "java/lang/invoke/VarHandle" ∧ (parseMethodDescriptor yL_law.desc).map (fun d => d.parameters.length) = some 1) := by decide +kernel
end
section
section JF
variable {K : jk_T} {cc : ByteArray} {own : String} {Y : jy_T} {rm : Room} {nL k n pc : Nat} {lo : List (Option Value)} {st : List Value} {ws : va_W}
theorem j_mmin (C : jC cc own Y rm nL K) {ix : Nat} {x y : Int32} (hl0 : Cond.methodLink own ix yJ9_min_7cf53 ∈ wG) (hfr : 1 ≤ rm.frames) (hlo : (st.map fun v => v.category).sum + 13 ≤ rm.locals) (hk : k ≤ rm.cells) (hn : n ≤ rm.slots) (hd : decode cc pc = .ok (.invokestatic ix, 3)) (kk : jJ K k n (pc + 3) lo (.int (if y < x then y else x) :: st) ws) : jJ K k n pc lo (.int y :: .int x :: st) ws :=
  fun H locs ls hP hD hS hl => va_mmin C.1 C.2.1 (by rw [C.2.2.2.2.2.2.1]; exact hl.1.symm) C.2.2.1 (C.2.2.2.1 _ hl0) (C.2.2.2.1 _ wd_st_J9_min_7cf53) (C.2.2.2.1 _ wd_in_J9) (C.2.2.2.1 _ wd_co_J9_min_7cf53) (by rw [C.2.2.2.2.2.2.2.2.1]; exact hfr) (by rw [C.2.2.2.2.2.2.2.2.1]; exact hlo) (by rw [C.2.2.2.2.2.2.2.2.1]; exact hk) (by rw [C.2.2.2.2.2.2.2.2.1]; exact hn) hd (kk H locs ls hP hD hS hl)
theorem fm_of {α : Type} {ws wc : List α} {is : List Nat} (h : is.map (fun i => ws[i]?) = wc.map some) : is.filterMap (fun i => ws[i]?) = wc := by
  have h1 : is.filterMap (fun i => ws[i]?) = (is.map (fun i => ws[i]?)).filterMap id := by rw [List.filterMap_map]; rfl
  rw [h1, h, List.filterMap_map]
  show List.filterMap some wc = wc
  exact List.filterMap_some
/-- the world in another order, or a part of it -/
theorem j_sub {ws2 : va_W} (is : List Nat) (hm : is.map (fun i => ws[i]?) = ws2.map some) (hn : va_nd is = true) (kk : jJ K k n pc lo st ws2) : jJ K k n pc lo st ws :=
  fun H locs ls hP hD hS hl => kk H locs ls (hP.sub is (fm_of hm)) (hD.sub is hn hm) hS hl
/-- where a method has thrown an E -/
def jH (K : jk_T) (k n : Nat) (pc : Nat) (lo : List (Option Value)) (E : String) (ws : va_W) : Prop :=
  ∀ (H : Heap) (locs : List Loc) (ls : Array Slot) (ce : Cell) (q : Nat) (rest : List Value), va_P K.2.2.2.1 vwCl ws H → va_D K.2.2.1.1 ws → va_S K.2.2.1.1 K.1.2.2.2.2.heap H locs → jl_has ls K.2.2.2.2 lo → H[q]? = some ce → ce.vm = .none → K.1.2.2.2.2.vm.findClass E = some ce.cls →
    vx_W K.1.1 K.1.2.1 K.1.2.2.1 K.1.2.2.2.1 K.1.2.2.2.2 K.2.1.1 K.2.1.2.1 K.2.1.2.2.1 K.2.1.2.2.2.1 K.2.1.2.2.2.2 H locs k n K.2.2.1.2 (F0 K.2.1.1 pc ls rest) q
def jXC (D : va_G) (Y : jy_T) (A : Nat → Prop) (Pex : String → va_W → Prop) : String → State → State → Prop := fun E st t =>
  (∃ w, Pex E w ∧ va_P D vwCl w t.heap ∧ va_K D vwCl (jtys Y) t ∧ va_D A w) ∧ va_F A st t
/-- a call of a part of the world -/
theorem j_runF (C : jC cc own Y rm nL K) {Pst : jp_T} {mc ms : Nat} {ops : List Value} {wc wr : va_W} (isC isR : List Nat) (hC : isC.map (fun i => ws[i]?) = wc.map some) (hR : isR.map (fun i => ws[i]?) = wr.map some) (hnC : va_nd isC = true) (hnR : va_nd isR = true) (hdis : ∀ i ∈ isR, i ∉ isC)
    (hr : ∀ (H : Heap) (locs : List Loc) (ls : Array Slot), va_P K.2.2.2.1 vwCl wc H → va_D K.2.2.1.1 wc → va_S K.2.2.1.1 K.1.2.2.2.2.heap H locs → jl_has ls K.2.2.2.2 lo → (∀ q, va_A wc H.size q → K.2.2.1.1 q) →
      va_Run K.1.1 K.1.2.1 K.1.2.2.1 K.1.2.2.2.1 K.1.2.2.2.2 K.2.1.1 K.2.1.2.1 K.2.1.2.2.1 K.2.1.2.2.2.1 K.2.1.2.2.2.2 H locs k n mc ms (F0 K.2.1.1 pc ls ops) st (jQ K.2.2.2.1 Y (va_A wc H.size) Pst #[]) (va_A wc H.size))
    (kk : ∀ r w1, Pst r w1 → jJ K (k + mc) (n + ms) (pc + 3) lo (r.toList ++ st) (wr ++ w1)) : jJ K k n pc lo ops ws := by
  intro H locs ls hP hD hS hl T hT X
  have hPc := hP.sub isC (fm_of hC)
  have hDc := hD.sub isC hnC hC
  have hF := va_free hD hS C.2.2.2.2.2.1 isC hC
  obtain ⟨v, st₀, t, T', L, h0, X', hL, e1, e2, ⟨⟨r, w1, hv, hp, hP1, hK1, hD1⟩, hz, hk⟩, hst⟩ := hr H locs ls hPc hDc hS hl hF T hT X
  cases hv
  rw [h0] at hz hk
  rw [← e1] at hP1 hz hk
  obtain ⟨hP2, hD2⟩ := va_join hP hD isC isR hC hR hnR hdis hk hF hP1 hD1
  have hS1 : va_S K.2.2.1.1 K.1.2.2.2.2.heap T'.heap (locs ++ L) := ⟨Nat.le_trans hS.1 hz, fun q h1 h2 => by
      rw [hk q (Nat.lt_of_lt_of_le h1 hS.1) (fun z => h2 (hF q z))]; exact hS.2.1 q h1 h2, fun q hq => by
      rcases List.mem_append.mp hq with h | h
      · exact hS.2.2 q h
      · exact hF _ (hL q h)⟩
  obtain ⟨t2, a1, b1⟩ := kk v w1 hp T'.heap (locs ++ L) ls hP2 hD2 hS1 hl T' rfl X'
  exact ⟨t2, hst t2 a1, b1⟩
theorem j_runX (C : jC cc own Y rm nL K) {Pst : jp_T} {Pex : String → va_W → Prop} {mc ms : Nat} {ops : List Value} {wc wr : va_W} (isC isR : List Nat) (hC : isC.map (fun i => ws[i]?) = wc.map some) (hR : isR.map (fun i => ws[i]?) = wr.map some) (hnC : va_nd isC = true) (hnR : va_nd isR = true) (hdis : ∀ i ∈ isR, i ∉ isC)
    (hr : ∀ (H : Heap) (locs : List Loc) (ls : Array Slot), va_P K.2.2.2.1 vwCl wc H → va_D K.2.2.1.1 wc → va_S K.2.2.1.1 K.1.2.2.2.2.heap H locs → jl_has ls K.2.2.2.2 lo → (∀ q, va_A wc H.size q → K.2.2.1.1 q) →
      vx_Run K.1.1 K.1.2.1 K.1.2.2.1 K.1.2.2.2.1 K.1.2.2.2.2 K.2.1.1 K.2.1.2.1 K.2.1.2.2.1 K.2.1.2.2.2.1 K.2.1.2.2.2.2 H locs k n mc ms (F0 K.2.1.1 pc ls ops) st (jQ K.2.2.2.1 Y (va_A wc H.size) Pst #[]) (jXC K.2.2.2.1 Y (va_A wc H.size) Pex) (va_A wc H.size))
    (kk : ∀ r w1, Pst r w1 → jJ K (k + mc) (n + ms) (pc + 3) lo (r.toList ++ st) (wr ++ w1))
    (kx : ∀ E w1, Pex E w1 → jH K (k + mc) (n + ms) pc lo E (wr ++ w1)) : jJ K k n pc lo ops ws := by
  intro H locs ls hP hD hS hl T hT X
  have hPc := hP.sub isC (fm_of hC)
  have hDc := hD.sub isC hnC hC
  have hF := va_free hD hS C.2.2.2.2.2.1 isC hC
  have key : ∀ (T' t : State) (st₀ : State) (L : List Loc) (w1 : va_W), st₀.heap = H → T'.heap = t.heap → (∀ q ∈ L, va_A wc H.size q.base) → va_P K.2.2.2.1 vwCl w1 t.heap → va_D (va_A wc H.size) w1 → va_F (va_A wc H.size) st₀ t →
      va_P K.2.2.2.1 vwCl (wr ++ w1) T'.heap ∧ va_D K.2.2.1.1 (wr ++ w1) ∧ va_S K.2.2.1.1 K.1.2.2.2.2.heap T'.heap (locs ++ L) := by
    intro T' t st₀ L w1 h0 e1 hL hP1 hD1 hFF
    obtain ⟨hz, hk⟩ := hFF
    rw [h0] at hz hk
    rw [← e1] at hP1 hz hk
    obtain ⟨hP2, hD2⟩ := va_join hP hD isC isR hC hR hnR hdis hk hF hP1 hD1
    exact ⟨hP2, hD2, Nat.le_trans hS.1 hz, fun q h1 h2 => by
      rw [hk q (Nat.lt_of_lt_of_le h1 hS.1) (fun z => h2 (hF q z))]; exact hS.2.1 q h1 h2, fun q hq => by
      rcases List.mem_append.mp hq with h | h
      · exact hS.2.2 q h
      · exact hF _ (hL q h)⟩
  rcases hr H locs ls hPc hDc hS hl hF T hT X with ⟨v, st₀, t, T', L, h0, X', hL, e1, e2, ⟨⟨r, w1, hv, hp, hP1, hK1, hD1⟩, hFF⟩, hst⟩ | ⟨q, st₀, t, T', L, E, ce, h0, X', hL, e1, e2, ⟨⟨w1, hp, hP1, hK1, hD1⟩, hFF⟩, hce, hcv, hcl, hst⟩
  · cases hv
    obtain ⟨a, b, c⟩ := key T' t st₀ L w1 h0 e1 hL hP1 hD1 hFF
    obtain ⟨t2, a1, b1⟩ := kk v w1 hp T'.heap (locs ++ L) ls a b c hl T' rfl X'
    exact ⟨t2, hst t2 a1, b1⟩
  · obtain ⟨a, b, c⟩ := key T' t st₀ L w1 h0 e1 hL hP1 hD1 hFF
    obtain ⟨t2, a1, b1⟩ := kx E w1 hp T'.heap (locs ++ L) ls ce q st a b c hl (by rw [e1]; exact hce) hcv hcl T' rfl X'
    exact ⟨t2, hst.trans a1, b1⟩
end JF
-- what an exception needs
def xNm : List String := ["java/lang/RuntimeException", "java/lang/Exception"]
def xIAE : String := "java/lang/IllegalArgumentException"
def xIOO : String := "java/lang/IndexOutOfBoundsException"
def xISE : String := "java/lang/IllegalStateException"
def xAt1 : List Cond := vx_atS RX0 50 xIAE xNm
def xAt2 : List Cond := vx_atS RX0 68 xIOO xNm
def xAt3 : List Cond := vx_atS RX0 76 xISE xNm
def xW : List Cond := (xAt1 ++ (xAt2 ++ xAt3)).filter (fun w => !goodWord w)
def xcd : Cond → Bool
  | .castable _ _ => true
  | .declares _ => true
  | _ => false
theorem xW_cd : xW.all xcd = true := by decide +kernel
theorem xW_tbl : xW.all (fun w => decide (w ∈ lw_tbl)) = true := by decide +kernel
theorem xAt_tbl : (xAt1 ++ (xAt2 ++ xAt3)).all (fun w => decide (w ∈ lw_tbl)) = true := by decide +kernel
theorem xAt_ot : (xAt1 ++ (xAt2 ++ xAt3)).all (fun w => vx_ot w) = true := by decide +kernel
theorem xAt_in : ∀ w ∈ xAt1 ++ (xAt2 ++ xAt3), w ∈ wG ∨ w ∈ xW := fun w h => by
  have h1 : w ∈ lw_tbl := of_decide_eq_true (List.all_eq_true.mp xAt_tbl w h)
  cases g : goodWord w
  · exact Or.inr (List.mem_filter.mpr ⟨h, by rw [g]; rfl⟩)
  · exact Or.inl (List.mem_filter.mpr ⟨h1, g⟩)
def xS : List (Nat × String) := [(48, "pegs or disks out of range"), (66, "no such disk or peg"), (74, "a move was made"), (91, "no such peg"), (93, "both pegs are the same"), (98, "no such disk"), (100, "colour out of range"), (109, "the move is not possible, or too many were made"), (115, "no move was made"), (135, "only for three free pegs without the rule of colours"), (148, "there is no way")]
def xN : List (String × String) := [(xIAE, xISE), (xIAE, xIOO), (xISE, xIAE), (xISE, xIOO), (xIOO, xIAE), (xIOO, xISE)]
def xF (A : Nat → Prop) (U : State) (H : Heap) : Prop :=
  vx_Zq Bundle.tN "UNASSIGNED_STACK" Bundle.steD A U H ∧ vx_Zq Bundle.tN "SUPPRESSED_SENTINEL" Bundle.listD A U H ∧ (∀ w ∈ xW, va_Nw w U) ∧ (∀ q ∈ xS, ∃ sa, vk_R RX0 q.1 q.2 sa U) ∧ ∀ q ∈ xN, va_Nc q.1 q.2 U
theorem xNw_warm {w : Cond} {s U : State} (h : xcd w = true) (hW : s.WarmedH U.vm) (hz : va_Nw w s) : va_Nw w U := by
  cases w with
  | castable a b => exact va_Nw.warmC hW hz
  | declares a => exact va_Nw.warmD hW hz
  | _ => cases h
theorem xF_call {A B : Nat → Prop} {s U : State} {H : Heap} {locs : List Loc} (h : xF A s s.heap) (hS : va_S A s.heap H locs) (hU : U.heap = H) (hW : s.WarmedH U.vm) (hAB : ∀ q, B q → A q) : xF B U U.heap := by
  obtain ⟨h1, h2, h3, h4, h5⟩ := h
  subst hU
  exact ⟨((h1.moved hW.alike).kept hS.2.1).narrow hAB, ((h2.moved hW.alike).kept hS.2.1).narrow hAB, fun w hw => xNw_warm (List.all_eq_true.mp xW_cd w hw) hW (h3 w hw), fun q hq => by
    obtain ⟨sa, hs⟩ := h4 q hq
    exact ⟨sa, hs.warm hW⟩, fun q hq => (h5 q hq).moved hW.alike⟩
theorem xcd_tab {w : Cond} (h : xcd w = true) : w.onTables = true := by
  cases w with
  | castable a b => rfl
  | declares a => rfl
  | _ => cases h
theorem xF_calling {A : Nat → Prop} {U : State} {g : JFrame} {mk : MethodId} {a : Array Value} (h : xF A U U.heap) : xF A (U.calling g mk a) (U.calling g mk a).heap := by
  obtain ⟨h1, h2, h3, h4, h5⟩ := h
  exact ⟨vx_Zq.moved (u := U) (U := U.calling g mk a) (Vm.Alike.refl U.vm) h1, vx_Zq.moved (u := U) (U := U.calling g mk a) (Vm.Alike.refl U.vm) h2, fun w hw => va_Nw.same (u := U) (U := U.calling g mk a) (xcd_tab (List.all_eq_true.mp xW_cd w hw)) rfl (h3 w hw), fun q hq => by
    obtain ⟨sa, hs⟩ := h4 q hq
    exact ⟨sa, vk_R.same (u := U) (U := U.calling g mk a) rfl hs⟩, fun q hq => va_Nc.moved (u := U) (U := U.calling g mk a) (Vm.Alike.refl U.vm) (h5 q hq)⟩
def jPx (D : va_G) (Y : jy_T) (av : List Value) (w0 : va_W) (sz : Nat) : Array Value → State → Prop :=
  va_Pc av (fun U => (U.heap.size = sz ∧ va_P D vwCl w0 U.heap ∧ va_K D vwCl (jtys Y) U ∧ va_D (fun _ => True) w0) ∧ xF (va_A w0 sz) U U.heap)
theorem jPx_blind {D : va_G} {Y : jy_T} {av : List Value} {w0 : va_W} {sz : Nat} : FrameBlind (jPx D Y av w0 sz) := fun a U g mk q => by
  obtain ⟨q0, ⟨q1, qP, qK, qD⟩, qX⟩ := q
  exact ⟨q0, ⟨q1, qP, va_K.moved (u := U) (U := U.calling g mk a) (Vm.Alike.refl U.vm) qK, qD⟩, xF_calling qX⟩
/-- the contract of a method that may throw: it answers r with the world w so that Pst r w, or throws an E with the world w so that Pex E w -/
def MX (l : Launch) (y : MethodName) (cc : ByteArray) (maxL : Nat) (ret : Option FieldType) (rm : Room) (D : va_G) (Y : jy_T) (av : List Value) (w0 : va_W) (Pst : jp_T) (Pex : String → va_W → Prop) : Prop :=
  ∀ sz, vx_Met l y (Cond.code y cc maxL ret :: wG) rm (jPx D Y av w0 sz) (jQ D Y (va_A w0 sz) Pst) (jXC D Y (va_A w0 sz) Pex) rm.cells rm.slots (va_A w0 sz)
/-- the contract of a method with handlers -/
def MW (l : Launch) (y : MethodName) (cc : ByteArray) (maxL : Nat) (ret : Option FieldType) (hh : List (Nat × Nat × Nat × Nat)) (rm : Room) (D : va_G) (Y : jy_T) (av : List Value) (w0 : va_W) (Pst : jp_T) : Prop :=
  ∀ sz, Met l y (Cond.codeWith y cc maxL ret hh :: wG) rm (jPx D Y av w0 sz) (jQ D Y (va_A w0 sz) Pst) rm.cells rm.slots (va_A w0 sz)
def jX (K : jk_T) : Prop := xF K.2.2.1.1 K.1.2.2.2.2 K.1.2.2.2.2.heap
def jT (Y : jy_T) (mc ms : Nat) (Pst : jp_T) (Pex : String → va_W → Prop) (K : jk_T) : Prop :=
  (∀ x ∈ K.2.1.2.2.2.2.exceptionTable.toList, False) ∧ K.1.2.1.stackTraces = false ∧ ∀ t, vx_MQ K.2.1.2.2.1 (jQ K.2.2.2.1 Y K.2.2.1.1 Pst) (jXC K.2.2.2.1 Y K.2.2.1.1 Pex) K.2.1.2.1 K.1.2.2.2.2 mc ms K.2.2.1.1 t → K.2.2.1.2 t
theorem j_enterX {cc : ByteArray} {Y : jy_T} {rm : Room} {l : Launch} {y : MethodName} {maxL : Nat} {ret : Option FieldType} {D : va_G} {av : List Value} {w0 : va_W} {Pst : jp_T} {Pex : String → va_W → Prop} (hl : l.stackTraces = false) (hy : plainName y.cls = true) (hlen : av.length ≤ maxL) (hcat : ∀ v ∈ av, v.category = 1)
    (body : ∀ K : jk_T, K.1.2.1 = l → K.2.2.2.1 = D → jC cc y.cls Y rm maxL K → jR Y ret rm.cells rm.slots Pst K → jX K → jT Y rm.cells rm.slots Pst Pex K → jJ K 0 0 0 (jargs av maxL) [] w0) : MX l y cc maxL ret rm D Y av w0 Pst Pex := by
  intro sz
  refine vx_ofW (cc := cc) (maxL := maxL) (ret := ret) hy rfl ?_
  intro p e s m args below meth c s₁ B hml hht hv
  obtain ⟨rfl, ⟨hsz, hP, hK, hD0⟩, hX⟩ := hv
  have hts := wG_head (atoms_spec (ws := Cond.code y cc maxL ret :: wG) B.pre)
  have hown : s.vm.findClass y.cls = some m.cls := findClass_of_methodNamed B.named
  subst hsz
  have hD := hD0.self (sz := s.heap.size)
  rw [lg_entry_eq]
  exact body ((p, l, e, rm, s), (m, av.toArray, below, meth, c), (va_A w0 s.heap.size, _), D, maxL) rfl rfl
    ⟨B.exec, B.bytes, hown, hts, hK, fun q h => Or.inr h, hml, B.notSynchronized, rfl, rfl⟩ ⟨B.returns, fun t ⟨o, b1, b2, b3, b4⟩ => ⟨o, b1, b2, Or.inl ⟨b3, b4⟩⟩⟩ hX ⟨hht, hl, fun t h => h⟩
    s.heap [] _ hP hD va_S.rf (jl_entry av hlen hcat)
theorem j_enterW {cc : ByteArray} {Y : jy_T} {rm : Room} {l : Launch} {y : MethodName} {maxL : Nat} {ret : Option FieldType} {hh : List (Nat × Nat × Nat × Nat)} {D : va_G} {av : List Value} {w0 : va_W} {Pst : jp_T} (hy : plainName y.cls = true) (hlen : av.length ≤ maxL) (hcat : ∀ v ∈ av, v.category = 1)
    (body : ∀ K : jk_T, K.1.2.1 = l → K.2.2.2.1 = D → jC cc y.cls Y rm maxL K → jR Y ret rm.cells rm.slots Pst K → jX K → K.2.1.2.2.2.2.exceptionTable.toList = tableOf hh → jJ K 0 0 0 (jargs av maxL) [] w0) : MW l y cc maxL ret hh rm D Y av w0 Pst := by
  intro sz
  refine va_MetW (cc := cc) (maxL := maxL) (ret := ret) (hh := hh) hy rfl ?_
  intro p e s m args below meth c s₁ B hml hv
  obtain ⟨rfl, ⟨hsz, hP, hK, hD0⟩, hX⟩ := hv
  have hat := atoms_spec (ws := Cond.codeWith y cc maxL ret hh :: wG) B.pre
  have hts : ∀ w ∈ wG, w.before av.toArray s = true := fun w q => hat w (List.mem_cons_of_mem _ q)
  have htab := vx_table (x := y) B (hat _ List.mem_cons_self)
  have hown : s.vm.findClass y.cls = some m.cls := findClass_of_methodNamed B.named
  subst hsz
  have hD := hD0.self (sz := s.heap.size)
  rw [lg_entry_eq]
  exact body ((p, l, e, rm, s), (m, av.toArray, below, meth, c), (va_A w0 s.heap.size, _), D, maxL) rfl rfl
    ⟨B.exec, B.bytes, hown, hts, hK, fun q h => Or.inr h, hml, B.notSynchronized, rfl, rfl⟩ ⟨B.returns, fun t h => h⟩ hX htab
    s.heap [] _ hP hD va_S.rf (jl_entry av hlen hcat)
section JX
variable {K : jk_T} {cc : ByteArray} {own : String} {Y : jy_T} {rm : Room} {nL k n pc : Nat} {lo : List (Option Value)} {st : List Value} {ws : va_W}
theorem j_throw (C : jC cc RX0 Y rm nL K) (X : jX K) {mc ms : Nat} {Pst : jp_T} {Pex : String → va_W → Prop} (T : jT Y mc ms Pst Pex K) {ik is ic : Nat} {cls text : String} (hk : Cond.classLink RX0 ik cls ∈ wG) (hini : Cond.initialized cls ∈ wG) (hstr : (is, text) ∈ xS) (hat : ∀ w ∈ vx_atS RX0 ic cls xNm, w ∈ xAt1 ++ (xAt2 ++ xAt3)) (hcls : Bundle.fit cls = true)
    (d0 : decode cc pc = .ok (.new ik, 3)) (d3 : decode cc (pc + 3) = .ok (.dup, 1)) (d4 : decode cc (pc + 4) = .ok (.ldc is, 2)) (d6 : decode cc (pc + 6) = .ok (.invokespecial ic, 3)) (d9 : decode cc (pc + 9) = .ok (.athrow, 1))
    (hf : 5 < rm.frames) (hlo : (st.map fun v => v.category).sum + 82 ≤ rm.locals) (hk1 : k + 1 ≤ rm.cells) (hn1 : n + 6 ≤ rm.slots) (hk2 : k + 1 ≤ mc) (hn2 : n + 6 ≤ ms) (hp : Pex cls ws) : jJ K k n pc lo st ws := by
  intro H locs ls hP hD hS hl
  obtain ⟨hU, hN, hw, hs, -⟩ := id X
  obtain ⟨sa, hsa⟩ := hs _ hstr
  refine jw_Q T.2.2 (vx_throwS (names := xNm) (text := text) (sa := sa) C.1 C.2.1 T.2.1 C.2.2.1 hcls (by decide) (C.2.2.2.1 _ hk) (C.2.2.2.1 _ hini) hsa ?_ ?_ hU hN hS (by rw [C.2.2.2.2.2.2.1]; exact hl.1) d0 d3 d4 d6 d9 (fun x hx => (T.1 x hx).elim) (by rw [C.2.2.2.2.2.2.2.2.1]; exact hf) (by rw [C.2.2.2.2.2.2.2.2.1]; exact hlo) (by rw [C.2.2.2.2.2.2.2.2.1]; exact hk1) (by rw [C.2.2.2.2.2.2.2.2.1]; exact hn1) C.2.2.2.2.2.2.2.1 ?_ hS.2.2 hk2 hn2)
  · intro w h
    rcases xAt_in w (hat w h) with g | g
    · exact C.2.2.2.1 w g
    · exact va_Nw.use (xcd_tab (List.all_eq_true.mp xW_cd w g)) (hw w g)
  · intro w h
    rcases List.mem_cons.mp h with rfl | h
    · rfl
    · rcases List.mem_cons.mp h with rfl | h
      · rfl
      · exact List.all_eq_true.mp xAt_ot w (hat w h)
  · intro t hvm hz hq
    exact ⟨⟨ws, hp, hP.kept (fun i q hi => hq _ (hP i q hi).lt), va_K.moved hvm C.2.2.2.2.1, hD⟩, Nat.le_trans hS.1 hz, fun q h1 h2 => by rw [hq q (Nat.lt_of_lt_of_le h1 hS.1)]; exact hS.2.1 q h1 h2⟩
/-- the n-th handler takes it -/
theorem j_catch (C : jC cc own Y rm nL K) {hh : List (Nat × Nat × Nat × Nat)} (tb : K.2.1.2.2.2.2.exceptionTable.toList = tableOf hh) {E : String} (pre : List (Nat × Nat × Nat × Nat)) (x : Nat × Nat × Nat × Nat) (suf : List (Nat × Nat × Nat × Nat)) (hs : hh = pre ++ x :: suf)
    (hpass : ∀ z ∈ pre, z.2.2.2 ≠ 0 ∧ ∃ nm, Cond.classLink own z.2.2.2 nm ∈ wG ∧ va_Nc E nm K.1.2.2.2.2) (hx : x.1 ≤ pc ∧ pc < x.2.1) (h0 : x.2.2.2 ≠ 0) {nm : String} (hlink : Cond.classLink own x.2.2.2 nm ∈ wG) (hcast : va_Nw (.castable E nm) K.1.2.2.2.2)
    (kk : ∀ q : Nat, jJ K k n x.2.2.1 lo [.ref q] ws) : jH K k n pc lo E ws := by
  intro H locs ls ce q rest hP hD hS hl hce hcv hcl
  subst hs
  refine vx_catch (E := E) C.2.2.1 (tableOf pre) ⟨x.1, x.2.1, x.2.2.1, x.2.2.2⟩ (tableOf suf) (by rw [tb]; unfold tableOf; rw [List.map_append]; rfl) (fun z hz => ?_) (by show (decide _ && decide _) = true; rw [decide_eq_true hx.1, decide_eq_true hx.2]; rfl) h0 (C.2.2.2.1 _ hlink) (va_Nw.use rfl hcast) hce hcv hcl (kk q H locs ls hP hD hS hl)
  obtain ⟨w, hw, rfl⟩ := List.mem_map.mp hz
  obtain ⟨a, nm1, b, c⟩ := hpass w hw
  exact Or.inr ⟨a, nm1, C.2.2.2.1 _ b, c⟩
theorem j_callVX (C : jC cc own Y rm nL K) (X : jX K) {y : MethodName} {cy : ByteArray} {mL ix : Nat} {ret : Option FieldType} {rmy : Room} {a : Nat} (As : List Value) {Pst : jp_T} {Pex : String → va_W → Prop} {wc wr : va_W} (isC isR : List Nat)
    (hM : MX K.1.2.1 y cy mL ret rmy K.2.2.2.1 Y (.ref a :: As) wc Pst Pex) (hC : isC.map (fun i => ws[i]?) = wc.map some) (hR : isR.map (fun i => ws[i]?) = wr.map some) (hnC : va_nd isC = true) (hnR : va_nd isR = true) (hdis : ∀ i ∈ isR, i ∉ isC)
    (hG : GoodIn wG (wsV own ix y.cls y (Cond.code y cy mL ret :: wG)))
    (hn : (y.cls ≠ "java/lang/invoke/MethodHandle" ∧ y.cls ≠ "java/lang/invoke/VarHandle" ∧ (parseMethodDescriptor y.desc).map (fun d => d.parameters.length) = some As.length))
    (ci q0 : Nat) {q : vw_C} {fs : List Value} (hc : vwCl[ci]? = some q) (hq : q.1 = y.cls) (he : wc[q0]? = some (a, .inr (ci, fs)))
    (hroom : rmy.frames + 1 ≤ rm.frames ∧ 8 + (mL + 11) + rmy.locals ≤ rm.locals) (hcells : k + rmy.cells ≤ rm.cells ∧ n + rmy.slots ≤ rm.slots)
    (hst : (st.map fun v => v.category).sum ≤ 8) (hd : decode cc pc = .ok (.invokevirtual ix, 3)) {ops : List Value} (hops : ops = As.reverse ++ .ref a :: st)
    (kk : ∀ r w1, Pst r w1 → jJ K (k + rmy.cells) (n + rmy.slots) (pc + 3) lo (r.toList ++ st) (wr ++ w1))
    (kx : ∀ E w1, Pex E w1 → jH K (k + rmy.cells) (n + rmy.slots) pc lo E (wr ++ w1)) : jJ K k n pc lo ops ws := by
  subst hops
  refine j_runX C isC isR hC hR hnC hnR hdis (fun H locs ls hP hD hS hl hF => ?_) kk kx
  have hrec := va_recv C.2.2.2.2.1 hP hc he
  rw [hq] at hrec
  exact vx_runV (As := As) (rest := st) (g := F0 K.2.1.1 pc ls (As.reverse ++ .ref a :: st)) ⟨C.1, C.2.1, C.2.2.2.2.2.2.1, C.2.2.1, C.2.2.2.1⟩ (hM H.size) (cwV As.length C.2.2.2.1 hG rfl rfl rfl ⟨rfl, hn⟩ (by rw [C.2.2.2.2.2.2.2.2.1]; exact hroom))
    ⟨jPx_blind, hrec, fun U hU hW => ⟨rfl, ⟨by rw [hU], by rw [hU]; exact hP, va_K.moved hW.alike C.2.2.2.2.1, hD.weaken (fun _ _ _ _ => trivial)⟩, xF_call X hS hU hW hF⟩⟩ rfl rfl hl.1 rfl (lv_room hst) hd (by rw [C.2.2.2.2.2.2.2.2.1]; exact hcells)
theorem j_callVF (C : jC cc own Y rm nL K) {y : MethodName} {cy : ByteArray} {mL ix : Nat} {ret : Option FieldType} {rmy : Room} {a : Nat} (As : List Value) {Pst : jp_T} {wc wr : va_W} (isC isR : List Nat)
    (hM : MJ K.1.2.1 y cy mL ret rmy K.2.2.2.1 Y (.ref a :: As) wc Pst) (hC : isC.map (fun i => ws[i]?) = wc.map some) (hR : isR.map (fun i => ws[i]?) = wr.map some) (hnC : va_nd isC = true) (hnR : va_nd isR = true) (hdis : ∀ i ∈ isR, i ∉ isC)
    (hG : GoodIn wG (wsV own ix y.cls y (Cond.code y cy mL ret :: wG)))
    (hn : (y.cls ≠ "java/lang/invoke/MethodHandle" ∧ y.cls ≠ "java/lang/invoke/VarHandle" ∧ (parseMethodDescriptor y.desc).map (fun d => d.parameters.length) = some As.length))
    (ci q0 : Nat) {q : vw_C} {fs : List Value} (hc : vwCl[ci]? = some q) (hq : q.1 = y.cls) (he : wc[q0]? = some (a, .inr (ci, fs)))
    (hroom : rmy.frames + 1 ≤ rm.frames ∧ 8 + (mL + 11) + rmy.locals ≤ rm.locals) (hcells : k + rmy.cells ≤ rm.cells ∧ n + rmy.slots ≤ rm.slots)
    (hst : (st.map fun v => v.category).sum ≤ 8) (hd : decode cc pc = .ok (.invokevirtual ix, 3)) {ops : List Value} (hops : ops = As.reverse ++ .ref a :: st)
    (kk : ∀ r w1, Pst r w1 → jJ K (k + rmy.cells) (n + rmy.slots) (pc + 3) lo (r.toList ++ st) (wr ++ w1)) : jJ K k n pc lo ops ws := by
  subst hops
  refine j_runF C isC isR hC hR hnC hnR hdis (fun H locs ls hP hD hS hl hF => ?_) kk
  have hrec := va_recv C.2.2.2.2.1 hP hc he
  rw [hq] at hrec
  exact va_runV (As := As) (rest := st) (g := F0 K.2.1.1 pc ls (As.reverse ++ .ref a :: st)) ⟨C.1, C.2.1, C.2.2.2.2.2.2.1, C.2.2.1, C.2.2.2.1⟩ (hM H.size) (cwV As.length C.2.2.2.1 hG rfl rfl rfl ⟨rfl, hn⟩ (by rw [C.2.2.2.2.2.2.2.2.1]; exact hroom))
    ⟨jPc_blind, hrec, fun U hU hW => ⟨rfl, by rw [hU], by rw [hU]; exact hP, va_K.moved hW.alike C.2.2.2.2.1, hD.weaken (fun _ _ _ _ => trivial)⟩⟩ rfl rfl hl.1 rfl (lv_room hst) hd (by rw [C.2.2.2.2.2.2.2.2.1]; exact hcells)
theorem j_callSF (C : jC cc own Y rm nL K) {y : MethodName} {cy : ByteArray} {mL ix : Nat} {ret : Option FieldType} {rmy : Room} (As : List Value) {Pst : jp_T} {wc wr : va_W} (isC isR : List Nat)
    (hM : MJ K.1.2.1 y cy mL ret rmy K.2.2.2.1 Y As wc Pst) (hC : isC.map (fun i => ws[i]?) = wc.map some) (hR : isR.map (fun i => ws[i]?) = wr.map some) (hnC : va_nd isC = true) (hnR : va_nd isR = true) (hdis : ∀ i ∈ isR, i ∉ isC)
    (hG : GoodIn wG (wsS own ix y (Cond.code y cy mL ret :: wG))) (hown : y.cls = own)
    (hn : (y.cls ≠ "java/lang/invoke/MethodHandle" ∧ y.cls ≠ "java/lang/invoke/VarHandle" ∧ (parseMethodDescriptor y.desc).map (fun d => d.parameters.length) = some As.length))
    (hroom : rmy.frames + 1 ≤ rm.frames ∧ 8 + (mL + 11) + rmy.locals ≤ rm.locals) (hcells : k + rmy.cells ≤ rm.cells ∧ n + rmy.slots ≤ rm.slots)
    (hst : (st.map fun v => v.category).sum ≤ 8) (hd : decode cc pc = .ok (.invokestatic ix, 3)) {ops : List Value} (hops : ops = As.reverse ++ st)
    (kk : ∀ r w1, Pst r w1 → jJ K (k + rmy.cells) (n + rmy.slots) (pc + 3) lo (r.toList ++ st) (wr ++ w1)) : jJ K k n pc lo ops ws := by
  subst hops
  refine j_runF C isC isR hC hR hnC hnR hdis (fun H locs ls hP hD hS hl hF => ?_) kk
  exact va_runS (As := As) (rest := st) (g := F0 K.2.1.1 pc ls (As.reverse ++ st)) ⟨C.1, C.2.1, C.2.2.2.2.2.2.1, C.2.2.1, C.2.2.2.1⟩ (hM H.size) (cwS As.length C.2.2.2.1 hG rfl rfl rfl ⟨hown, hn⟩ (by rw [C.2.2.2.2.2.2.2.2.1]; exact hroom))
    ⟨jPc_blind, fun U hU hW => ⟨rfl, by rw [hU], by rw [hU]; exact hP, va_K.moved hW.alike C.2.2.2.2.1, hD.weaken (fun _ _ _ _ => trivial)⟩⟩ rfl rfl hl.1 rfl (lv_room hst) hd (by rw [C.2.2.2.2.2.2.2.2.1]; exact hcells)
theorem j_callSW (C : jC cc own Y rm nL K) (X : jX K) {y : MethodName} {cy : ByteArray} {mL ix : Nat} {ret : Option FieldType} {hh : List (Nat × Nat × Nat × Nat)} {rmy : Room} (As : List Value) {Pst : jp_T} {wc wr : va_W} (isC isR : List Nat)
    (hM : MW K.1.2.1 y cy mL ret hh rmy K.2.2.2.1 Y As wc Pst) (hC : isC.map (fun i => ws[i]?) = wc.map some) (hR : isR.map (fun i => ws[i]?) = wr.map some) (hnC : va_nd isC = true) (hnR : va_nd isR = true) (hdis : ∀ i ∈ isR, i ∉ isC)
    (hG : GoodIn wG (va_wsS own ix y (Cond.codeWith y cy mL ret hh :: wG)))
    (hn : (y.cls ≠ "java/lang/invoke/MethodHandle" ∧ y.cls ≠ "java/lang/invoke/VarHandle" ∧ (parseMethodDescriptor y.desc).map (fun d => d.parameters.length) = some As.length))
    (hroom : rmy.frames + 1 ≤ rm.frames ∧ 8 + (mL + 11) + rmy.locals ≤ rm.locals) (hcells : k + rmy.cells ≤ rm.cells ∧ n + rmy.slots ≤ rm.slots)
    (hst : (st.map fun v => v.category).sum ≤ 8) (hd : decode cc pc = .ok (.invokestatic ix, 3)) {ops : List Value} (hops : ops = As.reverse ++ st)
    (kk : ∀ r w1, Pst r w1 → jJ K (k + rmy.cells) (n + rmy.slots) (pc + 3) lo (r.toList ++ st) (wr ++ w1)) : jJ K k n pc lo ops ws := by
  subst hops
  refine j_runF C isC isR hC hR hnC hnR hdis (fun H locs ls hP hD hS hl hF => ?_) kk
  exact vx_runSW (As := As) (rest := st) (g := F0 K.2.1.1 pc ls (As.reverse ++ st)) ⟨C.1, C.2.1, C.2.2.2.2.2.2.1, C.2.2.1, C.2.2.2.1⟩ (hM H.size) (vx_cwSW As.length C.2.2.2.1 hG rfl rfl rfl hn (by rw [C.2.2.2.2.2.2.2.2.1]; exact hroom))
    ⟨jPx_blind, fun U hU hW => ⟨rfl, ⟨by rw [hU], by rw [hU]; exact hP, va_K.moved hW.alike C.2.2.2.2.1, hD.weaken (fun _ _ _ _ => trivial)⟩, xF_call X hS hU hW hF⟩⟩ rfl rfl hl.1 rfl (lv_room hst) hd (by rw [C.2.2.2.2.2.2.2.2.1]; exact hcells)
end JX
end
section
section JL
variable {K : jk_T} {cc : ByteArray} {own : String} {Y : jy_T} {rm : Room} {nL k n pc : Nat} {lo : List (Option Value)} {st : List Value} {ws : va_W}
theorem j_sld (C : jC cc own Y rm nL K) {b L : Nat} {xs : Nat → Int32} (hX : va_X b L xs K.1.2.2.2.2 K.1.2.2.2.2.heap) (hbl : b < K.1.2.2.2.2.heap.size) (hbA : ¬ K.2.2.1.1 b) {i : Int32} (j : Nat) (hi : i = nI j) (hj : j < L) (hN : L < 2 ^ 31) (hd : decode cc pc = .ok (.iaload, 1)) (kk : jJ K k n (pc + 1) lo (.int (xs j) :: st) ws) : jJ K k n pc lo (.int i :: .ref b :: st) ws := by
  subst hi
  intro H locs ls hP hD hS hl
  have h := kk H locs ls hP hD hS hl
  rw [← nI_clamp (n := j) (by omega)] at h
  exact va_sld C.1 C.2.1 hX hbl hbA hS (vp_in_nI hj hN) hd h
theorem j_slen (C : jC cc own Y rm nL K) {b L : Nat} {xs : Nat → Int32} (hX : va_X b L xs K.1.2.2.2.2 K.1.2.2.2.2.heap) (hbl : b < K.1.2.2.2.2.heap.size) (hbA : ¬ K.2.2.1.1 b) (hd : decode cc pc = .ok (.arraylength, 1)) (kk : jJ K k n (pc + 1) lo (.int (nI L) :: st) ws) : jJ K k n pc lo (.ref b :: st) ws :=
  fun H locs ls hP hD hS hl => va_slen C.1 C.2.1 hX hbl hbA hS hd (kk H locs ls hP hD hS hl)
theorem j_tabIn (C : jC cc own Y rm nL K) {dflt lo9 hi9 : Int} {offs : Array Int} {len : Nat} (x : Nat) {off : Int} (tgt : Nat) (hd : decode cc pc = .ok (.tableswitch dflt lo9 hi9 offs, len)) (h1 : ¬ (x : Int) < lo9) (h2 : ¬ hi9 < (x : Int)) (hx : x < 100) (ho : offs[((x : Int) - lo9).toNat]? = some off) (ht : (pc : Int) + off = (tgt : Int)) (kk : jJ K k n tgt lo st ws) : jJ K k n pc lo (.int (nI x) :: st) ws :=
  fun H locs ls hP hD hS hl => lv_tableIn C.1 C.2.1 hd (by rw [nI_toInt (by omega)]; exact h1) (by rw [nI_toInt (by omega)]; exact h2) (by rw [nI_toInt (by omega)]; exact ho) ht (kk H locs ls hP hD hS hl)
theorem j_tabOut (C : jC cc own Y rm nL K) {dflt lo9 hi9 : Int} {offs : Array Int} {len : Nat} (x : Nat) (tgt : Nat) (hd : decode cc pc = .ok (.tableswitch dflt lo9 hi9 offs, len)) (h : hi9 < (x : Int)) (hx : x < 100) (ht : (pc : Int) + dflt = (tgt : Int)) (kk : jJ K k n tgt lo st ws) : jJ K k n pc lo (.int (nI x) :: st) ws :=
  fun H locs ls hP hD hS hl => lv_tableOut C.1 C.2.1 hd (Or.inr (by rw [nI_toInt (by omega)]; exact h)) ht (kk H locs ls hP hD hS hl)
end JL
end
section
/-! methods without handlers that call such as throw or catch; a method that reads the script; contracts with a wider end -/
/-- the contract of a method that always returns, given what exceptions need -/
def MZ (l : Launch) (y : MethodName) (cc : ByteArray) (maxL : Nat) (ret : Option FieldType) (rm : Room) (D : va_G) (Y : jy_T) (av : List Value) (w0 : va_W) (Pst : jp_T) : Prop :=
  ∀ sz, Met l y (Cond.code y cc maxL ret :: wG) rm (jPx D Y av w0 sz) (jQ D Y (va_A w0 sz) Pst) rm.cells rm.slots (va_A w0 sz)
/-- the contract of a method that reads the script xs at the cell b -/
def jPs (D : va_G) (Y : jy_T) (av : List Value) (b L : Nat) (xs : Nat → Int32) (sz : Nat) : Array Value → State → Prop :=
  va_Pc av (fun U => (U.heap.size = sz ∧ va_P D vwCl [] U.heap ∧ va_K D vwCl (jtys Y) U ∧ va_D (fun _ => True) []) ∧ va_X b L xs U U.heap ∧ b < sz)
def MS (l : Launch) (y : MethodName) (cc : ByteArray) (maxL : Nat) (ret : Option FieldType) (rm : Room) (D : va_G) (Y : jy_T) (av : List Value) (b L : Nat) (xs : Nat → Int32) (Pst : jp_T) : Prop :=
  ∀ sz, Met l y (Cond.code y cc maxL ret :: wG) rm (jPs D Y av b L xs sz) (jQ D Y (va_A [] sz) Pst) rm.cells rm.slots (va_A [] sz)
theorem jQ_mono {D : va_G} {Y : jy_T} {A : Nat → Prop} {P1 P2 : jp_T} (h : ∀ r w, P1 r w → P2 r w) {a : Array Value} {st : State} {o : Outcome} {t : State} (q : jQ D Y A P1 a st o t) : jQ D Y A P2 a st o t := by
  obtain ⟨⟨r, w, h1, h2, h3⟩, h4⟩ := q
  exact ⟨⟨r, w, h1, h r w h2, h3⟩, h4⟩
theorem jXC_mono {D : va_G} {Y : jy_T} {A : Nat → Prop} {P1 P2 : String → va_W → Prop} (h : ∀ r w, P1 r w → P2 r w) {E : String} {st t : State} (q : jXC D Y A P1 E st t) : jXC D Y A P2 E st t := by
  obtain ⟨⟨w, h2, h3⟩, h4⟩ := q
  exact ⟨⟨w, h E w h2, h3⟩, h4⟩
section MM
variable {l : Launch} {y : MethodName} {cc : ByteArray} {maxL : Nat} {ret : Option FieldType} {rm : Room} {D : va_G} {Y : jy_T} {av : List Value} {w0 : va_W} {P1 P2 : jp_T} {X1 X2 : String → va_W → Prop}
theorem MJ.mono (h : ∀ r w, P1 r w → P2 r w) (M : MJ l y cc maxL ret rm D Y av w0 P1) : MJ l y cc maxL ret rm D Y av w0 P2 := by
  intro sz p e ha hf hc s m args below h1 h2 h3 h4
  obtain ⟨n, o, q1, q2, q3, q4, q5⟩ := M sz p e ha hf hc s m args below h1 h2 h3 h4
  exact ⟨n, o, q1, q2, q3, jQ_mono h q4, q5⟩
theorem MZ.mono (h : ∀ r w, P1 r w → P2 r w) (M : MZ l y cc maxL ret rm D Y av w0 P1) : MZ l y cc maxL ret rm D Y av w0 P2 := by
  intro sz p e ha hf hc s m args below h1 h2 h3 h4
  obtain ⟨n, o, q1, q2, q3, q4, q5⟩ := M sz p e ha hf hc s m args below h1 h2 h3 h4
  exact ⟨n, o, q1, q2, q3, jQ_mono h q4, q5⟩
theorem MW.mono {hh : List (Nat × Nat × Nat × Nat)} (h : ∀ r w, P1 r w → P2 r w) (M : MW l y cc maxL ret hh rm D Y av w0 P1) : MW l y cc maxL ret hh rm D Y av w0 P2 := by
  intro sz p e ha hf hc s m args below h1 h2 h3 h4
  obtain ⟨n, o, q1, q2, q3, q4, q5⟩ := M sz p e ha hf hc s m args below h1 h2 h3 h4
  exact ⟨n, o, q1, q2, q3, jQ_mono h q4, q5⟩
theorem MX.mono (h : ∀ r w, P1 r w → P2 r w) (hx : ∀ E w, X1 E w → X2 E w) (M : MX l y cc maxL ret rm D Y av w0 P1 X1) : MX l y cc maxL ret rm D Y av w0 P2 X2 := by
  intro sz p e ha hf hc s m args below h1 h2 h3 h4
  obtain ⟨n, o, q1, q2, q3, q4⟩ := M sz p e ha hf hc s m args below h1 h2 h3 h4
  refine ⟨n, o, q1, q2, q3, ?_⟩
  rcases q4 with ⟨q4, q5⟩ | ⟨q, q4, E, ce, L, q5, q6⟩
  · exact Or.inl ⟨jQ_mono h q4, q5⟩
  · exact Or.inr ⟨q, q4, E, ce, L, jXC_mono hx q5, q6⟩
theorem MZ.ofJ (h : ∀ r w, P1 r w → P2 r w) (M : MJ l y cc maxL ret rm D Y av w0 P1) : MZ l y cc maxL ret rm D Y av w0 P2 := by
  intro sz p e ha hf hc s m args below h1 h2 h3 h4
  obtain ⟨n, o, q1, q2, q3, q4, q5⟩ := M sz p e ha hf hc s m args below h1 h2 ⟨h3.1, h3.2.1⟩ h4
  exact ⟨n, o, q1, q2, q3, jQ_mono h q4, q5⟩
theorem MZ.ofX (h : ∀ r w, P1 r w → P2 r w) (hx : ∀ E w, ¬ X1 E w) (M : MX l y cc maxL ret rm D Y av w0 P1 X1) : MZ l y cc maxL ret rm D Y av w0 P2 := by
  intro sz p e ha hf hc s m args below h1 h2 h3 h4
  obtain ⟨n, o, q1, q2, q3, q4⟩ := M sz p e ha hf hc s m args below h1 h2 h3 h4
  rcases q4 with ⟨q4, q5⟩ | ⟨q, -, E, ce, L, ⟨⟨w, hp, -⟩, -⟩, -⟩
  · exact ⟨n, o, q1, q2, q3, jQ_mono h q4, q5⟩
  · exact absurd hp (hx E w)
end MM
theorem j_enterZ {cc : ByteArray} {Y : jy_T} {rm : Room} {l : Launch} {y : MethodName} {maxL : Nat} {ret : Option FieldType} {D : va_G} {av : List Value} {w0 : va_W} {Pst : jp_T} (hy : plainName y.cls = true) (hlen : av.length ≤ maxL) (hcat : ∀ v ∈ av, v.category = 1)
    (body : ∀ K : jk_T, K.1.2.1 = l → K.2.2.2.1 = D → jC cc y.cls Y rm maxL K → jR Y ret rm.cells rm.slots Pst K → jX K → jJ K 0 0 0 (jargs av maxL) [] w0) : MZ l y cc maxL ret rm D Y av w0 Pst := by
  intro sz
  refine Met.ofW (cc := cc) (maxL := maxL) (ret := ret) hy rfl ?_
  intro p e s m args below meth c s₁ B hml hv
  obtain ⟨rfl, ⟨hsz, hP, hK, hD0⟩, hX⟩ := hv
  have hts := wG_head (atoms_spec (ws := Cond.code y cc maxL ret :: wG) B.pre)
  have hown : s.vm.findClass y.cls = some m.cls := findClass_of_methodNamed B.named
  subst hsz
  have hD := hD0.self (sz := s.heap.size)
  rw [lg_entry_eq]
  exact body ((p, l, e, rm, s), (m, av.toArray, below, meth, c), (va_A w0 s.heap.size, _), D, maxL) rfl rfl
    ⟨B.exec, B.bytes, hown, hts, hK, fun q h => Or.inr h, hml, B.notSynchronized, rfl, rfl⟩ ⟨B.returns, fun t h => h⟩ hX
    s.heap [] _ hP hD va_S.rf (jl_entry av hlen hcat)
theorem j_enterS {cc : ByteArray} {Y : jy_T} {rm : Room} {l : Launch} {y : MethodName} {maxL : Nat} {ret : Option FieldType} {D : va_G} {av : List Value} {b L : Nat} {xs : Nat → Int32} {Pst : jp_T} (hy : plainName y.cls = true) (hlen : av.length ≤ maxL) (hcat : ∀ v ∈ av, v.category = 1)
    (body : ∀ K : jk_T, K.1.2.1 = l → K.2.2.2.1 = D → jC cc y.cls Y rm maxL K → jR Y ret rm.cells rm.slots Pst K → va_X b L xs K.1.2.2.2.2 K.1.2.2.2.2.heap → b < K.1.2.2.2.2.heap.size → ¬ K.2.2.1.1 b → jJ K 0 0 0 (jargs av maxL) [] []) : MS l y cc maxL ret rm D Y av b L xs Pst := by
  intro sz
  refine Met.ofW (cc := cc) (maxL := maxL) (ret := ret) hy rfl ?_
  intro p e s m args below meth c s₁ B hml hv
  obtain ⟨rfl, ⟨hsz, hP, hK, hD0⟩, hX, hb⟩ := hv
  have hts := wG_head (atoms_spec (ws := Cond.code y cc maxL ret :: wG) B.pre)
  have hown : s.vm.findClass y.cls = some m.cls := findClass_of_methodNamed B.named
  subst hsz
  have hD := hD0.self (sz := s.heap.size)
  rw [lg_entry_eq]
  exact body ((p, l, e, rm, s), (m, av.toArray, below, meth, c), (va_A [] s.heap.size, _), D, maxL) rfl rfl
    ⟨B.exec, B.bytes, hown, hts, hK, fun q h => Or.inr h, hml, B.notSynchronized, rfl, rfl⟩ ⟨B.returns, fun t h => h⟩ hX hb (fun z => by
      rcases z with ⟨k, e, h⟩ | h
      · simp at h
      · exact Nat.not_le.mpr hb h)
    s.heap [] _ hP hD va_S.rf (jl_entry av hlen hcat)
theorem jPs_blind {D : va_G} {Y : jy_T} {av : List Value} {b L : Nat} {xs : Nat → Int32} {sz : Nat} : FrameBlind (jPs D Y av b L xs sz) := fun a U g mk q => by
  obtain ⟨q0, ⟨q1, qP, qK, qD⟩, qX, qb⟩ := q
  exact ⟨q0, ⟨q1, qP, va_K.moved (u := U) (U := U.calling g mk a) (Vm.Alike.refl U.vm) qK, qD⟩, va_X.moved (u := U) (U := U.calling g mk a) (Vm.Alike.refl U.vm) qX, qb⟩
section JZ
variable {K : jk_T} {cc : ByteArray} {own : String} {Y : jy_T} {rm : Room} {nL k n pc : Nat} {lo : List (Option Value)} {st : List Value} {ws : va_W}
theorem j_callVZ (C : jC cc own Y rm nL K) (X : jX K) {y : MethodName} {cy : ByteArray} {mL ix : Nat} {ret : Option FieldType} {rmy : Room} {a : Nat} (As : List Value) {Pst : jp_T} {wc wr : va_W} (isC isR : List Nat)
    (hM : MZ K.1.2.1 y cy mL ret rmy K.2.2.2.1 Y (.ref a :: As) wc Pst) (hC : isC.map (fun i => ws[i]?) = wc.map some) (hR : isR.map (fun i => ws[i]?) = wr.map some) (hnC : va_nd isC = true) (hnR : va_nd isR = true) (hdis : ∀ i ∈ isR, i ∉ isC)
    (hG : GoodIn wG (wsV own ix y.cls y (Cond.code y cy mL ret :: wG)))
    (hn : (y.cls ≠ "java/lang/invoke/MethodHandle" ∧ y.cls ≠ "java/lang/invoke/VarHandle" ∧ (parseMethodDescriptor y.desc).map (fun d => d.parameters.length) = some As.length))
    (ci q0 : Nat) {q : vw_C} {fs : List Value} (hc : vwCl[ci]? = some q) (hq : q.1 = y.cls) (he : wc[q0]? = some (a, .inr (ci, fs)))
    (hroom : rmy.frames + 1 ≤ rm.frames ∧ 8 + (mL + 11) + rmy.locals ≤ rm.locals) (hcells : k + rmy.cells ≤ rm.cells ∧ n + rmy.slots ≤ rm.slots)
    (hst : (st.map fun v => v.category).sum ≤ 8) (hd : decode cc pc = .ok (.invokevirtual ix, 3)) {ops : List Value} (hops : ops = As.reverse ++ .ref a :: st)
    (kk : ∀ r w1, Pst r w1 → jJ K (k + rmy.cells) (n + rmy.slots) (pc + 3) lo (r.toList ++ st) (wr ++ w1)) : jJ K k n pc lo ops ws := by
  subst hops
  refine j_runF C isC isR hC hR hnC hnR hdis (fun H locs ls hP hD hS hl hF => ?_) kk
  have hrec := va_recv C.2.2.2.2.1 hP hc he
  rw [hq] at hrec
  exact va_runV (As := As) (rest := st) (g := F0 K.2.1.1 pc ls (As.reverse ++ .ref a :: st)) ⟨C.1, C.2.1, C.2.2.2.2.2.2.1, C.2.2.1, C.2.2.2.1⟩ (hM H.size) (cwV As.length C.2.2.2.1 hG rfl rfl rfl ⟨rfl, hn⟩ (by rw [C.2.2.2.2.2.2.2.2.1]; exact hroom))
    ⟨jPx_blind, hrec, fun U hU hW => ⟨rfl, ⟨by rw [hU], by rw [hU]; exact hP, va_K.moved hW.alike C.2.2.2.2.1, hD.weaken (fun _ _ _ _ => trivial)⟩, xF_call X hS hU hW hF⟩⟩ rfl rfl hl.1 rfl (lv_room hst) hd (by rw [C.2.2.2.2.2.2.2.2.1]; exact hcells)
theorem j_callSZ (C : jC cc own Y rm nL K) (X : jX K) {y : MethodName} {cy : ByteArray} {mL ix : Nat} {ret : Option FieldType} {rmy : Room} (As : List Value) {Pst : jp_T} {wc wr : va_W} (isC isR : List Nat)
    (hM : MZ K.1.2.1 y cy mL ret rmy K.2.2.2.1 Y As wc Pst) (hC : isC.map (fun i => ws[i]?) = wc.map some) (hR : isR.map (fun i => ws[i]?) = wr.map some) (hnC : va_nd isC = true) (hnR : va_nd isR = true) (hdis : ∀ i ∈ isR, i ∉ isC)
    (hG : GoodIn wG (wsS own ix y (Cond.code y cy mL ret :: wG))) (hown : y.cls = own)
    (hn : (y.cls ≠ "java/lang/invoke/MethodHandle" ∧ y.cls ≠ "java/lang/invoke/VarHandle" ∧ (parseMethodDescriptor y.desc).map (fun d => d.parameters.length) = some As.length))
    (hroom : rmy.frames + 1 ≤ rm.frames ∧ 8 + (mL + 11) + rmy.locals ≤ rm.locals) (hcells : k + rmy.cells ≤ rm.cells ∧ n + rmy.slots ≤ rm.slots)
    (hst : (st.map fun v => v.category).sum ≤ 8) (hd : decode cc pc = .ok (.invokestatic ix, 3)) {ops : List Value} (hops : ops = As.reverse ++ st)
    (kk : ∀ r w1, Pst r w1 → jJ K (k + rmy.cells) (n + rmy.slots) (pc + 3) lo (r.toList ++ st) (wr ++ w1)) : jJ K k n pc lo ops ws := by
  subst hops
  refine j_runF C isC isR hC hR hnC hnR hdis (fun H locs ls hP hD hS hl hF => ?_) kk
  exact va_runS (As := As) (rest := st) (g := F0 K.2.1.1 pc ls (As.reverse ++ st)) ⟨C.1, C.2.1, C.2.2.2.2.2.2.1, C.2.2.1, C.2.2.2.1⟩ (hM H.size) (cwS As.length C.2.2.2.1 hG rfl rfl rfl ⟨hown, hn⟩ (by rw [C.2.2.2.2.2.2.2.2.1]; exact hroom))
    ⟨jPx_blind, fun U hU hW => ⟨rfl, ⟨by rw [hU], by rw [hU]; exact hP, va_K.moved hW.alike C.2.2.2.2.1, hD.weaken (fun _ _ _ _ => trivial)⟩, xF_call X hS hU hW hF⟩⟩ rfl rfl hl.1 rfl (lv_room hst) hd (by rw [C.2.2.2.2.2.2.2.2.1]; exact hcells)
theorem j_callSS (C : jC cc own Y rm nL K) {b L : Nat} {xs : Nat → Int32} (hX : va_X b L xs K.1.2.2.2.2 K.1.2.2.2.2.heap) (hbl : b < K.1.2.2.2.2.heap.size) (hbA : ¬ K.2.2.1.1 b) {y : MethodName} {cy : ByteArray} {mL ix : Nat} {ret : Option FieldType} {rmy : Room} (As : List Value) {Pst : jp_T} (isR : List Nat)
    (hM : MS K.1.2.1 y cy mL ret rmy K.2.2.2.1 Y As b L xs Pst) (hR : isR.map (fun i => ws[i]?) = ws.map some) (hnR : va_nd isR = true)
    (hG : GoodIn wG (wsS own ix y (Cond.code y cy mL ret :: wG))) (hown : y.cls = own)
    (hn : (y.cls ≠ "java/lang/invoke/MethodHandle" ∧ y.cls ≠ "java/lang/invoke/VarHandle" ∧ (parseMethodDescriptor y.desc).map (fun d => d.parameters.length) = some As.length))
    (hroom : rmy.frames + 1 ≤ rm.frames ∧ 8 + (mL + 11) + rmy.locals ≤ rm.locals) (hcells : k + rmy.cells ≤ rm.cells ∧ n + rmy.slots ≤ rm.slots)
    (hst : (st.map fun v => v.category).sum ≤ 8) (hd : decode cc pc = .ok (.invokestatic ix, 3)) {ops : List Value} (hops : ops = As.reverse ++ st)
    (kk : ∀ r w1, Pst r w1 → jJ K (k + rmy.cells) (n + rmy.slots) (pc + 3) lo (r.toList ++ st) (ws ++ w1)) : jJ K k n pc lo ops ws := by
  subst hops
  refine j_runF (wc := []) C [] isR rfl hR rfl hnR (fun i _ h => absurd h List.not_mem_nil) (fun H locs ls hP hD hS hl hF => ?_) kk
  exact va_runS (As := As) (rest := st) (g := F0 K.2.1.1 pc ls (As.reverse ++ st)) ⟨C.1, C.2.1, C.2.2.2.2.2.2.1, C.2.2.1, C.2.2.2.1⟩ (hM H.size) (cwS As.length C.2.2.2.1 hG rfl rfl rfl ⟨hown, hn⟩ (by rw [C.2.2.2.2.2.2.2.2.1]; exact hroom))
    ⟨jPs_blind, fun U hU hW => ⟨rfl, ⟨by rw [hU], by rw [hU]; exact hP, va_K.moved hW.alike C.2.2.2.2.1, hD.weaken (fun _ _ _ _ => trivial)⟩, (hX.moved hW.alike).kept (by rw [hU]; exact hS.2.1 b hbl hbA), Nat.lt_of_lt_of_le hbl hS.1⟩⟩ rfl rfl hl.1 rfl (lv_room hst) hd (by rw [C.2.2.2.2.2.2.2.2.1]; exact hcells)
theorem j_ishr (C : jC cc own Y rm nL K) {x y : Int32} (hd : decode cc pc = .ok (.ishr, 1)) (kk : jJ K k n (pc + 1) lo (.int (x >>> (y &&& 31)) :: st) ws) : jJ K k n pc lo (.int y :: .int x :: st) ws :=
  fun H locs ls hP hD hS hl => lv_ishr C.1 C.2.1 hd (kk H locs ls hP hD hS hl)
theorem j_tabOutI (C : jC cc own Y rm nL K) {dflt lo9 hi9 : Int} {offs : Array Int} {len : Nat} {x : Int32} (tgt : Nat) (hd : decode cc pc = .ok (.tableswitch dflt lo9 hi9 offs, len)) (h : x.toInt < lo9 ∨ hi9 < x.toInt) (ht : (pc : Int) + dflt = (tgt : Int)) (kk : jJ K k n tgt lo st ws) : jJ K k n pc lo (.int x :: st) ws :=
  fun H locs ls hP hD hS hl => lv_tableOut C.1 C.2.1 hd h ht (kk H locs ls hP hD hS hl)
/-- a truth out of a test: 'if_ 7; iconst_1; goto 4; iconst_0' -/
theorem j_bE (C : jC cc own Y rm nL K) {x : Int32} (b : Bool) (hb0 : x = 0 → b = false) (hb1 : ¬ x = 0 → b = true) (h1 : decode cc pc = .ok (.ifCond .eq 7, 3)) (h2 : decode cc (pc + 3) = .ok (.iconst 1, 1)) (h3 : decode cc (pc + 3 + 1) = .ok (.goto 4, 3)) (h4 : decode cc (pc + 7) = .ok (.iconst 0, 1)) (kk : jJ K k n (pc + 8) lo (.int (bi b) :: st) ws) : jJ K k n pc lo (.int x :: st) ws := by
  refine j_if_eq C (pc + 7) h1 (by omega) (fun c => ?_) (fun c => ?_)
  · refine j_iconst C (bi b) h4 (by rw [hb0 c]; rfl) kk
  · refine j_iconst C (bi b) h2 (by rw [hb1 c]; rfl) ?_
    exact j_goto C (pc + 8) h3 (by omega) kk
theorem j_bN (C : jC cc own Y rm nL K) {x : Int32} (b : Bool) (hb0 : x = 0 → b = true) (hb1 : ¬ x = 0 → b = false) (h1 : decode cc pc = .ok (.ifCond .ne 7, 3)) (h2 : decode cc (pc + 3) = .ok (.iconst 1, 1)) (h3 : decode cc (pc + 3 + 1) = .ok (.goto 4, 3)) (h4 : decode cc (pc + 7) = .ok (.iconst 0, 1)) (kk : jJ K k n (pc + 8) lo (.int (bi b) :: st) ws) : jJ K k n pc lo (.int x :: st) ws := by
  refine j_if_ne C (pc + 7) h1 (by omega) (fun c => ?_) (fun c => ?_)
  · refine j_iconst C (bi b) h4 (by rw [hb1 c]; rfl) kk
  · refine j_iconst C (bi b) h2 (by rw [hb0 c]; rfl) ?_
    exact j_goto C (pc + 8) h3 (by omega) kk
theorem j_bLe (C : jC cc own Y rm nL K) {x : Int32} (h1 : decode cc pc = .ok (.ifCond .le 7, 3)) (h2 : decode cc (pc + 3) = .ok (.iconst 1, 1)) (h3 : decode cc (pc + 3 + 1) = .ok (.goto 4, 3)) (h4 : decode cc (pc + 7) = .ok (.iconst 0, 1)) (kk : jJ K k n (pc + 8) lo (.int (bi (decide (¬ x ≤ 0))) :: st) ws) : jJ K k n pc lo (.int x :: st) ws := by
  refine j_if_le C (pc + 7) h1 (by omega) (fun c => ?_) (fun c => ?_)
  · refine j_iconst C (bi (decide (¬ x ≤ 0))) h4 (by rw [decide_eq_false (fun z => z c)]; rfl) kk
  · refine j_iconst C (bi (decide (¬ x ≤ 0))) h2 (by rw [decide_eq_true c]; rfl) ?_
    exact j_goto C (pc + 8) h3 (by omega) kk
theorem j_bLt (C : jC cc own Y rm nL K) {x : Int32} (h1 : decode cc pc = .ok (.ifCond .lt 7, 3)) (h2 : decode cc (pc + 3) = .ok (.iconst 1, 1)) (h3 : decode cc (pc + 3 + 1) = .ok (.goto 4, 3)) (h4 : decode cc (pc + 7) = .ok (.iconst 0, 1)) (kk : jJ K k n (pc + 8) lo (.int (bi (decide (¬ x < 0))) :: st) ws) : jJ K k n pc lo (.int x :: st) ws := by
  refine j_if_lt C (pc + 7) h1 (by omega) (fun c => ?_) (fun c => ?_)
  · refine j_iconst C (bi (decide (¬ x < 0))) h4 (by rw [decide_eq_false (fun z => z c)]; rfl) kk
  · refine j_iconst C (bi (decide (¬ x < 0))) h2 (by rw [decide_eq_true c]; rfl) ?_
    exact j_goto C (pc + 8) h3 (by omega) kk
end JZ
end
section
theorem bi_t {b : Bool} (h : b = true) : nI 1 = bi b := by subst h; rfl
theorem bi_f {b : Bool} (h : b = false) : nI 0 = bi b := by subst h; rfl
theorem i32_lt (a b : Int32) : a < b ↔ a.toInt < b.toInt := Int32.lt_iff_toInt_lt
theorem i32_le (a b : Int32) : a ≤ b ↔ a.toInt ≤ b.toInt := Int32.le_iff_toInt_le
theorem i32_0 : (0 : Int32).toInt = 0 := by decide
theorem i32_eq {a b : Int32} (h : a.toInt = b.toInt) : a = b := Int32.toInt_inj.mp h
/-- in range -/
def inr (x : Int32) (n : Nat) : Bool := decide (0 ≤ x.toInt ∧ x.toInt < n)
theorem inr_t {x : Int32} {n : Nat} (hn : n < 2 ^ 31) (h1 : ¬ x < 0) (h2 : ¬ nI n ≤ x) : inr x n = true := by
  rw [i32_lt, i32_0] at h1
  rw [i32_le, nI_toInt hn] at h2
  unfold inr
  exact decide_eq_true ⟨by omega, by omega⟩
theorem inr_f1 {x : Int32} {n : Nat} (h1 : x < 0) : inr x n = false := by
  rw [i32_lt, i32_0] at h1
  unfold inr
  exact decide_eq_false (by omega)
theorem inr_f2 {x : Int32} {n : Nat} (hn : n < 2 ^ 31) (h2 : nI n ≤ x) : inr x n = false := by
  rw [i32_le, nI_toInt hn] at h2
  unfold inr
  exact decide_eq_false (by omega)
theorem inr_of {x : Int32} {n : Nat} (h : inr x n = true) (hn : n < 2 ^ 31) : ∃ j : Nat, j < n ∧ x = nI j := by
  have h := of_decide_eq_true h
  refine ⟨x.toInt.toNat, by omega, i32_eq ?_⟩
  rw [nI_toInt (by omega)]
  omega
theorem inr_nI {j n : Nat} (hj : j < 2 ^ 31) : inr (nI j) n = decide (j < n) := by
  unfold inr
  rw [nI_toInt hj]
  by_cases h : j < n
  · rw [decide_eq_true (show (0 : Int) ≤ j ∧ (j : Int) < n by omega), decide_eq_true h]
  · rw [decide_eq_false (show ¬ ((0 : Int) ≤ j ∧ (j : Int) < n) by omega), decide_eq_false h]
theorem inr_lt {j n : Nat} (h : j < n) (hn : n < 2 ^ 31) : inr (nI j) n = true := by
  rw [inr_nI (by omega)]; exact decide_eq_true h
/-- a place or none, as the class writes it -/
def oI : Option Nat → Int32 | none => -1 | some j => nI j
theorem oI_m1 {o : Option Nat} (h : ∀ j, o = some j → j < 2 ^ 31) : oI o = -1 ↔ o = none := by
  cases o with
  | none => exact ⟨fun _ => rfl, fun _ => rfl⟩
  | some j =>
    refine ⟨fun q => ?_, fun q => by cases q⟩
    have h1 : (nI j).toInt = (-1 : Int32).toInt := by rw [show nI j = -1 from q]
    rw [nI_toInt (h j rfl), show (-1 : Int32).toInt = -1 by decide] at h1
    omega
/-- the first place from d on, among k, where f is g -/
def fst (f : Nat → Nat) (g : Nat) : Nat → Nat → Option Nat
  | _, 0 => none
  | d, k + 1 => if f d = g then some d else fst f g (d + 1) k
theorem fst_some {f : Nat → Nat} {g : Nat} : ∀ {k d j : Nat}, fst f g d k = some j → d ≤ j ∧ j < d + k ∧ f j = g ∧ ∀ i, d ≤ i → i < j → f i ≠ g
  | 0, _, _, h => by cases h
  | k + 1, d, j, h => by
    unfold fst at h
    split at h
    · rename_i q
      cases h
      exact ⟨Nat.le_refl _, by omega, q, fun i a b => by omega⟩
    · rename_i q
      obtain ⟨h1, h2, h3, h4⟩ := fst_some h
      refine ⟨by omega, by omega, h3, fun i a b => ?_⟩
      by_cases e : i = d
      · subst e; exact q
      · exact h4 i (by omega) b
theorem fst_none {f : Nat → Nat} {g : Nat} : ∀ {k d : Nat}, fst f g d k = none ↔ ∀ i, d ≤ i → i < d + k → f i ≠ g
  | 0, d => ⟨fun _ i a b => by omega, fun _ => rfl⟩
  | k + 1, d => by
    unfold fst
    split
    · rename_i q
      exact ⟨fun h => (by cases h), fun h => absurd q (h d (Nat.le_refl _) (by omega))⟩
    · rename_i q
      rw [fst_none]
      refine ⟨fun h i a b => ?_, fun h i a b => h i (by omega) (by omega)⟩
      by_cases e : i = d
      · subst e; exact q
      · exact h i (by omega) (by omega)
theorem fst_lt {f : Nat → Nat} {g d k j : Nat} (h : fst f g d k = some j) : j < d + k := (fst_some h).2.1
theorem fst_eq {f : Nat → Nat} {g d k j : Nat} (h1 : d ≤ j) (h2 : j < d + k) (h3 : f j = g) (h4 : ∀ i, d ≤ i → i < j → f i ≠ g) : fst f g d k = some j := by
  cases h : fst f g d k with
  | none => exact absurd h3 (fst_none.mp h j h1 h2)
  | some i =>
    obtain ⟨a1, a2, a3, a4⟩ := fst_some h
    rcases Nat.lt_trichotomy i j with q | q | q
    · exact absurd a3 (h4 i a1 q)
    · rw [q]
    · exact absurd h3 (a4 j h1 q)
theorem fst_cong {f f' : Nat → Nat} {g : Nat} : ∀ {k d : Nat}, (∀ i, d ≤ i → i < d + k → f i = f' i) → fst f g d k = fst f' g d k
  | 0, _, _ => rfl
  | k + 1, d, h => by
    unfold fst
    rw [h d (Nat.le_refl _) (by omega), fst_cong (k := k) (d := d + 1) (fun i a b => h i (by omega) (by omega))]
/-- the digit of the place d -/
def dg (P a d : Nat) : Nat := a / P ^ d % P
theorem dg_lt {P a d : Nat} (h : 0 < P) : dg P a d < P := Nat.mod_lt _ h
theorem dg_pegIn {P a d : Nat} (hP : 0 < P) (hP2 : P < 2 ^ 31) (ha : a < 2 ^ 31) (hd : P ^ d < 2 ^ 31) : nI a / nI (P ^ d) - nI a / nI (P ^ d) / nI P * nI P = nI (dg P a d) := by
  rw [pk_div ha (Nat.pow_pos hP) hd]
  exact pk_rem (Nat.lt_of_le_of_lt (Nat.div_le_self _ _) ha) hP hP2
theorem pw_mono {P d N : Nat} (hP : 0 < P) (h : d ≤ N) : P ^ d ≤ P ^ N := Nat.pow_le_pow_right hP h
theorem nI_nlt0 {j : Nat} (h : j < 2 ^ 31) : ¬ nI j < 0 := nI_pos h
theorem nI_nlt1 {j : Nat} (h : j < 2 ^ 31) (h0 : 0 < j) : ¬ nI j < 1 := by
  rw [show (1 : Int32) = nI 1 by rfl, nI_ltI h (by omega)]; omega
end
section
/-- the first place from i on, below N, where f is g -/
def frm (f : Nat → Nat) (g i N : Nat) : Option Nat := fst f g i (N - i)
theorem frm_end {f : Nat → Nat} {g i N : Nat} (h : N ≤ i) : frm f g i N = none := by
  unfold frm; rw [Nat.sub_eq_zero_of_le h]; rfl
theorem frm_hit {f : Nat → Nat} {g i N : Nat} (h : i < N) (e : f i = g) : frm f g i N = some i := by
  unfold frm
  obtain ⟨k, hk⟩ : ∃ k, N - i = k + 1 := ⟨N - i - 1, by omega⟩
  rw [hk, fst, if_pos e]
theorem frm_step {f : Nat → Nat} {g i N : Nat} (h : i < N) (e : f i ≠ g) : frm f g i N = frm f g (i + 1) N := by
  unfold frm
  obtain ⟨k, hk⟩ : ∃ k, N - i = k + 1 := ⟨N - i - 1, by omega⟩
  rw [hk, fst, if_neg e, show N - (i + 1) = k by omega]
theorem frm_some {f : Nat → Nat} {g i N j : Nat} (h : frm f g i N = some j) : i ≤ j ∧ j < N ∧ f j = g ∧ ∀ q, i ≤ q → q < j → f q ≠ g := by
  obtain ⟨h1, h2, h3, h4⟩ := fst_some h
  exact ⟨h1, by omega, h3, h4⟩
theorem frm_none {f : Nat → Nat} {g i N : Nat} : frm f g i N = none ↔ ∀ q, i ≤ q → q < N → f q ≠ g := by
  unfold frm
  rw [fst_none]
  exact ⟨fun h q a b => h q a (by omega), fun h q a b => h q a (by omega)⟩
theorem frm_eq {f : Nat → Nat} {g i N j : Nat} (h1 : i ≤ j) (h2 : j < N) (h3 : f j = g) (h4 : ∀ q, i ≤ q → q < j → f q ≠ g) : frm f g i N = some j := fst_eq h1 (by omega) h3 h4
theorem frm_cong {f f' : Nat → Nat} {g i N : Nat} (h : ∀ q, i ≤ q → q < N → f q = f' q) : frm f g i N = frm f' g i N := fst_cong (fun q a b => h q a (by omega))
/-- all from i on, below N -/
def alf (q : Nat → Bool) : Nat → Nat → Bool
  | _, 0 => true
  | d, k + 1 => q d && alf q (d + 1) k
def alB (q : Nat → Bool) (i N : Nat) : Bool := alf q i (N - i)
theorem alB_end {q : Nat → Bool} {i N : Nat} (h : N ≤ i) : alB q i N = true := by
  unfold alB; rw [Nat.sub_eq_zero_of_le h]; rfl
theorem alB_step {q : Nat → Bool} {i N : Nat} (h : i < N) : alB q i N = (q i && alB q (i + 1) N) := by
  unfold alB
  obtain ⟨k, hk⟩ : ∃ k, N - i = k + 1 := ⟨N - i - 1, by omega⟩
  rw [hk, alf, show N - (i + 1) = k by omega]
theorem alf_iff {q : Nat → Bool} : ∀ {k d : Nat}, alf q d k = true ↔ ∀ i, d ≤ i → i < d + k → q i = true
  | 0, d => ⟨fun _ i a b => by omega, fun _ => rfl⟩
  | k + 1, d => by
    rw [alf, Bool.and_eq_true, alf_iff]
    refine ⟨fun h i a b => ?_, fun h => ⟨h d (Nat.le_refl _) (by omega), fun i a b => h i (by omega) (by omega)⟩⟩
    by_cases e : i = d
    · subst e; exact h.1
    · exact h.2 i (by omega) (by omega)
theorem alB_iff {q : Nat → Bool} {i N : Nat} : alB q i N = true ↔ ∀ d, i ≤ d → d < N → q d = true := by
  unfold alB
  rw [alf_iff]
  exact ⟨fun h d a b => h d a (by omega), fun h d a b => h d a (by omega)⟩
/-- may the disk d lie on the disk below it -/
def mlo (ru : Bool) (cb : Nat → Bool) (d : Nat) (o : Option Nat) : Bool := !ru || (match o with | none => true | some j => cb d != cb j)
/-- lawful -/
def lawF (N : Nat) (ru : Bool) (cb : Nat → Bool) (f : Nat → Nat) : Bool := alB (fun d => mlo ru cb d (frm f (f d) (d + 1) N)) 0 N
def lawB (P N : Nat) (ru : Bool) (cb : Nat → Bool) (a : Nat) : Bool := lawF N ru cb (dg P a)
/-- the top disk of a peg -/
def tp (P N a g : Nat) : Option Nat := frm (dg P a) g 0 N
def ftB (f t : Nat) (o1 o2 : Option Nat) : Bool := decide (f ≠ t) && (match o1 with | none => false | some d => match o2 with | none => true | some e => decide (d < e))
/-- the number with the digit of d put to t -/
def sd (P a d t : Nat) : Nat := a + t * P ^ d - dg P a d * P ^ d
def mv (P N a f t : Nat) : Nat := match tp P N a f with | none => a | some d => sd P a d t
def psB (P N : Nat) (ru : Bool) (cb al : Nat → Bool) (a f t : Nat) : Bool := ftB f t (tp P N a f) (tp P N a t) && al (f * 5 + t) && lawB P N ru cb (mv P N a f t)
def tpOf (P N a : Nat) (to : Nat → Int32) : Prop := ∀ g, g < 5 → to g = oI (tp P N a g)
def stB (P N : Nat) (ru : Bool) (cb al : Nat → Bool) (a f t : Nat) (bw : Bool) : Bool := ftB f t (tp P N a f) (tp P N a t) && al (if bw then t * 5 + f else f * 5 + t) && (match tp P N a f with | none => true | some d => mlo ru cb d (tp P N a t))
def cfg (P N : Nat) : Prop := 3 ≤ P ∧ P ≤ 5 ∧ 1 ≤ N ∧ N ≤ 6
theorem cfg_pw {P N d : Nat} (h : cfg P N) (hd : d ≤ 6) : P ^ d ≤ 15625 := by
  obtain ⟨h1, h2, -, -⟩ := h
  refine Nat.le_trans (Nat.pow_le_pow_right (by omega) hd) ?_
  rcases (show P = 3 ∨ P = 4 ∨ P = 5 by omega) with rfl | rfl | rfl <;> decide
theorem cfg_pos {P N d : Nat} (h : cfg P N) : 0 < P ^ d := Nat.pow_pos (by have := h.1; omega)
theorem dg_le {P a d : Nat} : dg P a d * P ^ d ≤ a := by
  unfold dg
  exact Nat.le_trans (Nat.mul_le_mul_right _ (Nat.mod_le _ _)) (Nat.div_mul_le_self a _)
theorem tp_lt {P N a g j : Nat} (h : tp P N a g = some j) : j < N := (frm_some h).2.1
theorem tp_dg {P N a g j : Nat} (h : tp P N a g = some j) : dg P a j = g := (frm_some h).2.2.1
theorem nI_m1 (x : Int32) : x + Int32.ofInt (-1) = x - nI 1 := by
  rw [Int32.sub_eq_add_neg]; rfl
theorem nI_p1 (j : Nat) : nI j + Int32.ofInt 1 = nI (j + 1) := nI_1 j
theorem nI_pr (j : Nat) : nI (j + 1) - nI 1 = nI j := nI_pred j
theorem nI_move {a f t w : Nat} (h : f * w ≤ a) : nI a + (nI t - nI f) * nI w = nI (a + t * w - f * w) := by
  have e : a + t * w - f * w + f * w = a + t * w := by omega
  have e2 := congrArg nI e
  rw [← nI_add, ← nI_add, ← pk_mul, ← pk_mul] at e2
  generalize nI (a + t * w - f * w) = X at e2 ⊢
  generalize nI a = A at e2 ⊢
  generalize nI f = F at e2 ⊢
  generalize nI t = T at e2 ⊢
  generalize nI w = V at e2 ⊢
  grind
end
section
/-- the number of the digits f 0 .. f (N - 1) -/
def nm (P : Nat) (f : Nat → Nat) : Nat → Nat
  | 0 => 0
  | N + 1 => nm P f N + f N * P ^ N
theorem nm_lt {P : Nat} {f : Nat → Nat} (hP : 0 < P) : ∀ {N : Nat}, (∀ d, d < N → f d < P) → nm P f N < P ^ N
  | 0, _ => by simp [nm]
  | N + 1, h => by
    have h1 := nm_lt hP (N := N) (fun d q => h d (by omega))
    have h2 : f N * P ^ N ≤ (P - 1) * P ^ N := Nat.mul_le_mul_right _ (by have := h N (by omega); omega)
    have h3 : (P - 1) * P ^ N + P ^ N = P ^ (N + 1) := by
      rw [Nat.pow_succ, Nat.mul_comm (P ^ N) P]
      obtain ⟨q, rfl⟩ : ∃ q, P = q + 1 := ⟨P - 1, by omega⟩
      rw [Nat.add_sub_cancel, Nat.succ_mul]
    rw [nm]; omega
theorem nm_cong {P : Nat} {f g : Nat → Nat} : ∀ {N : Nat}, (∀ d, d < N → f d = g d) → nm P f N = nm P g N
  | 0, _ => rfl
  | N + 1, h => by rw [nm, nm, nm_cong (N := N) (fun d q => h d (by omega)), h N (by omega)]
theorem dg_nm {P : Nat} {f : Nat → Nat} (hP : 0 < P) : ∀ {N : Nat}, (∀ d, d < N → f d < P) → ∀ {d : Nat}, d < N → dg P (nm P f N) d = f d
  | 0, _, d, h => by omega
  | N + 1, hf, d, h => by
    have hpd : 0 < P ^ d := Nat.pow_pos hP
    rw [nm]
    unfold dg
    by_cases e : d = N
    · subst e
      rw [Nat.add_mul_div_right _ _ hpd, Nat.div_eq_of_lt (nm_lt hP (fun d q => hf d (by omega))), Nat.zero_add, Nat.mod_eq_of_lt (hf d h)]
    · have ih := dg_nm hP (N := N) (fun d q => hf d (by omega)) (d := d) (by omega)
      unfold dg at ih
      obtain ⟨k, rfl⟩ : ∃ k, N = d + (k + 1) := ⟨N - d - 1, by omega⟩
      rw [show f (d + (k + 1)) * P ^ (d + (k + 1)) = (f (d + (k + 1)) * P ^ k * P) * P ^ d by rw [Nat.pow_add, Nat.pow_succ]; simp only [Nat.mul_comm, Nat.mul_left_comm, Nat.mul_assoc], Nat.add_mul_div_right _ _ hpd, Nat.add_mul_mod_self_right]
      exact ih
theorem nm_dg {P a : Nat} : ∀ {N : Nat}, nm P (dg P a) N = a % P ^ N
  | 0 => by rw [nm, Nat.pow_zero, Nat.mod_one]
  | N + 1 => by
    rw [nm, nm_dg, Nat.pow_succ, Nat.mod_mul]
    unfold dg
    rw [Nat.mul_comm (P ^ N)]
theorem nm_self {P a N : Nat} (h : a < P ^ N) : nm P (dg P a) N = a := by rw [nm_dg, Nat.mod_eq_of_lt h]
def updN (f : Nat → Nat) (k : Nat) (x : Nat) : Nat → Nat := fun j => if j = k then x else f j
theorem updN_s {f : Nat → Nat} {k x : Nat} : updN f k x k = x := if_pos rfl
theorem updN_n {f : Nat → Nat} {k x j : Nat} (h : j ≠ k) : updN f k x j = f j := if_neg h
theorem nm_updN {P : Nat} {f : Nat → Nat} {d t : Nat} : ∀ {N : Nat}, d < N → nm P (updN f d t) N + f d * P ^ d = nm P f N + t * P ^ d
  | 0, h => by omega
  | N + 1, h => by
    rw [nm, nm]
    by_cases e : d = N
    · subst e
      rw [updN_s, nm_cong (g := f) (fun j q => updN_n (by omega))]
      omega
    · rw [updN_n (fun q => e q.symm)]
      have ih := nm_updN (P := P) (f := f) (d := d) (t := t) (N := N) (by omega)
      omega
theorem sd_nm {P a d t N : Nat} (ha : a < P ^ N) (hd : d < N) : sd P a d t = nm P (updN (dg P a) d t) N := by
  have h := nm_updN (P := P) (f := dg P a) (d := d) (t := t) hd
  rw [nm_self ha] at h
  unfold sd
  have := dg_le (P := P) (a := a) (d := d)
  omega
theorem sd_lt {P a d t N : Nat} (hP : 0 < P) (ha : a < P ^ N) (hd : d < N) (ht : t < P) : sd P a d t < P ^ N := by
  rw [sd_nm ha hd]
  refine nm_lt hP (fun j hj => ?_)
  by_cases e : j = d
  · rw [e, updN_s]; exact ht
  · rw [updN_n e]; exact dg_lt hP
theorem dg_sd {P a d t N j : Nat} (hP : 0 < P) (ha : a < P ^ N) (hd : d < N) (ht : t < P) (hj : j < N) : dg P (sd P a d t) j = if j = d then t else dg P a j := by
  rw [sd_nm ha hd, dg_nm hP (fun q hq => ?_) hj]
  · rfl
  · by_cases e : q = d
    · rw [e, updN_s]; exact ht
    · rw [updN_n e]; exact dg_lt hP
theorem dg_sdS {P a d t N : Nat} (hP : 0 < P) (ha : a < P ^ N) (hd : d < N) (ht : t < P) : dg P (sd P a d t) d = t := by rw [dg_sd hP ha hd ht hd, if_pos rfl]
theorem dg_sdN {P a d t N j : Nat} (hP : 0 < P) (ha : a < P ^ N) (hd : d < N) (ht : t < P) (hj : j < N) (e : j ≠ d) : dg P (sd P a d t) j = dg P a j := by rw [dg_sd hP ha hd ht hj, if_neg e]
theorem dg_inj {P a b N : Nat} (ha : a < P ^ N) (hb : b < P ^ N) (h : ∀ d, d < N → dg P a d = dg P b d) : a = b := by
  rw [← nm_self ha, ← nm_self hb]; exact nm_cong h
theorem mv_lt {P N a f t : Nat} (hP : 0 < P) (ha : a < P ^ N) (ht : t < P) : mv P N a f t < P ^ N := by
  unfold mv
  split
  · exact ha
  · rename_i d h
    exact sd_lt hP ha (tp_lt h) ht
theorem ftB_some {f t : Nat} {o1 o2 : Option Nat} (h : ftB f t o1 o2 = true) : f ≠ t ∧ ∃ d, o1 = some d ∧ ∀ e, o2 = some e → d < e := by
  unfold ftB at h
  rw [Bool.and_eq_true] at h
  refine ⟨of_decide_eq_true h.1, ?_⟩
  cases o1 with
  | none => exact absurd h.2 (by simp)
  | some d =>
    refine ⟨d, rfl, fun e he => ?_⟩
    subst he
    exact of_decide_eq_true h.2
theorem mv_some {P N a f t d : Nat} (h : tp P N a f = some d) : mv P N a f t = a + t * P ^ d - f * P ^ d := by
  unfold mv
  rw [h]
  show sd P a d t = _
  unfold sd
  rw [tp_dg h]
theorem tp_le {P N a f d : Nat} (h : tp P N a f = some d) : f * P ^ d ≤ a := by
  have h2 := dg_le (P := P) (a := a) (d := d)
  rw [tp_dg h] at h2
  exact h2
/-- from the highest digit down -/
def hor (P : Nat) (f : Nat → Nat) : Nat → Nat → Nat
  | _, 0 => 0
  | i, k + 1 => P * hor P f (i + 1) k + f i
theorem nm_hor {P : Nat} {f : Nat → Nat} : ∀ {k i : Nat}, nm P f (i + k) = nm P f i + P ^ i * hor P f i k
  | 0, i => by rw [hor, Nat.mul_zero]; rfl
  | k + 1, i => by
    rw [show i + (k + 1) = (i + 1) + k by omega, nm_hor, nm, hor, Nat.mul_add, Nat.pow_succ, Nat.mul_assoc, Nat.mul_comm (P ^ i) (f i)]
    omega
theorem nm_hor0 {P : Nat} {f : Nat → Nat} {N : Nat} : nm P f N = hor P f 0 N := by
  have h := nm_hor (P := P) (f := f) (k := N) (i := 0)
  rw [Nat.zero_add] at h
  rw [h, nm, Nat.pow_zero]; omega
end
section
theorem up_s {α : Type} {f : Nat → α} {k : Nat} {x : α} : va_up f k x k = x := if_pos rfl
theorem up_n {α : Type} {f : Nat → α} {k j : Nat} {x : α} (h : j ≠ k) : va_up f k x j = f j := if_neg h
/-- no more than m different numbers lie below m -/
theorem holes : ∀ (m n : Nat) (f : Nat → Nat), (∀ i, i < n → f i < m) → (∀ i j, i < j → j < n → f i ≠ f j) → n ≤ m
  | 0, n, f, h1, _ => by
    rcases Nat.eq_zero_or_pos n with e | e
    · omega
    · have := h1 0 e; omega
  | m + 1, n, f, h1, h2 => by
    rcases Nat.eq_zero_or_pos n with e | e
    · omega
    · by_cases hm : ∃ i, i < n ∧ f i = m
      · obtain ⟨i, hi, hfi⟩ := hm
        have h := holes m (n - 1) (fun j => if j = i then f (n - 1) else f j) (fun j hj => by
          show (if j = i then f (n - 1) else f j) < m
          split
          · rename_i q
            have a1 := h1 (n - 1) (by omega)
            have a2 : f (n - 1) ≠ m := fun z => by
              rcases Nat.lt_trichotomy i (n - 1) with w | w | w
              · exact h2 i (n - 1) w (by omega) (hfi.trans z.symm)
              · omega
              · omega
            omega
          · rename_i q
            have a1 := h1 j (by omega)
            have a2 : f j ≠ m := fun z => by
              rcases Nat.lt_trichotomy i j with w | w | w
              · exact h2 i j w (by omega) (hfi.trans z.symm)
              · exact q w.symm
              · exact h2 j i w hi (z.trans hfi.symm)
            omega) (fun a b hab hb => by
          show (if a = i then f (n - 1) else f a) ≠ (if b = i then f (n - 1) else f b)
          split <;> split
          · omega
          · exact fun z => h2 b (n - 1) (by omega) (by omega) z.symm
          · exact fun z => h2 a (n - 1) (by omega) (by omega) z
          · exact h2 a b hab (by omega))
        omega
      · have h := holes m n f (fun i hi => by
          have a1 := h1 i hi
          have a2 : f i ≠ m := fun z => hm ⟨i, hi, z⟩
          omega) h2
        omega
/-! a search over numbers: nb x f t is the neighbour of x by the pair f, t -/
abbrev nb_T : Type := Nat → Nat → Nat → Option Nat
def eg (P : Nat) (nb : nb_T) (x y : Nat) : Prop := ∃ f t, f < P ∧ t < P ∧ nb x f t = some y
def pth (E : Nat → Nat → Prop) : Nat → Nat → Nat → Prop
  | 0, x, y => x = y
  | k + 1, x, y => ∃ z, pth E k x z ∧ E z y
def bfI (M P : Nat) (nb : nb_T) (o h fo : Nat) (ds : Nat → Option Nat) (q : Nat → Nat) : Prop :=
  (h ≤ fo ∧ 0 < fo) ∧ (∀ i, i < fo → q i < M) ∧ (∀ i, i < fo → ∃ d, ds (q i) = some d ∧ d ≤ i ∧ pth (eg P nb) d o (q i)) ∧ (∀ y, ds y ≠ none → ∃ i, i < fo ∧ q i = y) ∧ (∀ i j, i < j → j < fo → q i ≠ q j) ∧
  (∀ i j d e, i ≤ j → j < fo → ds (q i) = some d → ds (q j) = some e → d ≤ e) ∧ (∀ i j d e, i < fo → h ≤ j → j < fo → ds (q i) = some d → ds (q j) = some e → d ≤ e + 1) ∧
  (∀ i, i < h → ∀ y d, eg P nb (q i) y → ds (q i) = some d → ∃ e, ds y = some e ∧ e ≤ d + 1) ∧ ds o = some 0
def bfX (M P : Nat) (nb : nb_T) (o h fo : Nat) (ds : Nat → Option Nat) (q : Nat → Nat) (x dx F T : Nat) : Prop :=
  bfI M P nb o h fo ds q ∧ h < fo ∧ q h = x ∧ ds x = some dx ∧ ∀ f t y, (f < F ∨ (f = F ∧ t < T)) → t < P → nb x f t = some y → ∃ e, ds y = some e ∧ e ≤ dx + 1
theorem bf_le {M P : Nat} {nb : nb_T} {o h fo : Nat} {ds : Nat → Option Nat} {q : Nat → Nat} (I : bfI M P nb o h fo ds q) : fo ≤ M := holes M fo q I.2.1 I.2.2.2.2.1
theorem bf_start {M P : Nat} {nb : nb_T} {o : Nat} {q : Nat → Nat} (ho : o < M) (hq : q 0 = o) : bfI M P nb o 0 1 (va_up (fun _ => none) o (some 0)) q := by
  have e0 : ∀ i, i < 1 → q i = o := fun i hi => by rw [show i = 0 by omega]; exact hq
  refine ⟨⟨by omega, by omega⟩, fun i hi => by rw [e0 i hi]; exact ho, fun i hi => ⟨0, by rw [e0 i hi, up_s], by omega, by rw [e0 i hi]; rfl⟩, fun y hy => ⟨0, by omega, ?_⟩, fun i j a b => by omega, fun i j d e a b h1 h2 => ?_, fun i j d e a b c h1 h2 => ?_, fun i hi => by omega, up_s⟩
  · rw [hq]
    by_cases z : y = o
    · exact z.symm
    · exact absurd (up_n z) hy
  · rw [e0 i (by omega), up_s] at h1
    cases h1; omega
  · rw [e0 i (by omega), up_s] at h1
    cases h1; omega
theorem bf_enter {M P : Nat} {nb : nb_T} {o h fo : Nat} {ds : Nat → Option Nat} {q : Nat → Nat} (I : bfI M P nb o h fo ds q) (hh : h < fo) : ∃ dx, dx ≤ h ∧ bfX M P nb o h fo ds q (q h) dx 0 0 := by
  obtain ⟨d, h1, h2, h3⟩ := I.2.2.1 h hh
  exact ⟨d, h2, I, hh, rfl, h1, fun f t y a => by omega⟩
theorem bf_keep {M P : Nat} {nb : nb_T} {o h fo : Nat} {ds : Nat → Option Nat} {q : Nat → Nat} {x dx F T : Nat} (I : bfX M P nb o h fo ds q x dx F T) (hk : ∀ y, nb x F T = some y → ds y ≠ none) : bfX M P nb o h fo ds q x dx F (T + 1) := by
  obtain ⟨I0, hh, hx, hd, hc⟩ := I
  refine ⟨I0, hh, hx, hd, fun f t y a b c => ?_⟩
  by_cases e : f = F ∧ t = T
  · obtain ⟨rfl, rfl⟩ := e
    have hn := hk y c
    obtain ⟨i, hi, hqi⟩ := I0.2.2.2.1 y hn
    obtain ⟨d, h1, -, -⟩ := I0.2.2.1 i hi
    rw [hqi] at h1
    exact ⟨d, h1, I0.2.2.2.2.2.2.1 i h d dx hi (Nat.le_refl _) hh (by rw [hqi]; exact h1) (by rw [hx]; exact hd)⟩
  · exact hc f t y (by omega) b c
theorem bf_room {M P : Nat} {nb : nb_T} {o h fo : Nat} {ds : Nat → Option Nat} {q : Nat → Nat} {y : Nat} (I : bfI M P nb o h fo ds q) (hy : y < M) (hn : ds y = none) : fo < M := by
  have hq : ∀ i, i < fo → q i ≠ y := fun i hi z => by
    obtain ⟨d, h1, -⟩ := I.2.2.1 i hi
    rw [z, hn] at h1; cases h1
  refine holes M (fo + 1) (va_up q fo y) (fun i hi => ?_) (fun i j a b => ?_)
  · by_cases e : i = fo
    · rw [e, up_s]; exact hy
    · rw [up_n e]; exact I.2.1 i (by omega)
  · by_cases e : j = fo
    · rw [e, up_s, up_n (by omega)]; exact hq i (by omega)
    · rw [up_n e, up_n (by omega)]; exact I.2.2.2.2.1 i j a (by omega)
theorem bf_add {M P : Nat} {nb : nb_T} {o h fo : Nat} {ds : Nat → Option Nat} {q : Nat → Nat} {x dx F T y : Nat} (I : bfX M P nb o h fo ds q x dx F T) (hF : F < P) (hT : T < P) (hy : nb x F T = some y) (hm : y < M) (hn : ds y = none) :
    bfX M P nb o h (fo + 1) (va_up ds y (some (dx + 1))) (va_up q fo y) x dx F (T + 1) := by
  obtain ⟨I0, hh, hx, hd, hc⟩ := I
  obtain ⟨⟨J0, J0'⟩, J1, J2, J3, J4, J5, J6, J7, J8⟩ := id I0
  have hqy : ∀ i, i < fo → q i ≠ y := fun i hi z => by
    obtain ⟨d, h1, -⟩ := J2 i hi
    rw [z, hn] at h1; cases h1
  have hxy : x ≠ y := fun z => by rw [z, hn] at hd; cases hd
  have hoy : o ≠ y := fun z => by rw [z, hn] at J8; cases J8
  have Q : ∀ i, i < fo → va_up q fo y i = q i := fun i hi => up_n (by omega)
  have D : ∀ i, i < fo → va_up ds y (some (dx + 1)) (q i) = ds (q i) := fun i hi => up_n (hqy i hi)
  have hdh : ds (q h) = some dx := by rw [hx]; exact hd
  have hdx : dx ≤ h := by
    obtain ⟨d, h1, h2, -⟩ := J2 h hh
    rw [hdh] at h1; cases h1; exact h2
  have hpx : pth (eg P nb) dx o x := by
    obtain ⟨d, h1, -, h3⟩ := J2 h hh
    rw [hdh] at h1; cases h1; rw [← hx]; exact h3
  have keep : ∀ z e, ds z = some e → va_up ds y (some (dx + 1)) z = some e := fun z e hz => by
    rw [up_n (fun w => by rw [w, hn] at hz; cases hz)]; exact hz
  refine ⟨⟨⟨by omega, by omega⟩, fun i hi => ?_, fun i hi => ?_, fun z hz => ?_, fun i j a b => ?_, fun i j d e a b h1 h2 => ?_, fun i j d e a b c h1 h2 => ?_, fun i hi z d he h1 => ?_, ?_⟩, by omega, ?_, ?_, fun f t z a b c => ?_⟩
  · by_cases e : i = fo
    · rw [e, up_s]; exact hm
    · rw [Q i (by omega)]; exact J1 i (by omega)
  · by_cases e : i = fo
    · rw [e, up_s]
      exact ⟨dx + 1, up_s, by omega, ⟨x, hpx, F, T, hF, hT, hy⟩⟩
    · rw [Q i (by omega), D i (by omega)]; exact J2 i (by omega)
  · by_cases e : z = y
    · exact ⟨fo, by omega, by rw [up_s, e]⟩
    · rw [up_n e] at hz
      obtain ⟨i, hi, h1⟩ := J3 z hz
      exact ⟨i, by omega, by rw [Q i hi]; exact h1⟩
  · by_cases e : j = fo
    · rw [e, up_s, Q i (by omega)]; exact hqy i (by omega)
    · rw [Q j (by omega), Q i (by omega)]; exact J4 i j a (by omega)
  · by_cases ej : j = fo
    · rw [ej, up_s, up_s] at h2
      cases h2
      by_cases ei : i = fo
      · rw [ei, up_s, up_s] at h1; cases h1; exact Nat.le_refl _
      · rw [Q i (by omega), D i (by omega)] at h1
        exact J6 i h d dx (by omega) (Nat.le_refl _) hh h1 hdh
    · rw [Q j (by omega), D j (by omega)] at h2
      rw [Q i (by omega), D i (by omega)] at h1
      exact J5 i j d e a (by omega) h1 h2
  · have he : dx ≤ e := by
      by_cases ej : j = fo
      · rw [ej, up_s, up_s] at h2; cases h2; omega
      · rw [Q j (by omega), D j (by omega)] at h2
        exact J5 h j dx e b (by omega) hdh h2
    by_cases ei : i = fo
    · rw [ei, up_s, up_s] at h1; cases h1; omega
    · rw [Q i (by omega), D i (by omega)] at h1
      have := J6 i h d dx (by omega) (Nat.le_refl _) hh h1 hdh
      omega
  · rw [Q i (by omega)] at he h1
    rw [D i (by omega)] at h1
    obtain ⟨e, h2, h3⟩ := J7 i hi z d he h1
    exact ⟨e, keep z e h2, h3⟩
  · rw [up_n hoy]; exact J8
  · rw [Q h hh]; exact hx
  · rw [up_n hxy]; exact hd
  · by_cases e : f = F ∧ t = T
    · obtain ⟨rfl, rfl⟩ := e
      rw [hy] at c; cases c
      exact ⟨dx + 1, up_s, Nat.le_refl _⟩
    · obtain ⟨e2, h2, h3⟩ := hc f t z (by omega) b c
      exact ⟨e2, keep z e2 h2, h3⟩
theorem bf_row {M P : Nat} {nb : nb_T} {o h fo : Nat} {ds : Nat → Option Nat} {q : Nat → Nat} {x dx F T : Nat} (I : bfX M P nb o h fo ds q x dx F T) (hT : P ≤ T) : bfX M P nb o h fo ds q x dx (F + 1) 0 := by
  obtain ⟨I0, hh, hx, hd, hc⟩ := I
  exact ⟨I0, hh, hx, hd, fun f t y a b c => hc f t y (by omega) b c⟩
theorem bf_next {M P : Nat} {nb : nb_T} {o h fo : Nat} {ds : Nat → Option Nat} {q : Nat → Nat} {x dx F : Nat} (I : bfX M P nb o h fo ds q x dx F 0) (hF : P ≤ F) : bfI M P nb o (h + 1) fo ds q := by
  obtain ⟨⟨J0, J1, J2, J3, J4, J5, J6, J7, J8⟩, hh, hx, hd, hc⟩ := I
  refine ⟨⟨hh, J0.2⟩, J1, J2, J3, J4, J5, fun i j d e a b c h1 h2 => J6 i j d e a (by omega) c h1 h2, fun i hi y d he h1 => ?_, J8⟩
  by_cases e : i = h
  · subst e
    rw [hx, hd] at h1; cases h1
    obtain ⟨f, t, hf, ht, hn⟩ := he
    rw [hx] at hn
    exact hc f t y (by omega) ht hn
  · exact J7 i (by omega) y d he h1
/-- what a search tells: the least number of steps -/
def isDs (E : Nat → Nat → Prop) (o : Nat) (ds : Nat → Option Nat) : Prop := (∀ y d, ds y = some d → pth E d o y) ∧ ∀ k y, pth E k o y → ∃ d, ds y = some d ∧ d ≤ k
theorem bf_end {M P : Nat} {nb : nb_T} {o fo : Nat} {ds : Nat → Option Nat} {q : Nat → Nat} (I : bfI M P nb o fo fo ds q) : isDs (eg P nb) o ds := by
  obtain ⟨J0, J1, J2, J3, J4, J5, J6, J7, J8⟩ := I
  refine ⟨fun y d h => ?_, fun k => ?_⟩
  · obtain ⟨i, hi, rfl⟩ := J3 y (by rw [h]; simp)
    obtain ⟨e, h1, -, h3⟩ := J2 i hi
    rw [h] at h1; cases h1; exact h3
  · induction k with
    | zero => intro y h; cases h; exact ⟨0, J8, Nat.le_refl _⟩
    | succ k ih =>
      rintro y ⟨z, hz, hzy⟩
      obtain ⟨d, h1, h2⟩ := ih z hz
      obtain ⟨i, hi, rfl⟩ := J3 z (by rw [h1]; simp)
      obtain ⟨e, h3, h4⟩ := J7 i hi y d hzy h1
      exact ⟨e, h3, by omega⟩
theorem isDs_one {E : Nat → Nat → Prop} {o : Nat} {ds ds2 : Nat → Option Nat} (h : isDs E o ds) (h2 : isDs E o ds2) (y : Nat) : ds y = ds2 y := by
  cases e : ds y with
  | none =>
    cases e2 : ds2 y with
    | none => rfl
    | some d =>
      obtain ⟨d', h3, -⟩ := h.2 d y (h2.1 y d e2)
      rw [e] at h3; cases h3
  | some d =>
    obtain ⟨d2, h3, h4⟩ := h2.2 d y (h.1 y d e)
    obtain ⟨d3, h5, h6⟩ := h.2 d2 y (h2.1 y d2 h3)
    rw [e] at h5; cases h5
    rw [h3, show d2 = d by omega]
theorem pth_rev {E : Nat → Nat → Prop} : ∀ {k x y : Nat}, pth E k x y → pth (fun a b => E b a) k y x := by
  have front : ∀ {F : Nat → Nat → Prop} {k x y z : Nat}, F x y → pth F k y z → pth F (k + 1) x z := by
    intro F k
    induction k with
    | zero => intro x y z h h2; cases h2; exact ⟨x, rfl, h⟩
    | succ k ih =>
      rintro x y z h ⟨w, h2, h3⟩
      exact ⟨w, ih h h2, h3⟩
  intro k
  induction k with
  | zero => intro x y h; exact h.symm
  | succ k ih =>
    rintro x y ⟨z, h1, h2⟩
    exact front (F := fun a b => E b a) h2 (ih h1)
theorem pth_cong {E F : Nat → Nat → Prop} {L : Nat → Prop} {o : Nat} (ho : L o) (h : ∀ x y, L x → E x y → F x y ∧ L y) : ∀ {k y : Nat}, pth E k o y → pth F k o y ∧ L y
  | 0, y, e => by cases e; exact ⟨rfl, ho⟩
  | k + 1, y, e => by
    obtain ⟨z, h1, h2⟩ := e
    obtain ⟨h3, h4⟩ := pth_cong ho h h1
    obtain ⟨h5, h6⟩ := h z y h4 h2
    exact ⟨⟨z, h3, h5⟩, h6⟩
end
section
abbrev rm_X0_isPeg : Room := { frames := 0, cells := 0, slots := 0, locals := 0 }
set_option maxHeartbeats 4000000 in
set_option maxRecDepth 100000 in
theorem ct_X0_isPeg {l : Launch} {D : va_G} {Y : jy_T} {ad : Nat → Nat} {P : Nat} {x : Int32} {n ru nw tg mc me : Int32} {we co al tr to fa se qu sp : Nat → Int32} (hP : P < 2 ^ 31) :
    MJ l yX0_isPeg cX0_isPeg 2 (some .boolean) rm_X0_isPeg D Y [.ref (ad 0), .int x] (wA Y ad (nI P) n ru nw tg mc me we co al tr to fa se qu sp) (jI (fun r w => r = bi (inr x P) ∧ w = (wA Y ad (nI P) n ru nw tg mc me we co al tr to fa se qu sp))) := by
  refine j_enter (by decide) (Nat.le_of_ble_eq_true rfl) (fun v hv => by simp only [List.mem_cons, List.not_mem_nil, or_false] at hv; rcases hv with rfl | rfl <;> rfl) (fun K hl hD hnm C R => ?_)
  subst hl; subst hD
  have C : jC cX0_isPeg RX0 Y rm_X0_isPeg 2 K := C
  have R : jR Y (some .boolean) 0 0 (jI (fun r w => r = bi (inr x P) ∧ w = (wA Y ad (nI P) n ru nw tg mc me we co al tr to fa se qu sp))) K := R
  refine j_eq (lo' := [some (.ref (ad 0)), some (.int x)]) rfl rfl rfl ?_
  refine j_iload_n C dX0_isPeg_0 rfl ?_
  refine j_if_lt C 16 dX0_isPeg_1 (by decide) (fun c_1 => ?_) (fun c_1 => ?_)
  · refine j_iconst C (nI 0) dX0_isPeg_16 (by decide) ?_
    exact j_retz C R dX0_isPeg_17 rfl ⟨bi_f (inr_f1 c_1), rfl⟩
  · refine j_iload_n C dX0_isPeg_4 rfl ?_
    refine j_aload_n C dX0_isPeg_5 rfl ?_
    refine g0_pegCount C dX0_isPeg_6 ?_
    refine j_icmp_ge C 16 dX0_isPeg_9 (by decide) (fun c_9 => ?_) (fun c_9 => ?_)
    · refine j_iconst C (nI 0) dX0_isPeg_16 (by decide) ?_
      exact j_retz C R dX0_isPeg_17 rfl ⟨bi_f (inr_f2 hP c_9), rfl⟩
    · refine j_iconst C (nI 1) dX0_isPeg_12 (by decide) ?_
      refine j_goto C 17 dX0_isPeg_13 (by decide) ?_
      exact j_retz C R dX0_isPeg_17 rfl ⟨bi_t (inr_t hP c_1 c_9), rfl⟩
abbrev rm_X0_isDisk : Room := { frames := 0, cells := 0, slots := 0, locals := 0 }
set_option maxHeartbeats 4000000 in
set_option maxRecDepth 100000 in
theorem ct_X0_isDisk {l : Launch} {D : va_G} {Y : jy_T} {ad : Nat → Nat} {N : Nat} {x : Int32} {p ru nw tg mc me : Int32} {we co al tr to fa se qu sp : Nat → Int32} (hN : N < 2 ^ 31) :
    MJ l yX0_isDisk cX0_isDisk 2 (some .boolean) rm_X0_isDisk D Y [.ref (ad 0), .int x] (wA Y ad p (nI N) ru nw tg mc me we co al tr to fa se qu sp) (jI (fun r w => r = bi (inr x N) ∧ w = (wA Y ad p (nI N) ru nw tg mc me we co al tr to fa se qu sp))) := by
  refine j_enter (by decide) (Nat.le_of_ble_eq_true rfl) (fun v hv => by simp only [List.mem_cons, List.not_mem_nil, or_false] at hv; rcases hv with rfl | rfl <;> rfl) (fun K hl hD hnm C R => ?_)
  subst hl; subst hD
  have C : jC cX0_isDisk RX0 Y rm_X0_isDisk 2 K := C
  have R : jR Y (some .boolean) 0 0 (jI (fun r w => r = bi (inr x N) ∧ w = (wA Y ad p (nI N) ru nw tg mc me we co al tr to fa se qu sp))) K := R
  refine j_eq (lo' := [some (.ref (ad 0)), some (.int x)]) rfl rfl rfl ?_
  refine j_iload_n C dX0_isDisk_0 rfl ?_
  refine j_if_lt C 16 dX0_isDisk_1 (by decide) (fun c_1 => ?_) (fun c_1 => ?_)
  · refine j_iconst C (nI 0) dX0_isDisk_16 (by decide) ?_
    exact j_retz C R dX0_isDisk_17 rfl ⟨bi_f (inr_f1 c_1), rfl⟩
  · refine j_iload_n C dX0_isDisk_4 rfl ?_
    refine j_aload_n C dX0_isDisk_5 rfl ?_
    refine g0_diskCount C dX0_isDisk_6 ?_
    refine j_icmp_ge C 16 dX0_isDisk_9 (by decide) (fun c_9 => ?_) (fun c_9 => ?_)
    · refine j_iconst C (nI 0) dX0_isDisk_16 (by decide) ?_
      exact j_retz C R dX0_isDisk_17 rfl ⟨bi_f (inr_f2 hN c_9), rfl⟩
    · refine j_iconst C (nI 1) dX0_isDisk_12 (by decide) ?_
      refine j_goto C 17 dX0_isDisk_13 (by decide) ?_
      exact j_retz C R dX0_isDisk_17 rfl ⟨bi_t (inr_t hN c_1 c_9), rfl⟩
abbrev rm_X0_isNumber : Room := { frames := 0, cells := 0, slots := 0, locals := 0 }
set_option maxHeartbeats 4000000 in
set_option maxRecDepth 100000 in
theorem ct_X0_isNumber {l : Launch} {D : va_G} {Y : jy_T} {ad : Nat → Nat} {P N : Nat} {x : Int32} {p ru nw tg mc me : Int32} {co al tr to fa se qu sp : Nat → Int32} (hc : cfg P N) :
    MJ l yX0_isNumber cX0_isNumber 2 (some .boolean) rm_X0_isNumber D Y [.ref (ad 0), .int x] (wA Y ad p (nI N) ru nw tg mc me (fun d => nI (P ^ d)) co al tr to fa se qu sp) (jI (fun r w => r = bi (inr x (P ^ N)) ∧ w = (wA Y ad p (nI N) ru nw tg mc me (fun d => nI (P ^ d)) co al tr to fa se qu sp))) := by
  refine j_enter (by decide) (Nat.le_of_ble_eq_true rfl) (fun v hv => by simp only [List.mem_cons, List.not_mem_nil, or_false] at hv; rcases hv with rfl | rfl <;> rfl) (fun K hl hD hnm C R => ?_)
  subst hl; subst hD
  have C : jC cX0_isNumber RX0 Y rm_X0_isNumber 2 K := C
  have R : jR Y (some .boolean) 0 0 (jI (fun r w => r = bi (inr x (P ^ N)) ∧ w = (wA Y ad p (nI N) ru nw tg mc me (fun d => nI (P ^ d)) co al tr to fa se qu sp))) K := R
  refine j_eq (lo' := [some (.ref (ad 0)), some (.int x)]) rfl rfl rfl ?_
  obtain ⟨hP3, hP5, hN1, hN6⟩ := id hc
  have hq : P ^ N < 2 ^ 31 := by have := cfg_pw hc hN6; omega
  refine j_iload_n C dX0_isNumber_0 rfl ?_
  refine j_if_lt C 21 dX0_isNumber_1 (by decide) (fun c_1 => ?_) (fun c_1 => ?_)
  · refine j_iconst C (nI 0) dX0_isNumber_21 (by decide) ?_
    exact j_retz C R dX0_isNumber_22 rfl ⟨bi_f (inr_f1 c_1), rfl⟩
  · refine j_iload_n C dX0_isNumber_4 rfl ?_
    refine j_aload_n C dX0_isNumber_5 rfl ?_
    refine g0_weight C dX0_isNumber_6 ?_
    refine j_aload_n C dX0_isNumber_9 rfl ?_
    refine g0_diskCount C dX0_isNumber_10 ?_
    refine l0_we C _ rfl (by omega) dX0_isNumber_13 ?_
    refine j_icmp_ge C 21 dX0_isNumber_14 (by decide) (fun c_14 => ?_) (fun c_14 => ?_)
    · refine j_iconst C (nI 0) dX0_isNumber_21 (by decide) ?_
      exact j_retz C R dX0_isNumber_22 rfl ⟨bi_f (inr_f2 hq c_14), rfl⟩
    · refine j_iconst C (nI 1) dX0_isNumber_17 (by decide) ?_
      refine j_goto C 22 dX0_isNumber_18 (by decide) ?_
      exact j_retz C R dX0_isNumber_22 rfl ⟨bi_t (inr_t hq c_1 c_14), rfl⟩
abbrev rm_X0_pairOf : Room := { frames := 0, cells := 0, slots := 0, locals := 0 }
set_option maxHeartbeats 4000000 in
set_option maxRecDepth 100000 in
theorem ct_X0_pairOf {l : Launch} {D : va_G} {Y : jy_T} {ad : Nat → Nat} {ws : va_W} {f t : Nat} :
    MJ l yX0_pairOf cX0_pairOf 2 (some .int) rm_X0_pairOf D Y [.int (nI f), .int (nI t)] ws (jI (fun r w => r = nI (f * 5 + t) ∧ w = ws)) := by
  refine j_enter (by decide) (Nat.le_of_ble_eq_true rfl) (fun v hv => by simp only [List.mem_cons, List.not_mem_nil, or_false] at hv; rcases hv with rfl | rfl <;> rfl) (fun K hl hD hnm C R => ?_)
  subst hl; subst hD
  have C : jC cX0_pairOf RX0 Y rm_X0_pairOf 2 K := C
  have R : jR Y (some .int) 0 0 (jI (fun r w => r = nI (f * 5 + t) ∧ w = ws)) K := R
  refine j_eq (lo' := [some (.int (nI f)), some (.int (nI t))]) rfl rfl rfl ?_
  refine j_iload_n C dX0_pairOf_0 rfl ?_
  refine j_iconst C (nI 5) dX0_pairOf_1 (by decide) ?_
  refine j_imul C dX0_pairOf_2 ?_
  refine j_top _ _ (pk_mul _ _) ?_
  refine j_iload_n C dX0_pairOf_3 rfl ?_
  refine j_iadd C dX0_pairOf_4 ?_
  refine j_top _ _ (nI_add _ _) ?_
  exact j_reti C R dX0_pairOf_5 ⟨rfl, rfl⟩
abbrev rm_X0_pegIn : Room := { frames := 0, cells := 0, slots := 0, locals := 0 }
set_option maxHeartbeats 4000000 in
set_option maxRecDepth 100000 in
theorem ct_X0_pegIn {l : Launch} {D : va_G} {Y : jy_T} {ad : Nat → Nat} {P N a d : Nat} {n ru nw tg mc me : Int32} {co al tr to fa se qu sp : Nat → Int32} (hc : cfg P N) (ha : a < 2 ^ 31) (hd : d < 7) :
    MJ l yX0_pegIn cX0_pegIn 4 (some .int) rm_X0_pegIn D Y [.ref (ad 0), .int (nI a), .int (nI d)] (wA Y ad (nI P) n ru nw tg mc me (fun d => nI (P ^ d)) co al tr to fa se qu sp) (jI (fun r w => r = nI (dg P a d) ∧ w = (wA Y ad (nI P) n ru nw tg mc me (fun d => nI (P ^ d)) co al tr to fa se qu sp))) := by
  refine j_enter (by decide) (Nat.le_of_ble_eq_true rfl) (fun v hv => by simp only [List.mem_cons, List.not_mem_nil, or_false] at hv; rcases hv with rfl | rfl | rfl <;> rfl) (fun K hl hD hnm C R => ?_)
  subst hl; subst hD
  have C : jC cX0_pegIn RX0 Y rm_X0_pegIn 4 K := C
  have R : jR Y (some .int) 0 0 (jI (fun r w => r = nI (dg P a d) ∧ w = (wA Y ad (nI P) n ru nw tg mc me (fun d => nI (P ^ d)) co al tr to fa se qu sp))) K := R
  refine j_eq (lo' := [some (.ref (ad 0)), some (.int (nI a)), some (.int (nI d)), none]) rfl rfl rfl ?_
  obtain ⟨hP3, hP5, hN1, hN6⟩ := id hc
  have hp1 : 0 < P ^ d := cfg_pos hc
  have hp2 : P ^ d ≤ 15625 := cfg_pw hc (by omega)
  refine j_aload_n C dX0_pegIn_0 rfl ?_
  refine g0_weight C dX0_pegIn_1 ?_
  refine j_iload_n C dX0_pegIn_4 rfl ?_
  refine l0_we C _ rfl (by omega) dX0_pegIn_5 ?_
  refine j_istore_3 C dX0_pegIn_6 (by decide) ?_
  refine j_iload_n C dX0_pegIn_7 rfl ?_
  refine j_iconst C (nI 1) dX0_pegIn_8 (by decide) ?_
  refine jN_icmp_lt C 20 (by omega) (by omega) dX0_pegIn_9 (by decide) (fun c_9 => ?_) (fun c_9 => ?_)
  · exact absurd c_9 (by omega)
  · refine j_aload_n C dX0_pegIn_12 rfl ?_
    refine g0_pegCount C dX0_pegIn_13 ?_
    refine j_iconst C (nI 1) dX0_pegIn_16 (by decide) ?_
    refine jN_icmp_ge C 22 (by omega) (by omega) dX0_pegIn_17 (by decide) (fun c_17 => ?_) (fun c_17 => ?_)
    · refine j_iload_n C dX0_pegIn_22 rfl ?_
      refine j_iload_n C dX0_pegIn_23 rfl ?_
      refine j_idiv C dX0_pegIn_24 (nI_ne0 hp1 (by omega)) ?_
      refine j_aload_n C dX0_pegIn_25 rfl ?_
      refine g0_pegCount C dX0_pegIn_26 ?_
      refine j_irem C dX0_pegIn_29 (nI_ne0 (by omega) (by omega)) ?_
      refine j_top _ _ (dg_pegIn (by omega) (by omega) (by omega) (by omega)) ?_
      exact j_reti C R dX0_pegIn_30 ⟨rfl, rfl⟩
    · exact absurd c_17 (by omega)
abbrev rm_X0_diskBelow : Room := { frames := 1, cells := 0, slots := 0, locals := 23 }
set_option maxHeartbeats 4000000 in
set_option maxRecDepth 100000 in
theorem ct_X0_diskBelow {l : Launch} {D : va_G} {Y : jy_T} {ad : Nat → Nat} {P N a d : Nat} {ru nw tg mc me : Int32} {co al tr to fa se qu sp : Nat → Int32} (hc : cfg P N) (ha : a < 2 ^ 31) (hd : d < N) :
    MJ l yX0_diskBelow cX0_diskBelow 5 (some .int) rm_X0_diskBelow D Y [.ref (ad 0), .int (nI a), .int (nI d)] (wA Y ad (nI P) (nI N) ru nw tg mc me (fun d => nI (P ^ d)) co al tr to fa se qu sp) (jI (fun r w => r = oI (frm (dg P a) (dg P a d) (d + 1) N) ∧ w = (wA Y ad (nI P) (nI N) ru nw tg mc me (fun d => nI (P ^ d)) co al tr to fa se qu sp))) := by
  refine j_enter (by decide) (Nat.le_of_ble_eq_true rfl) (fun v hv => by simp only [List.mem_cons, List.not_mem_nil, or_false] at hv; rcases hv with rfl | rfl | rfl <;> rfl) (fun K hl hD hnm C R => ?_)
  subst hl; subst hD
  have C : jC cX0_diskBelow RX0 Y rm_X0_diskBelow 5 K := C
  have R : jR Y (some .int) 0 0 (jI (fun r w => r = oI (frm (dg P a) (dg P a d) (d + 1) N) ∧ w = (wA Y ad (nI P) (nI N) ru nw tg mc me (fun d => nI (P ^ d)) co al tr to fa se qu sp))) K := R
  refine j_eq (lo' := [some (.ref (ad 0)), some (.int (nI a)), some (.int (nI d)), none, none]) rfl rfl rfl ?_
  obtain ⟨hP3, hP5, hN1, hN6⟩ := id hc
  have hP0 : 0 < P := by omega
  have hL : ∀ (m i : Nat), N < i + m → i ≤ N → frm (dg P a) (dg P a d) (d + 1) N = frm (dg P a) (dg P a d) i N → jJ K 0 0 12 [some (.ref (ad 0)), some (.int (nI a)), some (.int (nI d)), some (.int (nI (dg P a d))), some (.int (nI i))] [] (wA Y ad (nI P) (nI N) ru nw tg mc me (fun d => nI (P ^ d)) co al tr to fa se qu sp) := by
    intro m
    induction m with
    | zero => intro i h1 h2; omega
    | succ m ih =>
      intro i h1 h2 he
      refine j_iload C dX0_diskBelow_12 rfl ?_
      refine j_aload_n C dX0_diskBelow_14 rfl ?_
      refine g0_diskCount C dX0_diskBelow_15 ?_
      refine jN_icmp_ge C 41 (by omega) (by omega) dX0_diskBelow_18 (by decide) (fun c_18 => ?_) (fun c_18 => ?_)
      · refine j_iconst C (-1) dX0_diskBelow_41 (by decide) ?_
        exact j_reti C R dX0_diskBelow_42 ⟨by rw [he, frm_end c_18]; rfl, rfl⟩
      · refine j_aload_n C dX0_diskBelow_21 rfl ?_
        refine j_iload_n C dX0_diskBelow_22 rfl ?_
        refine j_iload C dX0_diskBelow_23 rfl ?_
        refine j_callV2i C (ct_X0_pegIn hc (by omega) (by omega)) gw_0_80 nd_X0_pegIn 0 0 rfl rfl rfl ⟨by decide, by decide⟩ ⟨Nat.le_of_ble_eq_true rfl, Nat.le_of_ble_eq_true rfl⟩ (Nat.le_of_ble_eq_true rfl) dX0_diskBelow_25 (fun x_1 w_1 hp => ?_)
        obtain ⟨rfl, rfl⟩ := hp
        have hl1 := dg_lt (a := a) (d := i) hP0; have hl2 := dg_lt (a := a) (d := d) hP0
        refine j_iload_n C dX0_diskBelow_28 rfl ?_
        refine jN_icmp_ne C 35 (by omega) (by omega) dX0_diskBelow_29 (by decide) (fun c_29 => ?_) (fun c_29 => ?_)
        · refine j_iinc_4 C _ (nI_p1 _) dX0_diskBelow_35 ?_
          refine j_goto C 12 dX0_diskBelow_38 (by decide) ?_
          exact ih (i + 1) (by omega) (by omega) (by rw [he, frm_step c_18 c_29])
        · refine j_iload C dX0_diskBelow_32 rfl ?_
          exact j_reti C R dX0_diskBelow_34 ⟨by rw [he, frm_hit c_18 c_29]; rfl, rfl⟩
  refine j_aload_n C dX0_diskBelow_0 rfl ?_
  refine j_iload_n C dX0_diskBelow_1 rfl ?_
  refine j_iload_n C dX0_diskBelow_2 rfl ?_
  refine j_callV2i C (ct_X0_pegIn hc (by omega) (by omega)) gw_0_80 nd_X0_pegIn 0 0 rfl rfl rfl ⟨by decide, by decide⟩ ⟨Nat.le_of_ble_eq_true rfl, Nat.le_of_ble_eq_true rfl⟩ (Nat.le_of_ble_eq_true rfl) dX0_diskBelow_3 (fun x_1 w_1 hp => ?_)
  obtain ⟨rfl, rfl⟩ := hp
  refine j_istore_3 C dX0_diskBelow_6 (by decide) ?_
  refine j_iload_n C dX0_diskBelow_7 rfl ?_
  refine j_iconst C (nI 1) dX0_diskBelow_8 (by decide) ?_
  refine j_iadd C dX0_diskBelow_9 ?_
  refine j_top _ _ (nI_add _ _) ?_
  refine j_istore_4 C dX0_diskBelow_10 (by decide) ?_
  exact hL (N + 1) (d + 1) (by omega) (by omega) rfl
abbrev rm_X0_mayLieOn : Room := { frames := 0, cells := 0, slots := 0, locals := 0 }
set_option maxHeartbeats 4000000 in
set_option maxRecDepth 100000 in
theorem ct_X0_mayLieOn {l : Launch} {D : va_G} {Y : jy_T} {ad : Nat → Nat} {ru : Bool} {cb : Nat → Bool} {d : Nat} {ob : Option Nat} {p n nw tg mc me : Int32} {we al tr to fa se qu sp : Nat → Int32} (hd : d < 6) (ho : ∀ j, ob = some j → j < 6) :
    MJ l yX0_mayLieOn cX0_mayLieOn 3 (some .boolean) rm_X0_mayLieOn D Y [.ref (ad 0), .int (nI d), .int (oI ob)] (wA Y ad p n (bi ru) nw tg mc me we (fun d => bi (cb d)) al tr to fa se qu sp) (jI (fun r w => r = bi (mlo ru cb d ob) ∧ w = (wA Y ad p n (bi ru) nw tg mc me we (fun d => bi (cb d)) al tr to fa se qu sp))) := by
  refine j_enter (by decide) (Nat.le_of_ble_eq_true rfl) (fun v hv => by simp only [List.mem_cons, List.not_mem_nil, or_false] at hv; rcases hv with rfl | rfl | rfl <;> rfl) (fun K hl hD hnm C R => ?_)
  subst hl; subst hD
  have C : jC cX0_mayLieOn RX0 Y rm_X0_mayLieOn 3 K := C
  have R : jR Y (some .boolean) 0 0 (jI (fun r w => r = bi (mlo ru cb d ob) ∧ w = (wA Y ad p n (bi ru) nw tg mc me we (fun d => bi (cb d)) al tr to fa se qu sp))) K := R
  refine j_eq (lo' := [some (.ref (ad 0)), some (.int (nI d)), some (.int (oI ob))]) rfl rfl rfl ?_
  refine j_aload_n C dX0_mayLieOn_0 rfl ?_
  refine g0_ruleOn C dX0_mayLieOn_1 ?_
  refine jB_if_eq C 27 dX0_mayLieOn_4 (by decide) (fun c_4 => ?_) (fun c_4 => ?_)
  · refine j_iconst C (nI 1) dX0_mayLieOn_27 (by decide) ?_
    refine j_goto C 32 dX0_mayLieOn_28 (by decide) ?_
    exact j_retz C R dX0_mayLieOn_32 rfl ⟨bi_t (by rw [c_4]; rfl), rfl⟩
  · refine j_iload_n C dX0_mayLieOn_7 rfl ?_
    refine j_iconst C (-1) dX0_mayLieOn_8 (by decide) ?_
    refine j_icmp_eq C 27 dX0_mayLieOn_9 (by decide) (fun c_9 => ?_) (fun c_9 => ?_)
    · refine j_iconst C (nI 1) dX0_mayLieOn_27 (by decide) ?_
      refine j_goto C 32 dX0_mayLieOn_28 (by decide) ?_
      exact j_retz C R dX0_mayLieOn_32 rfl ⟨bi_t (by rw [(oI_m1 (fun j h => by have := ho j h; omega)).mp c_9]; unfold mlo; simp), rfl⟩
    · rcases ob with _ | j
      · exact absurd rfl c_9
      refine j_aload_n C dX0_mayLieOn_12 rfl ?_
      refine g0_colour C dX0_mayLieOn_13 ?_
      refine j_iload_n C dX0_mayLieOn_16 rfl ?_
      refine l0_co C _ rfl (by omega) dX0_mayLieOn_17 ?_
      refine j_aload_n C dX0_mayLieOn_18 rfl ?_
      refine g0_colour C dX0_mayLieOn_19 ?_
      refine j_iload_n C dX0_mayLieOn_22 rfl ?_
      refine l0_co C j rfl (ho j rfl) dX0_mayLieOn_23 ?_
      refine j_icmp_eq C 31 dX0_mayLieOn_24 (by decide) (fun c_24 => ?_) (fun c_24 => ?_)
      · refine j_iconst C (nI 0) dX0_mayLieOn_31 (by decide) ?_
        exact j_retz C R dX0_mayLieOn_32 rfl ⟨bi_f (by have h := bi_inj.mp c_24; unfold mlo; simp [c_4, h]), rfl⟩
      · refine j_iconst C (nI 1) dX0_mayLieOn_27 (by decide) ?_
        refine j_goto C 32 dX0_mayLieOn_28 (by decide) ?_
        exact j_retz C R dX0_mayLieOn_32 rfl ⟨bi_t (by have h : ¬ cb d = cb j := fun q => c_24 (bi_inj.mpr q); unfold mlo; simp [h]), rfl⟩
abbrev rm_X0_keepsRule : Room := { frames := 2, cells := 0, slots := 0, locals := 47 }
set_option maxHeartbeats 4000000 in
set_option maxRecDepth 100000 in
theorem ct_X0_keepsRule {l : Launch} {D : va_G} {Y : jy_T} {ad : Nat → Nat} {P N a : Nat} {ru : Bool} {cb : Nat → Bool} {nw tg mc me : Int32} {al tr to fa se qu sp : Nat → Int32} (hc : cfg P N) (ha : a < 2 ^ 31) :
    MJ l yX0_keepsRule cX0_keepsRule 3 (some .boolean) rm_X0_keepsRule D Y [.ref (ad 0), .int (nI a)] (wA Y ad (nI P) (nI N) (bi ru) nw tg mc me (fun d => nI (P ^ d)) (fun d => bi (cb d)) al tr to fa se qu sp) (jI (fun r w => r = bi (lawB P N ru cb a) ∧ w = (wA Y ad (nI P) (nI N) (bi ru) nw tg mc me (fun d => nI (P ^ d)) (fun d => bi (cb d)) al tr to fa se qu sp))) := by
  refine j_enter (by decide) (Nat.le_of_ble_eq_true rfl) (fun v hv => by simp only [List.mem_cons, List.not_mem_nil, or_false] at hv; rcases hv with rfl | rfl <;> rfl) (fun K hl hD hnm C R => ?_)
  subst hl; subst hD
  have C : jC cX0_keepsRule RX0 Y rm_X0_keepsRule 3 K := C
  have R : jR Y (some .boolean) 0 0 (jI (fun r w => r = bi (lawB P N ru cb a) ∧ w = (wA Y ad (nI P) (nI N) (bi ru) nw tg mc me (fun d => nI (P ^ d)) (fun d => bi (cb d)) al tr to fa se qu sp))) K := R
  refine j_eq (lo' := [some (.ref (ad 0)), some (.int (nI a)), none]) rfl rfl rfl ?_
  obtain ⟨hP3, hP5, hN1, hN6⟩ := id hc
  have hL : ∀ (m i : Nat), N < i + m → i ≤ N → alB (fun d => mlo ru cb d (frm (dg P a) (dg P a d) (d + 1) N)) 0 N = alB (fun d => mlo ru cb d (frm (dg P a) (dg P a d) (d + 1) N)) i N → jJ K 0 0 2 [some (.ref (ad 0)), some (.int (nI a)), some (.int (nI i))] [] (wA Y ad (nI P) (nI N) (bi ru) nw tg mc me (fun d => nI (P ^ d)) (fun d => bi (cb d)) al tr to fa se qu sp) := by
    intro m
    induction m with
    | zero => intro i h1 h2; omega
    | succ m ih =>
      intro i h1 h2 he
      refine j_iload_n C dX0_keepsRule_2 rfl ?_
      refine j_aload_n C dX0_keepsRule_3 rfl ?_
      refine g0_diskCount C dX0_keepsRule_4 ?_
      refine jN_icmp_ge C 32 (by omega) (by omega) dX0_keepsRule_7 (by decide) (fun c_7 => ?_) (fun c_7 => ?_)
      · refine j_iconst C (nI 1) dX0_keepsRule_32 (by decide) ?_
        exact j_retz C R dX0_keepsRule_33 rfl ⟨bi_t (by show alB _ 0 N = true; rw [he, alB_end c_7]), rfl⟩
      · refine j_aload_n C dX0_keepsRule_10 rfl ?_
        refine j_iload_n C dX0_keepsRule_11 rfl ?_
        refine j_aload_n C dX0_keepsRule_12 rfl ?_
        refine j_iload_n C dX0_keepsRule_13 rfl ?_
        refine j_iload_n C dX0_keepsRule_14 rfl ?_
        refine j_callV2i C (ct_X0_diskBelow hc (by omega) (by omega)) gw_0_159 nd_X0_diskBelow 0 0 rfl rfl rfl ⟨by decide, by decide⟩ ⟨Nat.le_of_ble_eq_true rfl, Nat.le_of_ble_eq_true rfl⟩ (Nat.le_of_ble_eq_true rfl) dX0_keepsRule_15 (fun x_1 w_1 hp => ?_)
        obtain ⟨rfl, rfl⟩ := hp
        refine j_callV2i C (ct_X0_mayLieOn (by omega) (fun j h => by have := (frm_some h).2.1; omega)) gw_0_162 nd_X0_mayLieOn 0 0 rfl rfl rfl ⟨by decide, by decide⟩ ⟨Nat.le_of_ble_eq_true rfl, Nat.le_of_ble_eq_true rfl⟩ (Nat.le_of_ble_eq_true rfl) dX0_keepsRule_18 (fun x_1 w_1 hp => ?_)
        obtain ⟨rfl, rfl⟩ := hp
        refine jB_if_ne C 26 dX0_keepsRule_21 (by decide) (fun c_21 => ?_) (fun c_21 => ?_)
        · refine j_iinc_2 C _ (nI_p1 _) dX0_keepsRule_26 ?_
          refine j_goto C 2 dX0_keepsRule_29 (by decide) ?_
          exact ih (i + 1) (by omega) (by omega) (by rw [he, alB_step c_7, c_21, Bool.true_and])
        · refine j_iconst C (nI 0) dX0_keepsRule_24 (by decide) ?_
          exact j_retz C R dX0_keepsRule_25 rfl ⟨bi_f (by show alB _ 0 N = false; rw [he, alB_step c_7, c_21, Bool.false_and]), rfl⟩
  refine j_iconst C (nI 0) dX0_keepsRule_0 (by decide) ?_
  refine j_istore_2 C dX0_keepsRule_1 (by decide) ?_
  exact hL (N + 1) 0 (by omega) (by omega) rfl
end
section
abbrev rm_X0_isAnyBarred : Room := { frames := 0, cells := 0, slots := 0, locals := 0 }
set_option maxHeartbeats 4000000 in
set_option maxRecDepth 100000 in
theorem ct_X0_isAnyBarred {l : Launch} {D : va_G} {Y : jy_T} {ad : Nat → Nat} {al : Nat → Bool} {p n ru nw tg mc me : Int32} {we co tr to fa se qu sp : Nat → Int32} :
    MJ l yX0_isAnyBarred cX0_isAnyBarred 2 (some .boolean) rm_X0_isAnyBarred D Y [.ref (ad 0)] (wA Y ad p n ru nw tg mc me we co (fun k => bi (al k)) tr to fa se qu sp) (jI (fun r w => r = bi (!alB al 0 25) ∧ w = (wA Y ad p n ru nw tg mc me we co (fun k => bi (al k)) tr to fa se qu sp))) := by
  refine j_enter (by decide) (Nat.le_of_ble_eq_true rfl) (fun v hv => by rw [List.mem_singleton.mp hv]; rfl) (fun K hl hD hnm C R => ?_)
  subst hl; subst hD
  have C : jC cX0_isAnyBarred RX0 Y rm_X0_isAnyBarred 2 K := C
  have R : jR Y (some .boolean) 0 0 (jI (fun r w => r = bi (!alB al 0 25) ∧ w = (wA Y ad p n ru nw tg mc me we co (fun k => bi (al k)) tr to fa se qu sp))) K := R
  refine j_eq (lo' := [some (.ref (ad 0)), none]) rfl rfl rfl ?_
  have hL : ∀ (m i : Nat), 25 < i + m → i ≤ 25 → alB al 0 25 = alB al i 25 → jJ K 0 0 2 [some (.ref (ad 0)), some (.int (nI i))] [] (wA Y ad p n ru nw tg mc me we co (fun k => bi (al k)) tr to fa se qu sp) := by
    intro m
    induction m with
    | zero => intro i h1 h2; omega
    | succ m ih =>
      intro i h1 h2 he
      refine j_iload_n C dX0_isAnyBarred_2 rfl ?_
      refine j_aload_n C dX0_isAnyBarred_3 rfl ?_
      refine g0_allowed C dX0_isAnyBarred_4 ?_
      refine n0_al C dX0_isAnyBarred_7 ?_
      refine jN_icmp_ge C 28 (by omega) (by omega) dX0_isAnyBarred_8 (by decide) (fun c_8 => ?_) (fun c_8 => ?_)
      · refine j_iconst C (nI 0) dX0_isAnyBarred_28 (by decide) ?_
        exact j_retz C R dX0_isAnyBarred_29 rfl ⟨bi_f (by rw [he, alB_end c_8]; rfl), rfl⟩
      · refine j_aload_n C dX0_isAnyBarred_11 rfl ?_
        refine g0_allowed C dX0_isAnyBarred_12 ?_
        refine j_iload_n C dX0_isAnyBarred_15 rfl ?_
        refine l0_al C _ rfl (by omega) dX0_isAnyBarred_16 ?_
        refine jB_if_ne C 22 dX0_isAnyBarred_17 (by decide) (fun c_17 => ?_) (fun c_17 => ?_)
        · refine j_iinc_1 C _ (nI_p1 _) dX0_isAnyBarred_22 ?_
          refine j_goto C 2 dX0_isAnyBarred_25 (by decide) ?_
          exact ih (i + 1) (by omega) (by omega) (by rw [he, alB_step c_8, c_17, Bool.true_and])
        · refine j_iconst C (nI 1) dX0_isAnyBarred_20 (by decide) ?_
          exact j_retz C R dX0_isAnyBarred_21 rfl ⟨bi_t (by rw [he, alB_step c_8, c_17]; rfl), rfl⟩
  refine j_iconst C (nI 0) dX0_isAnyBarred_0 (by decide) ?_
  refine j_istore_1 C dX0_isAnyBarred_1 (by decide) ?_
  exact hL 26 0 (by omega) (by omega) rfl
abbrev rm_X0_readTops : Room := { frames := 1, cells := 0, slots := 0, locals := 23 }
set_option maxHeartbeats 4000000 in
set_option maxRecDepth 100000 in
theorem ct_X0_readTops {l : Launch} {D : va_G} {Y : jy_T} {ad : Nat → Nat} {P N a : Nat} {ru nw tg mc me : Int32} {co al tr to fa se qu sp : Nat → Int32} (hc : cfg P N) (ha : a < 2 ^ 31) :
    MJ l yX0_readTops cX0_readTops 4 none rm_X0_readTops D Y [.ref (ad 0), .int (nI a)] (wA Y ad (nI P) (nI N) ru nw tg mc me (fun d => nI (P ^ d)) co al tr to fa se qu sp) (jV (fun w => ∃ to1, tpOf P N a to1 ∧ w = (wA Y ad (nI P) (nI N) ru nw tg mc me (fun d => nI (P ^ d)) co al tr to1 fa se qu sp))) := by
  refine j_enter (by decide) (Nat.le_of_ble_eq_true rfl) (fun v hv => by simp only [List.mem_cons, List.not_mem_nil, or_false] at hv; rcases hv with rfl | rfl <;> rfl) (fun K hl hD hnm C R => ?_)
  subst hl; subst hD
  have C : jC cX0_readTops RX0 Y rm_X0_readTops 4 K := C
  have R : jR Y none 0 0 (jV (fun w => ∃ to1, tpOf P N a to1 ∧ w = (wA Y ad (nI P) (nI N) ru nw tg mc me (fun d => nI (P ^ d)) co al tr to1 fa se qu sp))) K := R
  refine j_eq (lo' := [some (.ref (ad 0)), some (.int (nI a)), none, none]) rfl rfl rfl ?_
  obtain ⟨hP3, hP5, hN1, hN6⟩ := id hc
  have hP0 : 0 < P := by omega
  have hL2 : ∀ (i : Nat) (to1 : Nat → Int32) (l3 : Option Value), i ≤ N → (∀ g, g < 5 → to1 g = oI (frm (dg P a) g i N)) → jJ K 0 0 31 [some (.ref (ad 0)), some (.int (nI a)), some (.int (nI i - nI 1)), l3] [] (wA Y ad (nI P) (nI N) ru nw tg mc me (fun d => nI (P ^ d)) co al tr to1 fa se qu sp) := by
    intro i
    induction i with
    | zero =>
      intro to1 l3 h1 hi
      refine j_iload_n C dX0_readTops_31 rfl ?_
      refine j_if_lt C 63 dX0_readTops_32 (by decide) (fun c_32 => ?_) (fun c_32 => ?_)
      · exact j_retv C R dX0_readTops_63 ⟨to1, hi, rfl⟩
      · exact absurd (by decide) c_32
    | succ j ih =>
      intro to1 l3 h1 hi
      refine j_eq (lo' := [some (.ref (ad 0)), some (.int (nI a)), some (.int (nI j)), l3]) (by rw [nI_pr]) rfl rfl ?_
      refine j_iload_n C dX0_readTops_31 rfl ?_
      refine j_if_lt C 63 dX0_readTops_32 (by decide) (fun c_32 => ?_) (fun c_32 => ?_)
      · exact absurd c_32 (nI_nlt0 (by omega))
      · refine j_aload_n C dX0_readTops_35 rfl ?_
        refine j_iload_n C dX0_readTops_36 rfl ?_
        refine j_iload_n C dX0_readTops_37 rfl ?_
        refine j_callV2i C (ct_X0_pegIn hc (by omega) (by omega)) gw_0_80 nd_X0_pegIn 0 0 rfl rfl rfl ⟨by decide, by decide⟩ ⟨Nat.le_of_ble_eq_true rfl, Nat.le_of_ble_eq_true rfl⟩ (Nat.le_of_ble_eq_true rfl) dX0_readTops_38 (fun x_1 w_1 hp => ?_)
        obtain ⟨rfl, rfl⟩ := hp
        refine j_istore_3 C dX0_readTops_41 (by decide) ?_
        refine j_aload_n C dX0_readTops_42 rfl ?_
        refine j_iload_n C dX0_readTops_43 rfl ?_
        refine j_callV1i C (ct_X0_isPeg (by omega)) gw_0_61 nd_X0_isPeg 0 0 rfl rfl rfl ⟨by decide, by decide⟩ ⟨Nat.le_of_ble_eq_true rfl, Nat.le_of_ble_eq_true rfl⟩ (Nat.le_of_ble_eq_true rfl) dX0_readTops_44 (fun x_1 w_1 hp => ?_)
        obtain ⟨rfl, rfl⟩ := hp
        refine jB_if_eq C 57 dX0_readTops_47 (by decide) (fun c_47 => ?_) (fun c_47 => ?_)
        · exact absurd (inr_lt (dg_lt hP0) (by omega)) (by rw [c_47]; decide)
        · have hl1 := dg_lt (a := a) (d := j) hP0
          refine j_aload_n C dX0_readTops_50 rfl ?_
          refine g0_tops C dX0_readTops_51 ?_
          refine j_iload_n C dX0_readTops_54 rfl ?_
          refine j_iload_n C dX0_readTops_55 rfl ?_
          refine s0_to C _ rfl (by omega) dX0_readTops_56 ?_
          refine j_iinc_2 C _ (nI_m1 _) dX0_readTops_57 ?_
          refine j_goto C 31 dX0_readTops_60 (by decide) ?_
          exact ih (upd to1 (dg P a j) (nI j)) _ (by omega) (fun g hg => by
            by_cases e : g = dg P a j
            · rw [e, pk_us, frm_hit (by omega) rfl]; rfl
            · rw [pk_un e, frm_step (by omega) (fun q => e q.symm)]; exact hi g hg)
  have hL : ∀ (m i : Nat) (to1 : Nat → Int32), 5 < i + m → i ≤ 5 → (∀ g, g < i → to1 g = -1) → jJ K 0 0 2 [some (.ref (ad 0)), some (.int (nI a)), some (.int (nI i)), none] [] (wA Y ad (nI P) (nI N) ru nw tg mc me (fun d => nI (P ^ d)) co al tr to1 fa se qu sp) := by
    intro m
    induction m with
    | zero => intro i to1 h1 h2; omega
    | succ m ih =>
      intro i to1 h1 h2 hi
      refine j_iload_n C dX0_readTops_2 rfl ?_
      refine j_aload_n C dX0_readTops_3 rfl ?_
      refine g0_tops C dX0_readTops_4 ?_
      refine n0_to C dX0_readTops_7 ?_
      refine jN_icmp_ge C 24 (by omega) (by omega) dX0_readTops_8 (by decide) (fun c_8 => ?_) (fun c_8 => ?_)
      · refine j_aload_n C dX0_readTops_24 rfl ?_
        refine g0_diskCount C dX0_readTops_25 ?_
        refine j_iconst C (nI 1) dX0_readTops_28 (by decide) ?_
        refine j_isub C dX0_readTops_29 ?_
        refine j_top _ (nI N - nI 1) rfl ?_
        refine j_istore_2 C dX0_readTops_30 (by decide) ?_
        exact hL2 N to1 _ (Nat.le_refl _) (fun g hg => by rw [frm_end (Nat.le_refl _), hi g (by omega)]; rfl)
      · refine j_aload_n C dX0_readTops_11 rfl ?_
        refine g0_tops C dX0_readTops_12 ?_
        refine j_iload_n C dX0_readTops_15 rfl ?_
        refine j_iconst C (-1) dX0_readTops_16 (by decide) ?_
        refine s0_to C _ rfl (by omega) dX0_readTops_17 ?_
        refine j_iinc_2 C _ (nI_p1 _) dX0_readTops_18 ?_
        refine j_goto C 2 dX0_readTops_21 (by decide) ?_
        exact ih (i + 1) (upd to1 i (-1)) (by omega) (by omega) (fun g hg => by
          by_cases e : g = i
          · rw [e, pk_us]
          · rw [pk_un e]; exact hi g (by omega))
  refine j_iconst C (nI 0) dX0_readTops_0 (by decide) ?_
  refine j_istore_2 C dX0_readTops_1 (by decide) ?_
  exact hL 6 0 to (by omega) (by omega) (fun g hg => by omega)
abbrev rm_X0_fits : Room := { frames := 0, cells := 0, slots := 0, locals := 0 }
set_option maxHeartbeats 4000000 in
set_option maxRecDepth 100000 in
theorem ct_X0_fits {l : Launch} {D : va_G} {Y : jy_T} {ad : Nat → Nat} {f t : Nat} {o1 o2 : Option Nat} {p n ru nw tg mc me : Int32} {we co al tr to fa se qu sp : Nat → Int32} (hf : f < 5) (ht : t < 5) (h1 : to f = oI o1) (h2 : to t = oI o2) (hb1 : ∀ j, o1 = some j → j < 6) (hb2 : ∀ j, o2 = some j → j < 6) :
    MJ l yX0_fits cX0_fits 5 (some .boolean) rm_X0_fits D Y [.ref (ad 0), .int (nI f), .int (nI t)] (wA Y ad p n ru nw tg mc me we co al tr to fa se qu sp) (jI (fun r w => r = bi (ftB f t o1 o2) ∧ w = (wA Y ad p n ru nw tg mc me we co al tr to fa se qu sp))) := by
  refine j_enter (by decide) (Nat.le_of_ble_eq_true rfl) (fun v hv => by simp only [List.mem_cons, List.not_mem_nil, or_false] at hv; rcases hv with rfl | rfl | rfl <;> rfl) (fun K hl hD hnm C R => ?_)
  subst hl; subst hD
  have C : jC cX0_fits RX0 Y rm_X0_fits 5 K := C
  have R : jR Y (some .boolean) 0 0 (jI (fun r w => r = bi (ftB f t o1 o2) ∧ w = (wA Y ad p n ru nw tg mc me we co al tr to fa se qu sp))) K := R
  refine j_eq (lo' := [some (.ref (ad 0)), some (.int (nI f)), some (.int (nI t)), none, none]) rfl rfl rfl ?_
  refine j_aload_n C dX0_fits_0 rfl ?_
  refine g0_tops C dX0_fits_1 ?_
  refine j_iload_n C dX0_fits_4 rfl ?_
  refine l0_to C _ rfl (by omega) dX0_fits_5 ?_
  refine j_top _ (oI o1) h1 ?_
  refine j_istore_3 C dX0_fits_6 (by decide) ?_
  refine j_aload_n C dX0_fits_7 rfl ?_
  refine g0_tops C dX0_fits_8 ?_
  refine j_iload_n C dX0_fits_11 rfl ?_
  refine l0_to C _ rfl (by omega) dX0_fits_12 ?_
  refine j_top _ (oI o2) h2 ?_
  refine j_istore_4 C dX0_fits_13 (by decide) ?_
  refine j_iload_n C dX0_fits_15 rfl ?_
  refine j_iload_n C dX0_fits_16 rfl ?_
  refine jN_icmp_eq C 41 (by omega) (by omega) dX0_fits_17 (by decide) (fun c_17 => ?_) (fun c_17 => ?_)
  · refine j_iconst C (nI 0) dX0_fits_41 (by decide) ?_
    exact j_retz C R dX0_fits_42 rfl ⟨bi_f (by rw [c_17]; unfold ftB; simp), rfl⟩
  · refine j_iload_n C dX0_fits_20 rfl ?_
    refine j_iconst C (-1) dX0_fits_21 (by decide) ?_
    refine j_icmp_eq C 41 dX0_fits_22 (by decide) (fun c_22 => ?_) (fun c_22 => ?_)
    · refine j_iconst C (nI 0) dX0_fits_41 (by decide) ?_
      exact j_retz C R dX0_fits_42 rfl ⟨bi_f (by rw [(oI_m1 (fun j h => by have := hb1 j h; omega)).mp c_22]; unfold ftB; simp), rfl⟩
    · rcases o1 with _ | d
      · exact absurd rfl c_22
      refine j_iload C dX0_fits_25 rfl ?_
      refine j_iconst C (-1) dX0_fits_27 (by decide) ?_
      refine j_icmp_eq C 37 dX0_fits_28 (by decide) (fun c_28 => ?_) (fun c_28 => ?_)
      · refine j_iconst C (nI 1) dX0_fits_37 (by decide) ?_
        refine j_goto C 42 dX0_fits_38 (by decide) ?_
        exact j_retz C R dX0_fits_42 rfl ⟨bi_t (by rw [(oI_m1 (fun j h => by have := hb2 j h; omega)).mp c_28]; unfold ftB; simp [c_17]), rfl⟩
      · rcases o2 with _ | e
        · exact absurd rfl c_28
        refine j_iload C dX0_fits_31 rfl ?_
        refine j_iload_n C dX0_fits_33 rfl ?_
        refine j_icmp_le C 41 dX0_fits_34 (by decide) (fun c_34 => ?_) (fun c_34 => ?_)
        · refine j_iconst C (nI 0) dX0_fits_41 (by decide) ?_
          exact j_retz C R dX0_fits_42 rfl ⟨bi_f (by have h := (nI_leI (by have := hb2 e rfl; omega) (by have := hb1 d rfl; omega)).mp c_34; unfold ftB; simp [Nat.not_lt.mpr h]), rfl⟩
        · refine j_iconst C (nI 1) dX0_fits_37 (by decide) ?_
          refine j_goto C 42 dX0_fits_38 (by decide) ?_
          exact j_retz C R dX0_fits_42 rfl ⟨bi_t (by have h : d < e := Nat.lt_of_not_le (fun q => c_34 ((nI_leI (by have := hb2 e rfl; omega) (by have := hb1 d rfl; omega)).mpr q)); unfold ftB; simp [c_17, h]), rfl⟩
abbrev rm_X0_behindMove : Room := { frames := 1, cells := 0, slots := 0, locals := 21 }
set_option maxHeartbeats 4000000 in
set_option maxRecDepth 100000 in
theorem ct_X0_behindMove {l : Launch} {D : va_G} {Y : jy_T} {ad : Nat → Nat} {P N a f t d : Nat} {p ru nw tg mc me : Int32} {co al tr to fa se qu sp : Nat → Int32} (hN : N ≤ 6) (hf : f < 5) (ht : t < 5) (hd : to f = nI d) (hdN : d < N) (hle : f * P ^ d ≤ a) :
    MJ l yX0_behindMove cX0_behindMove 5 (some .int) rm_X0_behindMove D Y [.ref (ad 0), .int (nI a), .int (nI f), .int (nI t)] (wA Y ad p (nI N) ru nw tg mc me (fun d => nI (P ^ d)) co al tr to fa se qu sp) (jI (fun r w => r = nI (a + t * P ^ d - f * P ^ d) ∧ w = (wA Y ad p (nI N) ru nw tg mc me (fun d => nI (P ^ d)) co al tr to fa se qu sp))) := by
  refine j_enter (by decide) (Nat.le_of_ble_eq_true rfl) (fun v hv => by simp only [List.mem_cons, List.not_mem_nil, or_false] at hv; rcases hv with rfl | rfl | rfl | rfl <;> rfl) (fun K hl hD hnm C R => ?_)
  subst hl; subst hD
  have C : jC cX0_behindMove RX0 Y rm_X0_behindMove 5 K := C
  have R : jR Y (some .int) 0 0 (jI (fun r w => r = nI (a + t * P ^ d - f * P ^ d) ∧ w = (wA Y ad p (nI N) ru nw tg mc me (fun d => nI (P ^ d)) co al tr to fa se qu sp))) K := R
  refine j_eq (lo' := [some (.ref (ad 0)), some (.int (nI a)), some (.int (nI f)), some (.int (nI t)), none]) rfl rfl rfl ?_
  refine j_aload_n C dX0_behindMove_0 rfl ?_
  refine g0_tops C dX0_behindMove_1 ?_
  refine j_iload_n C dX0_behindMove_4 rfl ?_
  refine l0_to C _ rfl (by omega) dX0_behindMove_5 ?_
  refine j_top _ (nI d) hd ?_
  refine j_istore_4 C dX0_behindMove_6 (by decide) ?_
  refine j_aload_n C dX0_behindMove_8 rfl ?_
  refine j_iload C dX0_behindMove_9 rfl ?_
  refine j_callV1i C (ct_X0_isDisk (by omega)) gw_0_57 nd_X0_isDisk 0 0 rfl rfl rfl ⟨by decide, by decide⟩ ⟨Nat.le_of_ble_eq_true rfl, Nat.le_of_ble_eq_true rfl⟩ (Nat.le_of_ble_eq_true rfl) dX0_behindMove_11 (fun x_1 w_1 hp => ?_)
  obtain ⟨rfl, rfl⟩ := hp
  refine jB_if_ne C 19 dX0_behindMove_14 (by decide) (fun c_14 => ?_) (fun c_14 => ?_)
  · refine j_iload_n C dX0_behindMove_19 rfl ?_
    refine j_iload_n C dX0_behindMove_20 rfl ?_
    refine j_iload_n C dX0_behindMove_21 rfl ?_
    refine j_isub C dX0_behindMove_22 ?_
    refine j_top _ (nI t - nI f) rfl ?_
    refine j_aload_n C dX0_behindMove_23 rfl ?_
    refine g0_weight C dX0_behindMove_24 ?_
    refine j_iload C dX0_behindMove_27 rfl ?_
    refine l0_we C _ rfl (by omega) dX0_behindMove_29 ?_
    refine j_imul C dX0_behindMove_30 ?_
    refine j_top _ ((nI t - nI f) * nI (P ^ d)) rfl ?_
    refine j_iadd C dX0_behindMove_31 ?_
    refine j_top _ (nI (a + t * P ^ d - f * P ^ d)) (nI_move hle) ?_
    exact j_reti C R dX0_behindMove_32 ⟨rfl, rfl⟩
  · exact absurd (inr_lt hdN (by omega)) (by rw [c_14]; decide)
end
section
abbrev rm_X0_isPossible : Room := { frames := 3, cells := 0, slots := 0, locals := 69 }
set_option maxHeartbeats 4000000 in
set_option maxRecDepth 100000 in
theorem ct_X0_isPossible {l : Launch} {D : va_G} {Y : jy_T} {ad : Nat → Nat} {P N a f t : Nat} {ru : Bool} {cb al : Nat → Bool} {tg mc me : Int32} {tr to fa se qu sp : Nat → Int32} (hc : cfg P N) (ha : a < P ^ N) (hf : f < P) (ht : t < P) :
    MJ l yX0_isPossible cX0_isPossible 3 (some .boolean) rm_X0_isPossible D Y [.ref (ad 0), .int (nI f), .int (nI t)] (wA Y ad (nI P) (nI N) (bi ru) (nI a) tg mc me (fun d => nI (P ^ d)) (fun d => bi (cb d)) (fun k => bi (al k)) tr to fa se qu sp) (jI (fun r w => r = bi (psB P N ru cb al a f t) ∧ ∃ to1, tpOf P N a to1 ∧ w = (wA Y ad (nI P) (nI N) (bi ru) (nI a) tg mc me (fun d => nI (P ^ d)) (fun d => bi (cb d)) (fun k => bi (al k)) tr to1 fa se qu sp))) := by
  refine j_enter (by decide) (Nat.le_of_ble_eq_true rfl) (fun v hv => by simp only [List.mem_cons, List.not_mem_nil, or_false] at hv; rcases hv with rfl | rfl | rfl <;> rfl) (fun K hl hD hnm C R => ?_)
  subst hl; subst hD
  have C : jC cX0_isPossible RX0 Y rm_X0_isPossible 3 K := C
  have R : jR Y (some .boolean) 0 0 (jI (fun r w => r = bi (psB P N ru cb al a f t) ∧ ∃ to1, tpOf P N a to1 ∧ w = (wA Y ad (nI P) (nI N) (bi ru) (nI a) tg mc me (fun d => nI (P ^ d)) (fun d => bi (cb d)) (fun k => bi (al k)) tr to1 fa se qu sp))) K := R
  refine j_eq (lo' := [some (.ref (ad 0)), some (.int (nI f)), some (.int (nI t))]) rfl rfl rfl ?_
  obtain ⟨hP3, hP5, hN1, hN6⟩ := id hc
  have hP0 : 0 < P := by omega
  have hp2 : P ^ N ≤ 15625 := cfg_pw hc (by omega)
  refine j_aload_n C dX0_isPossible_0 rfl ?_
  refine j_aload_n C dX0_isPossible_1 rfl ?_
  refine g0_now C dX0_isPossible_2 ?_
  refine j_callV1v C (ct_X0_readTops hc (by omega)) gw_0_120 nd_X0_readTops 0 0 rfl rfl rfl ⟨by decide, by decide⟩ ⟨Nat.le_of_ble_eq_true rfl, Nat.le_of_ble_eq_true rfl⟩ (Nat.le_of_ble_eq_true rfl) dX0_isPossible_5 (fun w_1 hp => ?_)
  obtain ⟨to1, hto, rfl⟩ := hp
  refine j_aload_n C dX0_isPossible_8 rfl ?_
  refine j_iload_n C dX0_isPossible_9 rfl ?_
  refine j_iload_n C dX0_isPossible_10 rfl ?_
  refine j_callV2i C (ct_X0_fits (o1 := tp P N a f) (o2 := tp P N a t) (by omega) (by omega) (hto f (by omega)) (hto t (by omega)) (fun j h => by have := tp_lt h; omega) (fun j h => by have := tp_lt h; omega)) gw_0_165 nd_X0_fits 0 0 rfl rfl rfl ⟨by decide, by decide⟩ ⟨Nat.le_of_ble_eq_true rfl, Nat.le_of_ble_eq_true rfl⟩ (Nat.le_of_ble_eq_true rfl) dX0_isPossible_11 (fun x_1 w_1 hp => ?_)
  obtain ⟨rfl, rfl⟩ := hp
  refine jB_if_eq C 51 dX0_isPossible_14 (by decide) (fun c_14 => ?_) (fun c_14 => ?_)
  · refine j_iconst C (nI 0) dX0_isPossible_51 (by decide) ?_
    exact j_retz C R dX0_isPossible_52 rfl ⟨bi_f (by unfold psB; rw [c_14]; rfl), to1, hto, rfl⟩
  · refine j_aload_n C dX0_isPossible_17 rfl ?_
    refine g0_allowed C dX0_isPossible_18 ?_
    refine j_iload_n C dX0_isPossible_21 rfl ?_
    refine j_iload_n C dX0_isPossible_22 rfl ?_
    refine j_callS2i C (ct_X0_pairOf (ad := ad)) gw_0_95 rfl nd_X0_pairOf ⟨by decide, by decide⟩ ⟨Nat.le_of_ble_eq_true rfl, Nat.le_of_ble_eq_true rfl⟩ (Nat.le_of_ble_eq_true rfl) dX0_isPossible_23 (fun x_1 w_1 hp => ?_)
    obtain ⟨rfl, rfl⟩ := hp
    refine l0_al C _ rfl (by omega) dX0_isPossible_26 ?_
    refine jB_if_eq C 51 dX0_isPossible_27 (by decide) (fun c_27 => ?_) (fun c_27 => ?_)
    · refine j_iconst C (nI 0) dX0_isPossible_51 (by decide) ?_
      exact j_retz C R dX0_isPossible_52 rfl ⟨bi_f (by unfold psB; rw [c_27, Bool.and_false]; rfl), to1, hto, rfl⟩
    · obtain ⟨-, d, hd, -⟩ := ftB_some c_14
      refine j_aload_n C dX0_isPossible_30 rfl ?_
      refine j_aload_n C dX0_isPossible_31 rfl ?_
      refine j_aload_n C dX0_isPossible_32 rfl ?_
      refine g0_now C dX0_isPossible_33 ?_
      refine j_iload_n C dX0_isPossible_36 rfl ?_
      refine j_iload_n C dX0_isPossible_37 rfl ?_
      refine j_callV3i C (ct_X0_behindMove (d := d) (by omega) (by omega) (by omega) (by rw [hto f (by omega), hd]; rfl) (tp_lt hd) (tp_le hd)) gw_0_111 nd_X0_behindMove 0 0 rfl rfl rfl ⟨by decide, by decide⟩ ⟨Nat.le_of_ble_eq_true rfl, Nat.le_of_ble_eq_true rfl⟩ (Nat.le_of_ble_eq_true rfl) dX0_isPossible_38 (fun x_1 w_1 hp => ?_)
      obtain ⟨rfl, rfl⟩ := hp
      refine j_top _ (nI (mv P N a f t)) (by rw [mv_some hd]) ?_
      refine j_callV1i C (ct_X0_keepsRule hc (by have := mv_lt (f := f) hP0 ha (show t < P by omega); omega)) gw_0_124 nd_X0_keepsRule 0 0 rfl rfl rfl ⟨by decide, by decide⟩ ⟨Nat.le_of_ble_eq_true rfl, Nat.le_of_ble_eq_true rfl⟩ (Nat.le_of_ble_eq_true rfl) dX0_isPossible_41 (fun x_1 w_1 hp => ?_)
      obtain ⟨rfl, rfl⟩ := hp
      refine jB_if_eq C 51 dX0_isPossible_44 (by decide) (fun c_44 => ?_) (fun c_44 => ?_)
      · refine j_iconst C (nI 0) dX0_isPossible_51 (by decide) ?_
        exact j_retz C R dX0_isPossible_52 rfl ⟨bi_f (by unfold psB; rw [c_44, Bool.and_false]), to1, hto, rfl⟩
      · refine j_iconst C (nI 1) dX0_isPossible_47 (by decide) ?_
        refine j_goto C 52 dX0_isPossible_48 (by decide) ?_
        exact j_retz C R dX0_isPossible_52 rfl ⟨bi_t (by unfold psB; rw [c_14, c_27, c_44]; rfl), to1, hto, rfl⟩
abbrev rm_X0_isStep : Room := { frames := 1, cells := 0, slots := 0, locals := 24 }
set_option maxHeartbeats 4000000 in
set_option maxRecDepth 100000 in
theorem ct_X0_isStep {l : Launch} {D : va_G} {Y : jy_T} {ad : Nat → Nat} {P N a f t : Nat} {ru bw : Bool} {cb al : Nat → Bool} {p n nw tg mc me : Int32} {we tr to fa se qu sp : Nat → Int32} (hN : N ≤ 6) (hto : tpOf P N a to) (hf : f < 5) (ht : t < 5) :
    MJ l yX0_isStep cX0_isStep 5 (some .boolean) rm_X0_isStep D Y [.ref (ad 0), .int (nI f), .int (nI t), .int (bi bw)] (wA Y ad p n (bi ru) nw tg mc me we (fun d => bi (cb d)) (fun k => bi (al k)) tr to fa se qu sp) (jI (fun r w => r = bi (stB P N ru cb al a f t bw) ∧ w = (wA Y ad p n (bi ru) nw tg mc me we (fun d => bi (cb d)) (fun k => bi (al k)) tr to fa se qu sp))) := by
  refine j_enter (by decide) (Nat.le_of_ble_eq_true rfl) (fun v hv => by simp only [List.mem_cons, List.not_mem_nil, or_false] at hv; rcases hv with rfl | rfl | rfl | rfl <;> rfl) (fun K hl hD hnm C R => ?_)
  subst hl; subst hD
  have C : jC cX0_isStep RX0 Y rm_X0_isStep 5 K := C
  have R : jR Y (some .boolean) 0 0 (jI (fun r w => r = bi (stB P N ru cb al a f t bw) ∧ w = (wA Y ad p n (bi ru) nw tg mc me we (fun d => bi (cb d)) (fun k => bi (al k)) tr to fa se qu sp))) K := R
  refine j_eq (lo' := [some (.ref (ad 0)), some (.int (nI f)), some (.int (nI t)), some (.int (bi bw)), none]) rfl rfl rfl ?_
  refine j_aload_n C dX0_isStep_0 rfl ?_
  refine j_iload_n C dX0_isStep_1 rfl ?_
  refine j_iload_n C dX0_isStep_2 rfl ?_
  refine j_callV2i C (ct_X0_fits (o1 := tp P N a f) (o2 := tp P N a t) (by omega) (by omega) (hto f (by omega)) (hto t (by omega)) (fun j h => by have := tp_lt h; omega) (fun j h => by have := tp_lt h; omega)) gw_0_165 nd_X0_fits 0 0 rfl rfl rfl ⟨by decide, by decide⟩ ⟨Nat.le_of_ble_eq_true rfl, Nat.le_of_ble_eq_true rfl⟩ (Nat.le_of_ble_eq_true rfl) dX0_isStep_3 (fun x_1 w_1 hp => ?_)
  obtain ⟨rfl, rfl⟩ := hp
  refine jB_if_ne C 11 dX0_isStep_6 (by decide) (fun c_6 => ?_) (fun c_6 => ?_)
  · obtain ⟨-, d, hd, -⟩ := ftB_some c_6
    refine j_iload_n C dX0_isStep_11 rfl ?_
    refine jB_if_eq C 23 dX0_isStep_12 (by decide) (fun c_12 => ?_) (fun c_12 => ?_)
    · refine j_iload_n C dX0_isStep_23 rfl ?_
      refine j_iload_n C dX0_isStep_24 rfl ?_
      refine j_callS2i C (ct_X0_pairOf (ad := ad)) gw_0_95 rfl nd_X0_pairOf ⟨by decide, by decide⟩ ⟨Nat.le_of_ble_eq_true rfl, Nat.le_of_ble_eq_true rfl⟩ (Nat.le_of_ble_eq_true rfl) dX0_isStep_25 (fun x_1 w_1 hp => ?_)
      obtain ⟨rfl, rfl⟩ := hp
      refine j_istore_4 C dX0_isStep_28 (by decide) ?_
      refine j_aload_n C dX0_isStep_30 rfl ?_
      refine g0_allowed C dX0_isStep_31 ?_
      refine j_iload C dX0_isStep_34 rfl ?_
      refine l0_al C _ rfl (by omega) dX0_isStep_36 ?_
      refine jB_if_eq C 63 dX0_isStep_37 (by decide) (fun c_37 => ?_) (fun c_37 => ?_)
      · refine j_iconst C (nI 0) dX0_isStep_63 (by decide) ?_
        exact j_retz C R dX0_isStep_64 rfl ⟨bi_f (by unfold stB; rw [c_12, hd]; simp [c_37]), rfl⟩
      · refine j_aload_n C dX0_isStep_40 rfl ?_
        refine j_aload_n C dX0_isStep_41 rfl ?_
        refine g0_tops C dX0_isStep_42 ?_
        refine j_iload_n C dX0_isStep_45 rfl ?_
        refine l0_to C _ rfl (by omega) dX0_isStep_46 ?_
        refine j_top _ (nI d) (by rw [hto f (by omega), hd]; rfl) ?_
        refine j_aload_n C dX0_isStep_47 rfl ?_
        refine g0_tops C dX0_isStep_48 ?_
        refine j_iload_n C dX0_isStep_51 rfl ?_
        refine l0_to C _ rfl (by omega) dX0_isStep_52 ?_
        refine j_top _ (oI (tp P N a t)) (hto t (by omega)) ?_
        refine j_callV2i C (ct_X0_mayLieOn (by have := tp_lt hd; omega) (fun j h => by have := tp_lt h; omega)) gw_0_162 nd_X0_mayLieOn 0 0 rfl rfl rfl ⟨by decide, by decide⟩ ⟨Nat.le_of_ble_eq_true rfl, Nat.le_of_ble_eq_true rfl⟩ (Nat.le_of_ble_eq_true rfl) dX0_isStep_53 (fun x_1 w_1 hp => ?_)
        obtain ⟨rfl, rfl⟩ := hp
        refine jB_if_eq C 63 dX0_isStep_56 (by decide) (fun c_56 => ?_) (fun c_56 => ?_)
        · refine j_iconst C (nI 0) dX0_isStep_63 (by decide) ?_
          exact j_retz C R dX0_isStep_64 rfl ⟨bi_f (by unfold stB; rw [c_12, hd]; simp [c_56]), rfl⟩
        · refine j_iconst C (nI 1) dX0_isStep_59 (by decide) ?_
          refine j_goto C 64 dX0_isStep_60 (by decide) ?_
          exact j_retz C R dX0_isStep_64 rfl ⟨bi_t (by unfold stB; rw [c_12, c_6, hd]; simp [c_37, c_56]), rfl⟩
    · refine j_iload_n C dX0_isStep_15 rfl ?_
      refine j_iload_n C dX0_isStep_16 rfl ?_
      refine j_callS2i C (ct_X0_pairOf (ad := ad)) gw_0_95 rfl nd_X0_pairOf ⟨by decide, by decide⟩ ⟨Nat.le_of_ble_eq_true rfl, Nat.le_of_ble_eq_true rfl⟩ (Nat.le_of_ble_eq_true rfl) dX0_isStep_17 (fun x_1 w_1 hp => ?_)
      obtain ⟨rfl, rfl⟩ := hp
      refine j_goto C 28 dX0_isStep_20 (by decide) ?_
      refine j_istore_4 C dX0_isStep_28 (by decide) ?_
      refine j_aload_n C dX0_isStep_30 rfl ?_
      refine g0_allowed C dX0_isStep_31 ?_
      refine j_iload C dX0_isStep_34 rfl ?_
      refine l0_al C _ rfl (by omega) dX0_isStep_36 ?_
      refine jB_if_eq C 63 dX0_isStep_37 (by decide) (fun c_37 => ?_) (fun c_37 => ?_)
      · refine j_iconst C (nI 0) dX0_isStep_63 (by decide) ?_
        exact j_retz C R dX0_isStep_64 rfl ⟨bi_f (by unfold stB; rw [c_12, hd]; simp [c_37]), rfl⟩
      · refine j_aload_n C dX0_isStep_40 rfl ?_
        refine j_aload_n C dX0_isStep_41 rfl ?_
        refine g0_tops C dX0_isStep_42 ?_
        refine j_iload_n C dX0_isStep_45 rfl ?_
        refine l0_to C _ rfl (by omega) dX0_isStep_46 ?_
        refine j_top _ (nI d) (by rw [hto f (by omega), hd]; rfl) ?_
        refine j_aload_n C dX0_isStep_47 rfl ?_
        refine g0_tops C dX0_isStep_48 ?_
        refine j_iload_n C dX0_isStep_51 rfl ?_
        refine l0_to C _ rfl (by omega) dX0_isStep_52 ?_
        refine j_top _ (oI (tp P N a t)) (hto t (by omega)) ?_
        refine j_callV2i C (ct_X0_mayLieOn (by have := tp_lt hd; omega) (fun j h => by have := tp_lt h; omega)) gw_0_162 nd_X0_mayLieOn 0 0 rfl rfl rfl ⟨by decide, by decide⟩ ⟨Nat.le_of_ble_eq_true rfl, Nat.le_of_ble_eq_true rfl⟩ (Nat.le_of_ble_eq_true rfl) dX0_isStep_53 (fun x_1 w_1 hp => ?_)
        obtain ⟨rfl, rfl⟩ := hp
        refine jB_if_eq C 63 dX0_isStep_56 (by decide) (fun c_56 => ?_) (fun c_56 => ?_)
        · refine j_iconst C (nI 0) dX0_isStep_63 (by decide) ?_
          exact j_retz C R dX0_isStep_64 rfl ⟨bi_f (by unfold stB; rw [c_12, hd]; simp [c_56]), rfl⟩
        · refine j_iconst C (nI 1) dX0_isStep_59 (by decide) ?_
          refine j_goto C 64 dX0_isStep_60 (by decide) ?_
          exact j_retz C R dX0_isStep_64 rfl ⟨bi_t (by unfold stB; rw [c_12, c_6, hd]; simp [c_37, c_56]), rfl⟩
  · refine j_iconst C (nI 0) dX0_isStep_9 (by decide) ?_
    exact j_retz C R dX0_isStep_10 rfl ⟨bi_f (by unfold stB; rw [c_6]; rfl), rfl⟩
end
section
def nbC (P N : Nat) (ru : Bool) (cb al : Nat → Bool) (bw : Bool) : nb_T := fun x f t => if stB P N ru cb al x f t bw then some (mv P N x f t) else none
theorem nbC_t {P N x f t : Nat} {ru bw : Bool} {cb al : Nat → Bool} (h : stB P N ru cb al x f t bw = true) : nbC P N ru cb al bw x f t = some (mv P N x f t) := by unfold nbC; rw [if_pos h]
theorem nbC_f {P N x f t : Nat} {ru bw : Bool} {cb al : Nat → Bool} (h : stB P N ru cb al x f t bw = false) : nbC P N ru cb al bw x f t = none := by unfold nbC; rw [h]; rfl
theorem stB_ft {P N x f t : Nat} {ru bw : Bool} {cb al : Nat → Bool} (h : stB P N ru cb al x f t bw = true) : ftB f t (tp P N x f) (tp P N x t) = true := by
  unfold stB at h
  rw [Bool.and_eq_true, Bool.and_eq_true] at h
  exact h.1.1
/-- the row of steps and the queue hold what the search found -/
def stR (M : Nat) (ss : Nat → Int32) (ds : Nat → Option Nat) : Prop := ∀ y, y < M → ss y = oI (ds y)
def quR (fo : Nat) (qu : Nat → Int32) (q : Nat → Nat) : Prop := ∀ i, i < fo → qu i = nI (q i)
theorem stR_up {M y d : Nat} {ss : Nat → Int32} {ds : Nat → Option Nat} (h : stR M ss ds) : stR M (upd ss y (nI d)) (va_up ds y (some d)) := fun z hz => by
  by_cases e : z = y
  · rw [e, pk_us, up_s]; rfl
  · rw [pk_un e, up_n e]; exact h z hz
theorem quR_up {fo y : Nat} {qu : Nat → Int32} {q : Nat → Nat} (h : quR fo qu q) : quR (fo + 1) (upd qu fo (nI y)) (va_up q fo y) := fun i hi => by
  by_cases e : i = fo
  · rw [e, pk_us, up_s]
  · rw [pk_un e, up_n e]; exact h i (by omega)
theorem bf_dlt {M P : Nat} {nb : nb_T} {o h fo : Nat} {ds : Nat → Option Nat} {q : Nat → Nat} (I : bfI M P nb o h fo ds q) (hM : M < 2 ^ 31) : ∀ y d, ds y = some d → d < 2 ^ 31 := fun y d hd => by
  obtain ⟨i, hi, rfl⟩ := I.2.2.2.1 y (by rw [hd]; simp)
  obtain ⟨e, h1, h2, -⟩ := I.2.2.1 i hi
  rw [hd] at h1; cases h1
  have := bf_le I
  omega
abbrev rm_X0_searchFrom : Room := { frames := 2, cells := 0, slots := 0, locals := 48 }
set_option maxHeartbeats 4000000 in
set_option maxRecDepth 100000 in
theorem ct_X0_searchFrom_f1 {l : Launch} {D : va_G} {Y : jy_T} {ad : Nat → Nat} {P N og h fo0 x : Nat} {ru bw : Bool} {cb al : Nat → Bool} {ds : Nat → Option Nat} {q : Nat → Nat} {ss : Nat → Int32} {nw tg mc me : Int32} {tr to se qu sp : Nat → Int32} (hc : cfg P N) (I : bfI (P ^ N) P (nbC P N ru cb al bw) og h fo0 ds q) (hh : h < fo0) (hqx : q h = x) (hst : stR (P ^ N) ss ds) (hqu : quR fo0 qu q) :
    MJ l yX0_searchFrom cX0_searchFrom 9 (some .int) rm_X0_searchFrom D Y [.ref (ad 0), .int (nI x), .ref (ad 6), .int (bi bw), .int (nI fo0)] (wA Y ad (nI P) (nI N) (bi ru) nw tg mc me (fun d => nI (P ^ d)) (fun d => bi (cb d)) (fun k => bi (al k)) tr to ss se qu sp) (jI (fun r w => ∃ fo1 ds1 q1 s1 qu1 to1, r = nI fo1 ∧ bfI (P ^ N) P (nbC P N ru cb al bw) og (h + 1) fo1 ds1 q1 ∧ stR (P ^ N) s1 ds1 ∧ quR fo1 qu1 q1 ∧ w = (wA Y ad (nI P) (nI N) (bi ru) nw tg mc me (fun d => nI (P ^ d)) (fun d => bi (cb d)) (fun k => bi (al k)) tr to1 s1 se qu1 sp))) := by
  refine j_enter (by decide) (Nat.le_of_ble_eq_true rfl) (fun v hv => by simp only [List.mem_cons, List.not_mem_nil, or_false] at hv; rcases hv with rfl | rfl | rfl | rfl | rfl <;> rfl) (fun K hl hD hnm C R => ?_)
  subst hl; subst hD
  have C : jC cX0_searchFrom RX0 Y rm_X0_searchFrom 9 K := C
  have R : jR Y (some .int) 0 0 (jI (fun r w => ∃ fo1 ds1 q1 s1 qu1 to1, r = nI fo1 ∧ bfI (P ^ N) P (nbC P N ru cb al bw) og (h + 1) fo1 ds1 q1 ∧ stR (P ^ N) s1 ds1 ∧ quR fo1 qu1 q1 ∧ w = (wA Y ad (nI P) (nI N) (bi ru) nw tg mc me (fun d => nI (P ^ d)) (fun d => bi (cb d)) (fun k => bi (al k)) tr to1 s1 se qu1 sp))) K := R
  refine j_eq (lo' := [some (.ref (ad 0)), some (.int (nI x)), some (.ref (ad 6)), some (.int (bi bw)), some (.int (nI fo0)), none, none, none, none]) rfl rfl rfl ?_
  obtain ⟨hP3, hP5, hN1, hN6⟩ := id hc
  have hP0 : 0 < P := by omega
  have hp2 : P ^ N ≤ 15625 := cfg_pw hc (by omega)
  obtain ⟨dx, hdx, I0⟩ := bf_enter I hh
  rw [hqx] at I0
  have hx : x < P ^ N := by rw [← hqx]; exact I.2.1 h hh
  have hL : ∀ (to1 : Nat → Int32), tpOf P N x to1 → ∀ (m f fo : Nat) (ds : Nat → Option Nat) (q : Nat → Nat) (ss qu : Nat → Int32) (l7 l8 : Option Value), P < f + m → f ≤ P → bfX (P ^ N) P (nbC P N ru cb al bw) og h fo ds q x dx f 0 → stR (P ^ N) ss ds → quR fo qu q →
      jJ K 0 0 12 [some (.ref (ad 0)), some (.int (nI x)), some (.ref (ad 6)), some (.int (bi bw)), some (.int (nI fo0)), some (.int (nI fo)), some (.int (nI f)), l7, l8] [] (wA Y ad (nI P) (nI N) (bi ru) nw tg mc me (fun d => nI (P ^ d)) (fun d => bi (cb d)) (fun k => bi (al k)) tr to1 ss se qu sp) := by
    intro to1 hto m
    induction m with
    | zero => intro f fo ds q ss qu l7 l8 h1 h2; omega
    | succ m ih =>
      intro f fo ds q ss qu l7 l8 h1 h2 I hst hqu
      have hfo := bf_le I.1
      refine j_iload C dX0_searchFrom_12 rfl ?_
      refine j_aload_n C dX0_searchFrom_14 rfl ?_
      refine g0_pegCount C dX0_searchFrom_15 ?_
      refine jN_icmp_ge C 116 (by omega) (by omega) dX0_searchFrom_18 (by decide) (fun c_18 => ?_) (fun c_18 => ?_)
      · refine j_iload C dX0_searchFrom_116 rfl ?_
        exact j_reti C R dX0_searchFrom_118 ⟨fo, ds, q, ss, qu, to1, rfl, bf_next I c_18, hst, hqu, rfl⟩
      · refine j_iconst C (nI 0) dX0_searchFrom_21 (by decide) ?_
        refine j_istore_7 C dX0_searchFrom_22 (by decide) ?_
        have hI : ∀ (m2 t fo : Nat) (ds : Nat → Option Nat) (q : Nat → Nat) (ss qu : Nat → Int32) (l8 : Option Value), P < t + m2 → t ≤ P → bfX (P ^ N) P (nbC P N ru cb al bw) og h fo ds q x dx f t → stR (P ^ N) ss ds → quR fo qu q →
            jJ K 0 0 24 [some (.ref (ad 0)), some (.int (nI x)), some (.ref (ad 6)), some (.int (bi bw)), some (.int (nI fo0)), some (.int (nI fo)), some (.int (nI f)), some (.int (nI t)), l8] [] (wA Y ad (nI P) (nI N) (bi ru) nw tg mc me (fun d => nI (P ^ d)) (fun d => bi (cb d)) (fun k => bi (al k)) tr to1 ss se qu sp) := by
          intro m2
          induction m2 with
          | zero => intro t fo ds q ss qu l8 h3 h4; omega
          | succ m2 ih2 =>
            intro t fo ds q ss qu l8 h3 h4 I hst hqu
            have hfo := bf_le I.1
            refine j_iload C dX0_searchFrom_24 rfl ?_
            refine j_aload_n C dX0_searchFrom_26 rfl ?_
            refine g0_pegCount C dX0_searchFrom_27 ?_
            refine jN_icmp_ge C 110 (by omega) (by omega) dX0_searchFrom_30 (by decide) (fun c_30 => ?_) (fun c_30 => ?_)
            · refine j_iinc_6 C _ (nI_p1 _) dX0_searchFrom_110 ?_
              refine j_goto C 12 dX0_searchFrom_113 (by decide) ?_
              exact ih (f + 1) fo ds q ss qu _ _ (by omega) (by omega) (bf_row I c_30) hst hqu
            · refine j_aload_n C dX0_searchFrom_33 rfl ?_
              refine j_iload C dX0_searchFrom_34 rfl ?_
              refine j_iload C dX0_searchFrom_36 rfl ?_
              refine j_iload_n C dX0_searchFrom_38 rfl ?_
              refine j_callV3i C (ct_X0_isStep (P := P) (N := N) (a := x) (by omega) hto (by omega) (by omega)) gw_0_175 nd_X0_isStep 0 0 rfl rfl rfl ⟨by decide, by decide⟩ ⟨Nat.le_of_ble_eq_true rfl, Nat.le_of_ble_eq_true rfl⟩ (Nat.le_of_ble_eq_true rfl) dX0_searchFrom_39 (fun x_1 w_1 hp => ?_)
              obtain ⟨rfl, rfl⟩ := hp
              refine jB_if_eq C 104 dX0_searchFrom_42 (by decide) (fun c_42 => ?_) (fun c_42 => ?_)
              · refine j_iinc_7 C _ (nI_p1 _) dX0_searchFrom_104 ?_
                refine j_goto C 24 dX0_searchFrom_107 (by decide) ?_
                exact ih2 (t + 1) fo ds q ss qu _ (by omega) (by omega) (bf_keep I (fun y hy => by rw [nbC_f c_42] at hy; cases hy)) hst hqu
              · obtain ⟨-, d, hd, -⟩ := ftB_some (stB_ft c_42)
                have hnb := nbC_t c_42
                have hy := mv_lt (f := f) (t := t) hP0 hx (by omega)
                refine j_aload_n C dX0_searchFrom_45 rfl ?_
                refine j_iload_n C dX0_searchFrom_46 rfl ?_
                refine j_iload C dX0_searchFrom_47 rfl ?_
                refine j_iload C dX0_searchFrom_49 rfl ?_
                refine j_callV3i C (ct_X0_behindMove (d := d) (by omega) (by omega) (by omega) (by rw [hto f (by omega), hd]; rfl) (tp_lt hd) (tp_le hd)) gw_0_111 nd_X0_behindMove 0 0 rfl rfl rfl ⟨by decide, by decide⟩ ⟨Nat.le_of_ble_eq_true rfl, Nat.le_of_ble_eq_true rfl⟩ (Nat.le_of_ble_eq_true rfl) dX0_searchFrom_51 (fun x_1 w_1 hp => ?_)
                obtain ⟨rfl, rfl⟩ := hp
                refine j_top _ (nI (mv P N x f t)) (by rw [mv_some hd]) ?_
                obtain ⟨y, ey⟩ : ∃ y, y = mv P N x f t := ⟨_, rfl⟩
                rw [← ey] at hnb hy ⊢
                refine j_istore_8 C dX0_searchFrom_54 (by decide) ?_
                refine j_aload_n C dX0_searchFrom_56 rfl ?_
                refine j_iload C dX0_searchFrom_57 rfl ?_
                refine j_callV1i C (ct_X0_isNumber hc) gw_0_168 nd_X0_isNumber 0 0 rfl rfl rfl ⟨by decide, by decide⟩ ⟨Nat.le_of_ble_eq_true rfl, Nat.le_of_ble_eq_true rfl⟩ (Nat.le_of_ble_eq_true rfl) dX0_searchFrom_59 (fun x_1 w_1 hp => ?_)
                obtain ⟨rfl, rfl⟩ := hp
                refine jB_if_eq C 104 dX0_searchFrom_62 (by decide) (fun c_62 => ?_) (fun c_62 => ?_)
                · exact absurd (inr_lt hy (by omega)) (by rw [c_62]; decide)
                · refine j_aload_n C dX0_searchFrom_65 rfl ?_
                  refine j_iload C dX0_searchFrom_66 rfl ?_
                  refine l0_fa C _ rfl (by omega) dX0_searchFrom_68 ?_
                  refine j_top _ (oI (ds y)) (hst y hy) ?_
                  refine j_iconst C (-1) dX0_searchFrom_69 (by decide) ?_
                  refine j_icmp_ne C 104 dX0_searchFrom_70 (by decide) (fun c_70 => ?_) (fun c_70 => ?_)
                  · refine j_iinc_7 C _ (nI_p1 _) dX0_searchFrom_104 ?_
                    refine j_goto C 24 dX0_searchFrom_107 (by decide) ?_
                    exact ih2 (t + 1) fo ds q ss qu _ (by omega) (by omega) (bf_keep I (fun z hz => by
                      rw [hnb] at hz; cases hz
                      exact fun w => c_70 ((oI_m1 (fun j hj => bf_dlt I.1 (by omega) _ j hj)).mpr w))) hst hqu
                  · refine j_iload C dX0_searchFrom_73 rfl ?_
                    refine j_aload_n C dX0_searchFrom_75 rfl ?_
                    refine g0_queue C dX0_searchFrom_76 ?_
                    refine n0_qu C dX0_searchFrom_79 ?_
                    refine jN_icmp_ge C 104 (by have := bf_le I.1; omega) (by omega) dX0_searchFrom_80 (by decide) (fun c_80 => ?_) (fun c_80 => ?_)
                    · exact absurd (bf_room I.1 hy ((oI_m1 (fun j hj => bf_dlt I.1 (by omega) y j hj)).mp c_70)) (by omega)
                    · refine j_aload_n C dX0_searchFrom_83 rfl ?_
                      refine j_iload C dX0_searchFrom_84 rfl ?_
                      refine j_aload_n C dX0_searchFrom_86 rfl ?_
                      refine j_iload_n C dX0_searchFrom_87 rfl ?_
                      refine l0_fa C _ rfl (by omega) dX0_searchFrom_88 ?_
                      refine j_top _ (nI dx) (by rw [hst x hx, I.2.2.2.1]; rfl) ?_
                      refine j_iconst C (nI 1) dX0_searchFrom_89 (by decide) ?_
                      refine j_iadd C dX0_searchFrom_90 ?_
                      refine j_top _ _ (nI_add _ _) ?_
                      refine s0_fa C _ rfl (by omega) dX0_searchFrom_91 ?_
                      refine j_aload_n C dX0_searchFrom_92 rfl ?_
                      refine g0_queue C dX0_searchFrom_93 ?_
                      refine j_iload C dX0_searchFrom_96 rfl ?_
                      refine j_iload C dX0_searchFrom_98 rfl ?_
                      refine s0_qu C _ rfl (by have := bf_room I.1 hy ((oI_m1 (fun j hj => bf_dlt I.1 (by omega) y j hj)).mp c_70); omega) dX0_searchFrom_100 ?_
                      refine j_iinc_5 C _ (nI_p1 _) dX0_searchFrom_101 ?_
                      refine j_iinc_7 C _ (nI_p1 _) dX0_searchFrom_104 ?_
                      refine j_goto C 24 dX0_searchFrom_107 (by decide) ?_
                      exact ih2 (t + 1) (fo + 1) _ _ _ _ _ (by omega) (by omega) (bf_add I (by omega) (by omega) hnb hy ((oI_m1 (fun j hj => bf_dlt I.1 (by omega) y j hj)).mp c_70)) (stR_up hst) (quR_up hqu)
        exact hI (P + 1) 0 fo ds q ss qu l8 (by omega) (by omega) I hst hqu
  refine j_iload C dX0_searchFrom_0 rfl ?_
  refine j_istore_5 C dX0_searchFrom_2 (by decide) ?_
  refine j_aload_n C dX0_searchFrom_4 rfl ?_
  refine j_iload_n C dX0_searchFrom_5 rfl ?_
  refine j_callV1v C (ct_X0_readTops hc (by omega)) gw_0_120 nd_X0_readTops 0 0 rfl rfl rfl ⟨by decide, by decide⟩ ⟨Nat.le_of_ble_eq_true rfl, Nat.le_of_ble_eq_true rfl⟩ (Nat.le_of_ble_eq_true rfl) dX0_searchFrom_6 (fun w_1 hp => ?_)
  obtain ⟨to1, hto, rfl⟩ := hp
  refine j_iconst C (nI 0) dX0_searchFrom_9 (by decide) ?_
  refine j_istore_6 C dX0_searchFrom_10 (by decide) ?_
  exact hL to1 hto (P + 1) 0 fo0 ds q ss qu _ _ (by omega) (by omega) I0 hst hqu
set_option maxHeartbeats 4000000 in
set_option maxRecDepth 100000 in
theorem ct_X0_searchFrom_s2 {l : Launch} {D : va_G} {Y : jy_T} {ad : Nat → Nat} {P N og h fo0 x : Nat} {ru bw : Bool} {cb al : Nat → Bool} {ds : Nat → Option Nat} {q : Nat → Nat} {ss : Nat → Int32} {nw tg mc me : Int32} {tr to fa qu sp : Nat → Int32} (hc : cfg P N) (I : bfI (P ^ N) P (nbC P N ru cb al bw) og h fo0 ds q) (hh : h < fo0) (hqx : q h = x) (hst : stR (P ^ N) ss ds) (hqu : quR fo0 qu q) :
    MJ l yX0_searchFrom cX0_searchFrom 9 (some .int) rm_X0_searchFrom D Y [.ref (ad 0), .int (nI x), .ref (ad 7), .int (bi bw), .int (nI fo0)] (wA Y ad (nI P) (nI N) (bi ru) nw tg mc me (fun d => nI (P ^ d)) (fun d => bi (cb d)) (fun k => bi (al k)) tr to fa ss qu sp) (jI (fun r w => ∃ fo1 ds1 q1 s1 qu1 to1, r = nI fo1 ∧ bfI (P ^ N) P (nbC P N ru cb al bw) og (h + 1) fo1 ds1 q1 ∧ stR (P ^ N) s1 ds1 ∧ quR fo1 qu1 q1 ∧ w = (wA Y ad (nI P) (nI N) (bi ru) nw tg mc me (fun d => nI (P ^ d)) (fun d => bi (cb d)) (fun k => bi (al k)) tr to1 fa s1 qu1 sp))) := by
  refine j_enter (by decide) (Nat.le_of_ble_eq_true rfl) (fun v hv => by simp only [List.mem_cons, List.not_mem_nil, or_false] at hv; rcases hv with rfl | rfl | rfl | rfl | rfl <;> rfl) (fun K hl hD hnm C R => ?_)
  subst hl; subst hD
  have C : jC cX0_searchFrom RX0 Y rm_X0_searchFrom 9 K := C
  have R : jR Y (some .int) 0 0 (jI (fun r w => ∃ fo1 ds1 q1 s1 qu1 to1, r = nI fo1 ∧ bfI (P ^ N) P (nbC P N ru cb al bw) og (h + 1) fo1 ds1 q1 ∧ stR (P ^ N) s1 ds1 ∧ quR fo1 qu1 q1 ∧ w = (wA Y ad (nI P) (nI N) (bi ru) nw tg mc me (fun d => nI (P ^ d)) (fun d => bi (cb d)) (fun k => bi (al k)) tr to1 fa s1 qu1 sp))) K := R
  refine j_eq (lo' := [some (.ref (ad 0)), some (.int (nI x)), some (.ref (ad 7)), some (.int (bi bw)), some (.int (nI fo0)), none, none, none, none]) rfl rfl rfl ?_
  obtain ⟨hP3, hP5, hN1, hN6⟩ := id hc
  have hP0 : 0 < P := by omega
  have hp2 : P ^ N ≤ 15625 := cfg_pw hc (by omega)
  obtain ⟨dx, hdx, I0⟩ := bf_enter I hh
  rw [hqx] at I0
  have hx : x < P ^ N := by rw [← hqx]; exact I.2.1 h hh
  have hL : ∀ (to1 : Nat → Int32), tpOf P N x to1 → ∀ (m f fo : Nat) (ds : Nat → Option Nat) (q : Nat → Nat) (ss qu : Nat → Int32) (l7 l8 : Option Value), P < f + m → f ≤ P → bfX (P ^ N) P (nbC P N ru cb al bw) og h fo ds q x dx f 0 → stR (P ^ N) ss ds → quR fo qu q →
      jJ K 0 0 12 [some (.ref (ad 0)), some (.int (nI x)), some (.ref (ad 7)), some (.int (bi bw)), some (.int (nI fo0)), some (.int (nI fo)), some (.int (nI f)), l7, l8] [] (wA Y ad (nI P) (nI N) (bi ru) nw tg mc me (fun d => nI (P ^ d)) (fun d => bi (cb d)) (fun k => bi (al k)) tr to1 fa ss qu sp) := by
    intro to1 hto m
    induction m with
    | zero => intro f fo ds q ss qu l7 l8 h1 h2; omega
    | succ m ih =>
      intro f fo ds q ss qu l7 l8 h1 h2 I hst hqu
      have hfo := bf_le I.1
      refine j_iload C dX0_searchFrom_12 rfl ?_
      refine j_aload_n C dX0_searchFrom_14 rfl ?_
      refine g0_pegCount C dX0_searchFrom_15 ?_
      refine jN_icmp_ge C 116 (by omega) (by omega) dX0_searchFrom_18 (by decide) (fun c_18 => ?_) (fun c_18 => ?_)
      · refine j_iload C dX0_searchFrom_116 rfl ?_
        exact j_reti C R dX0_searchFrom_118 ⟨fo, ds, q, ss, qu, to1, rfl, bf_next I c_18, hst, hqu, rfl⟩
      · refine j_iconst C (nI 0) dX0_searchFrom_21 (by decide) ?_
        refine j_istore_7 C dX0_searchFrom_22 (by decide) ?_
        have hI : ∀ (m2 t fo : Nat) (ds : Nat → Option Nat) (q : Nat → Nat) (ss qu : Nat → Int32) (l8 : Option Value), P < t + m2 → t ≤ P → bfX (P ^ N) P (nbC P N ru cb al bw) og h fo ds q x dx f t → stR (P ^ N) ss ds → quR fo qu q →
            jJ K 0 0 24 [some (.ref (ad 0)), some (.int (nI x)), some (.ref (ad 7)), some (.int (bi bw)), some (.int (nI fo0)), some (.int (nI fo)), some (.int (nI f)), some (.int (nI t)), l8] [] (wA Y ad (nI P) (nI N) (bi ru) nw tg mc me (fun d => nI (P ^ d)) (fun d => bi (cb d)) (fun k => bi (al k)) tr to1 fa ss qu sp) := by
          intro m2
          induction m2 with
          | zero => intro t fo ds q ss qu l8 h3 h4; omega
          | succ m2 ih2 =>
            intro t fo ds q ss qu l8 h3 h4 I hst hqu
            have hfo := bf_le I.1
            refine j_iload C dX0_searchFrom_24 rfl ?_
            refine j_aload_n C dX0_searchFrom_26 rfl ?_
            refine g0_pegCount C dX0_searchFrom_27 ?_
            refine jN_icmp_ge C 110 (by omega) (by omega) dX0_searchFrom_30 (by decide) (fun c_30 => ?_) (fun c_30 => ?_)
            · refine j_iinc_6 C _ (nI_p1 _) dX0_searchFrom_110 ?_
              refine j_goto C 12 dX0_searchFrom_113 (by decide) ?_
              exact ih (f + 1) fo ds q ss qu _ _ (by omega) (by omega) (bf_row I c_30) hst hqu
            · refine j_aload_n C dX0_searchFrom_33 rfl ?_
              refine j_iload C dX0_searchFrom_34 rfl ?_
              refine j_iload C dX0_searchFrom_36 rfl ?_
              refine j_iload_n C dX0_searchFrom_38 rfl ?_
              refine j_callV3i C (ct_X0_isStep (P := P) (N := N) (a := x) (by omega) hto (by omega) (by omega)) gw_0_175 nd_X0_isStep 0 0 rfl rfl rfl ⟨by decide, by decide⟩ ⟨Nat.le_of_ble_eq_true rfl, Nat.le_of_ble_eq_true rfl⟩ (Nat.le_of_ble_eq_true rfl) dX0_searchFrom_39 (fun x_1 w_1 hp => ?_)
              obtain ⟨rfl, rfl⟩ := hp
              refine jB_if_eq C 104 dX0_searchFrom_42 (by decide) (fun c_42 => ?_) (fun c_42 => ?_)
              · refine j_iinc_7 C _ (nI_p1 _) dX0_searchFrom_104 ?_
                refine j_goto C 24 dX0_searchFrom_107 (by decide) ?_
                exact ih2 (t + 1) fo ds q ss qu _ (by omega) (by omega) (bf_keep I (fun y hy => by rw [nbC_f c_42] at hy; cases hy)) hst hqu
              · obtain ⟨-, d, hd, -⟩ := ftB_some (stB_ft c_42)
                have hnb := nbC_t c_42
                have hy := mv_lt (f := f) (t := t) hP0 hx (by omega)
                refine j_aload_n C dX0_searchFrom_45 rfl ?_
                refine j_iload_n C dX0_searchFrom_46 rfl ?_
                refine j_iload C dX0_searchFrom_47 rfl ?_
                refine j_iload C dX0_searchFrom_49 rfl ?_
                refine j_callV3i C (ct_X0_behindMove (d := d) (by omega) (by omega) (by omega) (by rw [hto f (by omega), hd]; rfl) (tp_lt hd) (tp_le hd)) gw_0_111 nd_X0_behindMove 0 0 rfl rfl rfl ⟨by decide, by decide⟩ ⟨Nat.le_of_ble_eq_true rfl, Nat.le_of_ble_eq_true rfl⟩ (Nat.le_of_ble_eq_true rfl) dX0_searchFrom_51 (fun x_1 w_1 hp => ?_)
                obtain ⟨rfl, rfl⟩ := hp
                refine j_top _ (nI (mv P N x f t)) (by rw [mv_some hd]) ?_
                obtain ⟨y, ey⟩ : ∃ y, y = mv P N x f t := ⟨_, rfl⟩
                rw [← ey] at hnb hy ⊢
                refine j_istore_8 C dX0_searchFrom_54 (by decide) ?_
                refine j_aload_n C dX0_searchFrom_56 rfl ?_
                refine j_iload C dX0_searchFrom_57 rfl ?_
                refine j_callV1i C (ct_X0_isNumber hc) gw_0_168 nd_X0_isNumber 0 0 rfl rfl rfl ⟨by decide, by decide⟩ ⟨Nat.le_of_ble_eq_true rfl, Nat.le_of_ble_eq_true rfl⟩ (Nat.le_of_ble_eq_true rfl) dX0_searchFrom_59 (fun x_1 w_1 hp => ?_)
                obtain ⟨rfl, rfl⟩ := hp
                refine jB_if_eq C 104 dX0_searchFrom_62 (by decide) (fun c_62 => ?_) (fun c_62 => ?_)
                · exact absurd (inr_lt hy (by omega)) (by rw [c_62]; decide)
                · refine j_aload_n C dX0_searchFrom_65 rfl ?_
                  refine j_iload C dX0_searchFrom_66 rfl ?_
                  refine l0_se C _ rfl (by omega) dX0_searchFrom_68 ?_
                  refine j_top _ (oI (ds y)) (hst y hy) ?_
                  refine j_iconst C (-1) dX0_searchFrom_69 (by decide) ?_
                  refine j_icmp_ne C 104 dX0_searchFrom_70 (by decide) (fun c_70 => ?_) (fun c_70 => ?_)
                  · refine j_iinc_7 C _ (nI_p1 _) dX0_searchFrom_104 ?_
                    refine j_goto C 24 dX0_searchFrom_107 (by decide) ?_
                    exact ih2 (t + 1) fo ds q ss qu _ (by omega) (by omega) (bf_keep I (fun z hz => by
                      rw [hnb] at hz; cases hz
                      exact fun w => c_70 ((oI_m1 (fun j hj => bf_dlt I.1 (by omega) _ j hj)).mpr w))) hst hqu
                  · refine j_iload C dX0_searchFrom_73 rfl ?_
                    refine j_aload_n C dX0_searchFrom_75 rfl ?_
                    refine g0_queue C dX0_searchFrom_76 ?_
                    refine n0_qu C dX0_searchFrom_79 ?_
                    refine jN_icmp_ge C 104 (by have := bf_le I.1; omega) (by omega) dX0_searchFrom_80 (by decide) (fun c_80 => ?_) (fun c_80 => ?_)
                    · exact absurd (bf_room I.1 hy ((oI_m1 (fun j hj => bf_dlt I.1 (by omega) y j hj)).mp c_70)) (by omega)
                    · refine j_aload_n C dX0_searchFrom_83 rfl ?_
                      refine j_iload C dX0_searchFrom_84 rfl ?_
                      refine j_aload_n C dX0_searchFrom_86 rfl ?_
                      refine j_iload_n C dX0_searchFrom_87 rfl ?_
                      refine l0_se C _ rfl (by omega) dX0_searchFrom_88 ?_
                      refine j_top _ (nI dx) (by rw [hst x hx, I.2.2.2.1]; rfl) ?_
                      refine j_iconst C (nI 1) dX0_searchFrom_89 (by decide) ?_
                      refine j_iadd C dX0_searchFrom_90 ?_
                      refine j_top _ _ (nI_add _ _) ?_
                      refine s0_se C _ rfl (by omega) dX0_searchFrom_91 ?_
                      refine j_aload_n C dX0_searchFrom_92 rfl ?_
                      refine g0_queue C dX0_searchFrom_93 ?_
                      refine j_iload C dX0_searchFrom_96 rfl ?_
                      refine j_iload C dX0_searchFrom_98 rfl ?_
                      refine s0_qu C _ rfl (by have := bf_room I.1 hy ((oI_m1 (fun j hj => bf_dlt I.1 (by omega) y j hj)).mp c_70); omega) dX0_searchFrom_100 ?_
                      refine j_iinc_5 C _ (nI_p1 _) dX0_searchFrom_101 ?_
                      refine j_iinc_7 C _ (nI_p1 _) dX0_searchFrom_104 ?_
                      refine j_goto C 24 dX0_searchFrom_107 (by decide) ?_
                      exact ih2 (t + 1) (fo + 1) _ _ _ _ _ (by omega) (by omega) (bf_add I (by omega) (by omega) hnb hy ((oI_m1 (fun j hj => bf_dlt I.1 (by omega) y j hj)).mp c_70)) (stR_up hst) (quR_up hqu)
        exact hI (P + 1) 0 fo ds q ss qu l8 (by omega) (by omega) I hst hqu
  refine j_iload C dX0_searchFrom_0 rfl ?_
  refine j_istore_5 C dX0_searchFrom_2 (by decide) ?_
  refine j_aload_n C dX0_searchFrom_4 rfl ?_
  refine j_iload_n C dX0_searchFrom_5 rfl ?_
  refine j_callV1v C (ct_X0_readTops hc (by omega)) gw_0_120 nd_X0_readTops 0 0 rfl rfl rfl ⟨by decide, by decide⟩ ⟨Nat.le_of_ble_eq_true rfl, Nat.le_of_ble_eq_true rfl⟩ (Nat.le_of_ble_eq_true rfl) dX0_searchFrom_6 (fun w_1 hp => ?_)
  obtain ⟨to1, hto, rfl⟩ := hp
  refine j_iconst C (nI 0) dX0_searchFrom_9 (by decide) ?_
  refine j_istore_6 C dX0_searchFrom_10 (by decide) ?_
  exact hL to1 hto (P + 1) 0 fo0 ds q ss qu _ _ (by omega) (by omega) I0 hst hqu
end
section
/-- what a search from o tells: nothing from an unlawful one -/
def srD (M P : Nat) (nb : nb_T) (o : Nat) (law : Bool) (ds : Nat → Option Nat) : Prop := (∀ y d, ds y = some d → y < M ∧ d < M) ∧ ((law = true ∧ isDs (eg P nb) o ds) ∨ (law = false ∧ ∀ y, ds y = none))
def srF (M P : Nat) (nb : nb_T) (o : Nat) (law : Bool) (fo : Nat) (ds : Nat → Option Nat) : Prop := (law = true ∧ ∃ q, bfI M P nb o fo fo ds q) ∨ (law = false ∧ fo = 0 ∧ ∀ y, ds y = none)
theorem srF_D {M P : Nat} {nb : nb_T} {o fo : Nat} {law : Bool} {ds : Nat → Option Nat} (h : srF M P nb o law fo ds) : srD M P nb o law ds := by
  rcases h with ⟨h1, q, I⟩ | ⟨h1, -, h2⟩
  · refine ⟨fun y d hd => ?_, Or.inl ⟨h1, bf_end I⟩⟩
    obtain ⟨i, hi, rfl⟩ := I.2.2.2.1 y (by rw [hd]; simp)
    obtain ⟨e, h3, h4, -⟩ := I.2.2.1 i hi
    rw [hd] at h3; cases h3
    have := bf_le I
    exact ⟨I.2.1 i hi, by omega⟩
  · exact ⟨fun y d hd => (by rw [h2 y] at hd; cases hd), Or.inr ⟨h1, h2⟩⟩
theorem srD_lt {M P : Nat} {nb : nb_T} {o : Nat} {law : Bool} {ds : Nat → Option Nat} (h : srD M P nb o law ds) (hM : M ≤ 15625) (y : Nat) : ∀ j, ds y = some j → j < 2 ^ 31 := fun j hj => by
  have := (h.1 y j hj).2
  omega
abbrev rm_X0_search : Room := { frames := 3, cells := 0, slots := 0, locals := 76 }
set_option maxHeartbeats 4000000 in
set_option maxRecDepth 100000 in
theorem ct_X0_search_f1 {l : Launch} {D : va_G} {Y : jy_T} {ad : Nat → Nat} {P N og : Nat} {ru bw : Bool} {cb al : Nat → Bool} {ss : Nat → Int32} {nw tg mc me : Int32} {tr to se qu sp : Nat → Int32} (hc : cfg P N) (ho : og < P ^ N) :
    MJ l yX0_search cX0_search 6 (some .int) rm_X0_search D Y [.ref (ad 0), .int (nI og), .ref (ad 6), .int (bi bw)] (wA Y ad (nI P) (nI N) (bi ru) nw tg mc me (fun d => nI (P ^ d)) (fun d => bi (cb d)) (fun k => bi (al k)) tr to ss se qu sp) (jI (fun r w => ∃ fo1 ds1 s1 qu1 to1, r = nI fo1 ∧ srF (P ^ N) P (nbC P N ru cb al bw) og (lawB P N ru cb og) fo1 ds1 ∧ stR (P ^ N) s1 ds1 ∧ w = (wA Y ad (nI P) (nI N) (bi ru) nw tg mc me (fun d => nI (P ^ d)) (fun d => bi (cb d)) (fun k => bi (al k)) tr to1 s1 se qu1 sp))) := by
  refine j_enter (by decide) (Nat.le_of_ble_eq_true rfl) (fun v hv => by simp only [List.mem_cons, List.not_mem_nil, or_false] at hv; rcases hv with rfl | rfl | rfl | rfl <;> rfl) (fun K hl hD hnm C R => ?_)
  subst hl; subst hD
  have C : jC cX0_search RX0 Y rm_X0_search 6 K := C
  have R : jR Y (some .int) 0 0 (jI (fun r w => ∃ fo1 ds1 s1 qu1 to1, r = nI fo1 ∧ srF (P ^ N) P (nbC P N ru cb al bw) og (lawB P N ru cb og) fo1 ds1 ∧ stR (P ^ N) s1 ds1 ∧ w = (wA Y ad (nI P) (nI N) (bi ru) nw tg mc me (fun d => nI (P ^ d)) (fun d => bi (cb d)) (fun k => bi (al k)) tr to1 s1 se qu1 sp))) K := R
  refine j_eq (lo' := [some (.ref (ad 0)), some (.int (nI og)), some (.ref (ad 6)), some (.int (bi bw)), none, none]) rfl rfl rfl ?_
  obtain ⟨hP3, hP5, hN1, hN6⟩ := id hc
  have hP0 : 0 < P := by omega
  have hp2 : P ^ N ≤ 15625 := cfg_pw hc (by omega)
  have hL2 : ∀ (m h fo : Nat) (ds : Nat → Option Nat) (q : Nat → Nat) (ss qu to : Nat → Int32), P ^ N < h + m → lawB P N ru cb og = true → bfI (P ^ N) P (nbC P N ru cb al bw) og h fo ds q → stR (P ^ N) ss ds → quR fo qu q →
      jJ K 0 0 70 [some (.ref (ad 0)), some (.int (nI og)), some (.ref (ad 6)), some (.int (bi bw)), some (.int (nI fo)), some (.int (nI h))] [] (wA Y ad (nI P) (nI N) (bi ru) nw tg mc me (fun d => nI (P ^ d)) (fun d => bi (cb d)) (fun k => bi (al k)) tr to ss se qu sp) := by
    intro m
    induction m with
    | zero => intro h fo ds q ss qu to h1 h2 I; have := I.1.1; have := bf_le I; omega
    | succ m ih =>
      intro h fo ds q ss qu to h1 hlaw I hst hqu
      refine j_iload C dX0_search_70 rfl ?_
      refine j_iload C dX0_search_72 rfl ?_
      refine jN_icmp_ge C 110 (by have := I.1.1; have := bf_le I; omega) (by have := bf_le I; omega) dX0_search_74 (by decide) (fun c_74 => ?_) (fun c_74 => ?_)
      · refine j_iload C dX0_search_110 rfl ?_
        exact j_reti C R dX0_search_112 ⟨fo, ds, ss, qu, to, rfl, Or.inl ⟨hlaw, q, by rw [show h = fo by have := I.1.1; omega] at I; exact I⟩, hst, rfl⟩
      · refine j_iload C dX0_search_77 rfl ?_
        refine j_aload_n C dX0_search_79 rfl ?_
        refine g0_queue C dX0_search_80 ?_
        refine n0_qu C dX0_search_83 ?_
        refine jN_icmp_ge C 110 (by have := bf_le I; omega) (by omega) dX0_search_84 (by decide) (fun c_84 => ?_) (fun c_84 => ?_)
        · exact absurd c_84 (by have := bf_le I; omega)
        · refine j_aload_n C dX0_search_87 rfl ?_
          refine j_aload_n C dX0_search_88 rfl ?_
          refine g0_queue C dX0_search_89 ?_
          refine j_iload C dX0_search_92 rfl ?_
          refine l0_qu C _ rfl (by have := bf_le I; omega) dX0_search_94 ?_
          refine j_top _ (nI (q h)) (hqu h c_74) ?_
          refine j_aload_n C dX0_search_95 rfl ?_
          refine j_iload_n C dX0_search_96 rfl ?_
          refine j_iload C dX0_search_97 rfl ?_
          refine j_callV4i C (ct_X0_searchFrom_f1 hc I c_74 rfl hst hqu) gw_0_171 nd_X0_searchFrom 0 0 rfl rfl rfl ⟨by decide, by decide⟩ ⟨Nat.le_of_ble_eq_true rfl, Nat.le_of_ble_eq_true rfl⟩ (Nat.le_of_ble_eq_true rfl) dX0_search_99 (fun x_1 w_1 hp => ?_)
          obtain ⟨fo1, ds1, q1, s1, qu1, to1, rfl, I1, hst1, hqu1, rfl⟩ := hp
          refine j_istore_4 C dX0_search_102 (by decide) ?_
          refine j_iinc_5 C _ (nI_p1 _) dX0_search_104 ?_
          refine j_goto C 70 dX0_search_107 (by decide) ?_
          exact ih (h + 1) fo1 ds1 q1 s1 qu1 to1 (by omega) hlaw I1 hst1 hqu1
  have hL : ∀ (m i : Nat) (ss : Nat → Int32), P ^ N < i + m → i ≤ P ^ N → (∀ y, y < i → ss y = -1) → jJ K 0 0 3 [some (.ref (ad 0)), some (.int (nI og)), some (.ref (ad 6)), some (.int (bi bw)), some (.int (nI i)), none] [] (wA Y ad (nI P) (nI N) (bi ru) nw tg mc me (fun d => nI (P ^ d)) (fun d => bi (cb d)) (fun k => bi (al k)) tr to ss se qu sp) := by
    intro m
    induction m with
    | zero => intro i ss h1 h2; omega
    | succ m ih =>
      intro i ss h1 h2 hi
      refine j_iload C dX0_search_3 rfl ?_
      refine j_aload_n C dX0_search_5 rfl ?_
      refine g0_weight C dX0_search_6 ?_
      refine j_aload_n C dX0_search_9 rfl ?_
      refine g0_diskCount C dX0_search_10 ?_
      refine l0_we C _ rfl (by omega) dX0_search_13 ?_
      refine jN_icmp_ge C 35 (by omega) (by omega) dX0_search_14 (by decide) (fun c_14 => ?_) (fun c_14 => ?_)
      · refine j_aload_n C dX0_search_35 rfl ?_
        refine j_iload_n C dX0_search_36 rfl ?_
        refine j_callV1i C (ct_X0_isNumber hc) gw_0_168 nd_X0_isNumber 0 0 rfl rfl rfl ⟨by decide, by decide⟩ ⟨Nat.le_of_ble_eq_true rfl, Nat.le_of_ble_eq_true rfl⟩ (Nat.le_of_ble_eq_true rfl) dX0_search_37 (fun x_1 w_1 hp => ?_)
        obtain ⟨rfl, rfl⟩ := hp
        refine jB_if_eq C 51 dX0_search_40 (by decide) (fun c_40 => ?_) (fun c_40 => ?_)
        · exact absurd (inr_lt ho (by omega)) (by rw [c_40]; decide)
        · refine j_aload_n C dX0_search_43 rfl ?_
          refine j_iload_n C dX0_search_44 rfl ?_
          refine j_callV1i C (ct_X0_keepsRule hc (by omega)) gw_0_124 nd_X0_keepsRule 0 0 rfl rfl rfl ⟨by decide, by decide⟩ ⟨Nat.le_of_ble_eq_true rfl, Nat.le_of_ble_eq_true rfl⟩ (Nat.le_of_ble_eq_true rfl) dX0_search_45 (fun x_1 w_1 hp => ?_)
          obtain ⟨rfl, rfl⟩ := hp
          refine jB_if_ne C 53 dX0_search_48 (by decide) (fun c_48 => ?_) (fun c_48 => ?_)
          · refine j_aload_n C dX0_search_53 rfl ?_
            refine j_iload_n C dX0_search_54 rfl ?_
            refine j_iconst C (nI 0) dX0_search_55 (by decide) ?_
            refine s0_fa C _ rfl (by omega) dX0_search_56 ?_
            refine j_aload_n C dX0_search_57 rfl ?_
            refine g0_queue C dX0_search_58 ?_
            refine j_iconst C (nI 0) dX0_search_61 (by decide) ?_
            refine j_iload_n C dX0_search_62 rfl ?_
            refine s0_qu C _ rfl (by omega) dX0_search_63 ?_
            refine j_iconst C (nI 1) dX0_search_64 (by decide) ?_
            refine j_istore_4 C dX0_search_65 (by decide) ?_
            refine j_iconst C (nI 0) dX0_search_67 (by decide) ?_
            refine j_istore_5 C dX0_search_68 (by decide) ?_
            exact hL2 (P ^ N + 1) 0 1 _ (va_up (fun _ => 0) 0 og) _ _ to (by omega) c_48 (bf_start ho up_s) (fun y hy => by
              by_cases e : y = og
              · rw [e, pk_us, up_s]; rfl
              · rw [pk_un e, up_n e]; exact hi y (by omega)) (fun j hj => by rw [show j = 0 by omega, pk_us, up_s])
          · refine j_iconst C (nI 0) dX0_search_51 (by decide) ?_
            exact j_reti C R dX0_search_52 ⟨0, fun _ => none, ss, qu, to, rfl, Or.inr ⟨c_48, rfl, fun _ => rfl⟩, fun y hy => hi y (by omega), rfl⟩
      · refine j_iload C dX0_search_17 rfl ?_
        refine j_aload_n C dX0_search_19 rfl ?_
        refine n0_fa C dX0_search_20 ?_
        refine jN_icmp_ge C 35 (by omega) (by omega) dX0_search_21 (by decide) (fun c_21 => ?_) (fun c_21 => ?_)
        · exact absurd c_21 (by omega)
        · refine j_aload_n C dX0_search_24 rfl ?_
          refine j_iload C dX0_search_25 rfl ?_
          refine j_iconst C (-1) dX0_search_27 (by decide) ?_
          refine s0_fa C _ rfl (by omega) dX0_search_28 ?_
          refine j_iinc_4 C _ (nI_p1 _) dX0_search_29 ?_
          refine j_goto C 3 dX0_search_32 (by decide) ?_
          exact ih (i + 1) (upd ss i (-1)) (by omega) (by omega) (fun y hy => by
            by_cases e : y = i
            · rw [e, pk_us]
            · rw [pk_un e]; exact hi y (by omega))
  refine j_iconst C (nI 0) dX0_search_0 (by decide) ?_
  refine j_istore_4 C dX0_search_1 (by decide) ?_
  exact hL (P ^ N + 1) 0 ss (by omega) (by omega) (fun y hy => by omega)
set_option maxHeartbeats 4000000 in
set_option maxRecDepth 100000 in
theorem ct_X0_search_s2 {l : Launch} {D : va_G} {Y : jy_T} {ad : Nat → Nat} {P N og : Nat} {ru bw : Bool} {cb al : Nat → Bool} {ss : Nat → Int32} {nw tg mc me : Int32} {tr to fa qu sp : Nat → Int32} (hc : cfg P N) (ho : og < P ^ N) :
    MJ l yX0_search cX0_search 6 (some .int) rm_X0_search D Y [.ref (ad 0), .int (nI og), .ref (ad 7), .int (bi bw)] (wA Y ad (nI P) (nI N) (bi ru) nw tg mc me (fun d => nI (P ^ d)) (fun d => bi (cb d)) (fun k => bi (al k)) tr to fa ss qu sp) (jI (fun r w => ∃ fo1 ds1 s1 qu1 to1, r = nI fo1 ∧ srF (P ^ N) P (nbC P N ru cb al bw) og (lawB P N ru cb og) fo1 ds1 ∧ stR (P ^ N) s1 ds1 ∧ w = (wA Y ad (nI P) (nI N) (bi ru) nw tg mc me (fun d => nI (P ^ d)) (fun d => bi (cb d)) (fun k => bi (al k)) tr to1 fa s1 qu1 sp))) := by
  refine j_enter (by decide) (Nat.le_of_ble_eq_true rfl) (fun v hv => by simp only [List.mem_cons, List.not_mem_nil, or_false] at hv; rcases hv with rfl | rfl | rfl | rfl <;> rfl) (fun K hl hD hnm C R => ?_)
  subst hl; subst hD
  have C : jC cX0_search RX0 Y rm_X0_search 6 K := C
  have R : jR Y (some .int) 0 0 (jI (fun r w => ∃ fo1 ds1 s1 qu1 to1, r = nI fo1 ∧ srF (P ^ N) P (nbC P N ru cb al bw) og (lawB P N ru cb og) fo1 ds1 ∧ stR (P ^ N) s1 ds1 ∧ w = (wA Y ad (nI P) (nI N) (bi ru) nw tg mc me (fun d => nI (P ^ d)) (fun d => bi (cb d)) (fun k => bi (al k)) tr to1 fa s1 qu1 sp))) K := R
  refine j_eq (lo' := [some (.ref (ad 0)), some (.int (nI og)), some (.ref (ad 7)), some (.int (bi bw)), none, none]) rfl rfl rfl ?_
  obtain ⟨hP3, hP5, hN1, hN6⟩ := id hc
  have hP0 : 0 < P := by omega
  have hp2 : P ^ N ≤ 15625 := cfg_pw hc (by omega)
  have hL2 : ∀ (m h fo : Nat) (ds : Nat → Option Nat) (q : Nat → Nat) (ss qu to : Nat → Int32), P ^ N < h + m → lawB P N ru cb og = true → bfI (P ^ N) P (nbC P N ru cb al bw) og h fo ds q → stR (P ^ N) ss ds → quR fo qu q →
      jJ K 0 0 70 [some (.ref (ad 0)), some (.int (nI og)), some (.ref (ad 7)), some (.int (bi bw)), some (.int (nI fo)), some (.int (nI h))] [] (wA Y ad (nI P) (nI N) (bi ru) nw tg mc me (fun d => nI (P ^ d)) (fun d => bi (cb d)) (fun k => bi (al k)) tr to fa ss qu sp) := by
    intro m
    induction m with
    | zero => intro h fo ds q ss qu to h1 h2 I; have := I.1.1; have := bf_le I; omega
    | succ m ih =>
      intro h fo ds q ss qu to h1 hlaw I hst hqu
      refine j_iload C dX0_search_70 rfl ?_
      refine j_iload C dX0_search_72 rfl ?_
      refine jN_icmp_ge C 110 (by have := I.1.1; have := bf_le I; omega) (by have := bf_le I; omega) dX0_search_74 (by decide) (fun c_74 => ?_) (fun c_74 => ?_)
      · refine j_iload C dX0_search_110 rfl ?_
        exact j_reti C R dX0_search_112 ⟨fo, ds, ss, qu, to, rfl, Or.inl ⟨hlaw, q, by rw [show h = fo by have := I.1.1; omega] at I; exact I⟩, hst, rfl⟩
      · refine j_iload C dX0_search_77 rfl ?_
        refine j_aload_n C dX0_search_79 rfl ?_
        refine g0_queue C dX0_search_80 ?_
        refine n0_qu C dX0_search_83 ?_
        refine jN_icmp_ge C 110 (by have := bf_le I; omega) (by omega) dX0_search_84 (by decide) (fun c_84 => ?_) (fun c_84 => ?_)
        · exact absurd c_84 (by have := bf_le I; omega)
        · refine j_aload_n C dX0_search_87 rfl ?_
          refine j_aload_n C dX0_search_88 rfl ?_
          refine g0_queue C dX0_search_89 ?_
          refine j_iload C dX0_search_92 rfl ?_
          refine l0_qu C _ rfl (by have := bf_le I; omega) dX0_search_94 ?_
          refine j_top _ (nI (q h)) (hqu h c_74) ?_
          refine j_aload_n C dX0_search_95 rfl ?_
          refine j_iload_n C dX0_search_96 rfl ?_
          refine j_iload C dX0_search_97 rfl ?_
          refine j_callV4i C (ct_X0_searchFrom_s2 hc I c_74 rfl hst hqu) gw_0_171 nd_X0_searchFrom 0 0 rfl rfl rfl ⟨by decide, by decide⟩ ⟨Nat.le_of_ble_eq_true rfl, Nat.le_of_ble_eq_true rfl⟩ (Nat.le_of_ble_eq_true rfl) dX0_search_99 (fun x_1 w_1 hp => ?_)
          obtain ⟨fo1, ds1, q1, s1, qu1, to1, rfl, I1, hst1, hqu1, rfl⟩ := hp
          refine j_istore_4 C dX0_search_102 (by decide) ?_
          refine j_iinc_5 C _ (nI_p1 _) dX0_search_104 ?_
          refine j_goto C 70 dX0_search_107 (by decide) ?_
          exact ih (h + 1) fo1 ds1 q1 s1 qu1 to1 (by omega) hlaw I1 hst1 hqu1
  have hL : ∀ (m i : Nat) (ss : Nat → Int32), P ^ N < i + m → i ≤ P ^ N → (∀ y, y < i → ss y = -1) → jJ K 0 0 3 [some (.ref (ad 0)), some (.int (nI og)), some (.ref (ad 7)), some (.int (bi bw)), some (.int (nI i)), none] [] (wA Y ad (nI P) (nI N) (bi ru) nw tg mc me (fun d => nI (P ^ d)) (fun d => bi (cb d)) (fun k => bi (al k)) tr to fa ss qu sp) := by
    intro m
    induction m with
    | zero => intro i ss h1 h2; omega
    | succ m ih =>
      intro i ss h1 h2 hi
      refine j_iload C dX0_search_3 rfl ?_
      refine j_aload_n C dX0_search_5 rfl ?_
      refine g0_weight C dX0_search_6 ?_
      refine j_aload_n C dX0_search_9 rfl ?_
      refine g0_diskCount C dX0_search_10 ?_
      refine l0_we C _ rfl (by omega) dX0_search_13 ?_
      refine jN_icmp_ge C 35 (by omega) (by omega) dX0_search_14 (by decide) (fun c_14 => ?_) (fun c_14 => ?_)
      · refine j_aload_n C dX0_search_35 rfl ?_
        refine j_iload_n C dX0_search_36 rfl ?_
        refine j_callV1i C (ct_X0_isNumber hc) gw_0_168 nd_X0_isNumber 0 0 rfl rfl rfl ⟨by decide, by decide⟩ ⟨Nat.le_of_ble_eq_true rfl, Nat.le_of_ble_eq_true rfl⟩ (Nat.le_of_ble_eq_true rfl) dX0_search_37 (fun x_1 w_1 hp => ?_)
        obtain ⟨rfl, rfl⟩ := hp
        refine jB_if_eq C 51 dX0_search_40 (by decide) (fun c_40 => ?_) (fun c_40 => ?_)
        · exact absurd (inr_lt ho (by omega)) (by rw [c_40]; decide)
        · refine j_aload_n C dX0_search_43 rfl ?_
          refine j_iload_n C dX0_search_44 rfl ?_
          refine j_callV1i C (ct_X0_keepsRule hc (by omega)) gw_0_124 nd_X0_keepsRule 0 0 rfl rfl rfl ⟨by decide, by decide⟩ ⟨Nat.le_of_ble_eq_true rfl, Nat.le_of_ble_eq_true rfl⟩ (Nat.le_of_ble_eq_true rfl) dX0_search_45 (fun x_1 w_1 hp => ?_)
          obtain ⟨rfl, rfl⟩ := hp
          refine jB_if_ne C 53 dX0_search_48 (by decide) (fun c_48 => ?_) (fun c_48 => ?_)
          · refine j_aload_n C dX0_search_53 rfl ?_
            refine j_iload_n C dX0_search_54 rfl ?_
            refine j_iconst C (nI 0) dX0_search_55 (by decide) ?_
            refine s0_se C _ rfl (by omega) dX0_search_56 ?_
            refine j_aload_n C dX0_search_57 rfl ?_
            refine g0_queue C dX0_search_58 ?_
            refine j_iconst C (nI 0) dX0_search_61 (by decide) ?_
            refine j_iload_n C dX0_search_62 rfl ?_
            refine s0_qu C _ rfl (by omega) dX0_search_63 ?_
            refine j_iconst C (nI 1) dX0_search_64 (by decide) ?_
            refine j_istore_4 C dX0_search_65 (by decide) ?_
            refine j_iconst C (nI 0) dX0_search_67 (by decide) ?_
            refine j_istore_5 C dX0_search_68 (by decide) ?_
            exact hL2 (P ^ N + 1) 0 1 _ (va_up (fun _ => 0) 0 og) _ _ to (by omega) c_48 (bf_start ho up_s) (fun y hy => by
              by_cases e : y = og
              · rw [e, pk_us, up_s]; rfl
              · rw [pk_un e, up_n e]; exact hi y (by omega)) (fun j hj => by rw [show j = 0 by omega, pk_us, up_s])
          · refine j_iconst C (nI 0) dX0_search_51 (by decide) ?_
            exact j_reti C R dX0_search_52 ⟨0, fun _ => none, ss, qu, to, rfl, Or.inr ⟨c_48, rfl, fun _ => rfl⟩, fun y hy => hi y (by omega), rfl⟩
      · refine j_iload C dX0_search_17 rfl ?_
        refine j_aload_n C dX0_search_19 rfl ?_
        refine n0_se C dX0_search_20 ?_
        refine jN_icmp_ge C 35 (by omega) (by omega) dX0_search_21 (by decide) (fun c_21 => ?_) (fun c_21 => ?_)
        · exact absurd c_21 (by omega)
        · refine j_aload_n C dX0_search_24 rfl ?_
          refine j_iload C dX0_search_25 rfl ?_
          refine j_iconst C (-1) dX0_search_27 (by decide) ?_
          refine s0_se C _ rfl (by omega) dX0_search_28 ?_
          refine j_iinc_4 C _ (nI_p1 _) dX0_search_29 ?_
          refine j_goto C 3 dX0_search_32 (by decide) ?_
          exact ih (i + 1) (upd ss i (-1)) (by omega) (by omega) (fun y hy => by
            by_cases e : y = i
            · rw [e, pk_us]
            · rw [pk_un e]; exact hi y (by omega))
  refine j_iconst C (nI 0) dX0_search_0 (by decide) ?_
  refine j_istore_4 C dX0_search_1 (by decide) ?_
  exact hL (P ^ N + 1) 0 ss (by omega) (by omega) (fun y hy => by omega)
/-- the row far holds the ways to the goal b -/
def farOk (P N : Nat) (ru : Bool) (cb al : Nat → Bool) (b : Nat) (fa : Nat → Int32) : Prop := ∃ ds, srD (P ^ N) P (nbC P N ru cb al true) b (lawB P N ru cb b) ds ∧ stR (P ^ N) fa ds
abbrev rm_X0_wayFrom : Room := { frames := 4, cells := 0, slots := 0, locals := 101 }
set_option maxHeartbeats 4000000 in
set_option maxRecDepth 100000 in
theorem ct_X0_wayFrom {l : Launch} {D : va_G} {Y : jy_T} {ad : Nat → Nat} {P N b x : Nat} {ru me : Bool} {cb al : Nat → Bool} {nw mc : Int32} {tr to fa se qu sp : Nat → Int32} (hc : cfg P N) (hb : b < P ^ N) (hx : x < P ^ N) (hm : me = true → farOk P N ru cb al b fa) :
    MJ l yX0_wayFrom cX0_wayFrom 2 (some .int) rm_X0_wayFrom D Y [.ref (ad 0), .int (nI x)] (wA Y ad (nI P) (nI N) (bi ru) nw (nI b) mc (bi me) (fun d => nI (P ^ d)) (fun d => bi (cb d)) (fun k => bi (al k)) tr to fa se qu sp) (jI (fun r w => ∃ ds1 fa1 qu1 to1, r = oI (ds1 x) ∧ srD (P ^ N) P (nbC P N ru cb al true) b (lawB P N ru cb b) ds1 ∧ stR (P ^ N) fa1 ds1 ∧ w = (wA Y ad (nI P) (nI N) (bi ru) nw (nI b) mc (bi true) (fun d => nI (P ^ d)) (fun d => bi (cb d)) (fun k => bi (al k)) tr to1 fa1 se qu1 sp))) := by
  refine j_enter (by decide) (Nat.le_of_ble_eq_true rfl) (fun v hv => by simp only [List.mem_cons, List.not_mem_nil, or_false] at hv; rcases hv with rfl | rfl <;> rfl) (fun K hl hD hnm C R => ?_)
  subst hl; subst hD
  have C : jC cX0_wayFrom RX0 Y rm_X0_wayFrom 2 K := C
  have R : jR Y (some .int) 0 0 (jI (fun r w => ∃ ds1 fa1 qu1 to1, r = oI (ds1 x) ∧ srD (P ^ N) P (nbC P N ru cb al true) b (lawB P N ru cb b) ds1 ∧ stR (P ^ N) fa1 ds1 ∧ w = (wA Y ad (nI P) (nI N) (bi ru) nw (nI b) mc (bi true) (fun d => nI (P ^ d)) (fun d => bi (cb d)) (fun k => bi (al k)) tr to1 fa1 se qu1 sp))) K := R
  refine j_eq (lo' := [some (.ref (ad 0)), some (.int (nI x))]) rfl rfl rfl ?_
  obtain ⟨hP3, hP5, hN1, hN6⟩ := id hc
  have hp2 : P ^ N ≤ 15625 := cfg_pw hc (by omega)
  have hT : ∀ (ds1 : Nat → Option Nat) (fa qu to : Nat → Int32), srD (P ^ N) P (nbC P N ru cb al true) b (lawB P N ru cb b) ds1 → stR (P ^ N) fa ds1 → jJ K 0 0 26 [some (.ref (ad 0)), some (.int (nI x))] [] (wA Y ad (nI P) (nI N) (bi ru) nw (nI b) mc (bi true) (fun d => nI (P ^ d)) (fun d => bi (cb d)) (fun k => bi (al k)) tr to fa se qu sp) := by
    intro ds1 fa qu to hsr hst1
    refine j_aload_n C dX0_wayFrom_26 rfl ?_
    refine j_iload_n C dX0_wayFrom_27 rfl ?_
    refine j_callV1i C (ct_X0_isNumber hc) gw_0_168 nd_X0_isNumber 0 0 rfl rfl rfl ⟨by decide, by decide⟩ ⟨Nat.le_of_ble_eq_true rfl, Nat.le_of_ble_eq_true rfl⟩ (Nat.le_of_ble_eq_true rfl) dX0_wayFrom_28 (fun x_1 w_1 hp => ?_)
    obtain ⟨rfl, rfl⟩ := hp
    refine jB_if_eq C 43 dX0_wayFrom_31 (by decide) (fun c_31 => ?_) (fun c_31 => ?_)
    · exact absurd (inr_lt hx (by omega)) (by rw [c_31]; decide)
    · refine j_aload_n C dX0_wayFrom_34 rfl ?_
      refine g0_far C dX0_wayFrom_35 ?_
      refine j_iload_n C dX0_wayFrom_38 rfl ?_
      refine l0_fa C _ rfl (by omega) dX0_wayFrom_39 ?_
      refine j_top _ (oI (ds1 x)) (hst1 x hx) ?_
      refine j_goto C 44 dX0_wayFrom_40 (by decide) ?_
      exact j_reti C R dX0_wayFrom_44 ⟨ds1, fa, qu, to, rfl, hsr, hst1, rfl⟩
  refine j_aload_n C dX0_wayFrom_0 rfl ?_
  refine g0_measured C dX0_wayFrom_1 ?_
  refine jB_if_ne C 26 dX0_wayFrom_4 (by decide) (fun c_4 => ?_) (fun c_4 => ?_)
  · subst c_4
    obtain ⟨ds1, hsr, hst1⟩ := hm rfl
    exact hT ds1 fa qu to hsr hst1
  · refine j_aload_n C dX0_wayFrom_7 rfl ?_
    refine j_aload_n C dX0_wayFrom_8 rfl ?_
    refine g0_target C dX0_wayFrom_9 ?_
    refine j_aload_n C dX0_wayFrom_12 rfl ?_
    refine g0_far C dX0_wayFrom_13 ?_
    refine j_iconst C (bi true) dX0_wayFrom_16 (by decide) ?_
    refine j_callV3i C (ct_X0_search_f1 hc hb) gw_0_150 nd_X0_search 0 0 rfl rfl rfl ⟨by decide, by decide⟩ ⟨Nat.le_of_ble_eq_true rfl, Nat.le_of_ble_eq_true rfl⟩ (Nat.le_of_ble_eq_true rfl) dX0_wayFrom_17 (fun x_1 w_1 hp => ?_)
    obtain ⟨fo1, ds1, s1, qu1, to1, rfl, hsr, hst1, rfl⟩ := hp
    refine j_pop C dX0_wayFrom_20 rfl ?_
    refine j_aload_n C dX0_wayFrom_21 rfl ?_
    refine j_iconst C (bi true) dX0_wayFrom_22 (by decide) ?_
    refine p0_measured C dX0_wayFrom_23 ?_
    exact hT ds1 s1 qu1 to1 (srF_D hsr) hst1
end
section
theorem oI_nI {o : Option Nat} {d : Nat} (h : ∀ j, o = some j → j < 2 ^ 31) (hd : d < 2 ^ 31) : oI o = nI d ↔ o = some d := by
  cases o with
  | none =>
    refine ⟨fun q => ?_, fun q => by cases q⟩
    have h1 : (nI d).toInt = (-1 : Int32).toInt := by rw [show nI d = -1 from q.symm]
    rw [nI_toInt hd, show (-1 : Int32).toInt = -1 by decide] at h1
    omega
  | some j => exact ⟨fun q => by rw [(nI_eq (h j rfl) hd).mp q], fun q => by cases q; rfl⟩
theorem oI_ge1 {o : Option Nat} (h : ∀ j, o = some j → j < 2 ^ 31) : nI 1 ≤ oI o ↔ ∃ d, o = some (d + 1) := by
  cases o with
  | none => exact ⟨fun q => absurd q (by decide), fun ⟨d, q⟩ => by cases q⟩
  | some j =>
    show nI 1 ≤ nI j ↔ _
    rw [nI_leI (by omega) (h j rfl)]
    refine ⟨fun q => ⟨j - 1, by rw [show j - 1 + 1 = j by omega]⟩, fun ⟨d, q⟩ => by cases q; omega⟩
theorem srD_one {M P : Nat} {nb : nb_T} {o : Nat} {law : Bool} {ds ds2 : Nat → Option Nat} (h : srD M P nb o law ds) (h2 : srD M P nb o law ds2) (y : Nat) : ds y = ds2 y := by
  rcases h.2 with ⟨a, b⟩ | ⟨a, b⟩ <;> rcases h2.2 with ⟨c, d⟩ | ⟨c, d⟩
  · exact isDs_one b d y
  · rw [a] at c; cases c
  · rw [a] at c; cases c
  · rw [b, d]
theorem pr_lt {f t P : Nat} (hf : f < P) (ht : t < P) : f * P + t < P * P := by
  have h : (f + 1) * P ≤ P * P := Nat.mul_le_mul_right P hf
  rw [Nat.succ_mul] at h
  omega
theorem pr_div {f t P : Nat} (ht : t < P) : (f * P + t) / P = f := by
  rw [Nat.mul_comm, Nat.mul_add_div (by omega), Nat.div_eq_of_lt ht]; rfl
theorem pr_mod {f t P : Nat} (ht : t < P) : (f * P + t) % P = t := by
  rw [Nat.mul_comm, Nat.mul_add_mod, Nat.mod_eq_of_lt ht]
/-- the first pair of pegs, f ahead of t, that is as wanted -/
def nxF (P : Nat) (q : Nat → Nat → Bool) : Nat → Nat := fun k => if q (k / P) (k % P) = true then 1 else 0
def nxO (P : Nat) (o : Option Nat) : Int32 := match o with | none => -1 | some k => nI (10 * (k / P) + k % P)
def nxV (P : Nat) (q : Nat → Nat → Bool) : Int32 := nxO P (frm (nxF P q) 1 0 (P * P))
theorem nx_hit {P f t : Nat} {q : Nat → Nat → Bool} (hf : f < P) (ht : t < P) (h : q f t = true) : nxO P (frm (nxF P q) 1 (f * P + t) (P * P)) = nI (10 * f + t) := by
  rw [frm_hit (pr_lt hf ht) (by unfold nxF; rw [pr_div ht, pr_mod ht, if_pos h])]
  show nI (10 * ((f * P + t) / P) + (f * P + t) % P) = _
  rw [pr_div ht, pr_mod ht]
theorem nx_step {P f t : Nat} {q : Nat → Nat → Bool} (hf : f < P) (ht : t < P) (h : ¬ q f t = true) : frm (nxF P q) 1 (f * P + t) (P * P) = frm (nxF P q) 1 (f * P + (t + 1)) (P * P) := by
  rw [frm_step (pr_lt hf ht) (by unfold nxF; rw [pr_div ht, pr_mod ht, if_neg h]; omega)]; rfl
def nxC (P N : Nat) (ru : Bool) (cb al : Nat → Bool) (ds : Nat → Option Nat) (a : Nat) : Int32 := match ds a with
  | none => -1
  | some 0 => -1
  | some (d + 1) => nxV P (fun f t => psB P N ru cb al a f t && decide (ds (mv P N a f t) = some d))
abbrev rm_X0_pegs : Room := { frames := 0, cells := 0, slots := 0, locals := 0 }
set_option maxHeartbeats 4000000 in
set_option maxRecDepth 100000 in
theorem ct_X0_pegs {l : Launch} {D : va_G} {Y : jy_T} {ad : Nat → Nat} {p n ru nw tg mc me : Int32} {we co al tr to fa se qu sp : Nat → Int32} :
    MJ l yX0_pegs cX0_pegs 1 (some .int) rm_X0_pegs D Y [.ref (ad 0)] (wA Y ad p n ru nw tg mc me we co al tr to fa se qu sp) (jI (fun r w => r = p ∧ w = (wA Y ad p n ru nw tg mc me we co al tr to fa se qu sp))) := by
  refine j_enter (by decide) (Nat.le_of_ble_eq_true rfl) (fun v hv => by rw [List.mem_singleton.mp hv]; rfl) (fun K hl hD hnm C R => ?_)
  subst hl; subst hD
  have C : jC cX0_pegs RX0 Y rm_X0_pegs 1 K := C
  have R : jR Y (some .int) 0 0 (jI (fun r w => r = p ∧ w = (wA Y ad p n ru nw tg mc me we co al tr to fa se qu sp))) K := R
  refine j_eq (lo' := [some (.ref (ad 0))]) rfl rfl rfl ?_
  refine j_aload_n C dX0_pegs_0 rfl ?_
  refine g0_pegCount C dX0_pegs_1 ?_
  exact j_reti C R dX0_pegs_4 ⟨rfl, rfl⟩
abbrev rm_X0_disks : Room := { frames := 0, cells := 0, slots := 0, locals := 0 }
set_option maxHeartbeats 4000000 in
set_option maxRecDepth 100000 in
theorem ct_X0_disks {l : Launch} {D : va_G} {Y : jy_T} {ad : Nat → Nat} {p n ru nw tg mc me : Int32} {we co al tr to fa se qu sp : Nat → Int32} :
    MJ l yX0_disks cX0_disks 1 (some .int) rm_X0_disks D Y [.ref (ad 0)] (wA Y ad p n ru nw tg mc me we co al tr to fa se qu sp) (jI (fun r w => r = n ∧ w = (wA Y ad p n ru nw tg mc me we co al tr to fa se qu sp))) := by
  refine j_enter (by decide) (Nat.le_of_ble_eq_true rfl) (fun v hv => by rw [List.mem_singleton.mp hv]; rfl) (fun K hl hD hnm C R => ?_)
  subst hl; subst hD
  have C : jC cX0_disks RX0 Y rm_X0_disks 1 K := C
  have R : jR Y (some .int) 0 0 (jI (fun r w => r = n ∧ w = (wA Y ad p n ru nw tg mc me we co al tr to fa se qu sp))) K := R
  refine j_eq (lo' := [some (.ref (ad 0))]) rfl rfl rfl ?_
  refine j_aload_n C dX0_disks_0 rfl ?_
  refine g0_diskCount C dX0_disks_1 ?_
  exact j_reti C R dX0_disks_4 ⟨rfl, rfl⟩
abbrev rm_X0_moves : Room := { frames := 0, cells := 0, slots := 0, locals := 0 }
set_option maxHeartbeats 4000000 in
set_option maxRecDepth 100000 in
theorem ct_X0_moves {l : Launch} {D : va_G} {Y : jy_T} {ad : Nat → Nat} {p n ru nw tg mc me : Int32} {we co al tr to fa se qu sp : Nat → Int32} :
    MJ l yX0_moves cX0_moves 1 (some .int) rm_X0_moves D Y [.ref (ad 0)] (wA Y ad p n ru nw tg mc me we co al tr to fa se qu sp) (jI (fun r w => r = mc ∧ w = (wA Y ad p n ru nw tg mc me we co al tr to fa se qu sp))) := by
  refine j_enter (by decide) (Nat.le_of_ble_eq_true rfl) (fun v hv => by rw [List.mem_singleton.mp hv]; rfl) (fun K hl hD hnm C R => ?_)
  subst hl; subst hD
  have C : jC cX0_moves RX0 Y rm_X0_moves 1 K := C
  have R : jR Y (some .int) 0 0 (jI (fun r w => r = mc ∧ w = (wA Y ad p n ru nw tg mc me we co al tr to fa se qu sp))) K := R
  refine j_eq (lo' := [some (.ref (ad 0))]) rfl rfl rfl ?_
  refine j_aload_n C dX0_moves_0 rfl ?_
  refine g0_moveCount C dX0_moves_1 ?_
  exact j_reti C R dX0_moves_4 ⟨rfl, rfl⟩
abbrev rm_X0_arrangement : Room := { frames := 0, cells := 0, slots := 0, locals := 0 }
set_option maxHeartbeats 4000000 in
set_option maxRecDepth 100000 in
theorem ct_X0_arrangement {l : Launch} {D : va_G} {Y : jy_T} {ad : Nat → Nat} {p n ru nw tg mc me : Int32} {we co al tr to fa se qu sp : Nat → Int32} :
    MJ l yX0_arrangement cX0_arrangement 1 (some .int) rm_X0_arrangement D Y [.ref (ad 0)] (wA Y ad p n ru nw tg mc me we co al tr to fa se qu sp) (jI (fun r w => r = nw ∧ w = (wA Y ad p n ru nw tg mc me we co al tr to fa se qu sp))) := by
  refine j_enter (by decide) (Nat.le_of_ble_eq_true rfl) (fun v hv => by rw [List.mem_singleton.mp hv]; rfl) (fun K hl hD hnm C R => ?_)
  subst hl; subst hD
  have C : jC cX0_arrangement RX0 Y rm_X0_arrangement 1 K := C
  have R : jR Y (some .int) 0 0 (jI (fun r w => r = nw ∧ w = (wA Y ad p n ru nw tg mc me we co al tr to fa se qu sp))) K := R
  refine j_eq (lo' := [some (.ref (ad 0))]) rfl rfl rfl ?_
  refine j_aload_n C dX0_arrangement_0 rfl ?_
  refine g0_now C dX0_arrangement_1 ?_
  exact j_reti C R dX0_arrangement_4 ⟨rfl, rfl⟩
abbrev rm_X0_goal : Room := { frames := 0, cells := 0, slots := 0, locals := 0 }
set_option maxHeartbeats 4000000 in
set_option maxRecDepth 100000 in
theorem ct_X0_goal {l : Launch} {D : va_G} {Y : jy_T} {ad : Nat → Nat} {p n ru nw tg mc me : Int32} {we co al tr to fa se qu sp : Nat → Int32} :
    MJ l yX0_goal cX0_goal 1 (some .int) rm_X0_goal D Y [.ref (ad 0)] (wA Y ad p n ru nw tg mc me we co al tr to fa se qu sp) (jI (fun r w => r = tg ∧ w = (wA Y ad p n ru nw tg mc me we co al tr to fa se qu sp))) := by
  refine j_enter (by decide) (Nat.le_of_ble_eq_true rfl) (fun v hv => by rw [List.mem_singleton.mp hv]; rfl) (fun K hl hD hnm C R => ?_)
  subst hl; subst hD
  have C : jC cX0_goal RX0 Y rm_X0_goal 1 K := C
  have R : jR Y (some .int) 0 0 (jI (fun r w => r = tg ∧ w = (wA Y ad p n ru nw tg mc me we co al tr to fa se qu sp))) K := R
  refine j_eq (lo' := [some (.ref (ad 0))]) rfl rfl rfl ?_
  refine j_aload_n C dX0_goal_0 rfl ?_
  refine g0_target C dX0_goal_1 ?_
  exact j_reti C R dX0_goal_4 ⟨rfl, rfl⟩
abbrev rm_X0_layStart : Room := { frames := 0, cells := 0, slots := 0, locals := 0 }
set_option maxHeartbeats 4000000 in
set_option maxRecDepth 100000 in
theorem ct_X0_layStart {l : Launch} {D : va_G} {Y : jy_T} {ad : Nat → Nat} {p n ru nw tg mc me : Int32} {we co al tr to fa se qu sp : Nat → Int32} :
    MJ l yX0_layStart cX0_layStart 2 (some .int) rm_X0_layStart D Y [.ref (ad 0)] (wA Y ad p n ru nw tg mc me we co al tr to fa se qu sp) (jI (fun r w => r = mc ∧ w = (wA Y ad p n ru nw tg (nI 0) me we co al tr to fa se qu sp))) := by
  refine j_enter (by decide) (Nat.le_of_ble_eq_true rfl) (fun v hv => by rw [List.mem_singleton.mp hv]; rfl) (fun K hl hD hnm C R => ?_)
  subst hl; subst hD
  have C : jC cX0_layStart RX0 Y rm_X0_layStart 2 K := C
  have R : jR Y (some .int) 0 0 (jI (fun r w => r = mc ∧ w = (wA Y ad p n ru nw tg (nI 0) me we co al tr to fa se qu sp))) K := R
  refine j_eq (lo' := [some (.ref (ad 0)), none]) rfl rfl rfl ?_
  refine j_aload_n C dX0_layStart_0 rfl ?_
  refine g0_moveCount C dX0_layStart_1 ?_
  refine j_istore_1 C dX0_layStart_4 (by decide) ?_
  refine j_aload_n C dX0_layStart_5 rfl ?_
  refine j_iconst C (nI 0) dX0_layStart_6 (by decide) ?_
  refine p0_moveCount C dX0_layStart_7 ?_
  refine j_iload_n C dX0_layStart_10 rfl ?_
  exact j_reti C R dX0_layStart_11 ⟨rfl, rfl⟩
abbrev rm_X0_setRule : Room := { frames := 0, cells := 0, slots := 0, locals := 0 }
set_option maxHeartbeats 4000000 in
set_option maxRecDepth 100000 in
theorem ct_X0_setRule {l : Launch} {D : va_G} {Y : jy_T} {ad : Nat → Nat} {ru me on : Bool} {p n nw tg mc : Int32} {we co al tr to fa se qu sp : Nat → Int32} :
    MJ l yX0_setRule cX0_setRule 3 (some .boolean) rm_X0_setRule D Y [.ref (ad 0), .int (bi on)] (wA Y ad p n (bi ru) nw tg mc (bi me) we co al tr to fa se qu sp) (jI (fun r w => r = bi ru ∧ w = (wA Y ad p n (bi on) nw tg mc (bi false) we co al tr to fa se qu sp))) := by
  refine j_enter (by decide) (Nat.le_of_ble_eq_true rfl) (fun v hv => by simp only [List.mem_cons, List.not_mem_nil, or_false] at hv; rcases hv with rfl | rfl <;> rfl) (fun K hl hD hnm C R => ?_)
  subst hl; subst hD
  have C : jC cX0_setRule RX0 Y rm_X0_setRule 3 K := C
  have R : jR Y (some .boolean) 0 0 (jI (fun r w => r = bi ru ∧ w = (wA Y ad p n (bi on) nw tg mc (bi false) we co al tr to fa se qu sp))) K := R
  refine j_eq (lo' := [some (.ref (ad 0)), some (.int (bi on)), none]) rfl rfl rfl ?_
  refine j_aload_n C dX0_setRule_0 rfl ?_
  refine g0_ruleOn C dX0_setRule_1 ?_
  refine j_istore_2 C dX0_setRule_4 (by decide) ?_
  refine j_aload_n C dX0_setRule_5 rfl ?_
  refine j_iload_n C dX0_setRule_6 rfl ?_
  refine p0_ruleOn C dX0_setRule_7 ?_
  refine j_aload_n C dX0_setRule_10 rfl ?_
  refine j_iconst C (bi false) dX0_setRule_11 (by decide) ?_
  refine p0_measured C dX0_setRule_12 ?_
  refine j_iload_n C dX0_setRule_15 rfl ?_
  exact j_retz C R dX0_setRule_16 (bi_nar _) ⟨rfl, rfl⟩
abbrev rm_X0_isLawful : Room := { frames := 3, cells := 0, slots := 0, locals := 69 }
set_option maxHeartbeats 4000000 in
set_option maxRecDepth 100000 in
theorem ct_X0_isLawful {l : Launch} {D : va_G} {Y : jy_T} {ad : Nat → Nat} {P N a : Nat} {ru : Bool} {cb : Nat → Bool} {tg mc me : Int32} {al tr to fa se qu sp : Nat → Int32} (hc : cfg P N) (ha : a < P ^ N) :
    MJ l yX0_isLawful cX0_isLawful 1 (some .boolean) rm_X0_isLawful D Y [.ref (ad 0)] (wA Y ad (nI P) (nI N) (bi ru) (nI a) tg mc me (fun d => nI (P ^ d)) (fun d => bi (cb d)) al tr to fa se qu sp) (jI (fun r w => r = bi (lawB P N ru cb a) ∧ w = (wA Y ad (nI P) (nI N) (bi ru) (nI a) tg mc me (fun d => nI (P ^ d)) (fun d => bi (cb d)) al tr to fa se qu sp))) := by
  refine j_enter (by decide) (Nat.le_of_ble_eq_true rfl) (fun v hv => by rw [List.mem_singleton.mp hv]; rfl) (fun K hl hD hnm C R => ?_)
  subst hl; subst hD
  have C : jC cX0_isLawful RX0 Y rm_X0_isLawful 1 K := C
  have R : jR Y (some .boolean) 0 0 (jI (fun r w => r = bi (lawB P N ru cb a) ∧ w = (wA Y ad (nI P) (nI N) (bi ru) (nI a) tg mc me (fun d => nI (P ^ d)) (fun d => bi (cb d)) al tr to fa se qu sp))) K := R
  refine j_eq (lo' := [some (.ref (ad 0))]) rfl rfl rfl ?_
  obtain ⟨hP3, hP5, hN1, hN6⟩ := id hc
  have hp2 : P ^ N ≤ 15625 := cfg_pw hc (by omega)
  refine j_aload_n C dX0_isLawful_0 rfl ?_
  refine j_aload_n C dX0_isLawful_1 rfl ?_
  refine g0_now C dX0_isLawful_2 ?_
  refine j_callV1i C (ct_X0_keepsRule hc (by omega)) gw_0_124 nd_X0_keepsRule 0 0 rfl rfl rfl ⟨by decide, by decide⟩ ⟨Nat.le_of_ble_eq_true rfl, Nat.le_of_ble_eq_true rfl⟩ (Nat.le_of_ble_eq_true rfl) dX0_isLawful_5 (fun x_1 w_1 hp => ?_)
  obtain ⟨rfl, rfl⟩ := hp
  exact j_retz C R dX0_isLawful_8 (bi_nar _) ⟨rfl, rfl⟩
abbrev rm_X0_way : Room := { frames := 5, cells := 0, slots := 0, locals := 122 }
set_option maxHeartbeats 4000000 in
set_option maxRecDepth 100000 in
theorem ct_X0_way {l : Launch} {D : va_G} {Y : jy_T} {ad : Nat → Nat} {P N a b : Nat} {ru me : Bool} {cb al : Nat → Bool} {mc : Int32} {tr to fa se qu sp : Nat → Int32} (hc : cfg P N) (ha : a < P ^ N) (hb : b < P ^ N) (hm : me = true → farOk P N ru cb al b fa) :
    MJ l yX0_way cX0_way 1 (some .int) rm_X0_way D Y [.ref (ad 0)] (wA Y ad (nI P) (nI N) (bi ru) (nI a) (nI b) mc (bi me) (fun d => nI (P ^ d)) (fun d => bi (cb d)) (fun k => bi (al k)) tr to fa se qu sp) (jI (fun r w => ∃ ds1 fa1 qu1 to1, r = oI (ds1 a) ∧ srD (P ^ N) P (nbC P N ru cb al true) b (lawB P N ru cb b) ds1 ∧ stR (P ^ N) fa1 ds1 ∧ w = (wA Y ad (nI P) (nI N) (bi ru) (nI a) (nI b) mc (bi true) (fun d => nI (P ^ d)) (fun d => bi (cb d)) (fun k => bi (al k)) tr to1 fa1 se qu1 sp))) := by
  refine j_enter (by decide) (Nat.le_of_ble_eq_true rfl) (fun v hv => by rw [List.mem_singleton.mp hv]; rfl) (fun K hl hD hnm C R => ?_)
  subst hl; subst hD
  have C : jC cX0_way RX0 Y rm_X0_way 1 K := C
  have R : jR Y (some .int) 0 0 (jI (fun r w => ∃ ds1 fa1 qu1 to1, r = oI (ds1 a) ∧ srD (P ^ N) P (nbC P N ru cb al true) b (lawB P N ru cb b) ds1 ∧ stR (P ^ N) fa1 ds1 ∧ w = (wA Y ad (nI P) (nI N) (bi ru) (nI a) (nI b) mc (bi true) (fun d => nI (P ^ d)) (fun d => bi (cb d)) (fun k => bi (al k)) tr to1 fa1 se qu1 sp))) K := R
  refine j_eq (lo' := [some (.ref (ad 0))]) rfl rfl rfl ?_
  refine j_aload_n C dX0_way_0 rfl ?_
  refine j_aload_n C dX0_way_1 rfl ?_
  refine g0_now C dX0_way_2 ?_
  refine j_callV1i C (ct_X0_wayFrom hc hb ha hm) gw_0_127 nd_X0_wayFrom 0 0 rfl rfl rfl ⟨by decide, by decide⟩ ⟨Nat.le_of_ble_eq_true rfl, Nat.le_of_ble_eq_true rfl⟩ (Nat.le_of_ble_eq_true rfl) dX0_way_5 (fun x_1 w_1 hp => ?_)
  obtain ⟨ds1, fa1, qu1, to1, rfl, hsr, hst1, rfl⟩ := hp
  exact j_reti C R dX0_way_8 ⟨ds1, fa1, qu1, to1, rfl, hsr, hst1, rfl⟩
abbrev rm_X0_reachable : Room := { frames := 4, cells := 0, slots := 0, locals := 101 }
set_option maxHeartbeats 4000000 in
set_option maxRecDepth 100000 in
theorem ct_X0_reachable {l : Launch} {D : va_G} {Y : jy_T} {ad : Nat → Nat} {P N a : Nat} {ru : Bool} {cb al : Nat → Bool} {tg mc me : Int32} {tr to fa se qu sp : Nat → Int32} (hc : cfg P N) (ha : a < P ^ N) :
    MJ l yX0_reachable cX0_reachable 1 (some .int) rm_X0_reachable D Y [.ref (ad 0)] (wA Y ad (nI P) (nI N) (bi ru) (nI a) tg mc me (fun d => nI (P ^ d)) (fun d => bi (cb d)) (fun k => bi (al k)) tr to fa se qu sp) (jI (fun r w => ∃ fo1 ds1 s1 qu1 to1, r = nI fo1 ∧ srF (P ^ N) P (nbC P N ru cb al false) a (lawB P N ru cb a) fo1 ds1 ∧ w = (wA Y ad (nI P) (nI N) (bi ru) (nI a) tg mc me (fun d => nI (P ^ d)) (fun d => bi (cb d)) (fun k => bi (al k)) tr to1 fa s1 qu1 sp))) := by
  refine j_enter (by decide) (Nat.le_of_ble_eq_true rfl) (fun v hv => by rw [List.mem_singleton.mp hv]; rfl) (fun K hl hD hnm C R => ?_)
  subst hl; subst hD
  have C : jC cX0_reachable RX0 Y rm_X0_reachable 1 K := C
  have R : jR Y (some .int) 0 0 (jI (fun r w => ∃ fo1 ds1 s1 qu1 to1, r = nI fo1 ∧ srF (P ^ N) P (nbC P N ru cb al false) a (lawB P N ru cb a) fo1 ds1 ∧ w = (wA Y ad (nI P) (nI N) (bi ru) (nI a) tg mc me (fun d => nI (P ^ d)) (fun d => bi (cb d)) (fun k => bi (al k)) tr to1 fa s1 qu1 sp))) K := R
  refine j_eq (lo' := [some (.ref (ad 0))]) rfl rfl rfl ?_
  refine j_aload_n C dX0_reachable_0 rfl ?_
  refine j_aload_n C dX0_reachable_1 rfl ?_
  refine g0_now C dX0_reachable_2 ?_
  refine j_aload_n C dX0_reachable_5 rfl ?_
  refine g0_seen C dX0_reachable_6 ?_
  refine j_iconst C (bi false) dX0_reachable_9 (by decide) ?_
  refine j_callV3i C (ct_X0_search_s2 hc ha) gw_0_150 nd_X0_search 0 0 rfl rfl rfl ⟨by decide, by decide⟩ ⟨Nat.le_of_ble_eq_true rfl, Nat.le_of_ble_eq_true rfl⟩ (Nat.le_of_ble_eq_true rfl) dX0_reachable_10 (fun x_1 w_1 hp => ?_)
  obtain ⟨fo1, ds1, s1, qu1, to1, rfl, hsr, hst1, rfl⟩ := hp
  exact j_reti C R dX0_reachable_13 ⟨fo1, ds1, s1, qu1, to1, rfl, hsr, rfl⟩
theorem psB_ft {P N x f t : Nat} {ru : Bool} {cb al : Nat → Bool} (h : psB P N ru cb al x f t = true) : ftB f t (tp P N x f) (tp P N x t) = true := by
  unfold psB at h
  rw [Bool.and_eq_true, Bool.and_eq_true] at h
  exact h.1.1
abbrev rm_X0_next : Room := { frames := 5, cells := 0, slots := 0, locals := 122 }
set_option maxHeartbeats 4000000 in
set_option maxRecDepth 100000 in
theorem ct_X0_next {l : Launch} {D : va_G} {Y : jy_T} {ad : Nat → Nat} {P N a b : Nat} {ru me : Bool} {cb al : Nat → Bool} {mc : Int32} {tr to fa se qu sp : Nat → Int32} (hc : cfg P N) (ha : a < P ^ N) (hb : b < P ^ N) (hm : me = true → farOk P N ru cb al b fa) :
    MJ l yX0_next cX0_next 4 (some .int) rm_X0_next D Y [.ref (ad 0)] (wA Y ad (nI P) (nI N) (bi ru) (nI a) (nI b) mc (bi me) (fun d => nI (P ^ d)) (fun d => bi (cb d)) (fun k => bi (al k)) tr to fa se qu sp) (jI (fun r w => ∃ ds1 fa1 qu1 to1, r = nxC P N ru cb al ds1 a ∧ srD (P ^ N) P (nbC P N ru cb al true) b (lawB P N ru cb b) ds1 ∧ stR (P ^ N) fa1 ds1 ∧ w = (wA Y ad (nI P) (nI N) (bi ru) (nI a) (nI b) mc (bi true) (fun d => nI (P ^ d)) (fun d => bi (cb d)) (fun k => bi (al k)) tr to1 fa1 se qu1 sp))) := by
  refine j_enter (by decide) (Nat.le_of_ble_eq_true rfl) (fun v hv => by rw [List.mem_singleton.mp hv]; rfl) (fun K hl hD hnm C R => ?_)
  subst hl; subst hD
  have C : jC cX0_next RX0 Y rm_X0_next 4 K := C
  have R : jR Y (some .int) 0 0 (jI (fun r w => ∃ ds1 fa1 qu1 to1, r = nxC P N ru cb al ds1 a ∧ srD (P ^ N) P (nbC P N ru cb al true) b (lawB P N ru cb b) ds1 ∧ stR (P ^ N) fa1 ds1 ∧ w = (wA Y ad (nI P) (nI N) (bi ru) (nI a) (nI b) mc (bi true) (fun d => nI (P ^ d)) (fun d => bi (cb d)) (fun k => bi (al k)) tr to1 fa1 se qu1 sp))) K := R
  refine j_eq (lo' := [some (.ref (ad 0)), none, none, none]) rfl rfl rfl ?_
  obtain ⟨hP3, hP5, hN1, hN6⟩ := id hc
  have hP0 : 0 < P := by omega
  have hp2 : P ^ N ≤ 15625 := cfg_pw hc (by omega)
  have hL : ∀ (ds : Nat → Option Nat) (d : Nat), srD (P ^ N) P (nbC P N ru cb al true) b (lawB P N ru cb b) ds → d < 2 ^ 31 → nxC P N ru cb al ds a = nxV P (fun f t => psB P N ru cb al a f t && decide (ds (mv P N a f t) = some d)) → ∀ (m f : Nat) (fa qu to : Nat → Int32) (l3 : Option Value), P < f + m → f ≤ P → frm (nxF P (fun f t => psB P N ru cb al a f t && decide (ds (mv P N a f t) = some d))) 1 0 (P * P) = frm (nxF P (fun f t => psB P N ru cb al a f t && decide (ds (mv P N a f t) = some d))) 1 (f * P) (P * P) → stR (P ^ N) fa ds →
      jJ K 0 0 18 [some (.ref (ad 0)), some (.int (nI (d + 1))), some (.int (nI f)), l3] [] (wA Y ad (nI P) (nI N) (bi ru) (nI a) (nI b) mc (bi true) (fun d => nI (P ^ d)) (fun d => bi (cb d)) (fun k => bi (al k)) tr to fa se qu sp) := by
    intro ds d hsr hd9 hnx m
    induction m with
    | zero => intro f fa qu to l3 h1 h2; omega
    | succ m ih =>
      intro f fa qu to l3 h1 h2 hk hst
      refine j_iload_n C dX0_next_18 rfl ?_
      refine j_aload_n C dX0_next_19 rfl ?_
      refine g0_pegCount C dX0_next_20 ?_
      refine jN_icmp_ge C 84 (by omega) (by omega) dX0_next_23 (by decide) (fun c_23 => ?_) (fun c_23 => ?_)
      · refine j_iconst C (-1) dX0_next_84 (by decide) ?_
        exact j_reti C R dX0_next_85 ⟨ds, fa, qu, to, by rw [hnx]; show _ = nxO P _; rw [hk, frm_end (Nat.mul_le_mul_right P c_23)]; rfl, hsr, hst, rfl⟩
      · refine j_iconst C (nI 0) dX0_next_26 (by decide) ?_
        refine j_istore_3 C dX0_next_27 (by decide) ?_
        have hI : ∀ (m2 t : Nat) (fa qu to : Nat → Int32), P < t + m2 → t ≤ P → frm (nxF P (fun f t => psB P N ru cb al a f t && decide (ds (mv P N a f t) = some d))) 1 0 (P * P) = frm (nxF P (fun f t => psB P N ru cb al a f t && decide (ds (mv P N a f t) = some d))) 1 (f * P + t) (P * P) → stR (P ^ N) fa ds → jJ K 0 0 28 [some (.ref (ad 0)), some (.int (nI (d + 1))), some (.int (nI f)), some (.int (nI t))] [] (wA Y ad (nI P) (nI N) (bi ru) (nI a) (nI b) mc (bi true) (fun d => nI (P ^ d)) (fun d => bi (cb d)) (fun k => bi (al k)) tr to fa se qu sp) := by
          intro m2
          induction m2 with
          | zero => intro t fa qu to h3 h4; omega
          | succ m2 ih2 =>
            intro t fa qu to h3 h4 hk hst
            refine j_iload_n C dX0_next_28 rfl ?_
            refine j_aload_n C dX0_next_29 rfl ?_
            refine g0_pegCount C dX0_next_30 ?_
            refine jN_icmp_ge C 78 (by omega) (by omega) dX0_next_33 (by decide) (fun c_33 => ?_) (fun c_33 => ?_)
            · refine j_iinc_2 C _ (nI_p1 _) dX0_next_78 ?_
              refine j_goto C 18 dX0_next_81 (by decide) ?_
              exact ih (f + 1) fa qu to _ (by omega) (by omega) (by rw [hk, Nat.succ_mul, show t = P by omega]) hst
            · refine j_aload_n C dX0_next_36 rfl ?_
              refine j_iload_n C dX0_next_37 rfl ?_
              refine j_iload_n C dX0_next_38 rfl ?_
              refine j_callV2i C (ct_X0_isPossible hc ha (by omega) (by omega)) gw_0_105 nd_X0_isPossible 0 0 rfl rfl rfl ⟨by decide, by decide⟩ ⟨Nat.le_of_ble_eq_true rfl, Nat.le_of_ble_eq_true rfl⟩ (Nat.le_of_ble_eq_true rfl) dX0_next_39 (fun x_1 w_1 hp => ?_)
              obtain ⟨rfl, to2, hto, rfl⟩ := hp
              refine jB_if_eq C 72 dX0_next_42 (by decide) (fun c_42 => ?_) (fun c_42 => ?_)
              · refine j_iinc_3 C _ (nI_p1 _) dX0_next_72 ?_
                refine j_goto C 28 dX0_next_75 (by decide) ?_
                exact ih2 (t + 1) fa qu to2 (by omega) (by omega) (by rw [hk, nx_step (by omega) (by omega) (by rw [c_42]; simp)]) hst
              · obtain ⟨-, e, he, -⟩ := ftB_some (psB_ft c_42)
                refine j_aload_n C dX0_next_45 rfl ?_
                refine j_aload_n C dX0_next_46 rfl ?_
                refine j_aload_n C dX0_next_47 rfl ?_
                refine g0_now C dX0_next_48 ?_
                refine j_iload_n C dX0_next_51 rfl ?_
                refine j_iload_n C dX0_next_52 rfl ?_
                refine j_callV3i C (ct_X0_behindMove (d := e) (by omega) (by omega) (by omega) (by rw [hto f (by omega), he]; rfl) (tp_lt he) (tp_le he)) gw_0_111 nd_X0_behindMove 0 0 rfl rfl rfl ⟨by decide, by decide⟩ ⟨Nat.le_of_ble_eq_true rfl, Nat.le_of_ble_eq_true rfl⟩ (Nat.le_of_ble_eq_true rfl) dX0_next_53 (fun x_1 w_1 hp => ?_)
                obtain ⟨rfl, rfl⟩ := hp
                refine j_top _ (nI (mv P N a f t)) (by rw [mv_some he]) ?_
                refine j_callV1i C (ct_X0_wayFrom hc hb (mv_lt (f := f) hP0 ha (by omega)) (fun _ => ⟨ds, hsr, hst⟩)) gw_0_127 nd_X0_wayFrom 0 0 rfl rfl rfl ⟨by decide, by decide⟩ ⟨Nat.le_of_ble_eq_true rfl, Nat.le_of_ble_eq_true rfl⟩ (Nat.le_of_ble_eq_true rfl) dX0_next_56 (fun x_1 w_1 hp => ?_)
                obtain ⟨ds2, fa2, qu2, to3, rfl, hsr2, hst2, rfl⟩ := hp
                refine j_top _ (oI (ds (mv P N a f t))) (by rw [srD_one hsr hsr2]) ?_
                refine j_iload_n C dX0_next_59 rfl ?_
                refine j_iconst C (nI 1) dX0_next_60 (by decide) ?_
                refine j_isub C dX0_next_61 ?_
                refine j_top _ (nI d) (nI_pr d) ?_
                refine j_icmp_ne C 72 dX0_next_62 (by decide) (fun c_62 => ?_) (fun c_62 => ?_)
                · refine j_iinc_3 C _ (nI_p1 _) dX0_next_72 ?_
                  refine j_goto C 28 dX0_next_75 (by decide) ?_
                  exact ih2 (t + 1) fa2 qu2 to3 (by omega) (by omega) (by rw [hk, nx_step (by omega) (by omega) (by
                    have h9 : ¬ ds (mv P N a f t) = some d := fun z => c_62 ((oI_nI (srD_lt hsr hp2 _) (by omega)).mpr z)
                    rw [decide_eq_false h9, Bool.and_false]; simp)]) (fun y hy => by rw [srD_one hsr hsr2]; exact hst2 y hy)
                · refine j_bipush C (nI 10) dX0_next_65 (by decide) ?_
                  refine j_iload_n C dX0_next_67 rfl ?_
                  refine j_imul C dX0_next_68 ?_
                  refine j_top _ _ (pk_mul _ _) ?_
                  refine j_iload_n C dX0_next_69 rfl ?_
                  refine j_iadd C dX0_next_70 ?_
                  refine j_top _ _ (nI_add _ _) ?_
                  exact j_reti C R dX0_next_71 ⟨ds, fa2, qu2, to3, by rw [hnx]; show _ = nxO P _; rw [hk, nx_hit (by omega) (by omega) (by rw [c_42, (oI_nI (srD_lt hsr hp2 _) (by omega)).mp c_62]; simp)], hsr, fun y hy => by rw [srD_one hsr hsr2]; exact hst2 y hy, rfl⟩
        exact hI (P + 1) 0 fa qu to (by omega) (by omega) hk hst
  refine j_aload_n C dX0_next_0 rfl ?_
  refine j_aload_n C dX0_next_1 rfl ?_
  refine g0_now C dX0_next_2 ?_
  refine j_callV1i C (ct_X0_wayFrom hc hb ha hm) gw_0_127 nd_X0_wayFrom 0 0 rfl rfl rfl ⟨by decide, by decide⟩ ⟨Nat.le_of_ble_eq_true rfl, Nat.le_of_ble_eq_true rfl⟩ (Nat.le_of_ble_eq_true rfl) dX0_next_5 (fun x_1 w_1 hp => ?_)
  obtain ⟨ds, fa1, qu1, to1, rfl, hsr, hst, rfl⟩ := hp
  refine j_istore_1 C dX0_next_8 (by decide) ?_
  refine j_iload_n C dX0_next_9 rfl ?_
  refine j_iconst C (nI 1) dX0_next_10 (by decide) ?_
  refine j_icmp_ge C 16 dX0_next_11 (by decide) (fun c_11 => ?_) (fun c_11 => ?_)
  · refine j_iconst C (nI 0) dX0_next_16 (by decide) ?_
    refine j_istore_2 C dX0_next_17 (by decide) ?_
    obtain ⟨d, hd⟩ := (oI_ge1 (srD_lt hsr hp2 a)).mp c_11
    have hd9 := srD_lt hsr hp2 a _ hd
    rw [hd]
    exact hL ds d hsr (by omega) (by unfold nxC; rw [hd]) (P + 1) 0 fa1 qu1 to1 _ (by omega) (by omega) (by rw [Nat.zero_mul]) hst
  · refine j_iconst C (-1) dX0_next_14 (by decide) ?_
    exact j_reti C R dX0_next_15 ⟨ds, fa1, qu1, to1, by
  have h9 := fun z => c_11 ((oI_ge1 (srD_lt hsr hp2 a)).mpr z)
  unfold nxC
  rcases e : ds a with _ | d
  · rfl
  · rcases d with _ | d
    · rfl
    · exact absurd ⟨d, e⟩ h9, hsr, hst, rfl⟩
end
section
theorem shl1 : ∀ j, j < 21 → nI 1 <<< (nI j &&& 31) = nI (2 ^ j) := by decide +kernel
/-- gathering the places below m on the peg g -/
def gth (f : Nat → Nat) : Nat → Nat → Nat
  | 0, _ => 0
  | m + 1, g => if f m = g then gth f m g else gth f m (3 - f m - g) + 2 ^ m
theorem gth_cong {f f2 : Nat → Nat} : ∀ {m g : Nat}, (∀ d, d < m → f d = f2 d) → gth f m g = gth f2 m g
  | 0, _, _ => rfl
  | m + 1, g, h => by
    rw [gth, gth, h m (by omega)]
    split
    · exact gth_cong (fun d hd => h d (by omega))
    · rw [gth_cong (m := m) (fun d hd => h d (by omega))]
theorem gth_lt {f : Nat → Nat} : ∀ {m g : Nat}, gth f m g < 2 ^ m
  | 0, _ => by rw [gth]; decide
  | m + 1, g => by
    rw [gth, Nat.pow_succ]
    split
    · have := gth_lt (f := f) (m := m) (g := g); omega
    · have := gth_lt (f := f) (m := m) (g := 3 - f m - g); omega
abbrev rm_X0_thirdPeg : Room := { frames := 0, cells := 0, slots := 0, locals := 0 }
set_option maxHeartbeats 4000000 in
set_option maxRecDepth 100000 in
theorem ct_X0_thirdPeg {l : Launch} {D : va_G} {Y : jy_T} {ad : Nat → Nat} {ws : va_W} {x y : Nat} (h : x + y ≤ 3) :
    MJ l yX0_thirdPeg cX0_thirdPeg 2 (some .int) rm_X0_thirdPeg D Y [.int (nI x), .int (nI y)] ws (jI (fun r w => r = nI (3 - x - y) ∧ w = ws)) := by
  refine j_enter (by decide) (Nat.le_of_ble_eq_true rfl) (fun v hv => by simp only [List.mem_cons, List.not_mem_nil, or_false] at hv; rcases hv with rfl | rfl <;> rfl) (fun K hl hD hnm C R => ?_)
  subst hl; subst hD
  have C : jC cX0_thirdPeg RX0 Y rm_X0_thirdPeg 2 K := C
  have R : jR Y (some .int) 0 0 (jI (fun r w => r = nI (3 - x - y) ∧ w = ws)) K := R
  refine j_eq (lo' := [some (.int (nI x)), some (.int (nI y))]) rfl rfl rfl ?_
  refine j_iconst C (nI 3) dX0_thirdPeg_0 (by decide) ?_
  refine j_iload_n C dX0_thirdPeg_1 rfl ?_
  refine j_isub C dX0_thirdPeg_2 ?_
  refine j_top _ (nI (3 - x)) (pk_sub (by omega)) ?_
  refine j_iload_n C dX0_thirdPeg_3 rfl ?_
  refine j_isub C dX0_thirdPeg_4 ?_
  refine j_top _ (nI (3 - x - y)) (pk_sub (by omega)) ?_
  exact j_reti C R dX0_thirdPeg_5 ⟨rfl, rfl⟩
abbrev rm_X0_gather : Room := { frames := 1, cells := 0, slots := 0, locals := 23 }
set_option maxHeartbeats 4000000 in
set_option maxRecDepth 100000 in
theorem ct_X0_gather {l : Launch} {D : va_G} {Y : jy_T} {ad : Nat → Nat} {a m0 g0 : Nat} {n ru nw tg mc me : Int32} {co al tr to fa se qu sp : Nat → Int32} (ha : a < 2 ^ 31) (hm : m0 ≤ 6) (hg0 : g0 < 3) :
    MJ l yX0_gather cX0_gather 8 (some .int) rm_X0_gather D Y [.ref (ad 0), .int (nI a), .int (nI m0), .int (nI g0)] (wA Y ad (nI 3) n ru nw tg mc me (fun d => nI (3 ^ d)) co al tr to fa se qu sp) (jI (fun r w => r = nI (gth (dg 3 a) m0 g0) ∧ w = (wA Y ad (nI 3) n ru nw tg mc me (fun d => nI (3 ^ d)) co al tr to fa se qu sp))) := by
  refine j_enter (by decide) (Nat.le_of_ble_eq_true rfl) (fun v hv => by simp only [List.mem_cons, List.not_mem_nil, or_false] at hv; rcases hv with rfl | rfl | rfl | rfl <;> rfl) (fun K hl hD hnm C R => ?_)
  subst hl; subst hD
  have C : jC cX0_gather RX0 Y rm_X0_gather 8 K := C
  have R : jR Y (some .int) 0 0 (jI (fun r w => r = nI (gth (dg 3 a) m0 g0) ∧ w = (wA Y ad (nI 3) n ru nw tg mc me (fun d => nI (3 ^ d)) co al tr to fa se qu sp))) K := R
  refine j_eq (lo' := [some (.ref (ad 0)), some (.int (nI a)), some (.int (nI m0)), some (.int (nI g0)), none, none, none, none]) rfl rfl rfl ?_
  have hc : cfg 3 1 := ⟨by omega, by omega, by omega, by omega⟩
  have hL : ∀ (i g s : Nat) (l7 : Option Value), i ≤ m0 → g < 3 → gth (dg 3 a) m0 g0 = s + gth (dg 3 a) i g → jJ K 0 0 11 [some (.ref (ad 0)), some (.int (nI a)), some (.int (nI m0)), some (.int (nI g0)), some (.int (nI g)), some (.int (nI (s))), some (.int (nI i - nI 1)), l7] [] (wA Y ad (nI 3) n ru nw tg mc me (fun d => nI (3 ^ d)) co al tr to fa se qu sp) := by
    intro i
    induction i with
    | zero =>
      intro g s l7 h1 hg hs
      refine j_iload C dX0_gather_11 rfl ?_
      refine j_if_lt C 56 dX0_gather_13 (by decide) (fun c_13 => ?_) (fun c_13 => ?_)
      · refine j_iload C dX0_gather_56 rfl ?_
        exact j_reti C R dX0_gather_58 ⟨by rw [hs]; rfl, rfl⟩
      · exact absurd (by decide) c_13
    | succ j ih =>
      intro g s l7 h1 hg hs
      refine j_eq (lo' := [some (.ref (ad 0)), some (.int (nI a)), some (.int (nI m0)), some (.int (nI g0)), some (.int (nI g)), some (.int (nI (s))), some (.int (nI j)), l7]) (by rw [nI_pr]) rfl rfl ?_
      refine j_iload C dX0_gather_11 rfl ?_
      refine j_if_lt C 56 dX0_gather_13 (by decide) (fun c_13 => ?_) (fun c_13 => ?_)
      · exact absurd c_13 (nI_nlt0 (by omega))
      · refine j_aload_n C dX0_gather_16 rfl ?_
        refine j_iload_n C dX0_gather_17 rfl ?_
        refine j_iload C dX0_gather_18 rfl ?_
        refine j_callV2i C (ct_X0_pegIn hc (by omega) (by omega)) gw_0_80 nd_X0_pegIn 0 0 rfl rfl rfl ⟨by decide, by decide⟩ ⟨Nat.le_of_ble_eq_true rfl, Nat.le_of_ble_eq_true rfl⟩ (Nat.le_of_ble_eq_true rfl) dX0_gather_20 (fun x_1 w_1 hp => ?_)
        obtain ⟨rfl, rfl⟩ := hp
        have hl1 : dg 3 a j < 3 := dg_lt (by omega)
        refine j_istore_7 C dX0_gather_23 (by decide) ?_
        refine j_iload C dX0_gather_25 rfl ?_
        refine j_iload C dX0_gather_27 rfl ?_
        refine jN_icmp_eq C 50 (by omega) (by omega) dX0_gather_29 (by decide) (fun c_29 => ?_) (fun c_29 => ?_)
        · refine j_iinc_6 C _ (nI_m1 _) dX0_gather_50 ?_
          refine j_goto C 11 dX0_gather_53 (by decide) ?_
          exact ih g s _ (by omega) hg (by rw [hs, gth, if_pos c_29])
        · refine j_iload C dX0_gather_32 rfl ?_
          refine j_iload C dX0_gather_34 rfl ?_
          refine j_callS2i C (ct_X0_thirdPeg (ad := ad) (by omega)) gw_0_137 rfl nd_X0_thirdPeg ⟨by decide, by decide⟩ ⟨Nat.le_of_ble_eq_true rfl, Nat.le_of_ble_eq_true rfl⟩ (Nat.le_of_ble_eq_true rfl) dX0_gather_36 (fun x_1 w_1 hp => ?_)
          obtain ⟨rfl, rfl⟩ := hp
          refine j_istore_4 C dX0_gather_39 (by decide) ?_
          refine j_iload C dX0_gather_41 rfl ?_
          refine j_iconst C (nI 1) dX0_gather_43 (by decide) ?_
          refine j_iload C dX0_gather_44 rfl ?_
          refine j_ishl C dX0_gather_46 ?_
          refine j_top _ (nI (2 ^ j)) (shl1 j (by omega)) ?_
          refine j_iadd C dX0_gather_47 ?_
          refine j_top _ _ (nI_add _ _) ?_
          refine j_istore_5 C dX0_gather_48 (by decide) ?_
          refine j_iinc_6 C _ (nI_m1 _) dX0_gather_50 ?_
          refine j_goto C 11 dX0_gather_53 (by decide) ?_
          exact ih (3 - dg 3 a j - g) (s + 2 ^ j) _ (by omega) (by omega) (by rw [hs, gth, if_neg c_29, Nat.add_assoc s, Nat.add_comm (2 ^ j)])
  refine j_iload_n C dX0_gather_0 rfl ?_
  refine j_istore_4 C dX0_gather_1 (by decide) ?_
  refine j_iconst C (nI 0) dX0_gather_3 (by decide) ?_
  refine j_istore_5 C dX0_gather_4 (by decide) ?_
  refine j_iload_n C dX0_gather_6 rfl ?_
  refine j_iconst C (nI 1) dX0_gather_7 (by decide) ?_
  refine j_isub C dX0_gather_8 ?_
  refine j_top _ (nI m0 - nI 1) rfl ?_
  refine j_istore_6 C dX0_gather_9 (by decide) ?_
  exact hL m0 g0 0 _ (Nat.le_refl _) hg0 (by rw [Nat.zero_add])
abbrev rm_X0_lay : Room := { frames := 0, cells := 0, slots := 0, locals := 0 }
set_option maxHeartbeats 4000000 in
set_option maxRecDepth 100000 in
theorem ct_X0_lay {l : Launch} {D : va_G} {Y : jy_T} {ad : Nat → Nat} {P N : Nat} {p n ru nw tg mc me : Int32} {we co al tr to fa se qu sp : Nat → Int32} (hc : cfg P N) :
    MJ l yX0_lay cX0_lay 5 none rm_X0_lay D Y [.ref (ad 0), .int (nI P), .int (nI N)] (wA Y ad p n ru nw tg mc me we co al tr to fa se qu sp) (jV (fun w => w = (wA Y ad (nI P) (nI N) (bi false) (nI 0) (nI (P ^ N - 1)) (nI 0) (bi false) (fun d => nI (P ^ d)) (fun d => bi ((fun _ => false) d)) (fun k => bi ((fun _ => true) k)) tr to fa se qu sp))) := by
  refine j_enter (by decide) (Nat.le_of_ble_eq_true rfl) (fun v hv => by simp only [List.mem_cons, List.not_mem_nil, or_false] at hv; rcases hv with rfl | rfl | rfl <;> rfl) (fun K hl hD hnm C R => ?_)
  subst hl; subst hD
  have C : jC cX0_lay RX0 Y rm_X0_lay 5 K := C
  have R : jR Y none 0 0 (jV (fun w => w = (wA Y ad (nI P) (nI N) (bi false) (nI 0) (nI (P ^ N - 1)) (nI 0) (bi false) (fun d => nI (P ^ d)) (fun d => bi ((fun _ => false) d)) (fun k => bi ((fun _ => true) k)) tr to fa se qu sp))) K := R
  refine j_eq (lo' := [some (.ref (ad 0)), some (.int (nI P)), some (.int (nI N)), none, none]) rfl rfl rfl ?_
  obtain ⟨hP3, hP5, hN1, hN6⟩ := id hc
  have hpn : 1 ≤ P ^ N := cfg_pos hc
  have hL3 : ∀ (m i : Nat) (al : Nat → Int32) (pw : Nat), 25 < i + m → i ≤ 25 → (∀ k, k < i → al k = bi true) → jJ K 0 0 73 [some (.ref (ad 0)), some (.int (nI P)), some (.int (nI N)), some (.int (nI (pw))), some (.int (nI i))] [] (wA Y ad (nI P) (nI N) ru nw tg mc me (fun d => nI (P ^ d)) (fun d => bi ((fun _ => false) d)) al tr to fa se qu sp) := by
    intro m
    induction m with
    | zero => intro i al pw h1 h2; omega
    | succ m ih =>
      intro i al pw h1 h2 hi
      refine j_iload C dX0_lay_73 rfl ?_
      refine j_aload_n C dX0_lay_75 rfl ?_
      refine g0_allowed C dX0_lay_76 ?_
      refine n0_al C dX0_lay_79 ?_
      refine jN_icmp_ge C 97 (by omega) (by omega) dX0_lay_80 (by decide) (fun c_80 => ?_) (fun c_80 => ?_)
      · refine e0_al (fun k => bi ((fun _ => true) k)) (fun k hk => hi k (by omega)) ?_
        refine j_aload_n C dX0_lay_97 rfl ?_
        refine j_iconst C (bi false) dX0_lay_98 (by decide) ?_
        refine p0_ruleOn C dX0_lay_99 ?_
        refine j_aload_n C dX0_lay_102 rfl ?_
        refine j_iconst C (nI 0) dX0_lay_103 (by decide) ?_
        refine p0_now C dX0_lay_104 ?_
        refine j_aload_n C dX0_lay_107 rfl ?_
        refine j_aload_n C dX0_lay_108 rfl ?_
        refine g0_weight C dX0_lay_109 ?_
        refine j_aload_n C dX0_lay_112 rfl ?_
        refine g0_diskCount C dX0_lay_113 ?_
        refine l0_we C _ rfl (by omega) dX0_lay_116 ?_
        refine j_iconst C (nI 1) dX0_lay_117 (by decide) ?_
        refine j_isub C dX0_lay_118 ?_
        refine j_top _ (nI (P ^ N - 1)) (pk_sub hpn) ?_
        refine p0_target C dX0_lay_119 ?_
        refine j_aload_n C dX0_lay_122 rfl ?_
        refine j_iconst C (nI 0) dX0_lay_123 (by decide) ?_
        refine p0_moveCount C dX0_lay_124 ?_
        refine j_aload_n C dX0_lay_127 rfl ?_
        refine j_iconst C (bi false) dX0_lay_128 (by decide) ?_
        refine p0_measured C dX0_lay_129 ?_
        exact j_retv C R dX0_lay_132 rfl
      · refine j_aload_n C dX0_lay_83 rfl ?_
        refine g0_allowed C dX0_lay_84 ?_
        refine j_iload C dX0_lay_87 rfl ?_
        refine j_iconst C (bi true) dX0_lay_89 (by decide) ?_
        refine s0_al C _ rfl (by omega) dX0_lay_90 ?_
        refine j_iinc_4 C _ (nI_p1 _) dX0_lay_91 ?_
        refine j_goto C 73 dX0_lay_94 (by decide) ?_
        exact ih (i + 1) _ _ (by omega) (by omega) (fun k hk => by
          by_cases e : k = i
          · rw [e, pk_us]
          · rw [pk_un e]; exact hi k (by omega))
  have hL2 : ∀ (m i : Nat) (co : Nat → Int32) (pw : Nat), 6 < i + m → i ≤ 6 → (∀ k, k < i → co k = bi false) → jJ K 0 0 46 [some (.ref (ad 0)), some (.int (nI P)), some (.int (nI N)), some (.int (nI (pw))), some (.int (nI i))] [] (wA Y ad (nI P) (nI N) ru nw tg mc me (fun d => nI (P ^ d)) co al tr to fa se qu sp) := by
    intro m
    induction m with
    | zero => intro i co pw h1 h2; omega
    | succ m ih =>
      intro i co pw h1 h2 hi
      refine j_iload C dX0_lay_46 rfl ?_
      refine j_aload_n C dX0_lay_48 rfl ?_
      refine g0_colour C dX0_lay_49 ?_
      refine n0_co C dX0_lay_52 ?_
      refine jN_icmp_ge C 70 (by omega) (by omega) dX0_lay_53 (by decide) (fun c_53 => ?_) (fun c_53 => ?_)
      · refine e0_co (fun d => bi ((fun _ => false) d)) (fun k hk => hi k (by omega)) ?_
        refine j_iconst C (nI 0) dX0_lay_70 (by decide) ?_
        refine j_istore_4 C dX0_lay_71 (by decide) ?_
        exact hL3 26 0 al pw (by omega) (by omega) (fun k hk => by omega)
      · refine j_aload_n C dX0_lay_56 rfl ?_
        refine g0_colour C dX0_lay_57 ?_
        refine j_iload C dX0_lay_60 rfl ?_
        refine j_iconst C (nI 0) dX0_lay_62 (by decide) ?_
        refine s0_co C _ rfl (by omega) dX0_lay_63 ?_
        refine j_iinc_4 C _ (nI_p1 _) dX0_lay_64 ?_
        refine j_goto C 46 dX0_lay_67 (by decide) ?_
        exact ih (i + 1) _ _ (by omega) (by omega) (fun k hk => by
          by_cases e : k = i
          · rw [e, pk_us]; rfl
          · rw [pk_un e]; exact hi k (by omega))
  have hL : ∀ (m i : Nat) (we : Nat → Int32), 7 < i + m → i ≤ 7 → (∀ k, k < i → we k = nI (P ^ k)) → jJ K 0 0 15 [some (.ref (ad 0)), some (.int (nI P)), some (.int (nI N)), some (.int (nI (P ^ i))), some (.int (nI i))] [] (wA Y ad (nI P) (nI N) ru nw tg mc me we co al tr to fa se qu sp) := by
    intro m
    induction m with
    | zero => intro i we h1 h2; omega
    | succ m ih =>
      intro i we h1 h2 hi
      refine j_iload C dX0_lay_15 rfl ?_
      refine j_aload_n C dX0_lay_17 rfl ?_
      refine g0_weight C dX0_lay_18 ?_
      refine n0_we C dX0_lay_21 ?_
      refine jN_icmp_ge C 43 (by omega) (by omega) dX0_lay_22 (by decide) (fun c_22 => ?_) (fun c_22 => ?_)
      · refine e0_we (fun d => nI (P ^ d)) (fun k hk => hi k (by omega)) ?_
        refine j_iconst C (nI 0) dX0_lay_43 (by decide) ?_
        refine j_istore_4 C dX0_lay_44 (by decide) ?_
        exact hL2 7 0 co (P ^ i) (by omega) (by omega) (fun k hk => by omega)
      · refine j_aload_n C dX0_lay_25 rfl ?_
        refine g0_weight C dX0_lay_26 ?_
        refine j_iload C dX0_lay_29 rfl ?_
        refine j_iload_n C dX0_lay_31 rfl ?_
        refine s0_we C _ rfl (by omega) dX0_lay_32 ?_
        refine j_iload_n C dX0_lay_33 rfl ?_
        refine j_iload_n C dX0_lay_34 rfl ?_
        refine j_imul C dX0_lay_35 ?_
        refine j_top _ _ (pk_mul _ _) ?_
        refine j_top _ (nI (P ^ (i + 1))) (by rw [Nat.pow_succ]) ?_
        refine j_istore_3 C dX0_lay_36 (by decide) ?_
        refine j_iinc_4 C _ (nI_p1 _) dX0_lay_37 ?_
        refine j_goto C 15 dX0_lay_40 (by decide) ?_
        exact ih (i + 1) _ (by omega) (by omega) (fun k hk => by
          by_cases e : k = i
          · rw [e, pk_us]
          · rw [pk_un e]; exact hi k (by omega))
  refine j_aload_n C dX0_lay_0 rfl ?_
  refine j_iload_n C dX0_lay_1 rfl ?_
  refine p0_pegCount C dX0_lay_2 ?_
  refine j_aload_n C dX0_lay_5 rfl ?_
  refine j_iload_n C dX0_lay_6 rfl ?_
  refine p0_diskCount C dX0_lay_7 ?_
  refine j_iconst C (nI 1) dX0_lay_10 (by decide) ?_
  refine j_istore_3 C dX0_lay_11 (by decide) ?_
  refine j_iconst C (nI 0) dX0_lay_12 (by decide) ?_
  refine j_istore_4 C dX0_lay_13 (by decide) ?_
  exact hL 8 0 we (by omega) (by omega) (fun k hk => by omega)
end
section
section JT
variable {K : jk_T} {cc : ByteArray} {Y : jy_T} {rm : Room} {nL k n pc : Nat} {lo : List (Option Value)} {st : List Value} {ws : va_W}
theorem j_thr1 (C : jC cc RX0 Y rm nL K) (X : jX K) {mc ms : Nat} {Pst : jp_T} {Pex : String → va_W → Prop} (T : jT Y mc ms Pst Pex K) {ik is j : Nat} {text : String} (hk : Cond.classLink RX0 ik "java/lang/IllegalArgumentException" ∈ wG) (hstr : xS[j]? = some (is, text))
    (d0 : decode cc pc = .ok (.new ik, 3)) (d3 : decode cc (pc + 3) = .ok (.dup, 1)) (d4 : decode cc (pc + 4) = .ok (.ldc is, 2)) (d6 : decode cc (pc + 6) = .ok (.invokespecial 50, 3)) (d9 : decode cc (pc + 9) = .ok (.athrow, 1))
    (hf : 5 < rm.frames) (hlo : 82 ≤ rm.locals) (hk1 : k + 1 ≤ rm.cells) (hn1 : n + 6 ≤ rm.slots) (hk2 : k + 1 ≤ mc) (hn2 : n + 6 ≤ ms) (hp : Pex xIAE ws) : jJ K k n pc lo [] ws :=
  j_throw C X T hk wd_in_java_lang_IllegalArgumentException (List.mem_of_getElem? hstr) (fun w h => List.mem_append_left _ h) (by decide) d0 d3 d4 d6 d9 hf (by show 0 + 82 ≤ _; omega) hk1 hn1 hk2 hn2 hp
theorem j_thr2 (C : jC cc RX0 Y rm nL K) (X : jX K) {mc ms : Nat} {Pst : jp_T} {Pex : String → va_W → Prop} (T : jT Y mc ms Pst Pex K) {ik is j : Nat} {text : String} (hk : Cond.classLink RX0 ik "java/lang/IndexOutOfBoundsException" ∈ wG) (hstr : xS[j]? = some (is, text))
    (d0 : decode cc pc = .ok (.new ik, 3)) (d3 : decode cc (pc + 3) = .ok (.dup, 1)) (d4 : decode cc (pc + 4) = .ok (.ldc is, 2)) (d6 : decode cc (pc + 6) = .ok (.invokespecial 68, 3)) (d9 : decode cc (pc + 9) = .ok (.athrow, 1))
    (hf : 5 < rm.frames) (hlo : 82 ≤ rm.locals) (hk1 : k + 1 ≤ rm.cells) (hn1 : n + 6 ≤ rm.slots) (hk2 : k + 1 ≤ mc) (hn2 : n + 6 ≤ ms) (hp : Pex xIOO ws) : jJ K k n pc lo [] ws :=
  j_throw C X T hk wd_in_java_lang_IndexOutOfBoundsException (List.mem_of_getElem? hstr) (fun w h => List.mem_append_right _ (List.mem_append_left _ h)) (by decide) d0 d3 d4 d6 d9 hf (by show 0 + 82 ≤ _; omega) hk1 hn1 hk2 hn2 hp
theorem j_thr3 (C : jC cc RX0 Y rm nL K) (X : jX K) {mc ms : Nat} {Pst : jp_T} {Pex : String → va_W → Prop} (T : jT Y mc ms Pst Pex K) {ik is j : Nat} {text : String} (hk : Cond.classLink RX0 ik "java/lang/IllegalStateException" ∈ wG) (hstr : xS[j]? = some (is, text))
    (d0 : decode cc pc = .ok (.new ik, 3)) (d3 : decode cc (pc + 3) = .ok (.dup, 1)) (d4 : decode cc (pc + 4) = .ok (.ldc is, 2)) (d6 : decode cc (pc + 6) = .ok (.invokespecial 76, 3)) (d9 : decode cc (pc + 9) = .ok (.athrow, 1))
    (hf : 5 < rm.frames) (hlo : 82 ≤ rm.locals) (hk1 : k + 1 ≤ rm.cells) (hn1 : n + 6 ≤ rm.slots) (hk2 : k + 1 ≤ mc) (hn2 : n + 6 ≤ ms) (hp : Pex xISE ws) : jJ K k n pc lo [] ws :=
  j_throw C X T hk wd_in_java_lang_IllegalStateException (List.mem_of_getElem? hstr) (fun w h => List.mem_append_right _ (List.mem_append_right _ h)) (by decide) d0 d3 d4 d6 d9 hf (by show 0 + 82 ≤ _; omega) hk1 hn1 hk2 hn2 hp
end JT
/-- between two numbers -/
def rg (x : Int32) (lo hi : Nat) : Bool := decide ((lo : Int) ≤ x.toInt ∧ x.toInt ≤ hi)
theorem rg_f1 {x : Int32} {lo hi : Nat} (h0 : lo < 2 ^ 31) (h : x < nI lo) : rg x lo hi = false := by
  rw [i32_lt, nI_toInt h0] at h; exact decide_eq_false (by omega)
theorem rg_f2 {x : Int32} {lo hi : Nat} (h0 : hi < 2 ^ 31) (h : nI hi < x) : rg x lo hi = false := by
  rw [i32_lt, nI_toInt h0] at h; exact decide_eq_false (by omega)
theorem rg_f3 {x : Int32} {lo hi : Nat} (h0 : hi < 2 ^ 31) (h : ¬ x ≤ nI hi) : rg x lo hi = false := by
  rw [i32_le, nI_toInt h0] at h; exact decide_eq_false (by omega)
theorem rg_of {x : Int32} {lo hi : Nat} (h0 : hi < 2 ^ 31) (h : rg x lo hi = true) : ∃ j, lo ≤ j ∧ j ≤ hi ∧ x = nI j := by
  have h := of_decide_eq_true h
  refine ⟨x.toInt.toNat, by omega, by omega, i32_eq ?_⟩
  rw [nI_toInt (by omega)]; omega
theorem rg_t {x : Int32} {lo hi : Nat} (h0 : lo < 2 ^ 31) (h1 : hi < 2 ^ 31) (h : ¬ x < nI lo) (h2 : x ≤ nI hi) : rg x lo hi = true := by
  rw [i32_lt, nI_toInt h0] at h
  rw [i32_le, nI_toInt h1] at h2
  exact decide_eq_true ⟨by omega, by omega⟩
theorem i32_nlt {a b : Int32} (h : ¬ a < b) : b ≤ a := by rw [i32_lt] at h; rw [i32_le]; omega
theorem upd_nI {f : Nat → Nat} {j x : Nat} : upd (fun k => nI (f k)) j (nI x) = fun k => nI (updN f j x k) := by
  funext k
  by_cases e : k = j
  · rw [e, pk_us, updN_s]
  · rw [pk_un e, updN_n e]
theorem upd_bi {f : Nat → Bool} {j : Nat} {x : Bool} : upd (fun k => bi (f k)) j (bi x) = fun k => bi (va_up f j x k) := by
  funext k
  by_cases e : k = j
  · rw [e, pk_us, up_s]
  · rw [pk_un e, up_n e]
theorem nI_bi {j : Nat} (h : j ≤ 1) : ∃ c : Bool, nI j = bi c := by
  rcases (show j = 0 ∨ j = 1 by omega) with rfl | rfl
  · exact ⟨false, rfl⟩
  · exact ⟨true, rfl⟩
abbrev rm_X0_pegOf : Room := { frames := 6, cells := 1, slots := 6, locals := 82 }
set_option maxHeartbeats 4000000 in
set_option maxRecDepth 100000 in
theorem ct_X0_pegOf {l : Launch} {D : va_G} {Y : jy_T} {ad : Nat → Nat} {P N a b mv0 : Nat} {ru me : Bool} {cb al : Nat → Bool} {tr : Nat → Nat} {to fa se qu sp : Nat → Int32}{x : Int32} (hc : cfg P N) (ha : a < P ^ N) (hb : b < P ^ N) (hl : l.stackTraces = false) :
    MX l yX0_pegOf cX0_pegOf 2 (some .int) rm_X0_pegOf D Y [.ref (ad 0), .int x] (wA Y ad (nI P) (nI N) (bi ru) (nI a) (nI b) (nI mv0) (bi me) (fun d => nI (P ^ d)) (fun d => bi (cb d)) (fun k => bi (al k)) (fun k => nI (tr k)) to fa se qu sp) (jI (fun r w => ∃ d, x = nI d ∧ d < N ∧ r = nI (dg P a d) ∧ w = (wA Y ad (nI P) (nI N) (bi ru) (nI a) (nI b) (nI mv0) (bi me) (fun d => nI (P ^ d)) (fun d => bi (cb d)) (fun k => bi (al k)) (fun k => nI (tr k)) to fa se qu sp))) (fun E w => E = xIOO ∧ inr x N = false ∧ w = (wA Y ad (nI P) (nI N) (bi ru) (nI a) (nI b) (nI mv0) (bi me) (fun d => nI (P ^ d)) (fun d => bi (cb d)) (fun k => bi (al k)) (fun k => nI (tr k)) to fa se qu sp)) := by
  refine j_enterX hl (by decide) (Nat.le_of_ble_eq_true rfl) (fun v hv => by simp only [List.mem_cons, List.not_mem_nil, or_false] at hv; rcases hv with rfl | rfl <;> rfl) (fun K hl2 hD C R X T => ?_)
  subst hl2; subst hD
  have C : jC cX0_pegOf RX0 Y rm_X0_pegOf 2 K := C
  have R : jR Y (some .int) 1 6 (jI (fun r w => ∃ d, x = nI d ∧ d < N ∧ r = nI (dg P a d) ∧ w = (wA Y ad (nI P) (nI N) (bi ru) (nI a) (nI b) (nI mv0) (bi me) (fun d => nI (P ^ d)) (fun d => bi (cb d)) (fun k => bi (al k)) (fun k => nI (tr k)) to fa se qu sp))) K := R
  have T : jT Y 1 6 (jI (fun r w => ∃ d, x = nI d ∧ d < N ∧ r = nI (dg P a d) ∧ w = (wA Y ad (nI P) (nI N) (bi ru) (nI a) (nI b) (nI mv0) (bi me) (fun d => nI (P ^ d)) (fun d => bi (cb d)) (fun k => bi (al k)) (fun k => nI (tr k)) to fa se qu sp))) (fun E w => E = xIOO ∧ inr x N = false ∧ w = (wA Y ad (nI P) (nI N) (bi ru) (nI a) (nI b) (nI mv0) (bi me) (fun d => nI (P ^ d)) (fun d => bi (cb d)) (fun k => bi (al k)) (fun k => nI (tr k)) to fa se qu sp)) K := T
  refine j_eq (lo' := [some (.ref (ad 0)), some (.int x)]) rfl rfl rfl ?_
  obtain ⟨hP3, hP5, hN1, hN6⟩ := id hc
  have hP0 : 0 < P := by omega
  have hp2 : P ^ N ≤ 15625 := cfg_pw hc (by omega)
  refine j_aload_n C dX0_pegOf_0 rfl ?_
  refine j_iload_n C dX0_pegOf_1 rfl ?_
  refine j_callV1i C (ct_X0_isDisk (by omega)) gw_0_57 nd_X0_isDisk 0 0 rfl rfl rfl ⟨by decide, by decide⟩ ⟨Nat.le_of_ble_eq_true rfl, Nat.le_of_ble_eq_true rfl⟩ (Nat.le_of_ble_eq_true rfl) dX0_pegOf_2 (fun x_1 w_1 hp => ?_)
  obtain ⟨rfl, rfl⟩ := hp
  refine jB_if_ne C 18 dX0_pegOf_5 (by decide) (fun c_5 => ?_) (fun c_5 => ?_)
  · obtain ⟨d, hd, rfl⟩ := inr_of c_5 (by omega)
    refine j_aload_n C dX0_pegOf_18 rfl ?_
    refine j_aload_n C dX0_pegOf_19 rfl ?_
    refine g0_now C dX0_pegOf_20 ?_
    refine j_iload_n C dX0_pegOf_23 rfl ?_
    refine j_callV2i C (ct_X0_pegIn hc (by omega) (by omega)) gw_0_80 nd_X0_pegIn 0 0 rfl rfl rfl ⟨by decide, by decide⟩ ⟨Nat.le_of_ble_eq_true rfl, Nat.le_of_ble_eq_true rfl⟩ (Nat.le_of_ble_eq_true rfl) dX0_pegOf_24 (fun x_1 w_1 hp => ?_)
    obtain ⟨rfl, rfl⟩ := hp
    refine j_widen (Nat.zero_le 1) (Nat.zero_le 6) ?_
    exact j_reti C R dX0_pegOf_27 ⟨d, rfl, hd, rfl, rfl⟩
  · exact j_thr2 C X T wd_cl0_64 (is := 98) (j := 5) rfl dX0_pegOf_8 dX0_pegOf_11 dX0_pegOf_12 dX0_pegOf_14 dX0_pegOf_17 (by decide) (by decide) (by decide) (by decide) (by decide) (by decide) ⟨rfl, c_5, rfl⟩
abbrev rm_X0_top : Room := { frames := 6, cells := 1, slots := 6, locals := 82 }
set_option maxHeartbeats 4000000 in
set_option maxRecDepth 100000 in
theorem ct_X0_top {l : Launch} {D : va_G} {Y : jy_T} {ad : Nat → Nat} {P N a b mv0 : Nat} {ru me : Bool} {cb al : Nat → Bool} {tr : Nat → Nat} {to fa se qu sp : Nat → Int32}{x : Int32} (hc : cfg P N) (ha : a < P ^ N) (hb : b < P ^ N) (hl : l.stackTraces = false) :
    MX l yX0_top cX0_top 2 (some .int) rm_X0_top D Y [.ref (ad 0), .int x] (wA Y ad (nI P) (nI N) (bi ru) (nI a) (nI b) (nI mv0) (bi me) (fun d => nI (P ^ d)) (fun d => bi (cb d)) (fun k => bi (al k)) (fun k => nI (tr k)) to fa se qu sp) (jI (fun r w => ∃ g to1, x = nI g ∧ g < P ∧ r = oI (tp P N a g) ∧ w = (wA Y ad (nI P) (nI N) (bi ru) (nI a) (nI b) (nI mv0) (bi me) (fun d => nI (P ^ d)) (fun d => bi (cb d)) (fun k => bi (al k)) (fun k => nI (tr k)) to1 fa se qu sp))) (fun E w => E = xIOO ∧ inr x P = false ∧ w = (wA Y ad (nI P) (nI N) (bi ru) (nI a) (nI b) (nI mv0) (bi me) (fun d => nI (P ^ d)) (fun d => bi (cb d)) (fun k => bi (al k)) (fun k => nI (tr k)) to fa se qu sp)) := by
  refine j_enterX hl (by decide) (Nat.le_of_ble_eq_true rfl) (fun v hv => by simp only [List.mem_cons, List.not_mem_nil, or_false] at hv; rcases hv with rfl | rfl <;> rfl) (fun K hl2 hD C R X T => ?_)
  subst hl2; subst hD
  have C : jC cX0_top RX0 Y rm_X0_top 2 K := C
  have R : jR Y (some .int) 1 6 (jI (fun r w => ∃ g to1, x = nI g ∧ g < P ∧ r = oI (tp P N a g) ∧ w = (wA Y ad (nI P) (nI N) (bi ru) (nI a) (nI b) (nI mv0) (bi me) (fun d => nI (P ^ d)) (fun d => bi (cb d)) (fun k => bi (al k)) (fun k => nI (tr k)) to1 fa se qu sp))) K := R
  have T : jT Y 1 6 (jI (fun r w => ∃ g to1, x = nI g ∧ g < P ∧ r = oI (tp P N a g) ∧ w = (wA Y ad (nI P) (nI N) (bi ru) (nI a) (nI b) (nI mv0) (bi me) (fun d => nI (P ^ d)) (fun d => bi (cb d)) (fun k => bi (al k)) (fun k => nI (tr k)) to1 fa se qu sp))) (fun E w => E = xIOO ∧ inr x P = false ∧ w = (wA Y ad (nI P) (nI N) (bi ru) (nI a) (nI b) (nI mv0) (bi me) (fun d => nI (P ^ d)) (fun d => bi (cb d)) (fun k => bi (al k)) (fun k => nI (tr k)) to fa se qu sp)) K := T
  refine j_eq (lo' := [some (.ref (ad 0)), some (.int x)]) rfl rfl rfl ?_
  obtain ⟨hP3, hP5, hN1, hN6⟩ := id hc
  have hP0 : 0 < P := by omega
  have hp2 : P ^ N ≤ 15625 := cfg_pw hc (by omega)
  refine j_aload_n C dX0_top_0 rfl ?_
  refine j_iload_n C dX0_top_1 rfl ?_
  refine j_callV1i C (ct_X0_isPeg (by omega)) gw_0_61 nd_X0_isPeg 0 0 rfl rfl rfl ⟨by decide, by decide⟩ ⟨Nat.le_of_ble_eq_true rfl, Nat.le_of_ble_eq_true rfl⟩ (Nat.le_of_ble_eq_true rfl) dX0_top_2 (fun x_1 w_1 hp => ?_)
  obtain ⟨rfl, rfl⟩ := hp
  refine jB_if_ne C 18 dX0_top_5 (by decide) (fun c_5 => ?_) (fun c_5 => ?_)
  · obtain ⟨g, hg, rfl⟩ := inr_of c_5 (by omega)
    refine j_aload_n C dX0_top_18 rfl ?_
    refine j_aload_n C dX0_top_19 rfl ?_
    refine g0_now C dX0_top_20 ?_
    refine j_callV1v C (ct_X0_readTops hc (by omega)) gw_0_120 nd_X0_readTops 0 0 rfl rfl rfl ⟨by decide, by decide⟩ ⟨Nat.le_of_ble_eq_true rfl, Nat.le_of_ble_eq_true rfl⟩ (Nat.le_of_ble_eq_true rfl) dX0_top_23 (fun w_1 hp => ?_)
    obtain ⟨to1, hto, rfl⟩ := hp
    refine j_aload_n C dX0_top_26 rfl ?_
    refine g0_tops C dX0_top_27 ?_
    refine j_iload_n C dX0_top_30 rfl ?_
    refine l0_to C _ rfl (by omega) dX0_top_31 ?_
    refine j_top _ (oI (tp P N a g)) (hto g (by omega)) ?_
    refine j_widen (Nat.zero_le 1) (Nat.zero_le 6) ?_
    exact j_reti C R dX0_top_32 ⟨g, to1, rfl, hg, rfl, rfl⟩
  · exact j_thr2 C X T wd_cl0_64 (is := 91) (j := 3) rfl dX0_top_8 dX0_top_11 dX0_top_12 dX0_top_14 dX0_top_17 (by decide) (by decide) (by decide) (by decide) (by decide) (by decide) ⟨rfl, c_5, rfl⟩
abbrev rm_X0_canMove : Room := { frames := 6, cells := 1, slots := 6, locals := 91 }
set_option maxHeartbeats 4000000 in
set_option maxRecDepth 100000 in
theorem ct_X0_canMove {l : Launch} {D : va_G} {Y : jy_T} {ad : Nat → Nat} {P N a b mv0 : Nat} {ru me : Bool} {cb al : Nat → Bool} {tr : Nat → Nat} {to fa se qu sp : Nat → Int32}{x y : Int32} (hc : cfg P N) (ha : a < P ^ N) (hb : b < P ^ N) (hl : l.stackTraces = false) :
    MX l yX0_canMove cX0_canMove 3 (some .boolean) rm_X0_canMove D Y [.ref (ad 0), .int x, .int y] (wA Y ad (nI P) (nI N) (bi ru) (nI a) (nI b) (nI mv0) (bi me) (fun d => nI (P ^ d)) (fun d => bi (cb d)) (fun k => bi (al k)) (fun k => nI (tr k)) to fa se qu sp) (jI (fun r w => ∃ f t to1, x = nI f ∧ f < P ∧ y = nI t ∧ t < P ∧ r = bi (psB P N ru cb al a f t) ∧ w = (wA Y ad (nI P) (nI N) (bi ru) (nI a) (nI b) (nI mv0) (bi me) (fun d => nI (P ^ d)) (fun d => bi (cb d)) (fun k => bi (al k)) (fun k => nI (tr k)) to1 fa se qu sp))) (fun E w => E = xIOO ∧ (inr x P && inr y P) = false ∧ w = (wA Y ad (nI P) (nI N) (bi ru) (nI a) (nI b) (nI mv0) (bi me) (fun d => nI (P ^ d)) (fun d => bi (cb d)) (fun k => bi (al k)) (fun k => nI (tr k)) to fa se qu sp)) := by
  refine j_enterX hl (by decide) (Nat.le_of_ble_eq_true rfl) (fun v hv => by simp only [List.mem_cons, List.not_mem_nil, or_false] at hv; rcases hv with rfl | rfl | rfl <;> rfl) (fun K hl2 hD C R X T => ?_)
  subst hl2; subst hD
  have C : jC cX0_canMove RX0 Y rm_X0_canMove 3 K := C
  have R : jR Y (some .boolean) 1 6 (jI (fun r w => ∃ f t to1, x = nI f ∧ f < P ∧ y = nI t ∧ t < P ∧ r = bi (psB P N ru cb al a f t) ∧ w = (wA Y ad (nI P) (nI N) (bi ru) (nI a) (nI b) (nI mv0) (bi me) (fun d => nI (P ^ d)) (fun d => bi (cb d)) (fun k => bi (al k)) (fun k => nI (tr k)) to1 fa se qu sp))) K := R
  have T : jT Y 1 6 (jI (fun r w => ∃ f t to1, x = nI f ∧ f < P ∧ y = nI t ∧ t < P ∧ r = bi (psB P N ru cb al a f t) ∧ w = (wA Y ad (nI P) (nI N) (bi ru) (nI a) (nI b) (nI mv0) (bi me) (fun d => nI (P ^ d)) (fun d => bi (cb d)) (fun k => bi (al k)) (fun k => nI (tr k)) to1 fa se qu sp))) (fun E w => E = xIOO ∧ (inr x P && inr y P) = false ∧ w = (wA Y ad (nI P) (nI N) (bi ru) (nI a) (nI b) (nI mv0) (bi me) (fun d => nI (P ^ d)) (fun d => bi (cb d)) (fun k => bi (al k)) (fun k => nI (tr k)) to fa se qu sp)) K := T
  refine j_eq (lo' := [some (.ref (ad 0)), some (.int x), some (.int y)]) rfl rfl rfl ?_
  obtain ⟨hP3, hP5, hN1, hN6⟩ := id hc
  have hP0 : 0 < P := by omega
  have hp2 : P ^ N ≤ 15625 := cfg_pw hc (by omega)
  refine j_aload_n C dX0_canMove_0 rfl ?_
  refine j_iload_n C dX0_canMove_1 rfl ?_
  refine j_callV1i C (ct_X0_isPeg (by omega)) gw_0_61 nd_X0_isPeg 0 0 rfl rfl rfl ⟨by decide, by decide⟩ ⟨Nat.le_of_ble_eq_true rfl, Nat.le_of_ble_eq_true rfl⟩ (Nat.le_of_ble_eq_true rfl) dX0_canMove_2 (fun x_1 w_1 hp => ?_)
  obtain ⟨rfl, rfl⟩ := hp
  refine jB_if_eq C 16 dX0_canMove_5 (by decide) (fun c_5 => ?_) (fun c_5 => ?_)
  · exact j_thr2 C X T wd_cl0_64 (is := 91) (j := 3) rfl dX0_canMove_16 dX0_canMove_19 dX0_canMove_20 dX0_canMove_22 dX0_canMove_25 (by decide) (by decide) (by decide) (by decide) (by decide) (by decide) ⟨rfl, by rw [c_5]; rfl, rfl⟩
  · refine j_aload_n C dX0_canMove_8 rfl ?_
    refine j_iload_n C dX0_canMove_9 rfl ?_
    refine j_callV1i C (ct_X0_isPeg (by omega)) gw_0_61 nd_X0_isPeg 0 0 rfl rfl rfl ⟨by decide, by decide⟩ ⟨Nat.le_of_ble_eq_true rfl, Nat.le_of_ble_eq_true rfl⟩ (Nat.le_of_ble_eq_true rfl) dX0_canMove_10 (fun x_1 w_1 hp => ?_)
    obtain ⟨rfl, rfl⟩ := hp
    refine jB_if_ne C 26 dX0_canMove_13 (by decide) (fun c_13 => ?_) (fun c_13 => ?_)
    · obtain ⟨f, hf, rfl⟩ := inr_of c_5 (by omega)
      obtain ⟨t, ht, rfl⟩ := inr_of c_13 (by omega)
      refine j_aload_n C dX0_canMove_26 rfl ?_
      refine j_iload_n C dX0_canMove_27 rfl ?_
      refine j_iload_n C dX0_canMove_28 rfl ?_
      refine j_callV2i C (ct_X0_isPossible hc ha (by omega) (by omega)) gw_0_105 nd_X0_isPossible 0 0 rfl rfl rfl ⟨by decide, by decide⟩ ⟨Nat.le_of_ble_eq_true rfl, Nat.le_of_ble_eq_true rfl⟩ (Nat.le_of_ble_eq_true rfl) dX0_canMove_29 (fun x_1 w_1 hp => ?_)
      obtain ⟨rfl, to1, hto, rfl⟩ := hp
      refine j_widen (Nat.zero_le 1) (Nat.zero_le 6) ?_
      exact j_retz C R dX0_canMove_32 (bi_nar _) ⟨f, t, to1, rfl, hf, rfl, ht, rfl, rfl⟩
    · exact j_thr2 C X T wd_cl0_64 (is := 91) (j := 3) rfl dX0_canMove_16 dX0_canMove_19 dX0_canMove_20 dX0_canMove_22 dX0_canMove_25 (by decide) (by decide) (by decide) (by decide) (by decide) (by decide) ⟨rfl, by rw [c_13, Bool.and_false], rfl⟩
abbrev rm_X0_begin : Room := { frames := 6, cells := 1, slots := 6, locals := 82 }
set_option maxHeartbeats 4000000 in
set_option maxRecDepth 100000 in
theorem ct_X0_begin {l : Launch} {D : va_G} {Y : jy_T} {ad : Nat → Nat} {P N a b mv0 : Nat} {ru me : Bool} {cb al : Nat → Bool} {tr : Nat → Nat} {to fa se qu sp : Nat → Int32}{x y : Int32} (hl : l.stackTraces = false) :
    MX l yX0_begin cX0_begin 3 (some .int) rm_X0_begin D Y [.ref (ad 0), .int x, .int y] (wA Y ad (nI P) (nI N) (bi ru) (nI a) (nI b) (nI mv0) (bi me) (fun d => nI (P ^ d)) (fun d => bi (cb d)) (fun k => bi (al k)) (fun k => nI (tr k)) to fa se qu sp) (jI (fun r w => ∃ P1 N1, x = nI P1 ∧ y = nI N1 ∧ cfg P1 N1 ∧ r = nI (P1 ^ N1) ∧ w = (wA Y ad (nI P1) (nI N1) (bi false) (nI 0) (nI (P1 ^ N1 - 1)) (nI 0) (bi false) (fun d => nI (P1 ^ d)) (fun d => bi ((fun _ => false) d)) (fun k => bi ((fun _ => true) k)) (fun k => nI (tr k)) to fa se qu sp))) (fun E w => E = xIAE ∧ (rg x 3 5 && rg y 1 6) = false ∧ w = (wA Y ad (nI P) (nI N) (bi ru) (nI a) (nI b) (nI mv0) (bi me) (fun d => nI (P ^ d)) (fun d => bi (cb d)) (fun k => bi (al k)) (fun k => nI (tr k)) to fa se qu sp)) := by
  refine j_enterX hl (by decide) (Nat.le_of_ble_eq_true rfl) (fun v hv => by simp only [List.mem_cons, List.not_mem_nil, or_false] at hv; rcases hv with rfl | rfl | rfl <;> rfl) (fun K hl2 hD C R X T => ?_)
  subst hl2; subst hD
  have C : jC cX0_begin RX0 Y rm_X0_begin 3 K := C
  have R : jR Y (some .int) 1 6 (jI (fun r w => ∃ P1 N1, x = nI P1 ∧ y = nI N1 ∧ cfg P1 N1 ∧ r = nI (P1 ^ N1) ∧ w = (wA Y ad (nI P1) (nI N1) (bi false) (nI 0) (nI (P1 ^ N1 - 1)) (nI 0) (bi false) (fun d => nI (P1 ^ d)) (fun d => bi ((fun _ => false) d)) (fun k => bi ((fun _ => true) k)) (fun k => nI (tr k)) to fa se qu sp))) K := R
  have T : jT Y 1 6 (jI (fun r w => ∃ P1 N1, x = nI P1 ∧ y = nI N1 ∧ cfg P1 N1 ∧ r = nI (P1 ^ N1) ∧ w = (wA Y ad (nI P1) (nI N1) (bi false) (nI 0) (nI (P1 ^ N1 - 1)) (nI 0) (bi false) (fun d => nI (P1 ^ d)) (fun d => bi ((fun _ => false) d)) (fun k => bi ((fun _ => true) k)) (fun k => nI (tr k)) to fa se qu sp))) (fun E w => E = xIAE ∧ (rg x 3 5 && rg y 1 6) = false ∧ w = (wA Y ad (nI P) (nI N) (bi ru) (nI a) (nI b) (nI mv0) (bi me) (fun d => nI (P ^ d)) (fun d => bi (cb d)) (fun k => bi (al k)) (fun k => nI (tr k)) to fa se qu sp)) K := T
  refine j_eq (lo' := [some (.ref (ad 0)), some (.int x), some (.int y)]) rfl rfl rfl ?_
  refine j_iload_n C dX0_begin_0 rfl ?_
  refine j_iconst C (nI 3) dX0_begin_1 (by decide) ?_
  refine j_icmp_lt C 21 dX0_begin_2 (by decide) (fun c_2 => ?_) (fun c_2 => ?_)
  · exact j_thr1 C X T wd_cl0_46 (is := 48) (j := 0) rfl dX0_begin_21 dX0_begin_24 dX0_begin_25 dX0_begin_27 dX0_begin_30 (by decide) (by decide) (by decide) (by decide) (by decide) (by decide) ⟨rfl, by rw [rg_f1 (by omega) c_2]; rfl, rfl⟩
  · refine j_iload_n C dX0_begin_5 rfl ?_
    refine j_iconst C (nI 5) dX0_begin_6 (by decide) ?_
    refine j_icmp_gt C 21 dX0_begin_7 (by decide) (fun c_7 => ?_) (fun c_7 => ?_)
    · exact j_thr1 C X T wd_cl0_46 (is := 48) (j := 0) rfl dX0_begin_21 dX0_begin_24 dX0_begin_25 dX0_begin_27 dX0_begin_30 (by decide) (by decide) (by decide) (by decide) (by decide) (by decide) ⟨rfl, by rw [rg_f2 (by omega) c_7]; rfl, rfl⟩
    · refine j_iload_n C dX0_begin_10 rfl ?_
      refine j_iconst C (nI 1) dX0_begin_11 (by decide) ?_
      refine j_icmp_lt C 21 dX0_begin_12 (by decide) (fun c_12 => ?_) (fun c_12 => ?_)
      · exact j_thr1 C X T wd_cl0_46 (is := 48) (j := 0) rfl dX0_begin_21 dX0_begin_24 dX0_begin_25 dX0_begin_27 dX0_begin_30 (by decide) (by decide) (by decide) (by decide) (by decide) (by decide) ⟨rfl, by rw [rg_f1 (by omega) c_12, Bool.and_false], rfl⟩
      · refine j_iload_n C dX0_begin_15 rfl ?_
        refine j_bipush C (nI 6) dX0_begin_16 (by decide) ?_
        refine j_icmp_le C 31 dX0_begin_18 (by decide) (fun c_18 => ?_) (fun c_18 => ?_)
        · obtain ⟨P1, hp1, hp5, rfl⟩ := rg_of (by omega) (rg_t (lo := 3) (hi := 5) (by omega) (by omega) c_2 (i32_nlt c_7))
          obtain ⟨N1, hn1, hn6, rfl⟩ := rg_of (by omega) (rg_t (lo := 1) (hi := 6) (by omega) (by omega) c_12 c_18)
          have hc1 : cfg P1 N1 := ⟨hp1, hp5, hn1, hn6⟩
          refine j_aload_n C dX0_begin_31 rfl ?_
          refine j_iload_n C dX0_begin_32 rfl ?_
          refine j_iload_n C dX0_begin_33 rfl ?_
          refine j_callV2v C (ct_X0_lay hc1) gw_0_42 nd_X0_lay 0 0 rfl rfl rfl ⟨by decide, by decide⟩ ⟨Nat.le_of_ble_eq_true rfl, Nat.le_of_ble_eq_true rfl⟩ (Nat.le_of_ble_eq_true rfl) dX0_begin_34 (fun w_1 hp => ?_)
          subst hp
          refine j_aload_n C dX0_begin_37 rfl ?_
          refine g0_weight C dX0_begin_38 ?_
          refine j_aload_n C dX0_begin_41 rfl ?_
          refine g0_diskCount C dX0_begin_42 ?_
          refine l0_we C _ rfl (by omega) dX0_begin_45 ?_
          refine j_widen (Nat.zero_le 1) (Nat.zero_le 6) ?_
          exact j_reti C R dX0_begin_46 ⟨P1, N1, rfl, rfl, hc1, rfl, rfl⟩
        · exact j_thr1 C X T wd_cl0_46 (is := 48) (j := 0) rfl dX0_begin_21 dX0_begin_24 dX0_begin_25 dX0_begin_27 dX0_begin_30 (by decide) (by decide) (by decide) (by decide) (by decide) (by decide) ⟨rfl, by rw [rg_f3 (by omega) c_18, Bool.and_false], rfl⟩
abbrev rm_X0_put : Room := { frames := 6, cells := 1, slots := 6, locals := 82 }
set_option maxHeartbeats 4000000 in
set_option maxRecDepth 100000 in
theorem ct_X0_put {l : Launch} {D : va_G} {Y : jy_T} {ad : Nat → Nat} {P N a b mv0 : Nat} {ru me : Bool} {cb al : Nat → Bool} {tr : Nat → Nat} {to fa se qu sp : Nat → Int32}{x y : Int32} (hc : cfg P N) (ha : a < P ^ N) (hb : b < P ^ N) (hm0 : mv0 < 2 ^ 31) (hl : l.stackTraces = false) :
    MX l yX0_put cX0_put 4 (some .int) rm_X0_put D Y [.ref (ad 0), .int x, .int y] (wA Y ad (nI P) (nI N) (bi ru) (nI a) (nI b) (nI mv0) (bi me) (fun d => nI (P ^ d)) (fun d => bi (cb d)) (fun k => bi (al k)) (fun k => nI (tr k)) to fa se qu sp) (jI (fun r w => ∃ d t, x = nI d ∧ d < N ∧ y = nI t ∧ t < P ∧ mv0 = 0 ∧ r = nI (dg P a d) ∧ w = (wA Y ad (nI P) (nI N) (bi ru) (nI (sd P a d t)) (nI b) (nI mv0) (bi me) (fun d => nI (P ^ d)) (fun d => bi (cb d)) (fun k => bi (al k)) (fun k => nI (tr k)) to fa se qu sp))) (fun E w => w = (wA Y ad (nI P) (nI N) (bi ru) (nI a) (nI b) (nI mv0) (bi me) (fun d => nI (P ^ d)) (fun d => bi (cb d)) (fun k => bi (al k)) (fun k => nI (tr k)) to fa se qu sp) ∧ ((E = xIOO ∧ (inr x N && inr y P) = false) ∨ (E = xISE ∧ (inr x N && inr y P) = true ∧ 0 < mv0))) := by
  refine j_enterX hl (by decide) (Nat.le_of_ble_eq_true rfl) (fun v hv => by simp only [List.mem_cons, List.not_mem_nil, or_false] at hv; rcases hv with rfl | rfl | rfl <;> rfl) (fun K hl2 hD C R X T => ?_)
  subst hl2; subst hD
  have C : jC cX0_put RX0 Y rm_X0_put 4 K := C
  have R : jR Y (some .int) 1 6 (jI (fun r w => ∃ d t, x = nI d ∧ d < N ∧ y = nI t ∧ t < P ∧ mv0 = 0 ∧ r = nI (dg P a d) ∧ w = (wA Y ad (nI P) (nI N) (bi ru) (nI (sd P a d t)) (nI b) (nI mv0) (bi me) (fun d => nI (P ^ d)) (fun d => bi (cb d)) (fun k => bi (al k)) (fun k => nI (tr k)) to fa se qu sp))) K := R
  have T : jT Y 1 6 (jI (fun r w => ∃ d t, x = nI d ∧ d < N ∧ y = nI t ∧ t < P ∧ mv0 = 0 ∧ r = nI (dg P a d) ∧ w = (wA Y ad (nI P) (nI N) (bi ru) (nI (sd P a d t)) (nI b) (nI mv0) (bi me) (fun d => nI (P ^ d)) (fun d => bi (cb d)) (fun k => bi (al k)) (fun k => nI (tr k)) to fa se qu sp))) (fun E w => w = (wA Y ad (nI P) (nI N) (bi ru) (nI a) (nI b) (nI mv0) (bi me) (fun d => nI (P ^ d)) (fun d => bi (cb d)) (fun k => bi (al k)) (fun k => nI (tr k)) to fa se qu sp) ∧ ((E = xIOO ∧ (inr x N && inr y P) = false) ∨ (E = xISE ∧ (inr x N && inr y P) = true ∧ 0 < mv0))) K := T
  refine j_eq (lo' := [some (.ref (ad 0)), some (.int x), some (.int y), none]) rfl rfl rfl ?_
  obtain ⟨hP3, hP5, hN1, hN6⟩ := id hc
  have hP0 : 0 < P := by omega
  have hp2 : P ^ N ≤ 15625 := cfg_pw hc (by omega)
  refine j_aload_n C dX0_put_0 rfl ?_
  refine j_iload_n C dX0_put_1 rfl ?_
  refine j_callV1i C (ct_X0_isDisk (by omega)) gw_0_57 nd_X0_isDisk 0 0 rfl rfl rfl ⟨by decide, by decide⟩ ⟨Nat.le_of_ble_eq_true rfl, Nat.le_of_ble_eq_true rfl⟩ (Nat.le_of_ble_eq_true rfl) dX0_put_2 (fun x_1 w_1 hp => ?_)
  obtain ⟨rfl, rfl⟩ := hp
  refine jB_if_eq C 16 dX0_put_5 (by decide) (fun c_5 => ?_) (fun c_5 => ?_)
  · exact j_thr2 C X T wd_cl0_64 (is := 66) (j := 1) rfl dX0_put_16 dX0_put_19 dX0_put_20 dX0_put_22 dX0_put_25 (by decide) (by decide) (by decide) (by decide) (by decide) (by decide) ⟨rfl, Or.inl ⟨rfl, by rw [c_5]; rfl⟩⟩
  · refine j_aload_n C dX0_put_8 rfl ?_
    refine j_iload_n C dX0_put_9 rfl ?_
    refine j_callV1i C (ct_X0_isPeg (by omega)) gw_0_61 nd_X0_isPeg 0 0 rfl rfl rfl ⟨by decide, by decide⟩ ⟨Nat.le_of_ble_eq_true rfl, Nat.le_of_ble_eq_true rfl⟩ (Nat.le_of_ble_eq_true rfl) dX0_put_10 (fun x_1 w_1 hp => ?_)
    obtain ⟨rfl, rfl⟩ := hp
    refine jB_if_ne C 26 dX0_put_13 (by decide) (fun c_13 => ?_) (fun c_13 => ?_)
    · refine j_aload_n C dX0_put_26 rfl ?_
      refine g0_moveCount C dX0_put_27 ?_
      refine j_if_le C 43 dX0_put_30 (by decide) (fun c_30 => ?_) (fun c_30 => ?_)
      · obtain ⟨d, hd, rfl⟩ := inr_of c_5 (by omega)
        obtain ⟨t, ht, rfl⟩ := inr_of c_13 (by omega)
        have hz : mv0 = 0 := by have h : nI mv0 ≤ nI 0 := c_30; rw [nI_leI (by omega) (by omega)] at h; omega
        refine j_aload_n C dX0_put_43 rfl ?_
        refine j_aload_n C dX0_put_44 rfl ?_
        refine g0_now C dX0_put_45 ?_
        refine j_iload_n C dX0_put_48 rfl ?_
        refine j_callV2i C (ct_X0_pegIn hc (by omega) (by omega)) gw_0_80 nd_X0_pegIn 0 0 rfl rfl rfl ⟨by decide, by decide⟩ ⟨Nat.le_of_ble_eq_true rfl, Nat.le_of_ble_eq_true rfl⟩ (Nat.le_of_ble_eq_true rfl) dX0_put_49 (fun x_1 w_1 hp => ?_)
        obtain ⟨rfl, rfl⟩ := hp
        refine j_istore_3 C dX0_put_52 (by decide) ?_
        refine j_aload_n C dX0_put_53 rfl ?_
        refine j_dup C dX0_put_54 rfl ?_
        refine g0_now C dX0_put_55 ?_
        refine j_iload_n C dX0_put_58 rfl ?_
        refine j_iload_n C dX0_put_59 rfl ?_
        refine j_isub C dX0_put_60 ?_
        refine j_top _ (nI t - nI (dg P a d)) rfl ?_
        refine j_aload_n C dX0_put_61 rfl ?_
        refine g0_weight C dX0_put_62 ?_
        refine j_iload_n C dX0_put_65 rfl ?_
        refine l0_we C _ rfl (by omega) dX0_put_66 ?_
        refine j_imul C dX0_put_67 ?_
        refine j_top _ ((nI t - nI (dg P a d)) * nI (P ^ d)) rfl ?_
        refine j_iadd C dX0_put_68 ?_
        refine j_top _ (nI (sd P a d t)) (nI_move dg_le) ?_
        refine p0_now C dX0_put_69 ?_
        refine j_iload_n C dX0_put_72 rfl ?_
        refine j_widen (Nat.zero_le 1) (Nat.zero_le 6) ?_
        exact j_reti C R dX0_put_73 ⟨d, t, rfl, hd, rfl, ht, hz, rfl, rfl⟩
      · exact j_thr3 C X T wd_cl0_72 (is := 74) (j := 2) rfl dX0_put_33 dX0_put_36 dX0_put_37 dX0_put_39 dX0_put_42 (by decide) (by decide) (by decide) (by decide) (by decide) (by decide) ⟨rfl, Or.inr ⟨rfl, by rw [c_5, c_13]; rfl, by have h : ¬ nI mv0 ≤ nI 0 := c_30; rw [nI_leI (by omega) (by omega)] at h; omega⟩⟩
    · exact j_thr2 C X T wd_cl0_64 (is := 66) (j := 1) rfl dX0_put_16 dX0_put_19 dX0_put_20 dX0_put_22 dX0_put_25 (by decide) (by decide) (by decide) (by decide) (by decide) (by decide) ⟨rfl, Or.inl ⟨rfl, by rw [c_13, Bool.and_false]⟩⟩
abbrev rm_X0_aim : Room := { frames := 6, cells := 1, slots := 6, locals := 82 }
set_option maxHeartbeats 4000000 in
set_option maxRecDepth 100000 in
theorem ct_X0_aim {l : Launch} {D : va_G} {Y : jy_T} {ad : Nat → Nat} {P N a b mv0 : Nat} {ru me : Bool} {cb al : Nat → Bool} {tr : Nat → Nat} {to fa se qu sp : Nat → Int32}{x y : Int32} (hc : cfg P N) (ha : a < P ^ N) (hb : b < P ^ N) (hl : l.stackTraces = false) :
    MX l yX0_aim cX0_aim 4 (some .int) rm_X0_aim D Y [.ref (ad 0), .int x, .int y] (wA Y ad (nI P) (nI N) (bi ru) (nI a) (nI b) (nI mv0) (bi me) (fun d => nI (P ^ d)) (fun d => bi (cb d)) (fun k => bi (al k)) (fun k => nI (tr k)) to fa se qu sp) (jI (fun r w => ∃ d t, x = nI d ∧ d < N ∧ y = nI t ∧ t < P ∧ r = nI (dg P b d) ∧ w = (wA Y ad (nI P) (nI N) (bi ru) (nI a) (nI (sd P b d t)) (nI mv0) (bi false) (fun d => nI (P ^ d)) (fun d => bi (cb d)) (fun k => bi (al k)) (fun k => nI (tr k)) to fa se qu sp))) (fun E w => E = xIOO ∧ (inr x N && inr y P) = false ∧ w = (wA Y ad (nI P) (nI N) (bi ru) (nI a) (nI b) (nI mv0) (bi me) (fun d => nI (P ^ d)) (fun d => bi (cb d)) (fun k => bi (al k)) (fun k => nI (tr k)) to fa se qu sp)) := by
  refine j_enterX hl (by decide) (Nat.le_of_ble_eq_true rfl) (fun v hv => by simp only [List.mem_cons, List.not_mem_nil, or_false] at hv; rcases hv with rfl | rfl | rfl <;> rfl) (fun K hl2 hD C R X T => ?_)
  subst hl2; subst hD
  have C : jC cX0_aim RX0 Y rm_X0_aim 4 K := C
  have R : jR Y (some .int) 1 6 (jI (fun r w => ∃ d t, x = nI d ∧ d < N ∧ y = nI t ∧ t < P ∧ r = nI (dg P b d) ∧ w = (wA Y ad (nI P) (nI N) (bi ru) (nI a) (nI (sd P b d t)) (nI mv0) (bi false) (fun d => nI (P ^ d)) (fun d => bi (cb d)) (fun k => bi (al k)) (fun k => nI (tr k)) to fa se qu sp))) K := R
  have T : jT Y 1 6 (jI (fun r w => ∃ d t, x = nI d ∧ d < N ∧ y = nI t ∧ t < P ∧ r = nI (dg P b d) ∧ w = (wA Y ad (nI P) (nI N) (bi ru) (nI a) (nI (sd P b d t)) (nI mv0) (bi false) (fun d => nI (P ^ d)) (fun d => bi (cb d)) (fun k => bi (al k)) (fun k => nI (tr k)) to fa se qu sp))) (fun E w => E = xIOO ∧ (inr x N && inr y P) = false ∧ w = (wA Y ad (nI P) (nI N) (bi ru) (nI a) (nI b) (nI mv0) (bi me) (fun d => nI (P ^ d)) (fun d => bi (cb d)) (fun k => bi (al k)) (fun k => nI (tr k)) to fa se qu sp)) K := T
  refine j_eq (lo' := [some (.ref (ad 0)), some (.int x), some (.int y), none]) rfl rfl rfl ?_
  obtain ⟨hP3, hP5, hN1, hN6⟩ := id hc
  have hP0 : 0 < P := by omega
  have hp2 : P ^ N ≤ 15625 := cfg_pw hc (by omega)
  refine j_aload_n C dX0_aim_0 rfl ?_
  refine j_iload_n C dX0_aim_1 rfl ?_
  refine j_callV1i C (ct_X0_isDisk (by omega)) gw_0_57 nd_X0_isDisk 0 0 rfl rfl rfl ⟨by decide, by decide⟩ ⟨Nat.le_of_ble_eq_true rfl, Nat.le_of_ble_eq_true rfl⟩ (Nat.le_of_ble_eq_true rfl) dX0_aim_2 (fun x_1 w_1 hp => ?_)
  obtain ⟨rfl, rfl⟩ := hp
  refine jB_if_eq C 16 dX0_aim_5 (by decide) (fun c_5 => ?_) (fun c_5 => ?_)
  · exact j_thr2 C X T wd_cl0_64 (is := 66) (j := 1) rfl dX0_aim_16 dX0_aim_19 dX0_aim_20 dX0_aim_22 dX0_aim_25 (by decide) (by decide) (by decide) (by decide) (by decide) (by decide) ⟨rfl, by rw [c_5]; rfl, rfl⟩
  · refine j_aload_n C dX0_aim_8 rfl ?_
    refine j_iload_n C dX0_aim_9 rfl ?_
    refine j_callV1i C (ct_X0_isPeg (by omega)) gw_0_61 nd_X0_isPeg 0 0 rfl rfl rfl ⟨by decide, by decide⟩ ⟨Nat.le_of_ble_eq_true rfl, Nat.le_of_ble_eq_true rfl⟩ (Nat.le_of_ble_eq_true rfl) dX0_aim_10 (fun x_1 w_1 hp => ?_)
    obtain ⟨rfl, rfl⟩ := hp
    refine jB_if_ne C 26 dX0_aim_13 (by decide) (fun c_13 => ?_) (fun c_13 => ?_)
    · obtain ⟨d, hd, rfl⟩ := inr_of c_5 (by omega)
      obtain ⟨t, ht, rfl⟩ := inr_of c_13 (by omega)
      refine j_aload_n C dX0_aim_26 rfl ?_
      refine j_aload_n C dX0_aim_27 rfl ?_
      refine g0_target C dX0_aim_28 ?_
      refine j_iload_n C dX0_aim_31 rfl ?_
      refine j_callV2i C (ct_X0_pegIn hc (by omega) (by omega)) gw_0_80 nd_X0_pegIn 0 0 rfl rfl rfl ⟨by decide, by decide⟩ ⟨Nat.le_of_ble_eq_true rfl, Nat.le_of_ble_eq_true rfl⟩ (Nat.le_of_ble_eq_true rfl) dX0_aim_32 (fun x_1 w_1 hp => ?_)
      obtain ⟨rfl, rfl⟩ := hp
      refine j_istore_3 C dX0_aim_35 (by decide) ?_
      refine j_aload_n C dX0_aim_36 rfl ?_
      refine j_dup C dX0_aim_37 rfl ?_
      refine g0_target C dX0_aim_38 ?_
      refine j_iload_n C dX0_aim_41 rfl ?_
      refine j_iload_n C dX0_aim_42 rfl ?_
      refine j_isub C dX0_aim_43 ?_
      refine j_top _ (nI t - nI (dg P b d)) rfl ?_
      refine j_aload_n C dX0_aim_44 rfl ?_
      refine g0_weight C dX0_aim_45 ?_
      refine j_iload_n C dX0_aim_48 rfl ?_
      refine l0_we C _ rfl (by omega) dX0_aim_49 ?_
      refine j_imul C dX0_aim_50 ?_
      refine j_top _ ((nI t - nI (dg P b d)) * nI (P ^ d)) rfl ?_
      refine j_iadd C dX0_aim_51 ?_
      refine j_top _ (nI (sd P b d t)) (nI_move dg_le) ?_
      refine p0_target C dX0_aim_52 ?_
      refine j_aload_n C dX0_aim_55 rfl ?_
      refine j_iconst C (bi false) dX0_aim_56 (by decide) ?_
      refine p0_measured C dX0_aim_57 ?_
      refine j_iload_n C dX0_aim_60 rfl ?_
      refine j_widen (Nat.zero_le 1) (Nat.zero_le 6) ?_
      exact j_reti C R dX0_aim_61 ⟨d, t, rfl, hd, rfl, ht, rfl, rfl⟩
    · exact j_thr2 C X T wd_cl0_64 (is := 66) (j := 1) rfl dX0_aim_16 dX0_aim_19 dX0_aim_20 dX0_aim_22 dX0_aim_25 (by decide) (by decide) (by decide) (by decide) (by decide) (by decide) ⟨rfl, by rw [c_13, Bool.and_false], rfl⟩
abbrev rm_X0_allow : Room := { frames := 6, cells := 1, slots := 6, locals := 82 }
set_option maxHeartbeats 4000000 in
set_option maxRecDepth 100000 in
theorem ct_X0_allow {l : Launch} {D : va_G} {Y : jy_T} {ad : Nat → Nat} {P N a b mv0 : Nat} {ru me : Bool} {cb al : Nat → Bool} {tr : Nat → Nat} {to fa se qu sp : Nat → Int32}{x y : Int32} {z : Bool} (hc : cfg P N) (ha : a < P ^ N) (hb : b < P ^ N) (hl : l.stackTraces = false) :
    MX l yX0_allow cX0_allow 6 (some .boolean) rm_X0_allow D Y [.ref (ad 0), .int x, .int y, .int (bi z)] (wA Y ad (nI P) (nI N) (bi ru) (nI a) (nI b) (nI mv0) (bi me) (fun d => nI (P ^ d)) (fun d => bi (cb d)) (fun k => bi (al k)) (fun k => nI (tr k)) to fa se qu sp) (jI (fun r w => ∃ f t, x = nI f ∧ f < P ∧ y = nI t ∧ t < P ∧ f ≠ t ∧ r = bi (al (f * 5 + t)) ∧ w = (wA Y ad (nI P) (nI N) (bi ru) (nI a) (nI b) (nI mv0) (bi false) (fun d => nI (P ^ d)) (fun d => bi (cb d)) (fun k => bi (va_up al (f * 5 + t) z k)) (fun k => nI (tr k)) to fa se qu sp))) (fun E w => w = (wA Y ad (nI P) (nI N) (bi ru) (nI a) (nI b) (nI mv0) (bi me) (fun d => nI (P ^ d)) (fun d => bi (cb d)) (fun k => bi (al k)) (fun k => nI (tr k)) to fa se qu sp) ∧ ((E = xIOO ∧ (inr x P && inr y P) = false) ∨ (E = xIAE ∧ (inr x P && inr y P) = true ∧ x = y))) := by
  refine j_enterX hl (by decide) (Nat.le_of_ble_eq_true rfl) (fun v hv => by simp only [List.mem_cons, List.not_mem_nil, or_false] at hv; rcases hv with rfl | rfl | rfl | rfl <;> rfl) (fun K hl2 hD C R X T => ?_)
  subst hl2; subst hD
  have C : jC cX0_allow RX0 Y rm_X0_allow 6 K := C
  have R : jR Y (some .boolean) 1 6 (jI (fun r w => ∃ f t, x = nI f ∧ f < P ∧ y = nI t ∧ t < P ∧ f ≠ t ∧ r = bi (al (f * 5 + t)) ∧ w = (wA Y ad (nI P) (nI N) (bi ru) (nI a) (nI b) (nI mv0) (bi false) (fun d => nI (P ^ d)) (fun d => bi (cb d)) (fun k => bi (va_up al (f * 5 + t) z k)) (fun k => nI (tr k)) to fa se qu sp))) K := R
  have T : jT Y 1 6 (jI (fun r w => ∃ f t, x = nI f ∧ f < P ∧ y = nI t ∧ t < P ∧ f ≠ t ∧ r = bi (al (f * 5 + t)) ∧ w = (wA Y ad (nI P) (nI N) (bi ru) (nI a) (nI b) (nI mv0) (bi false) (fun d => nI (P ^ d)) (fun d => bi (cb d)) (fun k => bi (va_up al (f * 5 + t) z k)) (fun k => nI (tr k)) to fa se qu sp))) (fun E w => w = (wA Y ad (nI P) (nI N) (bi ru) (nI a) (nI b) (nI mv0) (bi me) (fun d => nI (P ^ d)) (fun d => bi (cb d)) (fun k => bi (al k)) (fun k => nI (tr k)) to fa se qu sp) ∧ ((E = xIOO ∧ (inr x P && inr y P) = false) ∨ (E = xIAE ∧ (inr x P && inr y P) = true ∧ x = y))) K := T
  refine j_eq (lo' := [some (.ref (ad 0)), some (.int x), some (.int y), some (.int (bi z)), none, none]) rfl rfl rfl ?_
  obtain ⟨hP3, hP5, hN1, hN6⟩ := id hc
  have hP0 : 0 < P := by omega
  have hp2 : P ^ N ≤ 15625 := cfg_pw hc (by omega)
  refine j_aload_n C dX0_allow_0 rfl ?_
  refine j_iload_n C dX0_allow_1 rfl ?_
  refine j_callV1i C (ct_X0_isPeg (by omega)) gw_0_61 nd_X0_isPeg 0 0 rfl rfl rfl ⟨by decide, by decide⟩ ⟨Nat.le_of_ble_eq_true rfl, Nat.le_of_ble_eq_true rfl⟩ (Nat.le_of_ble_eq_true rfl) dX0_allow_2 (fun x_1 w_1 hp => ?_)
  obtain ⟨rfl, rfl⟩ := hp
  refine jB_if_eq C 16 dX0_allow_5 (by decide) (fun c_5 => ?_) (fun c_5 => ?_)
  · exact j_thr2 C X T wd_cl0_64 (is := 91) (j := 3) rfl dX0_allow_16 dX0_allow_19 dX0_allow_20 dX0_allow_22 dX0_allow_25 (by decide) (by decide) (by decide) (by decide) (by decide) (by decide) ⟨rfl, Or.inl ⟨rfl, by rw [c_5]; rfl⟩⟩
  · refine j_aload_n C dX0_allow_8 rfl ?_
    refine j_iload_n C dX0_allow_9 rfl ?_
    refine j_callV1i C (ct_X0_isPeg (by omega)) gw_0_61 nd_X0_isPeg 0 0 rfl rfl rfl ⟨by decide, by decide⟩ ⟨Nat.le_of_ble_eq_true rfl, Nat.le_of_ble_eq_true rfl⟩ (Nat.le_of_ble_eq_true rfl) dX0_allow_10 (fun x_1 w_1 hp => ?_)
    obtain ⟨rfl, rfl⟩ := hp
    refine jB_if_ne C 26 dX0_allow_13 (by decide) (fun c_13 => ?_) (fun c_13 => ?_)
    · refine j_iload_n C dX0_allow_26 rfl ?_
      refine j_iload_n C dX0_allow_27 rfl ?_
      refine j_icmp_ne C 41 dX0_allow_28 (by decide) (fun c_28 => ?_) (fun c_28 => ?_)
      · obtain ⟨f, hf, rfl⟩ := inr_of c_5 (by omega)
        obtain ⟨t, ht, rfl⟩ := inr_of c_13 (by omega)
        refine j_iload_n C dX0_allow_41 rfl ?_
        refine j_iload_n C dX0_allow_42 rfl ?_
        refine j_callS2i C (ct_X0_pairOf (ad := ad)) gw_0_95 rfl nd_X0_pairOf ⟨by decide, by decide⟩ ⟨Nat.le_of_ble_eq_true rfl, Nat.le_of_ble_eq_true rfl⟩ (Nat.le_of_ble_eq_true rfl) dX0_allow_43 (fun x_1 w_1 hp => ?_)
        obtain ⟨rfl, rfl⟩ := hp
        refine j_istore_4 C dX0_allow_46 (by decide) ?_
        refine j_aload_n C dX0_allow_48 rfl ?_
        refine g0_allowed C dX0_allow_49 ?_
        refine j_iload C dX0_allow_52 rfl ?_
        refine l0_al C _ rfl (by omega) dX0_allow_54 ?_
        refine j_istore_5 C dX0_allow_55 (by decide) ?_
        refine j_aload_n C dX0_allow_57 rfl ?_
        refine g0_allowed C dX0_allow_58 ?_
        refine j_iload C dX0_allow_61 rfl ?_
        refine j_iload_n C dX0_allow_63 rfl ?_
        refine s0_al C _ rfl (by omega) dX0_allow_64 ?_
        refine j_aload_n C dX0_allow_65 rfl ?_
        refine j_iconst C (bi false) dX0_allow_66 (by decide) ?_
        refine p0_measured C dX0_allow_67 ?_
        refine j_iload C dX0_allow_70 rfl ?_
        refine j_widen (Nat.zero_le 1) (Nat.zero_le 6) ?_
        exact j_retz C R dX0_allow_72 (bi_nar _) ⟨f, t, rfl, hf, rfl, ht, fun q => c_28 (by rw [q]), rfl, by rw [upd_bi]⟩
      · exact j_thr1 C X T wd_cl0_46 (is := 93) (j := 4) rfl dX0_allow_31 dX0_allow_34 dX0_allow_35 dX0_allow_37 dX0_allow_40 (by decide) (by decide) (by decide) (by decide) (by decide) (by decide) ⟨rfl, Or.inr ⟨rfl, by rw [c_5, c_13]; rfl, c_28⟩⟩
    · exact j_thr2 C X T wd_cl0_64 (is := 91) (j := 3) rfl dX0_allow_16 dX0_allow_19 dX0_allow_20 dX0_allow_22 dX0_allow_25 (by decide) (by decide) (by decide) (by decide) (by decide) (by decide) ⟨rfl, Or.inl ⟨rfl, by rw [c_13, Bool.and_false]⟩⟩
abbrev rm_X0_setColour : Room := { frames := 6, cells := 1, slots := 6, locals := 82 }
set_option maxHeartbeats 4000000 in
set_option maxRecDepth 100000 in
theorem ct_X0_setColour {l : Launch} {D : va_G} {Y : jy_T} {ad : Nat → Nat} {P N a b mv0 : Nat} {ru me : Bool} {cb al : Nat → Bool} {tr : Nat → Nat} {to fa se qu sp : Nat → Int32}{x y : Int32} (hc : cfg P N) (ha : a < P ^ N) (hb : b < P ^ N) (hl : l.stackTraces = false) :
    MX l yX0_setColour cX0_setColour 4 (some .int) rm_X0_setColour D Y [.ref (ad 0), .int x, .int y] (wA Y ad (nI P) (nI N) (bi ru) (nI a) (nI b) (nI mv0) (bi me) (fun d => nI (P ^ d)) (fun d => bi (cb d)) (fun k => bi (al k)) (fun k => nI (tr k)) to fa se qu sp) (jI (fun r w => ∃ d z, x = nI d ∧ d < N ∧ y = bi z ∧ rg y 0 1 = true ∧ r = bi (cb d) ∧ w = (wA Y ad (nI P) (nI N) (bi ru) (nI a) (nI b) (nI mv0) (bi false) (fun d => nI (P ^ d)) (fun k => bi (va_up cb d z k)) (fun k => bi (al k)) (fun k => nI (tr k)) to fa se qu sp))) (fun E w => w = (wA Y ad (nI P) (nI N) (bi ru) (nI a) (nI b) (nI mv0) (bi me) (fun d => nI (P ^ d)) (fun d => bi (cb d)) (fun k => bi (al k)) (fun k => nI (tr k)) to fa se qu sp) ∧ ((E = xIOO ∧ inr x N = false) ∨ (E = xIAE ∧ inr x N = true ∧ rg y 0 1 = false))) := by
  refine j_enterX hl (by decide) (Nat.le_of_ble_eq_true rfl) (fun v hv => by simp only [List.mem_cons, List.not_mem_nil, or_false] at hv; rcases hv with rfl | rfl | rfl <;> rfl) (fun K hl2 hD C R X T => ?_)
  subst hl2; subst hD
  have C : jC cX0_setColour RX0 Y rm_X0_setColour 4 K := C
  have R : jR Y (some .int) 1 6 (jI (fun r w => ∃ d z, x = nI d ∧ d < N ∧ y = bi z ∧ rg y 0 1 = true ∧ r = bi (cb d) ∧ w = (wA Y ad (nI P) (nI N) (bi ru) (nI a) (nI b) (nI mv0) (bi false) (fun d => nI (P ^ d)) (fun k => bi (va_up cb d z k)) (fun k => bi (al k)) (fun k => nI (tr k)) to fa se qu sp))) K := R
  have T : jT Y 1 6 (jI (fun r w => ∃ d z, x = nI d ∧ d < N ∧ y = bi z ∧ rg y 0 1 = true ∧ r = bi (cb d) ∧ w = (wA Y ad (nI P) (nI N) (bi ru) (nI a) (nI b) (nI mv0) (bi false) (fun d => nI (P ^ d)) (fun k => bi (va_up cb d z k)) (fun k => bi (al k)) (fun k => nI (tr k)) to fa se qu sp))) (fun E w => w = (wA Y ad (nI P) (nI N) (bi ru) (nI a) (nI b) (nI mv0) (bi me) (fun d => nI (P ^ d)) (fun d => bi (cb d)) (fun k => bi (al k)) (fun k => nI (tr k)) to fa se qu sp) ∧ ((E = xIOO ∧ inr x N = false) ∨ (E = xIAE ∧ inr x N = true ∧ rg y 0 1 = false))) K := T
  refine j_eq (lo' := [some (.ref (ad 0)), some (.int x), some (.int y), none]) rfl rfl rfl ?_
  obtain ⟨hP3, hP5, hN1, hN6⟩ := id hc
  have hP0 : 0 < P := by omega
  have hp2 : P ^ N ≤ 15625 := cfg_pw hc (by omega)
  refine j_aload_n C dX0_setColour_0 rfl ?_
  refine j_iload_n C dX0_setColour_1 rfl ?_
  refine j_callV1i C (ct_X0_isDisk (by omega)) gw_0_57 nd_X0_isDisk 0 0 rfl rfl rfl ⟨by decide, by decide⟩ ⟨Nat.le_of_ble_eq_true rfl, Nat.le_of_ble_eq_true rfl⟩ (Nat.le_of_ble_eq_true rfl) dX0_setColour_2 (fun x_1 w_1 hp => ?_)
  obtain ⟨rfl, rfl⟩ := hp
  refine jB_if_ne C 18 dX0_setColour_5 (by decide) (fun c_5 => ?_) (fun c_5 => ?_)
  · refine j_iload_n C dX0_setColour_18 rfl ?_
    refine j_if_lt C 27 dX0_setColour_19 (by decide) (fun c_19 => ?_) (fun c_19 => ?_)
    · exact j_thr1 C X T wd_cl0_46 (is := 100) (j := 6) rfl dX0_setColour_27 dX0_setColour_30 dX0_setColour_31 dX0_setColour_33 dX0_setColour_36 (by decide) (by decide) (by decide) (by decide) (by decide) (by decide) ⟨rfl, Or.inr ⟨rfl, c_5, rg_f1 (by omega) c_19⟩⟩
    · refine j_iload_n C dX0_setColour_22 rfl ?_
      refine j_iconst C (nI 1) dX0_setColour_23 (by decide) ?_
      refine j_icmp_le C 37 dX0_setColour_24 (by decide) (fun c_24 => ?_) (fun c_24 => ?_)
      · obtain ⟨d, hd, rfl⟩ := inr_of c_5 (by omega)
        have hrg := rg_t (x := y) (lo := 0) (hi := 1) (by omega) (by omega) c_19 c_24
        obtain ⟨j, -, hj, ej⟩ := rg_of (by omega) hrg
        obtain ⟨z, hz⟩ := nI_bi hj
        rw [hz] at ej
        subst ej
        refine j_aload_n C dX0_setColour_37 rfl ?_
        refine g0_colour C dX0_setColour_38 ?_
        refine j_iload_n C dX0_setColour_41 rfl ?_
        refine l0_co C _ rfl (by omega) dX0_setColour_42 ?_
        refine j_istore_3 C dX0_setColour_43 (by decide) ?_
        refine j_aload_n C dX0_setColour_44 rfl ?_
        refine g0_colour C dX0_setColour_45 ?_
        refine j_iload_n C dX0_setColour_48 rfl ?_
        refine j_iload_n C dX0_setColour_49 rfl ?_
        refine s0_co C _ rfl (by omega) dX0_setColour_50 ?_
        refine j_aload_n C dX0_setColour_51 rfl ?_
        refine j_iconst C (bi false) dX0_setColour_52 (by decide) ?_
        refine p0_measured C dX0_setColour_53 ?_
        refine j_iload_n C dX0_setColour_56 rfl ?_
        refine j_widen (Nat.zero_le 1) (Nat.zero_le 6) ?_
        exact j_reti C R dX0_setColour_57 ⟨d, z, rfl, hd, rfl, hrg, rfl, by rw [upd_bi]⟩
      · exact j_thr1 C X T wd_cl0_46 (is := 100) (j := 6) rfl dX0_setColour_27 dX0_setColour_30 dX0_setColour_31 dX0_setColour_33 dX0_setColour_36 (by decide) (by decide) (by decide) (by decide) (by decide) (by decide) ⟨rfl, Or.inr ⟨rfl, c_5, rg_f3 (by omega) c_24⟩⟩
  · exact j_thr2 C X T wd_cl0_64 (is := 98) (j := 5) rfl dX0_setColour_8 dX0_setColour_11 dX0_setColour_12 dX0_setColour_14 dX0_setColour_17 (by decide) (by decide) (by decide) (by decide) (by decide) (by decide) ⟨rfl, Or.inl ⟨rfl, c_5⟩⟩
abbrev rm_X0_takeBack : Room := { frames := 6, cells := 1, slots := 6, locals := 82 }
set_option maxHeartbeats 4000000 in
set_option maxRecDepth 100000 in
theorem ct_X0_takeBack {l : Launch} {D : va_G} {Y : jy_T} {ad : Nat → Nat} {P N a b mv0 : Nat} {ru me : Bool} {cb al : Nat → Bool} {tr : Nat → Nat} {to fa se qu sp : Nat → Int32} (hc : cfg P N) (ha : a < P ^ N) (hb : b < P ^ N) (hm0 : mv0 ≤ 500) (hl : l.stackTraces = false) :
    MX l yX0_takeBack cX0_takeBack 1 (some .int) rm_X0_takeBack D Y [.ref (ad 0)] (wA Y ad (nI P) (nI N) (bi ru) (nI a) (nI b) (nI mv0) (bi me) (fun d => nI (P ^ d)) (fun d => bi (cb d)) (fun k => bi (al k)) (fun k => nI (tr k)) to fa se qu sp) (jI (fun r w => 0 < mv0 ∧ r = nI (mv0 - 1) ∧ w = (wA Y ad (nI P) (nI N) (bi ru) (nI (tr (mv0 - 1))) (nI b) (nI (mv0 - 1)) (bi me) (fun d => nI (P ^ d)) (fun d => bi (cb d)) (fun k => bi (al k)) (fun k => nI (tr k)) to fa se qu sp))) (fun E w => E = xISE ∧ mv0 = 0 ∧ w = (wA Y ad (nI P) (nI N) (bi ru) (nI a) (nI b) (nI mv0) (bi me) (fun d => nI (P ^ d)) (fun d => bi (cb d)) (fun k => bi (al k)) (fun k => nI (tr k)) to fa se qu sp)) := by
  refine j_enterX hl (by decide) (Nat.le_of_ble_eq_true rfl) (fun v hv => by rw [List.mem_singleton.mp hv]; rfl) (fun K hl2 hD C R X T => ?_)
  subst hl2; subst hD
  have C : jC cX0_takeBack RX0 Y rm_X0_takeBack 1 K := C
  have R : jR Y (some .int) 1 6 (jI (fun r w => 0 < mv0 ∧ r = nI (mv0 - 1) ∧ w = (wA Y ad (nI P) (nI N) (bi ru) (nI (tr (mv0 - 1))) (nI b) (nI (mv0 - 1)) (bi me) (fun d => nI (P ^ d)) (fun d => bi (cb d)) (fun k => bi (al k)) (fun k => nI (tr k)) to fa se qu sp))) K := R
  have T : jT Y 1 6 (jI (fun r w => 0 < mv0 ∧ r = nI (mv0 - 1) ∧ w = (wA Y ad (nI P) (nI N) (bi ru) (nI (tr (mv0 - 1))) (nI b) (nI (mv0 - 1)) (bi me) (fun d => nI (P ^ d)) (fun d => bi (cb d)) (fun k => bi (al k)) (fun k => nI (tr k)) to fa se qu sp))) (fun E w => E = xISE ∧ mv0 = 0 ∧ w = (wA Y ad (nI P) (nI N) (bi ru) (nI a) (nI b) (nI mv0) (bi me) (fun d => nI (P ^ d)) (fun d => bi (cb d)) (fun k => bi (al k)) (fun k => nI (tr k)) to fa se qu sp)) K := T
  refine j_eq (lo' := [some (.ref (ad 0))]) rfl rfl rfl ?_
  obtain ⟨hP3, hP5, hN1, hN6⟩ := id hc
  have hP0 : 0 < P := by omega
  have hp2 : P ^ N ≤ 15625 := cfg_pw hc (by omega)
  refine j_aload_n C dX0_takeBack_0 rfl ?_
  refine g0_moveCount C dX0_takeBack_1 ?_
  refine j_iconst C (nI 1) dX0_takeBack_4 (by decide) ?_
  refine jN_icmp_ge C 18 (by omega) (by omega) dX0_takeBack_5 (by decide) (fun c_5 => ?_) (fun c_5 => ?_)
  · refine j_aload_n C dX0_takeBack_18 rfl ?_
    refine j_dup C dX0_takeBack_19 rfl ?_
    refine g0_moveCount C dX0_takeBack_20 ?_
    refine j_iconst C (nI 1) dX0_takeBack_23 (by decide) ?_
    refine j_isub C dX0_takeBack_24 ?_
    refine j_top _ (nI (mv0 - 1)) (pk_sub (by omega)) ?_
    refine p0_moveCount C dX0_takeBack_25 ?_
    refine j_aload_n C dX0_takeBack_28 rfl ?_
    refine j_aload_n C dX0_takeBack_29 rfl ?_
    refine g0_trail C dX0_takeBack_30 ?_
    refine j_aload_n C dX0_takeBack_33 rfl ?_
    refine g0_moveCount C dX0_takeBack_34 ?_
    refine l0_tr C _ rfl (by omega) dX0_takeBack_37 ?_
    refine p0_now C dX0_takeBack_38 ?_
    refine j_aload_n C dX0_takeBack_41 rfl ?_
    refine g0_moveCount C dX0_takeBack_42 ?_
    refine j_widen (Nat.zero_le 1) (Nat.zero_le 6) ?_
    exact j_reti C R dX0_takeBack_45 ⟨by omega, rfl, rfl⟩
  · exact j_thr3 C X T wd_cl0_72 (is := 115) (j := 8) rfl dX0_takeBack_8 dX0_takeBack_11 dX0_takeBack_12 dX0_takeBack_14 dX0_takeBack_17 (by decide) (by decide) (by decide) (by decide) (by decide) (by decide) ⟨rfl, by omega, rfl⟩
abbrev rm_X0_move : Room := { frames := 6, cells := 1, slots := 6, locals := 91 }
set_option maxHeartbeats 4000000 in
set_option maxRecDepth 100000 in
theorem ct_X0_move {l : Launch} {D : va_G} {Y : jy_T} {ad : Nat → Nat} {P N a b mv0 : Nat} {ru me : Bool} {cb al : Nat → Bool} {tr : Nat → Nat} {to fa se qu sp : Nat → Int32}{x y : Int32} (hc : cfg P N) (ha : a < P ^ N) (hb : b < P ^ N) (hm0 : mv0 ≤ 500) (hl : l.stackTraces = false) :
    MX l yX0_move cX0_move 4 (some .int) rm_X0_move D Y [.ref (ad 0), .int x, .int y] (wA Y ad (nI P) (nI N) (bi ru) (nI a) (nI b) (nI mv0) (bi me) (fun d => nI (P ^ d)) (fun d => bi (cb d)) (fun k => bi (al k)) (fun k => nI (tr k)) to fa se qu sp) (jI (fun r w => ∃ f t d to1, x = nI f ∧ f < P ∧ y = nI t ∧ t < P ∧ mv0 < 500 ∧ psB P N ru cb al a f t = true ∧ tp P N a f = some d ∧ r = nI d ∧ w = (wA Y ad (nI P) (nI N) (bi ru) (nI (mv P N a f t)) (nI b) (nI (mv0 + 1)) (bi me) (fun d => nI (P ^ d)) (fun d => bi (cb d)) (fun k => bi (al k)) (fun k => nI (updN tr mv0 a k)) to1 fa se qu sp))) (fun E w => (E = xIOO ∧ (inr x P && inr y P) = false ∧ w = (wA Y ad (nI P) (nI N) (bi ru) (nI a) (nI b) (nI mv0) (bi me) (fun d => nI (P ^ d)) (fun d => bi (cb d)) (fun k => bi (al k)) (fun k => nI (tr k)) to fa se qu sp)) ∨ (E = xISE ∧ ∃ f t to1, x = nI f ∧ f < P ∧ y = nI t ∧ t < P ∧ (500 ≤ mv0 ∨ psB P N ru cb al a f t = false) ∧ w = (wA Y ad (nI P) (nI N) (bi ru) (nI a) (nI b) (nI mv0) (bi me) (fun d => nI (P ^ d)) (fun d => bi (cb d)) (fun k => bi (al k)) (fun k => nI (tr k)) to1 fa se qu sp))) := by
  refine j_enterX hl (by decide) (Nat.le_of_ble_eq_true rfl) (fun v hv => by simp only [List.mem_cons, List.not_mem_nil, or_false] at hv; rcases hv with rfl | rfl | rfl <;> rfl) (fun K hl2 hD C R X T => ?_)
  subst hl2; subst hD
  have C : jC cX0_move RX0 Y rm_X0_move 4 K := C
  have R : jR Y (some .int) 1 6 (jI (fun r w => ∃ f t d to1, x = nI f ∧ f < P ∧ y = nI t ∧ t < P ∧ mv0 < 500 ∧ psB P N ru cb al a f t = true ∧ tp P N a f = some d ∧ r = nI d ∧ w = (wA Y ad (nI P) (nI N) (bi ru) (nI (mv P N a f t)) (nI b) (nI (mv0 + 1)) (bi me) (fun d => nI (P ^ d)) (fun d => bi (cb d)) (fun k => bi (al k)) (fun k => nI (updN tr mv0 a k)) to1 fa se qu sp))) K := R
  have T : jT Y 1 6 (jI (fun r w => ∃ f t d to1, x = nI f ∧ f < P ∧ y = nI t ∧ t < P ∧ mv0 < 500 ∧ psB P N ru cb al a f t = true ∧ tp P N a f = some d ∧ r = nI d ∧ w = (wA Y ad (nI P) (nI N) (bi ru) (nI (mv P N a f t)) (nI b) (nI (mv0 + 1)) (bi me) (fun d => nI (P ^ d)) (fun d => bi (cb d)) (fun k => bi (al k)) (fun k => nI (updN tr mv0 a k)) to1 fa se qu sp))) (fun E w => (E = xIOO ∧ (inr x P && inr y P) = false ∧ w = (wA Y ad (nI P) (nI N) (bi ru) (nI a) (nI b) (nI mv0) (bi me) (fun d => nI (P ^ d)) (fun d => bi (cb d)) (fun k => bi (al k)) (fun k => nI (tr k)) to fa se qu sp)) ∨ (E = xISE ∧ ∃ f t to1, x = nI f ∧ f < P ∧ y = nI t ∧ t < P ∧ (500 ≤ mv0 ∨ psB P N ru cb al a f t = false) ∧ w = (wA Y ad (nI P) (nI N) (bi ru) (nI a) (nI b) (nI mv0) (bi me) (fun d => nI (P ^ d)) (fun d => bi (cb d)) (fun k => bi (al k)) (fun k => nI (tr k)) to1 fa se qu sp))) K := T
  refine j_eq (lo' := [some (.ref (ad 0)), some (.int x), some (.int y), none]) rfl rfl rfl ?_
  obtain ⟨hP3, hP5, hN1, hN6⟩ := id hc
  have hP0 : 0 < P := by omega
  have hp2 : P ^ N ≤ 15625 := cfg_pw hc (by omega)
  refine j_aload_n C dX0_move_0 rfl ?_
  refine j_iload_n C dX0_move_1 rfl ?_
  refine j_callV1i C (ct_X0_isPeg (by omega)) gw_0_61 nd_X0_isPeg 0 0 rfl rfl rfl ⟨by decide, by decide⟩ ⟨Nat.le_of_ble_eq_true rfl, Nat.le_of_ble_eq_true rfl⟩ (Nat.le_of_ble_eq_true rfl) dX0_move_2 (fun x_1 w_1 hp => ?_)
  obtain ⟨rfl, rfl⟩ := hp
  refine jB_if_eq C 16 dX0_move_5 (by decide) (fun c_5 => ?_) (fun c_5 => ?_)
  · exact j_thr2 C X T wd_cl0_64 (is := 91) (j := 3) rfl dX0_move_16 dX0_move_19 dX0_move_20 dX0_move_22 dX0_move_25 (by decide) (by decide) (by decide) (by decide) (by decide) (by decide) (Or.inl ⟨rfl, by rw [c_5]; rfl, rfl⟩)
  · refine j_aload_n C dX0_move_8 rfl ?_
    refine j_iload_n C dX0_move_9 rfl ?_
    refine j_callV1i C (ct_X0_isPeg (by omega)) gw_0_61 nd_X0_isPeg 0 0 rfl rfl rfl ⟨by decide, by decide⟩ ⟨Nat.le_of_ble_eq_true rfl, Nat.le_of_ble_eq_true rfl⟩ (Nat.le_of_ble_eq_true rfl) dX0_move_10 (fun x_1 w_1 hp => ?_)
    obtain ⟨rfl, rfl⟩ := hp
    refine jB_if_ne C 26 dX0_move_13 (by decide) (fun c_13 => ?_) (fun c_13 => ?_)
    · obtain ⟨f, hf, rfl⟩ := inr_of c_5 (by omega)
      obtain ⟨t, ht, rfl⟩ := inr_of c_13 (by omega)
      refine j_aload_n C dX0_move_26 rfl ?_
      refine g0_moveCount C dX0_move_27 ?_
      refine j_sipush C (nI 500) dX0_move_30 (by decide) ?_
      refine jN_icmp_ge C 45 (by omega) (by omega) dX0_move_33 (by decide) (fun c_33 => ?_) (fun c_33 => ?_)
      · exact j_thr3 C X T wd_cl0_72 (is := 109) (j := 7) rfl dX0_move_45 dX0_move_48 dX0_move_49 dX0_move_51 dX0_move_54 (by decide) (by decide) (by decide) (by decide) (by decide) (by decide) (Or.inr ⟨rfl, f, t, to, rfl, hf, rfl, ht, Or.inl c_33, rfl⟩)
      · refine j_aload_n C dX0_move_36 rfl ?_
        refine j_iload_n C dX0_move_37 rfl ?_
        refine j_iload_n C dX0_move_38 rfl ?_
        refine j_callV2i C (ct_X0_isPossible hc ha (by omega) (by omega)) gw_0_105 nd_X0_isPossible 0 0 rfl rfl rfl ⟨by decide, by decide⟩ ⟨Nat.le_of_ble_eq_true rfl, Nat.le_of_ble_eq_true rfl⟩ (Nat.le_of_ble_eq_true rfl) dX0_move_39 (fun x_1 w_1 hp => ?_)
        obtain ⟨rfl, to1, hto, rfl⟩ := hp
        refine jB_if_ne C 55 dX0_move_42 (by decide) (fun c_42 => ?_) (fun c_42 => ?_)
        · obtain ⟨-, d, hd, -⟩ := ftB_some (psB_ft c_42)
          refine j_aload_n C dX0_move_55 rfl ?_
          refine g0_tops C dX0_move_56 ?_
          refine j_iload_n C dX0_move_59 rfl ?_
          refine l0_to C _ rfl (by omega) dX0_move_60 ?_
          refine j_top _ (nI d) (by rw [hto f (by omega), hd]; rfl) ?_
          refine j_istore_3 C dX0_move_61 (by decide) ?_
          refine j_aload_n C dX0_move_62 rfl ?_
          refine g0_trail C dX0_move_63 ?_
          refine j_aload_n C dX0_move_66 rfl ?_
          refine g0_moveCount C dX0_move_67 ?_
          refine j_aload_n C dX0_move_70 rfl ?_
          refine g0_now C dX0_move_71 ?_
          refine s0_tr C _ rfl (by omega) dX0_move_74 ?_
          refine j_aload_n C dX0_move_75 rfl ?_
          refine j_dup C dX0_move_76 rfl ?_
          refine g0_moveCount C dX0_move_77 ?_
          refine j_iconst C (nI 1) dX0_move_80 (by decide) ?_
          refine j_iadd C dX0_move_81 ?_
          refine j_top _ _ (nI_add _ _) ?_
          refine p0_moveCount C dX0_move_82 ?_
          refine j_aload_n C dX0_move_85 rfl ?_
          refine j_aload_n C dX0_move_86 rfl ?_
          refine j_aload_n C dX0_move_87 rfl ?_
          refine g0_now C dX0_move_88 ?_
          refine j_iload_n C dX0_move_91 rfl ?_
          refine j_iload_n C dX0_move_92 rfl ?_
          refine j_callV3i C (ct_X0_behindMove (d := d) (by omega) (by omega) (by omega) (by rw [hto f (by omega), hd]; rfl) (tp_lt hd) (tp_le hd)) gw_0_111 nd_X0_behindMove 0 0 rfl rfl rfl ⟨by decide, by decide⟩ ⟨Nat.le_of_ble_eq_true rfl, Nat.le_of_ble_eq_true rfl⟩ (Nat.le_of_ble_eq_true rfl) dX0_move_93 (fun x_1 w_1 hp => ?_)
          obtain ⟨rfl, rfl⟩ := hp
          refine j_top _ (nI (mv P N a f t)) (by rw [mv_some hd]) ?_
          refine p0_now C dX0_move_96 ?_
          refine j_iload_n C dX0_move_99 rfl ?_
          refine j_widen (Nat.zero_le 1) (Nat.zero_le 6) ?_
          exact j_reti C R dX0_move_100 ⟨f, t, d, to1, rfl, hf, rfl, ht, c_33, c_42, hd, rfl, by rw [upd_nI]⟩
        · exact j_thr3 C X T wd_cl0_72 (is := 109) (j := 7) rfl dX0_move_45 dX0_move_48 dX0_move_49 dX0_move_51 dX0_move_54 (by decide) (by decide) (by decide) (by decide) (by decide) (by decide) (Or.inr ⟨rfl, f, t, to1, rfl, hf, rfl, ht, Or.inr c_42, rfl⟩)
    · exact j_thr2 C X T wd_cl0_64 (is := 91) (j := 3) rfl dX0_move_16 dX0_move_19 dX0_move_20 dX0_move_22 dX0_move_25 (by decide) (by decide) (by decide) (by decide) (by decide) (by decide) (Or.inl ⟨rfl, by rw [c_13, Bool.and_false], rfl⟩)
end
section
theorem nI_min {x y : Nat} (hx : x < 2 ^ 31) (hy : y < 2 ^ 31) : (if nI y < nI x then nI y else nI x) = nI (if y < x then y else x) := by
  by_cases h : y < x
  · rw [if_pos h, if_pos ((nI_ltI hy hx).mpr h)]
  · rw [if_neg h, if_neg (fun q => h ((nI_ltI hy hx).mp q))]
/-- the largest place where two differ -/
def lgd (f g : Nat → Nat) : Nat → Option Nat
  | 0 => none
  | n + 1 => if f n = g n then lgd f g n else some n
def wbO (f g : Nat → Nat) (L : Nat) : Nat := gth f L (3 - f L - g L) + gth g L (3 - f L - g L) + 1
def wbT (f g : Nat → Nat) (L : Nat) : Nat := gth f L (g L) + gth g L (f L) + 2 ^ L + 1
def wbV (f g : Nat → Nat) (N : Nat) : Nat := match lgd f g N with
  | none => 0
  | some L => if wbT f g L < wbO f g L then wbT f g L else wbO f g L
/-- the numbers for splits -/
def spL : List Nat := [0, 1, 3, 7, 15, 31, 63, 127, 255, 511, 1023, 2047, 4095, 8191, 16383, 32767, 65535, 131071, 262143, 524287, 1048575, 0, 1, 3, 5, 9, 13, 17, 25, 33, 41, 49, 65, 81, 97, 113, 129, 161, 193, 225, 257, 289, 0, 1, 3, 5, 7, 11, 15, 19, 23, 27, 31, 39, 47, 55, 63, 71, 79, 87, 95, 103, 111]
def spT (i : Nat) : Nat := spL.getD i 0
def spG (e m : Nat) : Nat → Nat := fun k => 2 * spT (e * 21 + k) + spT ((e - 1) * 21 + (m - k))
def mnX (g : Nat → Nat) : Nat → Nat
  | 0 => 2147483647
  | j + 1 => if g (j + 1) < mnX g j then g (j + 1) else mnX g j
theorem sp_0 : ∀ m, m < 21 → spT m = 2 ^ m - 1 := by decide +kernel
theorem sp_1 : ∀ e, e < 3 → ∀ m, m < 2 → 0 < e → spT (e * 21 + m) = m := by decide +kernel
theorem sp_2 : ∀ e, e < 3 → ∀ m, m < 21 → 0 < e → 2 ≤ m → mnX (spG e m) (m - 1) = spT (e * 21 + m) := by decide +kernel
theorem sp_lt : ∀ i, i < 63 → spT i < 1048576 := by decide +kernel
theorem mnX_le {g : Nat → Nat} : ∀ {j : Nat}, mnX g j ≤ 2147483647
  | 0 => Nat.le_refl _
  | j + 1 => by
    rw [mnX]
    have := mnX_le (g := g) (j := j)
    split <;> omega
def stA (mv0 : Nat) (tr : Nat → Nat) (a : Nat) : Nat := if 0 < mv0 then tr 0 else a
abbrev rm_X0_wayByDisks : Room := { frames := 6, cells := 1, slots := 6, locals := 82 }
set_option maxHeartbeats 4000000 in
set_option maxRecDepth 100000 in
theorem ct_X0_wayByDisks {l : Launch} {D : va_G} {Y : jy_T} {ad : Nat → Nat} {P N a b mv0 : Nat} {ru me : Bool} {cb al : Nat → Bool} {tr : Nat → Nat} {to fa se qu sp : Nat → Int32} (hc : cfg P N) (ha : a < P ^ N) (hb : b < P ^ N) (hl : l.stackTraces = false) :
    MX l yX0_wayByDisks cX0_wayByDisks 7 (some .int) rm_X0_wayByDisks D Y [.ref (ad 0)] (wA Y ad (nI P) (nI N) (bi ru) (nI a) (nI b) (nI mv0) (bi me) (fun d => nI (P ^ d)) (fun d => bi (cb d)) (fun k => bi (al k)) (fun k => nI (tr k)) to fa se qu sp) (jI (fun r w => P = 3 ∧ ru = false ∧ alB al 0 25 = true ∧ r = nI (wbV (dg 3 a) (dg 3 b) N) ∧ w = (wA Y ad (nI P) (nI N) (bi ru) (nI a) (nI b) (nI mv0) (bi me) (fun d => nI (P ^ d)) (fun d => bi (cb d)) (fun k => bi (al k)) (fun k => nI (tr k)) to fa se qu sp))) (fun E w => E = xISE ∧ ¬ (P = 3 ∧ ru = false ∧ alB al 0 25 = true) ∧ w = (wA Y ad (nI P) (nI N) (bi ru) (nI a) (nI b) (nI mv0) (bi me) (fun d => nI (P ^ d)) (fun d => bi (cb d)) (fun k => bi (al k)) (fun k => nI (tr k)) to fa se qu sp)) := by
  refine j_enterX hl (by decide) (Nat.le_of_ble_eq_true rfl) (fun v hv => by rw [List.mem_singleton.mp hv]; rfl) (fun K hl2 hD C R X T => ?_)
  subst hl2; subst hD
  have C : jC cX0_wayByDisks RX0 Y rm_X0_wayByDisks 7 K := C
  have R : jR Y (some .int) 1 6 (jI (fun r w => P = 3 ∧ ru = false ∧ alB al 0 25 = true ∧ r = nI (wbV (dg 3 a) (dg 3 b) N) ∧ w = (wA Y ad (nI P) (nI N) (bi ru) (nI a) (nI b) (nI mv0) (bi me) (fun d => nI (P ^ d)) (fun d => bi (cb d)) (fun k => bi (al k)) (fun k => nI (tr k)) to fa se qu sp))) K := R
  have T : jT Y 1 6 (jI (fun r w => P = 3 ∧ ru = false ∧ alB al 0 25 = true ∧ r = nI (wbV (dg 3 a) (dg 3 b) N) ∧ w = (wA Y ad (nI P) (nI N) (bi ru) (nI a) (nI b) (nI mv0) (bi me) (fun d => nI (P ^ d)) (fun d => bi (cb d)) (fun k => bi (al k)) (fun k => nI (tr k)) to fa se qu sp))) (fun E w => E = xISE ∧ ¬ (P = 3 ∧ ru = false ∧ alB al 0 25 = true) ∧ w = (wA Y ad (nI P) (nI N) (bi ru) (nI a) (nI b) (nI mv0) (bi me) (fun d => nI (P ^ d)) (fun d => bi (cb d)) (fun k => bi (al k)) (fun k => nI (tr k)) to fa se qu sp)) K := T
  refine j_eq (lo' := [some (.ref (ad 0)), none, none, none, none, none, none]) rfl rfl rfl ?_
  obtain ⟨hP3, hP5, hN1, hN6⟩ := id hc
  have hP0 : 0 < P := by omega
  have hp2 : P ^ N ≤ 15625 := cfg_pw hc (by omega)
  have hW : P = 3 → ru = false → alB al 0 25 = true → jJ K 0 0 32 [some (.ref (ad 0)), none, none, none, none, none, none] [] (wA Y ad (nI P) (nI N) (bi ru) (nI a) (nI b) (nI mv0) (bi me) (fun d => nI (P ^ d)) (fun d => bi (cb d)) (fun k => bi (al k)) (fun k => nI (tr k)) to fa se qu sp) := by
    intro hP hru hal
    subst hP
    have hL : ∀ (i : Nat), i ≤ N → lgd (dg 3 a) (dg 3 b) N = lgd (dg 3 a) (dg 3 b) i → jJ K 0 0 39 [some (.ref (ad 0)), some (.int (nI i - nI 1)), none, none, none, none, none] [] (wA Y ad (nI 3) (nI N) (bi ru) (nI a) (nI b) (nI mv0) (bi me) (fun d => nI (3 ^ d)) (fun d => bi (cb d)) (fun k => bi (al k)) (fun k => nI (tr k)) to fa se qu sp) := by
      intro i
      induction i with
      | zero =>
        intro h1 hg
        refine j_iload_n C dX0_wayByDisks_39 rfl ?_
        refine j_if_lt C 70 dX0_wayByDisks_40 (by decide) (fun c_40 => ?_) (fun c_40 => ?_)
        · refine j_iload_n C dX0_wayByDisks_70 rfl ?_
          refine j_if_ge C 76 dX0_wayByDisks_71 (by decide) (fun c_71 => ?_) (fun c_71 => ?_)
          · exact absurd c_71 (by decide)
          · refine j_iconst C (nI 0) dX0_wayByDisks_74 (by decide) ?_
            refine j_widen (Nat.zero_le 1) (Nat.zero_le 6) ?_
            exact j_reti C R dX0_wayByDisks_75 ⟨rfl, hru, hal, by unfold wbV; rw [hg]; rfl, rfl⟩
        · exact absurd (by decide) c_40
      | succ j ih =>
        intro h1 hg
        refine j_eq (lo' := [some (.ref (ad 0)), some (.int (nI j)), none, none, none, none, none]) (by rw [nI_pr]) rfl rfl ?_
        refine j_iload_n C dX0_wayByDisks_39 rfl ?_
        refine j_if_lt C 70 dX0_wayByDisks_40 (by decide) (fun c_40 => ?_) (fun c_40 => ?_)
        · exact absurd c_40 (nI_nlt0 (by omega))
        · refine j_aload_n C dX0_wayByDisks_43 rfl ?_
          refine j_aload_n C dX0_wayByDisks_44 rfl ?_
          refine g0_now C dX0_wayByDisks_45 ?_
          refine j_iload_n C dX0_wayByDisks_48 rfl ?_
          refine j_callV2i C (ct_X0_pegIn hc (by omega) (by omega)) gw_0_80 nd_X0_pegIn 0 0 rfl rfl rfl ⟨by decide, by decide⟩ ⟨Nat.le_of_ble_eq_true rfl, Nat.le_of_ble_eq_true rfl⟩ (Nat.le_of_ble_eq_true rfl) dX0_wayByDisks_49 (fun x_1 w_1 hp => ?_)
          obtain ⟨rfl, rfl⟩ := hp
          refine j_aload_n C dX0_wayByDisks_52 rfl ?_
          refine j_aload_n C dX0_wayByDisks_53 rfl ?_
          refine g0_target C dX0_wayByDisks_54 ?_
          refine j_iload_n C dX0_wayByDisks_57 rfl ?_
          refine j_callV2i C (ct_X0_pegIn hc (by omega) (by omega)) gw_0_80 nd_X0_pegIn 0 0 rfl rfl rfl ⟨by decide, by decide⟩ ⟨Nat.le_of_ble_eq_true rfl, Nat.le_of_ble_eq_true rfl⟩ (Nat.le_of_ble_eq_true rfl) dX0_wayByDisks_58 (fun x_1 w_1 hp => ?_)
          obtain ⟨rfl, rfl⟩ := hp
          have ha3 : dg 3 a j < 3 := dg_lt (by omega)
          have hb3 : dg 3 b j < 3 := dg_lt (by omega)
          refine jN_icmp_ne C 70 (by omega) (by omega) dX0_wayByDisks_61 (by decide) (fun c_61 => ?_) (fun c_61 => ?_)
          · refine j_iload_n C dX0_wayByDisks_70 rfl ?_
            refine j_if_ge C 76 dX0_wayByDisks_71 (by decide) (fun c_71 => ?_) (fun c_71 => ?_)
            · refine j_aload_n C dX0_wayByDisks_76 rfl ?_
              refine j_aload_n C dX0_wayByDisks_77 rfl ?_
              refine g0_now C dX0_wayByDisks_78 ?_
              refine j_iload_n C dX0_wayByDisks_81 rfl ?_
              refine j_callV2i C (ct_X0_pegIn hc (by omega) (by omega)) gw_0_80 nd_X0_pegIn 0 0 rfl rfl rfl ⟨by decide, by decide⟩ ⟨Nat.le_of_ble_eq_true rfl, Nat.le_of_ble_eq_true rfl⟩ (Nat.le_of_ble_eq_true rfl) dX0_wayByDisks_82 (fun x_1 w_1 hp => ?_)
              obtain ⟨rfl, rfl⟩ := hp
              refine j_istore_2 C dX0_wayByDisks_85 (by decide) ?_
              refine j_aload_n C dX0_wayByDisks_86 rfl ?_
              refine j_aload_n C dX0_wayByDisks_87 rfl ?_
              refine g0_target C dX0_wayByDisks_88 ?_
              refine j_iload_n C dX0_wayByDisks_91 rfl ?_
              refine j_callV2i C (ct_X0_pegIn hc (by omega) (by omega)) gw_0_80 nd_X0_pegIn 0 0 rfl rfl rfl ⟨by decide, by decide⟩ ⟨Nat.le_of_ble_eq_true rfl, Nat.le_of_ble_eq_true rfl⟩ (Nat.le_of_ble_eq_true rfl) dX0_wayByDisks_92 (fun x_1 w_1 hp => ?_)
              obtain ⟨rfl, rfl⟩ := hp
              refine j_istore_3 C dX0_wayByDisks_95 (by decide) ?_
              refine j_iload_n C dX0_wayByDisks_96 rfl ?_
              refine j_iload_n C dX0_wayByDisks_97 rfl ?_
              refine j_callS2i C (ct_X0_thirdPeg (ad := ad) (by omega)) gw_0_137 rfl nd_X0_thirdPeg ⟨by decide, by decide⟩ ⟨Nat.le_of_ble_eq_true rfl, Nat.le_of_ble_eq_true rfl⟩ (Nat.le_of_ble_eq_true rfl) dX0_wayByDisks_98 (fun x_1 w_1 hp => ?_)
              obtain ⟨rfl, rfl⟩ := hp
              refine j_istore_4 C dX0_wayByDisks_101 (by decide) ?_
              refine j_aload_n C dX0_wayByDisks_103 rfl ?_
              refine j_aload_n C dX0_wayByDisks_104 rfl ?_
              refine g0_now C dX0_wayByDisks_105 ?_
              refine j_iload_n C dX0_wayByDisks_108 rfl ?_
              refine j_iload C dX0_wayByDisks_109 rfl ?_
              refine j_callV3i C (ct_X0_gather (by omega) (by omega) (by omega)) gw_0_140 nd_X0_gather 0 0 rfl rfl rfl ⟨by decide, by decide⟩ ⟨Nat.le_of_ble_eq_true rfl, Nat.le_of_ble_eq_true rfl⟩ (Nat.le_of_ble_eq_true rfl) dX0_wayByDisks_111 (fun x_1 w_1 hp => ?_)
              obtain ⟨rfl, rfl⟩ := hp
              refine j_aload_n C dX0_wayByDisks_114 rfl ?_
              refine j_aload_n C dX0_wayByDisks_115 rfl ?_
              refine g0_target C dX0_wayByDisks_116 ?_
              refine j_iload_n C dX0_wayByDisks_119 rfl ?_
              refine j_iload C dX0_wayByDisks_120 rfl ?_
              refine j_callV3i C (ct_X0_gather (by omega) (by omega) (by omega)) gw_0_140 nd_X0_gather 0 0 rfl rfl rfl ⟨by decide, by decide⟩ ⟨Nat.le_of_ble_eq_true rfl, Nat.le_of_ble_eq_true rfl⟩ (Nat.le_of_ble_eq_true rfl) dX0_wayByDisks_122 (fun x_1 w_1 hp => ?_)
              obtain ⟨rfl, rfl⟩ := hp
              refine j_iadd C dX0_wayByDisks_125 ?_
              refine j_top _ _ (nI_add _ _) ?_
              refine j_iconst C (nI 1) dX0_wayByDisks_126 (by decide) ?_
              refine j_iadd C dX0_wayByDisks_127 ?_
              refine j_top _ _ (nI_add _ _) ?_
              refine j_istore_5 C dX0_wayByDisks_128 (by decide) ?_
              refine j_aload_n C dX0_wayByDisks_130 rfl ?_
              refine j_aload_n C dX0_wayByDisks_131 rfl ?_
              refine g0_now C dX0_wayByDisks_132 ?_
              refine j_iload_n C dX0_wayByDisks_135 rfl ?_
              refine j_iload_n C dX0_wayByDisks_136 rfl ?_
              refine j_callV3i C (ct_X0_gather (by omega) (by omega) (by omega)) gw_0_140 nd_X0_gather 0 0 rfl rfl rfl ⟨by decide, by decide⟩ ⟨Nat.le_of_ble_eq_true rfl, Nat.le_of_ble_eq_true rfl⟩ (Nat.le_of_ble_eq_true rfl) dX0_wayByDisks_137 (fun x_1 w_1 hp => ?_)
              obtain ⟨rfl, rfl⟩ := hp
              refine j_aload_n C dX0_wayByDisks_140 rfl ?_
              refine j_aload_n C dX0_wayByDisks_141 rfl ?_
              refine g0_target C dX0_wayByDisks_142 ?_
              refine j_iload_n C dX0_wayByDisks_145 rfl ?_
              refine j_iload_n C dX0_wayByDisks_146 rfl ?_
              refine j_callV3i C (ct_X0_gather (by omega) (by omega) (by omega)) gw_0_140 nd_X0_gather 0 0 rfl rfl rfl ⟨by decide, by decide⟩ ⟨Nat.le_of_ble_eq_true rfl, Nat.le_of_ble_eq_true rfl⟩ (Nat.le_of_ble_eq_true rfl) dX0_wayByDisks_147 (fun x_1 w_1 hp => ?_)
              obtain ⟨rfl, rfl⟩ := hp
              refine j_iadd C dX0_wayByDisks_150 ?_
              refine j_top _ _ (nI_add _ _) ?_
              refine j_iconst C (nI 1) dX0_wayByDisks_151 (by decide) ?_
              refine j_iload_n C dX0_wayByDisks_152 rfl ?_
              refine j_ishl C dX0_wayByDisks_153 ?_
              refine j_top _ (nI (2 ^ j)) (shl1 j (by omega)) ?_
              refine j_iadd C dX0_wayByDisks_154 ?_
              refine j_top _ _ (nI_add _ _) ?_
              refine j_iconst C (nI 1) dX0_wayByDisks_155 (by decide) ?_
              refine j_iadd C dX0_wayByDisks_156 ?_
              refine j_top _ _ (nI_add _ _) ?_
              refine j_istore_6 C dX0_wayByDisks_157 (by decide) ?_
              have hg1 := gth_lt (f := dg 3 a) (m := j) (g := 3 - dg 3 a j - dg 3 b j)
              have hg2 := gth_lt (f := dg 3 b) (m := j) (g := 3 - dg 3 a j - dg 3 b j)
              have hg3 := gth_lt (f := dg 3 a) (m := j) (g := dg 3 b j)
              have hg4 := gth_lt (f := dg 3 b) (m := j) (g := dg 3 a j)
              have hj64 : 2 ^ j ≤ 2 ^ 6 := Nat.pow_le_pow_right (by omega) (by omega)
              refine j_iload C dX0_wayByDisks_159 rfl ?_
              refine j_iload C dX0_wayByDisks_161 rfl ?_
              refine j_mmin C wd_ml0_143 (by decide) (Nat.le_of_ble_eq_true rfl) (Nat.zero_le _) (Nat.zero_le _) dX0_wayByDisks_163 ?_
              refine j_top _ _ (nI_min (by omega) (by omega)) ?_
              refine j_widen (Nat.zero_le 1) (Nat.zero_le 6) ?_
              exact j_reti C R dX0_wayByDisks_166 ⟨rfl, hru, hal, by unfold wbV; rw [hg, lgd, if_neg c_61]; rfl, rfl⟩
            · exact absurd (nI_pos' (by omega)) c_71
          · refine j_iinc_1 C _ (nI_m1 _) dX0_wayByDisks_64 ?_
            refine j_goto C 39 dX0_wayByDisks_67 (by decide) ?_
            exact ih (by omega) (by rw [hg, lgd, if_pos c_61])
    refine j_aload_n C dX0_wayByDisks_32 rfl ?_
    refine g0_diskCount C dX0_wayByDisks_33 ?_
    refine j_iconst C (nI 1) dX0_wayByDisks_36 (by decide) ?_
    refine j_isub C dX0_wayByDisks_37 ?_
    refine j_top _ (nI N - nI 1) rfl ?_
    refine j_istore_1 C dX0_wayByDisks_38 (by decide) ?_
    exact hL N (Nat.le_refl _) rfl
  refine j_aload_n C dX0_wayByDisks_0 rfl ?_
  refine g0_pegCount C dX0_wayByDisks_1 ?_
  refine j_iconst C (nI 3) dX0_wayByDisks_4 (by decide) ?_
  refine jN_icmp_gt C 22 (by omega) (by omega) dX0_wayByDisks_5 (by decide) (fun c_5 => ?_) (fun c_5 => ?_)
  · exact j_thr3 C X T wd_cl0_72 (is := 135) (j := 9) rfl dX0_wayByDisks_22 dX0_wayByDisks_25 dX0_wayByDisks_26 dX0_wayByDisks_28 dX0_wayByDisks_31 (by decide) (by decide) (by decide) (by decide) (by decide) (by decide) ⟨rfl, fun q => by omega, rfl⟩
  · refine j_aload_n C dX0_wayByDisks_8 rfl ?_
    refine g0_ruleOn C dX0_wayByDisks_9 ?_
    refine jB_if_ne C 22 dX0_wayByDisks_12 (by decide) (fun c_12 => ?_) (fun c_12 => ?_)
    · exact j_thr3 C X T wd_cl0_72 (is := 135) (j := 9) rfl dX0_wayByDisks_22 dX0_wayByDisks_25 dX0_wayByDisks_26 dX0_wayByDisks_28 dX0_wayByDisks_31 (by decide) (by decide) (by decide) (by decide) (by decide) (by decide) ⟨rfl, fun q => by rw [c_12] at q; exact absurd q.2.1 (by decide), rfl⟩
    · refine j_aload_n C dX0_wayByDisks_15 rfl ?_
      refine j_callV0i C (ct_X0_isAnyBarred) gw_0_131 nd_X0_isAnyBarred 0 0 rfl rfl rfl ⟨by decide, by decide⟩ ⟨Nat.le_of_ble_eq_true rfl, Nat.le_of_ble_eq_true rfl⟩ (Nat.le_of_ble_eq_true rfl) dX0_wayByDisks_16 (fun x_1 w_1 hp => ?_)
      obtain ⟨rfl, rfl⟩ := hp
      refine jB_if_eq C 32 dX0_wayByDisks_19 (by decide) (fun c_19 => ?_) (fun c_19 => ?_)
      · exact hW (by omega) c_12 (by simpa using c_19)
      · exact j_thr3 C X T wd_cl0_72 (is := 135) (j := 9) rfl dX0_wayByDisks_22 dX0_wayByDisks_25 dX0_wayByDisks_26 dX0_wayByDisks_28 dX0_wayByDisks_31 (by decide) (by decide) (by decide) (by decide) (by decide) (by decide) ⟨rfl, fun q => by rw [q.2.2] at c_19; exact absurd c_19 (by decide), rfl⟩
abbrev rm_X0_lost : Room := { frames := 6, cells := 1, slots := 6, locals := 122 }
set_option maxHeartbeats 4000000 in
set_option maxRecDepth 100000 in
theorem ct_X0_lost {l : Launch} {D : va_G} {Y : jy_T} {ad : Nat → Nat} {P N a b mv0 : Nat} {ru me : Bool} {cb al : Nat → Bool} {tr : Nat → Nat} {to fa se qu sp : Nat → Int32} (hc : cfg P N) (ha : a < P ^ N) (hb : b < P ^ N) (hm : me = true → farOk P N ru cb al b fa) (hm0 : mv0 ≤ 500) (htr : ∀ k, k < mv0 → tr k < P ^ N) (hl : l.stackTraces = false) :
    MX l yX0_lost cX0_lost 3 (some .int) rm_X0_lost D Y [.ref (ad 0)] (wA Y ad (nI P) (nI N) (bi ru) (nI a) (nI b) (nI mv0) (bi me) (fun d => nI (P ^ d)) (fun d => bi (cb d)) (fun k => bi (al k)) (fun k => nI (tr k)) to fa se qu sp) (jI (fun r w => ∃ ds1 fa1 qu1 to1, srD (P ^ N) P (nbC P N ru cb al true) b (lawB P N ru cb b) ds1 ∧ stR (P ^ N) fa1 ds1 ∧ ds1 a ≠ none ∧ ds1 (stA mv0 tr a) ≠ none ∧ r = nI mv0 + oI (ds1 a) - oI (ds1 (stA mv0 tr a)) ∧ w = (wA Y ad (nI P) (nI N) (bi ru) (nI a) (nI b) (nI mv0) (bi true) (fun d => nI (P ^ d)) (fun d => bi (cb d)) (fun k => bi (al k)) (fun k => nI (tr k)) to1 fa1 se qu1 sp))) (fun E w => E = xISE ∧ ∃ ds1 fa1 qu1 to1, srD (P ^ N) P (nbC P N ru cb al true) b (lawB P N ru cb b) ds1 ∧ stR (P ^ N) fa1 ds1 ∧ (ds1 a = none ∨ ds1 (stA mv0 tr a) = none) ∧ w = (wA Y ad (nI P) (nI N) (bi ru) (nI a) (nI b) (nI mv0) (bi true) (fun d => nI (P ^ d)) (fun d => bi (cb d)) (fun k => bi (al k)) (fun k => nI (tr k)) to1 fa1 se qu1 sp)) := by
  refine j_enterX hl (by decide) (Nat.le_of_ble_eq_true rfl) (fun v hv => by rw [List.mem_singleton.mp hv]; rfl) (fun K hl2 hD C R X T => ?_)
  subst hl2; subst hD
  have C : jC cX0_lost RX0 Y rm_X0_lost 3 K := C
  have R : jR Y (some .int) 1 6 (jI (fun r w => ∃ ds1 fa1 qu1 to1, srD (P ^ N) P (nbC P N ru cb al true) b (lawB P N ru cb b) ds1 ∧ stR (P ^ N) fa1 ds1 ∧ ds1 a ≠ none ∧ ds1 (stA mv0 tr a) ≠ none ∧ r = nI mv0 + oI (ds1 a) - oI (ds1 (stA mv0 tr a)) ∧ w = (wA Y ad (nI P) (nI N) (bi ru) (nI a) (nI b) (nI mv0) (bi true) (fun d => nI (P ^ d)) (fun d => bi (cb d)) (fun k => bi (al k)) (fun k => nI (tr k)) to1 fa1 se qu1 sp))) K := R
  have T : jT Y 1 6 (jI (fun r w => ∃ ds1 fa1 qu1 to1, srD (P ^ N) P (nbC P N ru cb al true) b (lawB P N ru cb b) ds1 ∧ stR (P ^ N) fa1 ds1 ∧ ds1 a ≠ none ∧ ds1 (stA mv0 tr a) ≠ none ∧ r = nI mv0 + oI (ds1 a) - oI (ds1 (stA mv0 tr a)) ∧ w = (wA Y ad (nI P) (nI N) (bi ru) (nI a) (nI b) (nI mv0) (bi true) (fun d => nI (P ^ d)) (fun d => bi (cb d)) (fun k => bi (al k)) (fun k => nI (tr k)) to1 fa1 se qu1 sp))) (fun E w => E = xISE ∧ ∃ ds1 fa1 qu1 to1, srD (P ^ N) P (nbC P N ru cb al true) b (lawB P N ru cb b) ds1 ∧ stR (P ^ N) fa1 ds1 ∧ (ds1 a = none ∨ ds1 (stA mv0 tr a) = none) ∧ w = (wA Y ad (nI P) (nI N) (bi ru) (nI a) (nI b) (nI mv0) (bi true) (fun d => nI (P ^ d)) (fun d => bi (cb d)) (fun k => bi (al k)) (fun k => nI (tr k)) to1 fa1 se qu1 sp)) K := T
  refine j_eq (lo' := [some (.ref (ad 0)), none, none]) rfl rfl rfl ?_
  obtain ⟨hP3, hP5, hN1, hN6⟩ := id hc
  have hP0 : 0 < P := by omega
  have hp2 : P ^ N ≤ 15625 := cfg_pw hc (by omega)
  refine j_aload_n C dX0_lost_0 rfl ?_
  refine j_aload_n C dX0_lost_1 rfl ?_
  refine g0_now C dX0_lost_2 ?_
  refine j_callV1i C (ct_X0_wayFrom hc hb ha hm) gw_0_127 nd_X0_wayFrom 0 0 rfl rfl rfl ⟨by decide, by decide⟩ ⟨Nat.le_of_ble_eq_true rfl, Nat.le_of_ble_eq_true rfl⟩ (Nat.le_of_ble_eq_true rfl) dX0_lost_5 (fun x_1 w_1 hp => ?_)
  obtain ⟨ds, fa1, qu1, to1, rfl, hsr, hst, rfl⟩ := hp
  refine j_istore_1 C dX0_lost_8 (by decide) ?_
  refine j_aload_n C dX0_lost_9 rfl ?_
  refine j_aload_n C dX0_lost_10 rfl ?_
  refine g0_moveCount C dX0_lost_11 ?_
  refine j_if_le C 26 dX0_lost_14 (by decide) (fun c_14 => ?_) (fun c_14 => ?_)
  · have hz : mv0 = 0 := by have h : nI mv0 ≤ nI 0 := c_14; rw [nI_leI (by omega) (by omega)] at h; omega
    have hsA : stA mv0 tr a = a := by unfold stA; rw [if_neg (by omega)]
    refine j_aload_n C dX0_lost_26 rfl ?_
    refine g0_now C dX0_lost_27 ?_
    refine j_callV1i C (ct_X0_wayFrom (x := a) hc hb ha (fun _ => ⟨ds, hsr, hst⟩)) gw_0_127 nd_X0_wayFrom 0 0 rfl rfl rfl ⟨by decide, by decide⟩ ⟨Nat.le_of_ble_eq_true rfl, Nat.le_of_ble_eq_true rfl⟩ (Nat.le_of_ble_eq_true rfl) dX0_lost_30 (fun x_1 w_1 hp => ?_)
    obtain ⟨ds2, fa2, qu2, to2, rfl, hsr2, hst2, rfl⟩ := hp
    refine j_top _ (oI (ds (stA mv0 tr a))) (by rw [hsA, srD_one hsr hsr2]) ?_
    refine j_istore_2 C dX0_lost_33 (by decide) ?_
    refine j_iload_n C dX0_lost_34 rfl ?_
    refine j_iconst C (-1) dX0_lost_35 (by decide) ?_
    refine j_icmp_eq C 44 dX0_lost_36 (by decide) (fun c_36 => ?_) (fun c_36 => ?_)
    · exact j_thr3 C X T wd_cl0_72 (is := 148) (j := 10) rfl dX0_lost_44 dX0_lost_47 dX0_lost_48 dX0_lost_50 dX0_lost_53 (by decide) (by decide) (by decide) (by decide) (by decide) (by decide) ⟨rfl, ⟨ds, fa2, qu2, to2, hsr, fun y hy => by rw [srD_one hsr hsr2]; exact hst2 y hy, Or.inl ((oI_m1 (fun j h => srD_lt hsr hp2 _ j h)).mp c_36), rfl⟩⟩
    · refine j_iload_n C dX0_lost_39 rfl ?_
      refine j_iconst C (-1) dX0_lost_40 (by decide) ?_
      refine j_icmp_ne C 54 dX0_lost_41 (by decide) (fun c_41 => ?_) (fun c_41 => ?_)
      · refine j_aload_n C dX0_lost_54 rfl ?_
        refine g0_moveCount C dX0_lost_55 ?_
        refine j_iload_n C dX0_lost_58 rfl ?_
        refine j_iadd C dX0_lost_59 ?_
        refine j_top _ (nI mv0 + oI (ds a)) rfl ?_
        refine j_iload_n C dX0_lost_60 rfl ?_
        refine j_isub C dX0_lost_61 ?_
        refine j_top _ (nI mv0 + oI (ds a) - oI (ds (stA mv0 tr a))) rfl ?_
        refine j_widen (Nat.zero_le 1) (Nat.zero_le 6) ?_
        exact j_reti C R dX0_lost_62 ⟨ds, fa2, qu2, to2, hsr, fun y hy => by rw [srD_one hsr hsr2]; exact hst2 y hy, fun q => c_36 ((oI_m1 (fun j h => srD_lt hsr hp2 _ j h)).mpr q), fun q => c_41 ((oI_m1 (fun j h => srD_lt hsr hp2 _ j h)).mpr q), rfl, rfl⟩
      · exact j_thr3 C X T wd_cl0_72 (is := 148) (j := 10) rfl dX0_lost_44 dX0_lost_47 dX0_lost_48 dX0_lost_50 dX0_lost_53 (by decide) (by decide) (by decide) (by decide) (by decide) (by decide) ⟨rfl, ⟨ds, fa2, qu2, to2, hsr, fun y hy => by rw [srD_one hsr hsr2]; exact hst2 y hy, Or.inr ((oI_m1 (fun j h => srD_lt hsr hp2 _ j h)).mp c_41), rfl⟩⟩
  · have hz : 0 < mv0 := by have h : ¬ nI mv0 ≤ nI 0 := c_14; rw [nI_leI (by omega) (by omega)] at h; omega
    have hsA : stA mv0 tr a = tr 0 := by unfold stA; rw [if_pos hz]
    refine j_aload_n C dX0_lost_17 rfl ?_
    refine g0_trail C dX0_lost_18 ?_
    refine j_iconst C (nI 0) dX0_lost_21 (by decide) ?_
    refine l0_tr C _ rfl (by omega) dX0_lost_22 ?_
    refine j_goto C 30 dX0_lost_23 (by decide) ?_
    refine j_callV1i C (ct_X0_wayFrom (x := tr 0) hc hb (htr 0 hz) (fun _ => ⟨ds, hsr, hst⟩)) gw_0_127 nd_X0_wayFrom 0 0 rfl rfl rfl ⟨by decide, by decide⟩ ⟨Nat.le_of_ble_eq_true rfl, Nat.le_of_ble_eq_true rfl⟩ (Nat.le_of_ble_eq_true rfl) dX0_lost_30 (fun x_1 w_1 hp => ?_)
    obtain ⟨ds2, fa2, qu2, to2, rfl, hsr2, hst2, rfl⟩ := hp
    refine j_top _ (oI (ds (stA mv0 tr a))) (by rw [hsA, srD_one hsr hsr2]) ?_
    refine j_istore_2 C dX0_lost_33 (by decide) ?_
    refine j_iload_n C dX0_lost_34 rfl ?_
    refine j_iconst C (-1) dX0_lost_35 (by decide) ?_
    refine j_icmp_eq C 44 dX0_lost_36 (by decide) (fun c_36 => ?_) (fun c_36 => ?_)
    · exact j_thr3 C X T wd_cl0_72 (is := 148) (j := 10) rfl dX0_lost_44 dX0_lost_47 dX0_lost_48 dX0_lost_50 dX0_lost_53 (by decide) (by decide) (by decide) (by decide) (by decide) (by decide) ⟨rfl, ⟨ds, fa2, qu2, to2, hsr, fun y hy => by rw [srD_one hsr hsr2]; exact hst2 y hy, Or.inl ((oI_m1 (fun j h => srD_lt hsr hp2 _ j h)).mp c_36), rfl⟩⟩
    · refine j_iload_n C dX0_lost_39 rfl ?_
      refine j_iconst C (-1) dX0_lost_40 (by decide) ?_
      refine j_icmp_ne C 54 dX0_lost_41 (by decide) (fun c_41 => ?_) (fun c_41 => ?_)
      · refine j_aload_n C dX0_lost_54 rfl ?_
        refine g0_moveCount C dX0_lost_55 ?_
        refine j_iload_n C dX0_lost_58 rfl ?_
        refine j_iadd C dX0_lost_59 ?_
        refine j_top _ (nI mv0 + oI (ds a)) rfl ?_
        refine j_iload_n C dX0_lost_60 rfl ?_
        refine j_isub C dX0_lost_61 ?_
        refine j_top _ (nI mv0 + oI (ds a) - oI (ds (stA mv0 tr a))) rfl ?_
        refine j_widen (Nat.zero_le 1) (Nat.zero_le 6) ?_
        exact j_reti C R dX0_lost_62 ⟨ds, fa2, qu2, to2, hsr, fun y hy => by rw [srD_one hsr hsr2]; exact hst2 y hy, fun q => c_36 ((oI_m1 (fun j h => srD_lt hsr hp2 _ j h)).mpr q), fun q => c_41 ((oI_m1 (fun j h => srD_lt hsr hp2 _ j h)).mpr q), rfl, rfl⟩
      · exact j_thr3 C X T wd_cl0_72 (is := 148) (j := 10) rfl dX0_lost_44 dX0_lost_47 dX0_lost_48 dX0_lost_50 dX0_lost_53 (by decide) (by decide) (by decide) (by decide) (by decide) (by decide) ⟨rfl, ⟨ds, fa2, qu2, to2, hsr, fun y hy => by rw [srD_one hsr hsr2]; exact hst2 y hy, Or.inr ((oI_m1 (fun j h => srD_lt hsr hp2 _ j h)).mp c_41), rfl⟩⟩
abbrev rm_X0_splitIndex : Room := { frames := 0, cells := 0, slots := 0, locals := 0 }
set_option maxHeartbeats 4000000 in
set_option maxRecDepth 100000 in
theorem ct_X0_splitIndex {l : Launch} {D : va_G} {Y : jy_T} {ad : Nat → Nat} {ws : va_W} {d q : Nat} (hq : 3 ≤ q) :
    MJ l yX0_splitIndex cX0_splitIndex 2 (some .int) rm_X0_splitIndex D Y [.int (nI d), .int (nI q)] ws (jI (fun r w => r = nI ((q - 3) * 21 + d) ∧ w = ws)) := by
  refine j_enter (by decide) (Nat.le_of_ble_eq_true rfl) (fun v hv => by simp only [List.mem_cons, List.not_mem_nil, or_false] at hv; rcases hv with rfl | rfl <;> rfl) (fun K hl hD hnm C R => ?_)
  subst hl; subst hD
  have C : jC cX0_splitIndex RX0 Y rm_X0_splitIndex 2 K := C
  have R : jR Y (some .int) 0 0 (jI (fun r w => r = nI ((q - 3) * 21 + d) ∧ w = ws)) K := R
  refine j_eq (lo' := [some (.int (nI d)), some (.int (nI q))]) rfl rfl rfl ?_
  refine j_iload_n C dX0_splitIndex_0 rfl ?_
  refine j_iconst C (nI 3) dX0_splitIndex_1 (by decide) ?_
  refine j_isub C dX0_splitIndex_2 ?_
  refine j_top _ (nI (q - 3)) (pk_sub (by omega)) ?_
  refine j_bipush C (nI 21) dX0_splitIndex_3 (by decide) ?_
  refine j_imul C dX0_splitIndex_5 ?_
  refine j_top _ _ (pk_mul _ _) ?_
  refine j_iload_n C dX0_splitIndex_6 rfl ?_
  refine j_iadd C dX0_splitIndex_7 ?_
  refine j_top _ _ (nI_add _ _) ?_
  exact j_reti C R dX0_splitIndex_8 ⟨rfl, rfl⟩
abbrev rm_X0_splitNumber : Room := { frames := 1, cells := 0, slots := 0, locals := 21 }
set_option maxHeartbeats 4000000 in
set_option maxRecDepth 100000 in
theorem ct_X0_splitNumber {l : Launch} {D : va_G} {Y : jy_T} {ad : Nat → Nat} {m q : Nat} {tb : Nat → Int32} (hm : m ≤ 20) (hq3 : 3 ≤ q) (hq5 : q ≤ 5) (htb : ∀ i, i < (q - 3) * 21 + m → tb i = nI (spT i)) :
    MJ l yX0_splitNumber cX0_splitNumber 6 (some .int) rm_X0_splitNumber D Y [.ref (ad 0), .int (nI m), .int (nI q)] [(ad 0, .inl (Y.1, 63, .inl tb))] (jI (fun r w => r = nI (spT ((q - 3) * 21 + m)) ∧ w = [(ad 0, .inl (Y.1, 63, .inl tb))])) := by
  refine j_enter (by decide) (Nat.le_of_ble_eq_true rfl) (fun v hv => by simp only [List.mem_cons, List.not_mem_nil, or_false] at hv; rcases hv with rfl | rfl | rfl <;> rfl) (fun K hl hD hnm C R => ?_)
  subst hl; subst hD
  have C : jC cX0_splitNumber RX0 Y rm_X0_splitNumber 6 K := C
  have R : jR Y (some .int) 0 0 (jI (fun r w => r = nI (spT ((q - 3) * 21 + m)) ∧ w = [(ad 0, .inl (Y.1, 63, .inl tb))])) K := R
  refine j_eq (lo' := [some (.ref (ad 0)), some (.int (nI m)), some (.int (nI q)), none, none, none]) rfl rfl rfl ?_
  have hL : 4 ≤ q → 2 ≤ m → ∀ (f k : Nat) (l5 : Option Value), m < k + f → 1 ≤ k → k ≤ m → jJ K 0 0 24 [some (.ref (ad 0)), some (.int (nI m)), some (.int (nI q)), some (.int (nI (mnX (spG (q - 3) m) (k - 1)))), some (.int (nI k)), l5] [] [(ad 0, .inl (Y.1, 63, .inl tb))] := by
    intro hq4 hm2 f
    induction f with
    | zero => intro k l5 h1 h2; omega
    | succ f ih =>
      intro k l5 h1 h2 h3
      refine j_iload C dX0_splitNumber_24 rfl ?_
      refine j_iload_n C dX0_splitNumber_26 rfl ?_
      refine jN_icmp_ge C 68 (by omega) (by omega) dX0_splitNumber_27 (by decide) (fun c_27 => ?_) (fun c_27 => ?_)
      · refine j_iload_n C dX0_splitNumber_68 rfl ?_
        exact j_reti C R dX0_splitNumber_69 ⟨by rw [show k - 1 = m - 1 by omega, sp_2 (q - 3) (by omega) m (by omega) (by omega) (by omega)], rfl⟩
      · refine j_iconst C (nI 2) dX0_splitNumber_30 (by decide) ?_
        refine j_aload_n C dX0_splitNumber_31 rfl ?_
        refine j_iload C dX0_splitNumber_32 rfl ?_
        refine j_iload_n C dX0_splitNumber_34 rfl ?_
        refine j_callS2i C (ct_X0_splitIndex (ad := ad) (by omega)) gw_0_156 rfl nd_X0_splitIndex ⟨by decide, by decide⟩ ⟨Nat.le_of_ble_eq_true rfl, Nat.le_of_ble_eq_true rfl⟩ (Nat.le_of_ble_eq_true rfl) dX0_splitNumber_35 (fun x_1 w_1 hp => ?_)
        obtain ⟨rfl, rfl⟩ := hp
        refine j_iald C 0 rfl _ rfl (by omega) (by decide) dX0_splitNumber_38 ?_
        refine j_top _ (nI (spT ((q - 3) * 21 + k))) (htb _ (by omega)) ?_
        refine j_imul C dX0_splitNumber_39 ?_
        refine j_top _ _ (pk_mul _ _) ?_
        refine j_aload_n C dX0_splitNumber_40 rfl ?_
        refine j_iload_n C dX0_splitNumber_41 rfl ?_
        refine j_iload C dX0_splitNumber_42 rfl ?_
        refine j_isub C dX0_splitNumber_44 ?_
        refine j_top _ (nI (m - k)) (pk_sub (by omega)) ?_
        refine j_iload_n C dX0_splitNumber_45 rfl ?_
        refine j_iconst C (nI 1) dX0_splitNumber_46 (by decide) ?_
        refine j_isub C dX0_splitNumber_47 ?_
        refine j_top _ (nI (q - 1)) (pk_sub (by omega)) ?_
        refine j_callS2i C (ct_X0_splitIndex (ad := ad) (by omega)) gw_0_156 rfl nd_X0_splitIndex ⟨by decide, by decide⟩ ⟨Nat.le_of_ble_eq_true rfl, Nat.le_of_ble_eq_true rfl⟩ (Nat.le_of_ble_eq_true rfl) dX0_splitNumber_48 (fun x_1 w_1 hp => ?_)
        obtain ⟨rfl, rfl⟩ := hp
        refine j_iald C 0 rfl _ rfl (by omega) (by decide) dX0_splitNumber_51 ?_
        refine j_top _ (nI (spT ((q - 1 - 3) * 21 + (m - k)))) (htb _ (by omega)) ?_
        refine j_iadd C dX0_splitNumber_52 ?_
        refine j_top _ _ (nI_add _ _) ?_
        refine j_istore_5 C dX0_splitNumber_53 (by decide) ?_
        refine j_iload_n C dX0_splitNumber_55 rfl ?_
        refine j_iload C dX0_splitNumber_56 rfl ?_
        refine j_mmin C wd_ml0_143 (by decide) (Nat.le_of_ble_eq_true rfl) (Nat.zero_le _) (Nat.zero_le _) dX0_splitNumber_58 ?_
        refine j_top _ _ (nI_min (by have := mnX_le (g := spG (q - 3) m) (j := k - 1); omega) (by have := sp_lt ((q - 3) * 21 + k) (by omega); have := sp_lt ((q - 1 - 3) * 21 + (m - k)) (by omega); omega)) ?_
        have hst1 : (if 2 * spT ((q - 3) * 21 + k) + spT ((q - 1 - 3) * 21 + (m - k)) < mnX (spG (q - 3) m) (k - 1) then 2 * spT ((q - 3) * 21 + k) + spT ((q - 1 - 3) * 21 + (m - k)) else mnX (spG (q - 3) m) (k - 1)) = mnX (spG (q - 3) m) (k + 1 - 1) := by
          obtain ⟨k, rfl⟩ : ∃ k1, k = k1 + 1 := ⟨k - 1, by omega⟩
          rw [show k + 1 + 1 - 1 = k + 1 by omega, show k + 1 - 1 = k by omega, mnX]
          unfold spG
          rw [show q - 1 - 3 = q - 3 - 1 by omega]
        refine j_istore_3 C dX0_splitNumber_61 (by decide) ?_
        refine j_iinc_4 C _ (nI_p1 _) dX0_splitNumber_62 ?_
        refine j_goto C 24 dX0_splitNumber_65 (by decide) ?_
        exact j_eq (by rw [hst1]) rfl rfl (ih (k + 1) _ (by omega) (by omega) (by omega))
  refine j_iload_n C dX0_splitNumber_0 rfl ?_
  refine j_iconst C (nI 3) dX0_splitNumber_1 (by decide) ?_
  refine jN_icmp_ne C 11 (by omega) (by omega) dX0_splitNumber_2 (by decide) (fun c_2 => ?_) (fun c_2 => ?_)
  · refine j_iload_n C dX0_splitNumber_11 rfl ?_
    refine j_iconst C (nI 2) dX0_splitNumber_12 (by decide) ?_
    refine jN_icmp_ge C 18 (by omega) (by omega) dX0_splitNumber_13 (by decide) (fun c_13 => ?_) (fun c_13 => ?_)
    · refine j_ldc C dX0_splitNumber_18 wd_k0_185 ?_
      refine j_top _ (nI 2147483647) rfl ?_
      refine j_istore_3 C dX0_splitNumber_20 (by decide) ?_
      refine j_iconst C (nI 1) dX0_splitNumber_21 (by decide) ?_
      refine j_istore_4 C dX0_splitNumber_22 (by decide) ?_
      exact hL (by omega) (by omega) m 1 _ (by omega) (by omega) (by omega)
    · refine j_iload_n C dX0_splitNumber_16 rfl ?_
      exact j_reti C R dX0_splitNumber_17 ⟨by rw [sp_1 (q - 3) (by omega) m c_13 (by omega)], rfl⟩
  · refine j_iconst C (nI 1) dX0_splitNumber_5 (by decide) ?_
    refine j_iload_n C dX0_splitNumber_6 rfl ?_
    refine j_ishl C dX0_splitNumber_7 ?_
    refine j_top _ (nI (2 ^ m)) (shl1 m (by omega)) ?_
    refine j_iconst C (nI 1) dX0_splitNumber_8 (by decide) ?_
    refine j_isub C dX0_splitNumber_9 ?_
    refine j_top _ (nI (2 ^ m - 1)) (pk_sub Nat.one_le_two_pow) ?_
    exact j_reti C R dX0_splitNumber_10 ⟨by rw [c_2, Nat.sub_self, Nat.zero_mul, Nat.zero_add, sp_0 m (by omega)], rfl⟩
abbrev rm_X0_splitTable : Room := { frames := 2, cells := 1, slots := 63, locals := 46 }
set_option maxHeartbeats 4000000 in
set_option maxRecDepth 100000 in
theorem ct_X0_splitTable {l : Launch} {D : va_G} {Y : jy_T} {ad : Nat → Nat}  :
    MJ l yX0_splitTable cX0_splitTable 3 (some (.array .int)) rm_X0_splitTable D Y [] [] (jA (fun x w => ∃ tb : Nat → Int32, (∀ i, i < 63 → tb i = nI (spT i)) ∧ w = [(x, .inl (Y.1, 63, .inl tb))])) := by
  refine j_enter (by decide) (Nat.le_of_ble_eq_true rfl) (fun v hv => absurd hv List.not_mem_nil) (fun K hl hD hnm C R => ?_)
  subst hl; subst hD
  have C : jC cX0_splitTable RX0 Y rm_X0_splitTable 3 K := C
  have R : jR Y (some (.array .int)) 1 63 (jA (fun x w => ∃ tb : Nat → Int32, (∀ i, i < 63 → tb i = nI (spT i)) ∧ w = [(x, .inl (Y.1, 63, .inl tb))])) K := R
  refine j_eq (lo' := [none, none, none]) rfl rfl rfl ?_
  have hL : ∀ (h0 : Nat) (m q : Nat) (tb : Nat → Int32) (l2 : Option Value), 6 < q + m → 3 ≤ q → q ≤ 6 → (∀ i, i < (q - 3) * 21 → tb i = nI (spT i)) → jJ K 1 63 13 [some (.ref h0), some (.int (nI q)), l2] [] [(h0, .inl (Y.1, 63, .inl tb))] := by
    intro h0 m
    induction m with
    | zero => intro q tb l2 h1 h2 h3; omega
    | succ m ih =>
      intro q tb l2 h1 h2 h3 htb
      refine j_iload_n C dX0_splitTable_13 rfl ?_
      refine j_iconst C (nI 5) dX0_splitTable_14 (by decide) ?_
      refine jN_icmp_gt C 51 (by omega) (by omega) dX0_splitTable_15 (by decide) (fun c_15 => ?_) (fun c_15 => ?_)
      · refine j_aload_n C dX0_splitTable_51 rfl ?_
        exact j_reta C R dX0_splitTable_52 ⟨tb, fun i hi => htb i (by omega), rfl⟩
      · refine j_iconst C (nI 0) dX0_splitTable_18 (by decide) ?_
        refine j_istore_2 C dX0_splitTable_19 (by decide) ?_
        have hI : ∀ (m2 d : Nat) (tb : Nat → Int32), 21 < d + m2 → d ≤ 21 → (∀ i, i < (q - 3) * 21 + d → tb i = nI (spT i)) → jJ K 1 63 20 [some (.ref h0), some (.int (nI q)), some (.int (nI d))] [] [(h0, .inl (Y.1, 63, .inl tb))] := by
          intro m2
          induction m2 with
          | zero => intro d tb h4 h5; omega
          | succ m2 ih2 =>
            intro d tb h4 h5 htb
            refine j_iload_n C dX0_splitTable_20 rfl ?_
            refine j_bipush C (nI 20) dX0_splitTable_21 (by decide) ?_
            refine jN_icmp_gt C 45 (by omega) (by omega) dX0_splitTable_23 (by decide) (fun c_23 => ?_) (fun c_23 => ?_)
            · refine j_iinc_1 C _ (nI_p1 _) dX0_splitTable_45 ?_
              refine j_goto C 13 dX0_splitTable_48 (by decide) ?_
              exact ih (q + 1) tb _ (by omega) (by omega) (by omega) (fun i hi => htb i (by omega))
            · refine j_aload_n C dX0_splitTable_26 rfl ?_
              refine j_iload_n C dX0_splitTable_27 rfl ?_
              refine j_iload_n C dX0_splitTable_28 rfl ?_
              refine j_callS2i C (ct_X0_splitIndex (ad := ad) (by omega)) gw_0_156 rfl nd_X0_splitIndex ⟨by decide, by decide⟩ ⟨Nat.le_of_ble_eq_true rfl, Nat.le_of_ble_eq_true rfl⟩ (Nat.le_of_ble_eq_true rfl) dX0_splitTable_29 (fun x_1 w_1 hp => ?_)
              obtain ⟨rfl, rfl⟩ := hp
              refine j_aload_n C dX0_splitTable_32 rfl ?_
              refine j_iload_n C dX0_splitTable_33 rfl ?_
              refine j_iload_n C dX0_splitTable_34 rfl ?_
              refine j_callS3i C (ct_X0_splitNumber (ad := fun _ => h0) (by omega) (by omega) (by omega) htb) gw_0_179 rfl nd_X0_splitNumber ⟨by decide, by decide⟩ ⟨Nat.le_of_ble_eq_true rfl, Nat.le_of_ble_eq_true rfl⟩ (Nat.le_of_ble_eq_true rfl) dX0_splitTable_35 (fun x_1 w_1 hp => ?_)
              obtain ⟨rfl, rfl⟩ := hp
              refine j_iast C 0 rfl _ rfl (by omega) (by decide) dX0_splitTable_38 rfl ?_
              refine j_iinc_2 C _ (nI_p1 _) dX0_splitTable_39 ?_
              refine j_goto C 20 dX0_splitTable_42 (by decide) ?_
              exact ih2 (d + 1) _ (by omega) (by omega) (fun i hi => by
                by_cases e : i = (q - 3) * 21 + d
                · rw [e, pk_us]
                · rw [pk_un e]; exact htb i (by omega))
        exact hI 22 0 tb (by omega) (by omega) htb
  refine j_bipush C (nI 20) dX0_splitTable_0 (by decide) ?_
  refine j_iconst C (nI 5) dX0_splitTable_2 (by decide) ?_
  refine j_callS2i C (ct_X0_splitIndex (ad := ad) (by omega)) gw_0_156 rfl nd_X0_splitIndex ⟨by decide, by decide⟩ ⟨Nat.le_of_ble_eq_true rfl, Nat.le_of_ble_eq_true rfl⟩ (Nat.le_of_ble_eq_true rfl) dX0_splitTable_3 (fun x_1 w_1 hp => ?_)
  obtain ⟨rfl, rfl⟩ := hp
  refine j_iconst C (nI 1) dX0_splitTable_6 (by decide) ?_
  refine j_iadd C dX0_splitTable_7 ?_
  refine j_top _ _ (nI_add _ _) ?_
  refine j_newa_int C 63 rfl (by decide) (Nat.le_of_ble_eq_true rfl) (Nat.le_of_ble_eq_true rfl) dX0_splitTable_8 (fun h0 => ?_)
  refine j_astore_0 C dX0_splitTable_10 (by decide) ?_
  refine j_iconst C (nI 3) dX0_splitTable_11 (by decide) ?_
  refine j_istore_1 C dX0_splitTable_12 (by decide) ?_
  exact hL h0 7 3 _ _ (by omega) (by omega) (by omega) (fun i hi => by omega)
end
section
abbrev rm_X0_init : Room := { frames := 3, cells := 9, slots := 47481, locals := 68 }
set_option maxHeartbeats 4000000 in
set_option maxRecDepth 100000 in
theorem ct_X0_init {l : Launch} {D : va_G} {Y : jy_T} {h0 : Nat} :
    MJ l yX0_init cX0_init 1 none rm_X0_init D Y [.ref h0] [(h0, .inr (0, [.int 0, .int 0, .int 0, .null, .null, .null, .int 0, .int 0, .null, .int 0, .null, .null, .int 0, .null, .null, .null]))] (jV (fun w => ∃ ad : Nat → Nat, ad 0 = h0 ∧ w = (wA Y ad (nI 3) (nI 3) (bi false) (nI 0) (nI (3 ^ 3 - 1)) (nI 0) (bi false) (fun d => nI (3 ^ d)) (fun d => bi ((fun _ => false) d)) (fun k => bi ((fun _ => true) k)) (fun k => nI ((fun _ => 0) k)) (fun _ => 0) (fun _ => 0) (fun _ => 0) (fun _ => 0) (fun i => nI (spT i))))) := by
  refine j_enter (by decide) (Nat.le_of_ble_eq_true rfl) (fun v hv => by rw [List.mem_singleton.mp hv]; rfl) (fun K hl hD hnm C R => ?_)
  subst hl; subst hD
  have C : jC cX0_init RX0 Y rm_X0_init 1 K := C
  have R : jR Y none 9 47481 (jV (fun w => ∃ ad : Nat → Nat, ad 0 = h0 ∧ w = (wA Y ad (nI 3) (nI 3) (bi false) (nI 0) (nI (3 ^ 3 - 1)) (nI 0) (bi false) (fun d => nI (3 ^ d)) (fun d => bi ((fun _ => false) d)) (fun k => bi ((fun _ => true) k)) (fun k => nI ((fun _ => 0) k)) (fun _ => 0) (fun _ => 0) (fun _ => 0) (fun _ => 0) (fun i => nI (spT i))))) K := R
  refine j_eq (lo' := [some (.ref h0)]) rfl rfl rfl ?_
  refine j_aload_n C dX0_init_0 rfl ?_
  refine j_objInit C wd_mo0_1 dX0_init_1 rfl (Nat.le_of_ble_eq_true rfl) (Nat.le_of_ble_eq_true rfl) ?_
  refine j_aload_n C dX0_init_4 rfl ?_
  refine j_bipush C (nI 7) dX0_init_5 (by decide) ?_
  refine j_newa_int C 7 rfl (by decide) (Nat.le_of_ble_eq_true rfl) (Nat.le_of_ble_eq_true rfl) dX0_init_7 (fun q1 => ?_)
  refine j_eq (ws2 := [(h0, .inr (0, [.int 0, .int 0, .int 0, .null, .null, .null, .int 0, .int 0, .null, .int 0, .null, .null, .int 0, .null, .null, .null])), (q1, .inl (Y.1, 7, .inl (fun _ => 0)))]) rfl rfl rfl ?_
  refine j_putF (fs := [.int 0, .int 0, .int 0, .null, .null, .null, .int 0, .int 0, .null, .int 0, .null, .null, .int 0, .null, .null, .null]) (ws2 := [(h0, .inr (0, [.int 0, .int 0, .int 0, .ref q1, .null, .null, .int 0, .int 0, .null, .int 0, .null, .null, .int 0, .null, .null, .null])), (q1, .inl (Y.1, 7, .inl (fun _ => 0)))]) C hnm wG_X0 tyX0 tyX0_ok nmX0 0 rfl rfl 3 (by decide) wd_fl0_9 rfl rfl rfl rfl rfl (Nat.le_of_ble_eq_true rfl) dX0_init_9 rfl ?_
  refine j_aload_n C dX0_init_12 rfl ?_
  refine j_bipush C (nI 6) dX0_init_13 (by decide) ?_
  refine j_newa_int C 6 rfl (by decide) (Nat.le_of_ble_eq_true rfl) (Nat.le_of_ble_eq_true rfl) dX0_init_15 (fun q2 => ?_)
  refine j_eq (ws2 := [(h0, .inr (0, [.int 0, .int 0, .int 0, .ref q1, .null, .null, .int 0, .int 0, .null, .int 0, .null, .null, .int 0, .null, .null, .null])), (q1, .inl (Y.1, 7, .inl (fun _ => 0))), (q2, .inl (Y.1, 6, .inl (fun _ => 0)))]) rfl rfl rfl ?_
  refine j_putF (fs := [.int 0, .int 0, .int 0, .ref q1, .null, .null, .int 0, .int 0, .null, .int 0, .null, .null, .int 0, .null, .null, .null]) (ws2 := [(h0, .inr (0, [.int 0, .int 0, .int 0, .ref q1, .ref q2, .null, .int 0, .int 0, .null, .int 0, .null, .null, .int 0, .null, .null, .null])), (q1, .inl (Y.1, 7, .inl (fun _ => 0))), (q2, .inl (Y.1, 6, .inl (fun _ => 0)))]) C hnm wG_X0 tyX0 tyX0_ok nmX0 0 rfl rfl 4 (by decide) wd_fl0_13 rfl rfl rfl rfl rfl (Nat.le_of_ble_eq_true rfl) dX0_init_17 rfl ?_
  refine j_aload_n C dX0_init_20 rfl ?_
  refine j_bipush C (nI 25) dX0_init_21 (by decide) ?_
  refine j_newa_boolean C 25 rfl (by decide) (Nat.le_of_ble_eq_true rfl) (Nat.le_of_ble_eq_true rfl) dX0_init_23 (fun q3 => ?_)
  refine j_eq (ws2 := [(h0, .inr (0, [.int 0, .int 0, .int 0, .ref q1, .ref q2, .null, .int 0, .int 0, .null, .int 0, .null, .null, .int 0, .null, .null, .null])), (q1, .inl (Y.1, 7, .inl (fun _ => 0))), (q2, .inl (Y.1, 6, .inl (fun _ => 0))), (q3, .inl (Y.2.1, 25, .inl (fun _ => 0)))]) rfl rfl rfl ?_
  refine j_putF (fs := [.int 0, .int 0, .int 0, .ref q1, .ref q2, .null, .int 0, .int 0, .null, .int 0, .null, .null, .int 0, .null, .null, .null]) (ws2 := [(h0, .inr (0, [.int 0, .int 0, .int 0, .ref q1, .ref q2, .ref q3, .int 0, .int 0, .null, .int 0, .null, .null, .int 0, .null, .null, .null])), (q1, .inl (Y.1, 7, .inl (fun _ => 0))), (q2, .inl (Y.1, 6, .inl (fun _ => 0))), (q3, .inl (Y.2.1, 25, .inl (fun _ => 0)))]) C hnm wG_X0 tyX0 tyX0_ok nmX0 0 rfl rfl 5 (by decide) wd_fl0_16 rfl rfl rfl rfl rfl (Nat.le_of_ble_eq_true rfl) dX0_init_25 rfl ?_
  refine j_aload_n C dX0_init_28 rfl ?_
  refine j_sipush C (nI 500) dX0_init_29 (by decide) ?_
  refine j_newa_int C 500 rfl (by decide) (Nat.le_of_ble_eq_true rfl) (Nat.le_of_ble_eq_true rfl) dX0_init_32 (fun q4 => ?_)
  refine j_eq (ws2 := [(h0, .inr (0, [.int 0, .int 0, .int 0, .ref q1, .ref q2, .ref q3, .int 0, .int 0, .null, .int 0, .null, .null, .int 0, .null, .null, .null])), (q1, .inl (Y.1, 7, .inl (fun _ => 0))), (q2, .inl (Y.1, 6, .inl (fun _ => 0))), (q3, .inl (Y.2.1, 25, .inl (fun _ => 0))), (q4, .inl (Y.1, 500, .inl (fun _ => 0)))]) rfl rfl rfl ?_
  refine j_putF (fs := [.int 0, .int 0, .int 0, .ref q1, .ref q2, .ref q3, .int 0, .int 0, .null, .int 0, .null, .null, .int 0, .null, .null, .null]) (ws2 := [(h0, .inr (0, [.int 0, .int 0, .int 0, .ref q1, .ref q2, .ref q3, .int 0, .int 0, .ref q4, .int 0, .null, .null, .int 0, .null, .null, .null])), (q1, .inl (Y.1, 7, .inl (fun _ => 0))), (q2, .inl (Y.1, 6, .inl (fun _ => 0))), (q3, .inl (Y.2.1, 25, .inl (fun _ => 0))), (q4, .inl (Y.1, 500, .inl (fun _ => 0)))]) C hnm wG_X0 tyX0 tyX0_ok nmX0 0 rfl rfl 8 (by decide) wd_fl0_20 rfl rfl rfl rfl rfl (Nat.le_of_ble_eq_true rfl) dX0_init_34 rfl ?_
  refine j_aload_n C dX0_init_37 rfl ?_
  refine j_iconst C (nI 5) dX0_init_38 (by decide) ?_
  refine j_newa_int C 5 rfl (by decide) (Nat.le_of_ble_eq_true rfl) (Nat.le_of_ble_eq_true rfl) dX0_init_39 (fun q5 => ?_)
  refine j_eq (ws2 := [(h0, .inr (0, [.int 0, .int 0, .int 0, .ref q1, .ref q2, .ref q3, .int 0, .int 0, .ref q4, .int 0, .null, .null, .int 0, .null, .null, .null])), (q1, .inl (Y.1, 7, .inl (fun _ => 0))), (q2, .inl (Y.1, 6, .inl (fun _ => 0))), (q3, .inl (Y.2.1, 25, .inl (fun _ => 0))), (q4, .inl (Y.1, 500, .inl (fun _ => 0))), (q5, .inl (Y.1, 5, .inl (fun _ => 0)))]) rfl rfl rfl ?_
  refine j_putF (fs := [.int 0, .int 0, .int 0, .ref q1, .ref q2, .ref q3, .int 0, .int 0, .ref q4, .int 0, .null, .null, .int 0, .null, .null, .null]) (ws2 := [(h0, .inr (0, [.int 0, .int 0, .int 0, .ref q1, .ref q2, .ref q3, .int 0, .int 0, .ref q4, .int 0, .ref q5, .null, .int 0, .null, .null, .null])), (q1, .inl (Y.1, 7, .inl (fun _ => 0))), (q2, .inl (Y.1, 6, .inl (fun _ => 0))), (q3, .inl (Y.2.1, 25, .inl (fun _ => 0))), (q4, .inl (Y.1, 500, .inl (fun _ => 0))), (q5, .inl (Y.1, 5, .inl (fun _ => 0)))]) C hnm wG_X0 tyX0 tyX0_ok nmX0 0 rfl rfl 10 (by decide) wd_fl0_23 rfl rfl rfl rfl rfl (Nat.le_of_ble_eq_true rfl) dX0_init_41 rfl ?_
  refine j_aload_n C dX0_init_44 rfl ?_
  refine j_sipush C (nI 15625) dX0_init_45 (by decide) ?_
  refine j_newa_int C 15625 rfl (by decide) (Nat.le_of_ble_eq_true rfl) (Nat.le_of_ble_eq_true rfl) dX0_init_48 (fun q6 => ?_)
  refine j_eq (ws2 := [(h0, .inr (0, [.int 0, .int 0, .int 0, .ref q1, .ref q2, .ref q3, .int 0, .int 0, .ref q4, .int 0, .ref q5, .null, .int 0, .null, .null, .null])), (q1, .inl (Y.1, 7, .inl (fun _ => 0))), (q2, .inl (Y.1, 6, .inl (fun _ => 0))), (q3, .inl (Y.2.1, 25, .inl (fun _ => 0))), (q4, .inl (Y.1, 500, .inl (fun _ => 0))), (q5, .inl (Y.1, 5, .inl (fun _ => 0))), (q6, .inl (Y.1, 15625, .inl (fun _ => 0)))]) rfl rfl rfl ?_
  refine j_putF (fs := [.int 0, .int 0, .int 0, .ref q1, .ref q2, .ref q3, .int 0, .int 0, .ref q4, .int 0, .ref q5, .null, .int 0, .null, .null, .null]) (ws2 := [(h0, .inr (0, [.int 0, .int 0, .int 0, .ref q1, .ref q2, .ref q3, .int 0, .int 0, .ref q4, .int 0, .ref q5, .ref q6, .int 0, .null, .null, .null])), (q1, .inl (Y.1, 7, .inl (fun _ => 0))), (q2, .inl (Y.1, 6, .inl (fun _ => 0))), (q3, .inl (Y.2.1, 25, .inl (fun _ => 0))), (q4, .inl (Y.1, 500, .inl (fun _ => 0))), (q5, .inl (Y.1, 5, .inl (fun _ => 0))), (q6, .inl (Y.1, 15625, .inl (fun _ => 0)))]) C hnm wG_X0 tyX0 tyX0_ok nmX0 0 rfl rfl 11 (by decide) wd_fl0_26 rfl rfl rfl rfl rfl (Nat.le_of_ble_eq_true rfl) dX0_init_50 rfl ?_
  refine j_aload_n C dX0_init_53 rfl ?_
  refine j_sipush C (nI 15625) dX0_init_54 (by decide) ?_
  refine j_newa_int C 15625 rfl (by decide) (Nat.le_of_ble_eq_true rfl) (Nat.le_of_ble_eq_true rfl) dX0_init_57 (fun q7 => ?_)
  refine j_eq (ws2 := [(h0, .inr (0, [.int 0, .int 0, .int 0, .ref q1, .ref q2, .ref q3, .int 0, .int 0, .ref q4, .int 0, .ref q5, .ref q6, .int 0, .null, .null, .null])), (q1, .inl (Y.1, 7, .inl (fun _ => 0))), (q2, .inl (Y.1, 6, .inl (fun _ => 0))), (q3, .inl (Y.2.1, 25, .inl (fun _ => 0))), (q4, .inl (Y.1, 500, .inl (fun _ => 0))), (q5, .inl (Y.1, 5, .inl (fun _ => 0))), (q6, .inl (Y.1, 15625, .inl (fun _ => 0))), (q7, .inl (Y.1, 15625, .inl (fun _ => 0)))]) rfl rfl rfl ?_
  refine j_putF (fs := [.int 0, .int 0, .int 0, .ref q1, .ref q2, .ref q3, .int 0, .int 0, .ref q4, .int 0, .ref q5, .ref q6, .int 0, .null, .null, .null]) (ws2 := [(h0, .inr (0, [.int 0, .int 0, .int 0, .ref q1, .ref q2, .ref q3, .int 0, .int 0, .ref q4, .int 0, .ref q5, .ref q6, .int 0, .ref q7, .null, .null])), (q1, .inl (Y.1, 7, .inl (fun _ => 0))), (q2, .inl (Y.1, 6, .inl (fun _ => 0))), (q3, .inl (Y.2.1, 25, .inl (fun _ => 0))), (q4, .inl (Y.1, 500, .inl (fun _ => 0))), (q5, .inl (Y.1, 5, .inl (fun _ => 0))), (q6, .inl (Y.1, 15625, .inl (fun _ => 0))), (q7, .inl (Y.1, 15625, .inl (fun _ => 0)))]) C hnm wG_X0 tyX0 tyX0_ok nmX0 0 rfl rfl 13 (by decide) wd_fl0_29 rfl rfl rfl rfl rfl (Nat.le_of_ble_eq_true rfl) dX0_init_59 rfl ?_
  refine j_aload_n C dX0_init_62 rfl ?_
  refine j_sipush C (nI 15625) dX0_init_63 (by decide) ?_
  refine j_newa_int C 15625 rfl (by decide) (Nat.le_of_ble_eq_true rfl) (Nat.le_of_ble_eq_true rfl) dX0_init_66 (fun q8 => ?_)
  refine j_eq (ws2 := [(h0, .inr (0, [.int 0, .int 0, .int 0, .ref q1, .ref q2, .ref q3, .int 0, .int 0, .ref q4, .int 0, .ref q5, .ref q6, .int 0, .ref q7, .null, .null])), (q1, .inl (Y.1, 7, .inl (fun _ => 0))), (q2, .inl (Y.1, 6, .inl (fun _ => 0))), (q3, .inl (Y.2.1, 25, .inl (fun _ => 0))), (q4, .inl (Y.1, 500, .inl (fun _ => 0))), (q5, .inl (Y.1, 5, .inl (fun _ => 0))), (q6, .inl (Y.1, 15625, .inl (fun _ => 0))), (q7, .inl (Y.1, 15625, .inl (fun _ => 0))), (q8, .inl (Y.1, 15625, .inl (fun _ => 0)))]) rfl rfl rfl ?_
  refine j_putF (fs := [.int 0, .int 0, .int 0, .ref q1, .ref q2, .ref q3, .int 0, .int 0, .ref q4, .int 0, .ref q5, .ref q6, .int 0, .ref q7, .null, .null]) (ws2 := [(h0, .inr (0, [.int 0, .int 0, .int 0, .ref q1, .ref q2, .ref q3, .int 0, .int 0, .ref q4, .int 0, .ref q5, .ref q6, .int 0, .ref q7, .ref q8, .null])), (q1, .inl (Y.1, 7, .inl (fun _ => 0))), (q2, .inl (Y.1, 6, .inl (fun _ => 0))), (q3, .inl (Y.2.1, 25, .inl (fun _ => 0))), (q4, .inl (Y.1, 500, .inl (fun _ => 0))), (q5, .inl (Y.1, 5, .inl (fun _ => 0))), (q6, .inl (Y.1, 15625, .inl (fun _ => 0))), (q7, .inl (Y.1, 15625, .inl (fun _ => 0))), (q8, .inl (Y.1, 15625, .inl (fun _ => 0)))]) C hnm wG_X0 tyX0 tyX0_ok nmX0 0 rfl rfl 14 (by decide) wd_fl0_32 rfl rfl rfl rfl rfl (Nat.le_of_ble_eq_true rfl) dX0_init_68 rfl ?_
  refine j_aload_n C dX0_init_71 rfl ?_
  refine j_callSF (wr := [(h0, .inr (0, [.int 0, .int 0, .int 0, .ref q1, .ref q2, .ref q3, .int 0, .int 0, .ref q4, .int 0, .ref q5, .ref q6, .int 0, .ref q7, .ref q8, .null])), (q1, .inl (Y.1, 7, .inl (fun _ => 0))), (q2, .inl (Y.1, 6, .inl (fun _ => 0))), (q3, .inl (Y.2.1, 25, .inl (fun _ => 0))), (q4, .inl (Y.1, 500, .inl (fun _ => 0))), (q5, .inl (Y.1, 5, .inl (fun _ => 0))), (q6, .inl (Y.1, 15625, .inl (fun _ => 0))), (q7, .inl (Y.1, 15625, .inl (fun _ => 0))), (q8, .inl (Y.1, 15625, .inl (fun _ => 0)))]) (st := [.ref h0]) C [] [] [0, 1, 2, 3, 4, 5, 6, 7, 8] (ct_X0_splitTable (ad := fun _ => 0)) rfl rfl rfl rfl (by decide) gw_0_35 rfl nd_X0_splitTable ⟨by decide, by decide⟩ ⟨Nat.le_of_ble_eq_true rfl, Nat.le_of_ble_eq_true rfl⟩ (Nat.le_of_ble_eq_true rfl) dX0_init_72 rfl (fun r w1 hp => ?_)
  obtain ⟨q9, rfl, tb, htb, rfl⟩ := hp
  refine j_eq (st' := [.ref q9, .ref h0]) (ws2 := [(h0, .inr (0, [.int 0, .int 0, .int 0, .ref q1, .ref q2, .ref q3, .int 0, .int 0, .ref q4, .int 0, .ref q5, .ref q6, .int 0, .ref q7, .ref q8, .null])), (q1, .inl (Y.1, 7, .inl (fun _ => 0))), (q2, .inl (Y.1, 6, .inl (fun _ => 0))), (q3, .inl (Y.2.1, 25, .inl (fun _ => 0))), (q4, .inl (Y.1, 500, .inl (fun _ => 0))), (q5, .inl (Y.1, 5, .inl (fun _ => 0))), (q6, .inl (Y.1, 15625, .inl (fun _ => 0))), (q7, .inl (Y.1, 15625, .inl (fun _ => 0))), (q8, .inl (Y.1, 15625, .inl (fun _ => 0))), (q9, .inl (Y.1, 63, .inl tb))]) rfl rfl rfl ?_
  refine j_putF (fs := [.int 0, .int 0, .int 0, .ref q1, .ref q2, .ref q3, .int 0, .int 0, .ref q4, .int 0, .ref q5, .ref q6, .int 0, .ref q7, .ref q8, .null]) (ws2 := [(h0, .inr (0, [.int 0, .int 0, .int 0, .ref q1, .ref q2, .ref q3, .int 0, .int 0, .ref q4, .int 0, .ref q5, .ref q6, .int 0, .ref q7, .ref q8, .ref q9])), (q1, .inl (Y.1, 7, .inl (fun _ => 0))), (q2, .inl (Y.1, 6, .inl (fun _ => 0))), (q3, .inl (Y.2.1, 25, .inl (fun _ => 0))), (q4, .inl (Y.1, 500, .inl (fun _ => 0))), (q5, .inl (Y.1, 5, .inl (fun _ => 0))), (q6, .inl (Y.1, 15625, .inl (fun _ => 0))), (q7, .inl (Y.1, 15625, .inl (fun _ => 0))), (q8, .inl (Y.1, 15625, .inl (fun _ => 0))), (q9, .inl (Y.1, 63, .inl tb))]) C hnm wG_X0 tyX0 tyX0_ok nmX0 0 rfl rfl 15 (by decide) wd_fl0_39 rfl rfl rfl rfl rfl (Nat.le_of_ble_eq_true rfl) dX0_init_75 rfl ?_
  obtain ⟨ad, e0, e1, e2, e3, e4, e5, e6, e7, e8, e9⟩ : ∃ ad : Nat → Nat, ad 0 = h0 ∧ ad 1 = q1 ∧ ad 2 = q2 ∧ ad 3 = q3 ∧ ad 4 = q4 ∧ ad 5 = q5 ∧ ad 6 = q6 ∧ ad 7 = q7 ∧ ad 8 = q8 ∧ ad 9 = q9 := ⟨fun k => [h0, q1, q2, q3, q4, q5, q6, q7, q8, q9].getD k 0, rfl, rfl, rfl, rfl, rfl, rfl, rfl, rfl, rfl, rfl⟩
  subst e0
  subst e1
  subst e2
  subst e3
  subst e4
  subst e5
  subst e6
  subst e7
  subst e8
  subst e9
  refine j_eq (lo' := [some (.ref (ad 0))]) (ws2 := wA Y ad 0 0 0 0 0 0 0 (fun _ => 0) (fun _ => 0) (fun _ => 0) (fun _ => 0) (fun _ => 0) (fun _ => 0) (fun _ => 0) (fun _ => 0) tb) rfl rfl rfl ?_
  refine e0_sp (fun i => nI (spT i)) (fun i hi => htb i hi) ?_
  refine e0_tr (fun k => nI ((fun _ => 0) k)) (fun k hk => rfl) ?_
  refine j_aload_n C dX0_init_78 rfl ?_
  refine j_iconst C (nI 3) dX0_init_79 (by decide) ?_
  refine j_iconst C (nI 3) dX0_init_80 (by decide) ?_
  refine j_callV2v C (ct_X0_lay (P := 3) (N := 3) ⟨by omega, by omega, by omega, by omega⟩) gw_0_42 nd_X0_lay 0 0 rfl rfl rfl ⟨by decide, by decide⟩ ⟨Nat.le_of_ble_eq_true rfl, Nat.le_of_ble_eq_true rfl⟩ (Nat.le_of_ble_eq_true rfl) dX0_init_81 (fun w_1 hp => ?_)
  subst hp
  exact j_retv C R dX0_init_84 ⟨ad, rfl, rfl⟩
end
section
/-! the moves and the ways of both sides -/
theorem tp_free {P N x f t d q : Nat} (h : ftB f t (tp P N x f) (tp P N x t) = true) (hd : tp P N x f = some d) (hq : q < d) : dg P x q ≠ f ∧ dg P x q ≠ t := by
  obtain ⟨h1, d2, h2, h3⟩ := ftB_some h
  rw [hd] at h2; cases h2
  obtain ⟨-, hdN, -, hmin⟩ := frm_some hd
  refine ⟨hmin q (Nat.zero_le _) hq, fun e => ?_⟩
  cases ht : tp P N x t with
  | none => exact frm_none.mp ht q (Nat.zero_le _) (by omega) e
  | some e2 =>
    have h4 := h3 e2 ht
    exact (frm_some ht).2.2.2 q (Nat.zero_le _) (by omega) e
theorem mv_sd {P N x f t d : Nat} (hd : tp P N x f = some d) : mv P N x f t = sd P x d t := by unfold mv; rw [hd]
/-- behind a move the disk that was moved is on top -/
theorem tp_mv {P N x f t d : Nat} (hP : 0 < P) (hx : x < P ^ N) (ht : t < P) (h : ftB f t (tp P N x f) (tp P N x t) = true) (hd : tp P N x f = some d) : tp P N (mv P N x f t) t = some d := by
  have hdN := tp_lt hd
  rw [mv_sd hd]
  refine frm_eq (Nat.zero_le _) hdN (dg_sdS hP hx hdN ht) (fun q _ hq => ?_)
  rw [dg_sdN hP hx hdN ht (by omega) (by omega)]
  exact (tp_free h hd hq).2
theorem frm_from {f : Nat → Nat} {g i N : Nat} : ∀ {k : Nat}, i + k ≤ N → (∀ q, i ≤ q → q < i + k → f q ≠ g) → frm f g i N = frm f g (i + k) N
  | 0, _, _ => rfl
  | k + 1, h, h2 => by
    rw [frm_from (k := k) (by omega) (fun q a b => h2 q a (by omega)), frm_step (by omega) (h2 (i + k) (by omega) (by omega))]; rfl
/-- what is on the other peg behind a move -/
theorem tp_mvf {P N x f t d : Nat} (hP : 0 < P) (hx : x < P ^ N) (ht : t < P) (h : ftB f t (tp P N x f) (tp P N x t) = true) (hd : tp P N x f = some d) : tp P N (mv P N x f t) f = frm (dg P x) f (d + 1) N := by
  have hdN := tp_lt hd
  have hft := (ftB_some h).1
  rw [mv_sd hd]
  unfold tp
  rw [frm_from (i := 0) (k := d + 1) (by omega) (fun q _ hq => ?_), Nat.zero_add]
  · exact frm_cong (fun q a b => dg_sdN hP hx hdN ht b (by omega))
  · by_cases e : q = d
    · rw [e, dg_sdS hP hx hdN ht]; exact fun z => hft z.symm
    · rw [dg_sdN hP hx hdN ht (by omega) e]
      exact (tp_free h hd (by omega)).1
theorem tp_t {P N x f t d : Nat} (h : ftB f t (tp P N x f) (tp P N x t) = true) (hd : tp P N x f = some d) : tp P N x t = frm (dg P x) t (d + 1) N := by
  have hdN := tp_lt hd
  have hft := (ftB_some h).1
  show frm (dg P x) t 0 N = _
  rw [frm_from (i := 0) (k := d + 1) (by omega) (fun q _ hq => ?_), Nat.zero_add]
  by_cases e : q = d
  · rw [e, tp_dg hd]; exact hft
  · exact (tp_free h hd (by omega)).2
/-- the move back -/
theorem ft_back {P N x f t d : Nat} (hP : 0 < P) (hx : x < P ^ N) (ht : t < P) (h : ftB f t (tp P N x f) (tp P N x t) = true) (hd : tp P N x f = some d) : ftB t f (tp P N (mv P N x f t) t) (tp P N (mv P N x f t) f) = true := by
  have hft := (ftB_some h).1
  rw [tp_mv hP hx ht h hd, tp_mvf hP hx ht h hd]
  unfold ftB
  rw [Bool.and_eq_true]
  refine ⟨decide_eq_true (fun z => hft z.symm), ?_⟩
  cases e : frm (dg P x) f (d + 1) N with
  | none => rfl
  | some e2 => exact decide_eq_true (by have := (frm_some e).1; omega)
theorem mv_back {P N x f t d : Nat} (hP : 0 < P) (hx : x < P ^ N) (hf : f < P) (ht : t < P) (h : ftB f t (tp P N x f) (tp P N x t) = true) (hd : tp P N x f = some d) : mv P N (mv P N x f t) t f = x := by
  have hdN := tp_lt hd
  rw [mv_sd (tp_mv hP hx ht h hd), mv_sd hd]
  have hy := sd_lt hP hx hdN ht
  refine dg_inj (sd_lt hP hy hdN hf) hx (fun j hj => ?_)
  rw [dg_sd hP hy hdN hf hj]
  by_cases e : j = d
  · rw [if_pos e, e, tp_dg hd]
  · rw [if_neg e, dg_sdN hP hx hdN ht hj e]
/-- a lawful arrangement stays lawful by a move just where the disk may lie on the one below it -/
theorem law_mv {P N x f t d : Nat} {ru : Bool} {cb : Nat → Bool} (hP : 0 < P) (hx : x < P ^ N) (ht : t < P) (h : ftB f t (tp P N x f) (tp P N x t) = true) (hd : tp P N x f = some d) (hl : lawB P N ru cb x = true) : lawB P N ru cb (mv P N x f t) = mlo ru cb d (tp P N x t) := by
  have hdN := tp_lt hd
  have hft := (ftB_some h).1
  have key : ∀ i, i < N → mlo ru cb i (frm (dg P (mv P N x f t)) (dg P (mv P N x f t) i) (i + 1) N) = if i = d then mlo ru cb d (tp P N x t) else mlo ru cb i (frm (dg P x) (dg P x i) (i + 1) N) := by
    intro i hi
    rw [mv_sd hd]
    by_cases e : i = d
    · subst e
      rw [if_pos rfl, dg_sdS hP hx hdN ht, tp_t h hd]
      congr 1
      exact frm_cong (fun q a b => dg_sdN hP hx hdN ht b (by omega))
    · rw [if_neg e, dg_sdN hP hx hdN ht hi e]
      congr 1
      by_cases w : d < i
      · exact frm_cong (fun q a b => dg_sdN hP hx hdN ht b (by omega))
      · have hfr := tp_free h hd (show i < d by omega)
        cases hz : frm (dg P x) (dg P x i) (i + 1) N with
        | none =>
          rw [frm_none] at hz ⊢
          intro q a b
          by_cases e2 : q = d
          · rw [e2, dg_sdS hP hx hdN ht]; exact fun z => hfr.2 z.symm
          · rw [dg_sdN hP hx hdN ht b e2]; exact hz q a b
        | some j =>
          obtain ⟨z1, z2, z3, z4⟩ := frm_some hz
          have hjd : j ≠ d := fun z => by rw [z, tp_dg hd] at z3; exact hfr.1 z3.symm
          refine frm_eq z1 z2 (by rw [dg_sdN hP hx hdN ht z2 hjd]; exact z3) (fun q a b => ?_)
          by_cases e2 : q = d
          · rw [e2, dg_sdS hP hx hdN ht]; exact fun z => hfr.2 z.symm
          · rw [dg_sdN hP hx hdN ht (by omega) e2]; exact z4 q a b
  have h1 := alB_iff.mp (show alB _ 0 N = true from hl)
  have hiff : lawB P N ru cb (mv P N x f t) = true ↔ mlo ru cb d (tp P N x t) = true := by
    show alB _ 0 N = true ↔ _
    rw [alB_iff]
    refine ⟨fun g => ?_, fun g i _ hi => ?_⟩
    · have := g d (Nat.zero_le _) hdN
      rw [key d hdN, if_pos rfl] at this
      exact this
    · rw [key i hi]
      split
      · exact g
      · exact h1 i (Nat.zero_le _) hi
  cases a : lawB P N ru cb (mv P N x f t) <;> cases b : mlo ru cb d (tp P N x t) <;> simp_all
theorem egC {P N x y : Nat} {ru bw : Bool} {cb al : Nat → Bool} : eg P (nbC P N ru cb al bw) x y ↔ ∃ f t, f < P ∧ t < P ∧ stB P N ru cb al x f t bw = true ∧ y = mv P N x f t := by
  constructor
  · rintro ⟨f, t, hf, ht, h⟩
    unfold nbC at h
    split at h
    · rename_i q
      cases h
      exact ⟨f, t, hf, ht, q, rfl⟩
    · cases h
  · rintro ⟨f, t, hf, ht, h, rfl⟩
    exact ⟨f, t, hf, ht, by unfold nbC; rw [if_pos h]⟩
theorem psB_iff {P N x f t : Nat} {ru : Bool} {cb al : Nat → Bool} : psB P N ru cb al x f t = true ↔ ftB f t (tp P N x f) (tp P N x t) = true ∧ al (f * 5 + t) = true ∧ lawB P N ru cb (mv P N x f t) = true := by
  unfold psB; rw [Bool.and_eq_true, Bool.and_eq_true, and_assoc]
theorem stB_iff {P N x f t d : Nat} {ru bw : Bool} {cb al : Nat → Bool} (hd : tp P N x f = some d) : stB P N ru cb al x f t bw = true ↔ ftB f t (tp P N x f) (tp P N x t) = true ∧ al (if bw then t * 5 + f else f * 5 + t) = true ∧ mlo ru cb d (tp P N x t) = true := by
  unfold stB; rw [Bool.and_eq_true, Bool.and_eq_true, and_assoc, hd]
/-- from a lawful arrangement, forward -/
theorem eg_fw {P N x y : Nat} {ru : Bool} {cb al : Nat → Bool} (hP : 0 < P) (hx : x < P ^ N) (hl : lawB P N ru cb x = true) : eg P (nbC P N ru cb al false) x y ↔ ∃ f t, f < P ∧ t < P ∧ psB P N ru cb al x f t = true ∧ y = mv P N x f t := by
  rw [egC]
  constructor
  · rintro ⟨f, t, hf, ht, h, rfl⟩
    have h1 := stB_ft h
    obtain ⟨-, d, hd, -⟩ := ftB_some h1
    obtain ⟨-, h2, h3⟩ := (stB_iff hd).mp h
    exact ⟨f, t, hf, ht, psB_iff.mpr ⟨h1, h2, by rw [law_mv hP hx ht h1 hd hl]; exact h3⟩, rfl⟩
  · rintro ⟨f, t, hf, ht, h, rfl⟩
    obtain ⟨h1, h2, h3⟩ := psB_iff.mp h
    obtain ⟨-, d, hd, -⟩ := ftB_some h1
    exact ⟨f, t, hf, ht, (stB_iff hd).mpr ⟨h1, h2, by rw [← law_mv hP hx ht h1 hd hl]; exact h3⟩, rfl⟩
/-- .. and backward -/
theorem eg_bw {P N x y : Nat} {ru : Bool} {cb al : Nat → Bool} (hP : 0 < P) (hy : y < P ^ N) (hl : lawB P N ru cb y = true) (h : eg P (nbC P N ru cb al true) y x) : x < P ^ N ∧ lawB P N ru cb x = true ∧ ∃ f t, f < P ∧ t < P ∧ psB P N ru cb al x f t = true ∧ y = mv P N x f t := by
  rw [egC] at h
  obtain ⟨f, t, hf, ht, h, rfl⟩ := h
  have h1 := stB_ft h
  obtain ⟨-, d, hd, -⟩ := ftB_some h1
  obtain ⟨-, h2, h3⟩ := (stB_iff hd).mp h
  refine ⟨mv_lt hP hy ht, by rw [law_mv hP hy ht h1 hd hl]; exact h3, t, f, ht, hf, psB_iff.mpr ⟨ft_back hP hy ht h1 hd, h2, by rw [mv_back hP hy hf ht h1 hd]; exact hl⟩, (mv_back hP hy hf ht h1 hd).symm⟩
theorem eg_bw2 {P N x : Nat} {ru : Bool} {cb al : Nat → Bool} (hP : 0 < P) (hx : x < P ^ N) (hl : lawB P N ru cb x = true) {f t : Nat} (hf : f < P) (ht : t < P) (h : psB P N ru cb al x f t = true) : eg P (nbC P N ru cb al true) (mv P N x f t) x := by
  obtain ⟨h1, h2, h3⟩ := psB_iff.mp h
  obtain ⟨-, d, hd, -⟩ := ftB_some h1
  rw [egC]
  refine ⟨t, f, ht, hf, (stB_iff (tp_mv hP hx ht h1 hd)).mpr ⟨ft_back hP hx ht h1 hd, h2, ?_⟩, (mv_back hP hx hf ht h1 hd).symm⟩
  have h4 := law_mv (ru := ru) (cb := cb) hP (mv_lt hP hx ht) hf (ft_back hP hx ht h1 hd) (tp_mv hP hx ht h1 hd) h3
  rw [mv_back hP hx hf ht h1 hd] at h4
  rw [← h4]; exact hl
theorem bf_cnt {M P P2 : Nat} {nb nb2 : nb_T} {o o2 h h2 fo fo2 : Nat} {ds ds2 : Nat → Option Nat} {q q2 : Nat → Nat} (I : bfI M P nb o h fo ds q) (I2 : bfI M P2 nb2 o2 h2 fo2 ds2 q2) (hd : ∀ y, ds y ≠ none → ds2 y ≠ none) : fo ≤ fo2 := by
  have hx : ∀ i, ∃ j, i < fo → (j < fo2 ∧ q2 j = q i) := fun i => by
    by_cases hi : i < fo
    · obtain ⟨d, h1, -⟩ := I.2.2.1 i hi
      obtain ⟨j, hj, e⟩ := I2.2.2.2.1 (q i) (hd _ (by rw [h1]; simp))
      exact ⟨j, fun _ => ⟨hj, e⟩⟩
    · exact ⟨0, fun z => absurd z hi⟩
  refine holes fo2 fo (fun i => Classical.choose (hx i)) (fun i hi => (Classical.choose_spec (hx i) hi).1) (fun i j a b e => ?_)
  have e1 := (Classical.choose_spec (hx i) (by omega)).2
  have e2 := (Classical.choose_spec (hx j) b).2
  have e3 : Classical.choose (hx i) = Classical.choose (hx j) := e
  rw [e3, e2] at e1
  exact I.2.2.2.2.1 i j a b e1.symm
theorem lgd_cong {f f2 g g2 : Nat → Nat} : ∀ {N : Nat}, (∀ d, d < N → f d = f2 d) → (∀ d, d < N → g d = g2 d) → lgd f g N = lgd f2 g2 N
  | 0, _, _ => rfl
  | n + 1, h1, h2 => by
    rw [lgd, lgd, h1 n (by omega), h2 n (by omega), lgd_cong (fun d hd => h1 d (by omega)) (fun d hd => h2 d (by omega))]
theorem lgd_lt {f g : Nat → Nat} : ∀ {N L : Nat}, lgd f g N = some L → L < N
  | 0, _, h => by cases h
  | n + 1, L, h => by
    rw [lgd] at h
    split at h
    · have := lgd_lt h; omega
    · cases h; omega
theorem wbV_cong {f f2 g g2 : Nat → Nat} {N : Nat} (h1 : ∀ d, d < N → f d = f2 d) (h2 : ∀ d, d < N → g d = g2 d) : wbV f g N = wbV f2 g2 N := by
  unfold wbV
  rw [lgd_cong h1 h2]
  cases e : lgd f2 g2 N with
  | none => rfl
  | some L =>
    have hL := lgd_lt e
    have e1 : wbT f g L = wbT f2 g2 L := by
      unfold wbT
      rw [h1 L hL, h2 L hL, gth_cong (fun d hd => h1 d (by omega)), gth_cong (f := g) (fun d hd => h2 d (by omega))]
    have e2 : wbO f g L = wbO f2 g2 L := by
      unfold wbO
      rw [h1 L hL, h2 L hL, gth_cong (fun d hd => h1 d (by omega)), gth_cong (f := g) (fun d hd => h2 d (by omega))]
    show (if wbT f g L < wbO f g L then _ else _) = _
    rw [e1, e2]
end
section
/-! three free pegs: disk by disk is the search's way -/
def onP (f : Nat → Nat) (m r : Nat) : Prop := ∀ j, j < m → f j = r
/-- f2 is f behind a move of the disk d, among N, to the peg q; r is the third peg, where all smaller ones are -/
def mvd (N : Nat) (f f2 : Nat → Nat) (d q r : Nat) : Prop := f d + q + r = 3 ∧ f d ≠ q ∧ f d ≠ r ∧ q ≠ r ∧ onP f d r ∧ f2 d = q ∧ ∀ j, j < N → j ≠ d → f2 j = f j
theorem gth_on0 {f : Nat → Nat} {r : Nat} : ∀ {m : Nat}, onP f m r → gth f m r = 0
  | 0, _ => rfl
  | m + 1, h => by rw [gth, if_pos (h m (by omega))]; exact gth_on0 (fun j hj => h j (by omega))
theorem gth_on1 {f : Nat → Nat} {r : Nat} (hr : r < 3) : ∀ {m g : Nat}, onP f m r → g < 3 → g ≠ r → gth f m g + 1 = 2 ^ m
  | 0, _, _, _, _ => rfl
  | m + 1, g, h, hg, hne => by
    have e := h m (by omega)
    rw [gth, if_neg (by rw [e]; exact fun z => hne z.symm), e]
    have := gth_on1 hr (m := m) (g := 3 - r - g) (fun j hj => h j (by omega)) (by omega) (by omega)
    rw [Nat.pow_succ]; omega
theorem gth_zero {f : Nat → Nat} {u : Nat} : ∀ {m : Nat}, gth f m u = 0 → onP f m u
  | 0, _ => fun j hj => absurd hj (Nat.not_lt_zero j)
  | m + 1, h => by
    rw [gth] at h
    by_cases e : f m = u
    · rw [if_pos e] at h
      intro j hj
      by_cases q : j = m
      · rw [q]; exact e
      · exact gth_zero h j (by omega)
    · rw [if_neg e] at h
      have := Nat.pow_pos (n := m) (show 0 < 2 by decide)
      omega
theorem mvd_on {N d q r : Nat} {f f2 : Nat → Nat} (h : mvd N f f2 d q r) (hd : d < N) : onP f2 d r := fun j hj => by
  rw [h.2.2.2.2.2.2 j (by omega) (by omega)]; exact h.2.2.2.2.1 j hj
theorem gth_lip {N d q r : Nat} {f f2 : Nat → Nat} (h : mvd N f f2 d q r) : ∀ {m g : Nat}, m ≤ N → g < 3 → (∀ j, j < m → f j < 3) → gth f m g ≤ gth f2 m g + 1 ∧ gth f2 m g ≤ gth f m g + 1
  | 0, _, _, _, _ => ⟨Nat.zero_le _, Nat.zero_le _⟩
  | m + 1, g, hm, hg, h3 => by
    obtain ⟨h1, hpq, hpr, hqr, hon, hfd, hoth⟩ := id h
    by_cases hmd : m < d
    · rw [gth_cong (f := f2) (f2 := f) (fun j hj => hoth j (by omega) (by omega))]
      omega
    · by_cases e : m = d
      · subst e
        have hon2 := mvd_on h (show m < N by omega)
        have hr3 : r < 3 := by omega
        rw [gth, gth, hfd]
        rcases (show g = f m ∨ g = q ∨ g = r by omega) with e | e | e
        · subst e
          rw [if_pos rfl, if_neg (fun z => hpq z.symm), show 3 - q - f m = r by omega, gth_on0 hon2]
          have := gth_on1 hr3 hon (show f m < 3 by omega) hpr
          omega
        · subst e
          rw [if_neg hpq, if_pos rfl, show 3 - f m - g = r by omega, gth_on0 hon]
          have := gth_on1 hr3 hon2 hg hqr
          omega
        · subst e
          rw [if_neg hpr, if_neg hqr, show 3 - f m - g = q by omega, show 3 - q - g = f m by omega]
          have := gth_on1 hr3 hon (show q < 3 by omega) hqr
          have := gth_on1 hr3 hon2 (show f m < 3 by omega) hpr
          omega
      · have hfm := hoth m (by omega) e
        have h3m := h3 m (by omega)
        rw [gth, gth, hfm]
        have i1 := gth_lip h (m := m) (g := g) (by omega) hg (fun j hj => h3 j (by omega))
        by_cases w : f m = g
        · rw [if_pos w, if_pos w]; exact i1
        · have i2 := gth_lip h (m := m) (g := 3 - f m - g) (by omega) (by omega) (fun j hj => h3 j (by omega))
          rw [if_neg w, if_neg w]; omega
theorem wbV_same {f g : Nat → Nat} {n : Nat} (h : f n = g n) : wbV f g (n + 1) = wbV f g n := by
  unfold wbV; rw [lgd, if_pos h]
theorem wbV_diff {f g : Nat → Nat} {n : Nat} (h : f n ≠ g n) : wbV f g (n + 1) = if wbT f g n < wbO f g n then wbT f g n else wbO f g n := by
  unfold wbV; rw [lgd, if_neg h]
theorem wb_on {f g : Nat → Nat} {r : Nat} (hr : r < 3) : ∀ {m : Nat}, onP f m r → (∀ j, j < m → g j < 3) → wbV f g m = gth g m r
  | 0, _, _ => rfl
  | m + 1, h, h3 => by
    have e := h m (by omega)
    have ho : onP f m r := fun j hj => h j (by omega)
    have hg := h3 m (by omega)
    by_cases q : f m = g m
    · rw [wbV_same q, wb_on hr ho (fun j hj => h3 j (by omega)), gth, if_pos (by rw [← q]; exact e)]
    · have hne : g m ≠ r := fun z => q (by rw [z]; exact e)
      rw [wbV_diff q, gth, if_neg hne]
      unfold wbT wbO
      rw [e, show 3 - g m - r = 3 - r - g m by omega]
      have h1 := gth_on1 hr ho hg hne
      have h2 := gth_on1 hr ho (g := 3 - r - g m) (by omega) (by omega)
      have h4 := gth_lt (f := g) (m := m) (g := 3 - r - g m)
      split <;> omega
theorem wb_top {f g : Nat → Nat} {r n : Nat} (hr : r < 3) (ho : onP f n r) (hf : f n < 3) (hg : g n < 3) (h1 : f n ≠ g n) (h2 : f n ≠ r) (h3 : g n ≠ r) : wbV f g (n + 1) = gth g n r + 1 := by
  rw [wbV_diff h1]
  unfold wbT wbO
  rw [show 3 - f n - g n = r by omega, gth_on0 ho]
  have := gth_on1 hr ho hg h3
  have := gth_lt (f := g) (m := n) (g := r)
  split <;> omega
theorem wb_lip {d q r : Nat} {f f2 g : Nat → Nat} : ∀ {N : Nat}, mvd N f f2 d q r → d < N → (∀ j, j < N → f j < 3) → (∀ j, j < N → g j < 3) → wbV f g N ≤ wbV f2 g N + 1 ∧ wbV f2 g N ≤ wbV f g N + 1
  | 0, _, h, _, _ => absurd h (Nat.not_lt_zero d)
  | N + 1, h, hd, h3, g3 => by
    obtain ⟨h1, hpq, hpr, hqr, hon, hfd, hoth⟩ := id h
    have hg := g3 N (by omega)
    have hf := h3 N (by omega)
    by_cases e : d = N
    · subst e
      have hon2 := mvd_on h hd
      have hr3 : r < 3 := by omega
      rcases (show g d = f d ∨ g d = q ∨ g d = r by omega) with e | e | e
      · rw [wbV_same e.symm, wb_on hr3 hon (fun j hj => g3 j (by omega)), wb_top hr3 hon2 (by omega) hg (by omega) (by omega) (by omega)]
        omega
      · rw [wbV_same (f := f2) (by omega), wb_on hr3 hon2 (fun j hj => g3 j (by omega)), wb_top hr3 hon (by omega) hg (by omega) (by omega) (by omega)]
        omega
      · rw [wbV_diff (by omega), wbV_diff (f := f2) (by omega)]
        unfold wbT wbO
        rw [hfd, e, show 3 - f d - r = q by omega, show 3 - q - r = f d by omega, gth_on0 hon, gth_on0 hon2]
        have := gth_on1 hr3 hon (show q < 3 by omega) hqr
        have := gth_on1 hr3 hon2 (show f d < 3 by omega) hpr
        split <;> split <;> omega
    · have hN := hoth N (by omega) (fun z => e z.symm)
      have h' : mvd N f f2 d q r := ⟨h1, hpq, hpr, hqr, hon, hfd, fun j hj => hoth j (by omega)⟩
      by_cases w : f N = g N
      · rw [wbV_same w, wbV_same (f := f2) (by omega)]
        exact wb_lip h' (by omega) (fun j hj => h3 j (by omega)) (fun j hj => g3 j (by omega))
      · rw [wbV_diff w, wbV_diff (f := f2) (by omega)]
        unfold wbT wbO
        rw [hN]
        have i1 := gth_lip h' (m := N) (g := 3 - f N - g N) (Nat.le_refl _) (by omega) (fun j hj => h3 j (by omega))
        have i2 := gth_lip h' (m := N) (g := g N) (Nat.le_refl _) hg (fun j hj => h3 j (by omega))
        split <;> split <;> omega
/-- a disk that can be moved: no smaller one on its peg or on q -/
def frD (f : Nat → Nat) (d q r : Nat) : Prop := f d + q + r = 3 ∧ f d ≠ q ∧ f d ≠ r ∧ q ≠ r ∧ onP f d r
theorem updN_on {f : Nat → Nat} {m d q r : Nat} (h : onP f m r) (hd : m ≤ d) : onP (updN f d q) m r := fun j hj => by rw [updN_n (by omega)]; exact h j hj
theorem gth_down {f : Nat → Nat} : ∀ {m t : Nat}, (∀ j, j < m → f j < 3) → t < 3 → 0 < gth f m t → ∃ d q r, d < m ∧ frD f d q r ∧ gth (updN f d q) m t + 1 ≤ gth f m t
  | 0, _, _, _, h => absurd h (Nat.lt_irrefl 0)
  | m + 1, t, h3, ht, h => by
    have hm := h3 m (by omega)
    by_cases e : f m = t
    · rw [gth, if_pos e] at h
      obtain ⟨d, q, r, hd, hf, hl⟩ := gth_down (fun j hj => h3 j (by omega)) ht h
      refine ⟨d, q, r, by omega, hf, ?_⟩
      rw [gth, gth, updN_n (by omega), if_pos e, if_pos e]; exact hl
    · by_cases z : gth f m (3 - f m - t) = 0
      · have ho := gth_zero z
        refine ⟨m, t, 3 - f m - t, by omega, ⟨by omega, e, by omega, by omega, ho⟩, ?_⟩
        rw [gth, gth, updN_s, if_pos rfl, if_neg e, z]
        have := gth_on1 (r := 3 - f m - t) (by omega) (updN_on (d := m) (q := t) ho (Nat.le_refl _)) ht (by omega)
        omega
      · obtain ⟨d, q, r, hd, hf, hl⟩ := gth_down (m := m) (t := 3 - f m - t) (fun j hj => h3 j (by omega)) (by omega) (by omega)
        refine ⟨d, q, r, by omega, hf, ?_⟩
        rw [gth, gth, updN_n (by omega), if_neg e, if_neg e]; omega
theorem wb_down {f g : Nat → Nat} : ∀ {N : Nat}, (∀ j, j < N → f j < 3) → (∀ j, j < N → g j < 3) → (∃ j, j < N ∧ f j ≠ g j) → ∃ d q r, d < N ∧ frD f d q r ∧ wbV (updN f d q) g N + 1 ≤ wbV f g N
  | 0, _, _, h => by obtain ⟨j, hj, -⟩ := h; exact absurd hj (Nat.not_lt_zero j)
  | N + 1, h3, g3, h => by
    have hf := h3 N (by omega)
    have hg := g3 N (by omega)
    by_cases e : f N = g N
    · obtain ⟨j, hj, hne⟩ := h
      have hjN : j ≠ N := fun z => hne (by rw [z]; exact e)
      obtain ⟨d, q, r, hd, hfr, hl⟩ := wb_down (N := N) (fun j hj => h3 j (by omega)) (fun j hj => g3 j (by omega)) ⟨j, by omega, hne⟩
      refine ⟨d, q, r, by omega, hfr, ?_⟩
      rw [wbV_same e, wbV_same (f := updN f d q) (by rw [updN_n (by omega)]; exact e)]; exact hl
    · have hk : ∀ t, t < 3 → 0 < gth f N t → ∃ d q r, d < N ∧ frD f d q r ∧ gth (updN f d q) N t + 1 ≤ gth f N t := fun t ht hp => gth_down (fun j hj => h3 j (by omega)) ht hp
      rw [wbV_diff e]
      by_cases w : wbT f g N < wbO f g N
      · rw [if_pos w]
        by_cases z : gth f N (g N) = 0
        · have ho := gth_zero z
          refine ⟨N, 3 - f N - g N, g N, by omega, ⟨by omega, by omega, e, by omega, ho⟩, ?_⟩
          rw [wbV_diff (by rw [updN_s]; omega)]
          have h1 := gth_on1 hg (updN_on (d := N) (q := 3 - f N - g N) ho (Nat.le_refl _)) hf e
          have h2 : wbO (updN f N (3 - f N - g N)) g N + 1 ≤ wbT f g N := by
            unfold wbO wbT
            rw [updN_s, show 3 - (3 - f N - g N) - g N = f N by omega]; omega
          split <;> omega
        · obtain ⟨d, q, r, hd, hfr, hl⟩ := hk (g N) hg (by omega)
          refine ⟨d, q, r, by omega, hfr, ?_⟩
          rw [wbV_diff (by rw [updN_n (by omega)]; exact e)]
          have h2 : wbT (updN f d q) g N + 1 ≤ wbT f g N := by
            unfold wbT
            rw [updN_n (j := N) (by omega)]; omega
          split <;> omega
      · rw [if_neg w]
        by_cases z : gth f N (3 - f N - g N) = 0
        · have ho := gth_zero z
          refine ⟨N, g N, 3 - f N - g N, by omega, ⟨by omega, e, by omega, by omega, ho⟩, ?_⟩
          rw [wbV_same (by rw [updN_s]), wb_on (by omega) (updN_on (d := N) (q := g N) ho (Nat.le_refl _)) (fun j hj => g3 j (by omega))]
          unfold wbO; omega
        · obtain ⟨d, q, r, hd, hfr, hl⟩ := hk (3 - f N - g N) (by omega) (by omega)
          refine ⟨d, q, r, by omega, hfr, ?_⟩
          rw [wbV_diff (by rw [updN_n (by omega)]; exact e)]
          have h2 : wbO (updN f d q) g N + 1 ≤ wbO f g N := by
            unfold wbO
            rw [updN_n (j := N) (by omega)]; omega
          split <;> omega
theorem wbV_refl {f g : Nat → Nat} : ∀ {N : Nat}, (∀ j, j < N → f j = g j) → wbV f g N = 0
  | 0, _ => rfl
  | N + 1, h => by rw [wbV_same (h N (by omega))]; exact wbV_refl (fun j hj => h j (by omega))
theorem lawB_f {P N a : Nat} {cb : Nat → Bool} : lawB P N false cb a = true := alB_iff.mpr (fun d _ _ => rfl)
/-- the search's way is the number told disk by disk -/
theorem wb_way {N a b : Nat} {cb al : Nat → Bool} {ds : Nat → Option Nat} (ha : a < 3 ^ N) (hb : b < 3 ^ N) (hal : alB al 0 25 = true) (h : srD (3 ^ N) 3 (nbC 3 N false cb al true) b (lawB 3 N false cb b) ds) : ds a = some (wbV (dg 3 a) (dg 3 b) N) := by
  have h3 : ∀ x : Nat, ∀ j, j < N → dg 3 x j < 3 := fun x j _ => dg_lt (by decide)
  have hD : isDs (eg 3 (nbC 3 N false cb al true)) b ds := by
    rcases h.2 with ⟨-, q⟩ | ⟨q, -⟩
    · exact q
    · rw [lawB_f] at q; cases q
  have low : ∀ k y, pth (eg 3 (nbC 3 N false cb al true)) k b y → y < 3 ^ N ∧ wbV (dg 3 y) (dg 3 b) N ≤ k := by
    intro k
    induction k with
    | zero => intro y hy; cases hy; exact ⟨hb, by rw [wbV_refl (fun _ _ => rfl)]; exact Nat.le_refl _⟩
    | succ k ih =>
      rintro y ⟨z, hz, hzy⟩
      obtain ⟨hz1, hz2⟩ := ih z hz
      obtain ⟨hy, -, f, t, hf, ht, hps, e⟩ := eg_bw (by decide) hz1 lawB_f hzy
      obtain ⟨h1, -, -⟩ := psB_iff.mp hps
      obtain ⟨hne, d, hd, -⟩ := ftB_some h1
      have hdN := tp_lt hd
      have hdf := tp_dg hd
      subst e
      rw [mv_sd hd] at hz2
      have hm : mvd N (dg 3 y) (dg 3 (sd 3 y d t)) d t (3 - f - t) := by
        refine ⟨by omega, by omega, by omega, by omega, fun j hj => ?_, dg_sdS (by decide) hy hdN ht, fun j hj hjd => dg_sdN (by decide) hy hdN ht hj hjd⟩
        have := tp_free h1 hd hj
        have := h3 y j (by omega)
        omega
      have := wb_lip (g := dg 3 b) hm hdN (h3 y) (h3 b)
      exact ⟨hy, by omega⟩
  have up : ∀ n y, y < 3 ^ N → wbV (dg 3 y) (dg 3 b) N ≤ n → ∃ k, k ≤ n ∧ pth (eg 3 (nbC 3 N false cb al true)) k b y := by
    intro n
    induction n with
    | zero =>
      intro y hy hn
      by_cases e : y = b
      · exact ⟨0, Nat.le_refl _, e.symm⟩
      · have hex : ∃ j, j < N ∧ dg 3 y j ≠ dg 3 b j := by
          by_cases w : ∃ j, j < N ∧ dg 3 y j ≠ dg 3 b j
          · exact w
          · exact absurd (dg_inj hy hb (fun d hd => by
              by_cases q : dg 3 y d = dg 3 b d
              · exact q
              · exact absurd ⟨d, hd, q⟩ w)) e
        obtain ⟨d, q, r, -, -, hl⟩ := wb_down (h3 y) (h3 b) hex
        omega
    | succ n ih =>
      intro y hy hn
      by_cases e : y = b
      · exact ⟨0, Nat.zero_le _, e.symm⟩
      · have hex : ∃ j, j < N ∧ dg 3 y j ≠ dg 3 b j := by
          by_cases w : ∃ j, j < N ∧ dg 3 y j ≠ dg 3 b j
          · exact w
          · exact absurd (dg_inj hy hb (fun d hd => by
              by_cases q : dg 3 y d = dg 3 b d
              · exact q
              · exact absurd ⟨d, hd, q⟩ w)) e
        obtain ⟨d, q, r, hd, ⟨f1, f2, f4, f5, f6⟩, hl⟩ := wb_down (h3 y) (h3 b) hex
        have hq : q < 3 := by omega
        have hy2 := sd_lt (P := 3) (by decide) hy hd hq
        have hcg : wbV (dg 3 (sd 3 y d q)) (dg 3 b) N = wbV (updN (dg 3 y) d q) (dg 3 b) N := wbV_cong (fun j hj => by
          rw [dg_sd (by decide) hy hd hq hj]; rfl) (fun _ _ => rfl)
        obtain ⟨k, hk, hp⟩ := ih (sd 3 y d q) hy2 (by omega)
        have ht1 : tp 3 N y (dg 3 y d) = some d := frm_eq (Nat.zero_le _) hd rfl (fun j _ hj => by rw [f6 j hj]; omega)
        have hft : ftB (dg 3 y d) q (tp 3 N y (dg 3 y d)) (tp 3 N y q) = true := by
          unfold ftB
          rw [ht1, Bool.and_eq_true]
          refine ⟨decide_eq_true f2, ?_⟩
          cases e2 : tp 3 N y q with
          | none => rfl
          | some e3 =>
            have e4 := tp_dg e2
            refine decide_eq_true ?_
            rcases Nat.lt_trichotomy d e3 with w | w | w
            · exact w
            · rw [← w] at e4; exact absurd e4 f2
            · rw [f6 e3 w] at e4; omega
        have hps : psB 3 N false cb al y (dg 3 y d) q = true := psB_iff.mpr ⟨hft, alB_iff.mp hal _ (Nat.zero_le _) (by have := h3 y d hd; omega), lawB_f⟩
        have hE := eg_bw2 (P := 3) (by decide) hy lawB_f (h3 y d hd) hq hps
        rw [mv_sd ht1] at hE
        exact ⟨k + 1, by omega, _, hp, hE⟩
  obtain ⟨k, hk, hp⟩ := up _ a ha (Nat.le_refl _)
  obtain ⟨e, h1, h2⟩ := hD.2 k a hp
  have h4 := (low e a (hD.1 a e h1)).2
  rw [h1, show e = wbV (dg 3 a) (dg 3 b) N by omega]
end
section
/-! what ways, the told move and moves lost keep to -/
theorem srD_is {M P : Nat} {nb : nb_T} {o : Nat} {law : Bool} {ds : Nat → Option Nat} (h : srD M P nb o law ds) {y w : Nat} (e : ds y = some w) : law = true ∧ isDs (eg P nb) o ds := by
  rcases h.2 with q | ⟨-, q⟩
  · exact q
  · rw [q] at e; cases e
section WY
variable {P N a b : Nat} {ru : Bool} {cb al : Nat → Bool} {ds : Nat → Option Nat}
theorem srD_law (hP : 0 < P) (hb : b < P ^ N) (h : srD (P ^ N) P (nbC P N ru cb al true) b (lawB P N ru cb b) ds) {w : Nat} (e : ds a = some w) : a < P ^ N ∧ lawB P N ru cb a = true := by
  obtain ⟨hl, hD⟩ := srD_is h e
  exact (pth_cong (L := fun q => q < P ^ N ∧ lawB P N ru cb q = true) (F := fun _ _ => True) ⟨hb, hl⟩ (fun u v hu huv => by
    obtain ⟨a1, a2, -⟩ := eg_bw hP hu.1 hu.2 huv
    exact ⟨trivial, a1, a2⟩) (hD.1 a w e)).2
theorem srD_0 (h : srD (P ^ N) P (nbC P N ru cb al true) b (lawB P N ru cb b) ds) (e : ds a = some 0) : a = b := by
  obtain ⟨-, hD⟩ := srD_is h e
  exact (hD.1 a 0 e).symm
theorem srD_next (hP : 0 < P) (hb : b < P ^ N) (h : srD (P ^ N) P (nbC P N ru cb al true) b (lawB P N ru cb b) ds) {k : Nat} (e : ds a = some (k + 1)) : ∃ f t, f < P ∧ t < P ∧ psB P N ru cb al a f t = true ∧ ds (mv P N a f t) = some k := by
  obtain ⟨-, hD⟩ := srD_is h e
  obtain ⟨z, hz, hza⟩ := hD.1 a (k + 1) e
  obtain ⟨d, h1, h2⟩ := hD.2 k z hz
  obtain ⟨z1, z2⟩ := srD_law hP hb h h1
  obtain ⟨-, -, f, t, hf, ht, hps, rfl⟩ := eg_bw hP z1 z2 hza
  obtain ⟨d2, h3, h4⟩ := hD.2 (d + 1) a ⟨_, hD.1 _ d h1, hza⟩
  rw [e] at h3; cases h3
  exact ⟨f, t, hf, ht, hps, by rw [h1, show d = k by omega]⟩
theorem srD_le (hP : 0 < P) (hb : b < P ^ N) (h : srD (P ^ N) P (nbC P N ru cb al true) b (lawB P N ru cb b) ds) {w u f t : Nat} (hf : f < P) (ht : t < P) (e : ds a = some w) (hps : psB P N ru cb al a f t = true) (e2 : ds (mv P N a f t) = some u) : w ≤ u + 1 := by
  obtain ⟨-, hD⟩ := srD_is h e
  obtain ⟨z1, z2⟩ := srD_law hP hb h e
  obtain ⟨d, h3, h4⟩ := hD.2 (u + 1) a ⟨_, hD.1 _ u e2, eg_bw2 hP z1 z2 hf ht hps⟩
  rw [e] at h3; cases h3
  exact h4
end WY
theorem oI_neg {o : Option Nat} (h : ∀ j, o = some j → j < 2 ^ 31) : oI o < 0 ↔ o = none := by
  cases o with
  | none => exact ⟨fun _ => rfl, fun _ => by decide⟩
  | some j => exact ⟨fun q => absurd q (nI_nlt0 (h j rfl)), fun q => by cases q⟩
theorem oI_pos {o : Option Nat} (h : ∀ j, o = some j → j < 2 ^ 31) : oI o ≤ 0 ↔ ¬ ∃ k, o = some (k + 1) := by
  cases o with
  | none => exact ⟨fun _ z => (by obtain ⟨k, q⟩ := z; cases q), fun _ => by decide⟩
  | some j =>
    have hj := h j rfl
    show nI j ≤ 0 ↔ _
    rw [show (0 : Int32) = nI 0 from rfl, nI_leI hj (by omega)]
    refine ⟨fun q ⟨k, e⟩ => by cases e; omega, fun q => ?_⟩
    by_cases e : j = 0
    · omega
    · exact absurd ⟨j - 1, by rw [Nat.sub_add_cancel (by omega)]⟩ q
theorem oI_z {o : Option Nat} (h : ∀ j, o = some j → j < 2 ^ 31) : oI o = 0 ↔ o = some 0 := oI_nI h (by decide)
/-- the told move, where there is one -/
theorem nxC_is {P N a b w : Nat} {ru : Bool} {cb al : Nat → Bool} {ds : Nat → Option Nat} (hP : 0 < P) (hb : b < P ^ N) (h : srD (P ^ N) P (nbC P N ru cb al true) b (lawB P N ru cb b) ds) (e : ds a = some (w + 1)) :
    ∃ j, j < P * P ∧ nxC P N ru cb al ds a = nI (10 * (j / P) + j % P) ∧ (psB P N ru cb al a (j / P) (j % P) = true ∧ ds (mv P N a (j / P) (j % P)) = some w) ∧ ∀ i, i < j → ¬ (psB P N ru cb al a (i / P) (i % P) = true ∧ ds (mv P N a (i / P) (i % P)) = some w) := by
  have e1 : nxC P N ru cb al ds a = nxV P (fun f t => psB P N ru cb al a f t && decide (ds (mv P N a f t) = some w)) := by unfold nxC; rw [e]
  rw [e1]
  unfold nxV
  have hQ : ∀ i, nxF P (fun f t => psB P N ru cb al a f t && decide (ds (mv P N a f t) = some w)) i = 1 ↔ (psB P N ru cb al a (i / P) (i % P) = true ∧ ds (mv P N a (i / P) (i % P)) = some w) := fun i => by
    have hB : (psB P N ru cb al a (i / P) (i % P) && decide (ds (mv P N a (i / P) (i % P)) = some w)) = true ↔ (psB P N ru cb al a (i / P) (i % P) = true ∧ ds (mv P N a (i / P) (i % P)) = some w) := by rw [Bool.and_eq_true, decide_eq_true_iff]
    unfold nxF
    split
    · rename_i q; exact ⟨fun _ => hB.mp q, fun _ => rfl⟩
    · rename_i q; exact ⟨fun z => (by omega), fun z => absurd (hB.mpr z) q⟩
  obtain ⟨f, t, hf, ht, hps, hm⟩ := srD_next hP hb h e
  cases r : frm (nxF P (fun f t => psB P N ru cb al a f t && decide (ds (mv P N a f t) = some w))) 1 0 (P * P) with
  | none =>
    refine absurd ((hQ (f * P + t)).mpr ?_) (frm_none.mp r (f * P + t) (Nat.zero_le _) (pr_lt hf ht))
    rw [pr_div ht, pr_mod ht]
    exact ⟨hps, hm⟩
  | some j =>
    obtain ⟨-, h2, h3, h4⟩ := frm_some r
    exact ⟨j, h2, rfl, (hQ j).mp h3, fun i hi q => h4 i (Nat.zero_le _) hi ((hQ i).mpr q)⟩
section WT
variable {P N a b : Nat} {ru : Bool} {cb al : Nat → Bool} {ds : Nat → Option Nat}
theorem nxC_no (h : ¬ ∃ k, ds a = some (k + 1)) : nxC P N ru cb al ds a = -1 := by
  unfold nxC
  cases e : ds a with
  | none => rfl
  | some d =>
    cases d with
    | zero => rfl
    | succ d => exact absurd ⟨d, e⟩ h
theorem cd_lt {P j : Nat} (hP5 : P ≤ 5) (hP : 0 < P) (hj : j < P * P) : j / P < 5 ∧ j % P < 5 ∧ j = j / P * P + j % P := by
  have h1 : j / P < P := Nat.div_lt_of_lt_mul hj
  have h2 := Nat.mod_lt j hP
  have h3 := Nat.div_add_mod j P
  rw [Nat.mul_comm] at h3
  omega
theorem nxC_neg (hP : 0 < P) (hP5 : P ≤ 5) (hb : b < P ^ N) (h : srD (P ^ N) P (nbC P N ru cb al true) b (lawB P N ru cb b) ds) : nxC P N ru cb al ds a < 0 ↔ ¬ ∃ k, ds a = some (k + 1) := by
  constructor
  · rintro q ⟨w, e⟩
    obtain ⟨j, h1, h2, -⟩ := nxC_is hP hb h e
    rw [h2] at q
    have := cd_lt hP5 hP h1
    exact nI_nlt0 (by omega) q
  · intro q
    rw [nxC_no q]; decide
theorem told_1 (hP : 0 < P) (hP5 : P ≤ 5) (hb : b < P ^ N) (h : srD (P ^ N) P (nbC P N ru cb al true) b (lawB P N ru cb b) ds) {k : Nat} (hk : k < P * P) (e : nI (10 * (k / P) + k % P) = nxC P N ru cb al ds a) : oI (ds (mv P N a (k / P) (k % P))) = oI (ds a) - nI 1 := by
  have c1 := cd_lt hP5 hP hk
  by_cases w : ∃ w, ds a = some (w + 1)
  · obtain ⟨w, e1⟩ := w
    obtain ⟨j, h1, h2, h3, -⟩ := nxC_is hP hb h e1
    have c2 := cd_lt hP5 hP h1
    rw [h2] at e
    have e2 := (nI_eq (by omega) (by omega)).mp e
    rw [show k / P = j / P by omega, show k % P = j % P by omega, h3.2, e1]
    exact (nI_pr w).symm
  · rw [nxC_no w] at e
    have e3 : (nI (10 * (k / P) + k % P)).toInt = (-1 : Int32).toInt := by rw [e]
    rw [nI_toInt (by omega), show (-1 : Int32).toInt = -1 by decide] at e3
    omega
theorem told_2 (hP : 0 < P) (hP5 : P ≤ 5) (hPN : P ^ N ≤ 15625) (hb : b < P ^ N) (h : srD (P ^ N) P (nbC P N ru cb al true) b (lawB P N ru cb b) ds) {k : Nat} (hk : k < P * P) (hps : psB P N ru cb al a (k / P) (k % P) = true) (e : ¬ nxC P N ru cb al ds a ≤ nI (10 * (k / P) + k % P)) (hn : ¬ nxC P N ru cb al ds a < 0) : ¬ oI (ds (mv P N a (k / P) (k % P))) = oI (ds a) - nI 1 := by
  intro q
  have c1 := cd_lt hP5 hP hk
  by_cases w : ∃ w, ds a = some (w + 1)
  · obtain ⟨w, e1⟩ := w
    obtain ⟨j, h1, h2, -, h4⟩ := nxC_is hP hb h e1
    have c2 := cd_lt hP5 hP h1
    rw [h2, nI_leI (by omega) (by omega)] at e
    have hkj : k < j := by
      by_cases z : k / P < j / P
      · have : (k / P + 1) * P ≤ j / P * P := Nat.mul_le_mul_right _ z
        rw [Nat.succ_mul] at this
        have := Nat.mod_lt k hP
        omega
      · rw [c1.2.2, c2.2.2, show k / P = j / P by omega]; omega
    rw [e1] at q
    have hw := (h.1 a _ e1).2
    rw [show oI (some (w + 1)) - nI 1 = nI w from nI_pr w, oI_nI (srD_lt h hPN _) (by omega)] at q
    exact h4 k hkj ⟨hps, q⟩
  · exact hn ((nxC_neg hP hP5 hb h).mpr w)
theorem told_3 (hP : 0 < P) (hPN : P ^ N ≤ 15625) (hb : b < P ^ N) (h : srD (P ^ N) P (nbC P N ru cb al true) b (lawB P N ru cb b) ds) {f t : Nat} (hf : f < P) (ht : t < P) (hps : psB P N ru cb al a f t = true) (hw : ¬ oI (ds a) < 0) (hu : ¬ oI (ds (mv P N a f t)) < 0) : ¬ oI (ds (mv P N a f t)) < oI (ds a) - nI 1 := by
  rw [oI_neg (srD_lt h hPN _)] at hw hu
  cases e : ds a with
  | none => exact absurd e hw
  | some w =>
    cases e2 : ds (mv P N a f t) with
    | none => exact absurd e2 hu
    | some u =>
      have h1 := srD_le hP hb h hf ht e hps e2
      have b1 := (h.1 _ _ e).2
      have b2 := (h.1 _ _ e2).2
      show ¬ nI u < nI w - nI 1
      cases w with
      | zero =>
        rw [show nI 0 - nI 1 = -1 by decide, i32_lt, nI_toInt (by omega), show (-1 : Int32).toInt = -1 by decide]
        omega
      | succ w => rw [nI_pr, nI_ltI (by omega) (by omega)]; omega
end WT
theorem lost_eq (m : Nat) (W B S : Int32) : nI (m + 1) + B - S = nI m + W - S + nI 1 + B - W := by
  rw [← nI_add]
  generalize nI m = M
  generalize nI 1 = O
  grind
theorem srF_pos {M P : Nat} {nb : nb_T} {o : Nat} {law : Bool} {fo : Nat} {ds : Nat → Option Nat} (h : srF M P nb o law fo ds) : (law = true ∧ 0 < fo ∧ fo ≤ M) ∨ (law = false ∧ fo = 0) := by
  rcases h with ⟨h1, q, I⟩ | ⟨h1, h2, -⟩
  · exact Or.inl ⟨h1, I.1.2, bf_le I⟩
  · exact Or.inr ⟨h1, h2⟩
theorem srF_one {M P : Nat} {nb : nb_T} {o : Nat} {law : Bool} {fo fo2 : Nat} {ds ds2 : Nat → Option Nat} (h : srF M P nb o law fo ds) (h2 : srF M P nb o law fo2 ds2) : fo = fo2 := by
  rcases h with ⟨h1, q, I⟩ | ⟨h1, e1, -⟩ <;> rcases h2 with ⟨h3, q2, I2⟩ | ⟨h3, e2, -⟩
  · have e := isDs_one (bf_end I) (bf_end I2)
    exact Nat.le_antisymm (bf_cnt I I2 (fun y hy => by rw [← e]; exact hy)) (bf_cnt I2 I (fun y hy => by rw [e]; exact hy))
  · rw [h1] at h3; cases h3
  · rw [h1] at h3; cases h3
  · rw [e1, e2]
end
section
theorem xW_IAE : Cond.castable "java/lang/IllegalArgumentException" "java/lang/IllegalArgumentException" ∈ xW := by decide +kernel
theorem xW_IOO : Cond.castable "java/lang/IndexOutOfBoundsException" "java/lang/IndexOutOfBoundsException" ∈ xW := by decide +kernel
theorem xW_ISE : Cond.castable "java/lang/IllegalStateException" "java/lang/IllegalStateException" ∈ xW := by decide +kernel
theorem x_ne1 : xISE ≠ xIOO := by decide +kernel
theorem x_ne2 : xIAE ≠ xIOO := by decide +kernel
def loI (x n : Int32) : Int32 := (x &&& 2147483647) - (x &&& 2147483647) / n * n
abbrev rm_L_low : Room := { frames := 0, cells := 0, slots := 0, locals := 0 }
set_option maxHeartbeats 4000000 in
set_option maxRecDepth 100000 in
theorem ct_L_low {l : Launch} {D : va_G} {Y : jy_T} {ad : Nat → Nat} {ws : va_W} {x y : Int32} (hy : ¬ y = 0) :
    MJ l yL_low cL_low 2 (some .int) rm_L_low D Y [.int x, .int y] ws (jI (fun r w => r = loI x y ∧ w = ws)) := by
  refine j_enter (by decide) (Nat.le_of_ble_eq_true rfl) (fun v hv => by simp only [List.mem_cons, List.not_mem_nil, or_false] at hv; rcases hv with rfl | rfl <;> rfl) (fun K hl hD hnm C R => ?_)
  subst hl; subst hD
  have C : jC cL_low RL Y rm_L_low 2 K := C
  have R : jR Y (some .int) 0 0 (jI (fun r w => r = loI x y ∧ w = ws)) K := R
  refine j_eq (lo' := [some (.int x), some (.int y)]) rfl rfl rfl ?_
  refine j_iload_n C dL_low_0 rfl ?_
  refine j_ldc C dL_low_1 wd_kL_7 ?_
  refine j_iand C dL_low_3 ?_
  refine j_iload_n C dL_low_4 rfl ?_
  refine j_irem C dL_low_5 hy ?_
  exact j_reti C R dL_low_6 ⟨rfl, rfl⟩
abbrev rm_L_cell : Room := { frames := 0, cells := 0, slots := 0, locals := 0 }
set_option maxHeartbeats 4000000 in
set_option maxRecDepth 100000 in
theorem ct_L_cell {l : Launch} {D : va_G} {Y : jy_T} {b L j : Nat} {xs : Nat → Int32} (hL : L < 2 ^ 31) (hj : j < 2 ^ 31) :
    MS l yL_cell cL_cell 2 (some .int) rm_L_cell D Y [.ref b, .int (nI j)] b L xs (jI (fun _ w => w = [])) := by
  refine j_enterS (by decide) (Nat.le_of_ble_eq_true rfl) (fun v hv => by simp only [List.mem_cons, List.not_mem_nil, or_false] at hv; rcases hv with rfl | rfl <;> rfl) (fun K hl hD C R hX hbl hbA => ?_)
  subst hl; subst hD
  have C : jC cL_cell RL Y rm_L_cell 2 K := C
  have R : jR Y (some .int) 0 0 (jI (fun _ w => w = [])) K := R
  refine j_eq (lo' := [some (.ref b), some (.int (nI j))]) rfl rfl rfl ?_
  refine j_iload_n C dL_cell_0 rfl ?_
  refine j_aload_n C dL_cell_1 rfl ?_
  refine j_slen C hX hbl hbA dL_cell_2 ?_
  refine jN_icmp_ge C 12 hj hL dL_cell_3 (by decide) (fun c => ?_) (fun c => ?_)
  · refine j_sipush C 7919 dL_cell_12 (by decide) ?_
    refine j_iload_n C dL_cell_15 rfl ?_
    refine j_sipush C 431 dL_cell_16 (by decide) ?_
    refine j_iadd C dL_cell_19 ?_
    refine j_imul C dL_cell_20 ?_
    refine j_iload_n C dL_cell_21 rfl ?_
    refine j_sipush C 1453 dL_cell_22 (by decide) ?_
    refine j_iadd C dL_cell_25 ?_
    refine j_imul C dL_cell_26 ?_
    exact j_reti C R dL_cell_27 rfl
  · refine j_aload_n C dL_cell_6 rfl ?_
    refine j_iload_n C dL_cell_7 rfl ?_
    refine j_sld C hX hbl hbA j rfl c hL dL_cell_8 ?_
    refine j_goto C 27 dL_cell_9 (by decide) ?_
    exact j_reti C R dL_cell_27 rfl
abbrev rm_L_begin : Room := { frames := 7, cells := 1, slots := 6, locals := 104 }
set_option maxHeartbeats 4000000 in
set_option maxRecDepth 100000 in
theorem ct_L_begin {l : Launch} {D : va_G} {Y : jy_T} {ad : Nat → Nat} {x : Int32} {y : Int32} {p n ru nw tg mc me : Int32} {we co al tr to fa se qu sp : Nat → Int32} {P : Int32 → va_W → Prop} {Pex : String → va_W → Prop} (hM : MX l yX0_begin cX0_begin 3 (some .int) rm_X0_begin D Y [.ref (ad 0), .int x, .int y] (wA Y ad p n ru nw tg mc me we co al tr to fa se qu sp) (jI P) Pex) (hE : ∀ E w, Pex E w → E = xIAE) :
    MW l yL_begin cL_begin 4 (some .int) [(0, 6, 7, 14)] rm_L_begin D Y [.ref (ad 0), .int x, .int y] (wA Y ad p n ru nw tg mc me we co al tr to fa se qu sp) (jI (fun r w => (∃ v, r = v ∧ P v w) ∨ (∃ E, r = (-99999) ∧ Pex E w))) := by
  refine j_enterW (by decide) (Nat.le_of_ble_eq_true rfl) (fun v hv => by simp only [List.mem_cons, List.not_mem_nil, or_false] at hv; rcases hv with rfl | rfl | rfl <;> rfl) (fun K hl2 hD C R X tb => ?_)
  subst hl2; subst hD
  have C : jC cL_begin RL Y rm_L_begin 4 K := C
  have R : jR Y (some .int) 1 6 (jI (fun r w => (∃ v, r = v ∧ P v w) ∨ (∃ E, r = (-99999) ∧ Pex E w))) K := R
  refine j_eq (lo' := [some (.ref (ad 0)), some (.int x), some (.int y), none]) rfl rfl rfl ?_
  refine j_aload_n C dL_begin_0 rfl ?_
  refine j_iload_n C dL_begin_1 rfl ?_
  refine j_iload_n C dL_begin_2 rfl ?_
  refine j_callVX (wr := []) (st := []) C X [.int x, .int y] [0, 1, 2, 3, 4, 5, 6, 7, 8, 9] [] hM rfl rfl rfl rfl (by decide) gw_L_8 nd_X0_begin 0 0 rfl rfl rfl ⟨by decide, by decide⟩ ⟨Nat.le_of_ble_eq_true rfl, Nat.le_of_ble_eq_true rfl⟩ (Nat.le_of_ble_eq_true rfl) dL_begin_3 rfl (fun r w1 hp => ?_) (fun E w1 hp => ?_)
  · obtain ⟨v, rfl, hp⟩ := hp
    refine j_eq (st' := [.int v]) (ws2 := w1) rfl rfl rfl ?_
    exact j_reti C R dL_begin_6 (Or.inl ⟨v, rfl, hp⟩)
  · have e := hE E w1 hp
    subst e
    refine j_catch C tb [] (0, 6, 7, 14) [] rfl (fun z hz => absurd hz List.not_mem_nil) ⟨by decide, by decide⟩ (by decide) wd_clL_14 (X.2.2.1 _ xW_IAE) (fun q => ?_)
    refine j_eq (ws2 := w1) rfl rfl rfl ?_
    refine j_astore_3 C dL_begin_7 (by decide) ?_
    refine j_ldc C dL_begin_8 wd_kL_16 ?_
    exact j_reti C R dL_begin_10 (Or.inr ⟨_, rfl, hp⟩)
abbrev rm_L_put : Room := { frames := 7, cells := 1, slots := 6, locals := 105 }
set_option maxHeartbeats 4000000 in
set_option maxRecDepth 100000 in
theorem ct_L_put {l : Launch} {D : va_G} {Y : jy_T} {ad : Nat → Nat} {x : Int32} {y : Int32} {p n ru nw tg mc me : Int32} {we co al tr to fa se qu sp : Nat → Int32} {P : Int32 → va_W → Prop} {Pex : String → va_W → Prop} (hM : MX l yX0_put cX0_put 4 (some .int) rm_X0_put D Y [.ref (ad 0), .int x, .int y] (wA Y ad p n ru nw tg mc me we co al tr to fa se qu sp) (jI P) Pex) (hE : ∀ E w, Pex E w → E = xIOO ∨ E = xISE) :
    MW l yL_put cL_put 4 (some .int) [(0, 6, 7, 20), (0, 6, 11, 22)] rm_L_put D Y [.ref (ad 0), .int x, .int y] (wA Y ad p n ru nw tg mc me we co al tr to fa se qu sp) (jI (fun r w => (∃ v, r = v ∧ P v w) ∨ (∃ E, r = (-99999) ∧ Pex E w))) := by
  refine j_enterW (by decide) (Nat.le_of_ble_eq_true rfl) (fun v hv => by simp only [List.mem_cons, List.not_mem_nil, or_false] at hv; rcases hv with rfl | rfl | rfl <;> rfl) (fun K hl2 hD C R X tb => ?_)
  subst hl2; subst hD
  have C : jC cL_put RL Y rm_L_put 4 K := C
  have R : jR Y (some .int) 1 6 (jI (fun r w => (∃ v, r = v ∧ P v w) ∨ (∃ E, r = (-99999) ∧ Pex E w))) K := R
  refine j_eq (lo' := [some (.ref (ad 0)), some (.int x), some (.int y), none]) rfl rfl rfl ?_
  refine j_aload_n C dL_put_0 rfl ?_
  refine j_iload_n C dL_put_1 rfl ?_
  refine j_iload_n C dL_put_2 rfl ?_
  refine j_callVX (wr := []) (st := []) C X [.int x, .int y] [0, 1, 2, 3, 4, 5, 6, 7, 8, 9] [] hM rfl rfl rfl rfl (by decide) gw_L_17 nd_X0_put 0 0 rfl rfl rfl ⟨by decide, by decide⟩ ⟨Nat.le_of_ble_eq_true rfl, Nat.le_of_ble_eq_true rfl⟩ (Nat.le_of_ble_eq_true rfl) dL_put_3 rfl (fun r w1 hp => ?_) (fun E w1 hp => ?_)
  · obtain ⟨v, rfl, hp⟩ := hp
    refine j_eq (st' := [.int v]) (ws2 := w1) rfl rfl rfl ?_
    exact j_reti C R dL_put_6 (Or.inl ⟨v, rfl, hp⟩)
  · rcases hE E w1 hp with rfl | rfl
    · refine j_catch C tb [] (0, 6, 7, 20) [(0, 6, 11, 22)] rfl (fun z hz => absurd hz List.not_mem_nil) ⟨by decide, by decide⟩ (by decide) wd_clL_20 (X.2.2.1 _ xW_IOO) (fun q => ?_)
      refine j_eq (ws2 := w1) rfl rfl rfl ?_
      refine j_astore_3 C dL_put_7 (by decide) ?_
      refine j_ldc C dL_put_8 wd_kL_16 ?_
      exact j_reti C R dL_put_10 (Or.inr ⟨_, rfl, hp⟩)
    · refine j_catch C tb [(0, 6, 7, 20)] (0, 6, 11, 22) [] rfl (fun z hz => by rw [List.mem_singleton.mp hz]; exact ⟨by decide, _, wd_clL_20, X.2.2.2.2 _ (List.mem_of_getElem? (i := 3) rfl)⟩) ⟨by decide, by decide⟩ (by decide) wd_clL_22 (X.2.2.1 _ xW_ISE) (fun q => ?_)
      refine j_eq (ws2 := w1) rfl rfl rfl ?_
      refine j_astore_3 C dL_put_11 (by decide) ?_
      refine j_ldc C dL_put_12 wd_kL_16 ?_
      exact j_reti C R dL_put_14 (Or.inr ⟨_, rfl, hp⟩)
abbrev rm_L_aim : Room := { frames := 7, cells := 1, slots := 6, locals := 105 }
set_option maxHeartbeats 4000000 in
set_option maxRecDepth 100000 in
theorem ct_L_aim {l : Launch} {D : va_G} {Y : jy_T} {ad : Nat → Nat} {x : Int32} {y : Int32} {p n ru nw tg mc me : Int32} {we co al tr to fa se qu sp : Nat → Int32} {P : Int32 → va_W → Prop} {Pex : String → va_W → Prop} (hM : MX l yX0_aim cX0_aim 4 (some .int) rm_X0_aim D Y [.ref (ad 0), .int x, .int y] (wA Y ad p n ru nw tg mc me we co al tr to fa se qu sp) (jI P) Pex) (hE : ∀ E w, Pex E w → E = xIOO) :
    MW l yL_aim cL_aim 4 (some .int) [(0, 6, 7, 20)] rm_L_aim D Y [.ref (ad 0), .int x, .int y] (wA Y ad p n ru nw tg mc me we co al tr to fa se qu sp) (jI (fun r w => (∃ v, r = v ∧ P v w) ∨ (∃ E, r = (-99999) ∧ Pex E w))) := by
  refine j_enterW (by decide) (Nat.le_of_ble_eq_true rfl) (fun v hv => by simp only [List.mem_cons, List.not_mem_nil, or_false] at hv; rcases hv with rfl | rfl | rfl <;> rfl) (fun K hl2 hD C R X tb => ?_)
  subst hl2; subst hD
  have C : jC cL_aim RL Y rm_L_aim 4 K := C
  have R : jR Y (some .int) 1 6 (jI (fun r w => (∃ v, r = v ∧ P v w) ∨ (∃ E, r = (-99999) ∧ Pex E w))) K := R
  refine j_eq (lo' := [some (.ref (ad 0)), some (.int x), some (.int y), none]) rfl rfl rfl ?_
  refine j_aload_n C dL_aim_0 rfl ?_
  refine j_iload_n C dL_aim_1 rfl ?_
  refine j_iload_n C dL_aim_2 rfl ?_
  refine j_callVX (wr := []) (st := []) C X [.int x, .int y] [0, 1, 2, 3, 4, 5, 6, 7, 8, 9] [] hM rfl rfl rfl rfl (by decide) gw_L_24 nd_X0_aim 0 0 rfl rfl rfl ⟨by decide, by decide⟩ ⟨Nat.le_of_ble_eq_true rfl, Nat.le_of_ble_eq_true rfl⟩ (Nat.le_of_ble_eq_true rfl) dL_aim_3 rfl (fun r w1 hp => ?_) (fun E w1 hp => ?_)
  · obtain ⟨v, rfl, hp⟩ := hp
    refine j_eq (st' := [.int v]) (ws2 := w1) rfl rfl rfl ?_
    exact j_reti C R dL_aim_6 (Or.inl ⟨v, rfl, hp⟩)
  · have e := hE E w1 hp
    subst e
    refine j_catch C tb [] (0, 6, 7, 20) [] rfl (fun z hz => absurd hz List.not_mem_nil) ⟨by decide, by decide⟩ (by decide) wd_clL_20 (X.2.2.1 _ xW_IOO) (fun q => ?_)
    refine j_eq (ws2 := w1) rfl rfl rfl ?_
    refine j_astore_3 C dL_aim_7 (by decide) ?_
    refine j_ldc C dL_aim_8 wd_kL_16 ?_
    exact j_reti C R dL_aim_10 (Or.inr ⟨_, rfl, hp⟩)
abbrev rm_L_allow : Room := { frames := 7, cells := 1, slots := 6, locals := 107 }
set_option maxHeartbeats 4000000 in
set_option maxRecDepth 100000 in
theorem ct_L_allow {l : Launch} {D : va_G} {Y : jy_T} {ad : Nat → Nat} {x : Int32} {y : Int32} {z : Bool} {p n ru nw tg mc me : Int32} {we co al tr to fa se qu sp : Nat → Int32} {P : Int32 → va_W → Prop} {Pex : String → va_W → Prop} (hM : MX l yX0_allow cX0_allow 6 (some .boolean) rm_X0_allow D Y [.ref (ad 0), .int x, .int y, .int (bi z)] (wA Y ad p n ru nw tg mc me we co al tr to fa se qu sp) (jI P) Pex) (hE : ∀ E w, Pex E w → E = xIOO ∨ E = xIAE) :
    MW l yL_allow cL_allow 5 (some .int) [(0, 15, 16, 20), (0, 15, 21, 14)] rm_L_allow D Y [.ref (ad 0), .int x, .int y, .int (bi z)] (wA Y ad p n ru nw tg mc me we co al tr to fa se qu sp) (jI (fun r w => (∃ v, r = (if v = 0 then nI 0 else nI 1) ∧ P v w) ∨ (∃ E, r = (-99999) ∧ Pex E w))) := by
  refine j_enterW (by decide) (Nat.le_of_ble_eq_true rfl) (fun v hv => by simp only [List.mem_cons, List.not_mem_nil, or_false] at hv; rcases hv with rfl | rfl | rfl | rfl <;> rfl) (fun K hl2 hD C R X tb => ?_)
  subst hl2; subst hD
  have C : jC cL_allow RL Y rm_L_allow 5 K := C
  have R : jR Y (some .int) 1 6 (jI (fun r w => (∃ v, r = (if v = 0 then nI 0 else nI 1) ∧ P v w) ∨ (∃ E, r = (-99999) ∧ Pex E w))) K := R
  refine j_eq (lo' := [some (.ref (ad 0)), some (.int x), some (.int y), some (.int (bi z)), none]) rfl rfl rfl ?_
  refine j_aload_n C dL_allow_0 rfl ?_
  refine j_iload_n C dL_allow_1 rfl ?_
  refine j_iload_n C dL_allow_2 rfl ?_
  refine j_iload_n C dL_allow_3 rfl ?_
  refine j_callVX (wr := []) (st := []) C X [.int x, .int y, .int (bi z)] [0, 1, 2, 3, 4, 5, 6, 7, 8, 9] [] hM rfl rfl rfl rfl (by decide) gw_L_27 nd_X0_allow 0 0 rfl rfl rfl ⟨by decide, by decide⟩ ⟨Nat.le_of_ble_eq_true rfl, Nat.le_of_ble_eq_true rfl⟩ (Nat.le_of_ble_eq_true rfl) dL_allow_4 rfl (fun r w1 hp => ?_) (fun E w1 hp => ?_)
  · obtain ⟨v, rfl, hp⟩ := hp
    refine j_eq (st' := [.int v]) (ws2 := w1) rfl rfl rfl ?_
    refine j_if_eq C 14 dL_allow_7 (by decide) (fun c => ?_) (fun c => ?_)
    · refine j_iconst C (nI 0) dL_allow_14 (by decide) ?_
      exact j_reti C R dL_allow_15 (Or.inl ⟨v, by rw [if_pos c], hp⟩)
    · refine j_iconst C (nI 1) dL_allow_10 (by decide) ?_
      refine j_goto C 15 dL_allow_11 (by decide) ?_
      exact j_reti C R dL_allow_15 (Or.inl ⟨v, by rw [if_neg c], hp⟩)
  · rcases hE E w1 hp with rfl | rfl
    · refine j_catch C tb [] (0, 15, 16, 20) [(0, 15, 21, 14)] rfl (fun z hz => absurd hz List.not_mem_nil) ⟨by decide, by decide⟩ (by decide) wd_clL_20 (X.2.2.1 _ xW_IOO) (fun q => ?_)
      refine j_eq (ws2 := w1) rfl rfl rfl ?_
      refine j_astore_4 C dL_allow_16 (by decide) ?_
      refine j_ldc C dL_allow_18 wd_kL_16 ?_
      exact j_reti C R dL_allow_20 (Or.inr ⟨_, rfl, hp⟩)
    · refine j_catch C tb [(0, 15, 16, 20)] (0, 15, 21, 14) [] rfl (fun z hz => by rw [List.mem_singleton.mp hz]; exact ⟨by decide, _, wd_clL_20, X.2.2.2.2 _ (List.mem_of_getElem? (i := 1) rfl)⟩) ⟨by decide, by decide⟩ (by decide) wd_clL_14 (X.2.2.1 _ xW_IAE) (fun q => ?_)
      refine j_eq (ws2 := w1) rfl rfl rfl ?_
      refine j_astore_4 C dL_allow_21 (by decide) ?_
      refine j_ldc C dL_allow_23 wd_kL_16 ?_
      exact j_reti C R dL_allow_25 (Or.inr ⟨_, rfl, hp⟩)
abbrev rm_L_setColour : Room := { frames := 7, cells := 1, slots := 6, locals := 105 }
set_option maxHeartbeats 4000000 in
set_option maxRecDepth 100000 in
theorem ct_L_setColour {l : Launch} {D : va_G} {Y : jy_T} {ad : Nat → Nat} {x : Int32} {y : Int32} {p n ru nw tg mc me : Int32} {we co al tr to fa se qu sp : Nat → Int32} {P : Int32 → va_W → Prop} {Pex : String → va_W → Prop} (hM : MX l yX0_setColour cX0_setColour 4 (some .int) rm_X0_setColour D Y [.ref (ad 0), .int x, .int y] (wA Y ad p n ru nw tg mc me we co al tr to fa se qu sp) (jI P) Pex) (hE : ∀ E w, Pex E w → E = xIOO ∨ E = xIAE) :
    MW l yL_setColour cL_setColour 4 (some .int) [(0, 6, 7, 20), (0, 6, 11, 14)] rm_L_setColour D Y [.ref (ad 0), .int x, .int y] (wA Y ad p n ru nw tg mc me we co al tr to fa se qu sp) (jI (fun r w => (∃ v, r = v ∧ P v w) ∨ (∃ E, r = (-99999) ∧ Pex E w))) := by
  refine j_enterW (by decide) (Nat.le_of_ble_eq_true rfl) (fun v hv => by simp only [List.mem_cons, List.not_mem_nil, or_false] at hv; rcases hv with rfl | rfl | rfl <;> rfl) (fun K hl2 hD C R X tb => ?_)
  subst hl2; subst hD
  have C : jC cL_setColour RL Y rm_L_setColour 4 K := C
  have R : jR Y (some .int) 1 6 (jI (fun r w => (∃ v, r = v ∧ P v w) ∨ (∃ E, r = (-99999) ∧ Pex E w))) K := R
  refine j_eq (lo' := [some (.ref (ad 0)), some (.int x), some (.int y), none]) rfl rfl rfl ?_
  refine j_aload_n C dL_setColour_0 rfl ?_
  refine j_iload_n C dL_setColour_1 rfl ?_
  refine j_iload_n C dL_setColour_2 rfl ?_
  refine j_callVX (wr := []) (st := []) C X [.int x, .int y] [0, 1, 2, 3, 4, 5, 6, 7, 8, 9] [] hM rfl rfl rfl rfl (by decide) gw_L_31 nd_X0_setColour 0 0 rfl rfl rfl ⟨by decide, by decide⟩ ⟨Nat.le_of_ble_eq_true rfl, Nat.le_of_ble_eq_true rfl⟩ (Nat.le_of_ble_eq_true rfl) dL_setColour_3 rfl (fun r w1 hp => ?_) (fun E w1 hp => ?_)
  · obtain ⟨v, rfl, hp⟩ := hp
    refine j_eq (st' := [.int v]) (ws2 := w1) rfl rfl rfl ?_
    exact j_reti C R dL_setColour_6 (Or.inl ⟨v, rfl, hp⟩)
  · rcases hE E w1 hp with rfl | rfl
    · refine j_catch C tb [] (0, 6, 7, 20) [(0, 6, 11, 14)] rfl (fun z hz => absurd hz List.not_mem_nil) ⟨by decide, by decide⟩ (by decide) wd_clL_20 (X.2.2.1 _ xW_IOO) (fun q => ?_)
      refine j_eq (ws2 := w1) rfl rfl rfl ?_
      refine j_astore_3 C dL_setColour_7 (by decide) ?_
      refine j_ldc C dL_setColour_8 wd_kL_16 ?_
      exact j_reti C R dL_setColour_10 (Or.inr ⟨_, rfl, hp⟩)
    · refine j_catch C tb [(0, 6, 7, 20)] (0, 6, 11, 14) [] rfl (fun z hz => by rw [List.mem_singleton.mp hz]; exact ⟨by decide, _, wd_clL_20, X.2.2.2.2 _ (List.mem_of_getElem? (i := 1) rfl)⟩) ⟨by decide, by decide⟩ (by decide) wd_clL_14 (X.2.2.1 _ xW_IAE) (fun q => ?_)
      refine j_eq (ws2 := w1) rfl rfl rfl ?_
      refine j_astore_3 C dL_setColour_11 (by decide) ?_
      refine j_ldc C dL_setColour_12 wd_kL_16 ?_
      exact j_reti C R dL_setColour_14 (Or.inr ⟨_, rfl, hp⟩)
abbrev rm_L_move : Room := { frames := 7, cells := 1, slots := 6, locals := 114 }
set_option maxHeartbeats 4000000 in
set_option maxRecDepth 100000 in
theorem ct_L_move {l : Launch} {D : va_G} {Y : jy_T} {ad : Nat → Nat} {x : Int32} {y : Int32} {p n ru nw tg mc me : Int32} {we co al tr to fa se qu sp : Nat → Int32} {P : Int32 → va_W → Prop} {Pex : String → va_W → Prop} (hM : MX l yX0_move cX0_move 4 (some .int) rm_X0_move D Y [.ref (ad 0), .int x, .int y] (wA Y ad p n ru nw tg mc me we co al tr to fa se qu sp) (jI P) Pex) (hE : ∀ E w, Pex E w → E = xIOO ∨ E = xISE) :
    MW l yL_move cL_move 4 (some .int) [(0, 6, 7, 20), (0, 6, 11, 22)] rm_L_move D Y [.ref (ad 0), .int x, .int y] (wA Y ad p n ru nw tg mc me we co al tr to fa se qu sp) (jI (fun r w => (∃ v, r = v ∧ P v w) ∨ (∃ E, r = (-99999) ∧ Pex E w))) := by
  refine j_enterW (by decide) (Nat.le_of_ble_eq_true rfl) (fun v hv => by simp only [List.mem_cons, List.not_mem_nil, or_false] at hv; rcases hv with rfl | rfl | rfl <;> rfl) (fun K hl2 hD C R X tb => ?_)
  subst hl2; subst hD
  have C : jC cL_move RL Y rm_L_move 4 K := C
  have R : jR Y (some .int) 1 6 (jI (fun r w => (∃ v, r = v ∧ P v w) ∨ (∃ E, r = (-99999) ∧ Pex E w))) K := R
  refine j_eq (lo' := [some (.ref (ad 0)), some (.int x), some (.int y), none]) rfl rfl rfl ?_
  refine j_aload_n C dL_move_0 rfl ?_
  refine j_iload_n C dL_move_1 rfl ?_
  refine j_iload_n C dL_move_2 rfl ?_
  refine j_callVX (wr := []) (st := []) C X [.int x, .int y] [0, 1, 2, 3, 4, 5, 6, 7, 8, 9] [] hM rfl rfl rfl rfl (by decide) gw_L_34 nd_X0_move 0 0 rfl rfl rfl ⟨by decide, by decide⟩ ⟨Nat.le_of_ble_eq_true rfl, Nat.le_of_ble_eq_true rfl⟩ (Nat.le_of_ble_eq_true rfl) dL_move_3 rfl (fun r w1 hp => ?_) (fun E w1 hp => ?_)
  · obtain ⟨v, rfl, hp⟩ := hp
    refine j_eq (st' := [.int v]) (ws2 := w1) rfl rfl rfl ?_
    exact j_reti C R dL_move_6 (Or.inl ⟨v, rfl, hp⟩)
  · rcases hE E w1 hp with rfl | rfl
    · refine j_catch C tb [] (0, 6, 7, 20) [(0, 6, 11, 22)] rfl (fun z hz => absurd hz List.not_mem_nil) ⟨by decide, by decide⟩ (by decide) wd_clL_20 (X.2.2.1 _ xW_IOO) (fun q => ?_)
      refine j_eq (ws2 := w1) rfl rfl rfl ?_
      refine j_astore_3 C dL_move_7 (by decide) ?_
      refine j_ldc C dL_move_8 wd_kL_16 ?_
      exact j_reti C R dL_move_10 (Or.inr ⟨_, rfl, hp⟩)
    · refine j_catch C tb [(0, 6, 7, 20)] (0, 6, 11, 22) [] rfl (fun z hz => by rw [List.mem_singleton.mp hz]; exact ⟨by decide, _, wd_clL_20, X.2.2.2.2 _ (List.mem_of_getElem? (i := 3) rfl)⟩) ⟨by decide, by decide⟩ (by decide) wd_clL_22 (X.2.2.1 _ xW_ISE) (fun q => ?_)
      refine j_eq (ws2 := w1) rfl rfl rfl ?_
      refine j_astore_3 C dL_move_11 (by decide) ?_
      refine j_ldc C dL_move_12 wd_kL_16 ?_
      exact j_reti C R dL_move_14 (Or.inr ⟨_, rfl, hp⟩)
abbrev rm_L_takeBack : Room := { frames := 7, cells := 1, slots := 6, locals := 102 }
set_option maxHeartbeats 4000000 in
set_option maxRecDepth 100000 in
theorem ct_L_takeBack {l : Launch} {D : va_G} {Y : jy_T} {ad : Nat → Nat}  {p n ru nw tg mc me : Int32} {we co al tr to fa se qu sp : Nat → Int32} {P : Int32 → va_W → Prop} {Pex : String → va_W → Prop} (hM : MX l yX0_takeBack cX0_takeBack 1 (some .int) rm_X0_takeBack D Y [.ref (ad 0)] (wA Y ad p n ru nw tg mc me we co al tr to fa se qu sp) (jI P) Pex) (hE : ∀ E w, Pex E w → E = xISE) :
    MW l yL_takeBack cL_takeBack 2 (some .int) [(0, 4, 5, 22)] rm_L_takeBack D Y [.ref (ad 0)] (wA Y ad p n ru nw tg mc me we co al tr to fa se qu sp) (jI (fun r w => (∃ v, r = v ∧ P v w) ∨ (∃ E, r = (-99999) ∧ Pex E w))) := by
  refine j_enterW (by decide) (Nat.le_of_ble_eq_true rfl) (fun v hv => by rw [List.mem_singleton.mp hv]; rfl) (fun K hl2 hD C R X tb => ?_)
  subst hl2; subst hD
  have C : jC cL_takeBack RL Y rm_L_takeBack 2 K := C
  have R : jR Y (some .int) 1 6 (jI (fun r w => (∃ v, r = v ∧ P v w) ∨ (∃ E, r = (-99999) ∧ Pex E w))) K := R
  refine j_eq (lo' := [some (.ref (ad 0)), none]) rfl rfl rfl ?_
  refine j_aload_n C dL_takeBack_0 rfl ?_
  refine j_callVX (wr := []) (st := []) C X [] [0, 1, 2, 3, 4, 5, 6, 7, 8, 9] [] hM rfl rfl rfl rfl (by decide) gw_L_37 nd_X0_takeBack 0 0 rfl rfl rfl ⟨by decide, by decide⟩ ⟨Nat.le_of_ble_eq_true rfl, Nat.le_of_ble_eq_true rfl⟩ (Nat.le_of_ble_eq_true rfl) dL_takeBack_1 rfl (fun r w1 hp => ?_) (fun E w1 hp => ?_)
  · obtain ⟨v, rfl, hp⟩ := hp
    refine j_eq (st' := [.int v]) (ws2 := w1) rfl rfl rfl ?_
    exact j_reti C R dL_takeBack_4 (Or.inl ⟨v, rfl, hp⟩)
  · have e := hE E w1 hp
    subst e
    refine j_catch C tb [] (0, 4, 5, 22) [] rfl (fun z hz => absurd hz List.not_mem_nil) ⟨by decide, by decide⟩ (by decide) wd_clL_22 (X.2.2.1 _ xW_ISE) (fun q => ?_)
    refine j_eq (ws2 := w1) rfl rfl rfl ?_
    refine j_astore_1 C dL_takeBack_5 (by decide) ?_
    refine j_ldc C dL_takeBack_6 wd_kL_16 ?_
    exact j_reti C R dL_takeBack_8 (Or.inr ⟨_, rfl, hp⟩)
abbrev rm_L_wayByDisks : Room := { frames := 7, cells := 1, slots := 6, locals := 108 }
set_option maxHeartbeats 4000000 in
set_option maxRecDepth 100000 in
theorem ct_L_wayByDisks {l : Launch} {D : va_G} {Y : jy_T} {ad : Nat → Nat}  {p n ru nw tg mc me : Int32} {we co al tr to fa se qu sp : Nat → Int32} {P : Int32 → va_W → Prop} {Pex : String → va_W → Prop} (hM : MX l yX0_wayByDisks cX0_wayByDisks 7 (some .int) rm_X0_wayByDisks D Y [.ref (ad 0)] (wA Y ad p n ru nw tg mc me we co al tr to fa se qu sp) (jI P) Pex) (hE : ∀ E w, Pex E w → E = xISE) :
    MW l yL_wayByDisks cL_wayByDisks 2 (some .int) [(0, 4, 5, 22)] rm_L_wayByDisks D Y [.ref (ad 0)] (wA Y ad p n ru nw tg mc me we co al tr to fa se qu sp) (jI (fun r w => (∃ v, r = v ∧ P v w) ∨ (∃ E, r = (-1) ∧ Pex E w))) := by
  refine j_enterW (by decide) (Nat.le_of_ble_eq_true rfl) (fun v hv => by rw [List.mem_singleton.mp hv]; rfl) (fun K hl2 hD C R X tb => ?_)
  subst hl2; subst hD
  have C : jC cL_wayByDisks RL Y rm_L_wayByDisks 2 K := C
  have R : jR Y (some .int) 1 6 (jI (fun r w => (∃ v, r = v ∧ P v w) ∨ (∃ E, r = (-1) ∧ Pex E w))) K := R
  refine j_eq (lo' := [some (.ref (ad 0)), none]) rfl rfl rfl ?_
  refine j_aload_n C dL_wayByDisks_0 rfl ?_
  refine j_callVX (wr := []) (st := []) C X [] [0, 1, 2, 3, 4, 5, 6, 7, 8, 9] [] hM rfl rfl rfl rfl (by decide) gw_L_44 nd_X0_wayByDisks 0 0 rfl rfl rfl ⟨by decide, by decide⟩ ⟨Nat.le_of_ble_eq_true rfl, Nat.le_of_ble_eq_true rfl⟩ (Nat.le_of_ble_eq_true rfl) dL_wayByDisks_1 rfl (fun r w1 hp => ?_) (fun E w1 hp => ?_)
  · obtain ⟨v, rfl, hp⟩ := hp
    refine j_eq (st' := [.int v]) (ws2 := w1) rfl rfl rfl ?_
    exact j_reti C R dL_wayByDisks_4 (Or.inl ⟨v, rfl, hp⟩)
  · have e := hE E w1 hp
    subst e
    refine j_catch C tb [] (0, 4, 5, 22) [] rfl (fun z hz => absurd hz List.not_mem_nil) ⟨by decide, by decide⟩ (by decide) wd_clL_22 (X.2.2.1 _ xW_ISE) (fun q => ?_)
    refine j_eq (ws2 := w1) rfl rfl rfl ?_
    refine j_astore_1 C dL_wayByDisks_5 (by decide) ?_
    refine j_iconst C (-1) dL_wayByDisks_6 (by decide) ?_
    exact j_reti C R dL_wayByDisks_7 (Or.inr ⟨_, rfl, hp⟩)
abbrev rm_L_lost : Room := { frames := 7, cells := 1, slots := 6, locals := 144 }
set_option maxHeartbeats 4000000 in
set_option maxRecDepth 100000 in
theorem ct_L_lost {l : Launch} {D : va_G} {Y : jy_T} {ad : Nat → Nat}  {p n ru nw tg mc me : Int32} {we co al tr to fa se qu sp : Nat → Int32} {P : Int32 → va_W → Prop} {Pex : String → va_W → Prop} (hM : MX l yX0_lost cX0_lost 3 (some .int) rm_X0_lost D Y [.ref (ad 0)] (wA Y ad p n ru nw tg mc me we co al tr to fa se qu sp) (jI P) Pex) (hE : ∀ E w, Pex E w → E = xISE) :
    MW l yL_lost cL_lost 2 (some .int) [(0, 4, 5, 22)] rm_L_lost D Y [.ref (ad 0)] (wA Y ad p n ru nw tg mc me we co al tr to fa se qu sp) (jI (fun r w => (∃ v, r = v ∧ P v w) ∨ (∃ E, r = (-99999) ∧ Pex E w))) := by
  refine j_enterW (by decide) (Nat.le_of_ble_eq_true rfl) (fun v hv => by rw [List.mem_singleton.mp hv]; rfl) (fun K hl2 hD C R X tb => ?_)
  subst hl2; subst hD
  have C : jC cL_lost RL Y rm_L_lost 2 K := C
  have R : jR Y (some .int) 1 6 (jI (fun r w => (∃ v, r = v ∧ P v w) ∨ (∃ E, r = (-99999) ∧ Pex E w))) K := R
  refine j_eq (lo' := [some (.ref (ad 0)), none]) rfl rfl rfl ?_
  refine j_aload_n C dL_lost_0 rfl ?_
  refine j_callVX (wr := []) (st := []) C X [] [0, 1, 2, 3, 4, 5, 6, 7, 8, 9] [] hM rfl rfl rfl rfl (by decide) gw_L_41 nd_X0_lost 0 0 rfl rfl rfl ⟨by decide, by decide⟩ ⟨Nat.le_of_ble_eq_true rfl, Nat.le_of_ble_eq_true rfl⟩ (Nat.le_of_ble_eq_true rfl) dL_lost_1 rfl (fun r w1 hp => ?_) (fun E w1 hp => ?_)
  · obtain ⟨v, rfl, hp⟩ := hp
    refine j_eq (st' := [.int v]) (ws2 := w1) rfl rfl rfl ?_
    exact j_reti C R dL_lost_4 (Or.inl ⟨v, rfl, hp⟩)
  · have e := hE E w1 hp
    subst e
    refine j_catch C tb [] (0, 4, 5, 22) [] rfl (fun z hz => absurd hz List.not_mem_nil) ⟨by decide, by decide⟩ (by decide) wd_clL_22 (X.2.2.1 _ xW_ISE) (fun q => ?_)
    refine j_eq (ws2 := w1) rfl rfl rfl ?_
    refine j_astore_1 C dL_lost_5 (by decide) ?_
    refine j_ldc C dL_lost_6 wd_kL_16 ?_
    exact j_reti C R dL_lost_8 (Or.inr ⟨_, rfl, hp⟩)
end
section
/-! a bench: its state, its world, what its calls do -/
abbrev sT : Type := Nat × Nat × Nat × Nat × Nat × Bool × (Nat → Bool) × (Nat → Bool) × (Nat → Nat)
abbrev sP (s : sT) : Nat := s.1
abbrev sN (s : sT) : Nat := s.2.1
abbrev sA (s : sT) : Nat := s.2.2.1
abbrev sB (s : sT) : Nat := s.2.2.2.1
abbrev sM (s : sT) : Nat := s.2.2.2.2.1
abbrev sRu (s : sT) : Bool := s.2.2.2.2.2.1
abbrev sCb (s : sT) : Nat → Bool := s.2.2.2.2.2.2.1
abbrev sAl (s : sT) : Nat → Bool := s.2.2.2.2.2.2.2.1
abbrev sTr (s : sT) : Nat → Nat := s.2.2.2.2.2.2.2.2
def GD (s : sT) : Prop := cfg (sP s) (sN s) ∧ sA s < sP s ^ sN s ∧ sB s < sP s ^ sN s ∧ sM s ≤ 500 ∧ ∀ k, k < sM s → sTr s k < sP s ^ sN s
def bw (Y : jy_T) (ad : Nat → Nat) (s : sT) (tr : Nat → Nat) (me : Bool) (to fa se qu : Nat → Int32) : va_W :=
  wA Y ad (nI (sP s)) (nI (sN s)) (bi (sRu s)) (nI (sA s)) (nI (sB s)) (nI (sM s)) (bi me) (fun d => nI (sP s ^ d)) (fun d => bi (sCb s d)) (fun k => bi (sAl s k)) (fun k => nI (tr k)) to fa se qu (fun i => nI (spT i))
/-- what a bench holds beside its state: the rows of the search, and old moves -/
def Hd (s : sT) (tr : Nat → Nat) (me : Bool) (fa : Nat → Int32) : Prop :=
  (me = true → farOk (sP s) (sN s) (sRu s) (sCb s) (sAl s) (sB s) fa) ∧ ∀ k, k < sM s → tr k = sTr s k
def Bw (Y : jy_T) (ad : Nat → Nat) (s : sT) (w : va_W) : Prop := ∃ (tr : Nat → Nat) (me : Bool) (to fa se qu : Nat → Int32), Hd s tr me fa ∧ w = bw Y ad s tr me to fa se qu
theorem Bw.of {Y : jy_T} {ad : Nat → Nat} {s : sT} {tr : Nat → Nat} {me : Bool} {to fa se qu : Nat → Int32} (H : Hd s tr me fa) : Bw Y ad s (bw Y ad s tr me to fa se qu) := ⟨tr, me, to, fa, se, qu, H, rfl⟩
def WY (s : sT) (ds : Nat → Option Nat) : Prop := srD (sP s ^ sN s) (sP s) (nbC (sP s) (sN s) (sRu s) (sCb s) (sAl s) true) (sB s) (lawB (sP s) (sN s) (sRu s) (sCb s) (sB s)) ds
def RC (s : sT) (fo : Nat) : Prop := ∃ ds, srF (sP s ^ sN s) (sP s) (nbC (sP s) (sN s) (sRu s) (sCb s) (sAl s) false) (sA s) (lawB (sP s) (sN s) (sRu s) (sCb s) (sA s)) fo ds
def sPs (s : sT) (f t : Nat) : Bool := psB (sP s) (sN s) (sRu s) (sCb s) (sAl s) (sA s) f t
def sLw (s : sT) : Bool := lawB (sP s) (sN s) (sRu s) (sCb s) (sA s)
def sTp (s : sT) (g : Nat) : Option Nat := tp (sP s) (sN s) (sA s) g
def sDg (s : sT) (d : Nat) : Nat := dg (sP s) (sA s) d
def sMv (s : sT) (f t : Nat) : sT := (sP s, sN s, mv (sP s) (sN s) (sA s) f t, sB s, sM s + 1, sRu s, sCb s, sAl s, updN (sTr s) (sM s) (sA s))
def sBk (s : sT) : sT := (sP s, sN s, sTr s (sM s - 1), sB s, sM s - 1, sRu s, sCb s, sAl s, sTr s)
theorem GD.P0 {s : sT} (G : GD s) : 0 < sP s := by have := G.1.1; omega
theorem GD.P5 {s : sT} (G : GD s) : sP s ≤ 5 := G.1.2.1
theorem GD.N6 {s : sT} (G : GD s) : sN s ≤ 6 := G.1.2.2.2
theorem GD.M {s : sT} (G : GD s) : sP s ^ sN s ≤ 15625 := cfg_pw G.1 G.N6
theorem GD.mv {s : sT} {f t : Nat} (G : GD s) (ht : t < sP s) (hm : sM s < 500) : GD (sMv s f t) := by
  obtain ⟨h1, h2, h3, h4, h5⟩ := id G
  refine ⟨h1, mv_lt G.P0 h2 ht, h3, hm, fun k hk => ?_⟩
  show updN (sTr s) (sM s) (sA s) k < _
  by_cases e : k = sM s
  · rw [e, updN_s]; exact h2
  · rw [updN_n e]; exact h5 k (by have : k < sM s + 1 := hk; omega)
theorem GD.bk {s : sT} (G : GD s) (hm : 0 < sM s) : GD (sBk s) := by
  obtain ⟨h1, h2, h3, h4, h5⟩ := id G
  exact ⟨h1, h5 _ (by omega), h3, (by show sM s - 1 ≤ 500; omega), fun k hk => h5 k (by have : k < sM s - 1 := hk; omega)⟩
/-- a move taken back -/
theorem Bw.back {Y : jy_T} {ad : Nat → Nat} {s : sT} {f t : Nat} {w : va_W} (h : Bw Y ad (sBk (sMv s f t)) w) : Bw Y ad s w := by
  obtain ⟨tr, me, to, fa, se, qu, H, rfl⟩ := h
  refine ⟨tr, me, to, fa, se, qu, ⟨H.1, fun k hk => ?_⟩, ?_⟩
  · have h2 := H.2 k (show k < sM s + 1 - 1 by omega)
    rw [h2]
    exact updN_n (by omega)
  · show bw Y ad (sP s, sN s, updN (sTr s) (sM s) (sA s) (sM s + 1 - 1), sB s, sM s + 1 - 1, sRu s, sCb s, sAl s, _) tr me to fa se qu = _
    rw [Nat.add_sub_cancel, updN_s]; rfl
theorem stA_eq {s : sT} {tr : Nat → Nat} (h : ∀ k, k < sM s → tr k = sTr s k) : stA (sM s) tr (sA s) = stA (sM s) (sTr s) (sA s) := by
  unfold stA
  split
  · rw [h 0 (by assumption)]
  · rfl
/-- the start stays by a move -/
theorem stA_mv {s : sT} {f t : Nat} : stA (sM (sMv s f t)) (sTr (sMv s f t)) (sA (sMv s f t)) = stA (sM s) (sTr s) (sA s) := by
  show (if 0 < sM s + 1 then updN (sTr s) (sM s) (sA s) 0 else _) = (if 0 < sM s then sTr s 0 else sA s)
  rw [if_pos (by omega)]
  by_cases e : sM s = 0
  · rw [if_neg (by omega), e, updN_s]
  · rw [if_pos (by omega), updN_n (by omega)]
theorem nIj {i j n : Nat} (h : nI i = nI j) (hi : i < n) (hj : j < n) (hn : n ≤ 2 ^ 31) : j = i := ((nI_eq (by omega) (by omega)).mp h).symm
theorem in2_no {P N i j : Nat} (hi : i < N) (hj : j < P) (hN : N < 2 ^ 31) (hP : P < 2 ^ 31) (h : (inr (nI i) N && inr (nI j) P) = false) : False := by
  rw [inr_lt hi hN, inr_lt hj hP] at h; cases h
section BZ
variable {l : Launch} {D : va_G} {Y : jy_T} {ad : Nat → Nat} {s : sT} {tr : Nat → Nat} {me : Bool} {to fa se qu : Nat → Int32}
theorem bz_pegs : MZ l yX0_pegs cX0_pegs 1 (some .int) rm_X0_pegs D Y [.ref (ad 0)] (bw Y ad s tr me to fa se qu) (jI (fun r w => r = nI (sP s) ∧ w = bw Y ad s tr me to fa se qu)) :=
  MZ.ofJ (fun _ _ h => h) ct_X0_pegs
theorem bz_disks : MZ l yX0_disks cX0_disks 1 (some .int) rm_X0_disks D Y [.ref (ad 0)] (bw Y ad s tr me to fa se qu) (jI (fun r w => r = nI (sN s) ∧ w = bw Y ad s tr me to fa se qu)) :=
  MZ.ofJ (fun _ _ h => h) ct_X0_disks
theorem bz_moves : MZ l yX0_moves cX0_moves 1 (some .int) rm_X0_moves D Y [.ref (ad 0)] (bw Y ad s tr me to fa se qu) (jI (fun r w => r = nI (sM s) ∧ w = bw Y ad s tr me to fa se qu)) :=
  MZ.ofJ (fun _ _ h => h) ct_X0_moves
theorem bz_arrangement : MZ l yX0_arrangement cX0_arrangement 1 (some .int) rm_X0_arrangement D Y [.ref (ad 0)] (bw Y ad s tr me to fa se qu) (jI (fun r w => r = nI (sA s) ∧ w = bw Y ad s tr me to fa se qu)) :=
  MZ.ofJ (fun _ _ h => h) ct_X0_arrangement
theorem bz_goal : MZ l yX0_goal cX0_goal 1 (some .int) rm_X0_goal D Y [.ref (ad 0)] (bw Y ad s tr me to fa se qu) (jI (fun r w => r = nI (sB s) ∧ w = bw Y ad s tr me to fa se qu)) :=
  MZ.ofJ (fun _ _ h => h) ct_X0_goal
theorem bz_isLawful (G : GD s) : MZ l yX0_isLawful cX0_isLawful 1 (some .boolean) rm_X0_isLawful D Y [.ref (ad 0)] (bw Y ad s tr me to fa se qu) (jI (fun r w => r = bi (sLw s) ∧ w = bw Y ad s tr me to fa se qu)) :=
  MZ.ofJ (fun _ _ h => h) (ct_X0_isLawful G.1 G.2.1)
theorem bz_way (G : GD s) (H : Hd s tr me fa) : MZ l yX0_way cX0_way 1 (some .int) rm_X0_way D Y [.ref (ad 0)] (bw Y ad s tr me to fa se qu) (jI (fun r w => ∃ ds, WY s ds ∧ r = oI (ds (sA s)) ∧ Bw Y ad s w)) :=
  MZ.ofJ (fun r w h => by
    obtain ⟨x, rfl, ds1, fa1, qu1, to1, rfl, h1, h2, rfl⟩ := h
    exact ⟨_, rfl, ds1, h1, rfl, tr, true, to1, fa1, se, qu1, ⟨fun _ => ⟨ds1, h1, h2⟩, H.2⟩, rfl⟩) (ct_X0_way G.1 G.2.1 G.2.2.1 H.1)
theorem bz_next (G : GD s) (H : Hd s tr me fa) : MZ l yX0_next cX0_next 4 (some .int) rm_X0_next D Y [.ref (ad 0)] (bw Y ad s tr me to fa se qu) (jI (fun r w => ∃ ds, WY s ds ∧ r = nxC (sP s) (sN s) (sRu s) (sCb s) (sAl s) ds (sA s) ∧ Bw Y ad s w)) :=
  MZ.ofJ (fun r w h => by
    obtain ⟨x, rfl, ds1, fa1, qu1, to1, rfl, h1, h2, rfl⟩ := h
    exact ⟨_, rfl, ds1, h1, rfl, tr, true, to1, fa1, se, qu1, ⟨fun _ => ⟨ds1, h1, h2⟩, H.2⟩, rfl⟩) (ct_X0_next G.1 G.2.1 G.2.2.1 H.1)
theorem bz_reachable (G : GD s) (H : Hd s tr me fa) : MZ l yX0_reachable cX0_reachable 1 (some .int) rm_X0_reachable D Y [.ref (ad 0)] (bw Y ad s tr me to fa se qu) (jI (fun r w => ∃ fo, RC s fo ∧ r = nI fo ∧ Bw Y ad s w)) :=
  MZ.ofJ (fun r w h => by
    obtain ⟨x, rfl, fo1, ds1, s1, qu1, to1, rfl, h1, rfl⟩ := h
    exact ⟨_, rfl, fo1, ⟨ds1, h1⟩, rfl, tr, me, to1, fa, s1, qu1, H, rfl⟩) (ct_X0_reachable G.1 G.2.1)
theorem bz_pegOf (G : GD s) (hl : l.stackTraces = false) {d : Nat} (hd : d < sN s) : MZ l yX0_pegOf cX0_pegOf 2 (some .int) rm_X0_pegOf D Y [.ref (ad 0), .int (nI d)] (bw Y ad s tr me to fa se qu) (jI (fun r w => r = nI (sDg s d) ∧ w = bw Y ad s tr me to fa se qu)) :=
  MZ.ofX (fun r w h => by
    obtain ⟨x, rfl, d2, e, hd2, rfl, rfl⟩ := h
    have := nIj (n := 10) e (by have := G.N6; omega) (by have := G.N6; omega) (by decide)
    subst this
    exact ⟨_, rfl, rfl, rfl⟩) (fun E w h => by
    have h2 := h.2.1
    rw [inr_lt hd (by have := G.N6; omega)] at h2; cases h2) (ct_X0_pegOf G.1 G.2.1 G.2.2.1 hl)
theorem bz_top (G : GD s) (H : Hd s tr me fa) (hl : l.stackTraces = false) {g : Nat} (hg : g < sP s) : MZ l yX0_top cX0_top 2 (some .int) rm_X0_top D Y [.ref (ad 0), .int (nI g)] (bw Y ad s tr me to fa se qu) (jI (fun r w => r = oI (sTp s g) ∧ Bw Y ad s w)) :=
  MZ.ofX (fun r w h => by
    obtain ⟨x, rfl, g2, to1, e, hg2, rfl, rfl⟩ := h
    have := nIj (n := 10) e (by have := G.P5; omega) (by have := G.P5; omega) (by decide)
    subst this
    exact ⟨_, rfl, rfl, tr, me, to1, fa, se, qu, H, rfl⟩) (fun E w h => by
    have h2 := h.2.1
    rw [inr_lt hg (by have := G.P5; omega)] at h2; cases h2) (ct_X0_top G.1 G.2.1 G.2.2.1 hl)
theorem bz_canMove (G : GD s) (H : Hd s tr me fa) (hl : l.stackTraces = false) {f t : Nat} (hf : f < sP s) (ht : t < sP s) : MZ l yX0_canMove cX0_canMove 3 (some .boolean) rm_X0_canMove D Y [.ref (ad 0), .int (nI f), .int (nI t)] (bw Y ad s tr me to fa se qu) (jI (fun r w => r = bi (sPs s f t) ∧ Bw Y ad s w)) :=
  MZ.ofX (fun r w h => by
    obtain ⟨x, rfl, f2, t2, to1, e1, hf2, e2, ht2, rfl, rfl⟩ := h
    have := G.P5
    have q1 := nIj (n := 10) e1 (by omega) (by omega) (by decide)
    have q2 := nIj (n := 10) e2 (by omega) (by omega) (by decide)
    subst q1; subst q2
    exact ⟨_, rfl, rfl, tr, me, to1, fa, se, qu, H, rfl⟩) (fun E w h => in2_no hf ht (by have := G.P5; omega) (by have := G.P5; omega) h.2.1) (ct_X0_canMove G.1 G.2.1 G.2.2.1 hl)
theorem bz_move (G : GD s) (H : Hd s tr me fa) (hl : l.stackTraces = false) {f t : Nat} (hf : f < sP s) (ht : t < sP s) (hm : sM s < 500) (hps : sPs s f t = true) : MZ l yX0_move cX0_move 4 (some .int) rm_X0_move D Y [.ref (ad 0), .int (nI f), .int (nI t)] (bw Y ad s tr me to fa se qu) (jI (fun r w => (∃ d, d < 6 ∧ r = nI d) ∧ Bw Y ad (sMv s f t) w)) :=
  MZ.ofX (fun r w h => by
    obtain ⟨x, rfl, f2, t2, d, to1, e1, hf2, e2, ht2, -, -, h4, rfl, rfl⟩ := h
    have := G.P5
    have q1 := nIj (n := 10) e1 (by omega) (by omega) (by decide)
    have q2 := nIj (n := 10) e2 (by omega) (by omega) (by decide)
    subst q1; subst q2
    refine ⟨_, rfl, ⟨d, by have := tp_lt h4; have := G.N6; omega, rfl⟩, updN tr (sM s) (sA s), me, to1, fa, se, qu, ⟨H.1, fun k hk => ?_⟩, rfl⟩
    show updN tr (sM s) (sA s) k = updN (sTr s) (sM s) (sA s) k
    by_cases e : k = sM s
    · rw [e, updN_s, updN_s]
    · rw [updN_n e, updN_n e]; exact H.2 k (by have : k < sM s + 1 := hk; omega)) (fun E w h => by
    have := G.P5
    rcases h with ⟨-, h, -⟩ | ⟨-, f2, t2, to1, e1, hf2, e2, ht2, h, -⟩
    · exact in2_no hf ht (by omega) (by omega) h
    · have q1 := nIj (n := 10) e1 (by omega) (by omega) (by decide)
      have q2 := nIj (n := 10) e2 (by omega) (by omega) (by decide)
      subst q1; subst q2
      rcases h with h | h
      · exact absurd h (by omega)
      · have hps : psB (sP s) (sN s) (sRu s) (sCb s) (sAl s) (sA s) f2 t2 = true := hps
        rw [h] at hps; cases hps) (ct_X0_move G.1 G.2.1 G.2.2.1 G.2.2.2.1 hl)
theorem bz_takeBack (G : GD s) (H : Hd s tr me fa) (hl : l.stackTraces = false) (hm : 0 < sM s) : MZ l yX0_takeBack cX0_takeBack 1 (some .int) rm_X0_takeBack D Y [.ref (ad 0)] (bw Y ad s tr me to fa se qu) (jI (fun r w => r = nI (sM s - 1) ∧ Bw Y ad (sBk s) w)) :=
  MZ.ofX (fun r w h => by
    obtain ⟨x, rfl, -, rfl, rfl⟩ := h
    refine ⟨_, rfl, rfl, tr, me, to, fa, se, qu, ⟨H.1, fun k hk => H.2 k (by have : k < sM s - 1 := hk; omega)⟩, ?_⟩
    show _ = bw Y ad (sP s, sN s, sTr s (sM s - 1), sB s, sM s - 1, sRu s, sCb s, sAl s, sTr s) tr me to fa se qu
    rw [← H.2 (sM s - 1) (by omega)]; rfl) (fun E w h => absurd h.2.1 (by omega)) (ct_X0_takeBack G.1 G.2.1 G.2.2.1 G.2.2.2.1 hl)
/-- the way, and lost, and disk by disk, as the law's own methods tell them -/
theorem bz_lost (G : GD s) (H : Hd s tr me fa) (hl : l.stackTraces = false) : MW l yL_lost cL_lost 2 (some .int) [(0, 4, 5, 22)] rm_L_lost D Y [.ref (ad 0)] (bw Y ad s tr me to fa se qu) (jI (fun r w => (r = -99999 ∨ ∃ ds, WY s ds ∧ ds (sA s) ≠ none ∧ r = nI (sM s) + oI (ds (sA s)) - oI (ds (stA (sM s) (sTr s) (sA s)))) ∧ Bw Y ad s w)) := by
  refine MW.mono (fun r w h => ?_) (ct_L_lost (ct_X0_lost (tr := tr) G.1 G.2.1 G.2.2.1 H.1 G.2.2.2.1 (fun k hk => by rw [H.2 k hk]; exact G.2.2.2.2 k hk) hl) (fun E w h => h.1))
  obtain ⟨x, rfl, h⟩ := h
  rcases h with ⟨v, rfl, ds1, fa1, qu1, to1, h1, h2, h3, -, rfl, rfl⟩ | ⟨E, rfl, -, ds1, fa1, qu1, to1, h1, h2, -, rfl⟩
  · refine ⟨_, rfl, Or.inr ⟨ds1, h1, h3, by rw [stA_eq H.2]⟩, tr, true, to1, fa1, se, qu1, ⟨fun _ => ⟨ds1, h1, h2⟩, H.2⟩, rfl⟩
  · exact ⟨_, rfl, Or.inl rfl, tr, true, to1, fa1, se, qu1, ⟨fun _ => ⟨ds1, h1, h2⟩, H.2⟩, rfl⟩
theorem bz_wayByDisks (G : GD s) (hl : l.stackTraces = false) : MW l yL_wayByDisks cL_wayByDisks 2 (some .int) [(0, 4, 5, 22)] rm_L_wayByDisks D Y [.ref (ad 0)] (bw Y ad s tr me to fa se qu) (jI (fun r w => (r = -1 ∨ (sP s = 3 ∧ sRu s = false ∧ alB (sAl s) 0 25 = true ∧ r = nI (wbV (dg 3 (sA s)) (dg 3 (sB s)) (sN s)))) ∧ w = bw Y ad s tr me to fa se qu)) := by
  refine MW.mono (fun r w h => ?_) (ct_L_wayByDisks (ct_X0_wayByDisks G.1 G.2.1 G.2.2.1 hl) (fun E w h => h.1))
  obtain ⟨x, rfl, h⟩ := h
  rcases h with ⟨v, rfl, h1, h2, h3, h4, rfl⟩ | ⟨E, rfl, -, -, rfl⟩
  · exact ⟨_, rfl, Or.inr ⟨h1, h2, h3, h4⟩, rfl⟩
  · exact ⟨_, rfl, Or.inl rfl, rfl⟩
end BZ
end
section
/-! what the law's acts do -/
def tN (x : Int32) : Nat := x.toInt.toNat
theorem tN_nI {j : Nat} (h : j < 2 ^ 31) : tN (nI j) = j := by unfold tN; rw [nI_toInt h]; omega
def rv : Option (Nat × sT) → Int32
  | none => -99999
  | some q => nI q.1
def rs (s : sT) : Option (Nat × sT) → sT
  | none => s
  | some q => q.2
def b2 (b : Bool) : Nat := if b then 1 else 0
theorem b2_bi (b : Bool) : nI (b2 b) = bi b := by cases b <;> rfl
theorem b2_if (b : Bool) : (if bi b = 0 then nI 0 else nI 1) = nI (b2 b) := by cases b <;> decide
def okA (s : sT) (o : Option (Nat × sT)) : Prop := ∀ q, o = some q → q.1 < 100000 ∧ GD q.2
theorem okA_none {s : sT} : okA s none := fun q h => by cases h
theorem okA_some {s s2 : sT} {v : Nat} (h1 : v < 100000) (h2 : GD s2) : okA s (some (v, s2)) := fun q h => by cases h; exact ⟨h1, h2⟩
def acBegin (s : sT) (x y : Int32) : Option (Nat × sT) :=
  if (rg x 3 5 && rg y 1 6) = true then some (tN x ^ tN y, (tN x, tN y, 0, tN x ^ tN y - 1, 0, false, (fun _ => false), (fun _ => true), sTr s)) else none
def acPut (s : sT) (x y : Int32) : Option (Nat × sT) :=
  if (inr x (sN s) && inr y (sP s)) = true ∧ sM s = 0 then some (dg (sP s) (sA s) (tN x), (sP s, sN s, sd (sP s) (sA s) (tN x) (tN y), sB s, sM s, sRu s, sCb s, sAl s, sTr s)) else none
def acAim (s : sT) (x y : Int32) : Option (Nat × sT) :=
  if (inr x (sN s) && inr y (sP s)) = true then some (dg (sP s) (sB s) (tN x), (sP s, sN s, sA s, sd (sP s) (sB s) (tN x) (tN y), sM s, sRu s, sCb s, sAl s, sTr s)) else none
def acAllow (s : sT) (x y : Int32) (z : Bool) : Option (Nat × sT) :=
  if (inr x (sP s) && inr y (sP s)) = true ∧ ¬ x = y then some (b2 (sAl s (tN x * 5 + tN y)), (sP s, sN s, sA s, sB s, sM s, sRu s, sCb s, va_up (sAl s) (tN x * 5 + tN y) z, sTr s)) else none
def acColour (s : sT) (x y : Int32) : Option (Nat × sT) :=
  if inr x (sN s) = true ∧ rg y 0 1 = true then some (b2 (sCb s (tN x)), (sP s, sN s, sA s, sB s, sM s, sRu s, va_up (sCb s) (tN x) (decide (y = 1)), sAl s, sTr s)) else none
def acRule (s : sT) (on : Bool) : Option (Nat × sT) := some (b2 (sRu s), (sP s, sN s, sA s, sB s, sM s, on, sCb s, sAl s, sTr s))
def acLay (s : sT) : Option (Nat × sT) := some (sM s, (sP s, sN s, sA s, sB s, 0, sRu s, sCb s, sAl s, sTr s))
def acBack (s : sT) : Option (Nat × sT) := if 0 < sM s then some (sM s - 1, sBk s) else none
def acMove (s : sT) (x y : Int32) : Option (Nat × sT) :=
  if ((inr x (sP s) && inr y (sP s)) = true ∧ sM s < 500) ∧ sPs s (tN x) (tN y) = true then some ((sTp s (tN x)).getD 0, sMv s (tN x) (tN y)) else none
section OK
variable {s : sT}
theorem ok_begin {x y : Int32} : okA s (acBegin s x y) := by
  unfold acBegin
  split
  · rename_i h
    rw [Bool.and_eq_true] at h
    obtain ⟨P1, a1, a2, rfl⟩ := rg_of (by omega) h.1
    obtain ⟨N1, a3, a4, rfl⟩ := rg_of (by omega) h.2
    rw [tN_nI (by omega), tN_nI (by omega)]
    have hc : cfg P1 N1 := ⟨a1, a2, a3, a4⟩
    have h1 := cfg_pw hc a4
    have h2 := cfg_pos (d := N1) hc
    exact okA_some (by omega) ⟨hc, h2, by show P1 ^ N1 - 1 < P1 ^ N1; omega, by show 0 ≤ 500; omega, fun k hk => absurd (show k < 0 from hk) (Nat.not_lt_zero k)⟩
  · exact okA_none
theorem ok_put (G : GD s) {x y : Int32} : okA s (acPut s x y) := by
  unfold acPut
  split
  · rename_i h
    obtain ⟨h, hm⟩ := h
    rw [Bool.and_eq_true] at h
    have h6 := G.N6
    have h5 := G.P5
    obtain ⟨d, a1, rfl⟩ := inr_of h.1 (by omega)
    obtain ⟨t, a2, rfl⟩ := inr_of h.2 (by omega)
    rw [tN_nI (by omega), tN_nI (by omega)]
    exact okA_some (by have := dg_lt (a := sA s) (d := d) G.P0; omega) ⟨G.1, sd_lt G.P0 G.2.1 a1 a2, G.2.2.1, G.2.2.2.1, G.2.2.2.2⟩
  · exact okA_none
theorem ok_aim (G : GD s) {x y : Int32} : okA s (acAim s x y) := by
  unfold acAim
  split
  · rename_i h
    rw [Bool.and_eq_true] at h
    have h6 := G.N6
    have h5 := G.P5
    obtain ⟨d, a1, rfl⟩ := inr_of h.1 (by omega)
    obtain ⟨t, a2, rfl⟩ := inr_of h.2 (by omega)
    rw [tN_nI (by omega), tN_nI (by omega)]
    exact okA_some (by have := dg_lt (a := sB s) (d := d) G.P0; omega) ⟨G.1, G.2.1, sd_lt G.P0 G.2.2.1 a1 a2, G.2.2.2.1, G.2.2.2.2⟩
  · exact okA_none
theorem b2_lt (b : Bool) : b2 b < 100000 := by cases b <;> decide
theorem ok_allow (G : GD s) {x y : Int32} {z : Bool} : okA s (acAllow s x y z) := by
  unfold acAllow
  split
  · exact okA_some (b2_lt _) G
  · exact okA_none
theorem ok_colour (G : GD s) {x y : Int32} : okA s (acColour s x y) := by
  unfold acColour
  split
  · exact okA_some (b2_lt _) G
  · exact okA_none
theorem ok_rule (G : GD s) {on : Bool} : okA s (acRule s on) := okA_some (b2_lt _) G
theorem ok_lay (G : GD s) : okA s (acLay s) := okA_some (by have := G.2.2.2.1; omega) ⟨G.1, G.2.1, G.2.2.1, by show 0 ≤ 500; omega, fun k hk => absurd (show k < 0 from hk) (Nat.not_lt_zero k)⟩
theorem ok_back (G : GD s) : okA s (acBack s) := by
  unfold acBack
  split
  · rename_i h
    exact okA_some (by have := G.2.2.2.1; omega) (G.bk h)
  · exact okA_none
theorem ok_move (G : GD s) {x y : Int32} : okA s (acMove s x y) := by
  unfold acMove
  split
  · rename_i h
    obtain ⟨⟨h, hm⟩, -⟩ := h
    rw [Bool.and_eq_true] at h
    have h6 := G.N6
    have h5 := G.P5
    obtain ⟨t, a2, rfl⟩ := inr_of h.2 (by omega)
    rw [tN_nI (j := t) (by omega)]
    refine okA_some ?_ (G.mv a2 hm)
    cases e : sTp s (tN x) with
    | none => decide
    | some d =>
      have e : tp (sP s) (sN s) (sA s) (tN x) = some d := e
      have := tp_lt e
      show d < 100000
      omega
  · exact okA_none
end OK
section HZ
variable {l : Launch} {D : va_G} {Y : jy_T} {ad : Nat → Nat} {s : sT} {tr : Nat → Nat} {me : Bool} {to fa se qu : Nat → Int32}
theorem hz_begin (G : GD s) (H : Hd s tr me fa) (hl : l.stackTraces = false) {x y : Int32} : MW l yL_begin cL_begin 4 (some .int) [(0, 6, 7, 14)] rm_L_begin D Y [.ref (ad 0), .int x, .int y] (bw Y ad s tr me to fa se qu) (jI (fun r w => r = rv (acBegin s x y) ∧ Bw Y ad (rs s (acBegin s x y)) w)) := by
  refine MW.mono (fun r w h => ?_) (ct_L_begin (ct_X0_begin hl) (fun E w h => h.1))
  obtain ⟨q, rfl, h⟩ := h
  rcases h with ⟨v, rfl, P1, N1, rfl, rfl, hc, rfl, rfl⟩ | ⟨E, rfl, -, h, rfl⟩
  · have b1 := hc.2.1
    have b2 := hc.2.2.2
    have e : acBegin s (nI P1) (nI N1) = some (P1 ^ N1, (P1, N1, 0, P1 ^ N1 - 1, 0, false, (fun _ => false), (fun _ => true), sTr s)) := by
      unfold acBegin
      rw [tN_nI (by omega), tN_nI (by omega), if_pos]
      unfold rg
      have b3 := hc.1
      have b4 := hc.2.2.1
      rw [nI_toInt (by omega), nI_toInt (by omega), decide_eq_true (by omega), decide_eq_true (by omega)]; rfl
    refine ⟨_, rfl, by rw [e]; rfl, ?_⟩
    rw [e]
    exact ⟨tr, false, to, fa, se, qu, ⟨fun h => (by cases h), fun k hk => absurd (show k < 0 from hk) (Nat.not_lt_zero k)⟩, rfl⟩
  · have e : acBegin s x y = none := by unfold acBegin; rw [if_neg (by rw [h]; decide)]
    refine ⟨_, rfl, by rw [e]; rfl, ?_⟩
    rw [e]
    exact Bw.of H
theorem hz_put (G : GD s) (H : Hd s tr me fa) (hl : l.stackTraces = false) {x y : Int32} : MW l yL_put cL_put 4 (some .int) [(0, 6, 7, 20), (0, 6, 11, 22)] rm_L_put D Y [.ref (ad 0), .int x, .int y] (bw Y ad s tr me to fa se qu) (jI (fun r w => r = rv (acPut s x y) ∧ Bw Y ad (rs s (acPut s x y)) w)) := by
  refine MW.mono (fun r w h => ?_) (ct_L_put (ct_X0_put G.1 G.2.1 G.2.2.1 (by have := G.2.2.2.1; omega) hl) (fun E w h => Or.imp (fun z => z.1) (fun z => z.1) h.2))
  obtain ⟨q, rfl, h⟩ := h
  have h6 := G.N6
  have h5 := G.P5
  rcases h with ⟨v, rfl, d, t, rfl, hd, rfl, ht, hm, rfl, rfl⟩ | ⟨E, rfl, rfl, h⟩
  · have e : acPut s (nI d) (nI t) = some (dg (sP s) (sA s) d, (sP s, sN s, sd (sP s) (sA s) d t, sB s, sM s, sRu s, sCb s, sAl s, sTr s)) := by
      unfold acPut
      rw [tN_nI (by omega), tN_nI (by omega), if_pos ⟨by rw [inr_lt hd (by omega), inr_lt ht (by omega)]; rfl, hm⟩]
    refine ⟨_, rfl, by rw [e]; rfl, ?_⟩
    rw [e]
    exact ⟨tr, me, to, fa, se, qu, H, rfl⟩
  · have e : acPut s x y = none := by
      unfold acPut
      refine if_neg (fun z => ?_)
      rcases h with ⟨-, h⟩ | ⟨-, -, h⟩
      · rw [h] at z; exact absurd z.1 (by decide)
      · omega
    refine ⟨_, rfl, by rw [e]; rfl, ?_⟩
    rw [e]
    exact Bw.of H
theorem hz_aim (G : GD s) (H : Hd s tr me fa) (hl : l.stackTraces = false) {x y : Int32} : MW l yL_aim cL_aim 4 (some .int) [(0, 6, 7, 20)] rm_L_aim D Y [.ref (ad 0), .int x, .int y] (bw Y ad s tr me to fa se qu) (jI (fun r w => r = rv (acAim s x y) ∧ Bw Y ad (rs s (acAim s x y)) w)) := by
  refine MW.mono (fun r w h => ?_) (ct_L_aim (ct_X0_aim G.1 G.2.1 G.2.2.1 hl) (fun E w h => h.1))
  obtain ⟨q, rfl, h⟩ := h
  have h6 := G.N6
  have h5 := G.P5
  rcases h with ⟨v, rfl, d, t, rfl, hd, rfl, ht, rfl, rfl⟩ | ⟨E, rfl, -, h, rfl⟩
  · have e : acAim s (nI d) (nI t) = some (dg (sP s) (sB s) d, (sP s, sN s, sA s, sd (sP s) (sB s) d t, sM s, sRu s, sCb s, sAl s, sTr s)) := by
      unfold acAim
      rw [tN_nI (by omega), tN_nI (by omega), if_pos (by rw [inr_lt hd (by omega), inr_lt ht (by omega)]; rfl)]
    refine ⟨_, rfl, by rw [e]; rfl, ?_⟩
    rw [e]
    exact ⟨tr, false, to, fa, se, qu, ⟨fun h => (by cases h), H.2⟩, rfl⟩
  · have e : acAim s x y = none := by unfold acAim; rw [if_neg (by rw [h]; decide)]
    refine ⟨_, rfl, by rw [e]; rfl, ?_⟩
    rw [e]
    exact Bw.of H
theorem hz_allow (G : GD s) (H : Hd s tr me fa) (hl : l.stackTraces = false) {x y : Int32} {z : Bool} : MW l yL_allow cL_allow 5 (some .int) [(0, 15, 16, 20), (0, 15, 21, 14)] rm_L_allow D Y [.ref (ad 0), .int x, .int y, .int (bi z)] (bw Y ad s tr me to fa se qu) (jI (fun r w => r = rv (acAllow s x y z) ∧ Bw Y ad (rs s (acAllow s x y z)) w)) := by
  refine MW.mono (fun r w h => ?_) (ct_L_allow (ct_X0_allow G.1 G.2.1 G.2.2.1 hl) (fun E w h => Or.imp (fun z => z.1) (fun z => z.1) h.2))
  obtain ⟨q, rfl, h⟩ := h
  have h5 := G.P5
  rcases h with ⟨v, rfl, f, t, rfl, hf, rfl, ht, hne, rfl, rfl⟩ | ⟨E, rfl, rfl, h⟩
  · have e : acAllow s (nI f) (nI t) z = some (b2 (sAl s (f * 5 + t)), (sP s, sN s, sA s, sB s, sM s, sRu s, sCb s, va_up (sAl s) (f * 5 + t) z, sTr s)) := by
      unfold acAllow
      rw [tN_nI (by omega), tN_nI (by omega), if_pos ⟨by rw [inr_lt hf (by omega), inr_lt ht (by omega)]; rfl, fun q => hne ((nI_eq (by omega) (by omega)).mp q)⟩]
    refine ⟨_, rfl, by rw [e, b2_if]; rfl, ?_⟩
    rw [e]
    exact ⟨tr, false, to, fa, se, qu, ⟨fun h => (by cases h), H.2⟩, rfl⟩
  · have e : acAllow s x y z = none := by
      unfold acAllow
      refine if_neg (fun q => ?_)
      rcases h with ⟨-, h⟩ | ⟨-, -, h⟩
      · rw [h] at q; exact absurd q.1 (by decide)
      · exact q.2 h
    refine ⟨_, rfl, by rw [e]; rfl, ?_⟩
    rw [e]
    exact Bw.of H
theorem hz_setColour (G : GD s) (H : Hd s tr me fa) (hl : l.stackTraces = false) {x y : Int32} : MW l yL_setColour cL_setColour 4 (some .int) [(0, 6, 7, 20), (0, 6, 11, 14)] rm_L_setColour D Y [.ref (ad 0), .int x, .int y] (bw Y ad s tr me to fa se qu) (jI (fun r w => r = rv (acColour s x y) ∧ Bw Y ad (rs s (acColour s x y)) w)) := by
  refine MW.mono (fun r w h => ?_) (ct_L_setColour (ct_X0_setColour G.1 G.2.1 G.2.2.1 hl) (fun E w h => Or.imp (fun z => z.1) (fun z => z.1) h.2))
  obtain ⟨q, rfl, h⟩ := h
  have h6 := G.N6
  rcases h with ⟨v, rfl, d, z, rfl, hd, rfl, hz, rfl, rfl⟩ | ⟨E, rfl, rfl, h⟩
  · have e : acColour s (nI d) (bi z) = some (b2 (sCb s d), (sP s, sN s, sA s, sB s, sM s, sRu s, va_up (sCb s) d z, sAl s, sTr s)) := by
      unfold acColour
      rw [tN_nI (by omega), if_pos ⟨inr_lt hd (by omega), hz⟩, show decide (bi z = 1) = z by cases z <;> decide]
    refine ⟨_, rfl, by rw [e]; exact (b2_bi _).symm, ?_⟩
    rw [e]
    exact ⟨tr, false, to, fa, se, qu, ⟨fun h => (by cases h), H.2⟩, rfl⟩
  · have e : acColour s x y = none := by
      unfold acColour
      refine if_neg (fun q => ?_)
      rcases h with ⟨-, h⟩ | ⟨-, -, h⟩
      · rw [h] at q; exact absurd q.1 (by decide)
      · rw [h] at q; exact absurd q.2 (by decide)
    refine ⟨_, rfl, by rw [e]; rfl, ?_⟩
    rw [e]
    exact Bw.of H
theorem hz_takeBack (G : GD s) (H : Hd s tr me fa) (hl : l.stackTraces = false) : MW l yL_takeBack cL_takeBack 2 (some .int) [(0, 4, 5, 22)] rm_L_takeBack D Y [.ref (ad 0)] (bw Y ad s tr me to fa se qu) (jI (fun r w => r = rv (acBack s) ∧ Bw Y ad (rs s (acBack s)) w)) := by
  refine MW.mono (fun r w h => ?_) (ct_L_takeBack (ct_X0_takeBack G.1 G.2.1 G.2.2.1 G.2.2.2.1 hl) (fun E w h => h.1))
  obtain ⟨q, rfl, h⟩ := h
  rcases h with ⟨v, rfl, hm, rfl, rfl⟩ | ⟨E, rfl, -, h, rfl⟩
  · have e : acBack s = some (sM s - 1, sBk s) := by unfold acBack; rw [if_pos hm]
    refine ⟨_, rfl, by rw [e]; rfl, ?_⟩
    rw [e]
    refine ⟨tr, me, to, fa, se, qu, ⟨H.1, fun k hk => H.2 k (by have : k < sM s - 1 := hk; omega)⟩, ?_⟩
    show _ = bw Y ad (sP s, sN s, sTr s (sM s - 1), sB s, sM s - 1, sRu s, sCb s, sAl s, sTr s) tr me to fa se qu
    rw [← H.2 (sM s - 1) (by omega)]; rfl
  · have e : acBack s = none := by unfold acBack; rw [if_neg (by omega)]
    refine ⟨_, rfl, by rw [e]; rfl, ?_⟩
    rw [e]
    exact Bw.of H
theorem hz_move (G : GD s) (H : Hd s tr me fa) (hl : l.stackTraces = false) {x y : Int32} : MW l yL_move cL_move 4 (some .int) [(0, 6, 7, 20), (0, 6, 11, 22)] rm_L_move D Y [.ref (ad 0), .int x, .int y] (bw Y ad s tr me to fa se qu) (jI (fun r w => r = rv (acMove s x y) ∧ Bw Y ad (rs s (acMove s x y)) w)) := by
  refine MW.mono (fun r w h => ?_) (ct_L_move (ct_X0_move G.1 G.2.1 G.2.2.1 G.2.2.2.1 hl) (fun E w h => Or.imp (fun z => z.1) (fun z => z.1) h))
  obtain ⟨q, rfl, h⟩ := h
  have h5 := G.P5
  rcases h with ⟨v, rfl, f, t, d, to1, rfl, hf, rfl, ht, hm, hps, hd, rfl, rfl⟩ | ⟨E, rfl, h⟩
  · have e : acMove s (nI f) (nI t) = some (d, sMv s f t) := by
      unfold acMove
      rw [tN_nI (by omega), tN_nI (by omega), if_pos ⟨⟨by rw [inr_lt hf (by omega), inr_lt ht (by omega)]; rfl, hm⟩, hps⟩]
      show some ((tp (sP s) (sN s) (sA s) f).getD 0, _) = _
      rw [hd]; rfl
    refine ⟨_, rfl, by rw [e]; rfl, ?_⟩
    rw [e]
    refine ⟨updN tr (sM s) (sA s), me, to1, fa, se, qu, ⟨H.1, fun k hk => ?_⟩, rfl⟩
    show updN tr (sM s) (sA s) k = updN (sTr s) (sM s) (sA s) k
    by_cases e : k = sM s
    · rw [e, updN_s, updN_s]
    · rw [updN_n e, updN_n e]; exact H.2 k (by have : k < sM s + 1 := hk; omega)
  · rcases h with ⟨-, h, rfl⟩ | ⟨-, f, t, to1, rfl, hf, rfl, ht, h, rfl⟩
    · have e : acMove s x y = none := by
        unfold acMove
        refine if_neg (fun z => ?_)
        rw [h] at z; exact absurd z.1.1 (by decide)
      refine ⟨_, rfl, by rw [e]; rfl, ?_⟩
      rw [e]
      exact Bw.of H
    · have e : acMove s (nI f) (nI t) = none := by
        unfold acMove
        refine if_neg (fun z => ?_)
        rw [tN_nI (by omega), tN_nI (by omega)] at z
        rcases h with h | h
        · omega
        · have z2 : psB (sP s) (sN s) (sRu s) (sCb s) (sAl s) (sA s) f t = true := z.2
          rw [h] at z2; cases z2
      refine ⟨_, rfl, by rw [e]; rfl, ?_⟩
      rw [e]
      exact Bw.of H
theorem bz_layStart (H : Hd s tr me fa) : MZ l yX0_layStart cX0_layStart 2 (some .int) rm_X0_layStart D Y [.ref (ad 0)] (bw Y ad s tr me to fa se qu) (jI (fun r w => r = rv (acLay s) ∧ Bw Y ad (rs s (acLay s)) w)) :=
  MZ.ofJ (fun r w h => by
    obtain ⟨x, rfl, rfl, rfl⟩ := h
    exact ⟨_, rfl, rfl, tr, me, to, fa, se, qu, ⟨H.1, fun k hk => absurd (show k < 0 from hk) (Nat.not_lt_zero k)⟩, rfl⟩) ct_X0_layStart
theorem bz_setRule (H : Hd s tr me fa) {on : Bool} : MZ l yX0_setRule cX0_setRule 3 (some .boolean) rm_X0_setRule D Y [.ref (ad 0), .int (bi on)] (bw Y ad s tr me to fa se qu) (jI (fun r w => r = bi (sRu s) ∧ Bw Y ad (rs s (acRule s on)) w)) :=
  MZ.ofJ (fun r w h => by
    obtain ⟨x, rfl, rfl, rfl⟩ := h
    exact ⟨_, rfl, rfl, tr, false, to, fa, se, qu, ⟨fun h => (by cases h), H.2⟩, rfl⟩) ct_X0_setRule
end HZ
end
section
/-! one act, as the law takes it out of a number v -/
def aOd (v : Int32) : Bool := decide (loI (v >>> (nI 24 &&& 31)) (nI 9) = 0)
def aFr (s : sT) (v : Int32) : Int32 := loI (v >>> (nI 4 &&& 31)) (nI (sP s) + bi (aOd v))
def aX (s : sT) (v : Int32) : Int32 := aFr s v + nI 1 + loI (v >>> (nI 7 &&& 31)) (nI (sP s) - nI 1)
def aTo (s : sT) (v : Int32) : Int32 := if aOd v = true then loI (v >>> (nI 7 &&& 31)) (nI (sP s) + nI 2) - nI 1 else aX s v - aX s v / nI (sP s) * nI (sP s)
def aDk (s : sT) (v : Int32) : Int32 := loI (v >>> (nI 10 &&& 31)) (nI (sN s) + bi (aOd v))
def aKd (v : Int32) : Int32 := loI v (nI 12)
def aB1 (v : Int32) : Int32 := if aOd v = true then loI (v >>> (nI 15 &&& 31)) (nI 8) else nI 3 + loI (v >>> (nI 15 &&& 31)) (nI 2)
def aB2 (v : Int32) : Int32 := if aOd v = true then loI (v >>> (nI 18 &&& 31)) (nI 8) else nI 1 + loI (v >>> (nI 18 &&& 31)) (nI 4)
def aCo (v : Int32) : Int32 := if aOd v = true then loI (v >>> (nI 14 &&& 31)) (nI 4) - nI 1 else loI (v >>> (nI 14 &&& 31)) (nI 2)
def acA (s : sT) (v : Int32) : Option (Nat × sT) :=
  if aKd v = nI 0 then (if loI (v >>> (nI 14 &&& 31)) (nI 4) = 0 then acBegin s (aB1 v) (aB2 v) else acLay s)
  else if aKd v = nI 1 ∨ aKd v = nI 2 then acPut s (aDk s v) (aTo s v)
  else if aKd v = nI 3 then acAim s (aDk s v) (aTo s v)
  else if aKd v = nI 4 then acAllow s (aFr s v) (aTo s v) (decide (¬ loI (v >>> (nI 14 &&& 31)) (nI 3) ≤ 0))
  else if aKd v = nI 5 then acColour s (aDk s v) (aCo v)
  else if aKd v = nI 6 then acRule s (decide (loI (v >>> (nI 14 &&& 31)) (nI 3) = 0))
  else if aKd v = nI 7 then acBack s
  else acMove s (aFr s v) (aTo s v)
theorem ok_act {s : sT} (G : GD s) {v : Int32} : okA s (acA s v) := by
  unfold acA
  split
  · split
    · exact ok_begin
    · exact ok_lay G
  split
  · exact ok_put G
  split
  · exact ok_aim G
  split
  · exact ok_allow G
  split
  · exact ok_colour G
  split
  · exact ok_rule G
  split
  · exact ok_back G
  · exact ok_move G
theorem ne_pb {p : Nat} {b : Bool} (h : 0 < p) (h2 : p < 100) : ¬ nI p + bi b = 0 := by
  rw [← b2_bi, nI_add, show (0 : Int32) = nI 0 from rfl, nI_eq (by cases b <;> (unfold b2; simp; omega)) (by omega)]
  omega
theorem ne_p2 {p : Nat} (h2 : p < 100) : ¬ nI p + nI 2 = 0 := by
  rw [nI_add, show (0 : Int32) = nI 0 from rfl, nI_eq (by omega) (by omega)]
  omega
theorem ne_p1 {p : Nat} (h : 3 ≤ p) (h2 : p < 100) : ¬ nI p - nI 1 = 0 := by
  rw [pk_sub (by omega), show (0 : Int32) = nI 0 from rfl, nI_eq (by omega) (by omega)]
  omega
theorem ne_p {p : Nat} (h : 0 < p) (h2 : p < 100) : ¬ nI p = 0 := by
  rw [show (0 : Int32) = nI 0 from rfl, nI_eq (by omega) (by omega)]
  omega
theorem tab_out {x : Int32} (c0 : ¬ x = nI 0) (c1 : ¬ x = nI 1) (c2 : ¬ x = nI 2) (c3 : ¬ x = nI 3) (c4 : ¬ x = nI 4) (c5 : ¬ x = nI 5) (c6 : ¬ x = nI 6) (c7 : ¬ x = nI 7) : x.toInt < 0 ∨ 7 < x.toInt := by
  have h : ∀ j : Nat, j < 8 → ¬ x = nI j → x.toInt ≠ (j : Int) := fun j hj hne e => hne (i32_eq (by rw [e, nI_toInt (by omega)]))
  have h0 := h 0 (by omega) c0
  have h1 := h 1 (by omega) c1
  have h2 := h 2 (by omega) c2
  have h3 := h 3 (by omega) c3
  have h4 := h 4 (by omega) c4
  have h5 := h 5 (by omega) c5
  have h6 := h 6 (by omega) c6
  have h7 := h 7 (by omega) c7
  omega
abbrev rm_L_act : Room := { frames := 8, cells := 1, slots := 6, locals := 137 }
set_option maxHeartbeats 4000000 in
set_option maxRecDepth 100000 in
theorem ct_L_act {l : Launch} {D : va_G} {Y : jy_T} {ad : Nat → Nat} {s : sT} {tr : Nat → Nat} {me : Bool} {to fa se qu : Nat → Int32} {v : Int32} (G : GD s) (H : Hd s tr me fa) (hl : l.stackTraces = false) :
    MZ l yL_act cL_act 7 (some .int) rm_L_act D Y [.ref (ad 0), .int v] (bw Y ad s tr me to fa se qu) (jI (fun r w => r = rv (acA s v) ∧ Bw Y ad (rs s (acA s v)) w)) := by
  refine j_enterZ (by decide) (Nat.le_of_ble_eq_true rfl) (fun v hv => by simp only [List.mem_cons, List.not_mem_nil, or_false] at hv; rcases hv with rfl | rfl <;> rfl) (fun K hl2 hD C R X => ?_)
  subst hl2; subst hD
  have C : jC cL_act RL Y rm_L_act 7 K := C
  have R : jR Y (some .int) 1 6 (jI (fun r w => r = rv (acA s v) ∧ Bw Y ad (rs s (acA s v)) w)) K := R
  refine j_eq (lo' := [some (.ref (ad 0)), some (.int v), none, none, none, none, none]) rfl rfl rfl ?_
  have hP3 := G.1.1
  have hP5 := G.P5
  have hN1 := G.1.2.2.1
  have hN6 := G.N6
  refine j_iload_n C dL_act_0 rfl ?_
  refine j_bipush C (nI 24) dL_act_1 (by decide) ?_
  refine j_ishr C dL_act_3 ?_
  refine j_bipush C (nI 9) dL_act_4 (by decide) ?_
  refine j_callS2i C (ct_L_low (ad := fun _ => 0) (ws := (bw Y ad s tr me to fa se qu)) (by decide)) gw_L_47 rfl nd_L_low ⟨by decide, by decide⟩ ⟨Nat.le_of_ble_eq_true rfl, Nat.le_of_ble_eq_true rfl⟩ (Nat.le_of_ble_eq_true rfl) dL_act_6 (fun _ _ hp => ?_)
  obtain ⟨rfl, rfl⟩ := hp
  refine j_bN C (aOd v) (fun c => decide_eq_true c) (fun c => decide_eq_false c) dL_act_9 dL_act_12 dL_act_13 dL_act_16 ?_
  refine j_istore_2 C dL_act_17 (by decide) ?_
  refine j_aload_n C dL_act_18 rfl ?_
  refine j_callVZ (wr := []) (st := []) C X [] [0, 1, 2, 3, 4, 5, 6, 7, 8, 9] [] (bz_pegs) rfl rfl rfl rfl (by decide) gw_L_52 nd_X0_pegs 0 0 rfl rfl rfl ⟨by decide, by decide⟩ ⟨Nat.le_of_ble_eq_true rfl, Nat.le_of_ble_eq_true rfl⟩ (Nat.le_of_ble_eq_true rfl) dL_act_19 rfl (fun r w19 hp => ?_)
  obtain ⟨v19, rfl, hp⟩ := hp
  refine j_eq (st' := [.int v19]) (ws2 := w19) rfl rfl rfl ?_
  obtain ⟨rfl, rfl⟩ := hp
  refine j_istore_3 C dL_act_22 (by decide) ?_
  refine j_iload_n C dL_act_23 rfl ?_
  refine j_iconst C (nI 4) dL_act_24 (by decide) ?_
  refine j_ishr C dL_act_25 ?_
  refine j_iload_n C dL_act_26 rfl ?_
  refine j_iload_n C dL_act_27 rfl ?_
  refine j_bE C (aOd v) (fun c => (bi_0 _).mp c) (fun c => (bi_n0 _).mp c) dL_act_28 dL_act_31 dL_act_32 dL_act_35 ?_
  refine j_iadd C dL_act_36 ?_
  refine j_callS2i C (ct_L_low (ad := fun _ => 0) (ws := (bw Y ad s tr me to fa se qu)) (ne_pb (by omega) (by omega))) gw_L_47 rfl nd_L_low ⟨by decide, by decide⟩ ⟨Nat.le_of_ble_eq_true rfl, Nat.le_of_ble_eq_true rfl⟩ (Nat.le_of_ble_eq_true rfl) dL_act_37 (fun _ _ hp => ?_)
  obtain ⟨rfl, rfl⟩ := hp
  refine j_istore_4 C dL_act_40 (by decide) ?_
  refine j_eq (lo' := [some (.ref (ad 0)), some (.int v), some (.int (bi (aOd v))), some (.int (nI (sP s))), some (.int (aFr s v)), none, none]) (st' := []) rfl rfl rfl ?_
  have tail : jJ K 0 0 78 [some (.ref (ad 0)), some (.int v), some (.int (bi (aOd v))), some (.int (nI (sP s))), some (.int (aFr s v)), none, none] [.int (aTo s v)] (bw Y ad s tr me to fa se qu) := by
    refine j_istore_5 C dL_act_78 (by decide) ?_
    refine j_iload_n C dL_act_80 rfl ?_
    refine j_bipush C (nI 10) dL_act_81 (by decide) ?_
    refine j_ishr C dL_act_83 ?_
    refine j_aload_n C dL_act_84 rfl ?_
    refine j_callVZ (wr := []) (st := [.int (v >>> ((nI 10) &&& 31))]) C X [] [0, 1, 2, 3, 4, 5, 6, 7, 8, 9] [] (bz_disks) rfl rfl rfl rfl (by decide) gw_L_55 nd_X0_disks 0 0 rfl rfl rfl ⟨by decide, by decide⟩ ⟨Nat.le_of_ble_eq_true rfl, Nat.le_of_ble_eq_true rfl⟩ (Nat.le_of_ble_eq_true rfl) dL_act_85 rfl (fun r w85 hp => ?_)
    obtain ⟨v85, rfl, hp⟩ := hp
    refine j_eq (st' := [.int v85, .int (v >>> ((nI 10) &&& 31))]) (ws2 := w85) rfl rfl rfl ?_
    obtain ⟨rfl, rfl⟩ := hp
    refine j_iload_n C dL_act_88 rfl ?_
    refine j_bE C (aOd v) (fun c => (bi_0 _).mp c) (fun c => (bi_n0 _).mp c) dL_act_89 dL_act_92 dL_act_93 dL_act_96 ?_
    refine j_iadd C dL_act_97 ?_
    refine j_callS2i C (ct_L_low (ad := fun _ => 0) (ws := (bw Y ad s tr me to fa se qu)) (ne_pb (by omega) (by omega))) gw_L_47 rfl nd_L_low ⟨by decide, by decide⟩ ⟨Nat.le_of_ble_eq_true rfl, Nat.le_of_ble_eq_true rfl⟩ (Nat.le_of_ble_eq_true rfl) dL_act_98 (fun _ _ hp => ?_)
    obtain ⟨rfl, rfl⟩ := hp
    refine j_istore_6 C dL_act_101 (by decide) ?_
    refine j_iload_n C dL_act_103 rfl ?_
    refine j_bipush C (nI 12) dL_act_104 (by decide) ?_
    refine j_callS2i C (ct_L_low (ad := fun _ => 0) (ws := (bw Y ad s tr me to fa se qu)) (by decide)) gw_L_47 rfl nd_L_low ⟨by decide, by decide⟩ ⟨Nat.le_of_ble_eq_true rfl, Nat.le_of_ble_eq_true rfl⟩ (Nat.le_of_ble_eq_true rfl) dL_act_106 (fun _ _ hp => ?_)
    obtain ⟨rfl, rfl⟩ := hp
    refine j_eq (lo' := [some (.ref (ad 0)), some (.int v), some (.int (bi (aOd v))), some (.int (nI (sP s))), some (.int (aFr s v)), some (.int (aTo s v)), some (.int (aDk s v))]) (st' := [.int (aKd v)]) rfl rfl rfl ?_
    by_cases c0 : aKd v = nI 0
    · have e := c0
      refine j_top _ (nI 0) c0 ?_
      refine j_tabIn C 0 156 dL_act_109 (by decide) (by decide) (by decide) rfl (by decide) ?_
      refine j_iload_n C dL_act_156 rfl ?_
      refine j_bipush C (nI 14) dL_act_157 (by decide) ?_
      refine j_ishr C dL_act_159 ?_
      refine j_iconst C (nI 4) dL_act_160 (by decide) ?_
      refine j_callS2i C (ct_L_low (ad := fun _ => 0) (ws := (bw Y ad s tr me to fa se qu)) (by decide)) gw_L_47 rfl nd_L_low ⟨by decide, by decide⟩ ⟨Nat.le_of_ble_eq_true rfl, Nat.le_of_ble_eq_true rfl⟩ (Nat.le_of_ble_eq_true rfl) dL_act_161 (fun _ _ hp => ?_)
      obtain ⟨rfl, rfl⟩ := hp
      refine j_if_ne C 226 dL_act_164 (by decide) (fun z => ?_) (fun z => ?_)
      · have ea : acA s v = (if loI (v >>> (nI 14 &&& 31)) (nI 4) = 0 then acBegin s (aB1 v) (aB2 v) else acLay s) := by unfold acA; rw [if_pos e]
        rw [if_neg z] at ea
        refine j_aload_n C dL_act_226 rfl ?_
        refine j_callVZ (wr := []) (st := []) C X [] [0, 1, 2, 3, 4, 5, 6, 7, 8, 9] [] (bz_layStart H) rfl rfl rfl rfl (by decide) gw_L_61 nd_X0_layStart 0 0 rfl rfl rfl ⟨by decide, by decide⟩ ⟨Nat.le_of_ble_eq_true rfl, Nat.le_of_ble_eq_true rfl⟩ (Nat.le_of_ble_eq_true rfl) dL_act_227 rfl (fun r w227 hp => ?_)
        obtain ⟨v227, rfl, hp⟩ := hp
        refine j_eq (st' := [.int v227]) (ws2 := w227) rfl rfl rfl ?_
        obtain ⟨rfl, hB⟩ := hp
        refine j_widen (Nat.zero_le 1) (Nat.zero_le 6) ?_
        exact j_reti C R dL_act_230 ⟨by rw [ea], by rw [ea]; exact hB⟩
      · have ea : acA s v = (if loI (v >>> (nI 14 &&& 31)) (nI 4) = 0 then acBegin s (aB1 v) (aB2 v) else acLay s) := by unfold acA; rw [if_pos e]
        rw [if_pos z] at ea
        have t2 : jJ K 0 0 220 [some (.ref (ad 0)), some (.int v), some (.int (bi (aOd v))), some (.int (nI (sP s))), some (.int (aFr s v)), some (.int (aTo s v)), some (.int (aDk s v))] [.int (aB2 v), .int (aB1 v), .ref (ad 0)] (bw Y ad s tr me to fa se qu) := by
          refine j_callSW (wr := []) (st := []) C X [.ref (ad 0), .int (aB1 v), .int (aB2 v)] [0, 1, 2, 3, 4, 5, 6, 7, 8, 9] [] (hz_begin G H hl) rfl rfl rfl rfl (by decide) gw_L_58 nd_L_begin ⟨by decide, by decide⟩ ⟨Nat.le_of_ble_eq_true rfl, Nat.le_of_ble_eq_true rfl⟩ (Nat.le_of_ble_eq_true rfl) dL_act_220 rfl (fun r w220 hp => ?_)
          obtain ⟨v220, rfl, hp⟩ := hp
          refine j_eq (st' := [.int v220]) (ws2 := w220) rfl rfl rfl ?_
          obtain ⟨rfl, hB⟩ := hp
          refine j_goto C 230 dL_act_223 (by decide) ?_
          exact j_reti C R dL_act_230 ⟨by rw [ea], by rw [ea]; exact hB⟩
        have t1 : jJ K 0 0 194 [some (.ref (ad 0)), some (.int v), some (.int (bi (aOd v))), some (.int (nI (sP s))), some (.int (aFr s v)), some (.int (aTo s v)), some (.int (aDk s v))] [.int (aB1 v), .ref (ad 0)] (bw Y ad s tr me to fa se qu) := by
          refine j_iload_n C dL_act_194 rfl ?_
          refine jB_if_eq C 210 dL_act_195 (by decide) (fun y => ?_) (fun y => ?_)
          · refine j_iconst C (nI 1) dL_act_210 (by decide) ?_
            refine j_iload_n C dL_act_211 rfl ?_
            refine j_bipush C (nI 18) dL_act_212 (by decide) ?_
            refine j_ishr C dL_act_214 ?_
            refine j_iconst C (nI 4) dL_act_215 (by decide) ?_
            refine j_callS2i C (ct_L_low (ad := fun _ => 0) (ws := (bw Y ad s tr me to fa se qu)) (by decide)) gw_L_47 rfl nd_L_low ⟨by decide, by decide⟩ ⟨Nat.le_of_ble_eq_true rfl, Nat.le_of_ble_eq_true rfl⟩ (Nat.le_of_ble_eq_true rfl) dL_act_216 (fun _ _ hp => ?_)
            obtain ⟨rfl, rfl⟩ := hp
            refine j_iadd C dL_act_219 ?_
            exact j_top _ (aB2 v) (by unfold aB2; rw [if_neg (by rw [y]; decide)]) t2
          · refine j_iload_n C dL_act_198 rfl ?_
            refine j_bipush C (nI 18) dL_act_199 (by decide) ?_
            refine j_ishr C dL_act_201 ?_
            refine j_bipush C (nI 8) dL_act_202 (by decide) ?_
            refine j_callS2i C (ct_L_low (ad := fun _ => 0) (ws := (bw Y ad s tr me to fa se qu)) (by decide)) gw_L_47 rfl nd_L_low ⟨by decide, by decide⟩ ⟨Nat.le_of_ble_eq_true rfl, Nat.le_of_ble_eq_true rfl⟩ (Nat.le_of_ble_eq_true rfl) dL_act_204 (fun _ _ hp => ?_)
            obtain ⟨rfl, rfl⟩ := hp
            refine j_goto C 220 dL_act_207 (by decide) ?_
            exact j_top _ (aB2 v) (by unfold aB2; rw [if_pos y]) t2
        refine j_aload_n C dL_act_167 rfl ?_
        refine j_iload_n C dL_act_168 rfl ?_
        refine jB_if_eq C 184 dL_act_169 (by decide) (fun y => ?_) (fun y => ?_)
        · refine j_iconst C (nI 3) dL_act_184 (by decide) ?_
          refine j_iload_n C dL_act_185 rfl ?_
          refine j_bipush C (nI 15) dL_act_186 (by decide) ?_
          refine j_ishr C dL_act_188 ?_
          refine j_iconst C (nI 2) dL_act_189 (by decide) ?_
          refine j_callS2i C (ct_L_low (ad := fun _ => 0) (ws := (bw Y ad s tr me to fa se qu)) (by decide)) gw_L_47 rfl nd_L_low ⟨by decide, by decide⟩ ⟨Nat.le_of_ble_eq_true rfl, Nat.le_of_ble_eq_true rfl⟩ (Nat.le_of_ble_eq_true rfl) dL_act_190 (fun _ _ hp => ?_)
          obtain ⟨rfl, rfl⟩ := hp
          refine j_iadd C dL_act_193 ?_
          exact j_top _ (aB1 v) (by unfold aB1; rw [if_neg (by rw [y]; decide)]) t1
        · refine j_iload_n C dL_act_172 rfl ?_
          refine j_bipush C (nI 15) dL_act_173 (by decide) ?_
          refine j_ishr C dL_act_175 ?_
          refine j_bipush C (nI 8) dL_act_176 (by decide) ?_
          refine j_callS2i C (ct_L_low (ad := fun _ => 0) (ws := (bw Y ad s tr me to fa se qu)) (by decide)) gw_L_47 rfl nd_L_low ⟨by decide, by decide⟩ ⟨Nat.le_of_ble_eq_true rfl, Nat.le_of_ble_eq_true rfl⟩ (Nat.le_of_ble_eq_true rfl) dL_act_178 (fun _ _ hp => ?_)
          obtain ⟨rfl, rfl⟩ := hp
          refine j_goto C 194 dL_act_181 (by decide) ?_
          exact j_top _ (aB1 v) (by unfold aB1; rw [if_pos y]) t1
    by_cases c1 : aKd v = nI 1
    · have e := c1
      refine j_top _ (nI 1) c1 ?_
      refine j_tabIn C 1 231 dL_act_109 (by decide) (by decide) (by decide) rfl (by decide) ?_
      have ea : acA s v = acPut s (aDk s v) (aTo s v) := by unfold acA; rw [if_neg c0, if_pos (Or.inl e)]
      refine j_aload_n C dL_act_231 rfl ?_
      refine j_iload C dL_act_232 rfl ?_
      refine j_iload C dL_act_234 rfl ?_
      refine j_callSW (wr := []) (st := []) C X [.ref (ad 0), .int (aDk s v), .int (aTo s v)] [0, 1, 2, 3, 4, 5, 6, 7, 8, 9] [] (hz_put G H hl) rfl rfl rfl rfl (by decide) gw_L_64 nd_L_put ⟨by decide, by decide⟩ ⟨Nat.le_of_ble_eq_true rfl, Nat.le_of_ble_eq_true rfl⟩ (Nat.le_of_ble_eq_true rfl) dL_act_236 rfl (fun r w236 hp => ?_)
      obtain ⟨v236, rfl, hp⟩ := hp
      refine j_eq (st' := [.int v236]) (ws2 := w236) rfl rfl rfl ?_
      obtain ⟨rfl, hB⟩ := hp
      exact j_reti C R dL_act_239 ⟨by rw [ea], by rw [ea]; exact hB⟩
    by_cases c2 : aKd v = nI 2
    · have e := c2
      refine j_top _ (nI 2) c2 ?_
      refine j_tabIn C 2 231 dL_act_109 (by decide) (by decide) (by decide) rfl (by decide) ?_
      have ea : acA s v = acPut s (aDk s v) (aTo s v) := by unfold acA; rw [if_neg c0, if_pos (Or.inr e)]
      refine j_aload_n C dL_act_231 rfl ?_
      refine j_iload C dL_act_232 rfl ?_
      refine j_iload C dL_act_234 rfl ?_
      refine j_callSW (wr := []) (st := []) C X [.ref (ad 0), .int (aDk s v), .int (aTo s v)] [0, 1, 2, 3, 4, 5, 6, 7, 8, 9] [] (hz_put G H hl) rfl rfl rfl rfl (by decide) gw_L_64 nd_L_put ⟨by decide, by decide⟩ ⟨Nat.le_of_ble_eq_true rfl, Nat.le_of_ble_eq_true rfl⟩ (Nat.le_of_ble_eq_true rfl) dL_act_236 rfl (fun r w236 hp => ?_)
      obtain ⟨v236, rfl, hp⟩ := hp
      refine j_eq (st' := [.int v236]) (ws2 := w236) rfl rfl rfl ?_
      obtain ⟨rfl, hB⟩ := hp
      exact j_reti C R dL_act_239 ⟨by rw [ea], by rw [ea]; exact hB⟩
    by_cases c3 : aKd v = nI 3
    · have e := c3
      refine j_top _ (nI 3) c3 ?_
      refine j_tabIn C 3 240 dL_act_109 (by decide) (by decide) (by decide) rfl (by decide) ?_
      have ea : acA s v = acAim s (aDk s v) (aTo s v) := by unfold acA; rw [if_neg c0, if_neg (fun z => z.elim c1 c2), if_pos e]
      refine j_aload_n C dL_act_240 rfl ?_
      refine j_iload C dL_act_241 rfl ?_
      refine j_iload C dL_act_243 rfl ?_
      refine j_callSW (wr := []) (st := []) C X [.ref (ad 0), .int (aDk s v), .int (aTo s v)] [0, 1, 2, 3, 4, 5, 6, 7, 8, 9] [] (hz_aim G H hl) rfl rfl rfl rfl (by decide) gw_L_66 nd_L_aim ⟨by decide, by decide⟩ ⟨Nat.le_of_ble_eq_true rfl, Nat.le_of_ble_eq_true rfl⟩ (Nat.le_of_ble_eq_true rfl) dL_act_245 rfl (fun r w245 hp => ?_)
      obtain ⟨v245, rfl, hp⟩ := hp
      refine j_eq (st' := [.int v245]) (ws2 := w245) rfl rfl rfl ?_
      obtain ⟨rfl, hB⟩ := hp
      exact j_reti C R dL_act_248 ⟨by rw [ea], by rw [ea]; exact hB⟩
    by_cases c4 : aKd v = nI 4
    · have e := c4
      refine j_top _ (nI 4) c4 ?_
      refine j_tabIn C 4 249 dL_act_109 (by decide) (by decide) (by decide) rfl (by decide) ?_
      have ea : acA s v = acAllow s (aFr s v) (aTo s v) (decide (¬ loI (v >>> (nI 14 &&& 31)) (nI 3) ≤ 0)) := by unfold acA; rw [if_neg c0, if_neg (fun z => z.elim c1 c2), if_neg c3, if_pos e]
      refine j_aload_n C dL_act_249 rfl ?_
      refine j_iload C dL_act_250 rfl ?_
      refine j_iload C dL_act_252 rfl ?_
      refine j_iload_n C dL_act_254 rfl ?_
      refine j_bipush C (nI 14) dL_act_255 (by decide) ?_
      refine j_ishr C dL_act_257 ?_
      refine j_iconst C (nI 3) dL_act_258 (by decide) ?_
      refine j_callS2i C (ct_L_low (ad := fun _ => 0) (ws := (bw Y ad s tr me to fa se qu)) (by decide)) gw_L_47 rfl nd_L_low ⟨by decide, by decide⟩ ⟨Nat.le_of_ble_eq_true rfl, Nat.le_of_ble_eq_true rfl⟩ (Nat.le_of_ble_eq_true rfl) dL_act_259 (fun _ _ hp => ?_)
      obtain ⟨rfl, rfl⟩ := hp
      refine j_bLe C  dL_act_262 dL_act_265 dL_act_266 dL_act_269 ?_
      refine j_callSW (wr := []) (st := []) C X [.ref (ad 0), .int (aFr s v), .int (aTo s v), .int (bi (decide (¬ loI (v >>> (nI 14 &&& 31)) (nI 3) ≤ 0)))] [0, 1, 2, 3, 4, 5, 6, 7, 8, 9] [] (hz_allow (z := (decide (¬ loI (v >>> (nI 14 &&& 31)) (nI 3) ≤ 0))) G H hl) rfl rfl rfl rfl (by decide) gw_L_68 nd_L_allow ⟨by decide, by decide⟩ ⟨Nat.le_of_ble_eq_true rfl, Nat.le_of_ble_eq_true rfl⟩ (Nat.le_of_ble_eq_true rfl) dL_act_270 rfl (fun r w270 hp => ?_)
      obtain ⟨v270, rfl, hp⟩ := hp
      refine j_eq (st' := [.int v270]) (ws2 := w270) rfl rfl rfl ?_
      obtain ⟨rfl, hB⟩ := hp
      exact j_reti C R dL_act_273 ⟨by rw [ea], by rw [ea]; exact hB⟩
    by_cases c5 : aKd v = nI 5
    · have e := c5
      refine j_top _ (nI 5) c5 ?_
      refine j_tabIn C 5 274 dL_act_109 (by decide) (by decide) (by decide) rfl (by decide) ?_
      have ea : acA s v = acColour s (aDk s v) (aCo v) := by unfold acA; rw [if_neg c0, if_neg (fun z => z.elim c1 c2), if_neg c3, if_neg c4, if_pos e]
      have t2 : jJ K 0 0 302 [some (.ref (ad 0)), some (.int v), some (.int (bi (aOd v))), some (.int (nI (sP s))), some (.int (aFr s v)), some (.int (aTo s v)), some (.int (aDk s v))] [.int (aCo v), .int (aDk s v), .ref (ad 0)] (bw Y ad s tr me to fa se qu) := by
        refine j_callSW (wr := []) (st := []) C X [.ref (ad 0), .int (aDk s v), .int (aCo v)] [0, 1, 2, 3, 4, 5, 6, 7, 8, 9] [] (hz_setColour G H hl) rfl rfl rfl rfl (by decide) gw_L_71 nd_L_setColour ⟨by decide, by decide⟩ ⟨Nat.le_of_ble_eq_true rfl, Nat.le_of_ble_eq_true rfl⟩ (Nat.le_of_ble_eq_true rfl) dL_act_302 rfl (fun r w302 hp => ?_)
        obtain ⟨v302, rfl, hp⟩ := hp
        refine j_eq (st' := [.int v302]) (ws2 := w302) rfl rfl rfl ?_
        obtain ⟨rfl, hB⟩ := hp
        exact j_reti C R dL_act_305 ⟨by rw [ea], by rw [ea]; exact hB⟩
      refine j_aload_n C dL_act_274 rfl ?_
      refine j_iload C dL_act_275 rfl ?_
      refine j_iload_n C dL_act_277 rfl ?_
      refine jB_if_eq C 294 dL_act_278 (by decide) (fun y => ?_) (fun y => ?_)
      · refine j_iload_n C dL_act_294 rfl ?_
        refine j_bipush C (nI 14) dL_act_295 (by decide) ?_
        refine j_ishr C dL_act_297 ?_
        refine j_iconst C (nI 2) dL_act_298 (by decide) ?_
        refine j_callS2i C (ct_L_low (ad := fun _ => 0) (ws := (bw Y ad s tr me to fa se qu)) (by decide)) gw_L_47 rfl nd_L_low ⟨by decide, by decide⟩ ⟨Nat.le_of_ble_eq_true rfl, Nat.le_of_ble_eq_true rfl⟩ (Nat.le_of_ble_eq_true rfl) dL_act_299 (fun _ _ hp => ?_)
        obtain ⟨rfl, rfl⟩ := hp
        exact j_top _ (aCo v) (by unfold aCo; rw [if_neg (by rw [y]; decide)]) t2
      · refine j_iload_n C dL_act_281 rfl ?_
        refine j_bipush C (nI 14) dL_act_282 (by decide) ?_
        refine j_ishr C dL_act_284 ?_
        refine j_iconst C (nI 4) dL_act_285 (by decide) ?_
        refine j_callS2i C (ct_L_low (ad := fun _ => 0) (ws := (bw Y ad s tr me to fa se qu)) (by decide)) gw_L_47 rfl nd_L_low ⟨by decide, by decide⟩ ⟨Nat.le_of_ble_eq_true rfl, Nat.le_of_ble_eq_true rfl⟩ (Nat.le_of_ble_eq_true rfl) dL_act_286 (fun _ _ hp => ?_)
        obtain ⟨rfl, rfl⟩ := hp
        refine j_iconst C (nI 1) dL_act_289 (by decide) ?_
        refine j_isub C dL_act_290 ?_
        refine j_goto C 302 dL_act_291 (by decide) ?_
        exact j_top _ (aCo v) (by unfold aCo; rw [if_pos y]) t2
    by_cases c6 : aKd v = nI 6
    · have e := c6
      refine j_top _ (nI 6) c6 ?_
      refine j_tabIn C 6 306 dL_act_109 (by decide) (by decide) (by decide) rfl (by decide) ?_
      have ea : acA s v = acRule s (decide (loI (v >>> (nI 14 &&& 31)) (nI 3) = 0)) := by unfold acA; rw [if_neg c0, if_neg (fun z => z.elim c1 c2), if_neg c3, if_neg c4, if_neg c5, if_pos e]
      refine j_aload_n C dL_act_306 rfl ?_
      refine j_iload_n C dL_act_307 rfl ?_
      refine j_bipush C (nI 14) dL_act_308 (by decide) ?_
      refine j_ishr C dL_act_310 ?_
      refine j_iconst C (nI 3) dL_act_311 (by decide) ?_
      refine j_callS2i C (ct_L_low (ad := fun _ => 0) (ws := (bw Y ad s tr me to fa se qu)) (by decide)) gw_L_47 rfl nd_L_low ⟨by decide, by decide⟩ ⟨Nat.le_of_ble_eq_true rfl, Nat.le_of_ble_eq_true rfl⟩ (Nat.le_of_ble_eq_true rfl) dL_act_312 (fun _ _ hp => ?_)
      obtain ⟨rfl, rfl⟩ := hp
      refine j_bN C (decide (loI (v >>> (nI 14 &&& 31)) (nI 3) = 0)) (fun c => decide_eq_true c) (fun c => decide_eq_false c) dL_act_315 dL_act_318 dL_act_319 dL_act_322 ?_
      refine j_callVZ (wr := []) (st := []) C X [.int (bi (decide (loI (v >>> (nI 14 &&& 31)) (nI 3) = 0)))] [0, 1, 2, 3, 4, 5, 6, 7, 8, 9] [] (bz_setRule (on := (decide (loI (v >>> (nI 14 &&& 31)) (nI 3) = 0))) H) rfl rfl rfl rfl (by decide) gw_L_73 nd_X0_setRule 0 0 rfl rfl rfl ⟨by decide, by decide⟩ ⟨Nat.le_of_ble_eq_true rfl, Nat.le_of_ble_eq_true rfl⟩ (Nat.le_of_ble_eq_true rfl) dL_act_323 rfl (fun r w323 hp => ?_)
      obtain ⟨v323, rfl, hp⟩ := hp
      refine j_eq (st' := [.int v323]) (ws2 := w323) rfl rfl rfl ?_
      obtain ⟨rfl, hB⟩ := hp
      refine j_bE C (sRu s) (fun c => (bi_0 _).mp c) (fun c => (bi_n0 _).mp c) dL_act_326 dL_act_329 dL_act_330 dL_act_333 ?_
      refine j_widen (Nat.zero_le 1) (Nat.zero_le 6) ?_
      exact j_reti C R dL_act_334 ⟨by rw [ea]; exact (b2_bi _).symm, by rw [ea]; exact hB⟩
    by_cases c7 : aKd v = nI 7
    · have e := c7
      refine j_top _ (nI 7) c7 ?_
      refine j_tabIn C 7 335 dL_act_109 (by decide) (by decide) (by decide) rfl (by decide) ?_
      have ea : acA s v = acBack s := by unfold acA; rw [if_neg c0, if_neg (fun z => z.elim c1 c2), if_neg c3, if_neg c4, if_neg c5, if_neg c6, if_pos e]
      refine j_aload_n C dL_act_335 rfl ?_
      refine j_callSW (wr := []) (st := []) C X [.ref (ad 0)] [0, 1, 2, 3, 4, 5, 6, 7, 8, 9] [] (hz_takeBack G H hl) rfl rfl rfl rfl (by decide) gw_L_77 nd_L_takeBack ⟨by decide, by decide⟩ ⟨Nat.le_of_ble_eq_true rfl, Nat.le_of_ble_eq_true rfl⟩ (Nat.le_of_ble_eq_true rfl) dL_act_336 rfl (fun r w336 hp => ?_)
      obtain ⟨v336, rfl, hp⟩ := hp
      refine j_eq (st' := [.int v336]) (ws2 := w336) rfl rfl rfl ?_
      obtain ⟨rfl, hB⟩ := hp
      exact j_reti C R dL_act_339 ⟨by rw [ea], by rw [ea]; exact hB⟩
    refine j_tabOutI C 340 dL_act_109 (tab_out c0 c1 c2 c3 c4 c5 c6 c7) (by decide) ?_
    have ea : acA s v = acMove s (aFr s v) (aTo s v) := by unfold acA; rw [if_neg c0, if_neg (fun z => z.elim c1 c2), if_neg c3, if_neg c4, if_neg c5, if_neg c6, if_neg c7]
    refine j_aload_n C dL_act_340 rfl ?_
    refine j_iload C dL_act_341 rfl ?_
    refine j_iload C dL_act_343 rfl ?_
    refine j_callSW (wr := []) (st := []) C X [.ref (ad 0), .int (aFr s v), .int (aTo s v)] [0, 1, 2, 3, 4, 5, 6, 7, 8, 9] [] (hz_move G H hl) rfl rfl rfl rfl (by decide) gw_L_80 nd_L_move ⟨by decide, by decide⟩ ⟨Nat.le_of_ble_eq_true rfl, Nat.le_of_ble_eq_true rfl⟩ (Nat.le_of_ble_eq_true rfl) dL_act_345 rfl (fun r w345 hp => ?_)
    obtain ⟨v345, rfl, hp⟩ := hp
    refine j_eq (st' := [.int v345]) (ws2 := w345) rfl rfl rfl ?_
    obtain ⟨rfl, hB⟩ := hp
    exact j_reti C R dL_act_348 ⟨by rw [ea], by rw [ea]; exact hB⟩
  refine j_iload_n C dL_act_42 rfl ?_
  refine jB_if_eq C 61 dL_act_43 (by decide) (fun y => ?_) (fun y => ?_)
  · refine j_iload C dL_act_61 rfl ?_
    refine j_iconst C (nI 1) dL_act_63 (by decide) ?_
    refine j_iadd C dL_act_64 ?_
    refine j_iload_n C dL_act_65 rfl ?_
    refine j_bipush C (nI 7) dL_act_66 (by decide) ?_
    refine j_ishr C dL_act_68 ?_
    refine j_iload_n C dL_act_69 rfl ?_
    refine j_iconst C (nI 1) dL_act_70 (by decide) ?_
    refine j_isub C dL_act_71 ?_
    refine j_callS2i C (ct_L_low (ad := fun _ => 0) (ws := (bw Y ad s tr me to fa se qu)) (ne_p1 (by omega) (by omega))) gw_L_47 rfl nd_L_low ⟨by decide, by decide⟩ ⟨Nat.le_of_ble_eq_true rfl, Nat.le_of_ble_eq_true rfl⟩ (Nat.le_of_ble_eq_true rfl) dL_act_72 (fun _ _ hp => ?_)
    obtain ⟨rfl, rfl⟩ := hp
    refine j_iadd C dL_act_75 ?_
    refine j_iload_n C dL_act_76 rfl ?_
    refine j_irem C dL_act_77 (ne_p (by omega) (by omega)) ?_
    exact j_top _ (aTo s v) (by unfold aTo; rw [if_neg (by rw [y]; decide)]; rfl) tail
  · refine j_iload_n C dL_act_46 rfl ?_
    refine j_bipush C (nI 7) dL_act_47 (by decide) ?_
    refine j_ishr C dL_act_49 ?_
    refine j_iload_n C dL_act_50 rfl ?_
    refine j_iconst C (nI 2) dL_act_51 (by decide) ?_
    refine j_iadd C dL_act_52 ?_
    refine j_callS2i C (ct_L_low (ad := fun _ => 0) (ws := (bw Y ad s tr me to fa se qu)) (ne_p2 (by omega))) gw_L_47 rfl nd_L_low ⟨by decide, by decide⟩ ⟨Nat.le_of_ble_eq_true rfl, Nat.le_of_ble_eq_true rfl⟩ (Nat.le_of_ble_eq_true rfl) dL_act_53 (fun _ _ hp => ?_)
    obtain ⟨rfl, rfl⟩ := hp
    refine j_iconst C (nI 1) dL_act_56 (by decide) ?_
    refine j_isub C dL_act_57 ?_
    refine j_goto C 78 dL_act_58 (by decide) ?_
    exact j_top _ (aTo s v) (by unfold aTo; rw [if_pos y]) tail
end
section
/-! two benches are alike -/
abbrev rm_L_areAlike : Room := { frames := 6, cells := 0, slots := 0, locals := 142 }
set_option maxHeartbeats 4000000 in
set_option maxRecDepth 100000 in
theorem ct_L_areAlike {l : Launch} {D : va_G} {Y : jy_T} {ad ad2 : Nat → Nat} {s : sT} {tr tr2 : Nat → Nat} {me me2 : Bool} {to fa se qu to2 fa2 se2 qu2 : Nat → Int32} (G : GD s) (H : Hd s tr me fa) (H2 : Hd s tr2 me2 fa2) (hl : l.stackTraces = false) :
    MZ l yL_areAlike cL_areAlike 2 (some .boolean) rm_L_areAlike D Y [.ref (ad 0), .ref (ad2 0)] ((bw Y ad s tr me to fa se qu) ++ (bw Y ad2 s tr2 me2 to2 fa2 se2 qu2)) (jI (fun r w => r = nI 1 ∧ ∃ w1 w2, Bw Y ad s w1 ∧ Bw Y ad2 s w2 ∧ w = w1 ++ w2)) := by
  refine j_enterZ (by decide) (Nat.le_of_ble_eq_true rfl) (fun v hv => by simp only [List.mem_cons, List.not_mem_nil, or_false] at hv; rcases hv with rfl | rfl <;> rfl) (fun K hl2 hD C R X => ?_)
  subst hl2; subst hD
  have C : jC cL_areAlike RL Y rm_L_areAlike 2 K := C
  have R : jR Y (some .boolean) 0 0 (jI (fun r w => r = nI 1 ∧ ∃ w1 w2, Bw Y ad s w1 ∧ Bw Y ad2 s w2 ∧ w = w1 ++ w2)) K := R
  refine j_eq (lo' := [some (.ref (ad 0)), some (.ref (ad2 0))]) rfl rfl rfl ?_
  refine j_aload_n C dL_areAlike_0 rfl ?_
  refine j_callVZ (wr := (bw Y ad2 s tr2 me2 to2 fa2 se2 qu2)) (st := []) C X [] [0, 1, 2, 3, 4, 5, 6, 7, 8, 9] [10, 11, 12, 13, 14, 15, 16, 17, 18, 19] (bz_pegs) rfl rfl rfl rfl (by decide) gw_L_52 nd_X0_pegs 0 0 rfl rfl rfl ⟨by decide, by decide⟩ ⟨Nat.le_of_ble_eq_true rfl, Nat.le_of_ble_eq_true rfl⟩ (Nat.le_of_ble_eq_true rfl) dL_areAlike_1 rfl (fun r w1 hp => ?_)
  obtain ⟨v1, rfl, hp⟩ := hp
  refine j_eq (st' := [.int v1]) (ws2 := ((bw Y ad2 s tr2 me2 to2 fa2 se2 qu2) ++ w1)) rfl rfl rfl ?_
  obtain ⟨rfl, rfl⟩ := hp
  refine j_aload_n C dL_areAlike_4 rfl ?_
  refine j_callVZ (wr := (bw Y ad s tr me to fa se qu)) (st := [.int (nI (sP s))]) C X [] [0, 1, 2, 3, 4, 5, 6, 7, 8, 9] [10, 11, 12, 13, 14, 15, 16, 17, 18, 19] (bz_pegs) rfl rfl rfl rfl (by decide) gw_L_52 nd_X0_pegs 0 0 rfl rfl rfl ⟨by decide, by decide⟩ ⟨Nat.le_of_ble_eq_true rfl, Nat.le_of_ble_eq_true rfl⟩ (Nat.le_of_ble_eq_true rfl) dL_areAlike_5 rfl (fun r w5 hp => ?_)
  obtain ⟨v5, rfl, hp⟩ := hp
  refine j_eq (st' := [.int v5, .int (nI (sP s))]) (ws2 := ((bw Y ad s tr me to fa se qu) ++ w5)) rfl rfl rfl ?_
  obtain ⟨rfl, rfl⟩ := hp
  refine j_icmp_ne C 81 dL_areAlike_8 (by decide) (fun c => absurd rfl c) (fun _ => ?_)
  refine j_aload_n C dL_areAlike_11 rfl ?_
  refine j_callVZ (wr := (bw Y ad2 s tr2 me2 to2 fa2 se2 qu2)) (st := []) C X [] [0, 1, 2, 3, 4, 5, 6, 7, 8, 9] [10, 11, 12, 13, 14, 15, 16, 17, 18, 19] (bz_disks) rfl rfl rfl rfl (by decide) gw_L_55 nd_X0_disks 0 0 rfl rfl rfl ⟨by decide, by decide⟩ ⟨Nat.le_of_ble_eq_true rfl, Nat.le_of_ble_eq_true rfl⟩ (Nat.le_of_ble_eq_true rfl) dL_areAlike_12 rfl (fun r w12 hp => ?_)
  obtain ⟨v12, rfl, hp⟩ := hp
  refine j_eq (st' := [.int v12]) (ws2 := ((bw Y ad2 s tr2 me2 to2 fa2 se2 qu2) ++ w12)) rfl rfl rfl ?_
  obtain ⟨rfl, rfl⟩ := hp
  refine j_aload_n C dL_areAlike_15 rfl ?_
  refine j_callVZ (wr := (bw Y ad s tr me to fa se qu)) (st := [.int (nI (sN s))]) C X [] [0, 1, 2, 3, 4, 5, 6, 7, 8, 9] [10, 11, 12, 13, 14, 15, 16, 17, 18, 19] (bz_disks) rfl rfl rfl rfl (by decide) gw_L_55 nd_X0_disks 0 0 rfl rfl rfl ⟨by decide, by decide⟩ ⟨Nat.le_of_ble_eq_true rfl, Nat.le_of_ble_eq_true rfl⟩ (Nat.le_of_ble_eq_true rfl) dL_areAlike_16 rfl (fun r w16 hp => ?_)
  obtain ⟨v16, rfl, hp⟩ := hp
  refine j_eq (st' := [.int v16, .int (nI (sN s))]) (ws2 := ((bw Y ad s tr me to fa se qu) ++ w16)) rfl rfl rfl ?_
  obtain ⟨rfl, rfl⟩ := hp
  refine j_icmp_ne C 81 dL_areAlike_19 (by decide) (fun c => absurd rfl c) (fun _ => ?_)
  refine j_aload_n C dL_areAlike_22 rfl ?_
  refine j_callVZ (wr := (bw Y ad2 s tr2 me2 to2 fa2 se2 qu2)) (st := []) C X [] [0, 1, 2, 3, 4, 5, 6, 7, 8, 9] [10, 11, 12, 13, 14, 15, 16, 17, 18, 19] (bz_moves) rfl rfl rfl rfl (by decide) gw_L_82 nd_X0_moves 0 0 rfl rfl rfl ⟨by decide, by decide⟩ ⟨Nat.le_of_ble_eq_true rfl, Nat.le_of_ble_eq_true rfl⟩ (Nat.le_of_ble_eq_true rfl) dL_areAlike_23 rfl (fun r w23 hp => ?_)
  obtain ⟨v23, rfl, hp⟩ := hp
  refine j_eq (st' := [.int v23]) (ws2 := ((bw Y ad2 s tr2 me2 to2 fa2 se2 qu2) ++ w23)) rfl rfl rfl ?_
  obtain ⟨rfl, rfl⟩ := hp
  refine j_aload_n C dL_areAlike_26 rfl ?_
  refine j_callVZ (wr := (bw Y ad s tr me to fa se qu)) (st := [.int (nI (sM s))]) C X [] [0, 1, 2, 3, 4, 5, 6, 7, 8, 9] [10, 11, 12, 13, 14, 15, 16, 17, 18, 19] (bz_moves) rfl rfl rfl rfl (by decide) gw_L_82 nd_X0_moves 0 0 rfl rfl rfl ⟨by decide, by decide⟩ ⟨Nat.le_of_ble_eq_true rfl, Nat.le_of_ble_eq_true rfl⟩ (Nat.le_of_ble_eq_true rfl) dL_areAlike_27 rfl (fun r w27 hp => ?_)
  obtain ⟨v27, rfl, hp⟩ := hp
  refine j_eq (st' := [.int v27, .int (nI (sM s))]) (ws2 := ((bw Y ad s tr me to fa se qu) ++ w27)) rfl rfl rfl ?_
  obtain ⟨rfl, rfl⟩ := hp
  refine j_icmp_ne C 81 dL_areAlike_30 (by decide) (fun c => absurd rfl c) (fun _ => ?_)
  refine j_aload_n C dL_areAlike_33 rfl ?_
  refine j_callVZ (wr := (bw Y ad2 s tr2 me2 to2 fa2 se2 qu2)) (st := []) C X [] [0, 1, 2, 3, 4, 5, 6, 7, 8, 9] [10, 11, 12, 13, 14, 15, 16, 17, 18, 19] (bz_arrangement) rfl rfl rfl rfl (by decide) gw_L_85 nd_X0_arrangement 0 0 rfl rfl rfl ⟨by decide, by decide⟩ ⟨Nat.le_of_ble_eq_true rfl, Nat.le_of_ble_eq_true rfl⟩ (Nat.le_of_ble_eq_true rfl) dL_areAlike_34 rfl (fun r w34 hp => ?_)
  obtain ⟨v34, rfl, hp⟩ := hp
  refine j_eq (st' := [.int v34]) (ws2 := ((bw Y ad2 s tr2 me2 to2 fa2 se2 qu2) ++ w34)) rfl rfl rfl ?_
  obtain ⟨rfl, rfl⟩ := hp
  refine j_aload_n C dL_areAlike_37 rfl ?_
  refine j_callVZ (wr := (bw Y ad s tr me to fa se qu)) (st := [.int (nI (sA s))]) C X [] [0, 1, 2, 3, 4, 5, 6, 7, 8, 9] [10, 11, 12, 13, 14, 15, 16, 17, 18, 19] (bz_arrangement) rfl rfl rfl rfl (by decide) gw_L_85 nd_X0_arrangement 0 0 rfl rfl rfl ⟨by decide, by decide⟩ ⟨Nat.le_of_ble_eq_true rfl, Nat.le_of_ble_eq_true rfl⟩ (Nat.le_of_ble_eq_true rfl) dL_areAlike_38 rfl (fun r w38 hp => ?_)
  obtain ⟨v38, rfl, hp⟩ := hp
  refine j_eq (st' := [.int v38, .int (nI (sA s))]) (ws2 := ((bw Y ad s tr me to fa se qu) ++ w38)) rfl rfl rfl ?_
  obtain ⟨rfl, rfl⟩ := hp
  refine j_icmp_ne C 81 dL_areAlike_41 (by decide) (fun c => absurd rfl c) (fun _ => ?_)
  refine j_aload_n C dL_areAlike_44 rfl ?_
  refine j_callVZ (wr := (bw Y ad2 s tr2 me2 to2 fa2 se2 qu2)) (st := []) C X [] [0, 1, 2, 3, 4, 5, 6, 7, 8, 9] [10, 11, 12, 13, 14, 15, 16, 17, 18, 19] (bz_goal) rfl rfl rfl rfl (by decide) gw_L_88 nd_X0_goal 0 0 rfl rfl rfl ⟨by decide, by decide⟩ ⟨Nat.le_of_ble_eq_true rfl, Nat.le_of_ble_eq_true rfl⟩ (Nat.le_of_ble_eq_true rfl) dL_areAlike_45 rfl (fun r w45 hp => ?_)
  obtain ⟨v45, rfl, hp⟩ := hp
  refine j_eq (st' := [.int v45]) (ws2 := ((bw Y ad2 s tr2 me2 to2 fa2 se2 qu2) ++ w45)) rfl rfl rfl ?_
  obtain ⟨rfl, rfl⟩ := hp
  refine j_aload_n C dL_areAlike_48 rfl ?_
  refine j_callVZ (wr := (bw Y ad s tr me to fa se qu)) (st := [.int (nI (sB s))]) C X [] [0, 1, 2, 3, 4, 5, 6, 7, 8, 9] [10, 11, 12, 13, 14, 15, 16, 17, 18, 19] (bz_goal) rfl rfl rfl rfl (by decide) gw_L_88 nd_X0_goal 0 0 rfl rfl rfl ⟨by decide, by decide⟩ ⟨Nat.le_of_ble_eq_true rfl, Nat.le_of_ble_eq_true rfl⟩ (Nat.le_of_ble_eq_true rfl) dL_areAlike_49 rfl (fun r w49 hp => ?_)
  obtain ⟨v49, rfl, hp⟩ := hp
  refine j_eq (st' := [.int v49, .int (nI (sB s))]) (ws2 := ((bw Y ad s tr me to fa se qu) ++ w49)) rfl rfl rfl ?_
  obtain ⟨rfl, rfl⟩ := hp
  refine j_icmp_ne C 81 dL_areAlike_52 (by decide) (fun c => absurd rfl c) (fun _ => ?_)
  refine j_aload_n C dL_areAlike_55 rfl ?_
  refine j_callVZ (wr := (bw Y ad2 s tr2 me2 to2 fa2 se2 qu2)) (st := []) C X [] [0, 1, 2, 3, 4, 5, 6, 7, 8, 9] [10, 11, 12, 13, 14, 15, 16, 17, 18, 19] (bz_way G H) rfl rfl rfl rfl (by decide) gw_L_91 nd_X0_way 0 0 rfl rfl rfl ⟨by decide, by decide⟩ ⟨Nat.le_of_ble_eq_true rfl, Nat.le_of_ble_eq_true rfl⟩ (Nat.le_of_ble_eq_true rfl) dL_areAlike_56 rfl (fun r w56 hp => ?_)
  obtain ⟨v56, rfl, hp⟩ := hp
  refine j_eq (st' := [.int v56]) (ws2 := ((bw Y ad2 s tr2 me2 to2 fa2 se2 qu2) ++ w56)) rfl rfl rfl ?_
  obtain ⟨ds0, hd0, rfl, trw0, mew0, tow0, faw0, sew0, quw0, Hw0, rfl⟩ := hp
  refine j_aload_n C dL_areAlike_59 rfl ?_
  refine j_callVZ (wr := (bw Y ad s trw0 mew0 tow0 faw0 sew0 quw0)) (st := [.int (oI (ds0 (sA s)))]) C X [] [0, 1, 2, 3, 4, 5, 6, 7, 8, 9] [10, 11, 12, 13, 14, 15, 16, 17, 18, 19] (bz_way G H2) rfl rfl rfl rfl (by decide) gw_L_91 nd_X0_way 0 0 rfl rfl rfl ⟨by decide, by decide⟩ ⟨Nat.le_of_ble_eq_true rfl, Nat.le_of_ble_eq_true rfl⟩ (Nat.le_of_ble_eq_true rfl) dL_areAlike_60 rfl (fun r w60 hp => ?_)
  obtain ⟨v60, rfl, hp⟩ := hp
  refine j_eq (st' := [.int v60, .int (oI (ds0 (sA s)))]) (ws2 := ((bw Y ad s trw0 mew0 tow0 faw0 sew0 quw0) ++ w60)) rfl rfl rfl ?_
  obtain ⟨ds1, hd1, rfl, trw1, mew1, tow1, faw1, sew1, quw1, Hw1, rfl⟩ := hp
  refine j_icmp_ne C 81 dL_areAlike_63 (by decide) (fun c => absurd (show oI (ds0 (sA s)) = oI (ds1 (sA s)) by rw [srD_one hd0 hd1]) c) (fun _ => ?_)
  refine j_aload_n C dL_areAlike_66 rfl ?_
  refine j_callVZ (wr := (bw Y ad2 s trw1 mew1 tow1 faw1 sew1 quw1)) (st := []) C X [] [0, 1, 2, 3, 4, 5, 6, 7, 8, 9] [10, 11, 12, 13, 14, 15, 16, 17, 18, 19] (bz_reachable G Hw0) rfl rfl rfl rfl (by decide) gw_L_94 nd_X0_reachable 0 0 rfl rfl rfl ⟨by decide, by decide⟩ ⟨Nat.le_of_ble_eq_true rfl, Nat.le_of_ble_eq_true rfl⟩ (Nat.le_of_ble_eq_true rfl) dL_areAlike_67 rfl (fun r w67 hp => ?_)
  obtain ⟨v67, rfl, hp⟩ := hp
  refine j_eq (st' := [.int v67]) (ws2 := ((bw Y ad2 s trw1 mew1 tow1 faw1 sew1 quw1) ++ w67)) rfl rfl rfl ?_
  obtain ⟨fo0, ⟨rd0, hr0⟩, rfl, trr0, mer0, tor0, far0, ser0, qur0, Hr0, rfl⟩ := hp
  refine j_aload_n C dL_areAlike_70 rfl ?_
  refine j_callVZ (wr := (bw Y ad s trr0 mer0 tor0 far0 ser0 qur0)) (st := [.int (nI fo0)]) C X [] [0, 1, 2, 3, 4, 5, 6, 7, 8, 9] [10, 11, 12, 13, 14, 15, 16, 17, 18, 19] (bz_reachable G Hw1) rfl rfl rfl rfl (by decide) gw_L_94 nd_X0_reachable 0 0 rfl rfl rfl ⟨by decide, by decide⟩ ⟨Nat.le_of_ble_eq_true rfl, Nat.le_of_ble_eq_true rfl⟩ (Nat.le_of_ble_eq_true rfl) dL_areAlike_71 rfl (fun r w71 hp => ?_)
  obtain ⟨v71, rfl, hp⟩ := hp
  refine j_eq (st' := [.int v71, .int (nI fo0)]) (ws2 := ((bw Y ad s trr0 mer0 tor0 far0 ser0 qur0) ++ w71)) rfl rfl rfl ?_
  obtain ⟨fo1, ⟨rd1, hr1⟩, rfl, trr1, mer1, tor1, far1, ser1, qur1, Hr1, rfl⟩ := hp
  refine j_icmp_ne C 81 dL_areAlike_74 (by decide) (fun c => absurd (show nI fo0 = nI fo1 by rw [srF_one hr0 hr1]) c) (fun _ => ?_)
  refine j_iconst C (nI 1) dL_areAlike_77 (by decide) ?_
  refine j_goto C 82 dL_areAlike_78 (by decide) ?_
  exact j_retz C R dL_areAlike_82 rfl ⟨rfl, _, _, Bw.of Hr0, Bw.of Hr1, rfl⟩
end
section
/-! the arrangement by its disks; tops; moves that are possible -/
theorem tp_of {P N a e g : Nat} (he : e < N) (h : dg P a e = g) : ∃ d, tp P N a g = some d ∧ d ≤ e := by
  cases q : tp P N a g with
  | none => exact absurd h (frm_none.mp q e (Nat.zero_le _) he)
  | some d =>
    refine ⟨d, rfl, ?_⟩
    by_cases w : d ≤ e
    · exact w
    · exact absurd h ((frm_some q).2.2.2 e (Nat.zero_le _) (by omega))
theorem sTp_lt {s : sT} (G : GD s) {g : Nat} : ∀ j, sTp s g = some j → j < 2 ^ 31 := fun j h => by
  have h : tp (sP s) (sN s) (sA s) g = some j := h
  have := tp_lt h; have := G.N6; omega
theorem sPs_ft {s : sT} {f t : Nat} (h : sPs s f t = true) : f ≠ t ∧ ∃ d, sTp s f = some d ∧ ∀ e, sTp s t = some e → d < e := ftB_some (psB_iff.mp h).1
theorem sPs_no {s : sT} {g : Nat} : sPs s g g = false := by
  cases h : sPs s g g with
  | false => rfl
  | true => exact absurd rfl (sPs_ft h).1
abbrev rm_L_isNowSo : Room := { frames := 7, cells := 120, slots := 720, locals := 113 }
set_option maxHeartbeats 4000000 in
set_option maxRecDepth 100000 in
theorem now_1 {K : jk_T} {Y : jy_T} {ad : Nat → Nat} {s : sT} (C : jC cL_isNowSo RL Y rm_L_isNowSo 8 K) (X : jX K) (G : GD s) (hl : K.1.2.1.stackTraces = false) {tr : Nat → Nat} {me : Bool} {to fa se qu : Nat → Int32} (kx : ∀ k n, k ≤ 6 → n ≤ 36 → jJ K k n 34 [some (.ref (ad 0)), some (.int (nI (sP s))), some (.int (nI (hor (sP s) (sDg s) 0 (sN s - 0)))), some (.int (nI 0 - nI 1)), none, none, none, none] [] (bw Y ad s tr me to fa se qu)) :
    ∀ (j k n : Nat), j ≤ sN s → k + j ≤ 6 → n + 6 * j ≤ 36 → jJ K k n 14 [some (.ref (ad 0)), some (.int (nI (sP s))), some (.int (nI (hor (sP s) (sDg s) j (sN s - j)))), some (.int (nI j - nI 1)), none, none, none, none] [] (bw Y ad s tr me to fa se qu) := by
  have hP5 := G.P5
  have hN6 := G.N6
  intro j
  induction j with
  | zero =>
    intro k n hj hk hn
    refine j_iload_n C dL_isNowSo_14 rfl ?_
    refine j_if_lt C 34 dL_isNowSo_15 (by decide) (fun _ => ?_) (fun c => absurd (by decide) c)
    exact kx k n (by omega) (by omega)
  | succ j ih =>
    intro k n hj hk hn
    rw [nI_pr]
    refine j_iload_n C dL_isNowSo_14 rfl ?_
    refine j_if_lt C 34 dL_isNowSo_15 (by decide) (fun c => absurd c (nI_nlt0 (by omega))) (fun _ => ?_)
    refine j_iload_n C dL_isNowSo_18 rfl ?_
    refine j_iload_n C dL_isNowSo_19 rfl ?_
    refine j_imul C dL_isNowSo_20 ?_
    refine j_top _ (nI (sP s * hor (sP s) (sDg s) (j + 1) (sN s - (j + 1)))) (pk_mul _ _) ?_
    refine j_aload_n C dL_isNowSo_21 rfl ?_
    refine j_iload_n C dL_isNowSo_22 rfl ?_
    refine j_callVZ (wr := []) (st := [.int (nI (sP s * hor (sP s) (sDg s) (j + 1) (sN s - (j + 1))))]) C X [.int (nI j)] [0, 1, 2, 3, 4, 5, 6, 7, 8, 9] [] (bz_pegOf G hl (show j < sN s by omega)) rfl rfl rfl rfl (by decide) gw_L_97 nd_X0_pegOf 0 0 rfl rfl rfl ⟨by decide, by decide⟩ ⟨(show k + 1 ≤ 120 by omega), (show n + 6 ≤ 720 by omega)⟩ (Nat.le_of_ble_eq_true rfl) dL_isNowSo_23 rfl (fun r w23 hp => ?_)
    obtain ⟨v23, rfl, hp⟩ := hp
    refine j_eq (st' := [.int v23, .int (nI (sP s * hor (sP s) (sDg s) (j + 1) (sN s - (j + 1))))]) (ws2 := w23) rfl rfl rfl ?_
    obtain ⟨rfl, rfl⟩ := hp
    refine j_iadd C dL_isNowSo_26 ?_
    refine j_top _ (nI (sP s * hor (sP s) (sDg s) (j + 1) (sN s - (j + 1)) + sDg s j)) (nI_add _ _) ?_
    refine j_istore_2 C dL_isNowSo_27 (by decide) ?_
    rw [show sP s * hor (sP s) (sDg s) (j + 1) (sN s - (j + 1)) + sDg s j = hor (sP s) (sDg s) j (sN s - j) by rw [show sN s - j = sN s - (j + 1) + 1 by omega]; rfl]
    refine j_iinc_3 C (nI j - nI 1) (nI_m1 _) dL_isNowSo_28 ?_
    refine j_goto C 14 dL_isNowSo_31 (by decide) ?_
    exact ih (k + 1) (n + 6) (by omega) (by omega) (by omega)
set_option maxHeartbeats 4000000 in
set_option maxRecDepth 100000 in
theorem now_3 {K : jk_T} {Y : jy_T} {ad : Nat → Nat} {s : sT} (C : jC cL_isNowSo RL Y rm_L_isNowSo 8 K) (X : jX K) (G : GD s) (hl : K.1.2.1.stackTraces = false) {g k0 n0 : Nat} {l2 l7 : Option Value} (hg : g < sP s) {tr : Nat → Nat} {me : Bool} {to fa se qu : Nat → Int32} (kx : ∀ k n l6, k ≤ k0 → n ≤ n0 → jJ K k n 154 [some (.ref (ad 0)), some (.int (nI (sP s))), l2, some (.int (nI 1)), some (.int (nI g)), some (.int (oI (sTp s g))), l6, l7] [] (bw Y ad s tr me to fa se qu)) (h0 : k0 ≤ 120) (h1 : n0 ≤ 720) :
    ∀ (f e k n : Nat), sN s ≤ e + f → e ≤ sN s → k + f ≤ k0 → n + 6 * f ≤ n0 → jJ K k n 106 [some (.ref (ad 0)), some (.int (nI (sP s))), l2, some (.int (nI 1)), some (.int (nI g)), some (.int (oI (sTp s g))), some (.int (nI e)), l7] [] (bw Y ad s tr me to fa se qu) := by
  have hP5 := G.P5
  have hN6 := G.N6
  intro f
  induction f with
  | zero =>
    intro e k n hf he hk hn
    refine j_iload C dL_isNowSo_106 rfl ?_
    refine j_aload_n C dL_isNowSo_108 rfl ?_
    refine j_callVZ (wr := []) (st := [.int (nI e)]) C X [] [0, 1, 2, 3, 4, 5, 6, 7, 8, 9] [] (bz_disks) rfl rfl rfl rfl (by decide) gw_L_55 nd_X0_disks 0 0 rfl rfl rfl ⟨by decide, by decide⟩ ⟨(show k + 0 ≤ 120 by omega), (show n + 0 ≤ 720 by omega)⟩ (Nat.le_of_ble_eq_true rfl) dL_isNowSo_109 rfl (fun r w109 hp => ?_)
    obtain ⟨v109, rfl, hp⟩ := hp
    refine j_eq (st' := [.int v109, .int (nI e)]) (ws2 := w109) rfl rfl rfl ?_
    obtain ⟨rfl, rfl⟩ := hp
    refine jN_icmp_ge C 154 (by omega) (by omega) dL_isNowSo_112 (by decide) (fun _ => ?_) (fun c => ?_)
    · exact kx k n _ (by omega) (by omega)
    · omega
  | succ f ih =>
    intro e k n hf he hk hn
    refine j_iload C dL_isNowSo_106 rfl ?_
    refine j_aload_n C dL_isNowSo_108 rfl ?_
    refine j_callVZ (wr := []) (st := [.int (nI e)]) C X [] [0, 1, 2, 3, 4, 5, 6, 7, 8, 9] [] (bz_disks) rfl rfl rfl rfl (by decide) gw_L_55 nd_X0_disks 0 0 rfl rfl rfl ⟨by decide, by decide⟩ ⟨(show k + 0 ≤ 120 by omega), (show n + 0 ≤ 720 by omega)⟩ (Nat.le_of_ble_eq_true rfl) dL_isNowSo_109 rfl (fun r w109 hp => ?_)
    obtain ⟨v109, rfl, hp⟩ := hp
    refine j_eq (st' := [.int v109, .int (nI e)]) (ws2 := w109) rfl rfl rfl ?_
    obtain ⟨rfl, rfl⟩ := hp
    refine jN_icmp_ge C 154 (by omega) (by omega) dL_isNowSo_112 (by decide) (fun _ => ?_) (fun c => ?_)
    · exact kx k n _ (by omega) (by omega)
    · have hds := dg_lt (a := sA s) (d := e) G.P0
      have tail : jJ K (k + 1) (n + 6) 142 [some (.ref (ad 0)), some (.int (nI (sP s))), l2, some (.int (nI 1)), some (.int (nI g)), some (.int (oI (sTp s g))), some (.int (nI e)), l7] [] (bw Y ad s tr me to fa se qu) := by
        refine j_iconst C (nI 1) dL_isNowSo_142 (by decide) ?_
        refine j_goto C 147 dL_isNowSo_143 (by decide) ?_
        refine j_istore_3 C dL_isNowSo_147 (by decide) ?_
        refine j_iinc_6 C (nI (e + 1)) (nI_p1 e) dL_isNowSo_148 ?_
        refine j_goto C 106 dL_isNowSo_151 (by decide) ?_
        exact ih (e + 1) (k + 1) (n + 6) (by omega) (by omega) (by omega) (by omega)
      refine j_iload_n C dL_isNowSo_115 rfl ?_
      refine j_if_eq C 146 dL_isNowSo_116 (by decide) (fun c => absurd c (by decide)) (fun _ => ?_)
      refine j_aload_n C dL_isNowSo_119 rfl ?_
      refine j_iload C dL_isNowSo_120 rfl ?_
      refine j_callVZ (wr := []) (st := []) C X [.int (nI e)] [0, 1, 2, 3, 4, 5, 6, 7, 8, 9] [] (bz_pegOf G hl c) rfl rfl rfl rfl (by decide) gw_L_97 nd_X0_pegOf 0 0 rfl rfl rfl ⟨by decide, by decide⟩ ⟨(show k + 0 + 1 ≤ 120 by omega), (show n + 0 + 6 ≤ 720 by omega)⟩ (Nat.le_of_ble_eq_true rfl) dL_isNowSo_122 rfl (fun r w122 hp => ?_)
      obtain ⟨v122, rfl, hp⟩ := hp
      refine j_eq (st' := [.int v122]) (ws2 := w122) rfl rfl rfl ?_
      obtain ⟨rfl, rfl⟩ := hp
      refine j_iload C dL_isNowSo_125 rfl ?_
      refine jN_icmp_ne C 142 (by show dg (sP s) (sA s) e < 2 ^ 31; omega) (by omega) dL_isNowSo_127 (by decide) (fun _ => tail) (fun q => ?_)
      obtain ⟨d, hd, hde⟩ := tp_of c q
      have hd : sTp s g = some d := hd
      refine j_eq (lo' := [some (.ref (ad 0)), some (.int (nI (sP s))), l2, some (.int (nI 1)), some (.int (nI g)), some (.int (nI d)), some (.int (nI e)), l7]) (by rw [hd]; rfl) rfl rfl ?_
      have tail : jJ K (k + 1) (n + 6) 142 [some (.ref (ad 0)), some (.int (nI (sP s))), l2, some (.int (nI 1)), some (.int (nI g)), some (.int (nI d)), some (.int (nI e)), l7] [] (bw Y ad s tr me to fa se qu) := by rw [hd] at tail; exact tail
      refine j_iload C dL_isNowSo_130 rfl ?_
      refine j_if_lt C 146 dL_isNowSo_132 (by decide) (fun z => absurd z (nI_nlt0 (by omega))) (fun _ => ?_)
      refine j_iload C dL_isNowSo_135 rfl ?_
      refine j_iload C dL_isNowSo_137 rfl ?_
      exact jN_icmp_gt C 146 (by omega) (by omega) dL_isNowSo_139 (by decide) (fun z => absurd z (by omega)) (fun _ => tail)
set_option maxHeartbeats 4000000 in
set_option maxRecDepth 100000 in
theorem now_4 {K : jk_T} {Y : jy_T} {ad : Nat → Nat} {s : sT} (C : jC cL_isNowSo RL Y rm_L_isNowSo 8 K) (X : jX K) (G : GD s) (hl : K.1.2.1.stackTraces = false) {g k0 n0 : Nat} {l2 : Option Value} (hg : g < sP s) (kx : ∀ k n l6 l7 w, k ≤ k0 → n ≤ n0 → Bw Y ad s w → jJ K k n 215 [some (.ref (ad 0)), some (.int (nI (sP s))), l2, some (.int (nI 1)), some (.int (nI g)), some (.int (oI (sTp s g))), l6, l7] [] w) (h0 : k0 ≤ 120) (h1 : n0 ≤ 720) :
    ∀ (f e k n : Nat) (l7 : Option Value) (w : va_W), sP s ≤ e + f → e ≤ sP s → k + 2 * f ≤ k0 → n + 12 * f ≤ n0 → Bw Y ad s w → jJ K k n 157 [some (.ref (ad 0)), some (.int (nI (sP s))), l2, some (.int (nI 1)), some (.int (nI g)), some (.int (oI (sTp s g))), some (.int (nI e)), l7] [] w := by
  have hP5 := G.P5
  intro f
  induction f with
  | zero =>
    intro e k n l7 w hf he hk hn hB
    refine j_iload C dL_isNowSo_157 rfl ?_
    refine j_iload_n C dL_isNowSo_159 rfl ?_
    refine jN_icmp_ge C 215 (by omega) (by omega) dL_isNowSo_160 (by decide) (fun _ => ?_) (fun c => ?_)
    · exact kx _ _ _ _ _ (by omega) (by omega) hB
    · omega
  | succ f ih =>
    intro e k n l7 w hf he hk hn hB
    obtain ⟨tr, me, to, fa, se, qu, H, rfl⟩ := hB
    refine j_iload C dL_isNowSo_157 rfl ?_
    refine j_iload_n C dL_isNowSo_159 rfl ?_
    refine jN_icmp_ge C 215 (by omega) (by omega) dL_isNowSo_160 (by decide) (fun _ => ?_) (fun c => ?_)
    · exact kx _ _ _ _ _ (by omega) (by omega) (Bw.of H)
    · refine j_aload_n C dL_isNowSo_163 rfl ?_
      refine j_iload C dL_isNowSo_164 rfl ?_
      refine j_callVZ (wr := []) (st := []) C X [.int (nI e)] [0, 1, 2, 3, 4, 5, 6, 7, 8, 9] [] (bz_top G H hl c) rfl rfl rfl rfl (by decide) gw_L_101 nd_X0_top 0 0 rfl rfl rfl ⟨by decide, by decide⟩ ⟨(show k + 1 ≤ 120 by omega), (show n + 6 ≤ 720 by omega)⟩ (Nat.le_of_ble_eq_true rfl) dL_isNowSo_166 rfl (fun r w166 hp => ?_)
      obtain ⟨v166, rfl, hp⟩ := hp
      refine j_eq (st' := [.int v166]) (ws2 := w166) rfl rfl rfl ?_
      obtain ⟨rfl, tr166, me166, to166, fa166, se166, qu166, H166, rfl⟩ := hp
      refine j_istore_7 C dL_isNowSo_169 (by decide) ?_
      refine j_iload_n C dL_isNowSo_171 rfl ?_
      refine j_if_eq C 207 dL_isNowSo_172 (by decide) (fun c => absurd c (by decide)) (fun _ => ?_)
      refine j_aload_n C dL_isNowSo_175 rfl ?_
      refine j_iload C dL_isNowSo_176 rfl ?_
      refine j_iload C dL_isNowSo_178 rfl ?_
      refine j_callVZ (wr := []) (st := []) C X [.int (nI g), .int (nI e)] [0, 1, 2, 3, 4, 5, 6, 7, 8, 9] [] (bz_canMove G H166 hl hg c) rfl rfl rfl rfl (by decide) gw_L_104 nd_X0_canMove 0 0 rfl rfl rfl ⟨by decide, by decide⟩ ⟨(show k + 1 + 1 ≤ 120 by omega), (show n + 6 + 6 ≤ 720 by omega)⟩ (Nat.le_of_ble_eq_true rfl) dL_isNowSo_180 rfl (fun r w180 hp => ?_)
      obtain ⟨v180, rfl, hp⟩ := hp
      refine j_eq (st' := [.int v180]) (ws2 := w180) rfl rfl rfl ?_
      obtain ⟨rfl, tr180, me180, to180, fa180, se180, qu180, H180, rfl⟩ := hp
      have tail : jJ K (k + 1 + 1) (n + 6 + 6) 203 [some (.ref (ad 0)), some (.int (nI (sP s))), l2, some (.int (nI 1)), some (.int (nI g)), some (.int (oI (sTp s g))), some (.int (nI e)), some (.int (oI (sTp s e)))] [] (bw Y ad s tr180 me180 to180 fa180 se180 qu180) := by
        refine j_iconst C (nI 1) dL_isNowSo_203 (by decide) ?_
        refine j_goto C 208 dL_isNowSo_204 (by decide) ?_
        refine j_istore_3 C dL_isNowSo_208 (by decide) ?_
        refine j_iinc_6 C (nI (e + 1)) (nI_p1 e) dL_isNowSo_209 ?_
        refine j_goto C 157 dL_isNowSo_212 (by decide) ?_
        exact ih (e + 1) (k + 1 + 1) (n + 6 + 6) _ _ (by omega) (by omega) (by omega) (by omega) (Bw.of H180)
      refine jB_if_eq C 203 dL_isNowSo_183 (by decide) (fun _ => tail) (fun q => ?_)
      obtain ⟨-, d, hd, hlt⟩ := sPs_ft q
      refine j_iload C dL_isNowSo_186 rfl ?_
      refine j_if_lt C 207 dL_isNowSo_188 (by decide) (fun z => absurd z (by rw [hd]; exact nI_nlt0 (sTp_lt G d hd))) (fun _ => ?_)
      refine j_iload C dL_isNowSo_191 rfl ?_
      refine j_if_lt C 203 dL_isNowSo_193 (by decide) (fun _ => tail) (fun z => ?_)
      refine j_iload C dL_isNowSo_196 rfl ?_
      refine j_iload C dL_isNowSo_198 rfl ?_
      refine j_icmp_le C 207 dL_isNowSo_200 (by decide) (fun y => absurd y ?_) (fun _ => tail)
      cases e2 : sTp s e with
      | none => rw [e2] at z; exact absurd (by decide) z
      | some u =>
        rw [hd]
        show ¬ nI u ≤ nI d
        rw [nI_leI (sTp_lt G u e2) (sTp_lt G d hd)]
        have := hlt u e2
        omega
set_option maxHeartbeats 4000000 in
set_option maxRecDepth 100000 in
theorem now_2 {K : jk_T} {Y : jy_T} {ad : Nat → Nat} {s : sT} (C : jC cL_isNowSo RL Y rm_L_isNowSo 8 K) (X : jX K) (G : GD s) (hl : K.1.2.1.stackTraces = false) (kx : ∀ k n lo w, k ≤ 120 → n ≤ 720 → Bw Y ad s w → jJ K k n 222 lo [.int (nI 1)] w) :
    ∀ (f g k n : Nat) (l2 l5 l6 l7 : Option Value) (w : va_W), sP s ≤ g + f → g ≤ sP s → k + 19 * f ≤ 120 → n + 114 * f ≤ 720 → Bw Y ad s w → jJ K k n 51 [some (.ref (ad 0)), some (.int (nI (sP s))), l2, some (.int (nI 1)), some (.int (nI g)), l5, l6, l7] [] w := by
  have hP5 := G.P5
  have hN6 := G.N6
  intro f
  induction f with
  | zero =>
    intro g k n l2 l5 l6 l7 w hf hg hk hn hB
    refine j_iload C dL_isNowSo_51 rfl ?_
    refine j_iload_n C dL_isNowSo_53 rfl ?_
    refine jN_icmp_ge C 221 (by omega) (by omega) dL_isNowSo_54 (by decide) (fun _ => ?_) (fun c => ?_)
    · refine j_iload_n C dL_isNowSo_221 rfl ?_
      exact kx _ _ _ _ (by omega) (by omega) hB
    · omega
  | succ f ih =>
    intro g k n l2 l5 l6 l7 w hf hg hk hn hB
    refine j_iload C dL_isNowSo_51 rfl ?_
    refine j_iload_n C dL_isNowSo_53 rfl ?_
    refine jN_icmp_ge C 221 (by omega) (by omega) dL_isNowSo_54 (by decide) (fun _ => ?_) (fun c => ?_)
    · refine j_iload_n C dL_isNowSo_221 rfl ?_
      exact kx _ _ _ _ (by omega) (by omega) hB
    · obtain ⟨tr, me, to, fa, se, qu, H, rfl⟩ := hB
      refine j_aload_n C dL_isNowSo_57 rfl ?_
      refine j_iload C dL_isNowSo_58 rfl ?_
      refine j_callVZ (wr := []) (st := []) C X [.int (nI g)] [0, 1, 2, 3, 4, 5, 6, 7, 8, 9] [] (bz_top G H hl c) rfl rfl rfl rfl (by decide) gw_L_101 nd_X0_top 0 0 rfl rfl rfl ⟨by decide, by decide⟩ ⟨(show k + 1 ≤ 120 by omega), (show n + 6 ≤ 720 by omega)⟩ (Nat.le_of_ble_eq_true rfl) dL_isNowSo_60 rfl (fun r w60 hp => ?_)
      obtain ⟨v60, rfl, hp⟩ := hp
      refine j_eq (st' := [.int v60]) (ws2 := w60) rfl rfl rfl ?_
      obtain ⟨rfl, tr60, me60, to60, fa60, se60, qu60, H60, rfl⟩ := hp
      refine j_istore_5 C dL_isNowSo_63 (by decide) ?_
      refine j_iload_n C dL_isNowSo_65 rfl ?_
      have t86 : ∀ k1 n1, k1 ≤ k + 2 → n1 ≤ n + 12 → jJ K k1 n1 86 [some (.ref (ad 0)), some (.int (nI (sP s))), l2, some (.int (nI 1)), some (.int (nI g)), some (.int (oI (sTp s g))), l6, l7] [] (bw Y ad s tr60 me60 to60 fa60 se60 qu60) := by
        intro k1 n1 hk1 hn1
        refine j_aload_n C dL_isNowSo_86 rfl ?_
        refine j_iload C dL_isNowSo_87 rfl ?_
        refine j_iload C dL_isNowSo_89 rfl ?_
        refine j_callVZ (wr := []) (st := []) C X [.int (nI g), .int (nI g)] [0, 1, 2, 3, 4, 5, 6, 7, 8, 9] [] (bz_canMove G H60 hl c c) rfl rfl rfl rfl (by decide) gw_L_104 nd_X0_canMove 0 0 rfl rfl rfl ⟨by decide, by decide⟩ ⟨(show k1 + 1 ≤ 120 by omega), (show n1 + 6 ≤ 720 by omega)⟩ (Nat.le_of_ble_eq_true rfl) dL_isNowSo_91 rfl (fun r w91 hp => ?_)
        obtain ⟨v91, rfl, hp⟩ := hp
        refine j_eq (st' := [.int v91]) (ws2 := w91) rfl rfl rfl ?_
        obtain ⟨rfl, tr91, me91, to91, fa91, se91, qu91, H91, rfl⟩ := hp
        refine jB_if_ne C 101 dL_isNowSo_94 (by decide) (fun z => absurd z (by rw [sPs_no]; decide)) (fun _ => ?_)
        refine j_iconst C (nI 1) dL_isNowSo_97 (by decide) ?_
        refine j_goto C 102 dL_isNowSo_98 (by decide) ?_
        refine j_istore_3 C dL_isNowSo_102 (by decide) ?_
        refine j_iconst C (nI 0) dL_isNowSo_103 (by decide) ?_
        refine j_istore_6 C dL_isNowSo_104 (by decide) ?_
        refine now_3 C X G hl (k0 := k1 + 1 + 6) (n0 := n1 + 6 + 36) c (fun k2 n2 l6 hk2 hn2 => ?_) (by omega) (by omega) (sN s) 0 (k1 + 1) (n1 + 6) (by omega) (by omega) (by omega) (by omega)
        refine j_iconst C (nI 0) dL_isNowSo_154 (by decide) ?_
        refine j_istore_6 C dL_isNowSo_155 (by decide) ?_
        refine now_4 C X G hl (k0 := k + 19) (n0 := n + 114) c (fun k3 n3 l6 l7 w hk3 hn3 hB => ?_) (by omega) (by omega) (sP s) 0 k2 n2 _ _ (by omega) (by omega) (by omega) (by omega) (Bw.of H91)
        refine j_iinc_4 C (nI (g + 1)) (nI_p1 g) dL_isNowSo_215 ?_
        refine j_goto C 51 dL_isNowSo_218 (by decide) ?_
        exact ih (g + 1) k3 n3 _ _ _ _ _ (by omega) (by omega) (by omega) (by omega) hB
      refine j_if_eq C 101 dL_isNowSo_66 (by decide) (fun z => absurd z (by decide)) (fun _ => ?_)
      refine j_iload C dL_isNowSo_69 rfl ?_
      refine j_iconst C (-1) dL_isNowSo_71 (by decide) ?_
      refine j_icmp_eq C 86 dL_isNowSo_72 (by decide) (fun _ => t86 _ _ (show k + 1 ≤ k + 2 by omega) (show n + 6 ≤ n + 12 by omega)) (fun q => ?_)
      obtain ⟨d, hd⟩ : ∃ d, sTp s g = some d := by
        cases e2 : sTp s g with
        | none => rw [e2] at q; exact absurd rfl q
        | some d => exact ⟨d, rfl⟩
      have hd2 : tp (sP s) (sN s) (sA s) g = some d := hd
      have hdN := tp_lt hd2
      refine j_eq (lo' := [some (.ref (ad 0)), some (.int (nI (sP s))), l2, some (.int (nI 1)), some (.int (nI g)), some (.int (nI d)), l6, l7]) (by rw [hd]; rfl) rfl rfl ?_
      refine j_aload_n C dL_isNowSo_75 rfl ?_
      refine j_iload C dL_isNowSo_76 rfl ?_
      refine j_callVZ (wr := []) (st := []) C X [.int (nI d)] [0, 1, 2, 3, 4, 5, 6, 7, 8, 9] [] (bz_pegOf G hl hdN) rfl rfl rfl rfl (by decide) gw_L_97 nd_X0_pegOf 0 0 rfl rfl rfl ⟨by decide, by decide⟩ ⟨(show k + 1 + 1 ≤ 120 by omega), (show n + 6 + 6 ≤ 720 by omega)⟩ (Nat.le_of_ble_eq_true rfl) dL_isNowSo_78 rfl (fun r w78 hp => ?_)
      obtain ⟨v78, rfl, hp⟩ := hp
      refine j_eq (st' := [.int v78]) (ws2 := w78) rfl rfl rfl ?_
      obtain ⟨rfl, rfl⟩ := hp
      refine j_iload C dL_isNowSo_81 rfl ?_
      refine jN_icmp_ne C 101 (by show dg (sP s) (sA s) d < 2 ^ 31; rw [tp_dg hd2]; omega) (by omega) dL_isNowSo_83 (by decide) (fun z => absurd (tp_dg hd2) z) (fun _ => ?_)
      refine j_eq (lo' := [some (.ref (ad 0)), some (.int (nI (sP s))), l2, some (.int (nI 1)), some (.int (nI g)), some (.int (oI (sTp s g))), l6, l7]) (by rw [hd]; rfl) rfl rfl ?_
      exact t86 _ _ (show k + 1 + 1 ≤ k + 2 by omega) (show n + 6 + 6 ≤ n + 12 by omega)
set_option maxHeartbeats 4000000 in
set_option maxRecDepth 100000 in
theorem ct_L_isNowSo {l : Launch} {D : va_G} {Y : jy_T} {ad : Nat → Nat} {s : sT} {tr : Nat → Nat} {me : Bool} {to fa se qu : Nat → Int32} (G : GD s) (H : Hd s tr me fa) (hl : l.stackTraces = false) :
    MZ l yL_isNowSo cL_isNowSo 8 (some .boolean) rm_L_isNowSo D Y [.ref (ad 0)] (bw Y ad s tr me to fa se qu) (jI (fun r w => r = nI 1 ∧ Bw Y ad s w)) := by
  refine j_enterZ (by decide) (Nat.le_of_ble_eq_true rfl) (fun v hv => by rw [List.mem_singleton.mp hv]; rfl) (fun K hl2 hD C R X => ?_)
  subst hl2; subst hD
  have C : jC cL_isNowSo RL Y rm_L_isNowSo 8 K := C
  have R : jR Y (some .boolean) 120 720 (jI (fun r w => r = nI 1 ∧ Bw Y ad s w)) K := R
  refine j_eq (lo' := [some (.ref (ad 0)), none, none, none, none, none, none, none]) rfl rfl rfl ?_
  have hP5 := G.P5
  have hN6 := G.N6
  refine j_aload_n C dL_isNowSo_0 rfl ?_
  refine j_callVZ (wr := []) (st := []) C X [] [0, 1, 2, 3, 4, 5, 6, 7, 8, 9] [] (bz_pegs) rfl rfl rfl rfl (by decide) gw_L_52 nd_X0_pegs 0 0 rfl rfl rfl ⟨by decide, by decide⟩ ⟨(show 0 + 0 ≤ 120 by omega), (show 0 + 0 ≤ 720 by omega)⟩ (Nat.le_of_ble_eq_true rfl) dL_isNowSo_1 rfl (fun r w1 hp => ?_)
  obtain ⟨v1, rfl, hp⟩ := hp
  refine j_eq (st' := [.int v1]) (ws2 := w1) rfl rfl rfl ?_
  obtain ⟨rfl, rfl⟩ := hp
  refine j_istore_1 C dL_isNowSo_4 (by decide) ?_
  refine j_iconst C (nI 0) dL_isNowSo_5 (by decide) ?_
  refine j_istore_2 C dL_isNowSo_6 (by decide) ?_
  refine j_aload_n C dL_isNowSo_7 rfl ?_
  refine j_callVZ (wr := []) (st := []) C X [] [0, 1, 2, 3, 4, 5, 6, 7, 8, 9] [] (bz_disks) rfl rfl rfl rfl (by decide) gw_L_55 nd_X0_disks 0 0 rfl rfl rfl ⟨by decide, by decide⟩ ⟨(show 0 + 0 + 0 ≤ 120 by omega), (show 0 + 0 + 0 ≤ 720 by omega)⟩ (Nat.le_of_ble_eq_true rfl) dL_isNowSo_8 rfl (fun r w8 hp => ?_)
  obtain ⟨v8, rfl, hp⟩ := hp
  refine j_eq (st' := [.int v8]) (ws2 := w8) rfl rfl rfl ?_
  obtain ⟨rfl, rfl⟩ := hp
  refine j_iconst C (nI 1) dL_isNowSo_11 (by decide) ?_
  refine j_isub C dL_isNowSo_12 ?_
  refine j_istore_3 C dL_isNowSo_13 (by decide) ?_
  refine j_eq (lo' := [some (.ref (ad 0)), some (.int (nI (sP s))), some (.int (nI (hor (sP s) (sDg s) (sN s) (sN s - (sN s))))), some (.int (nI (sN s) - nI 1)), none, none, none, none]) (by rw [Nat.sub_self]; rfl) rfl rfl ?_
  refine now_1 C X G hl (fun k n hk hn => ?_) (sN s) 0 0 (Nat.le_refl _) (by omega) (by omega)
  have hnum : hor (sP s) (sDg s) 0 (sN s - 0) = sA s := by
    rw [Nat.sub_zero, ← nm_hor0]
    exact nm_self G.2.1
  rw [hnum]
  refine j_iload_n C dL_isNowSo_34 rfl ?_
  refine j_aload_n C dL_isNowSo_35 rfl ?_
  refine j_callVZ (wr := []) (st := [.int (nI (sA s))]) C X [] [0, 1, 2, 3, 4, 5, 6, 7, 8, 9] [] (bz_arrangement) rfl rfl rfl rfl (by decide) gw_L_85 nd_X0_arrangement 0 0 rfl rfl rfl ⟨by decide, by decide⟩ ⟨(show k + 0 ≤ 120 by omega), (show n + 0 ≤ 720 by omega)⟩ (Nat.le_of_ble_eq_true rfl) dL_isNowSo_36 rfl (fun r w36 hp => ?_)
  obtain ⟨v36, rfl, hp⟩ := hp
  refine j_eq (st' := [.int v36, .int (nI (sA s))]) (ws2 := w36) rfl rfl rfl ?_
  obtain ⟨rfl, rfl⟩ := hp
  refine j_icmp_ne C 46 dL_isNowSo_39 (by decide) (fun c => absurd rfl c) (fun _ => ?_)
  refine j_iconst C (nI 1) dL_isNowSo_42 (by decide) ?_
  refine j_goto C 47 dL_isNowSo_43 (by decide) ?_
  refine j_istore_3 C dL_isNowSo_47 (by decide) ?_
  refine j_iconst C (nI 0) dL_isNowSo_48 (by decide) ?_
  refine j_istore_4 C dL_isNowSo_49 (by decide) ?_
  refine now_2 C X G hl (fun k1 n1 lo1 w1 hk1 hn1 hB => ?_) (sP s) 0 k n _ _ _ _ _ (by omega) (by omega) (by omega) (by omega) (Bw.of H)
  refine j_widen hk1 hn1 ?_
  exact j_retz C R dL_isNowSo_222 rfl ⟨rfl, hB⟩
end
section
/-! ways: the told move goes one nearer, no move goes nearer by more; moves lost -/
def sNx (s : sT) (ds : Nat → Option Nat) : Int32 := nxC (sP s) (sN s) (sRu s) (sCb s) (sAl s) ds (sA s)
theorem wb_WY {s : sT} {ds : Nat → Option Nat} (G : GD s) (hd : WY s ds) (h3 : sP s = 3) (hr : sRu s = false) (hal : alB (sAl s) 0 25 = true) : ds (sA s) = some (wbV (dg 3 (sA s)) (dg 3 (sB s)) (sN s)) := by
  obtain ⟨P, N, a, b, m, ru, cb, al, tr⟩ := s
  have h3 : P = 3 := h3
  have hr : ru = false := hr
  subst h3; subst hr
  exact wb_way G.2.1 G.2.2.1 hal hd
section WW
variable {s : sT} {ds : Nat → Option Nat}
theorem WY.lt (G : GD s) (hd : WY s ds) (y : Nat) : ∀ j, ds y = some j → j < 2 ^ 31 := srD_lt hd G.M y
theorem ww_next (G : GD s) (hd : WY s ds) : bi (decide (¬ oI (ds (sA s)) ≤ 0)) = bi (decide (¬ sNx s ds < 0)) := by
  have h : (¬ oI (ds (sA s)) ≤ 0) ↔ (¬ sNx s ds < 0) := by
    unfold sNx
    rw [oI_pos (WY.lt G hd _), nxC_neg G.P0 G.P5 G.2.2.1 hd]
  rw [decide_eq_decide.mpr h]
theorem ww_0 (G : GD s) (hd : WY s ds) (h : oI (ds (sA s)) = 0) : nI (sA s) = nI (sB s) := by
  rw [oI_z (WY.lt G hd _)] at h
  rw [srD_0 hd h]
theorem ww_law (G : GD s) (hd : WY s ds) (h : ¬ oI (ds (sA s)) < 0) : sLw s = true := by
  rw [oI_neg (WY.lt G hd _)] at h
  cases e : ds (sA s) with
  | none => exact absurd e h
  | some w => exact (srD_law G.P0 G.2.2.1 hd e).2
theorem ww_nn (G : GD s) (hd : WY s ds) (h : ds (sA s) ≠ none) : ¬ oI (ds (sA s)) < 0 := by
  rw [oI_neg (WY.lt G hd _)]; exact h
theorem ww_rc (G : GD s) {fo : Nat} (h : RC s fo) : bi (decide (nI fo = 0)) = bi (!sLw s) := by
  obtain ⟨d, h⟩ := h
  have hM := G.M
  rcases srF_pos h with ⟨h1, h2, h3⟩ | ⟨h1, h2⟩
  · have e : sLw s = true := h1
    rw [e, decide_eq_false]; rfl
    rw [show (0 : Int32) = nI 0 from rfl, nI_eq (by omega) (by omega)]; omega
  · have e : sLw s = false := h1
    rw [e, h2]; rfl
end WW
abbrev rm_L_areWaysSo : Room := { frames := 8, cells := 120, slots := 720, locals := 165 }
set_option maxHeartbeats 4000000 in
set_option maxRecDepth 100000 in
theorem ways_loop {K : jk_T} {Y : jy_T} {ad : Nat → Nat} {s : sT} (C : jC cL_areWaysSo RL Y rm_L_areWaysSo 13 K) (X : jX K) (G : GD s) (hl : K.1.2.1.stackTraces = false) {ds : Nat → Option Nat} (hd : WY s ds) (hm : sM s < 500) {l4 : Option Value} {vl : Int32} (hlo : vl = -99999 ∨ (ds (sA s) ≠ none ∧ vl = nI (sM s) + (oI (ds (sA s))) - (oI (ds (stA (sM s) (sTr s) (sA s))))))
    (kx : ∀ (k n : Nat) (l6 l7 l8 l9 l10 l11 l12 : Option Value) (w : va_W), k ≤ 120 → n ≤ 720 → Bw Y ad s w → jJ K k n 350 [some (.ref (ad 0)), some (.int (oI (ds (sA s)))), some (.int (sNx s ds)), some (.int vl), l4, some (.int (nI 1)), l6, l7, l8, l9, l10, l11, l12] [] w) :
    ∀ (f e k n : Nat) (l8 l9 l10 l11 l12 : Option Value) (w : va_W), sP s * sP s ≤ e + f → e ≤ sP s * sP s → k + 4 * f ≤ 120 → n + 24 * f ≤ 720 → Bw Y ad s w → jJ K k n 147 [some (.ref (ad 0)), some (.int (oI (ds (sA s)))), some (.int (sNx s ds)), some (.int vl), l4, some (.int (nI 1)), some (.int (nI (sP s))), some (.int (nI e)), l8, l9, l10, l11, l12] [] w := by
  have hP0 := G.P0
  have hP5 := G.P5
  have hPP : sP s * sP s ≤ 25 := Nat.mul_le_mul hP5 hP5
  intro f
  induction f with
  | zero =>
    intro e k n l8 l9 l10 l11 l12 w hf he hk hn hB
    refine j_iload C dL_areWaysSo_147 rfl ?_
    refine j_iload C dL_areWaysSo_149 rfl ?_
    refine j_iload C dL_areWaysSo_151 rfl ?_
    refine j_imul C dL_areWaysSo_153 ?_
    refine j_top _ (nI (sP s * sP s)) (pk_mul _ _) ?_
    refine jN_icmp_ge C 350 (by omega) (by omega) dL_areWaysSo_154 (by decide) (fun _ => ?_) (fun c => ?_)
    · exact kx k n _ _ _ _ _ _ _ w (by omega) (by omega) hB
    · omega
  | succ f ih =>
    intro e k n l8 l9 l10 l11 l12 w hf he hk hn hB
    refine j_iload C dL_areWaysSo_147 rfl ?_
    refine j_iload C dL_areWaysSo_149 rfl ?_
    refine j_iload C dL_areWaysSo_151 rfl ?_
    refine j_imul C dL_areWaysSo_153 ?_
    refine j_top _ (nI (sP s * sP s)) (pk_mul _ _) ?_
    refine jN_icmp_ge C 350 (by omega) (by omega) dL_areWaysSo_154 (by decide) (fun _ => ?_) (fun c => ?_)
    · exact kx k n _ _ _ _ _ _ _ w (by omega) (by omega) hB
    · have cd := cd_lt hP5 hP0 c
      have hf9 : e / sP s < sP s := Nat.div_lt_of_lt_mul c
      have ht9 : e % sP s < sP s := Nat.mod_lt e hP0
      have t344 : ∀ (k1 n1 : Nat) (l8 l9 l10 l11 l12 : Option Value) (w : va_W), k1 ≤ k + 4 → n1 ≤ n + 24 → Bw Y ad s w → jJ K k1 n1 344 [some (.ref (ad 0)), some (.int (oI (ds (sA s)))), some (.int (sNx s ds)), some (.int vl), l4, some (.int (nI 1)), some (.int (nI (sP s))), some (.int (nI e)), l8, l9, l10, l11, l12] [] w := by
        intro k1 n1 l8 l9 l10 l11 l12 w hk1 hn1 hB
        refine j_iinc_7 C (nI (e + 1)) (nI_p1 e) dL_areWaysSo_344 ?_
        refine j_goto C 147 dL_areWaysSo_347 (by decide) ?_
        exact ih (e + 1) k1 n1 _ _ _ _ _ w (by omega) (by omega) (by omega) (by omega) hB
      obtain ⟨tr, me, to, fa, se, qu, H, rfl⟩ := hB
      refine j_aload_n C dL_areWaysSo_157 rfl ?_
      refine j_iload C dL_areWaysSo_158 rfl ?_
      refine j_iload C dL_areWaysSo_160 rfl ?_
      refine j_idiv C dL_areWaysSo_162 (ne_p hP0 (by omega)) ?_
      refine j_top _ (nI (e / sP s)) (pk_div (by omega) hP0 (by omega)) ?_
      refine j_iload C dL_areWaysSo_163 rfl ?_
      refine j_iload C dL_areWaysSo_165 rfl ?_
      refine j_irem C dL_areWaysSo_167 (ne_p hP0 (by omega)) ?_
      refine j_top _ (nI (e % sP s)) (pk_rem (by omega) hP0 (by omega)) ?_
      refine j_callVZ (wr := []) (st := []) C X [.int (nI (e / sP s)), .int (nI (e % sP s))] [0, 1, 2, 3, 4, 5, 6, 7, 8, 9] [] (bz_canMove G H hl hf9 ht9) rfl rfl rfl rfl (by decide) gw_L_104 nd_X0_canMove 0 0 rfl rfl rfl ⟨by decide, by decide⟩ ⟨(show k + 1 ≤ 120 by omega), (show n + 6 ≤ 720 by omega)⟩ (Nat.le_of_ble_eq_true rfl) dL_areWaysSo_168 rfl (fun r w168 hp => ?_)
      obtain ⟨v168, rfl, hp⟩ := hp
      refine j_eq (st' := [.int v168]) (ws2 := w168) rfl rfl rfl ?_
      obtain ⟨rfl, tr168, me168, to168, fa168, se168, qu168, H168, rfl⟩ := hp
      refine jB_if_eq C 344 dL_areWaysSo_171 (by decide) (fun _ => t344 _ _ _ _ _ _ _ _ (show k + 1 ≤ k + 4 by omega) (show n + 6 ≤ n + 24 by omega) (Bw.of H168)) (fun hps => ?_)
      refine j_aload_n C dL_areWaysSo_174 rfl ?_
      refine j_iload C dL_areWaysSo_175 rfl ?_
      refine j_iload C dL_areWaysSo_177 rfl ?_
      refine j_idiv C dL_areWaysSo_179 (ne_p hP0 (by omega)) ?_
      refine j_top _ (nI (e / sP s)) (pk_div (by omega) hP0 (by omega)) ?_
      refine j_iload C dL_areWaysSo_180 rfl ?_
      refine j_iload C dL_areWaysSo_182 rfl ?_
      refine j_irem C dL_areWaysSo_184 (ne_p hP0 (by omega)) ?_
      refine j_top _ (nI (e % sP s)) (pk_rem (by omega) hP0 (by omega)) ?_
      refine j_callVZ (wr := []) (st := []) C X [.int (nI (e / sP s)), .int (nI (e % sP s))] [0, 1, 2, 3, 4, 5, 6, 7, 8, 9] [] (bz_move G H168 hl hf9 ht9 hm hps) rfl rfl rfl rfl (by decide) gw_L_34 nd_X0_move 0 0 rfl rfl rfl ⟨by decide, by decide⟩ ⟨(show k + 1 + 1 ≤ 120 by omega), (show n + 6 + 6 ≤ 720 by omega)⟩ (Nat.le_of_ble_eq_true rfl) dL_areWaysSo_185 rfl (fun r w185 hp => ?_)
      obtain ⟨v185, rfl, hp⟩ := hp
      refine j_eq (st' := [.int v185]) (ws2 := w185) rfl rfl rfl ?_
      obtain ⟨⟨d, hd6, rfl⟩, tr185, me185, to185, fa185, se185, qu185, H185, rfl⟩ := hp
      refine j_istore_8 C dL_areWaysSo_188 (by decide) ?_
      have G2 := G.mv (f := e / sP s) ht9 hm
      refine j_aload_n C dL_areWaysSo_190 rfl ?_
      refine j_callVZ (wr := []) (st := []) C X [] [0, 1, 2, 3, 4, 5, 6, 7, 8, 9] [] (bz_way G2 H185) rfl rfl rfl rfl (by decide) gw_L_91 nd_X0_way 0 0 rfl rfl rfl ⟨by decide, by decide⟩ ⟨(show k + 1 + 1 + 0 ≤ 120 by omega), (show n + 6 + 6 + 0 ≤ 720 by omega)⟩ (Nat.le_of_ble_eq_true rfl) dL_areWaysSo_191 rfl (fun r w191 hp => ?_)
      obtain ⟨v191, rfl, hp⟩ := hp
      refine j_eq (st' := [.int v191]) (ws2 := w191) rfl rfl rfl ?_
      obtain ⟨ds2, hd2, rfl, tr191, me191, to191, fa191, se191, qu191, H191, rfl⟩ := hp
      have hd2 : WY s ds2 := hd2
      have e2 : ds = ds2 := funext (srD_one hd hd2)
      subst e2
      refine j_istore_9 C dL_areWaysSo_194 (by decide) ?_
      refine j_aload_n C dL_areWaysSo_196 rfl ?_
      refine j_callSW (wr := []) (st := []) C X [.ref (ad 0)] [0, 1, 2, 3, 4, 5, 6, 7, 8, 9] [] (bz_lost G2 H191 hl) rfl rfl rfl rfl (by decide) gw_L_111 nd_L_lost ⟨by decide, by decide⟩ ⟨(show k + 1 + 1 + 0 + 1 ≤ 120 by omega), (show n + 6 + 6 + 0 + 6 ≤ 720 by omega)⟩ (Nat.le_of_ble_eq_true rfl) dL_areWaysSo_197 rfl (fun r w197 hp => ?_)
      obtain ⟨v197, rfl, hp⟩ := hp
      refine j_eq (st' := [.int v197]) (ws2 := w197) rfl rfl rfl ?_
      obtain ⟨hlb, tr197, me197, to197, fa197, se197, qu197, H197, rfl⟩ := hp
      have hlb : v197 = -99999 ∨ v197 = nI (sM s + 1) + (oI (ds (sA (sMv s (e / sP s) (e % sP s))))) - (oI (ds (stA (sM s) (sTr s) (sA s)))) := by
        rcases hlb with h | ⟨ds3, hd3, -, h⟩
        · exact Or.inl h
        · have hd3 : WY s ds3 := hd3
          have e3 : ds = ds3 := funext (srD_one hd hd3)
          subst e3
          rw [stA_mv] at h
          exact Or.inr h
      refine j_istore_10 C dL_areWaysSo_200 (by decide) ?_
      refine j_bipush C (nI 10) dL_areWaysSo_202 (by decide) ?_
      refine j_iload C dL_areWaysSo_204 rfl ?_
      refine j_iload C dL_areWaysSo_206 rfl ?_
      refine j_idiv C dL_areWaysSo_208 (ne_p hP0 (by omega)) ?_
      refine j_top _ (nI (e / sP s)) (pk_div (by omega) hP0 (by omega)) ?_
      refine j_imul C dL_areWaysSo_209 ?_
      refine j_top _ (nI (10 * (e / sP s))) (pk_mul _ _) ?_
      refine j_iload C dL_areWaysSo_210 rfl ?_
      refine j_iload C dL_areWaysSo_212 rfl ?_
      refine j_irem C dL_areWaysSo_214 (ne_p hP0 (by omega)) ?_
      refine j_top _ (nI (e % sP s)) (pk_rem (by omega) hP0 (by omega)) ?_
      refine j_iadd C dL_areWaysSo_215 ?_
      refine j_top _ (nI (10 * (e / sP s) + e % sP s)) (nI_add _ _) ?_
      refine j_istore_11 C dL_areWaysSo_216 (by decide) ?_
      have t305 : jJ K (k + 1 + 1 + 0 + 1) (n + 6 + 6 + 0 + 6) 305 [some (.ref (ad 0)), some (.int (oI (ds (sA s)))), some (.int (sNx s ds)), some (.int vl), l4, some (.int (nI 1)), some (.int (nI (sP s))), some (.int (nI e)), some (.int (nI d)), some (.int (oI (ds (sA (sMv s (e / sP s) (e % sP s)))))), some (.int v197), some (.int (nI (10 * (e / sP s) + e % sP s))), l12] [] (bw Y ad (sMv s (e / sP s) (e % sP s)) tr197 me197 to197 fa197 se197 qu197) := by
        refine j_iconst C (nI 1) dL_areWaysSo_305 (by decide) ?_
        refine j_goto C 310 dL_areWaysSo_306 (by decide) ?_
        refine j_istore_5 C dL_areWaysSo_310 (by decide) ?_
        refine j_aload_n C dL_areWaysSo_312 rfl ?_
        refine j_callVZ (wr := []) (st := []) C X [] [0, 1, 2, 3, 4, 5, 6, 7, 8, 9] [] (bz_takeBack G2 H197 hl (Nat.succ_pos _)) rfl rfl rfl rfl (by decide) gw_L_37 nd_X0_takeBack 0 0 rfl rfl rfl ⟨by decide, by decide⟩ ⟨(show k + 1 + 1 + 0 + 1 + 1 ≤ 120 by omega), (show n + 6 + 6 + 0 + 6 + 6 ≤ 720 by omega)⟩ (Nat.le_of_ble_eq_true rfl) dL_areWaysSo_313 rfl (fun r w313 hp => ?_)
        obtain ⟨v313, rfl, hp⟩ := hp
        refine j_eq (st' := [.int v313]) (ws2 := w313) rfl rfl rfl ?_
        obtain ⟨rfl, hB⟩ := hp
        have hB := Bw.back hB
        obtain ⟨tr313, me313, to313, fa313, se313, qu313, H313, rfl⟩ := hB
        refine j_top _ (nI (sM s)) (by show nI (sM s + 1 - 1) = nI (sM s); rw [Nat.add_sub_cancel]) ?_
        refine j_istore_12 C dL_areWaysSo_316 (by decide) ?_
        refine j_iload C dL_areWaysSo_318 rfl ?_
        refine j_if_eq C 341 dL_areWaysSo_320 (by decide) (fun z => absurd z (by decide)) (fun _ => ?_)
        refine j_iload C dL_areWaysSo_323 rfl ?_
        refine j_if_lt C 341 dL_areWaysSo_325 (by decide) (fun z => absurd z (nI_nlt0 (by omega))) (fun _ => ?_)
        refine j_iload C dL_areWaysSo_328 rfl ?_
        refine j_aload_n C dL_areWaysSo_330 rfl ?_
        refine j_callVZ (wr := []) (st := [.int (nI (sM s))]) C X [] [0, 1, 2, 3, 4, 5, 6, 7, 8, 9] [] (bz_moves) rfl rfl rfl rfl (by decide) gw_L_82 nd_X0_moves 0 0 rfl rfl rfl ⟨by decide, by decide⟩ ⟨(show k + 1 + 1 + 0 + 1 + 1 + 0 ≤ 120 by omega), (show n + 6 + 6 + 0 + 6 + 6 + 0 ≤ 720 by omega)⟩ (Nat.le_of_ble_eq_true rfl) dL_areWaysSo_331 rfl (fun r w331 hp => ?_)
        obtain ⟨v331, rfl, hp⟩ := hp
        refine j_eq (st' := [.int v331, .int (nI (sM s))]) (ws2 := w331) rfl rfl rfl ?_
        obtain ⟨rfl, rfl⟩ := hp
        refine j_icmp_ne C 341 dL_areWaysSo_334 (by decide) (fun z => absurd rfl z) (fun _ => ?_)
        refine j_iconst C (nI 1) dL_areWaysSo_337 (by decide) ?_
        refine j_goto C 342 dL_areWaysSo_338 (by decide) ?_
        refine j_istore_5 C dL_areWaysSo_342 (by decide) ?_
        exact t344 _ _ _ _ _ _ _ _ (show k + 1 + 1 + 0 + 1 + 1 + 0 ≤ k + 4 by omega) (show n + 6 + 6 + 0 + 6 + 6 + 0 ≤ n + 24 by omega) (Bw.of H313)
      have t279 : jJ K (k + 1 + 1 + 0 + 1) (n + 6 + 6 + 0 + 6) 279 [some (.ref (ad 0)), some (.int (oI (ds (sA s)))), some (.int (sNx s ds)), some (.int vl), l4, some (.int (nI 1)), some (.int (nI (sP s))), some (.int (nI e)), some (.int (nI d)), some (.int (oI (ds (sA (sMv s (e / sP s) (e % sP s)))))), some (.int v197), some (.int (nI (10 * (e / sP s) + e % sP s))), l12] [] (bw Y ad (sMv s (e / sP s) (e % sP s)) tr197 me197 to197 fa197 se197 qu197) := by
        refine j_iload_n C dL_areWaysSo_279 rfl ?_
        refine j_ldc C dL_areWaysSo_280 wd_kL_16 ?_
        refine j_icmp_eq C 305 dL_areWaysSo_282 (by decide) (fun _ => t305) (fun z1 => ?_)
        refine j_iload C dL_areWaysSo_285 rfl ?_
        refine j_ldc C dL_areWaysSo_287 wd_kL_16 ?_
        refine j_icmp_eq C 305 dL_areWaysSo_289 (by decide) (fun _ => t305) (fun z2 => ?_)
        refine j_iload C dL_areWaysSo_292 rfl ?_
        refine j_iload_n C dL_areWaysSo_294 rfl ?_
        refine j_iconst C (nI 1) dL_areWaysSo_295 (by decide) ?_
        refine j_iadd C dL_areWaysSo_296 ?_
        refine j_iload C dL_areWaysSo_297 rfl ?_
        refine j_iadd C dL_areWaysSo_299 ?_
        refine j_iload_n C dL_areWaysSo_300 rfl ?_
        refine j_isub C dL_areWaysSo_301 ?_
        refine j_icmp_ne C 309 dL_areWaysSo_302 (by decide) (fun z => absurd ?_ z) (fun _ => t305)
        have q1 := (hlo.resolve_left z1).2
        have q2 := hlb.resolve_left z2
        rw [q1, q2]
        exact lost_eq _ _ _ _
      have t261 : jJ K (k + 1 + 1 + 0 + 1) (n + 6 + 6 + 0 + 6) 261 [some (.ref (ad 0)), some (.int (oI (ds (sA s)))), some (.int (sNx s ds)), some (.int vl), l4, some (.int (nI 1)), some (.int (nI (sP s))), some (.int (nI e)), some (.int (nI d)), some (.int (oI (ds (sA (sMv s (e / sP s) (e % sP s)))))), some (.int v197), some (.int (nI (10 * (e / sP s) + e % sP s))), l12] [] (bw Y ad (sMv s (e / sP s) (e % sP s)) tr197 me197 to197 fa197 se197 qu197) := by
        refine j_iload C dL_areWaysSo_261 rfl ?_
        refine j_iload_n C dL_areWaysSo_263 rfl ?_
        refine j_icmp_ge C 279 dL_areWaysSo_264 (by decide) (fun _ => t279) (fun z1 => ?_)
        refine j_iload_n C dL_areWaysSo_267 rfl ?_
        refine j_if_lt C 279 dL_areWaysSo_268 (by decide) (fun _ => t279) (fun z2 => ?_)
        refine j_iload C dL_areWaysSo_271 rfl ?_
        refine j_iload_n C dL_areWaysSo_273 rfl ?_
        refine j_iconst C (nI 1) dL_areWaysSo_274 (by decide) ?_
        refine j_isub C dL_areWaysSo_275 ?_
        exact j_icmp_eq C 309 dL_areWaysSo_276 (by decide) (fun z => absurd z (told_2 hP0 hP5 G.M G.2.2.1 hd c hps z1 z2)) (fun _ => t279)
      have t247 : jJ K (k + 1 + 1 + 0 + 1) (n + 6 + 6 + 0 + 6) 247 [some (.ref (ad 0)), some (.int (oI (ds (sA s)))), some (.int (sNx s ds)), some (.int vl), l4, some (.int (nI 1)), some (.int (nI (sP s))), some (.int (nI e)), some (.int (nI d)), some (.int (oI (ds (sA (sMv s (e / sP s) (e % sP s)))))), some (.int v197), some (.int (nI (10 * (e / sP s) + e % sP s))), l12] [] (bw Y ad (sMv s (e / sP s) (e % sP s)) tr197 me197 to197 fa197 se197 qu197) := by
        refine j_iload C dL_areWaysSo_247 rfl ?_
        refine j_iload_n C dL_areWaysSo_249 rfl ?_
        refine j_icmp_ne C 261 dL_areWaysSo_250 (by decide) (fun _ => t261) (fun z1 => ?_)
        refine j_iload C dL_areWaysSo_253 rfl ?_
        refine j_iload_n C dL_areWaysSo_255 rfl ?_
        refine j_iconst C (nI 1) dL_areWaysSo_256 (by decide) ?_
        refine j_isub C dL_areWaysSo_257 ?_
        exact j_icmp_ne C 309 dL_areWaysSo_258 (by decide) (fun z => absurd (told_1 hP0 hP5 G.2.2.1 hd c z1) z) (fun _ => t261)
      refine j_iload C dL_areWaysSo_218 rfl ?_
      refine j_if_eq C 309 dL_areWaysSo_220 (by decide) (fun z => absurd z (by decide)) (fun _ => ?_)
      refine j_iload_n C dL_areWaysSo_223 rfl ?_
      refine j_if_lt C 247 dL_areWaysSo_224 (by decide) (fun _ => t247) (fun z1 => ?_)
      refine j_aload_n C dL_areWaysSo_227 rfl ?_
      refine j_callVZ (wr := []) (st := []) C X [] [0, 1, 2, 3, 4, 5, 6, 7, 8, 9] [] (bz_isLawful G2) rfl rfl rfl rfl (by decide) gw_L_115 nd_X0_isLawful 0 0 rfl rfl rfl ⟨by decide, by decide⟩ ⟨(show k + 1 + 1 + 0 + 1 + 0 ≤ 120 by omega), (show n + 6 + 6 + 0 + 6 + 0 ≤ 720 by omega)⟩ (Nat.le_of_ble_eq_true rfl) dL_areWaysSo_228 rfl (fun r w228 hp => ?_)
      obtain ⟨v228, rfl, hp⟩ := hp
      refine j_eq (st' := [.int v228]) (ws2 := w228) rfl rfl rfl ?_
      obtain ⟨rfl, rfl⟩ := hp
      refine jB_if_eq C 247 dL_areWaysSo_231 (by decide) (fun _ => t247) (fun _ => ?_)
      refine j_iload C dL_areWaysSo_234 rfl ?_
      refine j_if_lt C 247 dL_areWaysSo_236 (by decide) (fun _ => t247) (fun z2 => ?_)
      refine j_iload C dL_areWaysSo_239 rfl ?_
      refine j_iload_n C dL_areWaysSo_241 rfl ?_
      refine j_iconst C (nI 1) dL_areWaysSo_242 (by decide) ?_
      refine j_isub C dL_areWaysSo_243 ?_
      exact j_icmp_lt C 309 dL_areWaysSo_244 (by decide) (fun z => absurd z (told_3 hP0 G.M G.2.2.1 hd hf9 ht9 hps z1 z2)) (fun _ => t247)
set_option maxHeartbeats 4000000 in
set_option maxRecDepth 100000 in
theorem ct_L_areWaysSo {l : Launch} {D : va_G} {Y : jy_T} {ad : Nat → Nat} {s : sT} {tr : Nat → Nat} {me : Bool} {to fa se qu : Nat → Int32} (G : GD s) (H : Hd s tr me fa) (hl : l.stackTraces = false) :
    MZ l yL_areWaysSo cL_areWaysSo 13 (some .boolean) rm_L_areWaysSo D Y [.ref (ad 0)] (bw Y ad s tr me to fa se qu) (jI (fun r w => r = nI 1 ∧ Bw Y ad s w)) := by
  refine j_enterZ (by decide) (Nat.le_of_ble_eq_true rfl) (fun v hv => by rw [List.mem_singleton.mp hv]; rfl) (fun K hl2 hD C R X => ?_)
  subst hl2; subst hD
  have C : jC cL_areWaysSo RL Y rm_L_areWaysSo 13 K := C
  have R : jR Y (some .boolean) 120 720 (jI (fun r w => r = nI 1 ∧ Bw Y ad s w)) K := R
  refine j_eq (lo' := [some (.ref (ad 0)), none, none, none, none, none, none, none, none, none, none, none, none]) rfl rfl rfl ?_
  have hP0 := G.P0
  have hP5 := G.P5
  have hPP : sP s * sP s ≤ 25 := Nat.mul_le_mul hP5 hP5
  refine j_aload_n C dL_areWaysSo_0 rfl ?_
  refine j_callVZ (wr := []) (st := []) C X [] [0, 1, 2, 3, 4, 5, 6, 7, 8, 9] [] (bz_way G H) rfl rfl rfl rfl (by decide) gw_L_91 nd_X0_way 0 0 rfl rfl rfl ⟨by decide, by decide⟩ ⟨(show 0 + 0 ≤ 120 by omega), (show 0 + 0 ≤ 720 by omega)⟩ (Nat.le_of_ble_eq_true rfl) dL_areWaysSo_1 rfl (fun r w1 hp => ?_)
  obtain ⟨v1, rfl, hp⟩ := hp
  refine j_eq (st' := [.int v1]) (ws2 := w1) rfl rfl rfl ?_
  obtain ⟨ds, hd, rfl, tr1, me1, to1, fa1, se1, qu1, H1, rfl⟩ := hp
  refine j_istore_1 C dL_areWaysSo_4 (by decide) ?_
  refine j_aload_n C dL_areWaysSo_5 rfl ?_
  refine j_callVZ (wr := []) (st := []) C X [] [0, 1, 2, 3, 4, 5, 6, 7, 8, 9] [] (bz_next G H1) rfl rfl rfl rfl (by decide) gw_L_108 nd_X0_next 0 0 rfl rfl rfl ⟨by decide, by decide⟩ ⟨(show 0 + 0 + 0 ≤ 120 by omega), (show 0 + 0 + 0 ≤ 720 by omega)⟩ (Nat.le_of_ble_eq_true rfl) dL_areWaysSo_6 rfl (fun r w6 hp => ?_)
  obtain ⟨v6, rfl, hp⟩ := hp
  refine j_eq (st' := [.int v6]) (ws2 := w6) rfl rfl rfl ?_
  obtain ⟨ds2, hd2, rfl, tr6, me6, to6, fa6, se6, qu6, H6, rfl⟩ := hp
  have e2 : ds = ds2 := funext (srD_one hd hd2)
  subst e2
  refine j_istore_2 C dL_areWaysSo_9 (by decide) ?_
  refine j_aload_n C dL_areWaysSo_10 rfl ?_
  refine j_callSW (wr := []) (st := []) C X [.ref (ad 0)] [0, 1, 2, 3, 4, 5, 6, 7, 8, 9] [] (bz_lost G H6 hl) rfl rfl rfl rfl (by decide) gw_L_111 nd_L_lost ⟨by decide, by decide⟩ ⟨(show 0 + 0 + 0 + 1 ≤ 120 by omega), (show 0 + 0 + 0 + 6 ≤ 720 by omega)⟩ (Nat.le_of_ble_eq_true rfl) dL_areWaysSo_11 rfl (fun r w11 hp => ?_)
  obtain ⟨v11, rfl, hp⟩ := hp
  refine j_eq (st' := [.int v11]) (ws2 := w11) rfl rfl rfl ?_
  obtain ⟨hlo, tr11, me11, to11, fa11, se11, qu11, H11, rfl⟩ := hp
  have hlo : v11 = -99999 ∨ (ds (sA s) ≠ none ∧ v11 = nI (sM s) + (oI (ds (sA s))) - (oI (ds (stA (sM s) (sTr s) (sA s))))) := by
    rcases hlo with h | ⟨ds3, hd3, h1, h⟩
    · exact Or.inl h
    · have e3 : ds = ds3 := funext (srD_one hd hd3)
      subst e3
      exact Or.inr ⟨h1, h⟩
  refine j_istore_3 C dL_areWaysSo_14 (by decide) ?_
  refine j_aload_n C dL_areWaysSo_15 rfl ?_
  refine j_callSW (wr := []) (st := []) C X [.ref (ad 0)] [0, 1, 2, 3, 4, 5, 6, 7, 8, 9] [] (bz_wayByDisks G hl) rfl rfl rfl rfl (by decide) gw_L_113 nd_L_wayByDisks ⟨by decide, by decide⟩ ⟨(show 0 + 0 + 0 + 1 + 1 ≤ 120 by omega), (show 0 + 0 + 0 + 6 + 6 ≤ 720 by omega)⟩ (Nat.le_of_ble_eq_true rfl) dL_areWaysSo_16 rfl (fun r w16 hp => ?_)
  obtain ⟨v16, rfl, hp⟩ := hp
  refine j_eq (st' := [.int v16]) (ws2 := w16) rfl rfl rfl ?_
  obtain ⟨hbd, rfl⟩ := hp
  have hbd : v16 = -1 ∨ v16 = (oI (ds (sA s))) := by
    rcases hbd with h | ⟨h1, h2, h3, h⟩
    · exact Or.inl h
    · rw [wb_WY G hd h1 h2 h3]
      exact Or.inr h
  refine j_istore_4 C dL_areWaysSo_19 (by decide) ?_
  have t350 : ∀ (k n : Nat) (l6 l7 l8 l9 l10 l11 l12 : Option Value) (w : va_W), k ≤ 120 → n ≤ 720 → Bw Y ad s w → jJ K k n 350 [some (.ref (ad 0)), some (.int (oI (ds (sA s)))), some (.int (sNx s ds)), some (.int v11), some (.int v16), some (.int (nI 1)), l6, l7, l8, l9, l10, l11, l12] [] w := by
    intro k n l6 l7 l8 l9 l10 l11 l12 w hk hn hB
    obtain ⟨tr, me, to, fa, se, qu, H, rfl⟩ := hB
    refine j_iload C dL_areWaysSo_350 rfl ?_
    refine j_if_eq C 367 dL_areWaysSo_352 (by decide) (fun z => absurd z (by decide)) (fun _ => ?_)
    refine j_aload_n C dL_areWaysSo_355 rfl ?_
    refine j_callVZ (wr := []) (st := []) C X [] [0, 1, 2, 3, 4, 5, 6, 7, 8, 9] [] (bz_way G H) rfl rfl rfl rfl (by decide) gw_L_91 nd_X0_way 0 0 rfl rfl rfl ⟨by decide, by decide⟩ ⟨(show k + 0 ≤ 120 by omega), (show n + 0 ≤ 720 by omega)⟩ (Nat.le_of_ble_eq_true rfl) dL_areWaysSo_356 rfl (fun r w356 hp => ?_)
    obtain ⟨v356, rfl, hp⟩ := hp
    refine j_eq (st' := [.int v356]) (ws2 := w356) rfl rfl rfl ?_
    obtain ⟨ds3, hd3, rfl, tr356, me356, to356, fa356, se356, qu356, H356, rfl⟩ := hp
    have e3 : ds = ds3 := funext (srD_one hd hd3)
    subst e3
    refine j_iload_n C dL_areWaysSo_359 rfl ?_
    refine j_icmp_ne C 367 dL_areWaysSo_360 (by decide) (fun z => absurd rfl z) (fun _ => ?_)
    refine j_iconst C (nI 1) dL_areWaysSo_363 (by decide) ?_
    refine j_goto C 368 dL_areWaysSo_364 (by decide) ?_
    refine j_widen hk hn ?_
    exact j_retz C R dL_areWaysSo_368 rfl ⟨rfl, Bw.of H356⟩
  have t116 : ∀ w, Bw Y ad s w → jJ K (0 + 0 + 0 + 1 + 1) (0 + 0 + 0 + 6 + 6) 116 [some (.ref (ad 0)), some (.int (oI (ds (sA s)))), some (.int (sNx s ds)), some (.int v11), some (.int v16), none, none, none, none, none, none, none, none] [] w := by
    intro w hB
    obtain ⟨tr, me, to, fa, se, qu, H, rfl⟩ := hB
    refine j_iconst C (nI 1) dL_areWaysSo_116 (by decide) ?_
    refine j_goto C 121 dL_areWaysSo_117 (by decide) ?_
    refine j_istore_5 C dL_areWaysSo_121 (by decide) ?_
    refine j_iload C dL_areWaysSo_123 rfl ?_
    refine j_if_eq C 350 dL_areWaysSo_125 (by decide) (fun z => absurd z (by decide)) (fun _ => ?_)
    refine j_aload_n C dL_areWaysSo_128 rfl ?_
    refine j_callVZ (wr := []) (st := []) C X [] [0, 1, 2, 3, 4, 5, 6, 7, 8, 9] [] (bz_moves) rfl rfl rfl rfl (by decide) gw_L_82 nd_X0_moves 0 0 rfl rfl rfl ⟨by decide, by decide⟩ ⟨(show 0 + 0 + 0 + 1 + 1 + 0 ≤ 120 by omega), (show 0 + 0 + 0 + 6 + 6 + 0 ≤ 720 by omega)⟩ (Nat.le_of_ble_eq_true rfl) dL_areWaysSo_129 rfl (fun r w129 hp => ?_)
    obtain ⟨v129, rfl, hp⟩ := hp
    refine j_eq (st' := [.int v129]) (ws2 := w129) rfl rfl rfl ?_
    obtain ⟨rfl, rfl⟩ := hp
    refine j_sipush C (nI 500) dL_areWaysSo_132 (by decide) ?_
    refine jN_icmp_ge C 350 (by have := G.2.2.2.1; omega) (by omega) dL_areWaysSo_135 (by decide) (fun _ => t350 _ _ _ _ _ _ _ _ _ _ (show 0 + 0 + 0 + 1 + 1 + 0 ≤ 120 by omega) (show 0 + 0 + 0 + 6 + 6 + 0 ≤ 720 by omega) (Bw.of H)) (fun hm => ?_)
    refine j_aload_n C dL_areWaysSo_138 rfl ?_
    refine j_callVZ (wr := []) (st := []) C X [] [0, 1, 2, 3, 4, 5, 6, 7, 8, 9] [] (bz_pegs) rfl rfl rfl rfl (by decide) gw_L_52 nd_X0_pegs 0 0 rfl rfl rfl ⟨by decide, by decide⟩ ⟨(show 0 + 0 + 0 + 1 + 1 + 0 + 0 ≤ 120 by omega), (show 0 + 0 + 0 + 6 + 6 + 0 + 0 ≤ 720 by omega)⟩ (Nat.le_of_ble_eq_true rfl) dL_areWaysSo_139 rfl (fun r w139 hp => ?_)
    obtain ⟨v139, rfl, hp⟩ := hp
    refine j_eq (st' := [.int v139]) (ws2 := w139) rfl rfl rfl ?_
    obtain ⟨rfl, rfl⟩ := hp
    refine j_istore_6 C dL_areWaysSo_142 (by decide) ?_
    refine j_iconst C (nI 0) dL_areWaysSo_144 (by decide) ?_
    refine j_istore_7 C dL_areWaysSo_145 (by decide) ?_
    exact ways_loop C X G hl hd hm hlo (fun k n l6 l7 l8 l9 l10 l11 l12 w hk hn hB => t350 k n l6 l7 l8 l9 l10 l11 l12 w hk hn hB) (sP s * sP s) 0 (0 + 0 + 0 + 1 + 1 + 0 + 0) (0 + 0 + 0 + 6 + 6 + 0 + 0) _ _ _ _ _ _ (by omega) (by omega) (by omega) (by omega) (Bw.of H)
  have t79 : jJ K (0 + 0 + 0 + 1 + 1) (0 + 0 + 0 + 6 + 6) 79 [some (.ref (ad 0)), some (.int (oI (ds (sA s)))), some (.int (sNx s ds)), some (.int v11), some (.int v16), none, none, none, none, none, none, none, none] [] (bw Y ad s tr11 me11 to11 fa11 se11 qu11) := by
    refine j_aload_n C dL_areWaysSo_79 rfl ?_
    refine j_callVZ (wr := []) (st := []) C X [] [0, 1, 2, 3, 4, 5, 6, 7, 8, 9] [] (bz_reachable G H11) rfl rfl rfl rfl (by decide) gw_L_94 nd_X0_reachable 0 0 rfl rfl rfl ⟨by decide, by decide⟩ ⟨(show 0 + 0 + 0 + 1 + 1 + 0 ≤ 120 by omega), (show 0 + 0 + 0 + 6 + 6 + 0 ≤ 720 by omega)⟩ (Nat.le_of_ble_eq_true rfl) dL_areWaysSo_80 rfl (fun r w80 hp => ?_)
    obtain ⟨v80, rfl, hp⟩ := hp
    refine j_eq (st' := [.int v80]) (ws2 := w80) rfl rfl rfl ?_
    obtain ⟨fo, hfo, rfl, tr80, me80, to80, fa80, se80, qu80, H80, rfl⟩ := hp
    refine j_bN C (decide (nI fo = 0)) (fun c => decide_eq_true c) (fun c => decide_eq_false c) dL_areWaysSo_83 dL_areWaysSo_86 dL_areWaysSo_87 dL_areWaysSo_90 ?_
    refine j_aload_n C dL_areWaysSo_91 rfl ?_
    refine j_callVZ (wr := []) (st := [.int (bi (decide (nI fo = 0)))]) C X [] [0, 1, 2, 3, 4, 5, 6, 7, 8, 9] [] (bz_isLawful G) rfl rfl rfl rfl (by decide) gw_L_115 nd_X0_isLawful 0 0 rfl rfl rfl ⟨by decide, by decide⟩ ⟨(show 0 + 0 + 0 + 1 + 1 + 0 + 0 ≤ 120 by omega), (show 0 + 0 + 0 + 6 + 6 + 0 + 0 ≤ 720 by omega)⟩ (Nat.le_of_ble_eq_true rfl) dL_areWaysSo_92 rfl (fun r w92 hp => ?_)
    obtain ⟨v92, rfl, hp⟩ := hp
    refine j_eq (st' := [.int v92, .int (bi (decide (nI fo = 0)))]) (ws2 := w92) rfl rfl rfl ?_
    obtain ⟨rfl, rfl⟩ := hp
    refine j_bN C (!sLw s) (fun c => by rw [(bi_0 _).mp c]; rfl) (fun c => by rw [(bi_n0 _).mp c]; rfl) dL_areWaysSo_95 dL_areWaysSo_98 dL_areWaysSo_99 dL_areWaysSo_102 ?_
    refine j_icmp_ne C 120 dL_areWaysSo_103 (by decide) (fun z => absurd (ww_rc G hfo) z) (fun _ => ?_)
    refine j_iload_n C dL_areWaysSo_106 rfl ?_
    refine j_ldc C dL_areWaysSo_107 wd_kL_16 ?_
    refine j_icmp_eq C 116 dL_areWaysSo_109 (by decide) (fun _ => t116 _ (Bw.of H80)) (fun z1 => ?_)
    refine j_iload_n C dL_areWaysSo_112 rfl ?_
    exact j_if_lt C 120 dL_areWaysSo_113 (by decide) (fun z => absurd z (ww_nn G hd (hlo.resolve_left z1).1)) (fun _ => t116 _ (Bw.of H80))
  have t68 : jJ K (0 + 0 + 0 + 1 + 1) (0 + 0 + 0 + 6 + 6) 68 [some (.ref (ad 0)), some (.int (oI (ds (sA s)))), some (.int (sNx s ds)), some (.int v11), some (.int v16), none, none, none, none, none, none, none, none] [] (bw Y ad s tr11 me11 to11 fa11 se11 qu11) := by
    refine j_iload C dL_areWaysSo_68 rfl ?_
    refine j_if_lt C 79 dL_areWaysSo_70 (by decide) (fun _ => t79) (fun z1 => ?_)
    refine j_iload C dL_areWaysSo_73 rfl ?_
    refine j_iload_n C dL_areWaysSo_75 rfl ?_
    refine j_icmp_ne C 120 dL_areWaysSo_76 (by decide) (fun z => absurd ?_ z) (fun _ => t79)
    rcases hbd with h | h
    · rw [h] at z1; exact absurd (by decide) z1
    · exact h
  have t57 : jJ K (0 + 0 + 0 + 1 + 1) (0 + 0 + 0 + 6 + 6) 57 [some (.ref (ad 0)), some (.int (oI (ds (sA s)))), some (.int (sNx s ds)), some (.int v11), some (.int v16), none, none, none, none, none, none, none, none] [] (bw Y ad s tr11 me11 to11 fa11 se11 qu11) := by
    refine j_iload_n C dL_areWaysSo_57 rfl ?_
    refine j_if_lt C 68 dL_areWaysSo_58 (by decide) (fun _ => t68) (fun z1 => ?_)
    refine j_aload_n C dL_areWaysSo_61 rfl ?_
    refine j_callVZ (wr := []) (st := []) C X [] [0, 1, 2, 3, 4, 5, 6, 7, 8, 9] [] (bz_isLawful G) rfl rfl rfl rfl (by decide) gw_L_115 nd_X0_isLawful 0 0 rfl rfl rfl ⟨by decide, by decide⟩ ⟨(show 0 + 0 + 0 + 1 + 1 + 0 ≤ 120 by omega), (show 0 + 0 + 0 + 6 + 6 + 0 ≤ 720 by omega)⟩ (Nat.le_of_ble_eq_true rfl) dL_areWaysSo_62 rfl (fun r w62 hp => ?_)
    obtain ⟨v62, rfl, hp⟩ := hp
    refine j_eq (st' := [.int v62]) (ws2 := w62) rfl rfl rfl ?_
    obtain ⟨rfl, rfl⟩ := hp
    exact jB_if_eq C 120 dL_areWaysSo_65 (by decide) (fun z => absurd (ww_law G hd z1) (by rw [z]; decide)) (fun _ => t68)
  refine j_iload_n C dL_areWaysSo_21 rfl ?_
  refine j_bLe C  dL_areWaysSo_22 dL_areWaysSo_25 dL_areWaysSo_26 dL_areWaysSo_29 ?_
  refine j_iload_n C dL_areWaysSo_30 rfl ?_
  refine j_bLt C  dL_areWaysSo_31 dL_areWaysSo_34 dL_areWaysSo_35 dL_areWaysSo_38 ?_
  refine j_icmp_ne C 120 dL_areWaysSo_39 (by decide) (fun z => absurd (ww_next G hd) z) (fun _ => ?_)
  refine j_iload_n C dL_areWaysSo_42 rfl ?_
  refine j_if_ne C 57 dL_areWaysSo_43 (by decide) (fun _ => t57) (fun z0 => ?_)
  refine j_aload_n C dL_areWaysSo_46 rfl ?_
  refine j_callVZ (wr := []) (st := []) C X [] [0, 1, 2, 3, 4, 5, 6, 7, 8, 9] [] (bz_arrangement) rfl rfl rfl rfl (by decide) gw_L_85 nd_X0_arrangement 0 0 rfl rfl rfl ⟨by decide, by decide⟩ ⟨(show 0 + 0 + 0 + 1 + 1 + 0 ≤ 120 by omega), (show 0 + 0 + 0 + 6 + 6 + 0 ≤ 720 by omega)⟩ (Nat.le_of_ble_eq_true rfl) dL_areWaysSo_47 rfl (fun r w47 hp => ?_)
  obtain ⟨v47, rfl, hp⟩ := hp
  refine j_eq (st' := [.int v47]) (ws2 := w47) rfl rfl rfl ?_
  obtain ⟨rfl, rfl⟩ := hp
  refine j_aload_n C dL_areWaysSo_50 rfl ?_
  refine j_callVZ (wr := []) (st := [.int (nI (sA s))]) C X [] [0, 1, 2, 3, 4, 5, 6, 7, 8, 9] [] (bz_goal) rfl rfl rfl rfl (by decide) gw_L_88 nd_X0_goal 0 0 rfl rfl rfl ⟨by decide, by decide⟩ ⟨(show 0 + 0 + 0 + 1 + 1 + 0 + 0 ≤ 120 by omega), (show 0 + 0 + 0 + 6 + 6 + 0 + 0 ≤ 720 by omega)⟩ (Nat.le_of_ble_eq_true rfl) dL_areWaysSo_51 rfl (fun r w51 hp => ?_)
  obtain ⟨v51, rfl, hp⟩ := hp
  refine j_eq (st' := [.int v51, .int (nI (sA s))]) (ws2 := w51) rfl rfl rfl ?_
  obtain ⟨rfl, rfl⟩ := hp
  exact j_icmp_ne C 120 dL_areWaysSo_54 (by decide) (fun z => absurd (ww_0 G hd z0) z) (fun _ => t57)
end
