section
-- ===== PART A: goes FIRST, ahead of the names: the tables' words, and 'selects' of the private methods out of them =====
/-- a private method of a class that the tables say can be made, by its rows of tables_1 -/
def lw_okq (q : MethodName × Nat) : Prop := (q.1.cls ≠ "java/lang/invoke/MethodHandle" ∧ q.1.cls ≠ "java/lang/invoke/VarHandle") ∧ Cond.instantiable q.1.cls q.2 ∈ tables_1 ∧ Cond.privateMethod q.1 ∈ tables_1 ∧ Cond.instanceMethod q.1 ∈ tables_1
theorem lw_p0 : lw_okq (⟨"TowerBench", "lay", "(II)V"⟩, 16) := ⟨⟨by decide +kernel, by decide +kernel⟩, List.mem_of_getElem? (i := 11) (by decide +kernel), List.mem_of_getElem? (i := 32) (by decide +kernel), List.mem_of_getElem? (i := 33) (by decide +kernel)⟩
theorem lw_p1 : lw_okq (⟨"TowerBench", "keepsRule", "(I)Z"⟩, 16) := ⟨⟨by decide +kernel, by decide +kernel⟩, List.mem_of_getElem? (i := 11) (by decide +kernel), List.mem_of_getElem? (i := 119) (by decide +kernel), List.mem_of_getElem? (i := 120) (by decide +kernel)⟩
theorem lw_p2 : lw_okq (⟨"TowerBench", "diskBelow", "(II)I"⟩, 16) := ⟨⟨by decide +kernel, by decide +kernel⟩, List.mem_of_getElem? (i := 11) (by decide +kernel), List.mem_of_getElem? (i := 123) (by decide +kernel), List.mem_of_getElem? (i := 124) (by decide +kernel)⟩
theorem lw_p3 : lw_okq (⟨"TowerBench", "pegIn", "(II)I"⟩, 16) := ⟨⟨by decide +kernel, by decide +kernel⟩, List.mem_of_getElem? (i := 11) (by decide +kernel), List.mem_of_getElem? (i := 127) (by decide +kernel), List.mem_of_getElem? (i := 128) (by decide +kernel)⟩
theorem lw_p4 : lw_okq (⟨"TowerBench", "mayLieOn", "(II)Z"⟩, 16) := ⟨⟨by decide +kernel, by decide +kernel⟩, List.mem_of_getElem? (i := 11) (by decide +kernel), List.mem_of_getElem? (i := 131) (by decide +kernel), List.mem_of_getElem? (i := 132) (by decide +kernel)⟩
theorem lw_p5 : lw_okq (⟨"TowerBench", "wayFrom", "(I)I"⟩, 16) := ⟨⟨by decide +kernel, by decide +kernel⟩, List.mem_of_getElem? (i := 11) (by decide +kernel), List.mem_of_getElem? (i := 139) (by decide +kernel), List.mem_of_getElem? (i := 140) (by decide +kernel)⟩
theorem lw_p6 : lw_okq (⟨"TowerBench", "search", "(I[IZ)I"⟩, 16) := ⟨⟨by decide +kernel, by decide +kernel⟩, List.mem_of_getElem? (i := 11) (by decide +kernel), List.mem_of_getElem? (i := 143) (by decide +kernel), List.mem_of_getElem? (i := 144) (by decide +kernel)⟩
theorem lw_p7 : lw_okq (⟨"TowerBench", "isNumber", "(I)Z"⟩, 16) := ⟨⟨by decide +kernel, by decide +kernel⟩, List.mem_of_getElem? (i := 11) (by decide +kernel), List.mem_of_getElem? (i := 147) (by decide +kernel), List.mem_of_getElem? (i := 148) (by decide +kernel)⟩
theorem lw_p8 : lw_okq (⟨"TowerBench", "searchFrom", "(I[IZI)I"⟩, 16) := ⟨⟨by decide +kernel, by decide +kernel⟩, List.mem_of_getElem? (i := 11) (by decide +kernel), List.mem_of_getElem? (i := 151) (by decide +kernel), List.mem_of_getElem? (i := 152) (by decide +kernel)⟩
theorem lw_p9 : lw_okq (⟨"TowerBench", "readTops", "(I)V"⟩, 16) := ⟨⟨by decide +kernel, by decide +kernel⟩, List.mem_of_getElem? (i := 11) (by decide +kernel), List.mem_of_getElem? (i := 155) (by decide +kernel), List.mem_of_getElem? (i := 156) (by decide +kernel)⟩
theorem lw_p10 : lw_okq (⟨"TowerBench", "isPeg", "(I)Z"⟩, 16) := ⟨⟨by decide +kernel, by decide +kernel⟩, List.mem_of_getElem? (i := 11) (by decide +kernel), List.mem_of_getElem? (i := 159) (by decide +kernel), List.mem_of_getElem? (i := 160) (by decide +kernel)⟩
theorem lw_p11 : lw_okq (⟨"TowerBench", "isStep", "(IIZ)Z"⟩, 16) := ⟨⟨by decide +kernel, by decide +kernel⟩, List.mem_of_getElem? (i := 11) (by decide +kernel), List.mem_of_getElem? (i := 163) (by decide +kernel), List.mem_of_getElem? (i := 164) (by decide +kernel)⟩
theorem lw_p12 : lw_okq (⟨"TowerBench", "fits", "(II)Z"⟩, 16) := ⟨⟨by decide +kernel, by decide +kernel⟩, List.mem_of_getElem? (i := 11) (by decide +kernel), List.mem_of_getElem? (i := 167) (by decide +kernel), List.mem_of_getElem? (i := 168) (by decide +kernel)⟩
theorem lw_p13 : lw_okq (⟨"TowerBench", "behindMove", "(III)I"⟩, 16) := ⟨⟨by decide +kernel, by decide +kernel⟩, List.mem_of_getElem? (i := 11) (by decide +kernel), List.mem_of_getElem? (i := 174) (by decide +kernel), List.mem_of_getElem? (i := 175) (by decide +kernel)⟩
theorem lw_p14 : lw_okq (⟨"TowerBench", "isDisk", "(I)Z"⟩, 16) := ⟨⟨by decide +kernel, by decide +kernel⟩, List.mem_of_getElem? (i := 11) (by decide +kernel), List.mem_of_getElem? (i := 178) (by decide +kernel), List.mem_of_getElem? (i := 179) (by decide +kernel)⟩
theorem lw_p15 : lw_okq (⟨"TowerBench", "isPossible", "(II)Z"⟩, 16) := ⟨⟨by decide +kernel, by decide +kernel⟩, List.mem_of_getElem? (i := 11) (by decide +kernel), List.mem_of_getElem? (i := 186) (by decide +kernel), List.mem_of_getElem? (i := 187) (by decide +kernel)⟩
def lw_privs_1 : List (MethodName × Nat) := [(⟨"TowerBench", "lay", "(II)V"⟩, 16), (⟨"TowerBench", "keepsRule", "(I)Z"⟩, 16), (⟨"TowerBench", "diskBelow", "(II)I"⟩, 16), (⟨"TowerBench", "pegIn", "(II)I"⟩, 16), (⟨"TowerBench", "mayLieOn", "(II)Z"⟩, 16), (⟨"TowerBench", "wayFrom", "(I)I"⟩, 16), (⟨"TowerBench", "search", "(I[IZ)I"⟩, 16), (⟨"TowerBench", "isNumber", "(I)Z"⟩, 16), (⟨"TowerBench", "searchFrom", "(I[IZI)I"⟩, 16), (⟨"TowerBench", "readTops", "(I)V"⟩, 16), (⟨"TowerBench", "isPeg", "(I)Z"⟩, 16), (⟨"TowerBench", "isStep", "(IIZ)Z"⟩, 16), (⟨"TowerBench", "fits", "(II)Z"⟩, 16), (⟨"TowerBench", "behindMove", "(III)I"⟩, 16), (⟨"TowerBench", "isDisk", "(I)Z"⟩, 16), (⟨"TowerBench", "isPossible", "(II)Z"⟩, 16)]
theorem lw_r1 : ∀ q ∈ lw_privs_1, lw_okq q := List.forall_mem_cons.mpr ⟨lw_p0, List.forall_mem_cons.mpr ⟨lw_p1, List.forall_mem_cons.mpr ⟨lw_p2, List.forall_mem_cons.mpr ⟨lw_p3, List.forall_mem_cons.mpr ⟨lw_p4, List.forall_mem_cons.mpr ⟨lw_p5, List.forall_mem_cons.mpr ⟨lw_p6, List.forall_mem_cons.mpr ⟨lw_p7, List.forall_mem_cons.mpr ⟨lw_p8, List.forall_mem_cons.mpr ⟨lw_p9, List.forall_mem_cons.mpr ⟨lw_p10, List.forall_mem_cons.mpr ⟨lw_p11, List.forall_mem_cons.mpr ⟨lw_p12, List.forall_mem_cons.mpr ⟨lw_p13, List.forall_mem_cons.mpr ⟨lw_p14, List.forall_mem_cons.mpr ⟨lw_p15, fun _ h => absurd h List.not_mem_nil⟩⟩⟩⟩⟩⟩⟩⟩⟩⟩⟩⟩⟩⟩⟩⟩
theorem lw_p16 : lw_okq (⟨"java/lang/Throwable", "fillInStackTrace", "(I)Ljava/lang/Throwable;"⟩, 6) := ⟨⟨by decide +kernel, by decide +kernel⟩, List.mem_of_getElem? (i := 240) (by decide +kernel), List.mem_of_getElem? (i := 238) (by decide +kernel), List.mem_of_getElem? (i := 239) (by decide +kernel)⟩
theorem lw_p17 : lw_okq (⟨"TowerBench", "isAnyBarred", "()Z"⟩, 16) := ⟨⟨by decide +kernel, by decide +kernel⟩, List.mem_of_getElem? (i := 11) (by decide +kernel), List.mem_of_getElem? (i := 380) (by decide +kernel), List.mem_of_getElem? (i := 381) (by decide +kernel)⟩
theorem lw_p18 : lw_okq (⟨"TowerBench", "gather", "(III)I"⟩, 16) := ⟨⟨by decide +kernel, by decide +kernel⟩, List.mem_of_getElem? (i := 11) (by decide +kernel), List.mem_of_getElem? (i := 388) (by decide +kernel), List.mem_of_getElem? (i := 389) (by decide +kernel)⟩
theorem lw_p19 : lw_okq (⟨"TowerBenchModel", "lay", "(II)V"⟩, 17) := ⟨⟨by decide +kernel, by decide +kernel⟩, List.mem_of_getElem? (i := 408) (by decide +kernel), List.mem_of_getElem? (i := 414) (by decide +kernel), List.mem_of_getElem? (i := 415) (by decide +kernel)⟩
theorem lw_p20 : lw_okq (⟨"TowerBenchModel", "goesWell", "(I)Z"⟩, 17) := ⟨⟨by decide +kernel, by decide +kernel⟩, List.mem_of_getElem? (i := 408) (by decide +kernel), List.mem_of_getElem? (i := 481) (by decide +kernel), List.mem_of_getElem? (i := 482) (by decide +kernel)⟩
theorem lw_p21 : lw_okq (⟨"TowerBenchModel", "all", "()I"⟩, 17) := ⟨⟨by decide +kernel, by decide +kernel⟩, List.mem_of_getElem? (i := 408) (by decide +kernel), List.mem_of_getElem? (i := 485) (by decide +kernel), List.mem_of_getElem? (i := 486) (by decide +kernel)⟩
theorem lw_p22 : lw_okq (⟨"TowerBenchModel", "isDisk", "(I)Z"⟩, 17) := ⟨⟨by decide +kernel, by decide +kernel⟩, List.mem_of_getElem? (i := 408) (by decide +kernel), List.mem_of_getElem? (i := 493) (by decide +kernel), List.mem_of_getElem? (i := 494) (by decide +kernel)⟩
theorem lw_p23 : lw_okq (⟨"TowerBenchModel", "isPeg", "(I)Z"⟩, 17) := ⟨⟨by decide +kernel, by decide +kernel⟩, List.mem_of_getElem? (i := 408) (by decide +kernel), List.mem_of_getElem? (i := 497) (by decide +kernel), List.mem_of_getElem? (i := 498) (by decide +kernel)⟩
theorem lw_p24 : lw_okq (⟨"TowerBenchModel", "numberOfNow", "()I"⟩, 17) := ⟨⟨by decide +kernel, by decide +kernel⟩, List.mem_of_getElem? (i := 408) (by decide +kernel), List.mem_of_getElem? (i := 521) (by decide +kernel), List.mem_of_getElem? (i := 522) (by decide +kernel)⟩
theorem lw_p25 : lw_okq (⟨"TowerBenchModel", "behind", "(III)I"⟩, 17) := ⟨⟨by decide +kernel, by decide +kernel⟩, List.mem_of_getElem? (i := 408) (by decide +kernel), List.mem_of_getElem? (i := 525) (by decide +kernel), List.mem_of_getElem? (i := 526) (by decide +kernel)⟩
theorem lw_p26 : lw_okq (⟨"TowerBenchModel", "open", "(I)V"⟩, 17) := ⟨⟨by decide +kernel, by decide +kernel⟩, List.mem_of_getElem? (i := 408) (by decide +kernel), List.mem_of_getElem? (i := 529) (by decide +kernel), List.mem_of_getElem? (i := 530) (by decide +kernel)⟩
theorem lw_p27 : lw_okq (⟨"TowerBenchModel", "topOf", "(I)I"⟩, 17) := ⟨⟨by decide +kernel, by decide +kernel⟩, List.mem_of_getElem? (i := 408) (by decide +kernel), List.mem_of_getElem? (i := 533) (by decide +kernel), List.mem_of_getElem? (i := 534) (by decide +kernel)⟩
theorem lw_p28 : lw_okq (⟨"TowerBenchModel", "isFine", "()Z"⟩, 17) := ⟨⟨by decide +kernel, by decide +kernel⟩, List.mem_of_getElem? (i := 408) (by decide +kernel), List.mem_of_getElem? (i := 537) (by decide +kernel), List.mem_of_getElem? (i := 538) (by decide +kernel)⟩
theorem lw_p29 : lw_okq (⟨"TowerBenchModel", "numberOfGoal", "()I"⟩, 17) := ⟨⟨by decide +kernel, by decide +kernel⟩, List.mem_of_getElem? (i := 408) (by decide +kernel), List.mem_of_getElem? (i := 577) (by decide +kernel), List.mem_of_getElem? (i := 578) (by decide +kernel)⟩
theorem lw_p30 : lw_okq (⟨"TowerBenchModel", "isLawfulNumber", "(I)Z"⟩, 17) := ⟨⟨by decide +kernel, by decide +kernel⟩, List.mem_of_getElem? (i := 408) (by decide +kernel), List.mem_of_getElem? (i := 585) (by decide +kernel), List.mem_of_getElem? (i := 586) (by decide +kernel)⟩
theorem lw_p31 : lw_okq (⟨"TowerBenchModel", "wayFrom", "(I)I"⟩, 17) := ⟨⟨by decide +kernel, by decide +kernel⟩, List.mem_of_getElem? (i := 408) (by decide +kernel), List.mem_of_getElem? (i := 597) (by decide +kernel), List.mem_of_getElem? (i := 598) (by decide +kernel)⟩
def lw_privs_2 : List (MethodName × Nat) := [(⟨"java/lang/Throwable", "fillInStackTrace", "(I)Ljava/lang/Throwable;"⟩, 6), (⟨"TowerBench", "isAnyBarred", "()Z"⟩, 16), (⟨"TowerBench", "gather", "(III)I"⟩, 16), (⟨"TowerBenchModel", "lay", "(II)V"⟩, 17), (⟨"TowerBenchModel", "goesWell", "(I)Z"⟩, 17), (⟨"TowerBenchModel", "all", "()I"⟩, 17), (⟨"TowerBenchModel", "isDisk", "(I)Z"⟩, 17), (⟨"TowerBenchModel", "isPeg", "(I)Z"⟩, 17), (⟨"TowerBenchModel", "numberOfNow", "()I"⟩, 17), (⟨"TowerBenchModel", "behind", "(III)I"⟩, 17), (⟨"TowerBenchModel", "open", "(I)V"⟩, 17), (⟨"TowerBenchModel", "topOf", "(I)I"⟩, 17), (⟨"TowerBenchModel", "isFine", "()Z"⟩, 17), (⟨"TowerBenchModel", "numberOfGoal", "()I"⟩, 17), (⟨"TowerBenchModel", "isLawfulNumber", "(I)Z"⟩, 17), (⟨"TowerBenchModel", "wayFrom", "(I)I"⟩, 17)]
theorem lw_r2 : ∀ q ∈ lw_privs_2, lw_okq q := List.forall_mem_cons.mpr ⟨lw_p16, List.forall_mem_cons.mpr ⟨lw_p17, List.forall_mem_cons.mpr ⟨lw_p18, List.forall_mem_cons.mpr ⟨lw_p19, List.forall_mem_cons.mpr ⟨lw_p20, List.forall_mem_cons.mpr ⟨lw_p21, List.forall_mem_cons.mpr ⟨lw_p22, List.forall_mem_cons.mpr ⟨lw_p23, List.forall_mem_cons.mpr ⟨lw_p24, List.forall_mem_cons.mpr ⟨lw_p25, List.forall_mem_cons.mpr ⟨lw_p26, List.forall_mem_cons.mpr ⟨lw_p27, List.forall_mem_cons.mpr ⟨lw_p28, List.forall_mem_cons.mpr ⟨lw_p29, List.forall_mem_cons.mpr ⟨lw_p30, List.forall_mem_cons.mpr ⟨lw_p31, fun _ h => absurd h List.not_mem_nil⟩⟩⟩⟩⟩⟩⟩⟩⟩⟩⟩⟩⟩⟩⟩⟩
theorem lw_p32 : lw_okq (⟨"TowerBenchModel", "search", "(I)V"⟩, 17) := ⟨⟨by decide +kernel, by decide +kernel⟩, List.mem_of_getElem? (i := 408) (by decide +kernel), List.mem_of_getElem? (i := 601) (by decide +kernel), List.mem_of_getElem? (i := 602) (by decide +kernel)⟩
theorem lw_p33 : lw_okq (⟨"TowerBenchModel", "gather", "(ZII)I"⟩, 17) := ⟨⟨by decide +kernel, by decide +kernel⟩, List.mem_of_getElem? (i := 408) (by decide +kernel), List.mem_of_getElem? (i := 609) (by decide +kernel), List.mem_of_getElem? (i := 610) (by decide +kernel)⟩
def lw_privs_3 : List (MethodName × Nat) := [(⟨"TowerBenchModel", "search", "(I)V"⟩, 17), (⟨"TowerBenchModel", "gather", "(ZII)I"⟩, 17)]
theorem lw_r3 : ∀ q ∈ lw_privs_3, lw_okq q := List.forall_mem_cons.mpr ⟨lw_p32, List.forall_mem_cons.mpr ⟨lw_p33, fun _ h => absurd h List.not_mem_nil⟩⟩
def lw_privs : List (MethodName × Nat) := lw_privs_1 ++ (lw_privs_2 ++ (lw_privs_3))
def lw_tbl : List Cond := k2_sels lw_privs ++ tables_1
theorem lw_privs_ok : ∀ q ∈ lw_privs, lw_okq q := by
  show ∀ q ∈ lw_privs_1 ++ (lw_privs_2 ++ (lw_privs_3)), lw_okq q
  exact List.forall_mem_append.mpr ⟨lw_r1, List.forall_mem_append.mpr ⟨lw_r2, lw_r3⟩⟩
end
section
/-! ===== BEGIN words of one list among another's, by their places ===== -/
theorem goodIn_r {big : List Cond} (ws : List Cond) (ps : List Nat) (hp : ws = ps.filterMap (fun i => big[i]?)) (h : ws.all goodWord = true) : GoodIn big ws := by
  intro w hw
  have h1 := List.all_eq_true.mp h w hw
  rw [hp] at hw
  obtain ⟨i, -, hi⟩ := List.mem_filterMap.mp hw
  have hm : w ∈ big := by first | exact List.mem_of_getElem? hi | exact List.getElem?_mem hi
  exact ⟨hm, good_of_word h1⟩
theorem goodIn_app {big a b : List Cond} (ha : GoodIn big a) (hb : GoodIn big b) : GoodIn big (a ++ b) := fun w h => (List.mem_append.mp h).elim (ha w) (hb w)
theorem goodIn_ca {big a b : List Cond} {c : Cond} (ha : GoodIn big (c :: a)) (hb : GoodIn big b) : GoodIn big (c :: (a ++ b)) := fun w h => (List.mem_cons.mp h).elim (fun e => ha w (List.mem_cons.mpr (Or.inl e))) (fun h => (List.mem_append.mp h).elim (fun h => ha w (List.mem_cons.mpr (Or.inr h))) (hb w))
theorem goodIn_sub {big ws : List Cond} (hm : ∀ w ∈ ws, w ∈ big) (h : ws.all goodWord = true) : GoodIn big ws := fun w hw => ⟨hm w hw, good_of_word (List.all_eq_true.mp h w hw)⟩
/-! ===== END ===== -/

/-! ===== BEGIN exceptions that leave a method, and their catching by the caller (launches without stack traces) ===== -/
section VXA
/-! The laws vx_back, vx_callV, vx_callS, vx_callSW, vx_throw0, vx_throwS follow proofs of the library, with one case more: JvmDerived/Free/Laws.lean (Back.of_free), Shelf42/LK1.lean (callV, callS), Shelf/KitTraced.lean (throwNew0V, throwNewS). -/
/-- where a method has thrown q: the class by its name, the cell, what was written, the world -/
def vx_T (XC : String → State → State → Prop) (st : State) (q : Addr) (t : State) (mc ms : Nat) (free : Addr → Prop) : Prop :=
  ∃ (E : String) (ce : Cell) (L : List Loc), XC E st t ∧ t.heap[q]? = some ce ∧ ce.vm = .none ∧ st.vm.findClass E = some ce.cls ∧ st.WarmedH t.vm ∧ st.sameButNew ({ t with vm := st.vm } : State) L mc ms ∧ ∀ z ∈ L, free z.base
def vx_Q (Qc : Array Value → State → Outcome → State → Prop) (XC : String → State → State → Prop) (mc ms : Nat) (free : Addr → Prop) : Array Value → State → Outcome → State → Prop := fun a st o t =>
  (Qc a st o t ∧ ∃ L, FrameEnd st o t L mc ms ∧ ∀ q ∈ L, free q.base) ∨ ∃ q, o = .threw q ∧ vx_T XC st q t mc ms free
/-- a callee that returns or throws -/
def vx_Met (l : Launch) (y : MethodName) (ws : List Cond) (rm : Room) (Pc : Array Value → State → Prop) (Qc : Array Value → State → Outcome → State → Prop) (XC : String → State → State → Prop) (mc ms : Nat) (free : Addr → Prop) : Prop :=
  MetFree l y (headSpec ws rm) Pc (fun _ _ _ _ _ => True) (vx_Q Qc XC mc ms free)
def vx_Post (XC : String → State → State → Prop) (mc ms : Nat) (free : Addr → Prop) : Pt → Array Value → Addr → Pt → Prop := fun A a q B =>
  ∃ (g : JFrame) (mk : MethodId) (t : State) (L : List Loc) (E : String) (ce : Cell), B.U.heap = t.heap ∧ B.U.vm = t.vm ∧ XC E (A.U.calling g mk a) t ∧ t.heap[q]? = some ce ∧ ce.vm = .none ∧ A.U.vm.findClass E = some ce.cls ∧ B.locs = A.locs ++ L ∧ (∀ z ∈ L, free z.base) ∧ B.cells = A.cells + mc ∧ B.slots = A.slots + ms
def vx_Back (l : Launch) (R : Room) (p : Program) (e : Env) (below : List Frame) (s : State) (sargs : Array Value) (y : MethodName) (len W9 : Nat)
    (Pre : Pt → Array Value → Prop) (Post : Pt → Array Value → Option Value → Pt → Prop) (PostX : Pt → Array Value → Addr → Pt → Prop) : Prop :=
  ∀ (m : MethodId) (meth : Method) (c : Code) (A : Pt) (g : JFrame) (ig : Instr) (mk : MethodId) (a : Array Value),
    Stand p l e R s m sargs below meth c A.U A.locs A.cells A.slots → g.method = m → g.locals.size = c.maxLocals → decode c.code g.pc = .ok (ig, len) →
    2 * g.monitorRoom + (g.stack.map fun v => v.category).sum ≤ W9 → A.U.methodNamed? y = some mk → Pre A a →
    (∃ (v : Option Value) (B : Pt), Stand p l e R s m sargs below meth c B.U B.locs B.cells B.slots ∧ Post A a v B ∧
      Steps p.tables e below (doInvoke e (A.U.setTop g) [] mk a).1 (B.U.setTop { g with pc := g.pc + len, stack := v.toList ++ g.stack })) ∨
    (∃ (q : Addr) (B : Pt), Stand p l e R s m sargs below meth c B.U B.locs B.cells B.slots ∧ PostX A a q B ∧
      Steps p.tables e below (doInvoke e (A.U.setTop g) [] mk a).1 ((B.U.setTop g).pushFrame (.throwing q)))
section Payer
variable {l : Launch} {R : Room} {p : Program} {e : Env} {below : List Frame} {s : State} {sargs : Array Value} {y : MethodName} {len W9 : Nat}
theorem vx_back {ws : List Cond} {rm : Room} {Pc : Array Value → State → Prop} {Qc : Array Value → State → Outcome → State → Prop} {XC : String → State → State → Prop} {mc ms : Nat} {free : Addr → Prop} {bytes : ByteArray} {maxL : Nat} {ret : Option FieldType}
    (hM : vx_Met l y ws rm Pc Qc XC mc ms free) (hblind : FrameBlind Pc) (hrc : rm.cells = mc) (hrs : rm.slots = ms)
    (hframes : rm.frames + 1 ≤ R.frames) (hlocals : W9 + (maxL + 11) + rm.locals ≤ R.locals)
    (hws : ∀ w ∈ ws, ∀ a' U, s.WarmedH U.vm → w.before a' U = true) (hcode : Cond.code y bytes maxL ret ∈ ws) (hinit : ∀ a' U, s.WarmedH U.vm → (Cond.initialized y.cls).before a' U = true) :
    vx_Back l R p e below s sargs y len W9 (PreOf R mc ms Pc) (PostOf Qc mc ms free) (vx_Post XC mc ms free) := by
  intro m meth c A g ig mk a X hg hsize hdg hW hn hp
  have h1 : (headSpec ws rm).pre.before a A.U = true := atoms_intro fun w hw => hws w hw _ _ X.warmed
  have h2 : (Cond.code y bytes maxL ret).before a A.U = true := hws _ hcode _ _ X.warmed
  have h3 : (Cond.initialized y.cls).before a A.U = true := hinit _ _ X.warmed
  have h4 : A.cells + (headSpec ws rm).room.cells ≤ R.cells := by rw [show (headSpec ws rm).room.cells = mc from hrc]; exact hp.1
  have h5 : A.slots + (headSpec ws rm).room.slots ≤ R.slots := by rw [show (headSpec ws rm).room.slots = ms from hrs]; exact hp.2.1
  have hPc : Pc a (A.U.calling g mk a) := hblind _ _ _ _ hp.2.2
  obtain ⟨U, Ls, c0, s0⟩ := A
  dsimp only [Pt.U, Pt.locs, Pt.cells, Pt.slots] at h1 h2 h3 h4 h5 X hn hPc ⊢
  obtain ⟨methY, cY, hmY, hcY, -, hlY, -, -, -, -⟩ := Cond.code_spec hn h2
  obtain ⟨kY, hkY, -⟩ := className_of_methodNamed hn
  have hinitY : kY.init = .initialized := Cond.initialized_spec (findClass_of_methodNamed hn) hkY h3
  have h : At U g.method c below := by rw [hg]; exact X.here
  have hlocals9 : W9 + (maxL + 11) + (headSpec ws rm).room.locals ≤ R.locals := hlocals
  have happ : (headSpec ws rm).appliesLoose y e.platform (U.calling g mk a) = true :=
    Spec.appliesLoose_calling (g := g) h hdg hn hkY hinitY
      (X.room_calling (g := g) (R' := (headSpec ws rm).room) hsize hmY hcY hframes (by rw [hlY]; omega) h4 h5) h1
  obtain ⟨mid, hmid⟩ := h.above
  have hfr : (U.setTop g).frames = (.java g :: mid) ++ below := by rw [State.frames_setTop' g h.top, hmid]; rfl
  obtain ⟨o, s₂, hsteps, -, hend, hq⟩ := Steps.callFree hM p X.admits X.cas X.clock (acts := []) hfr happ hPc trivial
  have hq' : vx_Q Qc XC mc ms free a (U.calling g mk a) o s₂ := hq
  rw [State.frames_setTop' g h.top] at hend
  obtain ⟨g₀, hg0⟩ := Option.isSome_iff_exists.mp h.top
  obtain ⟨r, hr⟩ := State.topJava?_eq_some.mp hg0
  have hr' : (({ U with heap := s₂.heap, slotsUsed := s₂.slotsUsed } : State).setVm s₂.vm).frames = .java g₀ :: r := hr
  rcases hq' with ⟨hqc, L, hfe, hL⟩ | ⟨q, rfl, E, ce, L, hx, hce, hcv, hcl, hW₂, hsm, hL⟩
  · obtain ⟨⟨v, rfl⟩, hW₂, e2, q2, q3, q4, q5, q6⟩ := id hfe
    have e3 : s₂ = ({ (U.calling g mk a).setFrames s₂.frames with heap := s₂.heap, slotsUsed := s₂.slotsUsed } : State).setVm s₂.vm := by
      have : s₂ = ({ s₂ with vm := (U.calling g mk a).vm } : State).setVm s₂.vm := rfl
      rw [e2] at this
      exact this
    obtain ⟨c₂, i₂, len₂, hc₂, hd₂, hf₂⟩ := hend
    have hW' : U.WarmedH s₂.vm := hW₂
    have hcc : c₂ = c := by
      have h1 : s₂.code? g.method = U.code? g.method := by
        rw [State.code?_eq, State.code?_eq, hW'.alike.method?]
      exact Option.some.inj (hc₂.symm.trans (h1.trans h.code))
    subst hcc
    have hlen : len₂ = len := by rw [hdg] at hd₂; cases hd₂; rfl
    subst hlen
    have hs₂ : s₂ = (({ U with heap := s₂.heap, slotsUsed := s₂.slotsUsed } : State).setVm s₂.vm).setTop { g with pc := g.pc + len₂, stack := v.toList ++ g.stack } := by
      refine e3.trans ?_
      rw [hf₂, State.calling_eq h.top, State.setFrames_setFrames, State.setTop_of_frames _ hr', hr]
      rfl
    have hsame : U.sameButNew ({ U with heap := s₂.heap, slotsUsed := s₂.slotsUsed } : State) L mc ms := by
      refine ⟨?_, q2, q3, q4, q5, q6⟩
      obtain ⟨t, ht, -⟩ := State.frames_cons hr
      show ({ U with heap := s₂.heap, slotsUsed := s₂.slotsUsed } : State) = { U.setFrames U.frames with heap := s₂.heap, slotsUsed := s₂.slotsUsed }
      rw [State.setFrames_self ht]
    subst hg
    refine Or.inl ⟨v, ⟨(({ U with heap := s₂.heap, slotsUsed := s₂.slotsUsed } : State).setVm s₂.vm), Ls ++ L, c0 + mc, s0 + ms⟩,
      ⟨X.admits, X.cas, X.clock, X.frames, X.room, X.hears, X.method, X.code, (X.here.setHeapUsed s₂.heap s₂.slotsUsed).setVm hW'.alike, X.tail, State.WarmedH.trans X.warmed hW', X.limits, X.bytes, X.same.trans (hsame.setVm s.vm)⟩,
      ⟨g, mk, s₂, L, rfl, rfl, hqc, rfl, hL, rfl, rfl⟩, ?_⟩
    show Steps p.tables e below _ ((({ U with heap := s₂.heap, slotsUsed := s₂.slotsUsed } : State).setVm s₂.vm).setTop { g with pc := g.pc + len₂, stack := v.toList ++ g.stack })
    rw [← hs₂]
    exact hsteps
  · obtain ⟨e2, q2, q3, q4, q5, q6⟩ := id hsm
    have e3 : s₂ = ({ (U.calling g mk a).setFrames s₂.frames with heap := s₂.heap, slotsUsed := s₂.slotsUsed } : State).setVm s₂.vm := by
      have : s₂ = ({ s₂ with vm := (U.calling g mk a).vm } : State).setVm s₂.vm := rfl
      rw [e2] at this
      exact this
    have hf₂ : s₂.frames = .throwing q :: .java g :: U.frames.tail := hend
    have hW' : U.WarmedH s₂.vm := hW₂
    have hs₂ : s₂ = ((({ U with heap := s₂.heap, slotsUsed := s₂.slotsUsed } : State).setVm s₂.vm).setTop g).pushFrame (.throwing q) := by
      refine e3.trans ?_
      rw [hf₂, State.calling_eq h.top, State.setFrames_setFrames, State.pushFrame, State.frames_setTop _ hr', State.setTop_of_frames _ hr', State.setFrames_setFrames, hr]
      rfl
    have hsame : U.sameButNew ({ U with heap := s₂.heap, slotsUsed := s₂.slotsUsed } : State) L mc ms := by
      refine ⟨?_, q2, q3, q4, q5, q6⟩
      obtain ⟨t, ht, -⟩ := State.frames_cons hr
      show ({ U with heap := s₂.heap, slotsUsed := s₂.slotsUsed } : State) = { U.setFrames U.frames with heap := s₂.heap, slotsUsed := s₂.slotsUsed }
      rw [State.setFrames_self ht]
    subst hg
    refine Or.inr ⟨q, ⟨(({ U with heap := s₂.heap, slotsUsed := s₂.slotsUsed } : State).setVm s₂.vm), Ls ++ L, c0 + mc, s0 + ms⟩,
      ⟨X.admits, X.cas, X.clock, X.frames, X.room, X.hears, X.method, X.code, (X.here.setHeapUsed s₂.heap s₂.slotsUsed).setVm hW'.alike, X.tail, State.WarmedH.trans X.warmed hW', X.limits, X.bytes, X.same.trans (hsame.setVm s.vm)⟩,
      ⟨g, mk, s₂, L, E, ce, rfl, rfl, hx, hce, hcv, hcl, rfl, hL, rfl, rfl⟩, ?_⟩
    show Steps p.tables e below _ (((({ U with heap := s₂.heap, slotsUsed := s₂.slotsUsed } : State).setVm s₂.vm).setTop g).pushFrame (.throwing q))
    rw [← hs₂]
    exact hsteps
end Payer
section Calls
variable {p : Program} {l : Launch} {e : Env} {R : Room} {s : State} {m : MethodId} {args : Array Value} {below : List Frame} {meth : Method} {c : Code} {T : State} {locs : List Loc} {cells slots : Nat}
theorem vx_callV (X : Stand p l e R s m args below meth c T locs cells slots) (hexec : p.tables.exec = Jvm.exec) {own C : String} {index : Nat} {y : MethodName} {bytes : ByteArray} {maxL : Nat} {ret : Option FieldType}
    (hown : s.vm.findClass own = some m.cls) (hlink : (Cond.methodLink own index y).before args s = true) (hinst : (Cond.instanceMethod y).before args s = true) (hsel : (Cond.selects C y y).before args s = true)
    (hcode : (Cond.code y bytes maxL ret).before args s = true) (hy : y.cls ≠ "java/lang/invoke/MethodHandle" ∧ y.cls ≠ "java/lang/invoke/VarHandle")
    {W9 : Nat} {Pre : Pt → Array Value → Prop} {Post : Pt → Array Value → Option Value → Pt → Prop} {PostX : Pt → Array Value → Addr → Pt → Prop} (hK : vx_Back l R p e below s args y 3 W9 Pre Post PostX)
    {b : Addr} {cellB : Cell} (hcell : T.heap[b]? = some cellB) (hobj : cellB.vm.isStatics = false) (hcls : s.vm.findClass C = some cellB.cls)
    {g : JFrame} (hg : g.method = m) (hsize : g.locals.size = c.maxLocals) {argsL rest : List Value} (hlen : ∀ sig, parseMethodDescriptor y.desc = some sig → argsL.length = sig.parameters.length)
    (hstack : g.stack = argsL.reverse ++ .ref b :: rest) (hW : 2 * g.monitorRoom + (rest.map fun v => v.category).sum ≤ W9) (hdg : decode c.code g.pc = .ok (.invokevirtual index, 3))
    (hpre : ∀ vm₁, s.WarmedH vm₁ → Pre ⟨T.setVm vm₁, locs, cells, slots⟩ (Value.ref b :: argsL).toArray) :
    (∃ (v : Option Value) (vm₁ : Vm) (B : Pt), s.WarmedH vm₁ ∧ Stand p l e R s m args below meth c B.U B.locs B.cells B.slots ∧ Post ⟨T.setVm vm₁, locs, cells, slots⟩ (Value.ref b :: argsL).toArray v B ∧
      ∀ target, Steps p.tables e below (B.U.setTop { g with pc := g.pc + 3, stack := v.toList ++ rest }) target → Steps p.tables e below (T.setTop g) target) ∨
    (∃ (q : Addr) (vm₁ : Vm) (B : Pt), s.WarmedH vm₁ ∧ Stand p l e R s m args below meth c B.U B.locs B.cells B.slots ∧ PostX ⟨T.setVm vm₁, locs, cells, slots⟩ (Value.ref b :: argsL).toArray q B ∧
      Steps p.tables e below (T.setTop g) ((B.U.setTop { g with stack := rest }).pushFrame (.throwing q))) := by
  obtain ⟨mk, methM, hnamed, hmethM, hstM, habM⟩ := Cond.instanceMethod_spec hinst
  obtain ⟨methM', cM, hmethM', -, -, -, -, -, -, hsigM⟩ := Cond.code_spec hnamed hcode
  cases hmethM.symm.trans hmethM'
  obtain ⟨c2, r2, m2, q1, q2, q3, q4, kP, hkP, hkPi⟩ := Cond.selects_spec hsel
  cases hcls.symm.trans q1
  cases (State.methodFound?_of_named hnamed hy).symm.trans q2
  cases hnamed.symm.trans q3
  have hselP : selectMethod e.platform s.vm cellB.cls mk = .method mk := by rw [Launch.admits_selectMethod X.admits]; exact q4
  obtain ⟨vm₁, X₁, hstep₁⟩ := X.invokevirtual hexec hown hlink hnamed hmethM hstM hkP hkPi hy (a := b) (cell := cellB) hcell
    (fun z h => by rw [h] at hobj; cases hobj) hselP hmethM habM hkP hkPi (g := g) hg (argsL := argsL) (rest := rest) (hlen _ hsigM) hstack hdg
  rcases hK m meth c ⟨T.setVm vm₁, locs, cells, slots⟩ { g with stack := rest } (.invokevirtual index) mk (Value.ref b :: argsL).toArray X₁ hg hsize hdg hW (X₁.named hnamed) (hpre vm₁ X₁.warmed) with ⟨v, B, X', hpost, hsteps⟩ | ⟨q, B, X', hpost, hsteps⟩
  · exact Or.inl ⟨v, vm₁, B, X₁.warmed, X', hpost, fun target h => hstep₁ _ fun acts => by rw [doInvoke_state]; exact hsteps.trans h⟩
  · exact Or.inr ⟨q, vm₁, B, X₁.warmed, X', hpost, hstep₁ _ fun acts => by rw [doInvoke_state]; exact hsteps⟩
theorem vx_callS (X : Stand p l e R s m args below meth c T locs cells slots) (hexec : p.tables.exec = Jvm.exec) {own : String} {index : Nat} {y : MethodName} {bytes : ByteArray} {maxL : Nat} {ret : Option FieldType}
    (hown : s.vm.findClass own = some m.cls) (hlink : (Cond.methodLink own index y).before args s = true) (hstat : (Cond.static y).before args s = true) (hinit : (Cond.initialized y.cls).before args s = true)
    (hcode : (Cond.code y bytes maxL ret).before args s = true) (hy : y.cls ≠ "java/lang/invoke/MethodHandle" ∧ y.cls ≠ "java/lang/invoke/VarHandle")
    {W9 : Nat} {Pre : Pt → Array Value → Prop} {Post : Pt → Array Value → Option Value → Pt → Prop} {PostX : Pt → Array Value → Addr → Pt → Prop} (hK : vx_Back l R p e below s args y 3 W9 Pre Post PostX)
    {g : JFrame} (hg : g.method = m) (hsize : g.locals.size = c.maxLocals) {argsL rest : List Value} (hlen : ∀ sig, parseMethodDescriptor y.desc = some sig → argsL.length = sig.parameters.length)
    (hstack : g.stack = argsL.reverse ++ rest) (hW : 2 * g.monitorRoom + (rest.map fun v => v.category).sum ≤ W9) (hdg : decode c.code g.pc = .ok (.invokestatic index, 3))
    (hpre : ∀ vm₁, s.WarmedH vm₁ → Pre ⟨T.setVm vm₁, locs, cells, slots⟩ argsL.toArray) :
    (∃ (v : Option Value) (vm₁ : Vm) (B : Pt), s.WarmedH vm₁ ∧ Stand p l e R s m args below meth c B.U B.locs B.cells B.slots ∧ Post ⟨T.setVm vm₁, locs, cells, slots⟩ argsL.toArray v B ∧
      ∀ target, Steps p.tables e below (B.U.setTop { g with pc := g.pc + 3, stack := v.toList ++ rest }) target → Steps p.tables e below (T.setTop g) target) ∨
    (∃ (q : Addr) (vm₁ : Vm) (B : Pt), s.WarmedH vm₁ ∧ Stand p l e R s m args below meth c B.U B.locs B.cells B.slots ∧ PostX ⟨T.setVm vm₁, locs, cells, slots⟩ argsL.toArray q B ∧
      Steps p.tables e below (T.setTop g) ((B.U.setTop { g with stack := rest }).pushFrame (.throwing q))) := by
  obtain ⟨mk, hnamed⟩ := Cond.code_named hcode
  obtain ⟨methM, cM, hmethM, -, -, -, -, -, -, hsigM⟩ := Cond.code_spec hnamed hcode
  have hstatic : methM.isStatic = true := Cond.static_spec hnamed hmethM hstat
  obtain ⟨kP, hkP, -⟩ := className_of_methodNamed hnamed
  have hinitP : kP.init = .initialized := Cond.initialized_spec (findClass_of_methodNamed hnamed) hkP hinit
  obtain ⟨vm₁, X₁, hstep₁⟩ := X.invokestatic hexec hown hlink hnamed hmethM hstatic hkP hinitP hy (g := g) hg (argsL := argsL) (rest := rest) (hlen _ hsigM) hstack hdg
  rcases hK m meth c ⟨T.setVm vm₁, locs, cells, slots⟩ { g with stack := rest } (.invokestatic index) mk argsL.toArray X₁ hg hsize hdg hW (X₁.named hnamed) (hpre vm₁ X₁.warmed) with ⟨v, B, X', hpost, hsteps⟩ | ⟨q, B, X', hpost, hsteps⟩
  · exact Or.inl ⟨v, vm₁, B, X₁.warmed, X', hpost, fun target h => hstep₁ _ fun acts => by rw [doInvoke_state]; exact hsteps.trans h⟩
  · exact Or.inr ⟨q, vm₁, B, X₁.warmed, X', hpost, hstep₁ _ fun acts => by rw [doInvoke_state]; exact hsteps⟩
end Calls
theorem vx_cls {s : State} {T : State} {vm₁ : Vm} {E : String} {k : ClassId} (hW : s.WarmedH vm₁) (h : (T.setVm vm₁).vm.findClass E = some k) : s.vm.findClass E = some k := by
  have h1 : vm₁.findClass E = some k := h
  rw [hW.alike.findClass] at h1
  exact h1
/-- the method's frame g, with q thrown over it -/
def vx_W (p : Program) (l : Launch) (e : Env) (R : Room) (s : State) (m : MethodId) (args : Array Value) (below : List Frame) (meth : Method) (c : Code) (H : Heap) (locs : List Loc) (cells slots : Nat) (Q : State → Prop) (g : JFrame) (q : Addr) : Prop :=
  ∀ T : State, T.heap = H → Stand p l e R s m args below meth c T locs cells slots → ∃ t, Steps p.tables e below ((T.setTop g).pushFrame (.throwing q)) t ∧ Q t
def vx_Run (p : Program) (l : Launch) (e : Env) (R : Room) (s : State) (m : MethodId) (args : Array Value) (below : List Frame) (meth : Method) (c : Code) (H : Heap) (locs : List Loc) (cells slots mc ms : Nat) (g : JFrame) (rest : List Value) (Qa : State → Outcome → State → Prop) (XC : String → State → State → Prop) (free : Addr → Prop) : Prop :=
  ∀ T : State, T.heap = H → Stand p l e R s m args below meth c T locs cells slots →
    (∃ (v : Option Value) (st₀ t T' : State) (L : List Loc), st₀.heap = H ∧ Stand p l e R s m args below meth c T' (locs ++ L) (cells + mc) (slots + ms) ∧ (∀ q ∈ L, free q.base) ∧ T'.heap = t.heap ∧ T'.vm = t.vm ∧ Qa st₀ (.returned v) t ∧
      Goes p e below T g T' { g with pc := g.pc + 3, stack := v.toList ++ rest }) ∨
    (∃ (q : Addr) (st₀ t T' : State) (L : List Loc) (E : String) (ce : Cell), st₀.heap = H ∧ Stand p l e R s m args below meth c T' (locs ++ L) (cells + mc) (slots + ms) ∧ (∀ z ∈ L, free z.base) ∧ T'.heap = t.heap ∧ T'.vm = t.vm ∧ XC E st₀ t ∧ t.heap[q]? = some ce ∧ ce.vm = .none ∧ s.vm.findClass E = some ce.cls ∧
      Steps p.tables e below (T.setTop g) ((T'.setTop { g with stack := rest }).pushFrame (.throwing q)))
def vx_X {S : Type} (px : S → Prop) (B : String → S → State → Prop) (A : Nat → Prop) : String → State → State → Prop := fun E st t => ∃ u : S, px u ∧ B E u t ∧ va_F A st t
section Runs
variable {p : Program} {l : Launch} {e : Env} {R : Room} {s : State} {m : MethodId} {args : Array Value} {below : List Frame} {meth : Method} {c : Code} {H : Heap} {locs : List Loc} {cells slots : Nat}
variable {y : MethodName} {bytes cc : ByteArray} {maxL nL mc ms n index : Nat} {ret : Option FieldType} {ws : List Cond} {rm : Room} {Pc : Array Value → State → Prop} {Qc : Array Value → State → Outcome → State → Prop} {XC : String → State → State → Prop} {free : Addr → Prop} {Ts : List Cond} {own C : String} {b : Addr} {As rest : List Value} {g : JFrame}
theorem vx_callBack (cb : CallB R s args own index y bytes maxL ret ws rm mc ms n) (hM : vx_Met l y ws rm Pc Qc XC mc ms free) (hbl : FrameBlind Pc) : vx_Back l R p e below s args y 3 8 (PreOf R mc ms Pc) (PostOf Qc mc ms free) (vx_Post XC mc ms free) := by
  obtain ⟨hrc, hrs, hfr, hlo, hws, hcw, -, hini, -⟩ := cb
  exact vx_back (bytes := bytes) (maxL := maxL) (ret := ret) hM hbl hrc hrs hfr hlo hws hcw (fun a' U hW => word_at hW (Or.inl (by first | rfl | simp [Cond.onTables, Cond.keeps, Cond.steady])) hini)
theorem vx_runV (S : CallFix p m c cc nL s args Ts own) (hM : vx_Met l y ws rm Pc Qc XC mc ms free) (cw : CallW R s args own C index y bytes maxL ret ws rm mc ms n) (hp : PreV s H C b Pc As)
    (hg : g.method = m) (hn : As.length = n) (hsize : g.locals.size = nL) (hstack : g.stack = As.reverse ++ .ref b :: rest) (hW : 2 * g.monitorRoom + (rest.map fun v => v.category).sum ≤ 8) (hdg : decode cc g.pc = .ok (.invokevirtual index, 3)) (hf : cells + mc ≤ R.cells ∧ slots + ms ≤ R.slots) :
    vx_Run p l e R s m args below meth c H locs cells slots mc ms g rest (Qc (Value.ref b :: As).toArray) XC free := by
  have hK : vx_Back l R p e below s args y 3 8 (PreOf R mc ms Pc) (PostOf Qc mc ms free) (vx_Post XC mc ms free) := vx_callBack cw.1 hM hp.1
  obtain ⟨⟨-, -, -, -, -, -, hcode, -, hy, hlen, hl⟩, hin, hse⟩ := cw
  obtain ⟨hx, hb, hml, ho, -⟩ := S
  obtain ⟨-, ⟨cellB, hcB, hoB, hclB⟩, hPc⟩ := hp
  intro T hT X
  rcases vx_callV X hx (C := C) (bytes := bytes) (maxL := maxL) (ret := ret) ho hl hin hse hcode hy hK (by rw [hT]; exact hcB) hoB hclB hg (hsize.trans hml.symm) (argsL := As) (rest := rest) (fun sig h => hn.trans (hlen sig h)) hstack hW (by rw [hb]; exact hdg)
    (fun vm₁ hW₁ => ⟨hf.1, hf.2, hPc (T.setVm vm₁) hT hW₁⟩) with ⟨v, vm₁, ⟨U', l2, c2, s2⟩, hW₁, X', ⟨g', mk, t, L, e1, e2, hq, h1, hL, h2, h3⟩, st⟩ | ⟨q, vm₁, ⟨U', l2, c2, s2⟩, hW₁, X', ⟨g', mk, t, L, E, ce, e1, e2, hq, hce, hcv, hcl, h1, hL, h2, h3⟩, st⟩
  · dsimp only [Pt.U, Pt.locs, Pt.cells, Pt.slots] at X' e1 e2 h1 h2 h3 st
    subst h1; subst h2; subst h3
    exact Or.inl ⟨v, (T.setVm vm₁).calling g' mk (Value.ref b :: As).toArray, t, U', L, hT, X', hL, e1, e2, hq, st⟩
  · dsimp only [Pt.U, Pt.locs, Pt.cells, Pt.slots] at X' e1 e2 h1 h2 h3 st hcl
    subst h1; subst h2; subst h3
    exact Or.inr ⟨q, (T.setVm vm₁).calling g' mk (Value.ref b :: As).toArray, t, U', L, E, ce, hT, X', hL, e1, e2, hq, hce, hcv, vx_cls hW₁ hcl, st⟩
theorem vx_runS (S : CallFix p m c cc nL s args Ts own) (hM : vx_Met l y ws rm Pc Qc XC mc ms free) (cw : CallB R s args own index y bytes maxL ret ws rm mc ms n ∧ (Cond.static y).before args s = true) (hp : PreS s H Pc As)
    (hg : g.method = m) (hn : As.length = n) (hsize : g.locals.size = nL) (hstack : g.stack = As.reverse ++ rest) (hW : 2 * g.monitorRoom + (rest.map fun v => v.category).sum ≤ 8) (hdg : decode cc g.pc = .ok (.invokestatic index, 3)) (hf : cells + mc ≤ R.cells ∧ slots + ms ≤ R.slots) :
    vx_Run p l e R s m args below meth c H locs cells slots mc ms g rest (Qc As.toArray) XC free := by
  have hK : vx_Back l R p e below s args y 3 8 (PreOf R mc ms Pc) (PostOf Qc mc ms free) (vx_Post XC mc ms free) := vx_callBack cw.1 hM hp.1
  obtain ⟨⟨-, -, -, -, -, -, hcode, hini, hy, hlen, hl⟩, hstt⟩ := cw
  obtain ⟨hx, hb, hml, ho, -⟩ := S
  intro T hT X
  rcases vx_callS X hx (bytes := bytes) (maxL := maxL) (ret := ret) ho hl hstt hini hcode hy hK hg (hsize.trans hml.symm) (argsL := As) (rest := rest) (fun sig h => hn.trans (hlen sig h)) hstack hW (by rw [hb]; exact hdg)
    (fun vm₁ hW₁ => ⟨hf.1, hf.2, hp.2 (T.setVm vm₁) hT hW₁⟩) with ⟨v, vm₁, ⟨U', l2, c2, s2⟩, hW₁, X', ⟨g', mk, t, L, e1, e2, hq, h1, hL, h2, h3⟩, st⟩ | ⟨q, vm₁, ⟨U', l2, c2, s2⟩, hW₁, X', ⟨g', mk, t, L, E, ce, e1, e2, hq, hce, hcv, hcl, h1, hL, h2, h3⟩, st⟩
  · dsimp only [Pt.U, Pt.locs, Pt.cells, Pt.slots] at X' e1 e2 h1 h2 h3 st
    subst h1; subst h2; subst h3
    exact Or.inl ⟨v, (T.setVm vm₁).calling g' mk As.toArray, t, U', L, hT, X', hL, e1, e2, hq, st⟩
  · dsimp only [Pt.U, Pt.locs, Pt.cells, Pt.slots] at X' e1 e2 h1 h2 h3 st hcl
    subst h1; subst h2; subst h3
    exact Or.inr ⟨q, (T.setVm vm₁).calling g' mk As.toArray, t, U', L, E, ce, hT, X', hL, e1, e2, hq, hce, hcv, vx_cls hW₁ hcl, st⟩
end Runs
section Rows
variable {p : Program} {l : Launch} {e : Env} {R : Room} {s : State} {m : MethodId} {args : Array Value} {below : List Frame} {meth : Method} {c : Code} {H : Heap} {locs : List Loc} {cells slots : Nat} {Q : State → Prop}
variable {mc ms : Nat} {free : Addr → Prop} {A0 A1 : Nat → Prop} {H0 : Heap} {a : Array Value} {pc : Nat} {ls : Array Slot} {st0 rest : List Value}
theorem vx_keep {st₀ t T' : State} {L : List Loc} (h0 : st₀.heap = H) (e1 : T'.heap = t.heap) (hS : va_S A0 H0 H locs) (hA : ∀ q, q < H.size → A1 q → A0 q) (hf : ∀ q, free q → A0 q) (hL : ∀ q ∈ L, free q.base) (hF : va_F A1 st₀ t) :
    H.size ≤ T'.heap.size ∧ (∀ q : Nat, q < H.size → ¬ A1 q → T'.heap[q]? = H[q]?) ∧ va_S A0 H0 T'.heap (locs ++ L) := by
  obtain ⟨hz, hk⟩ := hF
  rw [h0] at hz hk
  exact ⟨by rw [e1]; exact hz, fun q h1 h2 => by rw [e1]; exact hk q h1 h2,
    ⟨Nat.le_trans hS.1 (by rw [e1]; exact hz), fun q h1 h2 => by rw [e1, hk q (Nat.lt_of_lt_of_le h1 hS.1) (fun z => h2 (hA q (Nat.lt_of_lt_of_le h1 hS.1) z))]; exact hS.2.1 q h1 h2, fun q hq => by
      rcases List.mem_append.mp hq with h | h
      · exact hS.2.2 q h
      · exact hf _ (hL q h)⟩⟩
theorem vx_calli {S SX : Type} {post : Int32 → S → Prop} {px : SX → Prop} {B : S → State → Prop} {BX : String → SX → State → Prop} {AX : Nat → Prop} (hr : vx_Run p l e R s m args below meth c H locs cells slots mc ms (F0 m pc ls st0) rest (va_Qi post B A1 a) (vx_X px BX AX) free) (hS : va_S A0 H0 H locs) (hA : ∀ q, q < H.size → A1 q → A0 q) (hf : ∀ q, free q → A0 q) (hAX : ∀ q, q < H.size → AX q → A0 q)
    (kx : ∀ (E : String) (ce : Cell) (q9 : Addr) (u : SX) (t : State) (H1 : Heap) (locs1 : List Loc), t.heap = H1 → s.vm.Alike t.vm → px u → BX E u t → H.size ≤ H1.size → (∀ q : Nat, q < H.size → ¬ AX q → H1[q]? = H[q]?) → va_S A0 H0 H1 locs1 → H1[q9]? = some ce → ce.vm = .none → s.vm.findClass E = some ce.cls → vx_W p l e R s m args below meth c H1 locs1 (cells + mc) (slots + ms) Q (F0 m pc ls rest) q9)
    (kk : ∀ (r : Int32) (u : S) (t : State) (H1 : Heap) (locs1 : List Loc), t.heap = H1 → s.vm.Alike t.vm → post r u → B u t → H.size ≤ H1.size → (∀ q : Nat, q < H.size → ¬ A1 q → H1[q]? = H[q]?) → va_S A0 H0 H1 locs1 → W p l e R s m args below meth c H1 locs1 (cells + mc) (slots + ms) Q (F0 m (pc + 3) ls (.int r :: rest))) : W p l e R s m args below meth c H locs cells slots Q (F0 m pc ls st0) := by
  intro T hT X
  rcases hr T hT X with ⟨v, st₀, t, T', L, h0, X', hL, e1, e2, ⟨⟨r, u, hv, hp, hb⟩, hF⟩, st⟩ | ⟨q, st₀, t, T', L, E, ce, h0, X', hL, e1, e2, ⟨u, hp, hb, hF⟩, hce, hcv, hcl, st⟩
  · cases hv
    obtain ⟨k1, k2, k3⟩ := vx_keep h0 e1 hS hA hf hL hF
    obtain ⟨t2, a1, b1⟩ := kk r u t T'.heap (locs ++ L) e1.symm (by rw [← e2]; exact X'.warmed.alike) hp hb k1 k2 k3 T' rfl X'
    exact ⟨t2, st t2 a1, b1⟩
  · obtain ⟨k1, k2, k3⟩ := vx_keep h0 e1 hS hAX hf hL hF
    obtain ⟨t2, a1, b1⟩ := kx E ce q u t T'.heap (locs ++ L) e1.symm (by rw [← e2]; exact X'.warmed.alike) hp hb k1 k2 k3 (by rw [e1]; exact hce) hcv hcl T' rfl X'
    exact ⟨t2, st.trans a1, b1⟩
theorem vx_calll {S SX : Type} {post : Int64 → S → Prop} {px : SX → Prop} {B : S → State → Prop} {BX : String → SX → State → Prop} {AX : Nat → Prop} (hr : vx_Run p l e R s m args below meth c H locs cells slots mc ms (F0 m pc ls st0) rest (va_Ql post B A1 a) (vx_X px BX AX) free) (hS : va_S A0 H0 H locs) (hA : ∀ q, q < H.size → A1 q → A0 q) (hf : ∀ q, free q → A0 q) (hAX : ∀ q, q < H.size → AX q → A0 q)
    (kx : ∀ (E : String) (ce : Cell) (q9 : Addr) (u : SX) (t : State) (H1 : Heap) (locs1 : List Loc), t.heap = H1 → s.vm.Alike t.vm → px u → BX E u t → H.size ≤ H1.size → (∀ q : Nat, q < H.size → ¬ AX q → H1[q]? = H[q]?) → va_S A0 H0 H1 locs1 → H1[q9]? = some ce → ce.vm = .none → s.vm.findClass E = some ce.cls → vx_W p l e R s m args below meth c H1 locs1 (cells + mc) (slots + ms) Q (F0 m pc ls rest) q9)
    (kk : ∀ (r : Int64) (u : S) (t : State) (H1 : Heap) (locs1 : List Loc), t.heap = H1 → s.vm.Alike t.vm → post r u → B u t → H.size ≤ H1.size → (∀ q : Nat, q < H.size → ¬ A1 q → H1[q]? = H[q]?) → va_S A0 H0 H1 locs1 → W p l e R s m args below meth c H1 locs1 (cells + mc) (slots + ms) Q (F0 m (pc + 3) ls (.long r :: rest))) : W p l e R s m args below meth c H locs cells slots Q (F0 m pc ls st0) := by
  intro T hT X
  rcases hr T hT X with ⟨v, st₀, t, T', L, h0, X', hL, e1, e2, ⟨⟨r, u, hv, hp, hb⟩, hF⟩, st⟩ | ⟨q, st₀, t, T', L, E, ce, h0, X', hL, e1, e2, ⟨u, hp, hb, hF⟩, hce, hcv, hcl, st⟩
  · cases hv
    obtain ⟨k1, k2, k3⟩ := vx_keep h0 e1 hS hA hf hL hF
    obtain ⟨t2, a1, b1⟩ := kk r u t T'.heap (locs ++ L) e1.symm (by rw [← e2]; exact X'.warmed.alike) hp hb k1 k2 k3 T' rfl X'
    exact ⟨t2, st t2 a1, b1⟩
  · obtain ⟨k1, k2, k3⟩ := vx_keep h0 e1 hS hAX hf hL hF
    obtain ⟨t2, a1, b1⟩ := kx E ce q u t T'.heap (locs ++ L) e1.symm (by rw [← e2]; exact X'.warmed.alike) hp hb k1 k2 k3 (by rw [e1]; exact hce) hcv hcl T' rfl X'
    exact ⟨t2, st.trans a1, b1⟩
theorem vx_callf {S SX : Type} {post : UInt32 → S → Prop} {px : SX → Prop} {B : S → State → Prop} {BX : String → SX → State → Prop} {AX : Nat → Prop} (hr : vx_Run p l e R s m args below meth c H locs cells slots mc ms (F0 m pc ls st0) rest (va_Qf post B A1 a) (vx_X px BX AX) free) (hS : va_S A0 H0 H locs) (hA : ∀ q, q < H.size → A1 q → A0 q) (hf : ∀ q, free q → A0 q) (hAX : ∀ q, q < H.size → AX q → A0 q)
    (kx : ∀ (E : String) (ce : Cell) (q9 : Addr) (u : SX) (t : State) (H1 : Heap) (locs1 : List Loc), t.heap = H1 → s.vm.Alike t.vm → px u → BX E u t → H.size ≤ H1.size → (∀ q : Nat, q < H.size → ¬ AX q → H1[q]? = H[q]?) → va_S A0 H0 H1 locs1 → H1[q9]? = some ce → ce.vm = .none → s.vm.findClass E = some ce.cls → vx_W p l e R s m args below meth c H1 locs1 (cells + mc) (slots + ms) Q (F0 m pc ls rest) q9)
    (kk : ∀ (r : UInt32) (u : S) (t : State) (H1 : Heap) (locs1 : List Loc), t.heap = H1 → s.vm.Alike t.vm → post r u → B u t → H.size ≤ H1.size → (∀ q : Nat, q < H.size → ¬ A1 q → H1[q]? = H[q]?) → va_S A0 H0 H1 locs1 → W p l e R s m args below meth c H1 locs1 (cells + mc) (slots + ms) Q (F0 m (pc + 3) ls (.float r :: rest))) : W p l e R s m args below meth c H locs cells slots Q (F0 m pc ls st0) := by
  intro T hT X
  rcases hr T hT X with ⟨v, st₀, t, T', L, h0, X', hL, e1, e2, ⟨⟨r, u, hv, hp, hb⟩, hF⟩, st⟩ | ⟨q, st₀, t, T', L, E, ce, h0, X', hL, e1, e2, ⟨u, hp, hb, hF⟩, hce, hcv, hcl, st⟩
  · cases hv
    obtain ⟨k1, k2, k3⟩ := vx_keep h0 e1 hS hA hf hL hF
    obtain ⟨t2, a1, b1⟩ := kk r u t T'.heap (locs ++ L) e1.symm (by rw [← e2]; exact X'.warmed.alike) hp hb k1 k2 k3 T' rfl X'
    exact ⟨t2, st t2 a1, b1⟩
  · obtain ⟨k1, k2, k3⟩ := vx_keep h0 e1 hS hAX hf hL hF
    obtain ⟨t2, a1, b1⟩ := kx E ce q u t T'.heap (locs ++ L) e1.symm (by rw [← e2]; exact X'.warmed.alike) hp hb k1 k2 k3 (by rw [e1]; exact hce) hcv hcl T' rfl X'
    exact ⟨t2, st.trans a1, b1⟩
theorem vx_calld {S SX : Type} {post : UInt64 → S → Prop} {px : SX → Prop} {B : S → State → Prop} {BX : String → SX → State → Prop} {AX : Nat → Prop} (hr : vx_Run p l e R s m args below meth c H locs cells slots mc ms (F0 m pc ls st0) rest (va_Qd post B A1 a) (vx_X px BX AX) free) (hS : va_S A0 H0 H locs) (hA : ∀ q, q < H.size → A1 q → A0 q) (hf : ∀ q, free q → A0 q) (hAX : ∀ q, q < H.size → AX q → A0 q)
    (kx : ∀ (E : String) (ce : Cell) (q9 : Addr) (u : SX) (t : State) (H1 : Heap) (locs1 : List Loc), t.heap = H1 → s.vm.Alike t.vm → px u → BX E u t → H.size ≤ H1.size → (∀ q : Nat, q < H.size → ¬ AX q → H1[q]? = H[q]?) → va_S A0 H0 H1 locs1 → H1[q9]? = some ce → ce.vm = .none → s.vm.findClass E = some ce.cls → vx_W p l e R s m args below meth c H1 locs1 (cells + mc) (slots + ms) Q (F0 m pc ls rest) q9)
    (kk : ∀ (r : UInt64) (u : S) (t : State) (H1 : Heap) (locs1 : List Loc), t.heap = H1 → s.vm.Alike t.vm → post r u → B u t → H.size ≤ H1.size → (∀ q : Nat, q < H.size → ¬ A1 q → H1[q]? = H[q]?) → va_S A0 H0 H1 locs1 → W p l e R s m args below meth c H1 locs1 (cells + mc) (slots + ms) Q (F0 m (pc + 3) ls (.double r :: rest))) : W p l e R s m args below meth c H locs cells slots Q (F0 m pc ls st0) := by
  intro T hT X
  rcases hr T hT X with ⟨v, st₀, t, T', L, h0, X', hL, e1, e2, ⟨⟨r, u, hv, hp, hb⟩, hF⟩, st⟩ | ⟨q, st₀, t, T', L, E, ce, h0, X', hL, e1, e2, ⟨u, hp, hb, hF⟩, hce, hcv, hcl, st⟩
  · cases hv
    obtain ⟨k1, k2, k3⟩ := vx_keep h0 e1 hS hA hf hL hF
    obtain ⟨t2, a1, b1⟩ := kk r u t T'.heap (locs ++ L) e1.symm (by rw [← e2]; exact X'.warmed.alike) hp hb k1 k2 k3 T' rfl X'
    exact ⟨t2, st t2 a1, b1⟩
  · obtain ⟨k1, k2, k3⟩ := vx_keep h0 e1 hS hAX hf hL hF
    obtain ⟨t2, a1, b1⟩ := kx E ce q u t T'.heap (locs ++ L) e1.symm (by rw [← e2]; exact X'.warmed.alike) hp hb k1 k2 k3 (by rw [e1]; exact hce) hcv hcl T' rfl X'
    exact ⟨t2, st.trans a1, b1⟩
theorem vx_callv {S SX : Type} {post : S → Prop} {px : SX → Prop} {B : S → State → Prop} {BX : String → SX → State → Prop} {AX : Nat → Prop} (hr : vx_Run p l e R s m args below meth c H locs cells slots mc ms (F0 m pc ls st0) rest (va_Qv post B A1 a) (vx_X px BX AX) free) (hS : va_S A0 H0 H locs) (hA : ∀ q, q < H.size → A1 q → A0 q) (hf : ∀ q, free q → A0 q) (hAX : ∀ q, q < H.size → AX q → A0 q)
    (kx : ∀ (E : String) (ce : Cell) (q9 : Addr) (u : SX) (t : State) (H1 : Heap) (locs1 : List Loc), t.heap = H1 → s.vm.Alike t.vm → px u → BX E u t → H.size ≤ H1.size → (∀ q : Nat, q < H.size → ¬ AX q → H1[q]? = H[q]?) → va_S A0 H0 H1 locs1 → H1[q9]? = some ce → ce.vm = .none → s.vm.findClass E = some ce.cls → vx_W p l e R s m args below meth c H1 locs1 (cells + mc) (slots + ms) Q (F0 m pc ls rest) q9)
    (kk : ∀ (u : S) (t : State) (H1 : Heap) (locs1 : List Loc), t.heap = H1 → s.vm.Alike t.vm → post u → B u t → H.size ≤ H1.size → (∀ q : Nat, q < H.size → ¬ A1 q → H1[q]? = H[q]?) → va_S A0 H0 H1 locs1 → W p l e R s m args below meth c H1 locs1 (cells + mc) (slots + ms) Q (F0 m (pc + 3) ls (rest))) : W p l e R s m args below meth c H locs cells slots Q (F0 m pc ls st0) := by
  intro T hT X
  rcases hr T hT X with ⟨v, st₀, t, T', L, h0, X', hL, e1, e2, ⟨⟨u, hv, hp, hb⟩, hF⟩, st⟩ | ⟨q, st₀, t, T', L, E, ce, h0, X', hL, e1, e2, ⟨u, hp, hb, hF⟩, hce, hcv, hcl, st⟩
  · cases hv
    obtain ⟨k1, k2, k3⟩ := vx_keep h0 e1 hS hA hf hL hF
    obtain ⟨t2, a1, b1⟩ := kk u t T'.heap (locs ++ L) e1.symm (by rw [← e2]; exact X'.warmed.alike) hp hb k1 k2 k3 T' rfl X'
    exact ⟨t2, st t2 a1, b1⟩
  · obtain ⟨k1, k2, k3⟩ := vx_keep h0 e1 hS hAX hf hL hF
    obtain ⟨t2, a1, b1⟩ := kx E ce q u t T'.heap (locs ++ L) e1.symm (by rw [← e2]; exact X'.warmed.alike) hp hb k1 k2 k3 (by rw [e1]; exact hce) hcv hcl T' rfl X'
    exact ⟨t2, st.trans a1, b1⟩
/-- caught by the row x of this method's table; the rows ahead don't take it -/
theorem vx_catch {own name : String} {E : String} {ce : Cell} {q : Addr} (hown : s.vm.findClass own = some m.cls) (pre : List ExceptionTableEntry) (x : ExceptionTableEntry) (suf : List ExceptionTableEntry) (hsplit : c.exceptionTable.toList = pre ++ x :: suf)
    (hpass : ∀ z ∈ pre, covers z pc = false ∨ (z.catchType ≠ 0 ∧ ∃ nm : String, (Cond.classLink own z.catchType nm).before args s = true ∧ va_Nc E nm s)) (hx : covers x pc = true) (h0 : x.catchType ≠ 0)
    (hlink : (Cond.classLink own x.catchType name).before args s = true) (hcast : (Cond.castable E name).before args s = true) (hcell : H[q]? = some ce) (hv : ce.vm = .none) (hcl : s.vm.findClass E = some ce.cls)
    (kk : W p l e R s m args below meth c H locs cells slots Q (F0 m x.handlerPc ls [.ref q])) : vx_W p l e R s m args below meth c H locs cells slots Q (F0 m pc ls rest) q := by
  intro T hT X
  have hpl : e.platform.magicAccessors = ({} : Platform).magicAccessors := by rw [X.admits.platform]
  obtain ⟨c3, c4, hc3, hc4, hasg⟩ := Cond.castable_spec hcast
  cases Option.some.inj (hc3.symm.trans hcl)
  obtain ⟨c5, hc5, hcl5⟩ := Cond.classLink_spec hown hlink e.platform hpl
  cases Option.some.inj (hc4.symm.trans hc5)
  obtain ⟨vm', X', st⟩ := X.thenCaughtThrough q (g := F0 m pc ls rest) rfl (Steps.refl _) (by rw [hT]; exact hcell) (by rw [hv]; rfl) (by obtain ⟨k9, h9, -⟩ := Vm.findClass_spec hcl; exact ⟨k9, h9⟩) pre x suf hsplit
    (fun z hz => by
      rcases hpass z hz with h | ⟨hz0, nm, hl1, hn1⟩
      · exact Or.inl h
      · obtain ⟨c6, hc6, hcl6⟩ := Cond.classLink_spec hown hl1 e.platform hpl
        obtain ⟨a8, b8, h1, h2, h3⟩ := hn1
        cases Option.some.inj (h1.symm.trans hcl)
        cases Option.some.inj (h2.symm.trans hc6)
        exact Or.inr ⟨hz0, _, hcl6, h3⟩) hx (Or.inr ⟨h0, c4, hcl5, hasg⟩)
  obtain ⟨t, a1, b1⟩ := kk (T.setVm vm') hT X'
  exact ⟨t, st.trans a1, b1⟩
end Rows
section Ends
variable {p : Program} {l : Launch} {e : Env} {R : Room} {s : State} {m : MethodId} {args : Array Value} {below : List Frame} {meth : Method} {c : Code} {H : Heap} {locs : List Loc} {cells slots : Nat} {Q : State → Prop}
variable {mc ms : Nat} {free : Addr → Prop} {A0 A1 : Nat → Prop} {H0 : Heap} {a : Array Value} {ls : Array Slot} {st0 rest : List Value}
variable {Qc : Array Value → State → Outcome → State → Prop} {XC : String → State → State → Prop}
/-- what a body that may throw owes at its end -/
def vx_MQ (below : List Frame) (Qc : Array Value → State → Outcome → State → Prop) (XC : String → State → State → Prop) (a : Array Value) (s : State) (mc ms : Nat) (free : Addr → Prop) : State → Prop := fun t =>
  ∃ o, t.status = .running ∧ Ended t below o ∧ vx_Q Qc XC mc ms free a s o t
theorem vx_ret {g : JFrame} {mc ms : Nat} (k : W p l e R s m args below meth c H locs cells slots (MQ below Qc args s mc ms free) g) : W p l e R s m args below meth c H locs cells slots (vx_MQ below Qc XC args s mc ms free) g := by
  intro T hT X
  obtain ⟨t, a1, o, b1, b2, b3, b4⟩ := k T hT X
  exact ⟨t, a1, o, b1, b2, Or.inl ⟨b3, b4⟩⟩
/-- not caught here: it goes on to the caller -/
theorem vx_widen {g : JFrame} {q : Addr} {k n : Nat} (h1 : cells ≤ k) (h2 : slots ≤ n) (kk : vx_W p l e R s m args below meth c H locs k n Q g q) : vx_W p l e R s m args below meth c H locs cells slots Q g q := fun T hT X => kk T hT (stand_widen X h1 h2)
theorem vx_out {pc : Nat} {E : String} {ce : Cell} {q : Addr} {mc ms : Nat} (hout : ∀ x ∈ c.exceptionTable.toList, covers x pc = false) (hlocks : meth.locks = false) (hcell : H[q]? = some ce) (hv : ce.vm = .none) (hcl : s.vm.findClass E = some ce.cls)
    (hx : ∀ t : State, t.heap = H → s.vm.Alike t.vm → XC E s t) (hf : ∀ z ∈ locs, free z.base) (hc : cells ≤ mc) (hs : slots ≤ ms) :
    vx_W p l e R s m args below meth c H locs cells slots (vx_MQ below Qc XC args s mc ms free) (F0 m pc ls rest) q := by
  intro T hT X
  obtain ⟨st1, hrun, hend, hW, hsm⟩ := X.leaveThrown q (g := F0 m pc ls rest) rfl rfl rfl hout hlocks
  have hcell9 : (T.setFrames (.throwing q :: below)).heap[q]? = some ce := by
    show T.heap[q]? = some ce
    rw [hT]; exact hcell
  exact ⟨_, st1, .threw q, hrun, hend, Or.inr ⟨q, rfl, E, ce, locs, hx _ hT hW.alike, hcell9, hv, hcl, hW, hsm.mono hc hs, hf⟩⟩
theorem vx_frame {U : State} {k n : Nat} (h : s.sameButNew ({ U with vm := s.vm } : State) locs k n) : s.heap.size ≤ U.heap.size ∧ ∀ q : Nat, q < s.heap.size → (∀ z ∈ locs, z.base ≠ q) → U.heap[q]? = s.heap[q]? := by
  obtain ⟨-, h2, -, -, -, h6⟩ := h
  refine ⟨h2, fun q hq hz => ?_⟩
  obtain ⟨c9, e1, e2, e3, e4⟩ := h6 q _ (Array.getElem?_eq_getElem hq)
  have hs : c9.slots = (s.heap[q]).slots := Array.ext_getElem? fun i => e4 i fun hm => hz _ hm rfl
  have h9 : c9 = s.heap[q] := by
    rw [hs] at e2
    exact e2
  have e5 : U.heap[q]? = some c9 := e1
  rw [e5, h9, Array.getElem?_eq_getElem hq]
/-- the words of a throw but the four that speak of the heap -/
def vx_no (w : Cond) : Bool := decide (w ≠ .isRef (.static Bundle.tN "UNASSIGNED_STACK" Bundle.steD)) && decide (w ≠ .isRef (.static Bundle.tN "SUPPRESSED_SENTINEL" Bundle.listD)) && decide (w ≠ .laysStatic Bundle.tN "UNASSIGNED_STACK" Bundle.steD) && decide (w ≠ .laysStatic Bundle.tN "SUPPRESSED_SENTINEL" Bundle.listD)
def vx_at0 (own : String) (ic : Nat) (X : String) (names : List String) : List Cond := (Bundle.ownAtoms0 own ic X names).filter vx_no
def vx_atS (own : String) (ic : Nat) (X : String) (names : List String) : List Cond := (Bundle.ownAtoms own ic X names).filter vx_no
/-- a word that the tables alone decide, or a good one -/
def vx_ot (w : Cond) : Bool := w.onTables || goodWord w
theorem vx_ot_at {args a' : Array Value} {s U : State} {w : Cond} (hW : s.WarmedH U.vm) (hvm : s.vm = U.vm) (hg : vx_ot w = true) (h : w.before args s = true) : w.before a' U = true := by
  simp only [vx_ot, Bool.or_eq_true] at hg
  rcases hg with hg | hg
  · exact va_tabs hg hvm h
  · exact word_at hW (good_of_word hg) h
/-- a list's words: the good ones out of the method's own list, the others by premises of their own -/
theorem vx_hat {args : Array Value} {s : State} {L B : List Cond} (h1 : ∀ w ∈ L.filter goodWord, w.before args s = true) (h2 : ∀ w ∈ L.filter (fun w => !goodWord w), w ∈ B) (h3 : ∀ w ∈ B, w.before args s = true) : ∀ w ∈ L, w.before args s = true := by
  intro w hw
  by_cases g : goodWord w = true
  · exact h1 w (List.mem_filter.mpr ⟨hw, g⟩)
  · refine h3 w (h2 w (List.mem_filter.mpr ⟨hw, ?_⟩))
    show (!goodWord w) = true
    cases hgw : goodWord w
    · rfl
    · exact absurd hgw g
theorem vx_c {args : Array Value} {s : State} {w : Cond} {B : List Cond} (h : w.before args s = true) (t : ∀ w ∈ B, w.before args s = true) : ∀ w' ∈ w :: B, w'.before args s = true := fun w' h' => (List.mem_cons.mp h').elim (fun e => by rw [e]; exact h) (t w')
theorem vx_n {args : Array Value} {s : State} : ∀ w ∈ ([] : List Cond), w.before args s = true := fun _ h => nomatch h
theorem vx_own {args : Array Value} {s : State} {L : List Cond} (h1 : ∀ w ∈ L.filter vx_no, w.before args s = true)
    (hU : (Cond.isRef (.static Bundle.tN "UNASSIGNED_STACK" Bundle.steD)).before args s = true) (hN : (Cond.isRef (.static Bundle.tN "SUPPRESSED_SENTINEL" Bundle.listD)).before args s = true)
    (lU : (Cond.laysStatic Bundle.tN "UNASSIGNED_STACK" Bundle.steD).before args s = true) (lN : (Cond.laysStatic Bundle.tN "SUPPRESSED_SENTINEL" Bundle.listD).before args s = true) : ∀ w ∈ L, w.before args s = true := by
  intro w hw
  by_cases e1 : w = .isRef (.static Bundle.tN "UNASSIGNED_STACK" Bundle.steD)
  · rw [e1]; exact hU
  · by_cases e2 : w = .isRef (.static Bundle.tN "SUPPRESSED_SENTINEL" Bundle.listD)
    · rw [e2]; exact hN
    · by_cases e3 : w = .laysStatic Bundle.tN "UNASSIGNED_STACK" Bundle.steD
      · rw [e3]; exact lU
      · by_cases e4 : w = .laysStatic Bundle.tN "SUPPRESSED_SENTINEL" Bundle.listD
        · rw [e4]; exact lN
        · exact h1 w (List.mem_filter.mpr ⟨hw, by unfold vx_no; rw [decide_eq_true e1, decide_eq_true e2, decide_eq_true e3, decide_eq_true e4]; rfl⟩)
/-- where a static field lies, its class's statics cell in H -/
def vx_L (C n d : String) (A : Nat → Prop) (U : State) (H : Heap) : Prop := ∃ (c : ClassId) (k : Class) (i : Nat) (f : Field) (a : Nat) (cell : Cell), U.vm.findClass C = some c ∧ U.fieldFound? C n d = some (c, k, i, f) ∧ f.isStatic = true ∧ k.statics = some a ∧ H[a]? = some cell ∧ cell.vm.isStatics = true ∧ cell.cls = c ∧ f.slot < cell.slots.size ∧ k.staticTypes[f.slot]? = some f.type ∧ ¬ A a
theorem vx_L.moved {C n d : String} {A : Nat → Prop} {u U : State} {H : Heap} (hvm : u.vm.Alike U.vm) (h : vx_L C n d A u H) : vx_L C n d A U H := by
  obtain ⟨c, k, i, f, a, cell, h1, h2, h3, h4, h5, h6, h7, h8, h9, h10⟩ := h
  obtain ⟨k', hi', he⟩ := State.fieldFound?_setVm hvm h2
  exact ⟨c, k', i, f, a, cell, by rw [hvm.findClass]; exact h1, hi', h3, by rw [he]; exact h4, h5, h6, h7, h8, by rw [he]; exact h9, h10⟩
theorem vx_L.kept {C n d : String} {A : Nat → Prop} {U : State} {H H1 : Heap} (h : vx_L C n d A U H) (hq : ∀ a : Nat, a < H.size → ¬ A a → H1[a]? = H[a]?) : vx_L C n d A U H1 := by
  obtain ⟨c, k, i, f, a, cell, h1, h2, h3, h4, h5, h6, h7, h8, h9, h10⟩ := h
  exact ⟨c, k, i, f, a, cell, h1, h2, h3, h4, by rw [hq a (Array.getElem?_eq_some_iff.mp h5).1 h10]; exact h5, h6, h7, h8, h9, h10⟩
theorem vx_L.narrow {C n d : String} {A B : Nat → Prop} {U : State} {H : Heap} (h : vx_L C n d A U H) (hAB : ∀ q, B q → A q) : vx_L C n d B U H := by
  obtain ⟨c, k, i, f, a, cell, h1, h2, h3, h4, h5, h6, h7, h8, h9, h10⟩ := h
  exact ⟨c, k, i, f, a, cell, h1, h2, h3, h4, h5, h6, h7, h8, h9, fun z => h10 (hAB _ z)⟩
theorem vx_L.word {C n d : String} {A : Nat → Prop} {s : State} {args : Array Value} (h : vx_L C n d A s s.heap) : (Cond.laysStatic C n d).before args s = true := by
  obtain ⟨c, k, i, f, a, cell, h1, h2, h3, h4, h5, h6, h7, h8, h9, -⟩ := h
  show (Cond.laysStatic C n d).holds args s none s [] = true
  exact Cond.laysStatic_of h1 h2 h3 h4 h5 h6 h7 h8 h9
/-- .. and what it holds: null or some reference -/
def vx_Zq (C n d : String) (A : Nat → Prop) (U : State) (H : Heap) : Prop := va_Zq C n d A U H ∧ vx_L C n d A U H
theorem vx_Zq.moved {C n d : String} {A : Nat → Prop} {u U : State} {H : Heap} (hvm : u.vm.Alike U.vm) (h : vx_Zq C n d A u H) : vx_Zq C n d A U H := ⟨va_Zq.moved hvm h.1, vx_L.moved hvm h.2⟩
theorem vx_Zq.kept {C n d : String} {A : Nat → Prop} {U : State} {H H1 : Heap} (h : vx_Zq C n d A U H) (hq : ∀ a : Nat, a < H.size → ¬ A a → H1[a]? = H[a]?) : vx_Zq C n d A U H1 := ⟨va_Zq.kept h.1 hq, vx_L.kept h.2 hq⟩
theorem vx_Zq.narrow {C n d : String} {A B : Nat → Prop} {U : State} {H : Heap} (h : vx_Zq C n d A U H) (hAB : ∀ q, B q → A q) : vx_Zq C n d B U H := ⟨va_Zq.narrow h.1 hAB, vx_L.narrow h.2 hAB⟩
theorem vx_Zqof {args : Array Value} {s : State} {C n d : String} {A : Nat → Prop} (hl : (Cond.laysStatic C n d).before args s = true) (hini : (Cond.initialized C).before args s = true) (h : (Cond.isRef (.static C n d)).before args s = true) (hA : ∀ a : Nat, a < s.heap.size → ¬ A a) : vx_Zq C n d A s s.heap := by
  refine ⟨va_Zqof hl hini h hA, ?_⟩
  obtain ⟨c, k, i, f, a, cell, h1, h2, h3, h4, h5, h6, h7, h8, h9⟩ := Cond.laysStatic_spec hl
  exact ⟨c, k, i, f, a, cell, h1, h2, h3, h4, h5, h6, h7, h8, h9, hA a (Array.getElem?_eq_some_iff.mp h5).1⟩
theorem vx_isRef {C n d : String} {v : Value} {A : Nat → Prop} {s : State} {args : Array Value} (h : va_Z C n d v A s s.heap) (hv : v.isRef = true) : (Cond.isRef (.static C n d)).before args s = true := by
  obtain ⟨cf, kf, fi, f, a, cell, h1, h2, h3, h4, h5, h6, h7, -⟩ := h
  have he : (Term.static C n d).eval args s none [] s = some v := by
    simp [Term.eval, State.fieldNamed?, h1, h2, h4, h5, h6, h7]
  simp only [Cond.before, Cond.holds, Cond.value, he]
  cases v <;> simp_all [Value.isRef]
theorem vx_isRefq {C n d : String} {A : Nat → Prop} {s : State} {args : Array Value} (h : va_Zq C n d A s s.heap) : (Cond.isRef (.static C n d)).before args s = true := by
  rcases h with h | ⟨t, h⟩
  · exact vx_isRef h rfl
  · exact vx_isRef h rfl
/-- the same frame, seen from here: as if the method were called anew in this heap -/
theorem vx_rebase {T : State} (X : Stand p l e R s m args below meth c T locs cells slots) {R' : Room} (hf : R'.frames ≤ R.frames) (hl : R'.locals ≤ R.locals) (hc : cells + R'.cells ≤ R.cells) (hs : slots + R'.slots ≤ R.slots) :
    Stand p l e R' ((T.setVm s.vm).setFrames (.invoking m args :: below)) m args below meth c T [] 0 0 := by
  have htop : (T.setVm s.vm).topJava?.isSome := X.here.top
  have hF : ((T.setVm s.vm).setFrames (.invoking m args :: below)).frames = .invoking m args :: below := State.frames_setFrames _ (State.cur_lt_of_top htop)
  obtain ⟨g₀, hg0⟩ := Option.isSome_iff_exists.mp htop
  obtain ⟨r, hr⟩ := State.topJava?_eq_some.mp hg0
  have hl9 : e.platform.stackLimits (T.setVm s.vm).me = e.platform.stackLimits s.me := X.limits
  have hb9 : (T.setVm s.vm).me.stackBytes = s.me.stackBytes := X.bytes
  refine ⟨X.admits, X.cas, X.clock, hF, ?_, X.hears, X.method, X.code, X.here, X.tail, X.warmed, ?_, ?_, ?_⟩
  · have h := X.room
    have hU : ((T.setVm s.vm).setFrames (.invoking m args :: below)).localsInUse = s.localsInUse := by
      rw [State.localsInUse_invoking hF (meth := meth) (c := c) X.method X.code, State.localsInUse_invoking X.frames X.method X.code]
    simp only [State.hasRoom, Bool.and_eq_true, decide_eq_true_eq] at h ⊢
    obtain ⟨⟨⟨⟨h1, h2, h3, h4, h5, h6⟩, h7⟩, h8⟩, h9⟩ := h
    rw [X.frames, List.length_cons] at h2 h3
    have q1 := X.heapSize
    have q2 := X.used
    simp only [hF, hU, List.length_cons, State.stackLimits_setFrames, State.stackBytes_setFrames, hl9, hb9]
    refine ⟨⟨⟨⟨by omega, by omega, by omega, by omega, by omega, h6⟩, ?_⟩, ?_⟩, X.book⟩
    · show T.heap.size + R'.cells ≤ e.platform.maxCells
      omega
    · show T.slotsUsed + R'.slots ≤ e.platform.maxSlots
      omega
  · rw [State.stackLimits_setFrames]; rfl
  · rw [State.stackBytes_setFrames]; rfl
  · refine ⟨?_, Nat.le_refl _, Nat.le_refl _, ?_, ?_, fun a c9 h9 => ⟨c9, h9, rfl, rfl, fun _ _ => rfl⟩⟩
    · obtain ⟨t, ht, -⟩ := State.frames_cons hr
      show T.setVm s.vm = { ((T.setVm s.vm).setFrames (.invoking m args :: below)).setFrames (T.setVm s.vm).frames with heap := T.heap, slotsUsed := T.slotsUsed }
      rw [State.setFrames_setFrames, State.setFrames_self ht]
      rfl
    · show T.slotsUsed = T.slotsUsed + ((T.heap.toList.drop T.heap.size).map (·.slots.size)).sum
      rw [List.drop_eq_nil_of_le (Nat.le_of_eq Array.length_toList)]
      rfl
    · show ((T.heap.toList.drop T.heap.size).map (·.slots.size)).sum ≤ 0
      rw [List.drop_eq_nil_of_le (Nat.le_of_eq Array.length_toList)]
      exact Nat.le_refl _
/-- 'throw new E()': new; dup; invokespecial; athrow -/
theorem vx_throw0 {cc : ByteArray} {pc : Nat} (hexec : p.tables.exec = Jvm.exec) (hb : c.code = cc) (hl : l.stackTraces = false) {own cls : String} {names : List String} {ik ic mc ms : Nat} {A : Nat → Prop}
    (hown : s.vm.findClass own = some m.cls) (hcls : Bundle.fit cls = true) (hnames : ∀ n ∈ names, Bundle.fit n = true)
    (hk : (Cond.classLink own ik cls).before args s = true) (hini : (Cond.initialized cls).before args s = true) (hat : ∀ w ∈ vx_at0 own ic cls names, w.before args s = true)
    (hgood : ∀ w ∈ Cond.classLink own ik cls :: Cond.initialized cls :: vx_at0 own ic cls names, vx_ot w = true)
    (hU : vx_Zq Bundle.tN "UNASSIGNED_STACK" Bundle.steD A s s.heap) (hN : vx_Zq Bundle.tN "SUPPRESSED_SENTINEL" Bundle.listD A s s.heap) (hS : va_S A s.heap H locs) (hsize : ls.size = c.maxLocals)
    (d0 : decode cc pc = .ok (.new ik, 3)) (d3 : decode cc (pc + 3) = .ok (.dup, 1)) (d4 : decode cc (pc + 4) = .ok (.invokespecial ic, 3)) (d7 : decode cc (pc + 7) = .ok (.athrow, 1))
    (hout : ∀ x ∈ c.exceptionTable.toList, covers x (pc + 7) = false)
    (hRframes : names.length + 3 < R.frames) (hRlocals : (rest.map fun v => v.category).sum + (13 * (names.length + 1) + 42) ≤ R.locals) (hRcells : cells + 1 ≤ R.cells) (hRslots : slots + 6 ≤ R.slots) (hlocks : meth.locks = false)
    (hx : ∀ t : State, s.vm.Alike t.vm → H.size ≤ t.heap.size → (∀ q : Nat, q < H.size → t.heap[q]? = H[q]?) → XC cls s t)
    (hf : ∀ z ∈ locs, free z.base) (hc : cells + 1 ≤ mc) (hs : slots + 6 ≤ ms) :
    W p l e R s m args below meth c H locs cells slots (vx_MQ below Qc XC args s mc ms free) (F0 m pc ls rest) := by
  intro T hT X
  have htr : e.platform.stackTraces = false := (show e.platform.stackTraces = l.stackTraces by rw [X.admits.platform]).trans hl
  have Y := vx_rebase X (R' := { frames := R.frames, locals := R.locals, cells := 1, slots := 6 }) (Nat.le_refl _) (Nat.le_refl _) hRcells hRslots
  obtain ⟨s', hA⟩ : ∃ z, z = (T.setVm s.vm).setFrames (.invoking m args :: below) := ⟨_, rfl⟩
  rw [← hA] at Y
  have hvm : s'.vm = s.vm := by rw [hA]; rfl
  have hhp : s'.heap = H := by rw [hA]; exact hT
  have hW0 : s.WarmedH s'.vm := by rw [hvm]; exact State.WarmedH.refl s
  have hat' : ∀ w ∈ vx_at0 own ic cls names, w.before args s' = true := fun w hw => vx_ot_at hW0 hvm.symm (hgood w (List.mem_cons_of_mem _ (List.mem_cons_of_mem _ hw))) (hat w hw)
  have hk' : (Cond.classLink own ik cls).before args s' = true := vx_ot_at hW0 hvm.symm (hgood _ List.mem_cons_self) hk
  have hini' : (Cond.initialized cls).before args s' = true := vx_ot_at hW0 hvm.symm (hgood _ (List.mem_cons_of_mem _ List.mem_cons_self)) hini
  have hU' : vx_Zq Bundle.tN "UNASSIGNED_STACK" Bundle.steD A s' s'.heap := by rw [hhp]; exact vx_Zq.moved hW0.alike (hU.kept hS.2.1)
  have hN' : vx_Zq Bundle.tN "SUPPRESSED_SENTINEL" Bundle.listD A s' s'.heap := by rw [hhp]; exact vx_Zq.moved hW0.alike (hN.kept hS.2.1)
  have h : ∀ w ∈ Bundle.ownAtoms0 own ic cls names, w.before args s' = true := vx_own hat' (vx_isRefq hU'.1) (vx_isRefq hN'.1) hU'.2.word hN'.2.word
  have hown' : s'.vm.findClass own = some m.cls := by rw [hvm]; exact hown
  have hins : (Cond.instantiable cls 6).before args s' = true := h _ (by simp [Bundle.ownAtoms0])
  obtain ⟨vm₁, cX, kX, hfX, hkX, -, -, X₁, st1⟩ := Y.newCold hexec (own := own) (C := cls) (index := ik) (n := 6) hown' hk' hins hini'
    (g := F0 m pc ls rest) rfl (by rw [hb]; exact d0) (Nat.le_refl _) (Nat.le_refl _)
  generalize hT1 : (T.setVm vm₁).pushCell { cls := cX, slots := kX.instanceTypes.map defaultValue, vm := .none } = T1 at X₁ st1
  have hcat : (Value.ref T.heap.size).category = 1 := rfl
  have hcellA : T1.heap[T.heap.size]? = some (freshCell cX kX) := by rw [← hT1]; exact State.heap_pushCell_size _ _
  have d3' : decode c.code (pc + 3) = .ok (.dup, 1) := by rw [hb]; exact d3
  obtain ⟨U, hsteps, hrun, hend, hW, hsame, ce, hce, hO⟩ := X₁.ctorThrow0 hexec htr (own := own) (cls := cls) (names := names) (ic := ic) hown' hcls hnames h (fun x hx => nomatch hx) hfX hkX hcellA (by rw [hhp, hT]; exact Nat.le_refl _)
    (g := { method := m, pc := pc + 4, locals := ls, stack := .ref T.heap.size :: .ref T.heap.size :: rest, locked := none }) rfl hsize rfl rfl (rest := rest) rfl
    (by rw [hb]; exact d4) (by rw [hb]; exact d7) hout hRframes (by simp only [List.map_cons, List.sum_cons, hcat]; omega) hlocks
  obtain ⟨f1, f2⟩ := vx_frame hsame
  rw [hhp] at f1 f2
  have hWs : s.WarmedH U.vm := State.WarmedH.trans hW0 hW
  have hcl : s.vm.findClass cls = some ce.cls := by
    have h9 := hO.cls
    rw [hvm] at h9
    exact h9
  have hall : s.sameButNew ({ U with vm := s.vm } : State) locs mc ms := by
    subst hA
    obtain ⟨e1, e2⟩ := hsame
    rw [State.setFrames_setFrames] at e1
    have h2 : (T.setVm s.vm).sameButNew ({ U with vm := s.vm } : State) [] (0 + 1) (0 + 6) := ⟨e1, e2⟩
    have h3 := X.same.trans h2
    rw [List.append_nil] at h3
    exact h3.mono hc hs
  refine ⟨U, ?_, .threw T.heap.size, hrun, hend, Or.inr ⟨T.heap.size, rfl, cls, ce, locs, hx U hWs.alike f1 (fun q hq => f2 q hq (fun z hz => nomatch hz)), hce, hO.vm, hcl, hWs, hall, hf⟩⟩
  refine st1 _ ?_
  show Steps p.tables e below (T1.setTop { method := m, pc := pc + 3, locals := ls, stack := .ref T.heap.size :: rest, locked := none }) _
  jvm_step X₁.here [X₁.here.top, hexec, d3', Value.category]
  exact hsteps
/-- 'throw new E("text")': new; dup; ldc; invokespecial; athrow -/
theorem vx_throwS {cc : ByteArray} {pc : Nat} (hexec : p.tables.exec = Jvm.exec) (hb : c.code = cc) (hl : l.stackTraces = false) {own cls text : String} {names : List String} {ik is ic mc ms sa : Nat} {A : Nat → Prop}
    (hown : s.vm.findClass own = some m.cls) (hcls : Bundle.fit cls = true) (hnames : ∀ n ∈ names, Bundle.fit n = true)
    (hk : (Cond.classLink own ik cls).before args s = true) (hini : (Cond.initialized cls).before args s = true) (hstr : vk_R own is text sa s) (hat : ∀ w ∈ vx_atS own ic cls names, w.before args s = true)
    (hgood : ∀ w ∈ Cond.classLink own ik cls :: Cond.initialized cls :: vx_atS own ic cls names, vx_ot w = true)
    (hU : vx_Zq Bundle.tN "UNASSIGNED_STACK" Bundle.steD A s s.heap) (hN : vx_Zq Bundle.tN "SUPPRESSED_SENTINEL" Bundle.listD A s s.heap) (hS : va_S A s.heap H locs) (hsize : ls.size = c.maxLocals)
    (d0 : decode cc pc = .ok (.new ik, 3)) (d3 : decode cc (pc + 3) = .ok (.dup, 1)) (d4 : decode cc (pc + 4) = .ok (.ldc is, 2)) (d6 : decode cc (pc + 6) = .ok (.invokespecial ic, 3)) (d9 : decode cc (pc + 9) = .ok (.athrow, 1))
    (hout : ∀ x ∈ c.exceptionTable.toList, covers x (pc + 9) = false)
    (hRframes : names.length + 3 < R.frames) (hRlocals : (rest.map fun v => v.category).sum + (13 * (names.length + 1) + 43) ≤ R.locals) (hRcells : cells + 1 ≤ R.cells) (hRslots : slots + 6 ≤ R.slots) (hlocks : meth.locks = false)
    (hx : ∀ t : State, s.vm.Alike t.vm → H.size ≤ t.heap.size → (∀ q : Nat, q < H.size → t.heap[q]? = H[q]?) → XC cls s t)
    (hf : ∀ z ∈ locs, free z.base) (hc : cells + 1 ≤ mc) (hs : slots + 6 ≤ ms) :
    W p l e R s m args below meth c H locs cells slots (vx_MQ below Qc XC args s mc ms free) (F0 m pc ls rest) := by
  intro T hT X
  have htr : e.platform.stackTraces = false := (show e.platform.stackTraces = l.stackTraces by rw [X.admits.platform]).trans hl
  have Y := vx_rebase X (R' := { frames := R.frames, locals := R.locals, cells := 1, slots := 6 }) (Nat.le_refl _) (Nat.le_refl _) hRcells hRslots
  obtain ⟨s', hA⟩ : ∃ z, z = (T.setVm s.vm).setFrames (.invoking m args :: below) := ⟨_, rfl⟩
  rw [← hA] at Y
  have hvm : s'.vm = s.vm := by rw [hA]; rfl
  have hhp : s'.heap = H := by rw [hA]; exact hT
  have hW0 : s.WarmedH s'.vm := by rw [hvm]; exact State.WarmedH.refl s
  have hat' : ∀ w ∈ vx_atS own ic cls names, w.before args s' = true := fun w hw => vx_ot_at hW0 hvm.symm (hgood w (List.mem_cons_of_mem _ (List.mem_cons_of_mem _ hw))) (hat w hw)
  have hk' : (Cond.classLink own ik cls).before args s' = true := vx_ot_at hW0 hvm.symm (hgood _ List.mem_cons_self) hk
  have hini' : (Cond.initialized cls).before args s' = true := vx_ot_at hW0 hvm.symm (hgood _ (List.mem_cons_of_mem _ List.mem_cons_self)) hini
  have hU' : vx_Zq Bundle.tN "UNASSIGNED_STACK" Bundle.steD A s' s'.heap := by rw [hhp]; exact vx_Zq.moved hW0.alike (hU.kept hS.2.1)
  have hN' : vx_Zq Bundle.tN "SUPPRESSED_SENTINEL" Bundle.listD A s' s'.heap := by rw [hhp]; exact vx_Zq.moved hW0.alike (hN.kept hS.2.1)
  have h : ∀ w ∈ Bundle.ownAtoms own ic cls names, w.before args s' = true := vx_own hat' (vx_isRefq hU'.1) (vx_isRefq hN'.1) hU'.2.word hN'.2.word
  have hown' : s'.vm.findClass own = some m.cls := by rw [hvm]; exact hown
  have hins : (Cond.instantiable cls 6).before args s' = true := h _ (by simp [Bundle.ownAtoms])
  obtain ⟨vm₁, cX, kX, hfX, hkX, -, -, X₁, st1⟩ := Y.newCold hexec (own := own) (C := cls) (index := ik) (n := 6) hown' hk' hins hini'
    (g := F0 m pc ls rest) rfl (by rw [hb]; exact d0) (Nat.le_refl _) (Nat.le_refl _)
  generalize hT1 : (T.setVm vm₁).pushCell { cls := cX, slots := kX.instanceTypes.map defaultValue, vm := .none } = T1 at X₁ st1
  have hcat : (Value.ref T.heap.size).category = 1 := rfl
  have hcellA : T1.heap[T.heap.size]? = some (freshCell cX kX) := by rw [← hT1]; exact State.heap_pushCell_size _ _
  have d3' : decode c.code (pc + 3) = .ok (.dup, 1) := by rw [hb]; exact d3
  have d4' : decode c.code (pc + 4) = .ok (.ldc is, 2) := by rw [hb]; exact d4
  have hstr' : vk_R own is text sa s' := vk_R.warm hW0 hstr
  obtain ⟨U, hsteps, hrun, hend, hW, hsame, ce, hce, hO⟩ := X₁.ctorThrowS hexec htr (own := own) (cls := cls) (names := names) (ic := ic) hown' hcls hnames h (fun x hx => nomatch hx) hfX hkX hcellA (by rw [hhp, hT]; exact Nat.le_refl _) (msg := .ref sa) rfl
    (g := { method := m, pc := pc + 6, locals := ls, stack := .ref sa :: .ref T.heap.size :: .ref T.heap.size :: rest, locked := none }) rfl hsize rfl rfl (rest := rest) rfl
    (by rw [hb]; exact d6) (by rw [hb]; exact d9) hout hRframes (by simp only [List.map_cons, List.sum_cons, hcat]; omega) hlocks
  obtain ⟨f1, f2⟩ := vx_frame hsame
  rw [hhp] at f1 f2
  have hWs : s.WarmedH U.vm := State.WarmedH.trans hW0 hW
  have hcl : s.vm.findClass cls = some ce.cls := by
    have h9 := hO.cls
    rw [hvm] at h9
    exact h9
  have hall : s.sameButNew ({ U with vm := s.vm } : State) locs mc ms := by
    subst hA
    obtain ⟨e1, e2⟩ := hsame
    rw [State.setFrames_setFrames] at e1
    have h2 : (T.setVm s.vm).sameButNew ({ U with vm := s.vm } : State) [] (0 + 1) (0 + 6) := ⟨e1, e2⟩
    have h3 := X.same.trans h2
    rw [List.append_nil] at h3
    exact h3.mono hc hs
  refine ⟨U, ?_, .threw T.heap.size, hrun, hend, Or.inr ⟨T.heap.size, rfl, cls, ce, locs, hx U hWs.alike f1 (fun q hq => f2 q hq (fun z hz => nomatch hz)), hce, hO.vm, hcl, hWs, hall, hf⟩⟩
  refine st1 _ ?_
  show Steps p.tables e below (T1.setTop { method := m, pc := pc + 3, locals := ls, stack := .ref T.heap.size :: rest, locked := none }) _
  jvm_step X₁.here [X₁.here.top, hexec, d3', Value.category]
  exact X₁.ldcString hexec (own := own) (text := text) (index := is) (a := sa) hown' hstr'.1 hstr'.2
    (g := { method := m, pc := pc + 4, locals := ls, stack := .ref T.heap.size :: .ref T.heap.size :: rest, locked := none }) rfl d4' _ hsteps
/-- 'throw new E("text")', the text by a wide index -/
theorem vx_throwSW {cc : ByteArray} {pc : Nat} (hexec : p.tables.exec = Jvm.exec) (hb : c.code = cc) (hl : l.stackTraces = false) {own cls text : String} {names : List String} {ik is ic mc ms sa : Nat} {A : Nat → Prop}
    (hown : s.vm.findClass own = some m.cls) (hcls : Bundle.fit cls = true) (hnames : ∀ n ∈ names, Bundle.fit n = true)
    (hk : (Cond.classLink own ik cls).before args s = true) (hini : (Cond.initialized cls).before args s = true) (hstr : vk_R own is text sa s) (hat : ∀ w ∈ vx_atS own ic cls names, w.before args s = true)
    (hgood : ∀ w ∈ Cond.classLink own ik cls :: Cond.initialized cls :: vx_atS own ic cls names, vx_ot w = true)
    (hU : vx_Zq Bundle.tN "UNASSIGNED_STACK" Bundle.steD A s s.heap) (hN : vx_Zq Bundle.tN "SUPPRESSED_SENTINEL" Bundle.listD A s s.heap) (hS : va_S A s.heap H locs) (hsize : ls.size = c.maxLocals)
    (d0 : decode cc pc = .ok (.new ik, 3)) (d3 : decode cc (pc + 3) = .ok (.dup, 1)) (d4 : decode cc (pc + 4) = .ok (.ldc_w is, 3)) (d7 : decode cc (pc + 7) = .ok (.invokespecial ic, 3)) (d10 : decode cc (pc + 10) = .ok (.athrow, 1))
    (hout : ∀ x ∈ c.exceptionTable.toList, covers x (pc + 10) = false)
    (hRframes : names.length + 3 < R.frames) (hRlocals : (rest.map fun v => v.category).sum + (13 * (names.length + 1) + 43) ≤ R.locals) (hRcells : cells + 1 ≤ R.cells) (hRslots : slots + 6 ≤ R.slots) (hlocks : meth.locks = false)
    (hx : ∀ t : State, s.vm.Alike t.vm → H.size ≤ t.heap.size → (∀ q : Nat, q < H.size → t.heap[q]? = H[q]?) → XC cls s t)
    (hf : ∀ z ∈ locs, free z.base) (hc : cells + 1 ≤ mc) (hs : slots + 6 ≤ ms) :
    W p l e R s m args below meth c H locs cells slots (vx_MQ below Qc XC args s mc ms free) (F0 m pc ls rest) := by
  intro T hT X
  have htr : e.platform.stackTraces = false := (show e.platform.stackTraces = l.stackTraces by rw [X.admits.platform]).trans hl
  have Y := vx_rebase X (R' := { frames := R.frames, locals := R.locals, cells := 1, slots := 6 }) (Nat.le_refl _) (Nat.le_refl _) hRcells hRslots
  obtain ⟨s', hA⟩ : ∃ z, z = (T.setVm s.vm).setFrames (.invoking m args :: below) := ⟨_, rfl⟩
  rw [← hA] at Y
  have hvm : s'.vm = s.vm := by rw [hA]; rfl
  have hhp : s'.heap = H := by rw [hA]; exact hT
  have hW0 : s.WarmedH s'.vm := by rw [hvm]; exact State.WarmedH.refl s
  have hat' : ∀ w ∈ vx_atS own ic cls names, w.before args s' = true := fun w hw => vx_ot_at hW0 hvm.symm (hgood w (List.mem_cons_of_mem _ (List.mem_cons_of_mem _ hw))) (hat w hw)
  have hk' : (Cond.classLink own ik cls).before args s' = true := vx_ot_at hW0 hvm.symm (hgood _ List.mem_cons_self) hk
  have hini' : (Cond.initialized cls).before args s' = true := vx_ot_at hW0 hvm.symm (hgood _ (List.mem_cons_of_mem _ List.mem_cons_self)) hini
  have hU' : vx_Zq Bundle.tN "UNASSIGNED_STACK" Bundle.steD A s' s'.heap := by rw [hhp]; exact vx_Zq.moved hW0.alike (hU.kept hS.2.1)
  have hN' : vx_Zq Bundle.tN "SUPPRESSED_SENTINEL" Bundle.listD A s' s'.heap := by rw [hhp]; exact vx_Zq.moved hW0.alike (hN.kept hS.2.1)
  have h : ∀ w ∈ Bundle.ownAtoms own ic cls names, w.before args s' = true := vx_own hat' (vx_isRefq hU'.1) (vx_isRefq hN'.1) hU'.2.word hN'.2.word
  have hown' : s'.vm.findClass own = some m.cls := by rw [hvm]; exact hown
  have hins : (Cond.instantiable cls 6).before args s' = true := h _ (by simp [Bundle.ownAtoms])
  obtain ⟨vm₁, cX, kX, hfX, hkX, -, -, X₁, st1⟩ := Y.newCold hexec (own := own) (C := cls) (index := ik) (n := 6) hown' hk' hins hini'
    (g := F0 m pc ls rest) rfl (by rw [hb]; exact d0) (Nat.le_refl _) (Nat.le_refl _)
  generalize hT1 : (T.setVm vm₁).pushCell { cls := cX, slots := kX.instanceTypes.map defaultValue, vm := .none } = T1 at X₁ st1
  have hcat : (Value.ref T.heap.size).category = 1 := rfl
  have hcellA : T1.heap[T.heap.size]? = some (freshCell cX kX) := by rw [← hT1]; exact State.heap_pushCell_size _ _
  have d3' : decode c.code (pc + 3) = .ok (.dup, 1) := by rw [hb]; exact d3
  have d4' : decode c.code (pc + 4) = .ok (.ldc_w is, 3) := by rw [hb]; exact d4
  have hstr' : vk_R own is text sa s' := vk_R.warm hW0 hstr
  obtain ⟨U, hsteps, hrun, hend, hW, hsame, ce, hce, hO⟩ := X₁.ctorThrowS hexec htr (own := own) (cls := cls) (names := names) (ic := ic) hown' hcls hnames h (fun x hx => nomatch hx) hfX hkX hcellA (by rw [hhp, hT]; exact Nat.le_refl _) (msg := .ref sa) rfl
    (g := { method := m, pc := pc + 7, locals := ls, stack := .ref sa :: .ref T.heap.size :: .ref T.heap.size :: rest, locked := none }) rfl hsize rfl rfl (rest := rest) rfl
    (by rw [hb]; exact d7) (by rw [hb]; exact d10) hout hRframes (by simp only [List.map_cons, List.sum_cons, hcat]; omega) hlocks
  obtain ⟨f1, f2⟩ := vx_frame hsame
  rw [hhp] at f1 f2
  have hWs : s.WarmedH U.vm := State.WarmedH.trans hW0 hW
  have hcl : s.vm.findClass cls = some ce.cls := by
    have h9 := hO.cls
    rw [hvm] at h9
    exact h9
  have hall : s.sameButNew ({ U with vm := s.vm } : State) locs mc ms := by
    subst hA
    obtain ⟨e1, e2⟩ := hsame
    rw [State.setFrames_setFrames] at e1
    have h2 : (T.setVm s.vm).sameButNew ({ U with vm := s.vm } : State) [] (0 + 1) (0 + 6) := ⟨e1, e2⟩
    have h3 := X.same.trans h2
    rw [List.append_nil] at h3
    exact h3.mono hc hs
  refine ⟨U, ?_, .threw T.heap.size, hrun, hend, Or.inr ⟨T.heap.size, rfl, cls, ce, locs, hx U hWs.alike f1 (fun q hq => f2 q hq (fun z hz => nomatch hz)), hce, hO.vm, hcl, hWs, hall, hf⟩⟩
  refine st1 _ ?_
  show Steps p.tables e below (T1.setTop { method := m, pc := pc + 3, locals := ls, stack := .ref T.heap.size :: rest, locked := none }) _
  jvm_step X₁.here [X₁.here.top, hexec, d3', Value.category]
  exact X₁.ldcStringW hexec (own := own) (text := text) (index := is) (a := sa) hown' hstr'.1 hstr'.2
    (g := { method := m, pc := pc + 4, locals := ls, stack := .ref T.heap.size :: .ref T.heap.size :: rest, locked := none }) rfl d4' _ hsteps
end Ends
section Bodies
variable {l : Launch}
theorem vx_ofW {y : MethodName} {ws ws' : List Cond} {rm : Room} {Pc : Array Value → State → Prop} {Qc : Array Value → State → Outcome → State → Prop} {XC : String → State → State → Prop} {mc ms : Nat} {free : Addr → Prop} {cc : ByteArray} {maxL : Nat} {ret : Option FieldType}
    (hy : plainName y.cls = true) (hw : ws = Cond.code y cc maxL ret :: ws')
    (body : ∀ p e s m args below meth c s₁, BodyLoose p l y (headSpec ws rm) cc maxL ret e s m args below meth c s₁ → c.maxLocals = maxL → (∀ x ∈ c.exceptionTable.toList, False) → Pc args s →
      W p l e (headSpec ws rm).room s m args below meth c s.heap [] 0 0 (vx_MQ below Qc XC args s mc ms free) (entryFrame m args maxL)) : vx_Met l y ws rm Pc Qc XC mc ms free := by
  refine MetFree.of_bodyS (code := cc) (maxLocals := maxL) (ret := ret) hy ?_ ?_
  · intro args s m h hn
    obtain ⟨meth, c, h1, h2, h3, h4, h5, h6, -, -⟩ := Cond.code_spec hn (atoms_spec (ws := ws) h _ (by rw [hw]; exact List.mem_cons_self))
    exact ⟨meth, c, h1, h2, h3, h4, h5, h6⟩
  · intro p e s m args below meth c s₁ B hml hP _
    have hh0 : s₁.heap = s.heap := by rw [B.state]; rfl
    have ht : ∀ x ∈ c.exceptionTable.toList, False := by
      obtain ⟨meth9, c9, h1, h2, -, -, -, -, h7, -⟩ := Cond.code_spec B.named (atoms_spec (ws := ws) B.pre _ (by rw [hw]; exact List.mem_cons_self))
      cases Option.some.inj (h1.symm.trans B.method)
      cases Option.some.inj (h2.symm.trans (Stand.of_body B).code)
      intro x hx
      rw [Array.isEmpty_iff.mp h7] at hx
      cases hx
    obtain ⟨t, a1, o, b1, b2, b3⟩ := body p e s m args below meth c s₁ B hml ht hP s₁ hh0 (Stand.of_body B)
    exact ⟨t, o, a1, b1, b2, b3⟩
/-- the table of a body with handlers -/
theorem vx_table {p : Program} {x y : MethodName} {S : Spec} {cc bytes : ByteArray} {maxL maxL' : Nat} {ret ret' : Option FieldType} {e : Env} {s s₁ : State} {m : MethodId} {args : Array Value} {below : List Frame} {meth : Method} {c : Code} {hh : List (Nat × Nat × Nat × Nat)}
    (B : BodyLoose p l y S cc maxL ret e s m args below meth c s₁) (h : (Cond.codeWith y bytes maxL' ret' hh).before args s = true) : c.exceptionTable.toList = tableOf hh := by
  obtain ⟨m9, meth9, c9, hn9, h1, h2, -, -, h6, -⟩ := Cond.codeWith_spec h
  cases Option.some.inj (hn9.symm.trans B.named)
  cases Option.some.inj (h1.symm.trans B.method)
  cases Option.some.inj (h2.symm.trans (Stand.of_body B).code)
  rw [← h6, table_eq]
end Bodies
end VXA
/-! ===== END ===== -/
/-! ===== BEGIN a static call of a method with an exception table ===== -/
section VXS
variable {p : Program} {l : Launch} {e : Env} {R : Room} {s : State} {m : MethodId} {args : Array Value} {below : List Frame} {meth : Method} {c : Code} {T : State} {H : Heap} {locs : List Loc} {cells slots : Nat}
abbrev vx_CSW (R : Room) (s : State) (args : Array Value) (own : String) (index : Nat) (y : MethodName) (bytes : ByteArray) (maxL : Nat) (ret : Option FieldType) (hh : List (Nat × Nat × Nat × Nat)) (ws : List Cond) (rm : Room) (mc ms n : Nat) : Prop :=
  (rm.cells = mc ∧ rm.slots = ms ∧ rm.frames + 1 ≤ R.frames ∧ 8 + (maxL + 11) + rm.locals ≤ R.locals ∧ (∀ w ∈ ws, ∀ (a' : Array Value) (U : State), s.WarmedH U.vm → w.before a' U = true) ∧ Cond.codeWith y bytes maxL ret hh ∈ ws) ∧
  (Cond.codeWith y bytes maxL ret hh).before args s = true ∧ (Cond.initialized y.cls).before args s = true ∧ (y.cls ≠ "java/lang/invoke/MethodHandle" ∧ y.cls ≠ "java/lang/invoke/VarHandle") ∧
  (∀ sig, parseMethodDescriptor y.desc = some sig → n = sig.parameters.length) ∧ (Cond.methodLink own index y).before args s = true ∧ (Cond.static y).before args s = true
theorem vx_cwSW {own : String} {index maxL mc ms : Nat} {y : MethodName} {bytes : ByteArray} {ret : Option FieldType} {hh : List (Nat × Nat × Nat × Nat)} {Ts ws ws' : List Cond} {rm : Room} (n : Nat) (ht : ∀ w ∈ Ts, w.before args s = true) (hT : GoodIn Ts (va_wsS own index y ws)) (hw : ws = Cond.codeWith y bytes maxL ret hh :: ws') (hrc : rm.cells = mc) (hrs : rm.slots = ms)
    (hd : y.cls ≠ "java/lang/invoke/MethodHandle" ∧ y.cls ≠ "java/lang/invoke/VarHandle" ∧ (parseMethodDescriptor y.desc).map (fun d => d.parameters.length) = some n) (hR : rm.frames + 1 ≤ R.frames ∧ 8 + (maxL + 11) + rm.locals ≤ R.locals) :
    vx_CSW R s args own index y bytes maxL ret hh ws rm mc ms n := by
  have ok : ∀ w ∈ va_wsS own index y ws, w.before args s = true := fun w h => ht w (hT w h).1
  have hG : GoodIn Ts ws := fun w h => hT w (by unfold va_wsS; exact List.mem_append_right _ h)
  have hc : Cond.codeWith y bytes maxL ret hh ∈ ws := by rw [hw]; exact List.mem_cons_self
  refine ⟨⟨hrc, hrs, hR.1, hR.2, pay_in ht hG, hc⟩, ht _ (hG _ hc).1, ok _ (by simp [va_wsS]), ⟨hd.1, hd.2.1⟩, fun sig h => ?_, ok _ (by simp [va_wsS]), ok _ (by simp [va_wsS])⟩
  have h2 := hd.2.2
  rw [h] at h2
  exact (Option.some.inj h2).symm
theorem vx_callSW (X : Stand p l e R s m args below meth c T locs cells slots) (hexec : p.tables.exec = Jvm.exec) {own : String} {index : Nat} {y : MethodName} {bytes : ByteArray} {maxL : Nat} {ret : Option FieldType} {hh : List (Nat × Nat × Nat × Nat)}
    (hown : s.vm.findClass own = some m.cls) (hlink : (Cond.methodLink own index y).before args s = true) (hstat : (Cond.static y).before args s = true) (hinit : (Cond.initialized y.cls).before args s = true)
    (hcode : (Cond.codeWith y bytes maxL ret hh).before args s = true) (hy : y.cls ≠ "java/lang/invoke/MethodHandle" ∧ y.cls ≠ "java/lang/invoke/VarHandle")
    {W9 : Nat} {Pre : Pt → Array Value → Prop} {Post : Pt → Array Value → Option Value → Pt → Prop} (hK : Back l R p e below s args y 3 W9 Pre Post)
    {g : JFrame} (hg : g.method = m) (hsize : g.locals.size = c.maxLocals) {argsL rest : List Value} (hlen : ∀ sig, parseMethodDescriptor y.desc = some sig → argsL.length = sig.parameters.length)
    (hstack : g.stack = argsL.reverse ++ rest) (hW : 2 * g.monitorRoom + (rest.map fun v => v.category).sum ≤ W9) (hdg : decode c.code g.pc = .ok (.invokestatic index, 3))
    (hpre : ∀ vm₁, s.WarmedH vm₁ → Pre ⟨T.setVm vm₁, locs, cells, slots⟩ argsL.toArray) :
    ∃ (v : Option Value) (vm₁ : Vm) (B : Pt), s.WarmedH vm₁ ∧ Stand p l e R s m args below meth c B.U B.locs B.cells B.slots ∧ Post ⟨T.setVm vm₁, locs, cells, slots⟩ argsL.toArray v B ∧
      ∀ target, Steps p.tables e below (B.U.setTop { g with pc := g.pc + 3, stack := v.toList ++ rest }) target → Steps p.tables e below (T.setTop g) target := by
  obtain ⟨mk, methM, cM, hnamed, hmethM, -, -, -, -, -, -, hsigM⟩ := Cond.codeWith_spec hcode
  have hstatic : methM.isStatic = true := Cond.static_spec hnamed hmethM hstat
  obtain ⟨kP, hkP, -⟩ := className_of_methodNamed hnamed
  have hinitP : kP.init = .initialized := Cond.initialized_spec (findClass_of_methodNamed hnamed) hkP hinit
  obtain ⟨vm₁, X₁, hstep₁⟩ := X.invokestatic hexec hown hlink hnamed hmethM hstatic hkP hinitP hy (g := g) hg (argsL := argsL) (rest := rest) (hlen _ hsigM) hstack hdg
  obtain ⟨v, B, X', hpost, hsteps⟩ := hK m meth c ⟨T.setVm vm₁, locs, cells, slots⟩ { g with stack := rest } (.invokestatic index) mk argsL.toArray X₁ hg hsize hdg hW (X₁.named hnamed) (hpre vm₁ X₁.warmed)
  exact ⟨v, vm₁, B, X₁.warmed, X', hpost, fun target h => hstep₁ _ fun acts => by rw [doInvoke_state]; exact hsteps.trans h⟩
theorem vx_runSW {y : MethodName} {bytes cc : ByteArray} {maxL nL mc ms n index : Nat} {ret : Option FieldType} {hh : List (Nat × Nat × Nat × Nat)} {ws : List Cond} {rm : Room} {Pc : Array Value → State → Prop} {Qc : Array Value → State → Outcome → State → Prop} {free : Addr → Prop} {Ts : List Cond} {own : String} {As rest : List Value} {g : JFrame}
    (S : CallFix p m c cc nL s args Ts own) (hM : Met l y ws rm Pc Qc mc ms free) (cw : vx_CSW R s args own index y bytes maxL ret hh ws rm mc ms n) (hp : PreS s H Pc As)
    (hg : g.method = m) (hn : As.length = n) (hsize : g.locals.size = nL) (hstack : g.stack = As.reverse ++ rest) (hW : 2 * g.monitorRoom + (rest.map fun v => v.category).sum ≤ 8) (hdg : decode cc g.pc = .ok (.invokestatic index, 3)) (hf : cells + mc ≤ R.cells ∧ slots + ms ≤ R.slots) :
    va_Run p l e R s m args below meth c H locs cells slots mc ms g rest (Qc As.toArray) (free) := by
  obtain ⟨⟨hrc, hrs, hfr, hlo, hws, hcw⟩, hcode, hini, hy, hlen, hl, hstt⟩ := cw
  have hK : Back l R p e below s args y 3 8 (PreOf R mc ms Pc) (PostOf Qc mc ms free) := va_backW (hh := hh) (bytes := bytes) (maxL := maxL) (ret := ret) hM hp.1 hrc hrs hfr hlo hws hcw (fun a' U hW => word_at hW (Or.inl (by first | rfl | simp [Cond.onTables, Cond.keeps, Cond.steady])) hini)
  obtain ⟨hx, hb, hml, ho, -⟩ := S
  intro T hT X
  obtain ⟨v, vm₁, ⟨U', l2, c2, s2⟩, hW₁, X', ⟨g', mk, t, L, e1, e2, hq, h1, hL, h2, h3⟩, st⟩ := vx_callSW X hx (hh := hh) (bytes := bytes) (maxL := maxL) (ret := ret) ho hl hstt hini hcode hy hK hg (hsize.trans hml.symm) (argsL := As) (rest := rest) (fun sig h => hn.trans (hlen sig h)) hstack hW (by rw [hb]; exact hdg)
    (fun vm₁ hW₁ => ⟨hf.1, hf.2, hp.2 (T.setVm vm₁) hT hW₁⟩)
  dsimp only [Pt.U, Pt.locs, Pt.cells, Pt.slots] at X' e1 e2 h1 h2 h3 st
  subst h1; subst h2; subst h3
  exact ⟨v, (T.setVm vm₁).calling g' mk As.toArray, t, U', L, hT, X', hL, e1, e2, hq, st⟩
/-- not caught here, past rows that name other classes: it goes on to the caller -/
theorem vx_outP {p : Program} {l : Launch} {e : Env} {R : Room} {s : State} {m : MethodId} {args : Array Value} {below : List Frame} {meth : Method} {c : Code} {H : Heap} {locs : List Loc} {cells slots : Nat} {free : Addr → Prop} {ls : Array Slot} {rest : List Value} {Qc : Array Value → State → Outcome → State → Prop} {XC : String → State → State → Prop}
    {pc : Nat} {own E : String} {ce : Cell} {q : Addr} {mc ms : Nat} (hown : s.vm.findClass own = some m.cls) (hlocks : meth.locks = false)
    (hpass : ∀ z ∈ c.exceptionTable.toList, covers z pc = false ∨ (z.catchType ≠ 0 ∧ ∃ nm : String, (Cond.classLink own z.catchType nm).before args s = true ∧ va_Nc E nm s)) (hcell : H[q]? = some ce) (hv : ce.vm = .none) (hcl : s.vm.findClass E = some ce.cls)
    (hx : ∀ t : State, t.heap = H → s.vm.Alike t.vm → XC E s t) (hf : ∀ z ∈ locs, free z.base) (hc : cells ≤ mc) (hs : slots ≤ ms) :
    vx_W p l e R s m args below meth c H locs cells slots (vx_MQ below Qc XC args s mc ms free) (F0 m pc ls rest) q := by
  intro T hT X
  have hpl : e.platform.magicAccessors = ({} : Platform).magicAccessors := by rw [X.admits.platform]
  obtain ⟨vm', hW', X', st⟩ := X.outThrough hlocks q (g := F0 m pc ls rest) rfl rfl rfl (cell := ce) (by rw [hT]; exact hcell) (by rw [hv]; rfl)
    (by obtain ⟨k9, h9, -⟩ := Vm.findClass_spec hcl; exact ⟨k9, h9⟩) (fun z hz => by
      rcases hpass z hz with h | ⟨hz0, nm, hl1, hn1⟩
      · exact Or.inl h
      · obtain ⟨c6, hc6, hcl6⟩ := Cond.classLink_spec hown hl1 e.platform hpl
        obtain ⟨a8, b8, h1, h2, h3⟩ := hn1
        cases Option.some.inj (h1.symm.trans hcl)
        cases Option.some.inj (h2.symm.trans hc6)
        exact Or.inr ⟨hz0, _, hcl6, h3⟩)
  obtain ⟨g₀, hfr⟩ := X'.frames_eq
  have hcell9 : ((T.setVm vm').setFrames (.throwing q :: below)).heap[q]? = some ce := by
    show T.heap[q]? = some ce
    rw [hT]; exact hcell
  have hend : Ended ((T.setVm vm').setFrames (.throwing q :: below)) below (.threw q) := State.frames_setFrames _ (State.cur_lt_of_frames hfr)
  refine ⟨(T.setVm vm').setFrames (.throwing q :: below), ?_, .threw q, X'.here.running, hend, Or.inr ⟨q, rfl, E, ce, locs, hx _ hT (X'.ends _).1.alike, hcell9, hv, hcl, (X'.ends _).1, (X'.ends _).2.mono hc hs, hf⟩⟩
  rw [X.pushThrowing_eq]
  exact st
/-- a thing of a world lies in the heap -/
theorem vx_lt {D : va_G} {cl : List vw_C} {ws : va_W} {H1 : Heap} (h : va_P D cl ws H1) {k : Nat} {q : Nat × va_E} (hk : ws[k]? = some q) : q.1 < H1.size := (h k q hk).lt
end VXS
/-! ===== END ===== -/
/-! ===== BEGIN methods with a table of their own: called by a name, returning or throwing ===== -/
section VXH
/-! vx_backW, vx_callVX, vx_callSX, vx_callVW, vx_runVW, vx_runVX, vx_runSX, vx_ofWH follow the same proofs as their sisters above (Free/Laws.lean, Shelf42/LK1.lean); vx_outP calls Shelf42/NT130.lean (outThrough). -/
section
variable {l : Launch} {R : Room} {p : Program} {e : Env} {below : List Frame} {s : State} {sargs : Array Value} {y : MethodName} {len W9 : Nat}
theorem vx_backW {ws : List Cond} {rm : Room} {Pc : Array Value → State → Prop} {Qc : Array Value → State → Outcome → State → Prop} {XC : String → State → State → Prop} {mc ms : Nat} {free : Addr → Prop} {bytes : ByteArray} {maxL : Nat} {ret : Option FieldType} {hh : List (Nat × Nat × Nat × Nat)}
    (hM : vx_Met l y ws rm Pc Qc XC mc ms free) (hblind : FrameBlind Pc) (hrc : rm.cells = mc) (hrs : rm.slots = ms)
    (hframes : rm.frames + 1 ≤ R.frames) (hlocals : W9 + (maxL + 11) + rm.locals ≤ R.locals)
    (hws : ∀ w ∈ ws, ∀ a' U, s.WarmedH U.vm → w.before a' U = true) (hcode : Cond.codeWith y bytes maxL ret hh ∈ ws) (hinit : ∀ a' U, s.WarmedH U.vm → (Cond.initialized y.cls).before a' U = true) :
    vx_Back l R p e below s sargs y len W9 (PreOf R mc ms Pc) (PostOf Qc mc ms free) (vx_Post XC mc ms free) := by
  intro m meth c A g ig mk a X hg hsize hdg hW hn hp
  have h1 : (headSpec ws rm).pre.before a A.U = true := atoms_intro fun w hw => hws w hw _ _ X.warmed
  have h2 : (Cond.codeWith y bytes maxL ret hh).before a A.U = true := hws _ hcode _ _ X.warmed
  have h3 : (Cond.initialized y.cls).before a A.U = true := hinit _ _ X.warmed
  have h4 : A.cells + (headSpec ws rm).room.cells ≤ R.cells := by rw [show (headSpec ws rm).room.cells = mc from hrc]; exact hp.1
  have h5 : A.slots + (headSpec ws rm).room.slots ≤ R.slots := by rw [show (headSpec ws rm).room.slots = ms from hrs]; exact hp.2.1
  have hPc : Pc a (A.U.calling g mk a) := hblind _ _ _ _ hp.2.2
  obtain ⟨U, Ls, c0, s0⟩ := A
  dsimp only [Pt.U, Pt.locs, Pt.cells, Pt.slots] at h1 h2 h3 h4 h5 X hn hPc ⊢
  obtain ⟨m9, methY, cY, hn9, hmY, hcY, -, hlY, -⟩ := Cond.codeWith_spec h2
  cases Option.some.inj (hn9.symm.trans hn)
  obtain ⟨kY, hkY, -⟩ := className_of_methodNamed hn
  have hinitY : kY.init = .initialized := Cond.initialized_spec (findClass_of_methodNamed hn) hkY h3
  have h : At U g.method c below := by rw [hg]; exact X.here
  have hlocals9 : W9 + (maxL + 11) + (headSpec ws rm).room.locals ≤ R.locals := hlocals
  have happ : (headSpec ws rm).appliesLoose y e.platform (U.calling g mk a) = true :=
    Spec.appliesLoose_calling (g := g) h hdg hn hkY hinitY
      (X.room_calling (g := g) (R' := (headSpec ws rm).room) hsize hmY hcY hframes (by rw [hlY]; omega) h4 h5) h1
  obtain ⟨mid, hmid⟩ := h.above
  have hfr : (U.setTop g).frames = (.java g :: mid) ++ below := by rw [State.frames_setTop' g h.top, hmid]; rfl
  obtain ⟨o, s₂, hsteps, -, hend, hq⟩ := Steps.callFree hM p X.admits X.cas X.clock (acts := []) hfr happ hPc trivial
  have hq' : vx_Q Qc XC mc ms free a (U.calling g mk a) o s₂ := hq
  rw [State.frames_setTop' g h.top] at hend
  obtain ⟨g₀, hg0⟩ := Option.isSome_iff_exists.mp h.top
  obtain ⟨r, hr⟩ := State.topJava?_eq_some.mp hg0
  have hr' : (({ U with heap := s₂.heap, slotsUsed := s₂.slotsUsed } : State).setVm s₂.vm).frames = .java g₀ :: r := hr
  rcases hq' with ⟨hqc, L, hfe, hL⟩ | ⟨q, rfl, E, ce, L, hx, hce, hcv, hcl, hW₂, hsm, hL⟩
  · obtain ⟨⟨v, rfl⟩, hW₂, e2, q2, q3, q4, q5, q6⟩ := id hfe
    have e3 : s₂ = ({ (U.calling g mk a).setFrames s₂.frames with heap := s₂.heap, slotsUsed := s₂.slotsUsed } : State).setVm s₂.vm := by
      have : s₂ = ({ s₂ with vm := (U.calling g mk a).vm } : State).setVm s₂.vm := rfl
      rw [e2] at this
      exact this
    obtain ⟨c₂, i₂, len₂, hc₂, hd₂, hf₂⟩ := hend
    have hW' : U.WarmedH s₂.vm := hW₂
    have hcc : c₂ = c := by
      have h1 : s₂.code? g.method = U.code? g.method := by
        rw [State.code?_eq, State.code?_eq, hW'.alike.method?]
      exact Option.some.inj (hc₂.symm.trans (h1.trans h.code))
    subst hcc
    have hlen : len₂ = len := by rw [hdg] at hd₂; cases hd₂; rfl
    subst hlen
    have hs₂ : s₂ = (({ U with heap := s₂.heap, slotsUsed := s₂.slotsUsed } : State).setVm s₂.vm).setTop { g with pc := g.pc + len₂, stack := v.toList ++ g.stack } := by
      refine e3.trans ?_
      rw [hf₂, State.calling_eq h.top, State.setFrames_setFrames, State.setTop_of_frames _ hr', hr]
      rfl
    have hsame : U.sameButNew ({ U with heap := s₂.heap, slotsUsed := s₂.slotsUsed } : State) L mc ms := by
      refine ⟨?_, q2, q3, q4, q5, q6⟩
      obtain ⟨t, ht, -⟩ := State.frames_cons hr
      show ({ U with heap := s₂.heap, slotsUsed := s₂.slotsUsed } : State) = { U.setFrames U.frames with heap := s₂.heap, slotsUsed := s₂.slotsUsed }
      rw [State.setFrames_self ht]
    subst hg
    refine Or.inl ⟨v, ⟨(({ U with heap := s₂.heap, slotsUsed := s₂.slotsUsed } : State).setVm s₂.vm), Ls ++ L, c0 + mc, s0 + ms⟩,
      ⟨X.admits, X.cas, X.clock, X.frames, X.room, X.hears, X.method, X.code, (X.here.setHeapUsed s₂.heap s₂.slotsUsed).setVm hW'.alike, X.tail, State.WarmedH.trans X.warmed hW', X.limits, X.bytes, X.same.trans (hsame.setVm s.vm)⟩,
      ⟨g, mk, s₂, L, rfl, rfl, hqc, rfl, hL, rfl, rfl⟩, ?_⟩
    show Steps p.tables e below _ ((({ U with heap := s₂.heap, slotsUsed := s₂.slotsUsed } : State).setVm s₂.vm).setTop { g with pc := g.pc + len₂, stack := v.toList ++ g.stack })
    rw [← hs₂]
    exact hsteps
  · obtain ⟨e2, q2, q3, q4, q5, q6⟩ := id hsm
    have e3 : s₂ = ({ (U.calling g mk a).setFrames s₂.frames with heap := s₂.heap, slotsUsed := s₂.slotsUsed } : State).setVm s₂.vm := by
      have : s₂ = ({ s₂ with vm := (U.calling g mk a).vm } : State).setVm s₂.vm := rfl
      rw [e2] at this
      exact this
    have hf₂ : s₂.frames = .throwing q :: .java g :: U.frames.tail := hend
    have hW' : U.WarmedH s₂.vm := hW₂
    have hs₂ : s₂ = ((({ U with heap := s₂.heap, slotsUsed := s₂.slotsUsed } : State).setVm s₂.vm).setTop g).pushFrame (.throwing q) := by
      refine e3.trans ?_
      rw [hf₂, State.calling_eq h.top, State.setFrames_setFrames, State.pushFrame, State.frames_setTop _ hr', State.setTop_of_frames _ hr', State.setFrames_setFrames, hr]
      rfl
    have hsame : U.sameButNew ({ U with heap := s₂.heap, slotsUsed := s₂.slotsUsed } : State) L mc ms := by
      refine ⟨?_, q2, q3, q4, q5, q6⟩
      obtain ⟨t, ht, -⟩ := State.frames_cons hr
      show ({ U with heap := s₂.heap, slotsUsed := s₂.slotsUsed } : State) = { U.setFrames U.frames with heap := s₂.heap, slotsUsed := s₂.slotsUsed }
      rw [State.setFrames_self ht]
    subst hg
    refine Or.inr ⟨q, ⟨(({ U with heap := s₂.heap, slotsUsed := s₂.slotsUsed } : State).setVm s₂.vm), Ls ++ L, c0 + mc, s0 + ms⟩,
      ⟨X.admits, X.cas, X.clock, X.frames, X.room, X.hears, X.method, X.code, (X.here.setHeapUsed s₂.heap s₂.slotsUsed).setVm hW'.alike, X.tail, State.WarmedH.trans X.warmed hW', X.limits, X.bytes, X.same.trans (hsame.setVm s.vm)⟩,
      ⟨g, mk, s₂, L, E, ce, rfl, rfl, hx, hce, hcv, hcl, rfl, hL, rfl, rfl⟩, ?_⟩
    show Steps p.tables e below _ (((({ U with heap := s₂.heap, slotsUsed := s₂.slotsUsed } : State).setVm s₂.vm).setTop g).pushFrame (.throwing q))
    rw [← hs₂]
    exact hsteps
end
variable {p : Program} {l : Launch} {e : Env} {R : Room} {s : State} {m : MethodId} {args : Array Value} {below : List Frame} {meth : Method} {c : Code} {T : State} {H : Heap} {locs : List Loc} {cells slots : Nat}
theorem vx_callVX (X : Stand p l e R s m args below meth c T locs cells slots) (hexec : p.tables.exec = Jvm.exec) {own C : String} {index : Nat} {y : MethodName} {bytes : ByteArray} {maxL : Nat} {ret : Option FieldType} {hh : List (Nat × Nat × Nat × Nat)}
    (hown : s.vm.findClass own = some m.cls) (hlink : (Cond.methodLink own index y).before args s = true) (hinst : (Cond.instanceMethod y).before args s = true) (hsel : (Cond.selects C y y).before args s = true)
    (hcode : (Cond.codeWith y bytes maxL ret hh).before args s = true) (hy : y.cls ≠ "java/lang/invoke/MethodHandle" ∧ y.cls ≠ "java/lang/invoke/VarHandle")
    {W9 : Nat} {Pre : Pt → Array Value → Prop} {Post : Pt → Array Value → Option Value → Pt → Prop} {PostX : Pt → Array Value → Addr → Pt → Prop} (hK : vx_Back l R p e below s args y 3 W9 Pre Post PostX)
    {b : Addr} {cellB : Cell} (hcell : T.heap[b]? = some cellB) (hobj : cellB.vm.isStatics = false) (hcls : s.vm.findClass C = some cellB.cls)
    {g : JFrame} (hg : g.method = m) (hsize : g.locals.size = c.maxLocals) {argsL rest : List Value} (hlen : ∀ sig, parseMethodDescriptor y.desc = some sig → argsL.length = sig.parameters.length)
    (hstack : g.stack = argsL.reverse ++ .ref b :: rest) (hW : 2 * g.monitorRoom + (rest.map fun v => v.category).sum ≤ W9) (hdg : decode c.code g.pc = .ok (.invokevirtual index, 3))
    (hpre : ∀ vm₁, s.WarmedH vm₁ → Pre ⟨T.setVm vm₁, locs, cells, slots⟩ (Value.ref b :: argsL).toArray) :
    (∃ (v : Option Value) (vm₁ : Vm) (B : Pt), s.WarmedH vm₁ ∧ Stand p l e R s m args below meth c B.U B.locs B.cells B.slots ∧ Post ⟨T.setVm vm₁, locs, cells, slots⟩ (Value.ref b :: argsL).toArray v B ∧
      ∀ target, Steps p.tables e below (B.U.setTop { g with pc := g.pc + 3, stack := v.toList ++ rest }) target → Steps p.tables e below (T.setTop g) target) ∨
    (∃ (q : Addr) (vm₁ : Vm) (B : Pt), s.WarmedH vm₁ ∧ Stand p l e R s m args below meth c B.U B.locs B.cells B.slots ∧ PostX ⟨T.setVm vm₁, locs, cells, slots⟩ (Value.ref b :: argsL).toArray q B ∧
      Steps p.tables e below (T.setTop g) ((B.U.setTop { g with stack := rest }).pushFrame (.throwing q))) := by
  obtain ⟨mk, methM, hnamed, hmethM, hstM, habM⟩ := Cond.instanceMethod_spec hinst
  obtain ⟨m8, methM', cM, hn8, hmethM', -, -, -, -, -, -, hsigM⟩ := Cond.codeWith_spec hcode
  cases Option.some.inj (hn8.symm.trans hnamed)
  cases hmethM.symm.trans hmethM'
  obtain ⟨c2, r2, m2, q1, q2, q3, q4, kP, hkP, hkPi⟩ := Cond.selects_spec hsel
  cases hcls.symm.trans q1
  cases (State.methodFound?_of_named hnamed hy).symm.trans q2
  cases hnamed.symm.trans q3
  have hselP : selectMethod e.platform s.vm cellB.cls mk = .method mk := by rw [Launch.admits_selectMethod X.admits]; exact q4
  obtain ⟨vm₁, X₁, hstep₁⟩ := X.invokevirtual hexec hown hlink hnamed hmethM hstM hkP hkPi hy (a := b) (cell := cellB) hcell
    (fun z h => by rw [h] at hobj; cases hobj) hselP hmethM habM hkP hkPi (g := g) hg (argsL := argsL) (rest := rest) (hlen _ hsigM) hstack hdg
  rcases hK m meth c ⟨T.setVm vm₁, locs, cells, slots⟩ { g with stack := rest } (.invokevirtual index) mk (Value.ref b :: argsL).toArray X₁ hg hsize hdg hW (X₁.named hnamed) (hpre vm₁ X₁.warmed) with ⟨v, B, X', hpost, hsteps⟩ | ⟨q, B, X', hpost, hsteps⟩
  · exact Or.inl ⟨v, vm₁, B, X₁.warmed, X', hpost, fun target h => hstep₁ _ fun acts => by rw [doInvoke_state]; exact hsteps.trans h⟩
  · exact Or.inr ⟨q, vm₁, B, X₁.warmed, X', hpost, hstep₁ _ fun acts => by rw [doInvoke_state]; exact hsteps⟩
theorem vx_callSX (X : Stand p l e R s m args below meth c T locs cells slots) (hexec : p.tables.exec = Jvm.exec) {own : String} {index : Nat} {y : MethodName} {bytes : ByteArray} {maxL : Nat} {ret : Option FieldType} {hh : List (Nat × Nat × Nat × Nat)}
    (hown : s.vm.findClass own = some m.cls) (hlink : (Cond.methodLink own index y).before args s = true) (hstat : (Cond.static y).before args s = true) (hinit : (Cond.initialized y.cls).before args s = true)
    (hcode : (Cond.codeWith y bytes maxL ret hh).before args s = true) (hy : y.cls ≠ "java/lang/invoke/MethodHandle" ∧ y.cls ≠ "java/lang/invoke/VarHandle")
    {W9 : Nat} {Pre : Pt → Array Value → Prop} {Post : Pt → Array Value → Option Value → Pt → Prop} {PostX : Pt → Array Value → Addr → Pt → Prop} (hK : vx_Back l R p e below s args y 3 W9 Pre Post PostX)
    {g : JFrame} (hg : g.method = m) (hsize : g.locals.size = c.maxLocals) {argsL rest : List Value} (hlen : ∀ sig, parseMethodDescriptor y.desc = some sig → argsL.length = sig.parameters.length)
    (hstack : g.stack = argsL.reverse ++ rest) (hW : 2 * g.monitorRoom + (rest.map fun v => v.category).sum ≤ W9) (hdg : decode c.code g.pc = .ok (.invokestatic index, 3))
    (hpre : ∀ vm₁, s.WarmedH vm₁ → Pre ⟨T.setVm vm₁, locs, cells, slots⟩ argsL.toArray) :
    (∃ (v : Option Value) (vm₁ : Vm) (B : Pt), s.WarmedH vm₁ ∧ Stand p l e R s m args below meth c B.U B.locs B.cells B.slots ∧ Post ⟨T.setVm vm₁, locs, cells, slots⟩ argsL.toArray v B ∧
      ∀ target, Steps p.tables e below (B.U.setTop { g with pc := g.pc + 3, stack := v.toList ++ rest }) target → Steps p.tables e below (T.setTop g) target) ∨
    (∃ (q : Addr) (vm₁ : Vm) (B : Pt), s.WarmedH vm₁ ∧ Stand p l e R s m args below meth c B.U B.locs B.cells B.slots ∧ PostX ⟨T.setVm vm₁, locs, cells, slots⟩ argsL.toArray q B ∧
      Steps p.tables e below (T.setTop g) ((B.U.setTop { g with stack := rest }).pushFrame (.throwing q))) := by
  obtain ⟨mk, methM, cM, hnamed, hmethM, -, -, -, -, -, -, hsigM⟩ := Cond.codeWith_spec hcode
  have hstatic : methM.isStatic = true := Cond.static_spec hnamed hmethM hstat
  obtain ⟨kP, hkP, -⟩ := className_of_methodNamed hnamed
  have hinitP : kP.init = .initialized := Cond.initialized_spec (findClass_of_methodNamed hnamed) hkP hinit
  obtain ⟨vm₁, X₁, hstep₁⟩ := X.invokestatic hexec hown hlink hnamed hmethM hstatic hkP hinitP hy (g := g) hg (argsL := argsL) (rest := rest) (hlen _ hsigM) hstack hdg
  rcases hK m meth c ⟨T.setVm vm₁, locs, cells, slots⟩ { g with stack := rest } (.invokestatic index) mk argsL.toArray X₁ hg hsize hdg hW (X₁.named hnamed) (hpre vm₁ X₁.warmed) with ⟨v, B, X', hpost, hsteps⟩ | ⟨q, B, X', hpost, hsteps⟩
  · exact Or.inl ⟨v, vm₁, B, X₁.warmed, X', hpost, fun target h => hstep₁ _ fun acts => by rw [doInvoke_state]; exact hsteps.trans h⟩
  · exact Or.inr ⟨q, vm₁, B, X₁.warmed, X', hpost, hstep₁ _ fun acts => by rw [doInvoke_state]; exact hsteps⟩
theorem vx_callVW (X : Stand p l e R s m args below meth c T locs cells slots) (hexec : p.tables.exec = Jvm.exec) {own C : String} {index : Nat} {y : MethodName} {bytes : ByteArray} {maxL : Nat} {ret : Option FieldType} {hh : List (Nat × Nat × Nat × Nat)}
    (hown : s.vm.findClass own = some m.cls) (hlink : (Cond.methodLink own index y).before args s = true) (hinst : (Cond.instanceMethod y).before args s = true) (hsel : (Cond.selects C y y).before args s = true)
    (hcode : (Cond.codeWith y bytes maxL ret hh).before args s = true) (hy : y.cls ≠ "java/lang/invoke/MethodHandle" ∧ y.cls ≠ "java/lang/invoke/VarHandle")
    {W9 : Nat} {Pre : Pt → Array Value → Prop} {Post : Pt → Array Value → Option Value → Pt → Prop} (hK : Back l R p e below s args y 3 W9 Pre Post)
    {b : Addr} {cellB : Cell} (hcell : T.heap[b]? = some cellB) (hobj : cellB.vm.isStatics = false) (hcls : s.vm.findClass C = some cellB.cls)
    {g : JFrame} (hg : g.method = m) (hsize : g.locals.size = c.maxLocals) {argsL rest : List Value} (hlen : ∀ sig, parseMethodDescriptor y.desc = some sig → argsL.length = sig.parameters.length)
    (hstack : g.stack = argsL.reverse ++ .ref b :: rest) (hW : 2 * g.monitorRoom + (rest.map fun v => v.category).sum ≤ W9) (hdg : decode c.code g.pc = .ok (.invokevirtual index, 3))
    (hpre : ∀ vm₁, s.WarmedH vm₁ → Pre ⟨T.setVm vm₁, locs, cells, slots⟩ (Value.ref b :: argsL).toArray) :
    ∃ (v : Option Value) (vm₁ : Vm) (B : Pt), s.WarmedH vm₁ ∧ Stand p l e R s m args below meth c B.U B.locs B.cells B.slots ∧ Post ⟨T.setVm vm₁, locs, cells, slots⟩ (Value.ref b :: argsL).toArray v B ∧
      ∀ target, Steps p.tables e below (B.U.setTop { g with pc := g.pc + 3, stack := v.toList ++ rest }) target → Steps p.tables e below (T.setTop g) target := by
  obtain ⟨mk, methM, hnamed, hmethM, hstM, habM⟩ := Cond.instanceMethod_spec hinst
  obtain ⟨m8, methM', cM, hn8, hmethM', -, -, -, -, -, -, hsigM⟩ := Cond.codeWith_spec hcode
  cases Option.some.inj (hn8.symm.trans hnamed)
  cases hmethM.symm.trans hmethM'
  obtain ⟨c2, r2, m2, q1, q2, q3, q4, kP, hkP, hkPi⟩ := Cond.selects_spec hsel
  cases hcls.symm.trans q1
  cases (State.methodFound?_of_named hnamed hy).symm.trans q2
  cases hnamed.symm.trans q3
  have hselP : selectMethod e.platform s.vm cellB.cls mk = .method mk := by rw [Launch.admits_selectMethod X.admits]; exact q4
  obtain ⟨vm₁, X₁, hstep₁⟩ := X.invokevirtual hexec hown hlink hnamed hmethM hstM hkP hkPi hy (a := b) (cell := cellB) hcell
    (fun z h => by rw [h] at hobj; cases hobj) hselP hmethM habM hkP hkPi (g := g) hg (argsL := argsL) (rest := rest) (hlen _ hsigM) hstack hdg
  obtain ⟨v, B, X', hpost, hsteps⟩ := hK m meth c ⟨T.setVm vm₁, locs, cells, slots⟩ { g with stack := rest } (.invokevirtual index) mk (Value.ref b :: argsL).toArray X₁ hg hsize hdg hW (X₁.named hnamed) (hpre vm₁ X₁.warmed)
  exact ⟨v, vm₁, B, X₁.warmed, X', hpost, fun target h => hstep₁ _ fun acts => by rw [doInvoke_state]; exact hsteps.trans h⟩
abbrev vx_CVW (R : Room) (s : State) (args : Array Value) (own C : String) (index : Nat) (y : MethodName) (bytes : ByteArray) (maxL : Nat) (ret : Option FieldType) (hh : List (Nat × Nat × Nat × Nat)) (ws : List Cond) (rm : Room) (mc ms n : Nat) : Prop :=
  (rm.cells = mc ∧ rm.slots = ms ∧ rm.frames + 1 ≤ R.frames ∧ 8 + (maxL + 11) + rm.locals ≤ R.locals ∧ (∀ w ∈ ws, ∀ (a' : Array Value) (U : State), s.WarmedH U.vm → w.before a' U = true) ∧ Cond.codeWith y bytes maxL ret hh ∈ ws) ∧
  (Cond.codeWith y bytes maxL ret hh).before args s = true ∧ (Cond.initialized y.cls).before args s = true ∧ (y.cls ≠ "java/lang/invoke/MethodHandle" ∧ y.cls ≠ "java/lang/invoke/VarHandle") ∧
  (∀ sig, parseMethodDescriptor y.desc = some sig → n = sig.parameters.length) ∧ (Cond.methodLink own index y).before args s = true ∧ (Cond.instanceMethod y).before args s = true ∧ (Cond.selects C y y).before args s = true
theorem vx_cwVW {own C : String} {index maxL mc ms : Nat} {y : MethodName} {bytes : ByteArray} {ret : Option FieldType} {hh : List (Nat × Nat × Nat × Nat)} {Ts ws ws' : List Cond} {rm : Room} (n : Nat) (ht : ∀ w ∈ Ts, w.before args s = true) (hT : GoodIn Ts (wsV own index C y ws)) (hw : ws = Cond.codeWith y bytes maxL ret hh :: ws') (hrc : rm.cells = mc) (hrs : rm.slots = ms)
    (hd : y.cls = C ∧ y.cls ≠ "java/lang/invoke/MethodHandle" ∧ y.cls ≠ "java/lang/invoke/VarHandle" ∧ (parseMethodDescriptor y.desc).map (fun d => d.parameters.length) = some n) (hR : rm.frames + 1 ≤ R.frames ∧ 8 + (maxL + 11) + rm.locals ≤ R.locals) :
    vx_CVW R s args own C index y bytes maxL ret hh ws rm mc ms n := by
  obtain ⟨hC, hd⟩ := hd
  subst hC
  have ok : ∀ w ∈ wsV own index y.cls y ws, w.before args s = true := fun w h => ht w (hT w h).1
  have hG : GoodIn Ts ws := fun w h => hT w (by unfold wsV; exact List.mem_append_right _ h)
  have hc : Cond.codeWith y bytes maxL ret hh ∈ ws := by rw [hw]; exact List.mem_cons_self
  refine ⟨⟨hrc, hrs, hR.1, hR.2, pay_in ht hG, hc⟩, ht _ (hG _ hc).1, ok _ (by simp [wsV]), ⟨hd.1, hd.2.1⟩, fun sig h => ?_, ok _ (by simp [wsV]), ok _ (by simp [wsV]), ok _ (by simp [wsV])⟩
  have h2 := hd.2.2
  rw [h] at h2
  exact (Option.some.inj h2).symm
theorem vx_runVW {y : MethodName} {bytes cc : ByteArray} {maxL nL mc ms n index : Nat} {ret : Option FieldType} {hh : List (Nat × Nat × Nat × Nat)} {ws : List Cond} {rm : Room} {Pc : Array Value → State → Prop} {Qc : Array Value → State → Outcome → State → Prop} {free : Addr → Prop} {Ts : List Cond} {own C : String} {b : Addr} {As rest : List Value} {g : JFrame}
    (S : CallFix p m c cc nL s args Ts own) (hM : Met l y ws rm Pc Qc mc ms free) (cw : vx_CVW R s args own C index y bytes maxL ret hh ws rm mc ms n) (hp : PreV s H C b Pc As)
    (hg : g.method = m) (hn : As.length = n) (hsize : g.locals.size = nL) (hstack : g.stack = As.reverse ++ .ref b :: rest) (hW : 2 * g.monitorRoom + (rest.map fun v => v.category).sum ≤ 8) (hdg : decode cc g.pc = .ok (.invokevirtual index, 3)) (hf : cells + mc ≤ R.cells ∧ slots + ms ≤ R.slots) :
    va_Run p l e R s m args below meth c H locs cells slots mc ms g rest (Qc (Value.ref b :: As).toArray) free := by
  obtain ⟨⟨hrc, hrs, hfr, hlo, hws, hcw⟩, hcode, hini, hy, hlen, hl, hin, hse⟩ := cw
  have hK : Back l R p e below s args y 3 8 (PreOf R mc ms Pc) (PostOf Qc mc ms free) := va_backW (hh := hh) (bytes := bytes) (maxL := maxL) (ret := ret) hM hp.1 hrc hrs hfr hlo hws hcw (fun a' U hW => word_at hW (Or.inl (by first | rfl | simp [Cond.onTables, Cond.keeps, Cond.steady])) hini)
  obtain ⟨hx, hb, hml, ho, -⟩ := S
  obtain ⟨-, ⟨cellB, hcB, hoB, hclB⟩, hPc⟩ := hp
  intro T hT X
  obtain ⟨v, vm₁, ⟨U', l2, c2, s2⟩, hW₁, X', ⟨g', mk, t, L, e1, e2, hq, h1, hL, h2, h3⟩, st⟩ := vx_callVW X hx (C := C) (hh := hh) (bytes := bytes) (maxL := maxL) (ret := ret) ho hl hin hse hcode hy hK (by rw [hT]; exact hcB) hoB hclB hg (hsize.trans hml.symm) (argsL := As) (rest := rest) (fun sig h => hn.trans (hlen sig h)) hstack hW (by rw [hb]; exact hdg)
    (fun vm₁ hW₁ => ⟨hf.1, hf.2, hPc (T.setVm vm₁) hT hW₁⟩)
  dsimp only [Pt.U, Pt.locs, Pt.cells, Pt.slots] at X' e1 e2 h1 h2 h3 st
  subst h1; subst h2; subst h3
  exact ⟨v, (T.setVm vm₁).calling g' mk (Value.ref b :: As).toArray, t, U', L, hT, X', hL, e1, e2, hq, st⟩
section
variable {y : MethodName} {bytes cc : ByteArray} {maxL nL mc ms n index : Nat} {ret : Option FieldType} {ws : List Cond} {rm : Room} {Pc : Array Value → State → Prop} {Qc : Array Value → State → Outcome → State → Prop} {XC : String → State → State → Prop} {free : Addr → Prop} {Ts : List Cond} {own C : String} {b : Addr} {As rest : List Value} {g : JFrame}
theorem vx_runVX {hh : List (Nat × Nat × Nat × Nat)} (S : CallFix p m c cc nL s args Ts own) (hM : vx_Met l y ws rm Pc Qc XC mc ms free) (cw : vx_CVW R s args own C index y bytes maxL ret hh ws rm mc ms n) (hp : PreV s H C b Pc As)
    (hg : g.method = m) (hn : As.length = n) (hsize : g.locals.size = nL) (hstack : g.stack = As.reverse ++ .ref b :: rest) (hW : 2 * g.monitorRoom + (rest.map fun v => v.category).sum ≤ 8) (hdg : decode cc g.pc = .ok (.invokevirtual index, 3)) (hf : cells + mc ≤ R.cells ∧ slots + ms ≤ R.slots) :
    vx_Run p l e R s m args below meth c H locs cells slots mc ms g rest (Qc (Value.ref b :: As).toArray) XC free := by
  obtain ⟨⟨hrc, hrs, hfr, hlo, hws, hcw⟩, hcode, hini, hy, hlen, hl, hin, hse⟩ := cw
  have hK : vx_Back l R p e below s args y 3 8 (PreOf R mc ms Pc) (PostOf Qc mc ms free) (vx_Post XC mc ms free) := vx_backW (hh := hh) (bytes := bytes) (maxL := maxL) (ret := ret) hM hp.1 hrc hrs hfr hlo hws hcw (fun a' U hW => word_at hW (Or.inl (by first | rfl | simp [Cond.onTables, Cond.keeps, Cond.steady])) hini)
  obtain ⟨hx, hb, hml, ho, -⟩ := S
  obtain ⟨-, ⟨cellB, hcB, hoB, hclB⟩, hPc⟩ := hp
  intro T hT X
  rcases vx_callVX X hx (C := C) (hh := hh) (bytes := bytes) (maxL := maxL) (ret := ret) ho hl hin hse hcode hy hK (by rw [hT]; exact hcB) hoB hclB hg (hsize.trans hml.symm) (argsL := As) (rest := rest) (fun sig h => hn.trans (hlen sig h)) hstack hW (by rw [hb]; exact hdg)
    (fun vm₁ hW₁ => ⟨hf.1, hf.2, hPc (T.setVm vm₁) hT hW₁⟩) with ⟨v, vm₁, ⟨U', l2, c2, s2⟩, hW₁, X', ⟨g', mk, t, L, e1, e2, hq, h1, hL, h2, h3⟩, st⟩ | ⟨q, vm₁, ⟨U', l2, c2, s2⟩, hW₁, X', ⟨g', mk, t, L, E, ce, e1, e2, hq, hce, hcv, hcl, h1, hL, h2, h3⟩, st⟩
  · dsimp only [Pt.U, Pt.locs, Pt.cells, Pt.slots] at X' e1 e2 h1 h2 h3 st
    subst h1; subst h2; subst h3
    exact Or.inl ⟨v, (T.setVm vm₁).calling g' mk (Value.ref b :: As).toArray, t, U', L, hT, X', hL, e1, e2, hq, st⟩
  · dsimp only [Pt.U, Pt.locs, Pt.cells, Pt.slots] at X' e1 e2 h1 h2 h3 st hcl
    subst h1; subst h2; subst h3
    exact Or.inr ⟨q, (T.setVm vm₁).calling g' mk (Value.ref b :: As).toArray, t, U', L, E, ce, hT, X', hL, e1, e2, hq, hce, hcv, vx_cls hW₁ hcl, st⟩
theorem vx_runSX {hh : List (Nat × Nat × Nat × Nat)} (S : CallFix p m c cc nL s args Ts own) (hM : vx_Met l y ws rm Pc Qc XC mc ms free) (cw : vx_CSW R s args own index y bytes maxL ret hh ws rm mc ms n) (hp : PreS s H Pc As)
    (hg : g.method = m) (hn : As.length = n) (hsize : g.locals.size = nL) (hstack : g.stack = As.reverse ++ rest) (hW : 2 * g.monitorRoom + (rest.map fun v => v.category).sum ≤ 8) (hdg : decode cc g.pc = .ok (.invokestatic index, 3)) (hf : cells + mc ≤ R.cells ∧ slots + ms ≤ R.slots) :
    vx_Run p l e R s m args below meth c H locs cells slots mc ms g rest (Qc As.toArray) XC free := by
  obtain ⟨⟨hrc, hrs, hfr, hlo, hws, hcw⟩, hcode, hini, hy, hlen, hl, hstt⟩ := cw
  have hK : vx_Back l R p e below s args y 3 8 (PreOf R mc ms Pc) (PostOf Qc mc ms free) (vx_Post XC mc ms free) := vx_backW (hh := hh) (bytes := bytes) (maxL := maxL) (ret := ret) hM hp.1 hrc hrs hfr hlo hws hcw (fun a' U hW => word_at hW (Or.inl (by first | rfl | simp [Cond.onTables, Cond.keeps, Cond.steady])) hini)
  obtain ⟨hx, hb, hml, ho, -⟩ := S
  intro T hT X
  rcases vx_callSX X hx (hh := hh) (bytes := bytes) (maxL := maxL) (ret := ret) ho hl hstt hini hcode hy hK hg (hsize.trans hml.symm) (argsL := As) (rest := rest) (fun sig h => hn.trans (hlen sig h)) hstack hW (by rw [hb]; exact hdg)
    (fun vm₁ hW₁ => ⟨hf.1, hf.2, hp.2 (T.setVm vm₁) hT hW₁⟩) with ⟨v, vm₁, ⟨U', l2, c2, s2⟩, hW₁, X', ⟨g', mk, t, L, e1, e2, hq, h1, hL, h2, h3⟩, st⟩ | ⟨q, vm₁, ⟨U', l2, c2, s2⟩, hW₁, X', ⟨g', mk, t, L, E, ce, e1, e2, hq, hce, hcv, hcl, h1, hL, h2, h3⟩, st⟩
  · dsimp only [Pt.U, Pt.locs, Pt.cells, Pt.slots] at X' e1 e2 h1 h2 h3 st
    subst h1; subst h2; subst h3
    exact Or.inl ⟨v, (T.setVm vm₁).calling g' mk As.toArray, t, U', L, hT, X', hL, e1, e2, hq, st⟩
  · dsimp only [Pt.U, Pt.locs, Pt.cells, Pt.slots] at X' e1 e2 h1 h2 h3 st hcl
    subst h1; subst h2; subst h3
    exact Or.inr ⟨q, (T.setVm vm₁).calling g' mk As.toArray, t, U', L, E, ce, hT, X', hL, e1, e2, hq, hce, hcv, vx_cls hW₁ hcl, st⟩
end
end VXH
theorem vx_ofWH {l : Launch} {y : MethodName} {ws ws' : List Cond} {rm : Room} {Pc : Array Value → State → Prop} {Qc : Array Value → State → Outcome → State → Prop} {XC : String → State → State → Prop} {mc ms : Nat} {free : Addr → Prop} {cc : ByteArray} {maxL : Nat} {ret : Option FieldType} {hh : List (Nat × Nat × Nat × Nat)}
    (hy : plainName y.cls = true) (hw : ws = Cond.codeWith y cc maxL ret hh :: ws')
    (body : ∀ p e s m args below meth c s₁, BodyLoose p l y (headSpec ws rm) cc maxL ret e s m args below meth c s₁ → c.maxLocals = maxL → Pc args s →
      W p l e (headSpec ws rm).room s m args below meth c s.heap [] 0 0 (vx_MQ below Qc XC args s mc ms free) (entryFrame m args maxL)) : vx_Met l y ws rm Pc Qc XC mc ms free := by
  refine MetFree.of_bodyS (code := cc) (maxLocals := maxL) (ret := ret) hy ?_ ?_
  · intro args s m h hn
    obtain ⟨m9, meth, c, hn9, h1, h2, h3, h4, -, h5, h6, -⟩ := Cond.codeWith_spec (atoms_spec (ws := ws) h _ (by rw [hw]; exact List.mem_cons_self))
    cases hn.symm.trans hn9
    exact ⟨meth, c, h1, h2, h3, h4, h5, h6⟩
  · intro p e s m args below meth c s₁ B hml hP _
    have hh0 : s₁.heap = s.heap := by rw [B.state]; rfl
    obtain ⟨t, a1, o, b1, b2, b3⟩ := body p e s m args below meth c s₁ B hml hP s₁ hh0 (Stand.of_body B)
    exact ⟨t, o, a1, b1, b2, b3⟩
/-! ===== END ===== -/
end
section
def RX0 : String := "TowerBench"
def TX0 : u_T := fun k => match k with
  | 0 => ("TowerBench", "pegCount", "I", false)
  | 1 => ("TowerBench", "diskCount", "I", false)
  | 2 => ("TowerBench", "ruleOn", "Z", false)
  | 3 => ("TowerBench", "weight", "[I", true)
  | 4 => ("TowerBench", "colour", "[I", true)
  | 5 => ("TowerBench", "allowed", "[Z", true)
  | 6 => ("TowerBench", "now", "I", false)
  | 7 => ("TowerBench", "target", "I", false)
  | 8 => ("TowerBench", "trail", "[I", true)
  | 9 => ("TowerBench", "moveCount", "I", false)
  | 10 => ("TowerBench", "tops", "[I", true)
  | 11 => ("TowerBench", "far", "[I", true)
  | 12 => ("TowerBench", "measured", "Z", false)
  | 13 => ("TowerBench", "seen", "[I", true)
  | 14 => ("TowerBench", "queue", "[I", true)
  | _ => ("TowerBench", "splitNumbers", "[I", true)
def tyX0 : Nat → FieldType := fun k => match k with
  | 0 => .int
  | 1 => .int
  | 2 => .boolean
  | 3 => .array .int
  | 4 => .array .int
  | 5 => .array .boolean
  | 6 => .int
  | 7 => .int
  | 8 => .array .int
  | 9 => .int
  | 10 => .array .int
  | 11 => .array .int
  | 12 => .boolean
  | 13 => .array .int
  | 14 => .array .int
  | _ => .array .int
abbrev wsX00 : List Cond := u_ws RX0 TX0 16
theorem nmX0 : ∀ a, a < 16 → ∀ b, b < 16 → a ≠ b → (TX0 a).2.1 ≠ (TX0 b).2.1 := by decide +kernel
theorem tyX0_ok : ∀ k, k < 16 → parseFieldDescriptor (TX0 k).2.2.1 = some (tyX0 k) := by decide +kernel
abbrev cX0_init : ByteArray := prog_1_method_1_code
def yX0_init : MethodName := ⟨RX0, "<init>", "()V"⟩
abbrev cX0_begin : ByteArray := prog_1_method_2_code
def yX0_begin : MethodName := ⟨RX0, "begin", "(II)I"⟩
abbrev cX0_put : ByteArray := prog_1_method_3_code
def yX0_put : MethodName := ⟨RX0, "put", "(II)I"⟩
abbrev cX0_aim : ByteArray := prog_1_method_4_code
def yX0_aim : MethodName := ⟨RX0, "aim", "(II)I"⟩
abbrev cX0_allow : ByteArray := prog_1_method_5_code
def yX0_allow : MethodName := ⟨RX0, "allow", "(IIZ)Z"⟩
abbrev cX0_setColour : ByteArray := prog_1_method_6_code
def yX0_setColour : MethodName := ⟨RX0, "setColour", "(II)I"⟩
abbrev cX0_setRule : ByteArray := prog_1_method_7_code
def yX0_setRule : MethodName := ⟨RX0, "setRule", "(Z)Z"⟩
abbrev cX0_move : ByteArray := prog_1_method_8_code
def yX0_move : MethodName := ⟨RX0, "move", "(II)I"⟩
abbrev cX0_takeBack : ByteArray := prog_1_method_9_code
def yX0_takeBack : MethodName := ⟨RX0, "takeBack", "()I"⟩
abbrev cX0_layStart : ByteArray := prog_1_method_10_code
def yX0_layStart : MethodName := ⟨RX0, "layStart", "()I"⟩
abbrev cX0_pegs : ByteArray := prog_1_method_11_code
def yX0_pegs : MethodName := ⟨RX0, "pegs", "()I"⟩
abbrev cX0_disks : ByteArray := prog_1_method_12_code
def yX0_disks : MethodName := ⟨RX0, "disks", "()I"⟩
abbrev cX0_moves : ByteArray := prog_1_method_13_code
def yX0_moves : MethodName := ⟨RX0, "moves", "()I"⟩
abbrev cX0_pegOf : ByteArray := prog_1_method_14_code
def yX0_pegOf : MethodName := ⟨RX0, "pegOf", "(I)I"⟩
abbrev cX0_top : ByteArray := prog_1_method_15_code
def yX0_top : MethodName := ⟨RX0, "top", "(I)I"⟩
abbrev cX0_arrangement : ByteArray := prog_1_method_16_code
def yX0_arrangement : MethodName := ⟨RX0, "arrangement", "()I"⟩
abbrev cX0_goal : ByteArray := prog_1_method_17_code
def yX0_goal : MethodName := ⟨RX0, "goal", "()I"⟩
abbrev cX0_isLawful : ByteArray := prog_1_method_18_code
def yX0_isLawful : MethodName := ⟨RX0, "isLawful", "()Z"⟩
abbrev cX0_canMove : ByteArray := prog_1_method_19_code
def yX0_canMove : MethodName := ⟨RX0, "canMove", "(II)Z"⟩
abbrev cX0_way : ByteArray := prog_1_method_20_code
def yX0_way : MethodName := ⟨RX0, "way", "()I"⟩
abbrev cX0_wayByDisks : ByteArray := prog_1_method_21_code
def yX0_wayByDisks : MethodName := ⟨RX0, "wayByDisks", "()I"⟩
abbrev cX0_lost : ByteArray := prog_1_method_22_code
def yX0_lost : MethodName := ⟨RX0, "lost", "()I"⟩
abbrev cX0_next : ByteArray := prog_1_method_23_code
def yX0_next : MethodName := ⟨RX0, "next", "()I"⟩
abbrev cX0_reachable : ByteArray := prog_1_method_24_code
def yX0_reachable : MethodName := ⟨RX0, "reachable", "()I"⟩
abbrev cX0_splits : ByteArray := prog_1_method_25_code
def yX0_splits : MethodName := ⟨RX0, "splits", "(II)I"⟩
abbrev cX0_lay : ByteArray := prog_1_method_26_code
def yX0_lay : MethodName := ⟨RX0, "lay", "(II)V"⟩
abbrev cX0_isPeg : ByteArray := prog_1_method_27_code
def yX0_isPeg : MethodName := ⟨RX0, "isPeg", "(I)Z"⟩
abbrev cX0_isDisk : ByteArray := prog_1_method_28_code
def yX0_isDisk : MethodName := ⟨RX0, "isDisk", "(I)Z"⟩
abbrev cX0_isNumber : ByteArray := prog_1_method_29_code
def yX0_isNumber : MethodName := ⟨RX0, "isNumber", "(I)Z"⟩
abbrev cX0_pairOf : ByteArray := prog_1_method_30_code
def yX0_pairOf : MethodName := ⟨RX0, "pairOf", "(II)I"⟩
abbrev cX0_isAnyBarred : ByteArray := prog_1_method_31_code
def yX0_isAnyBarred : MethodName := ⟨RX0, "isAnyBarred", "()Z"⟩
abbrev cX0_pegIn : ByteArray := prog_1_method_32_code
def yX0_pegIn : MethodName := ⟨RX0, "pegIn", "(II)I"⟩
abbrev cX0_diskBelow : ByteArray := prog_1_method_33_code
def yX0_diskBelow : MethodName := ⟨RX0, "diskBelow", "(II)I"⟩
abbrev cX0_mayLieOn : ByteArray := prog_1_method_34_code
def yX0_mayLieOn : MethodName := ⟨RX0, "mayLieOn", "(II)Z"⟩
abbrev cX0_keepsRule : ByteArray := prog_1_method_35_code
def yX0_keepsRule : MethodName := ⟨RX0, "keepsRule", "(I)Z"⟩
abbrev cX0_readTops : ByteArray := prog_1_method_36_code
def yX0_readTops : MethodName := ⟨RX0, "readTops", "(I)V"⟩
abbrev cX0_fits : ByteArray := prog_1_method_37_code
def yX0_fits : MethodName := ⟨RX0, "fits", "(II)Z"⟩
abbrev cX0_behindMove : ByteArray := prog_1_method_38_code
def yX0_behindMove : MethodName := ⟨RX0, "behindMove", "(III)I"⟩
abbrev cX0_isPossible : ByteArray := prog_1_method_39_code
def yX0_isPossible : MethodName := ⟨RX0, "isPossible", "(II)Z"⟩
abbrev cX0_isStep : ByteArray := prog_1_method_40_code
def yX0_isStep : MethodName := ⟨RX0, "isStep", "(IIZ)Z"⟩
abbrev cX0_wayFrom : ByteArray := prog_1_method_41_code
def yX0_wayFrom : MethodName := ⟨RX0, "wayFrom", "(I)I"⟩
abbrev cX0_search : ByteArray := prog_1_method_42_code
def yX0_search : MethodName := ⟨RX0, "search", "(I[IZ)I"⟩
abbrev cX0_searchFrom : ByteArray := prog_1_method_43_code
def yX0_searchFrom : MethodName := ⟨RX0, "searchFrom", "(I[IZI)I"⟩
abbrev cX0_thirdPeg : ByteArray := prog_1_method_44_code
def yX0_thirdPeg : MethodName := ⟨RX0, "thirdPeg", "(II)I"⟩
abbrev cX0_gather : ByteArray := prog_1_method_45_code
def yX0_gather : MethodName := ⟨RX0, "gather", "(III)I"⟩
abbrev cX0_splitIndex : ByteArray := prog_1_method_46_code
def yX0_splitIndex : MethodName := ⟨RX0, "splitIndex", "(II)I"⟩
abbrev cX0_splitTable : ByteArray := prog_1_method_47_code
def yX0_splitTable : MethodName := ⟨RX0, "splitTable", "()[I"⟩
abbrev cX0_splitNumber : ByteArray := prog_1_method_48_code
def yX0_splitNumber : MethodName := ⟨RX0, "splitNumber", "([III)I"⟩
def RX1 : String := "TowerBenchModel"
def TX1 : u_T := fun k => match k with
  | 0 => ("TowerBenchModel", "thrown", "I", false)
  | 1 => ("TowerBenchModel", "pegs", "I", false)
  | 2 => ("TowerBenchModel", "disks", "I", false)
  | 3 => ("TowerBenchModel", "now", "[I", true)
  | 4 => ("TowerBenchModel", "goal", "[I", true)
  | 5 => ("TowerBenchModel", "colours", "[I", true)
  | 6 => ("TowerBenchModel", "rule", "Z", false)
  | 7 => ("TowerBenchModel", "isBarred", "[Z", true)
  | 8 => ("TowerBenchModel", "froms", "[I", true)
  | 9 => ("TowerBenchModel", "tos", "[I", true)
  | 10 => ("TowerBenchModel", "moves", "I", false)
  | 11 => ("TowerBenchModel", "start", "I", false)
  | 12 => ("TowerBenchModel", "look", "[I", true)
  | 13 => ("TowerBenchModel", "far", "[I", true)
  | 14 => ("TowerBenchModel", "queue", "[I", true)
  | 15 => ("TowerBenchModel", "queued", "I", false)
  | _ => ("TowerBenchModel", "numbers", "[I", true)
def tyX1 : Nat → FieldType := fun k => match k with
  | 0 => .int
  | 1 => .int
  | 2 => .int
  | 3 => .array .int
  | 4 => .array .int
  | 5 => .array .int
  | 6 => .boolean
  | 7 => .array .boolean
  | 8 => .array .int
  | 9 => .array .int
  | 10 => .int
  | 11 => .int
  | 12 => .array .int
  | 13 => .array .int
  | 14 => .array .int
  | 15 => .int
  | _ => .array .int
abbrev wsX10 : List Cond := u_ws RX1 TX1 17
theorem nmX1 : ∀ a, a < 17 → ∀ b, b < 17 → a ≠ b → (TX1 a).2.1 ≠ (TX1 b).2.1 := by decide +kernel
theorem tyX1_ok : ∀ k, k < 17 → parseFieldDescriptor (TX1 k).2.2.1 = some (tyX1 k) := by decide +kernel
abbrev cX1_init : ByteArray := prog_3_method_1_code
def yX1_init : MethodName := ⟨RX1, "<init>", "()V"⟩
abbrev cX1_thrown : ByteArray := prog_3_method_2_code
def yX1_thrown : MethodName := ⟨RX1, "thrown", "()I"⟩
abbrev cX1_goesWell : ByteArray := prog_3_method_3_code
def yX1_goesWell : MethodName := ⟨RX1, "goesWell", "(I)Z"⟩
abbrev cX1_in : ByteArray := prog_3_method_4_code
def yX1_in : MethodName := ⟨RX1, "in", "(III)Z"⟩
abbrev cX1_isDisk : ByteArray := prog_3_method_5_code
def yX1_isDisk : MethodName := ⟨RX1, "isDisk", "(I)Z"⟩
abbrev cX1_isPeg : ByteArray := prog_3_method_6_code
def yX1_isPeg : MethodName := ⟨RX1, "isPeg", "(I)Z"⟩
abbrev cX1_all : ByteArray := prog_3_method_7_code
def yX1_all : MethodName := ⟨RX1, "all", "()I"⟩
abbrev cX1_lay : ByteArray := prog_3_method_8_code
def yX1_lay : MethodName := ⟨RX1, "lay", "(II)V"⟩
abbrev cX1_begin : ByteArray := prog_3_method_9_code
def yX1_begin : MethodName := ⟨RX1, "begin", "(II)I"⟩
abbrev cX1_put : ByteArray := prog_3_method_10_code
def yX1_put : MethodName := ⟨RX1, "put", "(II)I"⟩
abbrev cX1_aim : ByteArray := prog_3_method_11_code
def yX1_aim : MethodName := ⟨RX1, "aim", "(II)I"⟩
abbrev cX1_allow : ByteArray := prog_3_method_12_code
def yX1_allow : MethodName := ⟨RX1, "allow", "(IIZ)Z"⟩
abbrev cX1_setColour : ByteArray := prog_3_method_13_code
def yX1_setColour : MethodName := ⟨RX1, "setColour", "(II)I"⟩
abbrev cX1_setRule : ByteArray := prog_3_method_14_code
def yX1_setRule : MethodName := ⟨RX1, "setRule", "(Z)Z"⟩
abbrev cX1_numberOfNow : ByteArray := prog_3_method_15_code
def yX1_numberOfNow : MethodName := ⟨RX1, "numberOfNow", "()I"⟩
abbrev cX1_numberOfGoal : ByteArray := prog_3_method_16_code
def yX1_numberOfGoal : MethodName := ⟨RX1, "numberOfGoal", "()I"⟩
abbrev cX1_open : ByteArray := prog_3_method_17_code
def yX1_open : MethodName := ⟨RX1, "open", "(I)V"⟩
abbrev cX1_topOf : ByteArray := prog_3_method_18_code
def yX1_topOf : MethodName := ⟨RX1, "topOf", "(I)I"⟩
abbrev cX1_isFine : ByteArray := prog_3_method_19_code
def yX1_isFine : MethodName := ⟨RX1, "isFine", "()Z"⟩
abbrev cX1_isLawfulNumber : ByteArray := prog_3_method_20_code
def yX1_isLawfulNumber : MethodName := ⟨RX1, "isLawfulNumber", "(I)Z"⟩
abbrev cX1_behind : ByteArray := prog_3_method_21_code
def yX1_behind : MethodName := ⟨RX1, "behind", "(III)I"⟩
abbrev cX1_move : ByteArray := prog_3_method_22_code
def yX1_move : MethodName := ⟨RX1, "move", "(II)I"⟩
abbrev cX1_takeBack : ByteArray := prog_3_method_23_code
def yX1_takeBack : MethodName := ⟨RX1, "takeBack", "()I"⟩
abbrev cX1_layStart : ByteArray := prog_3_method_24_code
def yX1_layStart : MethodName := ⟨RX1, "layStart", "()I"⟩
abbrev cX1_pegs : ByteArray := prog_3_method_25_code
def yX1_pegs : MethodName := ⟨RX1, "pegs", "()I"⟩
abbrev cX1_disks : ByteArray := prog_3_method_26_code
def yX1_disks : MethodName := ⟨RX1, "disks", "()I"⟩
abbrev cX1_moves : ByteArray := prog_3_method_27_code
def yX1_moves : MethodName := ⟨RX1, "moves", "()I"⟩
abbrev cX1_pegOf : ByteArray := prog_3_method_28_code
def yX1_pegOf : MethodName := ⟨RX1, "pegOf", "(I)I"⟩
abbrev cX1_top : ByteArray := prog_3_method_29_code
def yX1_top : MethodName := ⟨RX1, "top", "(I)I"⟩
abbrev cX1_arrangement : ByteArray := prog_3_method_30_code
def yX1_arrangement : MethodName := ⟨RX1, "arrangement", "()I"⟩
abbrev cX1_goal : ByteArray := prog_3_method_31_code
def yX1_goal : MethodName := ⟨RX1, "goal", "()I"⟩
abbrev cX1_isLawful : ByteArray := prog_3_method_32_code
def yX1_isLawful : MethodName := ⟨RX1, "isLawful", "()Z"⟩
abbrev cX1_canMove : ByteArray := prog_3_method_33_code
def yX1_canMove : MethodName := ⟨RX1, "canMove", "(II)Z"⟩
abbrev cX1_search : ByteArray := prog_3_method_34_code
def yX1_search : MethodName := ⟨RX1, "search", "(I)V"⟩
abbrev cX1_wayFrom : ByteArray := prog_3_method_35_code
def yX1_wayFrom : MethodName := ⟨RX1, "wayFrom", "(I)I"⟩
abbrev cX1_way : ByteArray := prog_3_method_36_code
def yX1_way : MethodName := ⟨RX1, "way", "()I"⟩
abbrev cX1_gather : ByteArray := prog_3_method_37_code
def yX1_gather : MethodName := ⟨RX1, "gather", "(ZII)I"⟩
abbrev cX1_wayByDisks : ByteArray := prog_3_method_38_code
def yX1_wayByDisks : MethodName := ⟨RX1, "wayByDisks", "()I"⟩
abbrev cX1_lost : ByteArray := prog_3_method_39_code
def yX1_lost : MethodName := ⟨RX1, "lost", "()I"⟩
abbrev cX1_next : ByteArray := prog_3_method_40_code
def yX1_next : MethodName := ⟨RX1, "next", "()I"⟩
abbrev cX1_reachable : ByteArray := prog_3_method_41_code
def yX1_reachable : MethodName := ⟨RX1, "reachable", "()I"⟩
abbrev cX1_splits : ByteArray := prog_3_method_42_code
def yX1_splits : MethodName := ⟨RX1, "splits", "(II)I"⟩
def RJ9 : String := "java/lang/Math"
def TJ9 : u_T := fun k => match k with
  | _ => ("", "", "", false)
def tyJ9 : Nat → FieldType := fun k => match k with
  | _ => .int
abbrev wsJ90 : List Cond := u_ws RJ9 TJ9 0
theorem nmJ9 : ∀ a, a < 0 → ∀ b, b < 0 → a ≠ b → (TJ9 a).2.1 ≠ (TJ9 b).2.1 := by decide +kernel
theorem tyJ9_ok : ∀ k, k < 0 → parseFieldDescriptor (TJ9 k).2.2.1 = some (tyJ9 k) := by decide +kernel
abbrev cJ9_min_7cf53 : ByteArray := prog_8_method_69_code
def yJ9_min_7cf53 : MethodName := ⟨RJ9, "min", "(II)I"⟩
def RJ0 : String := "java/lang/String"
def TJ0 : u_T := fun k => match k with
  | _ => ("", "", "", false)
def tyJ0 : Nat → FieldType := fun k => match k with
  | _ => .int
abbrev wsJ00 : List Cond := u_ws RJ0 TJ0 0
theorem nmJ0 : ∀ a, a < 0 → ∀ b, b < 0 → a ≠ b → (TJ0 a).2.1 ≠ (TJ0 b).2.1 := by decide +kernel
theorem tyJ0_ok : ∀ k, k < 0 → parseFieldDescriptor (TJ0 k).2.2.1 = some (tyJ0 k) := by decide +kernel
def RL : String := "TowerBenchLaw"
abbrev cL_begin : ByteArray := method_3_code
def yL_begin : MethodName := ⟨RL, "begin", "(LTowerBench;II[J)I"⟩
abbrev cL_put : ByteArray := method_4_code
def yL_put : MethodName := ⟨RL, "put", "(LTowerBench;II[J)I"⟩
abbrev cL_aim : ByteArray := method_5_code
def yL_aim : MethodName := ⟨RL, "aim", "(LTowerBench;II[J)I"⟩
abbrev cL_allow : ByteArray := method_6_code
def yL_allow : MethodName := ⟨RL, "allow", "(LTowerBench;IIZ[J)I"⟩
abbrev cL_setColour : ByteArray := method_7_code
def yL_setColour : MethodName := ⟨RL, "setColour", "(LTowerBench;II[J)I"⟩
abbrev cL_move : ByteArray := method_8_code
def yL_move : MethodName := ⟨RL, "move", "(LTowerBench;II[J)I"⟩
abbrev cL_takeBack : ByteArray := method_9_code
def yL_takeBack : MethodName := ⟨RL, "takeBack", "(LTowerBench;[J)I"⟩
abbrev cL_pegOf : ByteArray := method_10_code
def yL_pegOf : MethodName := ⟨RL, "pegOf", "(LTowerBench;I[J)I"⟩
abbrev cL_top : ByteArray := method_11_code
def yL_top : MethodName := ⟨RL, "top", "(LTowerBench;I[J)I"⟩
abbrev cL_canMove : ByteArray := method_12_code
def yL_canMove : MethodName := ⟨RL, "canMove", "(LTowerBench;II[J)I"⟩
abbrev cL_wayByDisks : ByteArray := method_13_code
def yL_wayByDisks : MethodName := ⟨RL, "wayByDisks", "(LTowerBench;[J)I"⟩
abbrev cL_lost : ByteArray := method_14_code
def yL_lost : MethodName := ⟨RL, "lost", "(LTowerBench;[J)I"⟩
abbrev cL_splits : ByteArray := method_15_code
def yL_splits : MethodName := ⟨RL, "splits", "(LTowerBench;II[J)I"⟩
abbrev cL_law : ByteArray := code
def yL_law : MethodName := ⟨RL, "law", "([I)Z"⟩
abbrev vwCl : List vw_C := [(RX0, TX0, 16), (RX1, TX1, 17)]
-- the words that every method here is given: those of the tables that stay
def wG : List Cond := lw_tbl.filter goodWord
theorem wG_tbl : ∀ w ∈ wG, w ∈ lw_tbl := fun w h => (List.mem_filter.mp h).1
theorem wG_of {w : Cond} (k : Nat) (h : lw_tbl[k]? = some w) (g : goodWord w = true) : w ∈ wG := List.mem_filter.mpr ⟨List.mem_of_getElem? h, g⟩
theorem wG_good : GoodIn wG wG := fun w h => ⟨h, good_of_word (List.mem_filter.mp h).2⟩
theorem wG_sub {ws : List Cond} (h : ∀ w ∈ ws, w ∈ wG) : GoodIn wG ws := fun w q => wG_good w (h w q)
theorem wG_code {y : MethodName} {cc : ByteArray} {n : Nat} {r : Option FieldType} (h : Cond.code y cc n r ∈ wG) : ∀ w ∈ (Cond.code y cc n r :: wG), w ∈ wG := fun w q => by
  rcases List.mem_cons.mp q with rfl | q
  · exact h
  · exact q
theorem wG_V {own : String} {idx : Nat} {C : String} {y : MethodName} {cc : ByteArray} {n : Nat} {r : Option FieldType} (h1 : Cond.methodLink own idx y ∈ wG) (h2 : Cond.instanceMethod y ∈ wG) (h3 : Cond.selects C y y ∈ wG) (h4 : Cond.initialized C ∈ wG) (h5 : Cond.code y cc n r ∈ wG) : GoodIn wG (wsV own idx C y (Cond.code y cc n r :: wG)) := wG_sub (fun w q => by
  rcases List.mem_append.mp q with q | q
  · simp only [List.mem_cons, List.not_mem_nil, or_false] at q
    rcases q with rfl | rfl | rfl | rfl
    · exact h1
    · exact h2
    · exact h3
    · exact h4
  · exact wG_code h5 w q)
theorem wG_S {own : String} {idx : Nat} {y : MethodName} {cc : ByteArray} {n : Nat} {r : Option FieldType} (h1 : Cond.methodLink own idx y ∈ wG) (h2 : Cond.static y ∈ wG) (h4 : Cond.initialized own ∈ wG) (h5 : Cond.code y cc n r ∈ wG) : GoodIn wG (wsS own idx y (Cond.code y cc n r :: wG)) := wG_sub (fun w q => by
  rcases List.mem_append.mp q with q | q
  · simp only [List.mem_cons, List.not_mem_nil, or_false] at q
    rcases q with rfl | rfl | rfl
    · exact h1
    · exact h2
    · exact h4
  · exact wG_code h5 w q)
theorem wG_SW {own : String} {idx : Nat} {y : MethodName} {cc : ByteArray} {n : Nat} {r : Option FieldType} {hh : List (Nat × Nat × Nat × Nat)} (h1 : Cond.methodLink own idx y ∈ wG) (h2 : Cond.static y ∈ wG) (h4 : Cond.initialized y.cls ∈ wG) (h5 : Cond.codeWith y cc n r hh ∈ wG) : GoodIn wG (va_wsS own idx y (Cond.codeWith y cc n r hh :: wG)) := wG_sub (fun w q => by
  rcases List.mem_append.mp q with q | q
  · simp only [List.mem_cons, List.not_mem_nil, or_false] at q
    rcases q with rfl | rfl | rfl
    · exact h1
    · exact h2
    · exact h4
  · rcases List.mem_cons.mp q with rfl | q
    · exact h5
    · exact q)
theorem wG_head {y : MethodName} {cc : ByteArray} {n : Nat} {r : Option FieldType} {args : Array Value} {s : State} (h : ∀ w ∈ (Cond.code y cc n r :: wG), w.before args s = true) : ∀ w ∈ wG, w.before args s = true := fun w q => h w (List.mem_cons_of_mem _ q)
theorem wd_in_L : (.initialized RL : Cond) ∈ wG := wG_of 34 (by decide +kernel) (by decide +kernel)
theorem wd_in_0 : (.initialized RX0 : Cond) ∈ wG := wG_of 35 (by decide +kernel) (by decide +kernel)
theorem wd_in_J9 : (.initialized RJ9 : Cond) ∈ wG := wG_of 36 (by decide +kernel) (by decide +kernel)
theorem wd_in_1 : (.initialized RX1 : Cond) ∈ wG := wG_of 37 (by decide +kernel) (by decide +kernel)
theorem wd_in_java_lang_Throwable : (.initialized "java/lang/Throwable" : Cond) ∈ wG := wG_of 38 (by decide +kernel) (by decide +kernel)
theorem wd_in_java_lang_Exception : (.initialized "java/lang/Exception" : Cond) ∈ wG := wG_of 39 (by decide +kernel) (by decide +kernel)
theorem wd_in_java_lang_RuntimeException : (.initialized "java/lang/RuntimeException" : Cond) ∈ wG := wG_of 40 (by decide +kernel) (by decide +kernel)
theorem wd_in_java_lang_IllegalArgumentException : (.initialized "java/lang/IllegalArgumentException" : Cond) ∈ wG := wG_of 41 (by decide +kernel) (by decide +kernel)
theorem wd_in_java_lang_IndexOutOfBoundsException : (.initialized "java/lang/IndexOutOfBoundsException" : Cond) ∈ wG := wG_of 42 (by decide +kernel) (by decide +kernel)
theorem wd_in_java_lang_IllegalStateException : (.initialized "java/lang/IllegalStateException" : Cond) ∈ wG := wG_of 43 (by decide +kernel) (by decide +kernel)
theorem wd_clL_8 : (.classLink RL 8 "TowerBench" : Cond) ∈ wG := wG_of 44 (by decide +kernel) (by decide +kernel)
theorem wd_it_0 : (.instantiable RX0 16 : Cond) ∈ wG := wG_of 45 (by decide +kernel) (by decide +kernel)
theorem wd_mlL_59 : (.methodLink RL 59 yX0_init : Cond) ∈ wG := wG_of 46 (by decide +kernel) (by decide +kernel)
theorem wd_im_X0_init : (.instanceMethod yX0_init : Cond) ∈ wG := wG_of 47 (by decide +kernel) (by decide +kernel)
theorem wd_co_X0_init : (.code yX0_init cX0_init 1 (Option.none : Option FieldType) : Cond) ∈ wG := wG_of 48 (by decide +kernel) (by decide +kernel)
theorem wd_mo0_1 : (.methodLink RX0 1 objectInit : Cond) ∈ wG := wG_of 49 (by decide +kernel) (by decide +kernel)
theorem wd_im_oi : (.instanceMethod objectInit : Cond) ∈ wG := wG_of 50 (by decide +kernel) (by decide +kernel)
theorem wd_co_oi : (.code objectInit ⟨#[0xb1]⟩ 1 none : Cond) ∈ wG := wG_of 51 (by decide +kernel) (by decide +kernel)
theorem wd_ml0_35 : (.methodLink RX0 35 yX0_splitTable : Cond) ∈ wG := wG_of 52 (by decide +kernel) (by decide +kernel)
theorem wd_st_X0_splitTable : (.static yX0_splitTable : Cond) ∈ wG := wG_of 53 (by decide +kernel) (by decide +kernel)
theorem wd_co_X0_splitTable : (.code yX0_splitTable cX0_splitTable 3 (Option.some (FieldType.array FieldType.int)) : Cond) ∈ wG := wG_of 54 (by decide +kernel) (by decide +kernel)
theorem wd_ml0_156 : (.methodLink RX0 156 yX0_splitIndex : Cond) ∈ wG := wG_of 55 (by decide +kernel) (by decide +kernel)
theorem wd_st_X0_splitIndex : (.static yX0_splitIndex : Cond) ∈ wG := wG_of 56 (by decide +kernel) (by decide +kernel)
theorem wd_co_X0_splitIndex : (.code yX0_splitIndex cX0_splitIndex 2 (Option.some FieldType.int) : Cond) ∈ wG := wG_of 57 (by decide +kernel) (by decide +kernel)
theorem wd_ml0_179 : (.methodLink RX0 179 yX0_splitNumber : Cond) ∈ wG := wG_of 58 (by decide +kernel) (by decide +kernel)
theorem wd_st_X0_splitNumber : (.static yX0_splitNumber : Cond) ∈ wG := wG_of 59 (by decide +kernel) (by decide +kernel)
theorem wd_co_X0_splitNumber : (.code yX0_splitNumber cX0_splitNumber 6 (Option.some FieldType.int) : Cond) ∈ wG := wG_of 60 (by decide +kernel) (by decide +kernel)
theorem wd_k0_185 : (.constant RX0 185 (2147483647) : Cond) ∈ wG := wG_of 61 (by decide +kernel) (by decide +kernel)
theorem wd_ml0_143 : (.methodLink RX0 143 yJ9_min_7cf53 : Cond) ∈ wG := wG_of 62 (by decide +kernel) (by decide +kernel)
theorem wd_st_J9_min_7cf53 : (.static yJ9_min_7cf53 : Cond) ∈ wG := wG_of 63 (by decide +kernel) (by decide +kernel)
theorem wd_co_J9_min_7cf53 : (.code yJ9_min_7cf53 cJ9_min_7cf53 2 (Option.some FieldType.int) : Cond) ∈ wG := wG_of 64 (by decide +kernel) (by decide +kernel)
theorem wd_ml0_42 : (.methodLink RX0 42 yX0_lay : Cond) ∈ wG := wG_of 65 (by decide +kernel) (by decide +kernel)
theorem wd_im_X0_lay : (.instanceMethod yX0_lay : Cond) ∈ wG := wG_of 67 (by decide +kernel) (by decide +kernel)
theorem wd_co_X0_lay : (.code yX0_lay cX0_lay 5 (Option.none : Option FieldType) : Cond) ∈ wG := wG_of 68 (by decide +kernel) (by decide +kernel)
theorem wd_fl0_117 : (.fieldLink RX0 117 "TowerBench" "pegCount" "I" : Cond) ∈ wG := wG_of 69 (by decide +kernel) (by decide +kernel)
theorem wd_fl0_53 : (.fieldLink RX0 53 "TowerBench" "diskCount" "I" : Cond) ∈ wG := wG_of 70 (by decide +kernel) (by decide +kernel)
theorem wd_fl0_102 : (.fieldLink RX0 102 "TowerBench" "ruleOn" "Z" : Cond) ∈ wG := wG_of 71 (by decide +kernel) (by decide +kernel)
theorem wd_fl0_9 : (.fieldLink RX0 9 "TowerBench" "weight" "[I" : Cond) ∈ wG := wG_of 72 (by decide +kernel) (by decide +kernel)
theorem wd_fl0_13 : (.fieldLink RX0 13 "TowerBench" "colour" "[I" : Cond) ∈ wG := wG_of 73 (by decide +kernel) (by decide +kernel)
theorem wd_fl0_16 : (.fieldLink RX0 16 "TowerBench" "allowed" "[Z" : Cond) ∈ wG := wG_of 74 (by decide +kernel) (by decide +kernel)
theorem wd_fl0_77 : (.fieldLink RX0 77 "TowerBench" "now" "I" : Cond) ∈ wG := wG_of 75 (by decide +kernel) (by decide +kernel)
theorem wd_fl0_84 : (.fieldLink RX0 84 "TowerBench" "target" "I" : Cond) ∈ wG := wG_of 76 (by decide +kernel) (by decide +kernel)
theorem wd_fl0_20 : (.fieldLink RX0 20 "TowerBench" "trail" "[I" : Cond) ∈ wG := wG_of 77 (by decide +kernel) (by decide +kernel)
theorem wd_fl0_69 : (.fieldLink RX0 69 "TowerBench" "moveCount" "I" : Cond) ∈ wG := wG_of 78 (by decide +kernel) (by decide +kernel)
theorem wd_fl0_23 : (.fieldLink RX0 23 "TowerBench" "tops" "[I" : Cond) ∈ wG := wG_of 79 (by decide +kernel) (by decide +kernel)
theorem wd_fl0_26 : (.fieldLink RX0 26 "TowerBench" "far" "[I" : Cond) ∈ wG := wG_of 80 (by decide +kernel) (by decide +kernel)
theorem wd_fl0_87 : (.fieldLink RX0 87 "TowerBench" "measured" "Z" : Cond) ∈ wG := wG_of 81 (by decide +kernel) (by decide +kernel)
theorem wd_fl0_29 : (.fieldLink RX0 29 "TowerBench" "seen" "[I" : Cond) ∈ wG := wG_of 82 (by decide +kernel) (by decide +kernel)
theorem wd_fl0_32 : (.fieldLink RX0 32 "TowerBench" "queue" "[I" : Cond) ∈ wG := wG_of 83 (by decide +kernel) (by decide +kernel)
theorem wd_fl0_39 : (.fieldLink RX0 39 "TowerBench" "splitNumbers" "[I" : Cond) ∈ wG := wG_of 84 (by decide +kernel) (by decide +kernel)
theorem wd_la0_pegCount : (.lays RX0 "TowerBench" "pegCount" "I" : Cond) ∈ wG := wG_of 85 (by decide +kernel) (by decide +kernel)
theorem wd_la0_diskCount : (.lays RX0 "TowerBench" "diskCount" "I" : Cond) ∈ wG := wG_of 87 (by decide +kernel) (by decide +kernel)
theorem wd_la0_ruleOn : (.lays RX0 "TowerBench" "ruleOn" "Z" : Cond) ∈ wG := wG_of 89 (by decide +kernel) (by decide +kernel)
theorem wd_la0_weight : (.laysFinal RX0 "TowerBench" "weight" "[I" : Cond) ∈ wG := wG_of 91 (by decide +kernel) (by decide +kernel)
theorem wd_la0_colour : (.laysFinal RX0 "TowerBench" "colour" "[I" : Cond) ∈ wG := wG_of 93 (by decide +kernel) (by decide +kernel)
theorem wd_la0_allowed : (.laysFinal RX0 "TowerBench" "allowed" "[Z" : Cond) ∈ wG := wG_of 95 (by decide +kernel) (by decide +kernel)
theorem wd_la0_now : (.lays RX0 "TowerBench" "now" "I" : Cond) ∈ wG := wG_of 97 (by decide +kernel) (by decide +kernel)
theorem wd_la0_target : (.lays RX0 "TowerBench" "target" "I" : Cond) ∈ wG := wG_of 99 (by decide +kernel) (by decide +kernel)
theorem wd_la0_trail : (.laysFinal RX0 "TowerBench" "trail" "[I" : Cond) ∈ wG := wG_of 101 (by decide +kernel) (by decide +kernel)
theorem wd_la0_moveCount : (.lays RX0 "TowerBench" "moveCount" "I" : Cond) ∈ wG := wG_of 103 (by decide +kernel) (by decide +kernel)
theorem wd_la0_tops : (.laysFinal RX0 "TowerBench" "tops" "[I" : Cond) ∈ wG := wG_of 105 (by decide +kernel) (by decide +kernel)
theorem wd_la0_far : (.laysFinal RX0 "TowerBench" "far" "[I" : Cond) ∈ wG := wG_of 107 (by decide +kernel) (by decide +kernel)
theorem wd_la0_measured : (.lays RX0 "TowerBench" "measured" "Z" : Cond) ∈ wG := wG_of 109 (by decide +kernel) (by decide +kernel)
theorem wd_la0_seen : (.laysFinal RX0 "TowerBench" "seen" "[I" : Cond) ∈ wG := wG_of 111 (by decide +kernel) (by decide +kernel)
theorem wd_la0_queue : (.laysFinal RX0 "TowerBench" "queue" "[I" : Cond) ∈ wG := wG_of 113 (by decide +kernel) (by decide +kernel)
theorem wd_la0_splitNumbers : (.laysFinal RX0 "TowerBench" "splitNumbers" "[I" : Cond) ∈ wG := wG_of 115 (by decide +kernel) (by decide +kernel)
theorem wd_ac_int : (.arrayClass .int : Cond) ∈ wG := wG_of 118 (by decide +kernel) (by decide +kernel)
theorem wd_ac_boolean : (.arrayClass .boolean : Cond) ∈ wG := wG_of 119 (by decide +kernel) (by decide +kernel)
theorem wd_mlL_85 : (.methodLink RL 85 yX0_setRule : Cond) ∈ wG := wG_of 120 (by decide +kernel) (by decide +kernel)
theorem wd_im_X0_setRule : (.instanceMethod yX0_setRule : Cond) ∈ wG := wG_of 121 (by decide +kernel) (by decide +kernel)
theorem wd_se_X0_setRule : (.selects RX0 yX0_setRule yX0_setRule : Cond) ∈ wG := wG_of 122 (by decide +kernel) (by decide +kernel)
theorem wd_co_X0_setRule : (.code yX0_setRule cX0_setRule 3 (Option.some FieldType.boolean) : Cond) ∈ wG := wG_of 123 (by decide +kernel) (by decide +kernel)
theorem wd_mlL_97 : (.methodLink RL 97 yX0_layStart : Cond) ∈ wG := wG_of 124 (by decide +kernel) (by decide +kernel)
theorem wd_im_X0_layStart : (.instanceMethod yX0_layStart : Cond) ∈ wG := wG_of 125 (by decide +kernel) (by decide +kernel)
theorem wd_se_X0_layStart : (.selects RX0 yX0_layStart yX0_layStart : Cond) ∈ wG := wG_of 126 (by decide +kernel) (by decide +kernel)
theorem wd_co_X0_layStart : (.code yX0_layStart cX0_layStart 2 (Option.some FieldType.int) : Cond) ∈ wG := wG_of 127 (by decide +kernel) (by decide +kernel)
theorem wd_mlL_101 : (.methodLink RL 101 yX0_pegs : Cond) ∈ wG := wG_of 128 (by decide +kernel) (by decide +kernel)
theorem wd_im_X0_pegs : (.instanceMethod yX0_pegs : Cond) ∈ wG := wG_of 129 (by decide +kernel) (by decide +kernel)
theorem wd_se_X0_pegs : (.selects RX0 yX0_pegs yX0_pegs : Cond) ∈ wG := wG_of 130 (by decide +kernel) (by decide +kernel)
theorem wd_co_X0_pegs : (.code yX0_pegs cX0_pegs 1 (Option.some FieldType.int) : Cond) ∈ wG := wG_of 131 (by decide +kernel) (by decide +kernel)
theorem wd_mlL_105 : (.methodLink RL 105 yX0_disks : Cond) ∈ wG := wG_of 132 (by decide +kernel) (by decide +kernel)
theorem wd_im_X0_disks : (.instanceMethod yX0_disks : Cond) ∈ wG := wG_of 133 (by decide +kernel) (by decide +kernel)
theorem wd_se_X0_disks : (.selects RX0 yX0_disks yX0_disks : Cond) ∈ wG := wG_of 134 (by decide +kernel) (by decide +kernel)
theorem wd_co_X0_disks : (.code yX0_disks cX0_disks 1 (Option.some FieldType.int) : Cond) ∈ wG := wG_of 135 (by decide +kernel) (by decide +kernel)
theorem wd_mlL_109 : (.methodLink RL 109 yX0_moves : Cond) ∈ wG := wG_of 136 (by decide +kernel) (by decide +kernel)
theorem wd_im_X0_moves : (.instanceMethod yX0_moves : Cond) ∈ wG := wG_of 137 (by decide +kernel) (by decide +kernel)
theorem wd_se_X0_moves : (.selects RX0 yX0_moves yX0_moves : Cond) ∈ wG := wG_of 138 (by decide +kernel) (by decide +kernel)
theorem wd_co_X0_moves : (.code yX0_moves cX0_moves 1 (Option.some FieldType.int) : Cond) ∈ wG := wG_of 139 (by decide +kernel) (by decide +kernel)
theorem wd_mlL_120 : (.methodLink RL 120 yX0_arrangement : Cond) ∈ wG := wG_of 140 (by decide +kernel) (by decide +kernel)
theorem wd_im_X0_arrangement : (.instanceMethod yX0_arrangement : Cond) ∈ wG := wG_of 141 (by decide +kernel) (by decide +kernel)
theorem wd_se_X0_arrangement : (.selects RX0 yX0_arrangement yX0_arrangement : Cond) ∈ wG := wG_of 142 (by decide +kernel) (by decide +kernel)
theorem wd_co_X0_arrangement : (.code yX0_arrangement cX0_arrangement 1 (Option.some FieldType.int) : Cond) ∈ wG := wG_of 143 (by decide +kernel) (by decide +kernel)
theorem wd_mlL_124 : (.methodLink RL 124 yX0_goal : Cond) ∈ wG := wG_of 144 (by decide +kernel) (by decide +kernel)
theorem wd_im_X0_goal : (.instanceMethod yX0_goal : Cond) ∈ wG := wG_of 145 (by decide +kernel) (by decide +kernel)
theorem wd_se_X0_goal : (.selects RX0 yX0_goal yX0_goal : Cond) ∈ wG := wG_of 146 (by decide +kernel) (by decide +kernel)
theorem wd_co_X0_goal : (.code yX0_goal cX0_goal 1 (Option.some FieldType.int) : Cond) ∈ wG := wG_of 147 (by decide +kernel) (by decide +kernel)
theorem wd_mlL_128 : (.methodLink RL 128 yX0_isLawful : Cond) ∈ wG := wG_of 148 (by decide +kernel) (by decide +kernel)
theorem wd_im_X0_isLawful : (.instanceMethod yX0_isLawful : Cond) ∈ wG := wG_of 149 (by decide +kernel) (by decide +kernel)
theorem wd_se_X0_isLawful : (.selects RX0 yX0_isLawful yX0_isLawful : Cond) ∈ wG := wG_of 150 (by decide +kernel) (by decide +kernel)
theorem wd_co_X0_isLawful : (.code yX0_isLawful cX0_isLawful 1 (Option.some FieldType.boolean) : Cond) ∈ wG := wG_of 151 (by decide +kernel) (by decide +kernel)
theorem wd_ml0_124 : (.methodLink RX0 124 yX0_keepsRule : Cond) ∈ wG := wG_of 152 (by decide +kernel) (by decide +kernel)
theorem wd_im_X0_keepsRule : (.instanceMethod yX0_keepsRule : Cond) ∈ wG := wG_of 154 (by decide +kernel) (by decide +kernel)
theorem wd_co_X0_keepsRule : (.code yX0_keepsRule cX0_keepsRule 3 (Option.some FieldType.boolean) : Cond) ∈ wG := wG_of 155 (by decide +kernel) (by decide +kernel)
theorem wd_ml0_159 : (.methodLink RX0 159 yX0_diskBelow : Cond) ∈ wG := wG_of 156 (by decide +kernel) (by decide +kernel)
theorem wd_im_X0_diskBelow : (.instanceMethod yX0_diskBelow : Cond) ∈ wG := wG_of 158 (by decide +kernel) (by decide +kernel)
theorem wd_co_X0_diskBelow : (.code yX0_diskBelow cX0_diskBelow 5 (Option.some FieldType.int) : Cond) ∈ wG := wG_of 159 (by decide +kernel) (by decide +kernel)
theorem wd_ml0_80 : (.methodLink RX0 80 yX0_pegIn : Cond) ∈ wG := wG_of 160 (by decide +kernel) (by decide +kernel)
theorem wd_im_X0_pegIn : (.instanceMethod yX0_pegIn : Cond) ∈ wG := wG_of 162 (by decide +kernel) (by decide +kernel)
theorem wd_co_X0_pegIn : (.code yX0_pegIn cX0_pegIn 4 (Option.some FieldType.int) : Cond) ∈ wG := wG_of 163 (by decide +kernel) (by decide +kernel)
theorem wd_ml0_162 : (.methodLink RX0 162 yX0_mayLieOn : Cond) ∈ wG := wG_of 164 (by decide +kernel) (by decide +kernel)
theorem wd_im_X0_mayLieOn : (.instanceMethod yX0_mayLieOn : Cond) ∈ wG := wG_of 166 (by decide +kernel) (by decide +kernel)
theorem wd_co_X0_mayLieOn : (.code yX0_mayLieOn cX0_mayLieOn 3 (Option.some FieldType.boolean) : Cond) ∈ wG := wG_of 167 (by decide +kernel) (by decide +kernel)
theorem wd_mlL_136 : (.methodLink RL 136 yX0_way : Cond) ∈ wG := wG_of 168 (by decide +kernel) (by decide +kernel)
theorem wd_im_X0_way : (.instanceMethod yX0_way : Cond) ∈ wG := wG_of 169 (by decide +kernel) (by decide +kernel)
theorem wd_se_X0_way : (.selects RX0 yX0_way yX0_way : Cond) ∈ wG := wG_of 170 (by decide +kernel) (by decide +kernel)
theorem wd_co_X0_way : (.code yX0_way cX0_way 1 (Option.some FieldType.int) : Cond) ∈ wG := wG_of 171 (by decide +kernel) (by decide +kernel)
theorem wd_ml0_127 : (.methodLink RX0 127 yX0_wayFrom : Cond) ∈ wG := wG_of 172 (by decide +kernel) (by decide +kernel)
theorem wd_im_X0_wayFrom : (.instanceMethod yX0_wayFrom : Cond) ∈ wG := wG_of 174 (by decide +kernel) (by decide +kernel)
theorem wd_co_X0_wayFrom : (.code yX0_wayFrom cX0_wayFrom 2 (Option.some FieldType.int) : Cond) ∈ wG := wG_of 175 (by decide +kernel) (by decide +kernel)
theorem wd_ml0_150 : (.methodLink RX0 150 yX0_search : Cond) ∈ wG := wG_of 176 (by decide +kernel) (by decide +kernel)
theorem wd_im_X0_search : (.instanceMethod yX0_search : Cond) ∈ wG := wG_of 178 (by decide +kernel) (by decide +kernel)
theorem wd_co_X0_search : (.code yX0_search cX0_search 6 (Option.some FieldType.int) : Cond) ∈ wG := wG_of 179 (by decide +kernel) (by decide +kernel)
theorem wd_ml0_168 : (.methodLink RX0 168 yX0_isNumber : Cond) ∈ wG := wG_of 180 (by decide +kernel) (by decide +kernel)
theorem wd_im_X0_isNumber : (.instanceMethod yX0_isNumber : Cond) ∈ wG := wG_of 182 (by decide +kernel) (by decide +kernel)
theorem wd_co_X0_isNumber : (.code yX0_isNumber cX0_isNumber 2 (Option.some FieldType.boolean) : Cond) ∈ wG := wG_of 183 (by decide +kernel) (by decide +kernel)
theorem wd_ml0_171 : (.methodLink RX0 171 yX0_searchFrom : Cond) ∈ wG := wG_of 184 (by decide +kernel) (by decide +kernel)
theorem wd_im_X0_searchFrom : (.instanceMethod yX0_searchFrom : Cond) ∈ wG := wG_of 186 (by decide +kernel) (by decide +kernel)
theorem wd_co_X0_searchFrom : (.code yX0_searchFrom cX0_searchFrom 9 (Option.some FieldType.int) : Cond) ∈ wG := wG_of 187 (by decide +kernel) (by decide +kernel)
theorem wd_ml0_120 : (.methodLink RX0 120 yX0_readTops : Cond) ∈ wG := wG_of 188 (by decide +kernel) (by decide +kernel)
theorem wd_im_X0_readTops : (.instanceMethod yX0_readTops : Cond) ∈ wG := wG_of 190 (by decide +kernel) (by decide +kernel)
theorem wd_co_X0_readTops : (.code yX0_readTops cX0_readTops 4 (Option.none : Option FieldType) : Cond) ∈ wG := wG_of 191 (by decide +kernel) (by decide +kernel)
theorem wd_ml0_61 : (.methodLink RX0 61 yX0_isPeg : Cond) ∈ wG := wG_of 192 (by decide +kernel) (by decide +kernel)
theorem wd_im_X0_isPeg : (.instanceMethod yX0_isPeg : Cond) ∈ wG := wG_of 194 (by decide +kernel) (by decide +kernel)
theorem wd_co_X0_isPeg : (.code yX0_isPeg cX0_isPeg 2 (Option.some FieldType.boolean) : Cond) ∈ wG := wG_of 195 (by decide +kernel) (by decide +kernel)
theorem wd_ml0_175 : (.methodLink RX0 175 yX0_isStep : Cond) ∈ wG := wG_of 196 (by decide +kernel) (by decide +kernel)
theorem wd_im_X0_isStep : (.instanceMethod yX0_isStep : Cond) ∈ wG := wG_of 198 (by decide +kernel) (by decide +kernel)
theorem wd_co_X0_isStep : (.code yX0_isStep cX0_isStep 5 (Option.some FieldType.boolean) : Cond) ∈ wG := wG_of 199 (by decide +kernel) (by decide +kernel)
theorem wd_ml0_165 : (.methodLink RX0 165 yX0_fits : Cond) ∈ wG := wG_of 200 (by decide +kernel) (by decide +kernel)
theorem wd_im_X0_fits : (.instanceMethod yX0_fits : Cond) ∈ wG := wG_of 202 (by decide +kernel) (by decide +kernel)
theorem wd_co_X0_fits : (.code yX0_fits cX0_fits 5 (Option.some FieldType.boolean) : Cond) ∈ wG := wG_of 203 (by decide +kernel) (by decide +kernel)
theorem wd_ml0_95 : (.methodLink RX0 95 yX0_pairOf : Cond) ∈ wG := wG_of 204 (by decide +kernel) (by decide +kernel)
theorem wd_st_X0_pairOf : (.static yX0_pairOf : Cond) ∈ wG := wG_of 205 (by decide +kernel) (by decide +kernel)
theorem wd_co_X0_pairOf : (.code yX0_pairOf cX0_pairOf 2 (Option.some FieldType.int) : Cond) ∈ wG := wG_of 206 (by decide +kernel) (by decide +kernel)
theorem wd_ml0_111 : (.methodLink RX0 111 yX0_behindMove : Cond) ∈ wG := wG_of 207 (by decide +kernel) (by decide +kernel)
theorem wd_im_X0_behindMove : (.instanceMethod yX0_behindMove : Cond) ∈ wG := wG_of 209 (by decide +kernel) (by decide +kernel)
theorem wd_co_X0_behindMove : (.code yX0_behindMove cX0_behindMove 5 (Option.some FieldType.int) : Cond) ∈ wG := wG_of 210 (by decide +kernel) (by decide +kernel)
theorem wd_ml0_57 : (.methodLink RX0 57 yX0_isDisk : Cond) ∈ wG := wG_of 211 (by decide +kernel) (by decide +kernel)
theorem wd_im_X0_isDisk : (.instanceMethod yX0_isDisk : Cond) ∈ wG := wG_of 213 (by decide +kernel) (by decide +kernel)
theorem wd_co_X0_isDisk : (.code yX0_isDisk cX0_isDisk 2 (Option.some FieldType.boolean) : Cond) ∈ wG := wG_of 214 (by decide +kernel) (by decide +kernel)
theorem wd_mlL_146 : (.methodLink RL 146 yX0_next : Cond) ∈ wG := wG_of 215 (by decide +kernel) (by decide +kernel)
theorem wd_im_X0_next : (.instanceMethod yX0_next : Cond) ∈ wG := wG_of 216 (by decide +kernel) (by decide +kernel)
theorem wd_se_X0_next : (.selects RX0 yX0_next yX0_next : Cond) ∈ wG := wG_of 217 (by decide +kernel) (by decide +kernel)
theorem wd_co_X0_next : (.code yX0_next cX0_next 4 (Option.some FieldType.int) : Cond) ∈ wG := wG_of 218 (by decide +kernel) (by decide +kernel)
theorem wd_ml0_105 : (.methodLink RX0 105 yX0_isPossible : Cond) ∈ wG := wG_of 219 (by decide +kernel) (by decide +kernel)
theorem wd_im_X0_isPossible : (.instanceMethod yX0_isPossible : Cond) ∈ wG := wG_of 221 (by decide +kernel) (by decide +kernel)
theorem wd_co_X0_isPossible : (.code yX0_isPossible cX0_isPossible 3 (Option.some FieldType.boolean) : Cond) ∈ wG := wG_of 222 (by decide +kernel) (by decide +kernel)
theorem wd_mlL_150 : (.methodLink RL 150 yX0_reachable : Cond) ∈ wG := wG_of 223 (by decide +kernel) (by decide +kernel)
theorem wd_im_X0_reachable : (.instanceMethod yX0_reachable : Cond) ∈ wG := wG_of 224 (by decide +kernel) (by decide +kernel)
theorem wd_se_X0_reachable : (.selects RX0 yX0_reachable yX0_reachable : Cond) ∈ wG := wG_of 225 (by decide +kernel) (by decide +kernel)
theorem wd_co_X0_reachable : (.code yX0_reachable cX0_reachable 1 (Option.some FieldType.int) : Cond) ∈ wG := wG_of 226 (by decide +kernel) (by decide +kernel)
theorem wd_mlL_63 : (.methodLink RL 63 yL_begin : Cond) ∈ wG := wG_of 227 (by decide +kernel) (by decide +kernel)
theorem wd_st_L_begin : (.static yL_begin : Cond) ∈ wG := wG_of 228 (by decide +kernel) (by decide +kernel)
theorem wd_cw_L_begin : (.codeWith yL_begin cL_begin 5 (Option.some FieldType.int) [(0, 10, 13, 13)] : Cond) ∈ wG := wG_of 229 (by decide +kernel) (by decide +kernel)
theorem wd_clL_13 : (.classLink RL 13 "java/lang/IllegalArgumentException" : Cond) ∈ wG := wG_of 230 (by decide +kernel) (by decide +kernel)
theorem wd_mlL_7 : (.methodLink RL 7 yX0_begin : Cond) ∈ wG := wG_of 231 (by decide +kernel) (by decide +kernel)
theorem wd_im_X0_begin : (.instanceMethod yX0_begin : Cond) ∈ wG := wG_of 232 (by decide +kernel) (by decide +kernel)
theorem wd_se_X0_begin : (.selects RX0 yX0_begin yX0_begin : Cond) ∈ wG := wG_of 233 (by decide +kernel) (by decide +kernel)
theorem wd_co_X0_begin : (.code yX0_begin cX0_begin 3 (Option.some FieldType.int) : Cond) ∈ wG := wG_of 234 (by decide +kernel) (by decide +kernel)
theorem wd_cl0_46 : (.classLink RX0 46 "java/lang/IllegalArgumentException" : Cond) ∈ wG := wG_of 235 (by decide +kernel) (by decide +kernel)
theorem wd_ac_byte : (.arrayClass .byte : Cond) ∈ wG := wG_of 302 (by decide +kernel) (by decide +kernel)
theorem wd_mlL_72 : (.methodLink RL 72 yL_put : Cond) ∈ wG := wG_of 303 (by decide +kernel) (by decide +kernel)
theorem wd_st_L_put : (.static yL_put : Cond) ∈ wG := wG_of 304 (by decide +kernel) (by decide +kernel)
theorem wd_cw_L_put : (.codeWith yL_put cL_put 5 (Option.some FieldType.int) [(0, 10, 13, 18), (0, 10, 17, 20)] : Cond) ∈ wG := wG_of 305 (by decide +kernel) (by decide +kernel)
theorem wd_clL_18 : (.classLink RL 18 "java/lang/IndexOutOfBoundsException" : Cond) ∈ wG := wG_of 306 (by decide +kernel) (by decide +kernel)
theorem wd_clL_20 : (.classLink RL 20 "java/lang/IllegalStateException" : Cond) ∈ wG := wG_of 307 (by decide +kernel) (by decide +kernel)
theorem wd_mlL_15 : (.methodLink RL 15 yX0_put : Cond) ∈ wG := wG_of 308 (by decide +kernel) (by decide +kernel)
theorem wd_im_X0_put : (.instanceMethod yX0_put : Cond) ∈ wG := wG_of 309 (by decide +kernel) (by decide +kernel)
theorem wd_se_X0_put : (.selects RX0 yX0_put yX0_put : Cond) ∈ wG := wG_of 310 (by decide +kernel) (by decide +kernel)
theorem wd_co_X0_put : (.code yX0_put cX0_put 4 (Option.some FieldType.int) : Cond) ∈ wG := wG_of 311 (by decide +kernel) (by decide +kernel)
theorem wd_cl0_64 : (.classLink RX0 64 "java/lang/IndexOutOfBoundsException" : Cond) ∈ wG := wG_of 312 (by decide +kernel) (by decide +kernel)
theorem wd_cl0_72 : (.classLink RX0 72 "java/lang/IllegalStateException" : Cond) ∈ wG := wG_of 328 (by decide +kernel) (by decide +kernel)
theorem wd_mlL_75 : (.methodLink RL 75 yL_aim : Cond) ∈ wG := wG_of 344 (by decide +kernel) (by decide +kernel)
theorem wd_st_L_aim : (.static yL_aim : Cond) ∈ wG := wG_of 345 (by decide +kernel) (by decide +kernel)
theorem wd_cw_L_aim : (.codeWith yL_aim cL_aim 5 (Option.some FieldType.int) [(0, 10, 13, 18)] : Cond) ∈ wG := wG_of 346 (by decide +kernel) (by decide +kernel)
theorem wd_mlL_22 : (.methodLink RL 22 yX0_aim : Cond) ∈ wG := wG_of 347 (by decide +kernel) (by decide +kernel)
theorem wd_im_X0_aim : (.instanceMethod yX0_aim : Cond) ∈ wG := wG_of 348 (by decide +kernel) (by decide +kernel)
theorem wd_se_X0_aim : (.selects RX0 yX0_aim yX0_aim : Cond) ∈ wG := wG_of 349 (by decide +kernel) (by decide +kernel)
theorem wd_co_X0_aim : (.code yX0_aim cX0_aim 4 (Option.some FieldType.int) : Cond) ∈ wG := wG_of 350 (by decide +kernel) (by decide +kernel)
theorem wd_mlL_78 : (.methodLink RL 78 yL_allow : Cond) ∈ wG := wG_of 351 (by decide +kernel) (by decide +kernel)
theorem wd_st_L_allow : (.static yL_allow : Cond) ∈ wG := wG_of 352 (by decide +kernel) (by decide +kernel)
theorem wd_cw_L_allow : (.codeWith yL_allow cL_allow 6 (Option.some FieldType.int) [(0, 19, 22, 18), (0, 19, 26, 13)] : Cond) ∈ wG := wG_of 353 (by decide +kernel) (by decide +kernel)
theorem wd_mlL_25 : (.methodLink RL 25 yX0_allow : Cond) ∈ wG := wG_of 354 (by decide +kernel) (by decide +kernel)
theorem wd_im_X0_allow : (.instanceMethod yX0_allow : Cond) ∈ wG := wG_of 355 (by decide +kernel) (by decide +kernel)
theorem wd_se_X0_allow : (.selects RX0 yX0_allow yX0_allow : Cond) ∈ wG := wG_of 356 (by decide +kernel) (by decide +kernel)
theorem wd_co_X0_allow : (.code yX0_allow cX0_allow 6 (Option.some FieldType.boolean) : Cond) ∈ wG := wG_of 357 (by decide +kernel) (by decide +kernel)
theorem wd_mlL_82 : (.methodLink RL 82 yL_setColour : Cond) ∈ wG := wG_of 360 (by decide +kernel) (by decide +kernel)
theorem wd_st_L_setColour : (.static yL_setColour : Cond) ∈ wG := wG_of 361 (by decide +kernel) (by decide +kernel)
theorem wd_cw_L_setColour : (.codeWith yL_setColour cL_setColour 5 (Option.some FieldType.int) [(0, 10, 13, 18), (0, 10, 17, 13)] : Cond) ∈ wG := wG_of 362 (by decide +kernel) (by decide +kernel)
theorem wd_mlL_29 : (.methodLink RL 29 yX0_setColour : Cond) ∈ wG := wG_of 363 (by decide +kernel) (by decide +kernel)
theorem wd_im_X0_setColour : (.instanceMethod yX0_setColour : Cond) ∈ wG := wG_of 364 (by decide +kernel) (by decide +kernel)
theorem wd_se_X0_setColour : (.selects RX0 yX0_setColour yX0_setColour : Cond) ∈ wG := wG_of 365 (by decide +kernel) (by decide +kernel)
theorem wd_co_X0_setColour : (.code yX0_setColour cX0_setColour 4 (Option.some FieldType.int) : Cond) ∈ wG := wG_of 366 (by decide +kernel) (by decide +kernel)
theorem wd_mlL_90 : (.methodLink RL 90 yL_move : Cond) ∈ wG := wG_of 369 (by decide +kernel) (by decide +kernel)
theorem wd_st_L_move : (.static yL_move : Cond) ∈ wG := wG_of 370 (by decide +kernel) (by decide +kernel)
theorem wd_cw_L_move : (.codeWith yL_move cL_move 5 (Option.some FieldType.int) [(0, 10, 13, 18), (0, 10, 17, 20)] : Cond) ∈ wG := wG_of 371 (by decide +kernel) (by decide +kernel)
theorem wd_mlL_32 : (.methodLink RL 32 yX0_move : Cond) ∈ wG := wG_of 372 (by decide +kernel) (by decide +kernel)
theorem wd_im_X0_move : (.instanceMethod yX0_move : Cond) ∈ wG := wG_of 373 (by decide +kernel) (by decide +kernel)
theorem wd_se_X0_move : (.selects RX0 yX0_move yX0_move : Cond) ∈ wG := wG_of 374 (by decide +kernel) (by decide +kernel)
theorem wd_co_X0_move : (.code yX0_move cX0_move 4 (Option.some FieldType.int) : Cond) ∈ wG := wG_of 375 (by decide +kernel) (by decide +kernel)
theorem wd_mlL_93 : (.methodLink RL 93 yL_takeBack : Cond) ∈ wG := wG_of 377 (by decide +kernel) (by decide +kernel)
theorem wd_st_L_takeBack : (.static yL_takeBack : Cond) ∈ wG := wG_of 378 (by decide +kernel) (by decide +kernel)
theorem wd_cw_L_takeBack : (.codeWith yL_takeBack cL_takeBack 3 (Option.some FieldType.int) [(0, 8, 11, 20)] : Cond) ∈ wG := wG_of 379 (by decide +kernel) (by decide +kernel)
theorem wd_mlL_35 : (.methodLink RL 35 yX0_takeBack : Cond) ∈ wG := wG_of 380 (by decide +kernel) (by decide +kernel)
theorem wd_im_X0_takeBack : (.instanceMethod yX0_takeBack : Cond) ∈ wG := wG_of 381 (by decide +kernel) (by decide +kernel)
theorem wd_se_X0_takeBack : (.selects RX0 yX0_takeBack yX0_takeBack : Cond) ∈ wG := wG_of 382 (by decide +kernel) (by decide +kernel)
theorem wd_co_X0_takeBack : (.code yX0_takeBack cX0_takeBack 1 (Option.some FieldType.int) : Cond) ∈ wG := wG_of 383 (by decide +kernel) (by decide +kernel)
theorem wd_mlL_113 : (.methodLink RL 113 yL_pegOf : Cond) ∈ wG := wG_of 385 (by decide +kernel) (by decide +kernel)
theorem wd_st_L_pegOf : (.static yL_pegOf : Cond) ∈ wG := wG_of 386 (by decide +kernel) (by decide +kernel)
theorem wd_cw_L_pegOf : (.codeWith yL_pegOf cL_pegOf 4 (Option.some FieldType.int) [(0, 9, 12, 18)] : Cond) ∈ wG := wG_of 387 (by decide +kernel) (by decide +kernel)
theorem wd_mlL_39 : (.methodLink RL 39 yX0_pegOf : Cond) ∈ wG := wG_of 388 (by decide +kernel) (by decide +kernel)
theorem wd_im_X0_pegOf : (.instanceMethod yX0_pegOf : Cond) ∈ wG := wG_of 389 (by decide +kernel) (by decide +kernel)
theorem wd_se_X0_pegOf : (.selects RX0 yX0_pegOf yX0_pegOf : Cond) ∈ wG := wG_of 390 (by decide +kernel) (by decide +kernel)
theorem wd_co_X0_pegOf : (.code yX0_pegOf cX0_pegOf 2 (Option.some FieldType.int) : Cond) ∈ wG := wG_of 391 (by decide +kernel) (by decide +kernel)
theorem wd_mlL_117 : (.methodLink RL 117 yL_top : Cond) ∈ wG := wG_of 392 (by decide +kernel) (by decide +kernel)
theorem wd_st_L_top : (.static yL_top : Cond) ∈ wG := wG_of 393 (by decide +kernel) (by decide +kernel)
theorem wd_cw_L_top : (.codeWith yL_top cL_top 4 (Option.some FieldType.int) [(0, 9, 12, 18)] : Cond) ∈ wG := wG_of 394 (by decide +kernel) (by decide +kernel)
theorem wd_mlL_43 : (.methodLink RL 43 yX0_top : Cond) ∈ wG := wG_of 395 (by decide +kernel) (by decide +kernel)
theorem wd_im_X0_top : (.instanceMethod yX0_top : Cond) ∈ wG := wG_of 396 (by decide +kernel) (by decide +kernel)
theorem wd_se_X0_top : (.selects RX0 yX0_top yX0_top : Cond) ∈ wG := wG_of 397 (by decide +kernel) (by decide +kernel)
theorem wd_co_X0_top : (.code yX0_top cX0_top 2 (Option.some FieldType.int) : Cond) ∈ wG := wG_of 398 (by decide +kernel) (by decide +kernel)
theorem wd_mlL_133 : (.methodLink RL 133 yL_canMove : Cond) ∈ wG := wG_of 399 (by decide +kernel) (by decide +kernel)
theorem wd_st_L_canMove : (.static yL_canMove : Cond) ∈ wG := wG_of 400 (by decide +kernel) (by decide +kernel)
theorem wd_cw_L_canMove : (.codeWith yL_canMove cL_canMove 5 (Option.some FieldType.int) [(0, 17, 20, 18)] : Cond) ∈ wG := wG_of 401 (by decide +kernel) (by decide +kernel)
theorem wd_mlL_46 : (.methodLink RL 46 yX0_canMove : Cond) ∈ wG := wG_of 402 (by decide +kernel) (by decide +kernel)
theorem wd_im_X0_canMove : (.instanceMethod yX0_canMove : Cond) ∈ wG := wG_of 403 (by decide +kernel) (by decide +kernel)
theorem wd_se_X0_canMove : (.selects RX0 yX0_canMove yX0_canMove : Cond) ∈ wG := wG_of 404 (by decide +kernel) (by decide +kernel)
theorem wd_co_X0_canMove : (.code yX0_canMove cX0_canMove 3 (Option.some FieldType.boolean) : Cond) ∈ wG := wG_of 405 (by decide +kernel) (by decide +kernel)
theorem wd_mlL_140 : (.methodLink RL 140 yL_wayByDisks : Cond) ∈ wG := wG_of 406 (by decide +kernel) (by decide +kernel)
theorem wd_st_L_wayByDisks : (.static yL_wayByDisks : Cond) ∈ wG := wG_of 407 (by decide +kernel) (by decide +kernel)
theorem wd_cw_L_wayByDisks : (.codeWith yL_wayByDisks cL_wayByDisks 3 (Option.some FieldType.int) [(0, 8, 11, 20)] : Cond) ∈ wG := wG_of 408 (by decide +kernel) (by decide +kernel)
theorem wd_mlL_50 : (.methodLink RL 50 yX0_wayByDisks : Cond) ∈ wG := wG_of 409 (by decide +kernel) (by decide +kernel)
theorem wd_im_X0_wayByDisks : (.instanceMethod yX0_wayByDisks : Cond) ∈ wG := wG_of 410 (by decide +kernel) (by decide +kernel)
theorem wd_se_X0_wayByDisks : (.selects RX0 yX0_wayByDisks yX0_wayByDisks : Cond) ∈ wG := wG_of 411 (by decide +kernel) (by decide +kernel)
theorem wd_co_X0_wayByDisks : (.code yX0_wayByDisks cX0_wayByDisks 7 (Option.some FieldType.int) : Cond) ∈ wG := wG_of 412 (by decide +kernel) (by decide +kernel)
theorem wd_ml0_131 : (.methodLink RX0 131 yX0_isAnyBarred : Cond) ∈ wG := wG_of 413 (by decide +kernel) (by decide +kernel)
theorem wd_im_X0_isAnyBarred : (.instanceMethod yX0_isAnyBarred : Cond) ∈ wG := wG_of 415 (by decide +kernel) (by decide +kernel)
theorem wd_co_X0_isAnyBarred : (.code yX0_isAnyBarred cX0_isAnyBarred 2 (Option.some FieldType.boolean) : Cond) ∈ wG := wG_of 416 (by decide +kernel) (by decide +kernel)
theorem wd_ml0_137 : (.methodLink RX0 137 yX0_thirdPeg : Cond) ∈ wG := wG_of 418 (by decide +kernel) (by decide +kernel)
theorem wd_st_X0_thirdPeg : (.static yX0_thirdPeg : Cond) ∈ wG := wG_of 419 (by decide +kernel) (by decide +kernel)
theorem wd_co_X0_thirdPeg : (.code yX0_thirdPeg cX0_thirdPeg 2 (Option.some FieldType.int) : Cond) ∈ wG := wG_of 420 (by decide +kernel) (by decide +kernel)
theorem wd_ml0_140 : (.methodLink RX0 140 yX0_gather : Cond) ∈ wG := wG_of 421 (by decide +kernel) (by decide +kernel)
theorem wd_im_X0_gather : (.instanceMethod yX0_gather : Cond) ∈ wG := wG_of 423 (by decide +kernel) (by decide +kernel)
theorem wd_co_X0_gather : (.code yX0_gather cX0_gather 8 (Option.some FieldType.int) : Cond) ∈ wG := wG_of 424 (by decide +kernel) (by decide +kernel)
theorem wd_mlL_143 : (.methodLink RL 143 yL_lost : Cond) ∈ wG := wG_of 425 (by decide +kernel) (by decide +kernel)
theorem wd_st_L_lost : (.static yL_lost : Cond) ∈ wG := wG_of 426 (by decide +kernel) (by decide +kernel)
theorem wd_cw_L_lost : (.codeWith yL_lost cL_lost 3 (Option.some FieldType.int) [(0, 8, 11, 20)] : Cond) ∈ wG := wG_of 427 (by decide +kernel) (by decide +kernel)
theorem wd_mlL_53 : (.methodLink RL 53 yX0_lost : Cond) ∈ wG := wG_of 428 (by decide +kernel) (by decide +kernel)
theorem wd_im_X0_lost : (.instanceMethod yX0_lost : Cond) ∈ wG := wG_of 429 (by decide +kernel) (by decide +kernel)
theorem wd_se_X0_lost : (.selects RX0 yX0_lost yX0_lost : Cond) ∈ wG := wG_of 430 (by decide +kernel) (by decide +kernel)
theorem wd_co_X0_lost : (.code yX0_lost cX0_lost 3 (Option.some FieldType.int) : Cond) ∈ wG := wG_of 431 (by decide +kernel) (by decide +kernel)
theorem wd_mlL_154 : (.methodLink RL 154 yL_splits : Cond) ∈ wG := wG_of 433 (by decide +kernel) (by decide +kernel)
theorem wd_st_L_splits : (.static yL_splits : Cond) ∈ wG := wG_of 434 (by decide +kernel) (by decide +kernel)
theorem wd_cw_L_splits : (.codeWith yL_splits cL_splits 5 (Option.some FieldType.int) [(0, 10, 13, 13)] : Cond) ∈ wG := wG_of 435 (by decide +kernel) (by decide +kernel)
theorem wd_mlL_56 : (.methodLink RL 56 yX0_splits : Cond) ∈ wG := wG_of 436 (by decide +kernel) (by decide +kernel)
theorem wd_im_X0_splits : (.instanceMethod yX0_splits : Cond) ∈ wG := wG_of 437 (by decide +kernel) (by decide +kernel)
theorem wd_se_X0_splits : (.selects RX0 yX0_splits yX0_splits : Cond) ∈ wG := wG_of 438 (by decide +kernel) (by decide +kernel)
theorem wd_co_X0_splits : (.code yX0_splits cX0_splits 3 (Option.some FieldType.int) : Cond) ∈ wG := wG_of 439 (by decide +kernel) (by decide +kernel)
theorem wd_clL_60 : (.classLink RL 60 "TowerBenchModel" : Cond) ∈ wG := wG_of 441 (by decide +kernel) (by decide +kernel)
theorem wd_it_1 : (.instantiable RX1 17 : Cond) ∈ wG := wG_of 442 (by decide +kernel) (by decide +kernel)
theorem wd_mlL_62 : (.methodLink RL 62 yX1_init : Cond) ∈ wG := wG_of 443 (by decide +kernel) (by decide +kernel)
theorem wd_im_X1_init : (.instanceMethod yX1_init : Cond) ∈ wG := wG_of 444 (by decide +kernel) (by decide +kernel)
theorem wd_co_X1_init : (.code yX1_init cX1_init 1 (Option.none : Option FieldType) : Cond) ∈ wG := wG_of 445 (by decide +kernel) (by decide +kernel)
theorem wd_mo1_1 : (.methodLink RX1 1 objectInit : Cond) ∈ wG := wG_of 446 (by decide +kernel) (by decide +kernel)
theorem wd_ml1_48 : (.methodLink RX1 48 yX1_lay : Cond) ∈ wG := wG_of 447 (by decide +kernel) (by decide +kernel)
theorem wd_im_X1_lay : (.instanceMethod yX1_lay : Cond) ∈ wG := wG_of 449 (by decide +kernel) (by decide +kernel)
theorem wd_co_X1_lay : (.code yX1_lay cX1_lay 4 (Option.none : Option FieldType) : Cond) ∈ wG := wG_of 450 (by decide +kernel) (by decide +kernel)
theorem wd_fl1_52 : (.fieldLink RX1 52 "TowerBenchModel" "thrown" "I" : Cond) ∈ wG := wG_of 451 (by decide +kernel) (by decide +kernel)
theorem wd_fl1_7 : (.fieldLink RX1 7 "TowerBenchModel" "pegs" "I" : Cond) ∈ wG := wG_of 452 (by decide +kernel) (by decide +kernel)
theorem wd_fl1_13 : (.fieldLink RX1 13 "TowerBenchModel" "disks" "I" : Cond) ∈ wG := wG_of 453 (by decide +kernel) (by decide +kernel)
theorem wd_fl1_16 : (.fieldLink RX1 16 "TowerBenchModel" "now" "[I" : Cond) ∈ wG := wG_of 454 (by decide +kernel) (by decide +kernel)
theorem wd_fl1_20 : (.fieldLink RX1 20 "TowerBenchModel" "goal" "[I" : Cond) ∈ wG := wG_of 455 (by decide +kernel) (by decide +kernel)
theorem wd_fl1_23 : (.fieldLink RX1 23 "TowerBenchModel" "colours" "[I" : Cond) ∈ wG := wG_of 456 (by decide +kernel) (by decide +kernel)
theorem wd_fl1_59 : (.fieldLink RX1 59 "TowerBenchModel" "rule" "Z" : Cond) ∈ wG := wG_of 457 (by decide +kernel) (by decide +kernel)
theorem wd_fl1_26 : (.fieldLink RX1 26 "TowerBenchModel" "isBarred" "[Z" : Cond) ∈ wG := wG_of 458 (by decide +kernel) (by decide +kernel)
theorem wd_fl1_30 : (.fieldLink RX1 30 "TowerBenchModel" "froms" "[I" : Cond) ∈ wG := wG_of 459 (by decide +kernel) (by decide +kernel)
theorem wd_fl1_33 : (.fieldLink RX1 33 "TowerBenchModel" "tos" "[I" : Cond) ∈ wG := wG_of 460 (by decide +kernel) (by decide +kernel)
theorem wd_fl1_63 : (.fieldLink RX1 63 "TowerBenchModel" "moves" "I" : Cond) ∈ wG := wG_of 461 (by decide +kernel) (by decide +kernel)
theorem wd_fl1_99 : (.fieldLink RX1 99 "TowerBenchModel" "start" "I" : Cond) ∈ wG := wG_of 462 (by decide +kernel) (by decide +kernel)
theorem wd_fl1_36 : (.fieldLink RX1 36 "TowerBenchModel" "look" "[I" : Cond) ∈ wG := wG_of 463 (by decide +kernel) (by decide +kernel)
theorem wd_fl1_39 : (.fieldLink RX1 39 "TowerBenchModel" "far" "[I" : Cond) ∈ wG := wG_of 464 (by decide +kernel) (by decide +kernel)
theorem wd_fl1_42 : (.fieldLink RX1 42 "TowerBenchModel" "queue" "[I" : Cond) ∈ wG := wG_of 465 (by decide +kernel) (by decide +kernel)
theorem wd_fl1_108 : (.fieldLink RX1 108 "TowerBenchModel" "queued" "I" : Cond) ∈ wG := wG_of 466 (by decide +kernel) (by decide +kernel)
theorem wd_fl1_45 : (.fieldLink RX1 45 "TowerBenchModel" "numbers" "[I" : Cond) ∈ wG := wG_of 467 (by decide +kernel) (by decide +kernel)
theorem wd_la1_thrown : (.lays RX1 "TowerBenchModel" "thrown" "I" : Cond) ∈ wG := wG_of 468 (by decide +kernel) (by decide +kernel)
theorem wd_la1_pegs : (.lays RX1 "TowerBenchModel" "pegs" "I" : Cond) ∈ wG := wG_of 470 (by decide +kernel) (by decide +kernel)
theorem wd_la1_disks : (.lays RX1 "TowerBenchModel" "disks" "I" : Cond) ∈ wG := wG_of 472 (by decide +kernel) (by decide +kernel)
theorem wd_la1_now : (.laysFinal RX1 "TowerBenchModel" "now" "[I" : Cond) ∈ wG := wG_of 474 (by decide +kernel) (by decide +kernel)
theorem wd_la1_goal : (.laysFinal RX1 "TowerBenchModel" "goal" "[I" : Cond) ∈ wG := wG_of 476 (by decide +kernel) (by decide +kernel)
theorem wd_la1_colours : (.laysFinal RX1 "TowerBenchModel" "colours" "[I" : Cond) ∈ wG := wG_of 478 (by decide +kernel) (by decide +kernel)
theorem wd_la1_rule : (.lays RX1 "TowerBenchModel" "rule" "Z" : Cond) ∈ wG := wG_of 480 (by decide +kernel) (by decide +kernel)
theorem wd_la1_isBarred : (.laysFinal RX1 "TowerBenchModel" "isBarred" "[Z" : Cond) ∈ wG := wG_of 482 (by decide +kernel) (by decide +kernel)
theorem wd_la1_froms : (.laysFinal RX1 "TowerBenchModel" "froms" "[I" : Cond) ∈ wG := wG_of 484 (by decide +kernel) (by decide +kernel)
theorem wd_la1_tos : (.laysFinal RX1 "TowerBenchModel" "tos" "[I" : Cond) ∈ wG := wG_of 486 (by decide +kernel) (by decide +kernel)
theorem wd_la1_moves : (.lays RX1 "TowerBenchModel" "moves" "I" : Cond) ∈ wG := wG_of 488 (by decide +kernel) (by decide +kernel)
theorem wd_la1_start : (.lays RX1 "TowerBenchModel" "start" "I" : Cond) ∈ wG := wG_of 490 (by decide +kernel) (by decide +kernel)
theorem wd_la1_look : (.laysFinal RX1 "TowerBenchModel" "look" "[I" : Cond) ∈ wG := wG_of 492 (by decide +kernel) (by decide +kernel)
theorem wd_la1_far : (.laysFinal RX1 "TowerBenchModel" "far" "[I" : Cond) ∈ wG := wG_of 494 (by decide +kernel) (by decide +kernel)
theorem wd_la1_queue : (.laysFinal RX1 "TowerBenchModel" "queue" "[I" : Cond) ∈ wG := wG_of 496 (by decide +kernel) (by decide +kernel)
theorem wd_la1_queued : (.lays RX1 "TowerBenchModel" "queued" "I" : Cond) ∈ wG := wG_of 498 (by decide +kernel) (by decide +kernel)
theorem wd_la1_numbers : (.laysFinal RX1 "TowerBenchModel" "numbers" "[I" : Cond) ∈ wG := wG_of 500 (by decide +kernel) (by decide +kernel)
theorem wd_mlL_69 : (.methodLink RL 69 yX1_thrown : Cond) ∈ wG := wG_of 503 (by decide +kernel) (by decide +kernel)
theorem wd_im_X1_thrown : (.instanceMethod yX1_thrown : Cond) ∈ wG := wG_of 504 (by decide +kernel) (by decide +kernel)
theorem wd_se_X1_thrown : (.selects RX1 yX1_thrown yX1_thrown : Cond) ∈ wG := wG_of 505 (by decide +kernel) (by decide +kernel)
theorem wd_co_X1_thrown : (.code yX1_thrown cX1_thrown 1 (Option.some FieldType.int) : Cond) ∈ wG := wG_of 506 (by decide +kernel) (by decide +kernel)
theorem wd_mlL_68 : (.methodLink RL 68 yX1_begin : Cond) ∈ wG := wG_of 507 (by decide +kernel) (by decide +kernel)
theorem wd_im_X1_begin : (.instanceMethod yX1_begin : Cond) ∈ wG := wG_of 508 (by decide +kernel) (by decide +kernel)
theorem wd_se_X1_begin : (.selects RX1 yX1_begin yX1_begin : Cond) ∈ wG := wG_of 509 (by decide +kernel) (by decide +kernel)
theorem wd_co_X1_begin : (.code yX1_begin cX1_begin 3 (Option.some FieldType.int) : Cond) ∈ wG := wG_of 510 (by decide +kernel) (by decide +kernel)
theorem wd_ml1_55 : (.methodLink RX1 55 yX1_in : Cond) ∈ wG := wG_of 511 (by decide +kernel) (by decide +kernel)
theorem wd_st_X1_in : (.static yX1_in : Cond) ∈ wG := wG_of 512 (by decide +kernel) (by decide +kernel)
theorem wd_co_X1_in : (.code yX1_in cX1_in 3 (Option.some FieldType.boolean) : Cond) ∈ wG := wG_of 513 (by decide +kernel) (by decide +kernel)
theorem wd_ml1_66 : (.methodLink RX1 66 yX1_goesWell : Cond) ∈ wG := wG_of 514 (by decide +kernel) (by decide +kernel)
theorem wd_im_X1_goesWell : (.instanceMethod yX1_goesWell : Cond) ∈ wG := wG_of 516 (by decide +kernel) (by decide +kernel)
theorem wd_co_X1_goesWell : (.code yX1_goesWell cX1_goesWell 2 (Option.some FieldType.boolean) : Cond) ∈ wG := wG_of 517 (by decide +kernel) (by decide +kernel)
theorem wd_ml1_70 : (.methodLink RX1 70 yX1_all : Cond) ∈ wG := wG_of 518 (by decide +kernel) (by decide +kernel)
theorem wd_im_X1_all : (.instanceMethod yX1_all : Cond) ∈ wG := wG_of 520 (by decide +kernel) (by decide +kernel)
theorem wd_co_X1_all : (.code yX1_all cX1_all 3 (Option.some FieldType.int) : Cond) ∈ wG := wG_of 521 (by decide +kernel) (by decide +kernel)
theorem wd_mlL_74 : (.methodLink RL 74 yX1_put : Cond) ∈ wG := wG_of 522 (by decide +kernel) (by decide +kernel)
theorem wd_im_X1_put : (.instanceMethod yX1_put : Cond) ∈ wG := wG_of 523 (by decide +kernel) (by decide +kernel)
theorem wd_se_X1_put : (.selects RX1 yX1_put yX1_put : Cond) ∈ wG := wG_of 524 (by decide +kernel) (by decide +kernel)
theorem wd_co_X1_put : (.code yX1_put cX1_put 4 (Option.some FieldType.int) : Cond) ∈ wG := wG_of 525 (by decide +kernel) (by decide +kernel)
theorem wd_ml1_74 : (.methodLink RX1 74 yX1_isDisk : Cond) ∈ wG := wG_of 526 (by decide +kernel) (by decide +kernel)
theorem wd_im_X1_isDisk : (.instanceMethod yX1_isDisk : Cond) ∈ wG := wG_of 528 (by decide +kernel) (by decide +kernel)
theorem wd_co_X1_isDisk : (.code yX1_isDisk cX1_isDisk 2 (Option.some FieldType.boolean) : Cond) ∈ wG := wG_of 529 (by decide +kernel) (by decide +kernel)
theorem wd_ml1_77 : (.methodLink RX1 77 yX1_isPeg : Cond) ∈ wG := wG_of 530 (by decide +kernel) (by decide +kernel)
theorem wd_im_X1_isPeg : (.instanceMethod yX1_isPeg : Cond) ∈ wG := wG_of 532 (by decide +kernel) (by decide +kernel)
theorem wd_co_X1_isPeg : (.code yX1_isPeg cX1_isPeg 2 (Option.some FieldType.boolean) : Cond) ∈ wG := wG_of 533 (by decide +kernel) (by decide +kernel)
theorem wd_mlL_77 : (.methodLink RL 77 yX1_aim : Cond) ∈ wG := wG_of 534 (by decide +kernel) (by decide +kernel)
theorem wd_im_X1_aim : (.instanceMethod yX1_aim : Cond) ∈ wG := wG_of 535 (by decide +kernel) (by decide +kernel)
theorem wd_se_X1_aim : (.selects RX1 yX1_aim yX1_aim : Cond) ∈ wG := wG_of 536 (by decide +kernel) (by decide +kernel)
theorem wd_co_X1_aim : (.code yX1_aim cX1_aim 4 (Option.some FieldType.int) : Cond) ∈ wG := wG_of 537 (by decide +kernel) (by decide +kernel)
theorem wd_mlL_81 : (.methodLink RL 81 yX1_allow : Cond) ∈ wG := wG_of 538 (by decide +kernel) (by decide +kernel)
theorem wd_im_X1_allow : (.instanceMethod yX1_allow : Cond) ∈ wG := wG_of 539 (by decide +kernel) (by decide +kernel)
theorem wd_se_X1_allow : (.selects RX1 yX1_allow yX1_allow : Cond) ∈ wG := wG_of 540 (by decide +kernel) (by decide +kernel)
theorem wd_co_X1_allow : (.code yX1_allow cX1_allow 5 (Option.some FieldType.boolean) : Cond) ∈ wG := wG_of 541 (by decide +kernel) (by decide +kernel)
theorem wd_mlL_84 : (.methodLink RL 84 yX1_setColour : Cond) ∈ wG := wG_of 542 (by decide +kernel) (by decide +kernel)
theorem wd_im_X1_setColour : (.instanceMethod yX1_setColour : Cond) ∈ wG := wG_of 543 (by decide +kernel) (by decide +kernel)
theorem wd_se_X1_setColour : (.selects RX1 yX1_setColour yX1_setColour : Cond) ∈ wG := wG_of 544 (by decide +kernel) (by decide +kernel)
theorem wd_co_X1_setColour : (.code yX1_setColour cX1_setColour 4 (Option.some FieldType.int) : Cond) ∈ wG := wG_of 545 (by decide +kernel) (by decide +kernel)
theorem wd_mlL_89 : (.methodLink RL 89 yX1_setRule : Cond) ∈ wG := wG_of 546 (by decide +kernel) (by decide +kernel)
theorem wd_im_X1_setRule : (.instanceMethod yX1_setRule : Cond) ∈ wG := wG_of 547 (by decide +kernel) (by decide +kernel)
theorem wd_se_X1_setRule : (.selects RX1 yX1_setRule yX1_setRule : Cond) ∈ wG := wG_of 548 (by decide +kernel) (by decide +kernel)
theorem wd_co_X1_setRule : (.code yX1_setRule cX1_setRule 3 (Option.some FieldType.boolean) : Cond) ∈ wG := wG_of 549 (by decide +kernel) (by decide +kernel)
theorem wd_mlL_92 : (.methodLink RL 92 yX1_move : Cond) ∈ wG := wG_of 550 (by decide +kernel) (by decide +kernel)
theorem wd_im_X1_move : (.instanceMethod yX1_move : Cond) ∈ wG := wG_of 551 (by decide +kernel) (by decide +kernel)
theorem wd_se_X1_move : (.selects RX1 yX1_move yX1_move : Cond) ∈ wG := wG_of 552 (by decide +kernel) (by decide +kernel)
theorem wd_co_X1_move : (.code yX1_move cX1_move 6 (Option.some FieldType.int) : Cond) ∈ wG := wG_of 553 (by decide +kernel) (by decide +kernel)
theorem wd_ml1_92 : (.methodLink RX1 92 yX1_numberOfNow : Cond) ∈ wG := wG_of 554 (by decide +kernel) (by decide +kernel)
theorem wd_im_X1_numberOfNow : (.instanceMethod yX1_numberOfNow : Cond) ∈ wG := wG_of 556 (by decide +kernel) (by decide +kernel)
theorem wd_co_X1_numberOfNow : (.code yX1_numberOfNow cX1_numberOfNow 3 (Option.some FieldType.int) : Cond) ∈ wG := wG_of 557 (by decide +kernel) (by decide +kernel)
theorem wd_ml1_95 : (.methodLink RX1 95 yX1_behind : Cond) ∈ wG := wG_of 558 (by decide +kernel) (by decide +kernel)
theorem wd_im_X1_behind : (.instanceMethod yX1_behind : Cond) ∈ wG := wG_of 560 (by decide +kernel) (by decide +kernel)
theorem wd_co_X1_behind : (.code yX1_behind cX1_behind 8 (Option.some FieldType.int) : Cond) ∈ wG := wG_of 561 (by decide +kernel) (by decide +kernel)
theorem wd_ml1_80 : (.methodLink RX1 80 yX1_open : Cond) ∈ wG := wG_of 562 (by decide +kernel) (by decide +kernel)
theorem wd_im_X1_open : (.instanceMethod yX1_open : Cond) ∈ wG := wG_of 564 (by decide +kernel) (by decide +kernel)
theorem wd_co_X1_open : (.code yX1_open cX1_open 4 (Option.none : Option FieldType) : Cond) ∈ wG := wG_of 565 (by decide +kernel) (by decide +kernel)
theorem wd_ml1_88 : (.methodLink RX1 88 yX1_topOf : Cond) ∈ wG := wG_of 566 (by decide +kernel) (by decide +kernel)
theorem wd_im_X1_topOf : (.instanceMethod yX1_topOf : Cond) ∈ wG := wG_of 568 (by decide +kernel) (by decide +kernel)
theorem wd_co_X1_topOf : (.code yX1_topOf cX1_topOf 3 (Option.some FieldType.int) : Cond) ∈ wG := wG_of 569 (by decide +kernel) (by decide +kernel)
theorem wd_ml1_84 : (.methodLink RX1 84 yX1_isFine : Cond) ∈ wG := wG_of 570 (by decide +kernel) (by decide +kernel)
theorem wd_im_X1_isFine : (.instanceMethod yX1_isFine : Cond) ∈ wG := wG_of 572 (by decide +kernel) (by decide +kernel)
theorem wd_co_X1_isFine : (.code yX1_isFine cX1_isFine 5 (Option.some FieldType.boolean) : Cond) ∈ wG := wG_of 573 (by decide +kernel) (by decide +kernel)
theorem wd_mlL_96 : (.methodLink RL 96 yX1_takeBack : Cond) ∈ wG := wG_of 574 (by decide +kernel) (by decide +kernel)
theorem wd_im_X1_takeBack : (.instanceMethod yX1_takeBack : Cond) ∈ wG := wG_of 575 (by decide +kernel) (by decide +kernel)
theorem wd_se_X1_takeBack : (.selects RX1 yX1_takeBack yX1_takeBack : Cond) ∈ wG := wG_of 576 (by decide +kernel) (by decide +kernel)
theorem wd_co_X1_takeBack : (.code yX1_takeBack cX1_takeBack 1 (Option.some FieldType.int) : Cond) ∈ wG := wG_of 577 (by decide +kernel) (by decide +kernel)
theorem wd_mlL_100 : (.methodLink RL 100 yX1_layStart : Cond) ∈ wG := wG_of 578 (by decide +kernel) (by decide +kernel)
theorem wd_im_X1_layStart : (.instanceMethod yX1_layStart : Cond) ∈ wG := wG_of 579 (by decide +kernel) (by decide +kernel)
theorem wd_se_X1_layStart : (.selects RX1 yX1_layStart yX1_layStart : Cond) ∈ wG := wG_of 580 (by decide +kernel) (by decide +kernel)
theorem wd_co_X1_layStart : (.code yX1_layStart cX1_layStart 2 (Option.some FieldType.int) : Cond) ∈ wG := wG_of 581 (by decide +kernel) (by decide +kernel)
theorem wd_mlL_104 : (.methodLink RL 104 yX1_pegs : Cond) ∈ wG := wG_of 582 (by decide +kernel) (by decide +kernel)
theorem wd_im_X1_pegs : (.instanceMethod yX1_pegs : Cond) ∈ wG := wG_of 583 (by decide +kernel) (by decide +kernel)
theorem wd_se_X1_pegs : (.selects RX1 yX1_pegs yX1_pegs : Cond) ∈ wG := wG_of 584 (by decide +kernel) (by decide +kernel)
theorem wd_co_X1_pegs : (.code yX1_pegs cX1_pegs 1 (Option.some FieldType.int) : Cond) ∈ wG := wG_of 585 (by decide +kernel) (by decide +kernel)
theorem wd_mlL_108 : (.methodLink RL 108 yX1_disks : Cond) ∈ wG := wG_of 586 (by decide +kernel) (by decide +kernel)
theorem wd_im_X1_disks : (.instanceMethod yX1_disks : Cond) ∈ wG := wG_of 587 (by decide +kernel) (by decide +kernel)
theorem wd_se_X1_disks : (.selects RX1 yX1_disks yX1_disks : Cond) ∈ wG := wG_of 588 (by decide +kernel) (by decide +kernel)
theorem wd_co_X1_disks : (.code yX1_disks cX1_disks 1 (Option.some FieldType.int) : Cond) ∈ wG := wG_of 589 (by decide +kernel) (by decide +kernel)
theorem wd_mlL_112 : (.methodLink RL 112 yX1_moves : Cond) ∈ wG := wG_of 590 (by decide +kernel) (by decide +kernel)
theorem wd_im_X1_moves : (.instanceMethod yX1_moves : Cond) ∈ wG := wG_of 591 (by decide +kernel) (by decide +kernel)
theorem wd_se_X1_moves : (.selects RX1 yX1_moves yX1_moves : Cond) ∈ wG := wG_of 592 (by decide +kernel) (by decide +kernel)
theorem wd_co_X1_moves : (.code yX1_moves cX1_moves 1 (Option.some FieldType.int) : Cond) ∈ wG := wG_of 593 (by decide +kernel) (by decide +kernel)
theorem wd_mlL_116 : (.methodLink RL 116 yX1_pegOf : Cond) ∈ wG := wG_of 594 (by decide +kernel) (by decide +kernel)
theorem wd_im_X1_pegOf : (.instanceMethod yX1_pegOf : Cond) ∈ wG := wG_of 595 (by decide +kernel) (by decide +kernel)
theorem wd_se_X1_pegOf : (.selects RX1 yX1_pegOf yX1_pegOf : Cond) ∈ wG := wG_of 596 (by decide +kernel) (by decide +kernel)
theorem wd_co_X1_pegOf : (.code yX1_pegOf cX1_pegOf 2 (Option.some FieldType.int) : Cond) ∈ wG := wG_of 597 (by decide +kernel) (by decide +kernel)
theorem wd_mlL_119 : (.methodLink RL 119 yX1_top : Cond) ∈ wG := wG_of 598 (by decide +kernel) (by decide +kernel)
theorem wd_im_X1_top : (.instanceMethod yX1_top : Cond) ∈ wG := wG_of 599 (by decide +kernel) (by decide +kernel)
theorem wd_se_X1_top : (.selects RX1 yX1_top yX1_top : Cond) ∈ wG := wG_of 600 (by decide +kernel) (by decide +kernel)
theorem wd_co_X1_top : (.code yX1_top cX1_top 2 (Option.some FieldType.int) : Cond) ∈ wG := wG_of 601 (by decide +kernel) (by decide +kernel)
theorem wd_mlL_123 : (.methodLink RL 123 yX1_arrangement : Cond) ∈ wG := wG_of 602 (by decide +kernel) (by decide +kernel)
theorem wd_im_X1_arrangement : (.instanceMethod yX1_arrangement : Cond) ∈ wG := wG_of 603 (by decide +kernel) (by decide +kernel)
theorem wd_se_X1_arrangement : (.selects RX1 yX1_arrangement yX1_arrangement : Cond) ∈ wG := wG_of 604 (by decide +kernel) (by decide +kernel)
theorem wd_co_X1_arrangement : (.code yX1_arrangement cX1_arrangement 1 (Option.some FieldType.int) : Cond) ∈ wG := wG_of 605 (by decide +kernel) (by decide +kernel)
theorem wd_mlL_127 : (.methodLink RL 127 yX1_goal : Cond) ∈ wG := wG_of 606 (by decide +kernel) (by decide +kernel)
theorem wd_im_X1_goal : (.instanceMethod yX1_goal : Cond) ∈ wG := wG_of 607 (by decide +kernel) (by decide +kernel)
theorem wd_se_X1_goal : (.selects RX1 yX1_goal yX1_goal : Cond) ∈ wG := wG_of 608 (by decide +kernel) (by decide +kernel)
theorem wd_co_X1_goal : (.code yX1_goal cX1_goal 1 (Option.some FieldType.int) : Cond) ∈ wG := wG_of 609 (by decide +kernel) (by decide +kernel)
theorem wd_ml1_102 : (.methodLink RX1 102 yX1_numberOfGoal : Cond) ∈ wG := wG_of 610 (by decide +kernel) (by decide +kernel)
theorem wd_im_X1_numberOfGoal : (.instanceMethod yX1_numberOfGoal : Cond) ∈ wG := wG_of 612 (by decide +kernel) (by decide +kernel)
theorem wd_co_X1_numberOfGoal : (.code yX1_numberOfGoal cX1_numberOfGoal 3 (Option.some FieldType.int) : Cond) ∈ wG := wG_of 613 (by decide +kernel) (by decide +kernel)
theorem wd_mlL_132 : (.methodLink RL 132 yX1_isLawful : Cond) ∈ wG := wG_of 614 (by decide +kernel) (by decide +kernel)
theorem wd_im_X1_isLawful : (.instanceMethod yX1_isLawful : Cond) ∈ wG := wG_of 615 (by decide +kernel) (by decide +kernel)
theorem wd_se_X1_isLawful : (.selects RX1 yX1_isLawful yX1_isLawful : Cond) ∈ wG := wG_of 616 (by decide +kernel) (by decide +kernel)
theorem wd_co_X1_isLawful : (.code yX1_isLawful cX1_isLawful 1 (Option.some FieldType.boolean) : Cond) ∈ wG := wG_of 617 (by decide +kernel) (by decide +kernel)
theorem wd_ml1_105 : (.methodLink RX1 105 yX1_isLawfulNumber : Cond) ∈ wG := wG_of 618 (by decide +kernel) (by decide +kernel)
theorem wd_im_X1_isLawfulNumber : (.instanceMethod yX1_isLawfulNumber : Cond) ∈ wG := wG_of 620 (by decide +kernel) (by decide +kernel)
theorem wd_co_X1_isLawfulNumber : (.code yX1_isLawfulNumber cX1_isLawfulNumber 2 (Option.some FieldType.boolean) : Cond) ∈ wG := wG_of 621 (by decide +kernel) (by decide +kernel)
theorem wd_mlL_135 : (.methodLink RL 135 yX1_canMove : Cond) ∈ wG := wG_of 622 (by decide +kernel) (by decide +kernel)
theorem wd_im_X1_canMove : (.instanceMethod yX1_canMove : Cond) ∈ wG := wG_of 623 (by decide +kernel) (by decide +kernel)
theorem wd_se_X1_canMove : (.selects RX1 yX1_canMove yX1_canMove : Cond) ∈ wG := wG_of 624 (by decide +kernel) (by decide +kernel)
theorem wd_co_X1_canMove : (.code yX1_canMove cX1_canMove 3 (Option.some FieldType.boolean) : Cond) ∈ wG := wG_of 625 (by decide +kernel) (by decide +kernel)
theorem wd_mlL_139 : (.methodLink RL 139 yX1_way : Cond) ∈ wG := wG_of 626 (by decide +kernel) (by decide +kernel)
theorem wd_im_X1_way : (.instanceMethod yX1_way : Cond) ∈ wG := wG_of 627 (by decide +kernel) (by decide +kernel)
theorem wd_se_X1_way : (.selects RX1 yX1_way yX1_way : Cond) ∈ wG := wG_of 628 (by decide +kernel) (by decide +kernel)
theorem wd_co_X1_way : (.code yX1_way cX1_way 1 (Option.some FieldType.int) : Cond) ∈ wG := wG_of 629 (by decide +kernel) (by decide +kernel)
theorem wd_ml1_114 : (.methodLink RX1 114 yX1_wayFrom : Cond) ∈ wG := wG_of 630 (by decide +kernel) (by decide +kernel)
theorem wd_im_X1_wayFrom : (.instanceMethod yX1_wayFrom : Cond) ∈ wG := wG_of 632 (by decide +kernel) (by decide +kernel)
theorem wd_co_X1_wayFrom : (.code yX1_wayFrom cX1_wayFrom 2 (Option.some FieldType.int) : Cond) ∈ wG := wG_of 633 (by decide +kernel) (by decide +kernel)
theorem wd_ml1_111 : (.methodLink RX1 111 yX1_search : Cond) ∈ wG := wG_of 634 (by decide +kernel) (by decide +kernel)
theorem wd_im_X1_search : (.instanceMethod yX1_search : Cond) ∈ wG := wG_of 636 (by decide +kernel) (by decide +kernel)
theorem wd_co_X1_search : (.code yX1_search cX1_search 5 (Option.none : Option FieldType) : Cond) ∈ wG := wG_of 637 (by decide +kernel) (by decide +kernel)
theorem wd_mlL_142 : (.methodLink RL 142 yX1_wayByDisks : Cond) ∈ wG := wG_of 638 (by decide +kernel) (by decide +kernel)
theorem wd_im_X1_wayByDisks : (.instanceMethod yX1_wayByDisks : Cond) ∈ wG := wG_of 639 (by decide +kernel) (by decide +kernel)
theorem wd_se_X1_wayByDisks : (.selects RX1 yX1_wayByDisks yX1_wayByDisks : Cond) ∈ wG := wG_of 640 (by decide +kernel) (by decide +kernel)
theorem wd_co_X1_wayByDisks : (.code yX1_wayByDisks cX1_wayByDisks 8 (Option.some FieldType.int) : Cond) ∈ wG := wG_of 641 (by decide +kernel) (by decide +kernel)
theorem wd_ml1_117 : (.methodLink RX1 117 yX1_gather : Cond) ∈ wG := wG_of 642 (by decide +kernel) (by decide +kernel)
theorem wd_im_X1_gather : (.instanceMethod yX1_gather : Cond) ∈ wG := wG_of 644 (by decide +kernel) (by decide +kernel)
theorem wd_co_X1_gather : (.code yX1_gather cX1_gather 8 (Option.some FieldType.int) : Cond) ∈ wG := wG_of 645 (by decide +kernel) (by decide +kernel)
theorem wd_mlL_145 : (.methodLink RL 145 yX1_lost : Cond) ∈ wG := wG_of 646 (by decide +kernel) (by decide +kernel)
theorem wd_im_X1_lost : (.instanceMethod yX1_lost : Cond) ∈ wG := wG_of 647 (by decide +kernel) (by decide +kernel)
theorem wd_se_X1_lost : (.selects RX1 yX1_lost yX1_lost : Cond) ∈ wG := wG_of 648 (by decide +kernel) (by decide +kernel)
theorem wd_co_X1_lost : (.code yX1_lost cX1_lost 3 (Option.some FieldType.int) : Cond) ∈ wG := wG_of 649 (by decide +kernel) (by decide +kernel)
theorem wd_mlL_149 : (.methodLink RL 149 yX1_next : Cond) ∈ wG := wG_of 650 (by decide +kernel) (by decide +kernel)
theorem wd_im_X1_next : (.instanceMethod yX1_next : Cond) ∈ wG := wG_of 651 (by decide +kernel) (by decide +kernel)
theorem wd_se_X1_next : (.selects RX1 yX1_next yX1_next : Cond) ∈ wG := wG_of 652 (by decide +kernel) (by decide +kernel)
theorem wd_co_X1_next : (.code yX1_next cX1_next 5 (Option.some FieldType.int) : Cond) ∈ wG := wG_of 653 (by decide +kernel) (by decide +kernel)
theorem wd_mlL_153 : (.methodLink RL 153 yX1_reachable : Cond) ∈ wG := wG_of 654 (by decide +kernel) (by decide +kernel)
theorem wd_im_X1_reachable : (.instanceMethod yX1_reachable : Cond) ∈ wG := wG_of 655 (by decide +kernel) (by decide +kernel)
theorem wd_se_X1_reachable : (.selects RX1 yX1_reachable yX1_reachable : Cond) ∈ wG := wG_of 656 (by decide +kernel) (by decide +kernel)
theorem wd_co_X1_reachable : (.code yX1_reachable cX1_reachable 1 (Option.some FieldType.int) : Cond) ∈ wG := wG_of 657 (by decide +kernel) (by decide +kernel)
theorem wd_mlL_156 : (.methodLink RL 156 yX1_splits : Cond) ∈ wG := wG_of 658 (by decide +kernel) (by decide +kernel)
theorem wd_im_X1_splits : (.instanceMethod yX1_splits : Cond) ∈ wG := wG_of 659 (by decide +kernel) (by decide +kernel)
theorem wd_se_X1_splits : (.selects RX1 yX1_splits yX1_splits : Cond) ∈ wG := wG_of 660 (by decide +kernel) (by decide +kernel)
theorem wd_co_X1_splits : (.code yX1_splits cX1_splits 8 (Option.some FieldType.int) : Cond) ∈ wG := wG_of 661 (by decide +kernel) (by decide +kernel)
theorem wd_ac_long : (.arrayClass .long : Cond) ∈ wG := wG_of 662 (by decide +kernel) (by decide +kernel)
theorem wd_se_X0_lay : (.selects RX0 yX0_lay yX0_lay : Cond) ∈ wG := wG_of 0 (by decide +kernel) (by decide +kernel)
theorem wd_se_X0_keepsRule : (.selects RX0 yX0_keepsRule yX0_keepsRule : Cond) ∈ wG := wG_of 1 (by decide +kernel) (by decide +kernel)
theorem wd_se_X0_diskBelow : (.selects RX0 yX0_diskBelow yX0_diskBelow : Cond) ∈ wG := wG_of 2 (by decide +kernel) (by decide +kernel)
theorem wd_se_X0_pegIn : (.selects RX0 yX0_pegIn yX0_pegIn : Cond) ∈ wG := wG_of 3 (by decide +kernel) (by decide +kernel)
theorem wd_se_X0_mayLieOn : (.selects RX0 yX0_mayLieOn yX0_mayLieOn : Cond) ∈ wG := wG_of 4 (by decide +kernel) (by decide +kernel)
theorem wd_se_X0_wayFrom : (.selects RX0 yX0_wayFrom yX0_wayFrom : Cond) ∈ wG := wG_of 5 (by decide +kernel) (by decide +kernel)
theorem wd_se_X0_search : (.selects RX0 yX0_search yX0_search : Cond) ∈ wG := wG_of 6 (by decide +kernel) (by decide +kernel)
theorem wd_se_X0_isNumber : (.selects RX0 yX0_isNumber yX0_isNumber : Cond) ∈ wG := wG_of 7 (by decide +kernel) (by decide +kernel)
theorem wd_se_X0_searchFrom : (.selects RX0 yX0_searchFrom yX0_searchFrom : Cond) ∈ wG := wG_of 8 (by decide +kernel) (by decide +kernel)
theorem wd_se_X0_readTops : (.selects RX0 yX0_readTops yX0_readTops : Cond) ∈ wG := wG_of 9 (by decide +kernel) (by decide +kernel)
theorem wd_se_X0_isPeg : (.selects RX0 yX0_isPeg yX0_isPeg : Cond) ∈ wG := wG_of 10 (by decide +kernel) (by decide +kernel)
theorem wd_se_X0_isStep : (.selects RX0 yX0_isStep yX0_isStep : Cond) ∈ wG := wG_of 11 (by decide +kernel) (by decide +kernel)
theorem wd_se_X0_fits : (.selects RX0 yX0_fits yX0_fits : Cond) ∈ wG := wG_of 12 (by decide +kernel) (by decide +kernel)
theorem wd_se_X0_behindMove : (.selects RX0 yX0_behindMove yX0_behindMove : Cond) ∈ wG := wG_of 13 (by decide +kernel) (by decide +kernel)
theorem wd_se_X0_isDisk : (.selects RX0 yX0_isDisk yX0_isDisk : Cond) ∈ wG := wG_of 14 (by decide +kernel) (by decide +kernel)
theorem wd_se_X0_isPossible : (.selects RX0 yX0_isPossible yX0_isPossible : Cond) ∈ wG := wG_of 15 (by decide +kernel) (by decide +kernel)
theorem wd_se_X0_isAnyBarred : (.selects RX0 yX0_isAnyBarred yX0_isAnyBarred : Cond) ∈ wG := wG_of 17 (by decide +kernel) (by decide +kernel)
theorem wd_se_X0_gather : (.selects RX0 yX0_gather yX0_gather : Cond) ∈ wG := wG_of 18 (by decide +kernel) (by decide +kernel)
theorem wd_se_X1_lay : (.selects RX1 yX1_lay yX1_lay : Cond) ∈ wG := wG_of 19 (by decide +kernel) (by decide +kernel)
theorem wd_se_X1_goesWell : (.selects RX1 yX1_goesWell yX1_goesWell : Cond) ∈ wG := wG_of 20 (by decide +kernel) (by decide +kernel)
theorem wd_se_X1_all : (.selects RX1 yX1_all yX1_all : Cond) ∈ wG := wG_of 21 (by decide +kernel) (by decide +kernel)
theorem wd_se_X1_isDisk : (.selects RX1 yX1_isDisk yX1_isDisk : Cond) ∈ wG := wG_of 22 (by decide +kernel) (by decide +kernel)
theorem wd_se_X1_isPeg : (.selects RX1 yX1_isPeg yX1_isPeg : Cond) ∈ wG := wG_of 23 (by decide +kernel) (by decide +kernel)
theorem wd_se_X1_numberOfNow : (.selects RX1 yX1_numberOfNow yX1_numberOfNow : Cond) ∈ wG := wG_of 24 (by decide +kernel) (by decide +kernel)
theorem wd_se_X1_behind : (.selects RX1 yX1_behind yX1_behind : Cond) ∈ wG := wG_of 25 (by decide +kernel) (by decide +kernel)
theorem wd_se_X1_open : (.selects RX1 yX1_open yX1_open : Cond) ∈ wG := wG_of 26 (by decide +kernel) (by decide +kernel)
theorem wd_se_X1_topOf : (.selects RX1 yX1_topOf yX1_topOf : Cond) ∈ wG := wG_of 27 (by decide +kernel) (by decide +kernel)
theorem wd_se_X1_isFine : (.selects RX1 yX1_isFine yX1_isFine : Cond) ∈ wG := wG_of 28 (by decide +kernel) (by decide +kernel)
theorem wd_se_X1_numberOfGoal : (.selects RX1 yX1_numberOfGoal yX1_numberOfGoal : Cond) ∈ wG := wG_of 29 (by decide +kernel) (by decide +kernel)
theorem wd_se_X1_isLawfulNumber : (.selects RX1 yX1_isLawfulNumber yX1_isLawfulNumber : Cond) ∈ wG := wG_of 30 (by decide +kernel) (by decide +kernel)
theorem wd_se_X1_wayFrom : (.selects RX1 yX1_wayFrom yX1_wayFrom : Cond) ∈ wG := wG_of 31 (by decide +kernel) (by decide +kernel)
theorem wd_se_X1_search : (.selects RX1 yX1_search yX1_search : Cond) ∈ wG := wG_of 32 (by decide +kernel) (by decide +kernel)
theorem wd_se_X1_gather : (.selects RX1 yX1_gather yX1_gather : Cond) ∈ wG := wG_of 33 (by decide +kernel) (by decide +kernel)
theorem wG_X0 : ∀ w ∈ u_ws RX0 TX0 16, w ∈ wG := by
  intro w hw
  obtain ⟨k, hk, rfl⟩ := List.mem_map.mp hw
  have hk := List.mem_range.mp hk
  rcases (show k = 0 ∨ k = 1 ∨ k = 2 ∨ k = 3 ∨ k = 4 ∨ k = 5 ∨ k = 6 ∨ k = 7 ∨ k = 8 ∨ k = 9 ∨ k = 10 ∨ k = 11 ∨ k = 12 ∨ k = 13 ∨ k = 14 ∨ k = 15 by omega) with rfl | rfl | rfl | rfl | rfl | rfl | rfl | rfl | rfl | rfl | rfl | rfl | rfl | rfl | rfl | rfl
  · exact wd_la0_pegCount
  · exact wd_la0_diskCount
  · exact wd_la0_ruleOn
  · exact wd_la0_weight
  · exact wd_la0_colour
  · exact wd_la0_allowed
  · exact wd_la0_now
  · exact wd_la0_target
  · exact wd_la0_trail
  · exact wd_la0_moveCount
  · exact wd_la0_tops
  · exact wd_la0_far
  · exact wd_la0_measured
  · exact wd_la0_seen
  · exact wd_la0_queue
  · exact wd_la0_splitNumbers
theorem wG_X1 : ∀ w ∈ u_ws RX1 TX1 17, w ∈ wG := by
  intro w hw
  obtain ⟨k, hk, rfl⟩ := List.mem_map.mp hw
  have hk := List.mem_range.mp hk
  rcases (show k = 0 ∨ k = 1 ∨ k = 2 ∨ k = 3 ∨ k = 4 ∨ k = 5 ∨ k = 6 ∨ k = 7 ∨ k = 8 ∨ k = 9 ∨ k = 10 ∨ k = 11 ∨ k = 12 ∨ k = 13 ∨ k = 14 ∨ k = 15 ∨ k = 16 by omega) with rfl | rfl | rfl | rfl | rfl | rfl | rfl | rfl | rfl | rfl | rfl | rfl | rfl | rfl | rfl | rfl | rfl
  · exact wd_la1_thrown
  · exact wd_la1_pegs
  · exact wd_la1_disks
  · exact wd_la1_now
  · exact wd_la1_goal
  · exact wd_la1_colours
  · exact wd_la1_rule
  · exact wd_la1_isBarred
  · exact wd_la1_froms
  · exact wd_la1_tos
  · exact wd_la1_moves
  · exact wd_la1_start
  · exact wd_la1_look
  · exact wd_la1_far
  · exact wd_la1_queue
  · exact wd_la1_queued
  · exact wd_la1_numbers
theorem gw_0_35 : GoodIn wG (wsS RX0 35 yX0_splitTable (Cond.code yX0_splitTable cX0_splitTable 3 (Option.some (FieldType.array FieldType.int)) :: wG)) := wG_S wd_ml0_35 wd_st_X0_splitTable wd_in_0 wd_co_X0_splitTable
theorem gw_0_156 : GoodIn wG (wsS RX0 156 yX0_splitIndex (Cond.code yX0_splitIndex cX0_splitIndex 2 (Option.some FieldType.int) :: wG)) := wG_S wd_ml0_156 wd_st_X0_splitIndex wd_in_0 wd_co_X0_splitIndex
theorem gw_0_179 : GoodIn wG (wsS RX0 179 yX0_splitNumber (Cond.code yX0_splitNumber cX0_splitNumber 6 (Option.some FieldType.int) :: wG)) := wG_S wd_ml0_179 wd_st_X0_splitNumber wd_in_0 wd_co_X0_splitNumber
theorem gw_0_42 : GoodIn wG (wsV RX0 42 RX0 yX0_lay (Cond.code yX0_lay cX0_lay 5 (Option.none : Option FieldType) :: wG)) := wG_V wd_ml0_42 wd_im_X0_lay wd_se_X0_lay wd_in_0 wd_co_X0_lay
theorem gw_L_85 : GoodIn wG (wsV RL 85 RX0 yX0_setRule (Cond.code yX0_setRule cX0_setRule 3 (Option.some FieldType.boolean) :: wG)) := wG_V wd_mlL_85 wd_im_X0_setRule wd_se_X0_setRule wd_in_0 wd_co_X0_setRule
theorem gw_L_97 : GoodIn wG (wsV RL 97 RX0 yX0_layStart (Cond.code yX0_layStart cX0_layStart 2 (Option.some FieldType.int) :: wG)) := wG_V wd_mlL_97 wd_im_X0_layStart wd_se_X0_layStart wd_in_0 wd_co_X0_layStart
theorem gw_L_101 : GoodIn wG (wsV RL 101 RX0 yX0_pegs (Cond.code yX0_pegs cX0_pegs 1 (Option.some FieldType.int) :: wG)) := wG_V wd_mlL_101 wd_im_X0_pegs wd_se_X0_pegs wd_in_0 wd_co_X0_pegs
theorem gw_L_105 : GoodIn wG (wsV RL 105 RX0 yX0_disks (Cond.code yX0_disks cX0_disks 1 (Option.some FieldType.int) :: wG)) := wG_V wd_mlL_105 wd_im_X0_disks wd_se_X0_disks wd_in_0 wd_co_X0_disks
theorem gw_L_109 : GoodIn wG (wsV RL 109 RX0 yX0_moves (Cond.code yX0_moves cX0_moves 1 (Option.some FieldType.int) :: wG)) := wG_V wd_mlL_109 wd_im_X0_moves wd_se_X0_moves wd_in_0 wd_co_X0_moves
theorem gw_L_120 : GoodIn wG (wsV RL 120 RX0 yX0_arrangement (Cond.code yX0_arrangement cX0_arrangement 1 (Option.some FieldType.int) :: wG)) := wG_V wd_mlL_120 wd_im_X0_arrangement wd_se_X0_arrangement wd_in_0 wd_co_X0_arrangement
theorem gw_L_124 : GoodIn wG (wsV RL 124 RX0 yX0_goal (Cond.code yX0_goal cX0_goal 1 (Option.some FieldType.int) :: wG)) := wG_V wd_mlL_124 wd_im_X0_goal wd_se_X0_goal wd_in_0 wd_co_X0_goal
theorem gw_L_128 : GoodIn wG (wsV RL 128 RX0 yX0_isLawful (Cond.code yX0_isLawful cX0_isLawful 1 (Option.some FieldType.boolean) :: wG)) := wG_V wd_mlL_128 wd_im_X0_isLawful wd_se_X0_isLawful wd_in_0 wd_co_X0_isLawful
theorem gw_0_124 : GoodIn wG (wsV RX0 124 RX0 yX0_keepsRule (Cond.code yX0_keepsRule cX0_keepsRule 3 (Option.some FieldType.boolean) :: wG)) := wG_V wd_ml0_124 wd_im_X0_keepsRule wd_se_X0_keepsRule wd_in_0 wd_co_X0_keepsRule
theorem gw_0_159 : GoodIn wG (wsV RX0 159 RX0 yX0_diskBelow (Cond.code yX0_diskBelow cX0_diskBelow 5 (Option.some FieldType.int) :: wG)) := wG_V wd_ml0_159 wd_im_X0_diskBelow wd_se_X0_diskBelow wd_in_0 wd_co_X0_diskBelow
theorem gw_0_80 : GoodIn wG (wsV RX0 80 RX0 yX0_pegIn (Cond.code yX0_pegIn cX0_pegIn 4 (Option.some FieldType.int) :: wG)) := wG_V wd_ml0_80 wd_im_X0_pegIn wd_se_X0_pegIn wd_in_0 wd_co_X0_pegIn
theorem gw_0_162 : GoodIn wG (wsV RX0 162 RX0 yX0_mayLieOn (Cond.code yX0_mayLieOn cX0_mayLieOn 3 (Option.some FieldType.boolean) :: wG)) := wG_V wd_ml0_162 wd_im_X0_mayLieOn wd_se_X0_mayLieOn wd_in_0 wd_co_X0_mayLieOn
theorem gw_L_136 : GoodIn wG (wsV RL 136 RX0 yX0_way (Cond.code yX0_way cX0_way 1 (Option.some FieldType.int) :: wG)) := wG_V wd_mlL_136 wd_im_X0_way wd_se_X0_way wd_in_0 wd_co_X0_way
theorem gw_0_127 : GoodIn wG (wsV RX0 127 RX0 yX0_wayFrom (Cond.code yX0_wayFrom cX0_wayFrom 2 (Option.some FieldType.int) :: wG)) := wG_V wd_ml0_127 wd_im_X0_wayFrom wd_se_X0_wayFrom wd_in_0 wd_co_X0_wayFrom
theorem gw_0_150 : GoodIn wG (wsV RX0 150 RX0 yX0_search (Cond.code yX0_search cX0_search 6 (Option.some FieldType.int) :: wG)) := wG_V wd_ml0_150 wd_im_X0_search wd_se_X0_search wd_in_0 wd_co_X0_search
theorem gw_0_168 : GoodIn wG (wsV RX0 168 RX0 yX0_isNumber (Cond.code yX0_isNumber cX0_isNumber 2 (Option.some FieldType.boolean) :: wG)) := wG_V wd_ml0_168 wd_im_X0_isNumber wd_se_X0_isNumber wd_in_0 wd_co_X0_isNumber
theorem gw_0_171 : GoodIn wG (wsV RX0 171 RX0 yX0_searchFrom (Cond.code yX0_searchFrom cX0_searchFrom 9 (Option.some FieldType.int) :: wG)) := wG_V wd_ml0_171 wd_im_X0_searchFrom wd_se_X0_searchFrom wd_in_0 wd_co_X0_searchFrom
theorem gw_0_120 : GoodIn wG (wsV RX0 120 RX0 yX0_readTops (Cond.code yX0_readTops cX0_readTops 4 (Option.none : Option FieldType) :: wG)) := wG_V wd_ml0_120 wd_im_X0_readTops wd_se_X0_readTops wd_in_0 wd_co_X0_readTops
theorem gw_0_61 : GoodIn wG (wsV RX0 61 RX0 yX0_isPeg (Cond.code yX0_isPeg cX0_isPeg 2 (Option.some FieldType.boolean) :: wG)) := wG_V wd_ml0_61 wd_im_X0_isPeg wd_se_X0_isPeg wd_in_0 wd_co_X0_isPeg
theorem gw_0_175 : GoodIn wG (wsV RX0 175 RX0 yX0_isStep (Cond.code yX0_isStep cX0_isStep 5 (Option.some FieldType.boolean) :: wG)) := wG_V wd_ml0_175 wd_im_X0_isStep wd_se_X0_isStep wd_in_0 wd_co_X0_isStep
theorem gw_0_165 : GoodIn wG (wsV RX0 165 RX0 yX0_fits (Cond.code yX0_fits cX0_fits 5 (Option.some FieldType.boolean) :: wG)) := wG_V wd_ml0_165 wd_im_X0_fits wd_se_X0_fits wd_in_0 wd_co_X0_fits
theorem gw_0_95 : GoodIn wG (wsS RX0 95 yX0_pairOf (Cond.code yX0_pairOf cX0_pairOf 2 (Option.some FieldType.int) :: wG)) := wG_S wd_ml0_95 wd_st_X0_pairOf wd_in_0 wd_co_X0_pairOf
theorem gw_0_111 : GoodIn wG (wsV RX0 111 RX0 yX0_behindMove (Cond.code yX0_behindMove cX0_behindMove 5 (Option.some FieldType.int) :: wG)) := wG_V wd_ml0_111 wd_im_X0_behindMove wd_se_X0_behindMove wd_in_0 wd_co_X0_behindMove
theorem gw_0_57 : GoodIn wG (wsV RX0 57 RX0 yX0_isDisk (Cond.code yX0_isDisk cX0_isDisk 2 (Option.some FieldType.boolean) :: wG)) := wG_V wd_ml0_57 wd_im_X0_isDisk wd_se_X0_isDisk wd_in_0 wd_co_X0_isDisk
theorem gw_L_146 : GoodIn wG (wsV RL 146 RX0 yX0_next (Cond.code yX0_next cX0_next 4 (Option.some FieldType.int) :: wG)) := wG_V wd_mlL_146 wd_im_X0_next wd_se_X0_next wd_in_0 wd_co_X0_next
theorem gw_0_105 : GoodIn wG (wsV RX0 105 RX0 yX0_isPossible (Cond.code yX0_isPossible cX0_isPossible 3 (Option.some FieldType.boolean) :: wG)) := wG_V wd_ml0_105 wd_im_X0_isPossible wd_se_X0_isPossible wd_in_0 wd_co_X0_isPossible
theorem gw_L_150 : GoodIn wG (wsV RL 150 RX0 yX0_reachable (Cond.code yX0_reachable cX0_reachable 1 (Option.some FieldType.int) :: wG)) := wG_V wd_mlL_150 wd_im_X0_reachable wd_se_X0_reachable wd_in_0 wd_co_X0_reachable
theorem gw_L_63 : GoodIn wG (va_wsS RL 63 yL_begin (Cond.codeWith yL_begin cL_begin 5 (Option.some FieldType.int) [(0, 10, 13, 13)] :: wG)) := wG_SW wd_mlL_63 wd_st_L_begin wd_in_L wd_cw_L_begin
theorem gw_L_7 : GoodIn wG (wsV RL 7 RX0 yX0_begin (Cond.code yX0_begin cX0_begin 3 (Option.some FieldType.int) :: wG)) := wG_V wd_mlL_7 wd_im_X0_begin wd_se_X0_begin wd_in_0 wd_co_X0_begin
theorem gw_L_72 : GoodIn wG (va_wsS RL 72 yL_put (Cond.codeWith yL_put cL_put 5 (Option.some FieldType.int) [(0, 10, 13, 18), (0, 10, 17, 20)] :: wG)) := wG_SW wd_mlL_72 wd_st_L_put wd_in_L wd_cw_L_put
theorem gw_L_15 : GoodIn wG (wsV RL 15 RX0 yX0_put (Cond.code yX0_put cX0_put 4 (Option.some FieldType.int) :: wG)) := wG_V wd_mlL_15 wd_im_X0_put wd_se_X0_put wd_in_0 wd_co_X0_put
theorem gw_L_75 : GoodIn wG (va_wsS RL 75 yL_aim (Cond.codeWith yL_aim cL_aim 5 (Option.some FieldType.int) [(0, 10, 13, 18)] :: wG)) := wG_SW wd_mlL_75 wd_st_L_aim wd_in_L wd_cw_L_aim
theorem gw_L_22 : GoodIn wG (wsV RL 22 RX0 yX0_aim (Cond.code yX0_aim cX0_aim 4 (Option.some FieldType.int) :: wG)) := wG_V wd_mlL_22 wd_im_X0_aim wd_se_X0_aim wd_in_0 wd_co_X0_aim
theorem gw_L_78 : GoodIn wG (va_wsS RL 78 yL_allow (Cond.codeWith yL_allow cL_allow 6 (Option.some FieldType.int) [(0, 19, 22, 18), (0, 19, 26, 13)] :: wG)) := wG_SW wd_mlL_78 wd_st_L_allow wd_in_L wd_cw_L_allow
theorem gw_L_25 : GoodIn wG (wsV RL 25 RX0 yX0_allow (Cond.code yX0_allow cX0_allow 6 (Option.some FieldType.boolean) :: wG)) := wG_V wd_mlL_25 wd_im_X0_allow wd_se_X0_allow wd_in_0 wd_co_X0_allow
theorem gw_L_82 : GoodIn wG (va_wsS RL 82 yL_setColour (Cond.codeWith yL_setColour cL_setColour 5 (Option.some FieldType.int) [(0, 10, 13, 18), (0, 10, 17, 13)] :: wG)) := wG_SW wd_mlL_82 wd_st_L_setColour wd_in_L wd_cw_L_setColour
theorem gw_L_29 : GoodIn wG (wsV RL 29 RX0 yX0_setColour (Cond.code yX0_setColour cX0_setColour 4 (Option.some FieldType.int) :: wG)) := wG_V wd_mlL_29 wd_im_X0_setColour wd_se_X0_setColour wd_in_0 wd_co_X0_setColour
theorem gw_L_90 : GoodIn wG (va_wsS RL 90 yL_move (Cond.codeWith yL_move cL_move 5 (Option.some FieldType.int) [(0, 10, 13, 18), (0, 10, 17, 20)] :: wG)) := wG_SW wd_mlL_90 wd_st_L_move wd_in_L wd_cw_L_move
theorem gw_L_32 : GoodIn wG (wsV RL 32 RX0 yX0_move (Cond.code yX0_move cX0_move 4 (Option.some FieldType.int) :: wG)) := wG_V wd_mlL_32 wd_im_X0_move wd_se_X0_move wd_in_0 wd_co_X0_move
theorem gw_L_93 : GoodIn wG (va_wsS RL 93 yL_takeBack (Cond.codeWith yL_takeBack cL_takeBack 3 (Option.some FieldType.int) [(0, 8, 11, 20)] :: wG)) := wG_SW wd_mlL_93 wd_st_L_takeBack wd_in_L wd_cw_L_takeBack
theorem gw_L_35 : GoodIn wG (wsV RL 35 RX0 yX0_takeBack (Cond.code yX0_takeBack cX0_takeBack 1 (Option.some FieldType.int) :: wG)) := wG_V wd_mlL_35 wd_im_X0_takeBack wd_se_X0_takeBack wd_in_0 wd_co_X0_takeBack
theorem gw_L_113 : GoodIn wG (va_wsS RL 113 yL_pegOf (Cond.codeWith yL_pegOf cL_pegOf 4 (Option.some FieldType.int) [(0, 9, 12, 18)] :: wG)) := wG_SW wd_mlL_113 wd_st_L_pegOf wd_in_L wd_cw_L_pegOf
theorem gw_L_39 : GoodIn wG (wsV RL 39 RX0 yX0_pegOf (Cond.code yX0_pegOf cX0_pegOf 2 (Option.some FieldType.int) :: wG)) := wG_V wd_mlL_39 wd_im_X0_pegOf wd_se_X0_pegOf wd_in_0 wd_co_X0_pegOf
theorem gw_L_117 : GoodIn wG (va_wsS RL 117 yL_top (Cond.codeWith yL_top cL_top 4 (Option.some FieldType.int) [(0, 9, 12, 18)] :: wG)) := wG_SW wd_mlL_117 wd_st_L_top wd_in_L wd_cw_L_top
theorem gw_L_43 : GoodIn wG (wsV RL 43 RX0 yX0_top (Cond.code yX0_top cX0_top 2 (Option.some FieldType.int) :: wG)) := wG_V wd_mlL_43 wd_im_X0_top wd_se_X0_top wd_in_0 wd_co_X0_top
theorem gw_L_133 : GoodIn wG (va_wsS RL 133 yL_canMove (Cond.codeWith yL_canMove cL_canMove 5 (Option.some FieldType.int) [(0, 17, 20, 18)] :: wG)) := wG_SW wd_mlL_133 wd_st_L_canMove wd_in_L wd_cw_L_canMove
theorem gw_L_46 : GoodIn wG (wsV RL 46 RX0 yX0_canMove (Cond.code yX0_canMove cX0_canMove 3 (Option.some FieldType.boolean) :: wG)) := wG_V wd_mlL_46 wd_im_X0_canMove wd_se_X0_canMove wd_in_0 wd_co_X0_canMove
theorem gw_L_140 : GoodIn wG (va_wsS RL 140 yL_wayByDisks (Cond.codeWith yL_wayByDisks cL_wayByDisks 3 (Option.some FieldType.int) [(0, 8, 11, 20)] :: wG)) := wG_SW wd_mlL_140 wd_st_L_wayByDisks wd_in_L wd_cw_L_wayByDisks
theorem gw_L_50 : GoodIn wG (wsV RL 50 RX0 yX0_wayByDisks (Cond.code yX0_wayByDisks cX0_wayByDisks 7 (Option.some FieldType.int) :: wG)) := wG_V wd_mlL_50 wd_im_X0_wayByDisks wd_se_X0_wayByDisks wd_in_0 wd_co_X0_wayByDisks
theorem gw_0_131 : GoodIn wG (wsV RX0 131 RX0 yX0_isAnyBarred (Cond.code yX0_isAnyBarred cX0_isAnyBarred 2 (Option.some FieldType.boolean) :: wG)) := wG_V wd_ml0_131 wd_im_X0_isAnyBarred wd_se_X0_isAnyBarred wd_in_0 wd_co_X0_isAnyBarred
theorem gw_0_137 : GoodIn wG (wsS RX0 137 yX0_thirdPeg (Cond.code yX0_thirdPeg cX0_thirdPeg 2 (Option.some FieldType.int) :: wG)) := wG_S wd_ml0_137 wd_st_X0_thirdPeg wd_in_0 wd_co_X0_thirdPeg
theorem gw_0_140 : GoodIn wG (wsV RX0 140 RX0 yX0_gather (Cond.code yX0_gather cX0_gather 8 (Option.some FieldType.int) :: wG)) := wG_V wd_ml0_140 wd_im_X0_gather wd_se_X0_gather wd_in_0 wd_co_X0_gather
theorem gw_L_143 : GoodIn wG (va_wsS RL 143 yL_lost (Cond.codeWith yL_lost cL_lost 3 (Option.some FieldType.int) [(0, 8, 11, 20)] :: wG)) := wG_SW wd_mlL_143 wd_st_L_lost wd_in_L wd_cw_L_lost
theorem gw_L_53 : GoodIn wG (wsV RL 53 RX0 yX0_lost (Cond.code yX0_lost cX0_lost 3 (Option.some FieldType.int) :: wG)) := wG_V wd_mlL_53 wd_im_X0_lost wd_se_X0_lost wd_in_0 wd_co_X0_lost
theorem gw_L_154 : GoodIn wG (va_wsS RL 154 yL_splits (Cond.codeWith yL_splits cL_splits 5 (Option.some FieldType.int) [(0, 10, 13, 13)] :: wG)) := wG_SW wd_mlL_154 wd_st_L_splits wd_in_L wd_cw_L_splits
theorem gw_L_56 : GoodIn wG (wsV RL 56 RX0 yX0_splits (Cond.code yX0_splits cX0_splits 3 (Option.some FieldType.int) :: wG)) := wG_V wd_mlL_56 wd_im_X0_splits wd_se_X0_splits wd_in_0 wd_co_X0_splits
theorem gw_1_48 : GoodIn wG (wsV RX1 48 RX1 yX1_lay (Cond.code yX1_lay cX1_lay 4 (Option.none : Option FieldType) :: wG)) := wG_V wd_ml1_48 wd_im_X1_lay wd_se_X1_lay wd_in_1 wd_co_X1_lay
theorem gw_L_69 : GoodIn wG (wsV RL 69 RX1 yX1_thrown (Cond.code yX1_thrown cX1_thrown 1 (Option.some FieldType.int) :: wG)) := wG_V wd_mlL_69 wd_im_X1_thrown wd_se_X1_thrown wd_in_1 wd_co_X1_thrown
theorem gw_L_68 : GoodIn wG (wsV RL 68 RX1 yX1_begin (Cond.code yX1_begin cX1_begin 3 (Option.some FieldType.int) :: wG)) := wG_V wd_mlL_68 wd_im_X1_begin wd_se_X1_begin wd_in_1 wd_co_X1_begin
theorem gw_1_55 : GoodIn wG (wsS RX1 55 yX1_in (Cond.code yX1_in cX1_in 3 (Option.some FieldType.boolean) :: wG)) := wG_S wd_ml1_55 wd_st_X1_in wd_in_1 wd_co_X1_in
theorem gw_1_66 : GoodIn wG (wsV RX1 66 RX1 yX1_goesWell (Cond.code yX1_goesWell cX1_goesWell 2 (Option.some FieldType.boolean) :: wG)) := wG_V wd_ml1_66 wd_im_X1_goesWell wd_se_X1_goesWell wd_in_1 wd_co_X1_goesWell
theorem gw_1_70 : GoodIn wG (wsV RX1 70 RX1 yX1_all (Cond.code yX1_all cX1_all 3 (Option.some FieldType.int) :: wG)) := wG_V wd_ml1_70 wd_im_X1_all wd_se_X1_all wd_in_1 wd_co_X1_all
theorem gw_L_74 : GoodIn wG (wsV RL 74 RX1 yX1_put (Cond.code yX1_put cX1_put 4 (Option.some FieldType.int) :: wG)) := wG_V wd_mlL_74 wd_im_X1_put wd_se_X1_put wd_in_1 wd_co_X1_put
theorem gw_1_74 : GoodIn wG (wsV RX1 74 RX1 yX1_isDisk (Cond.code yX1_isDisk cX1_isDisk 2 (Option.some FieldType.boolean) :: wG)) := wG_V wd_ml1_74 wd_im_X1_isDisk wd_se_X1_isDisk wd_in_1 wd_co_X1_isDisk
theorem gw_1_77 : GoodIn wG (wsV RX1 77 RX1 yX1_isPeg (Cond.code yX1_isPeg cX1_isPeg 2 (Option.some FieldType.boolean) :: wG)) := wG_V wd_ml1_77 wd_im_X1_isPeg wd_se_X1_isPeg wd_in_1 wd_co_X1_isPeg
theorem gw_L_77 : GoodIn wG (wsV RL 77 RX1 yX1_aim (Cond.code yX1_aim cX1_aim 4 (Option.some FieldType.int) :: wG)) := wG_V wd_mlL_77 wd_im_X1_aim wd_se_X1_aim wd_in_1 wd_co_X1_aim
theorem gw_L_81 : GoodIn wG (wsV RL 81 RX1 yX1_allow (Cond.code yX1_allow cX1_allow 5 (Option.some FieldType.boolean) :: wG)) := wG_V wd_mlL_81 wd_im_X1_allow wd_se_X1_allow wd_in_1 wd_co_X1_allow
theorem gw_L_84 : GoodIn wG (wsV RL 84 RX1 yX1_setColour (Cond.code yX1_setColour cX1_setColour 4 (Option.some FieldType.int) :: wG)) := wG_V wd_mlL_84 wd_im_X1_setColour wd_se_X1_setColour wd_in_1 wd_co_X1_setColour
theorem gw_L_89 : GoodIn wG (wsV RL 89 RX1 yX1_setRule (Cond.code yX1_setRule cX1_setRule 3 (Option.some FieldType.boolean) :: wG)) := wG_V wd_mlL_89 wd_im_X1_setRule wd_se_X1_setRule wd_in_1 wd_co_X1_setRule
theorem gw_L_92 : GoodIn wG (wsV RL 92 RX1 yX1_move (Cond.code yX1_move cX1_move 6 (Option.some FieldType.int) :: wG)) := wG_V wd_mlL_92 wd_im_X1_move wd_se_X1_move wd_in_1 wd_co_X1_move
theorem gw_1_92 : GoodIn wG (wsV RX1 92 RX1 yX1_numberOfNow (Cond.code yX1_numberOfNow cX1_numberOfNow 3 (Option.some FieldType.int) :: wG)) := wG_V wd_ml1_92 wd_im_X1_numberOfNow wd_se_X1_numberOfNow wd_in_1 wd_co_X1_numberOfNow
theorem gw_1_95 : GoodIn wG (wsV RX1 95 RX1 yX1_behind (Cond.code yX1_behind cX1_behind 8 (Option.some FieldType.int) :: wG)) := wG_V wd_ml1_95 wd_im_X1_behind wd_se_X1_behind wd_in_1 wd_co_X1_behind
theorem gw_1_80 : GoodIn wG (wsV RX1 80 RX1 yX1_open (Cond.code yX1_open cX1_open 4 (Option.none : Option FieldType) :: wG)) := wG_V wd_ml1_80 wd_im_X1_open wd_se_X1_open wd_in_1 wd_co_X1_open
theorem gw_1_88 : GoodIn wG (wsV RX1 88 RX1 yX1_topOf (Cond.code yX1_topOf cX1_topOf 3 (Option.some FieldType.int) :: wG)) := wG_V wd_ml1_88 wd_im_X1_topOf wd_se_X1_topOf wd_in_1 wd_co_X1_topOf
theorem gw_1_84 : GoodIn wG (wsV RX1 84 RX1 yX1_isFine (Cond.code yX1_isFine cX1_isFine 5 (Option.some FieldType.boolean) :: wG)) := wG_V wd_ml1_84 wd_im_X1_isFine wd_se_X1_isFine wd_in_1 wd_co_X1_isFine
theorem gw_L_96 : GoodIn wG (wsV RL 96 RX1 yX1_takeBack (Cond.code yX1_takeBack cX1_takeBack 1 (Option.some FieldType.int) :: wG)) := wG_V wd_mlL_96 wd_im_X1_takeBack wd_se_X1_takeBack wd_in_1 wd_co_X1_takeBack
theorem gw_L_100 : GoodIn wG (wsV RL 100 RX1 yX1_layStart (Cond.code yX1_layStart cX1_layStart 2 (Option.some FieldType.int) :: wG)) := wG_V wd_mlL_100 wd_im_X1_layStart wd_se_X1_layStart wd_in_1 wd_co_X1_layStart
theorem gw_L_104 : GoodIn wG (wsV RL 104 RX1 yX1_pegs (Cond.code yX1_pegs cX1_pegs 1 (Option.some FieldType.int) :: wG)) := wG_V wd_mlL_104 wd_im_X1_pegs wd_se_X1_pegs wd_in_1 wd_co_X1_pegs
theorem gw_L_108 : GoodIn wG (wsV RL 108 RX1 yX1_disks (Cond.code yX1_disks cX1_disks 1 (Option.some FieldType.int) :: wG)) := wG_V wd_mlL_108 wd_im_X1_disks wd_se_X1_disks wd_in_1 wd_co_X1_disks
theorem gw_L_112 : GoodIn wG (wsV RL 112 RX1 yX1_moves (Cond.code yX1_moves cX1_moves 1 (Option.some FieldType.int) :: wG)) := wG_V wd_mlL_112 wd_im_X1_moves wd_se_X1_moves wd_in_1 wd_co_X1_moves
theorem gw_L_116 : GoodIn wG (wsV RL 116 RX1 yX1_pegOf (Cond.code yX1_pegOf cX1_pegOf 2 (Option.some FieldType.int) :: wG)) := wG_V wd_mlL_116 wd_im_X1_pegOf wd_se_X1_pegOf wd_in_1 wd_co_X1_pegOf
theorem gw_L_119 : GoodIn wG (wsV RL 119 RX1 yX1_top (Cond.code yX1_top cX1_top 2 (Option.some FieldType.int) :: wG)) := wG_V wd_mlL_119 wd_im_X1_top wd_se_X1_top wd_in_1 wd_co_X1_top
theorem gw_L_123 : GoodIn wG (wsV RL 123 RX1 yX1_arrangement (Cond.code yX1_arrangement cX1_arrangement 1 (Option.some FieldType.int) :: wG)) := wG_V wd_mlL_123 wd_im_X1_arrangement wd_se_X1_arrangement wd_in_1 wd_co_X1_arrangement
theorem gw_L_127 : GoodIn wG (wsV RL 127 RX1 yX1_goal (Cond.code yX1_goal cX1_goal 1 (Option.some FieldType.int) :: wG)) := wG_V wd_mlL_127 wd_im_X1_goal wd_se_X1_goal wd_in_1 wd_co_X1_goal
theorem gw_1_102 : GoodIn wG (wsV RX1 102 RX1 yX1_numberOfGoal (Cond.code yX1_numberOfGoal cX1_numberOfGoal 3 (Option.some FieldType.int) :: wG)) := wG_V wd_ml1_102 wd_im_X1_numberOfGoal wd_se_X1_numberOfGoal wd_in_1 wd_co_X1_numberOfGoal
theorem gw_L_132 : GoodIn wG (wsV RL 132 RX1 yX1_isLawful (Cond.code yX1_isLawful cX1_isLawful 1 (Option.some FieldType.boolean) :: wG)) := wG_V wd_mlL_132 wd_im_X1_isLawful wd_se_X1_isLawful wd_in_1 wd_co_X1_isLawful
theorem gw_1_105 : GoodIn wG (wsV RX1 105 RX1 yX1_isLawfulNumber (Cond.code yX1_isLawfulNumber cX1_isLawfulNumber 2 (Option.some FieldType.boolean) :: wG)) := wG_V wd_ml1_105 wd_im_X1_isLawfulNumber wd_se_X1_isLawfulNumber wd_in_1 wd_co_X1_isLawfulNumber
theorem gw_L_135 : GoodIn wG (wsV RL 135 RX1 yX1_canMove (Cond.code yX1_canMove cX1_canMove 3 (Option.some FieldType.boolean) :: wG)) := wG_V wd_mlL_135 wd_im_X1_canMove wd_se_X1_canMove wd_in_1 wd_co_X1_canMove
theorem gw_L_139 : GoodIn wG (wsV RL 139 RX1 yX1_way (Cond.code yX1_way cX1_way 1 (Option.some FieldType.int) :: wG)) := wG_V wd_mlL_139 wd_im_X1_way wd_se_X1_way wd_in_1 wd_co_X1_way
theorem gw_1_114 : GoodIn wG (wsV RX1 114 RX1 yX1_wayFrom (Cond.code yX1_wayFrom cX1_wayFrom 2 (Option.some FieldType.int) :: wG)) := wG_V wd_ml1_114 wd_im_X1_wayFrom wd_se_X1_wayFrom wd_in_1 wd_co_X1_wayFrom
theorem gw_1_111 : GoodIn wG (wsV RX1 111 RX1 yX1_search (Cond.code yX1_search cX1_search 5 (Option.none : Option FieldType) :: wG)) := wG_V wd_ml1_111 wd_im_X1_search wd_se_X1_search wd_in_1 wd_co_X1_search
theorem gw_L_142 : GoodIn wG (wsV RL 142 RX1 yX1_wayByDisks (Cond.code yX1_wayByDisks cX1_wayByDisks 8 (Option.some FieldType.int) :: wG)) := wG_V wd_mlL_142 wd_im_X1_wayByDisks wd_se_X1_wayByDisks wd_in_1 wd_co_X1_wayByDisks
theorem gw_1_117 : GoodIn wG (wsV RX1 117 RX1 yX1_gather (Cond.code yX1_gather cX1_gather 8 (Option.some FieldType.int) :: wG)) := wG_V wd_ml1_117 wd_im_X1_gather wd_se_X1_gather wd_in_1 wd_co_X1_gather
theorem gw_L_145 : GoodIn wG (wsV RL 145 RX1 yX1_lost (Cond.code yX1_lost cX1_lost 3 (Option.some FieldType.int) :: wG)) := wG_V wd_mlL_145 wd_im_X1_lost wd_se_X1_lost wd_in_1 wd_co_X1_lost
theorem gw_L_149 : GoodIn wG (wsV RL 149 RX1 yX1_next (Cond.code yX1_next cX1_next 5 (Option.some FieldType.int) :: wG)) := wG_V wd_mlL_149 wd_im_X1_next wd_se_X1_next wd_in_1 wd_co_X1_next
theorem gw_L_153 : GoodIn wG (wsV RL 153 RX1 yX1_reachable (Cond.code yX1_reachable cX1_reachable 1 (Option.some FieldType.int) :: wG)) := wG_V wd_mlL_153 wd_im_X1_reachable wd_se_X1_reachable wd_in_1 wd_co_X1_reachable
theorem gw_L_156 : GoodIn wG (wsV RL 156 RX1 yX1_splits (Cond.code yX1_splits cX1_splits 8 (Option.some FieldType.int) :: wG)) := wG_V wd_mlL_156 wd_im_X1_splits wd_se_X1_splits wd_in_1 wd_co_X1_splits
end
section
theorem dX0_init_0 : decode cX0_init 0 = .ok (.aload_n 0, 1) := by decide +kernel
theorem dX0_init_1 : decode cX0_init 1 = .ok (.invokespecial 1, 3) := by decide +kernel
theorem dX0_init_4 : decode cX0_init 4 = .ok (.aload_n 0, 1) := by decide +kernel
theorem dX0_init_5 : decode cX0_init 5 = .ok (.bipush 7, 2) := by decide +kernel
theorem dX0_init_7 : decode cX0_init 7 = .ok (.newarray .int, 2) := by decide +kernel
theorem dX0_init_9 : decode cX0_init 9 = .ok (.putfield 9, 3) := by decide +kernel
theorem dX0_init_12 : decode cX0_init 12 = .ok (.aload_n 0, 1) := by decide +kernel
theorem dX0_init_13 : decode cX0_init 13 = .ok (.bipush 6, 2) := by decide +kernel
theorem dX0_init_15 : decode cX0_init 15 = .ok (.newarray .int, 2) := by decide +kernel
theorem dX0_init_17 : decode cX0_init 17 = .ok (.putfield 13, 3) := by decide +kernel
theorem dX0_init_20 : decode cX0_init 20 = .ok (.aload_n 0, 1) := by decide +kernel
theorem dX0_init_21 : decode cX0_init 21 = .ok (.bipush 25, 2) := by decide +kernel
theorem dX0_init_23 : decode cX0_init 23 = .ok (.newarray .boolean, 2) := by decide +kernel
theorem dX0_init_25 : decode cX0_init 25 = .ok (.putfield 16, 3) := by decide +kernel
theorem dX0_init_28 : decode cX0_init 28 = .ok (.aload_n 0, 1) := by decide +kernel
theorem dX0_init_29 : decode cX0_init 29 = .ok (.sipush 500, 3) := by decide +kernel
theorem dX0_init_32 : decode cX0_init 32 = .ok (.newarray .int, 2) := by decide +kernel
theorem dX0_init_34 : decode cX0_init 34 = .ok (.putfield 20, 3) := by decide +kernel
theorem dX0_init_37 : decode cX0_init 37 = .ok (.aload_n 0, 1) := by decide +kernel
theorem dX0_init_38 : decode cX0_init 38 = .ok (.iconst 5, 1) := by decide +kernel
theorem dX0_init_39 : decode cX0_init 39 = .ok (.newarray .int, 2) := by decide +kernel
theorem dX0_init_41 : decode cX0_init 41 = .ok (.putfield 23, 3) := by decide +kernel
theorem dX0_init_44 : decode cX0_init 44 = .ok (.aload_n 0, 1) := by decide +kernel
theorem dX0_init_45 : decode cX0_init 45 = .ok (.sipush 15625, 3) := by decide +kernel
theorem dX0_init_48 : decode cX0_init 48 = .ok (.newarray .int, 2) := by decide +kernel
theorem dX0_init_50 : decode cX0_init 50 = .ok (.putfield 26, 3) := by decide +kernel
theorem dX0_init_53 : decode cX0_init 53 = .ok (.aload_n 0, 1) := by decide +kernel
theorem dX0_init_54 : decode cX0_init 54 = .ok (.sipush 15625, 3) := by decide +kernel
theorem dX0_init_57 : decode cX0_init 57 = .ok (.newarray .int, 2) := by decide +kernel
theorem dX0_init_59 : decode cX0_init 59 = .ok (.putfield 29, 3) := by decide +kernel
theorem dX0_init_62 : decode cX0_init 62 = .ok (.aload_n 0, 1) := by decide +kernel
theorem dX0_init_63 : decode cX0_init 63 = .ok (.sipush 15625, 3) := by decide +kernel
theorem dX0_init_66 : decode cX0_init 66 = .ok (.newarray .int, 2) := by decide +kernel
theorem dX0_init_68 : decode cX0_init 68 = .ok (.putfield 32, 3) := by decide +kernel
theorem dX0_init_71 : decode cX0_init 71 = .ok (.aload_n 0, 1) := by decide +kernel
theorem dX0_init_72 : decode cX0_init 72 = .ok (.invokestatic 35, 3) := by decide +kernel
theorem dX0_init_75 : decode cX0_init 75 = .ok (.putfield 39, 3) := by decide +kernel
theorem dX0_init_78 : decode cX0_init 78 = .ok (.aload_n 0, 1) := by decide +kernel
theorem dX0_init_79 : decode cX0_init 79 = .ok (.iconst 3, 1) := by decide +kernel
theorem dX0_init_80 : decode cX0_init 80 = .ok (.iconst 3, 1) := by decide +kernel
theorem dX0_init_81 : decode cX0_init 81 = .ok (.invokevirtual 42, 3) := by decide +kernel
theorem dX0_init_84 : decode cX0_init 84 = .ok (.return_, 1) := by decide +kernel
theorem dX0_begin_0 : decode cX0_begin 0 = .ok (.iload_n 1, 1) := by decide +kernel
theorem dX0_begin_1 : decode cX0_begin 1 = .ok (.iconst 3, 1) := by decide +kernel
theorem dX0_begin_2 : decode cX0_begin 2 = .ok (.if_icmp .lt 19, 3) := by decide +kernel
theorem dX0_begin_5 : decode cX0_begin 5 = .ok (.iload_n 1, 1) := by decide +kernel
theorem dX0_begin_6 : decode cX0_begin 6 = .ok (.iconst 5, 1) := by decide +kernel
theorem dX0_begin_7 : decode cX0_begin 7 = .ok (.if_icmp .gt 14, 3) := by decide +kernel
theorem dX0_begin_10 : decode cX0_begin 10 = .ok (.iload_n 2, 1) := by decide +kernel
theorem dX0_begin_11 : decode cX0_begin 11 = .ok (.iconst 1, 1) := by decide +kernel
theorem dX0_begin_12 : decode cX0_begin 12 = .ok (.if_icmp .lt 9, 3) := by decide +kernel
theorem dX0_begin_15 : decode cX0_begin 15 = .ok (.iload_n 2, 1) := by decide +kernel
theorem dX0_begin_16 : decode cX0_begin 16 = .ok (.bipush 6, 2) := by decide +kernel
theorem dX0_begin_18 : decode cX0_begin 18 = .ok (.if_icmp .le 13, 3) := by decide +kernel
theorem dX0_begin_21 : decode cX0_begin 21 = .ok (.new 46, 3) := by decide +kernel
theorem dX0_begin_24 : decode cX0_begin 24 = .ok (.dup, 1) := by decide +kernel
theorem dX0_begin_25 : decode cX0_begin 25 = .ok (.ldc 48, 2) := by decide +kernel
theorem dX0_begin_27 : decode cX0_begin 27 = .ok (.invokespecial 50, 3) := by decide +kernel
theorem dX0_begin_30 : decode cX0_begin 30 = .ok (.athrow, 1) := by decide +kernel
theorem dX0_begin_31 : decode cX0_begin 31 = .ok (.aload_n 0, 1) := by decide +kernel
theorem dX0_begin_32 : decode cX0_begin 32 = .ok (.iload_n 1, 1) := by decide +kernel
theorem dX0_begin_33 : decode cX0_begin 33 = .ok (.iload_n 2, 1) := by decide +kernel
theorem dX0_begin_34 : decode cX0_begin 34 = .ok (.invokevirtual 42, 3) := by decide +kernel
theorem dX0_begin_37 : decode cX0_begin 37 = .ok (.aload_n 0, 1) := by decide +kernel
theorem dX0_begin_38 : decode cX0_begin 38 = .ok (.getfield 9, 3) := by decide +kernel
theorem dX0_begin_41 : decode cX0_begin 41 = .ok (.aload_n 0, 1) := by decide +kernel
theorem dX0_begin_42 : decode cX0_begin 42 = .ok (.getfield 53, 3) := by decide +kernel
theorem dX0_begin_45 : decode cX0_begin 45 = .ok (.iaload, 1) := by decide +kernel
theorem dX0_begin_46 : decode cX0_begin 46 = .ok (.ireturn, 1) := by decide +kernel
theorem dX0_put_0 : decode cX0_put 0 = .ok (.aload_n 0, 1) := by decide +kernel
theorem dX0_put_1 : decode cX0_put 1 = .ok (.iload_n 1, 1) := by decide +kernel
theorem dX0_put_2 : decode cX0_put 2 = .ok (.invokevirtual 57, 3) := by decide +kernel
theorem dX0_put_5 : decode cX0_put 5 = .ok (.ifCond .eq 11, 3) := by decide +kernel
theorem dX0_put_8 : decode cX0_put 8 = .ok (.aload_n 0, 1) := by decide +kernel
theorem dX0_put_9 : decode cX0_put 9 = .ok (.iload_n 2, 1) := by decide +kernel
theorem dX0_put_10 : decode cX0_put 10 = .ok (.invokevirtual 61, 3) := by decide +kernel
theorem dX0_put_13 : decode cX0_put 13 = .ok (.ifCond .ne 13, 3) := by decide +kernel
theorem dX0_put_16 : decode cX0_put 16 = .ok (.new 64, 3) := by decide +kernel
theorem dX0_put_19 : decode cX0_put 19 = .ok (.dup, 1) := by decide +kernel
theorem dX0_put_20 : decode cX0_put 20 = .ok (.ldc 66, 2) := by decide +kernel
theorem dX0_put_22 : decode cX0_put 22 = .ok (.invokespecial 68, 3) := by decide +kernel
theorem dX0_put_25 : decode cX0_put 25 = .ok (.athrow, 1) := by decide +kernel
theorem dX0_put_26 : decode cX0_put 26 = .ok (.aload_n 0, 1) := by decide +kernel
theorem dX0_put_27 : decode cX0_put 27 = .ok (.getfield 69, 3) := by decide +kernel
theorem dX0_put_30 : decode cX0_put 30 = .ok (.ifCond .le 13, 3) := by decide +kernel
theorem dX0_put_33 : decode cX0_put 33 = .ok (.new 72, 3) := by decide +kernel
theorem dX0_put_36 : decode cX0_put 36 = .ok (.dup, 1) := by decide +kernel
theorem dX0_put_37 : decode cX0_put 37 = .ok (.ldc 74, 2) := by decide +kernel
theorem dX0_put_39 : decode cX0_put 39 = .ok (.invokespecial 76, 3) := by decide +kernel
theorem dX0_put_42 : decode cX0_put 42 = .ok (.athrow, 1) := by decide +kernel
theorem dX0_put_43 : decode cX0_put 43 = .ok (.aload_n 0, 1) := by decide +kernel
theorem dX0_put_44 : decode cX0_put 44 = .ok (.aload_n 0, 1) := by decide +kernel
theorem dX0_put_45 : decode cX0_put 45 = .ok (.getfield 77, 3) := by decide +kernel
theorem dX0_put_48 : decode cX0_put 48 = .ok (.iload_n 1, 1) := by decide +kernel
theorem dX0_put_49 : decode cX0_put 49 = .ok (.invokevirtual 80, 3) := by decide +kernel
theorem dX0_put_52 : decode cX0_put 52 = .ok (.istore_n 3, 1) := by decide +kernel
theorem dX0_put_53 : decode cX0_put 53 = .ok (.aload_n 0, 1) := by decide +kernel
theorem dX0_put_54 : decode cX0_put 54 = .ok (.dup, 1) := by decide +kernel
theorem dX0_put_55 : decode cX0_put 55 = .ok (.getfield 77, 3) := by decide +kernel
theorem dX0_put_58 : decode cX0_put 58 = .ok (.iload_n 2, 1) := by decide +kernel
theorem dX0_put_59 : decode cX0_put 59 = .ok (.iload_n 3, 1) := by decide +kernel
theorem dX0_put_60 : decode cX0_put 60 = .ok (.isub, 1) := by decide +kernel
theorem dX0_put_61 : decode cX0_put 61 = .ok (.aload_n 0, 1) := by decide +kernel
theorem dX0_put_62 : decode cX0_put 62 = .ok (.getfield 9, 3) := by decide +kernel
theorem dX0_put_65 : decode cX0_put 65 = .ok (.iload_n 1, 1) := by decide +kernel
theorem dX0_put_66 : decode cX0_put 66 = .ok (.iaload, 1) := by decide +kernel
theorem dX0_put_67 : decode cX0_put 67 = .ok (.imul, 1) := by decide +kernel
theorem dX0_put_68 : decode cX0_put 68 = .ok (.iadd, 1) := by decide +kernel
theorem dX0_put_69 : decode cX0_put 69 = .ok (.putfield 77, 3) := by decide +kernel
theorem dX0_put_72 : decode cX0_put 72 = .ok (.iload_n 3, 1) := by decide +kernel
theorem dX0_put_73 : decode cX0_put 73 = .ok (.ireturn, 1) := by decide +kernel
theorem dX0_aim_0 : decode cX0_aim 0 = .ok (.aload_n 0, 1) := by decide +kernel
theorem dX0_aim_1 : decode cX0_aim 1 = .ok (.iload_n 1, 1) := by decide +kernel
theorem dX0_aim_2 : decode cX0_aim 2 = .ok (.invokevirtual 57, 3) := by decide +kernel
theorem dX0_aim_5 : decode cX0_aim 5 = .ok (.ifCond .eq 11, 3) := by decide +kernel
theorem dX0_aim_8 : decode cX0_aim 8 = .ok (.aload_n 0, 1) := by decide +kernel
theorem dX0_aim_9 : decode cX0_aim 9 = .ok (.iload_n 2, 1) := by decide +kernel
theorem dX0_aim_10 : decode cX0_aim 10 = .ok (.invokevirtual 61, 3) := by decide +kernel
theorem dX0_aim_13 : decode cX0_aim 13 = .ok (.ifCond .ne 13, 3) := by decide +kernel
theorem dX0_aim_16 : decode cX0_aim 16 = .ok (.new 64, 3) := by decide +kernel
theorem dX0_aim_19 : decode cX0_aim 19 = .ok (.dup, 1) := by decide +kernel
theorem dX0_aim_20 : decode cX0_aim 20 = .ok (.ldc 66, 2) := by decide +kernel
theorem dX0_aim_22 : decode cX0_aim 22 = .ok (.invokespecial 68, 3) := by decide +kernel
theorem dX0_aim_25 : decode cX0_aim 25 = .ok (.athrow, 1) := by decide +kernel
theorem dX0_aim_26 : decode cX0_aim 26 = .ok (.aload_n 0, 1) := by decide +kernel
theorem dX0_aim_27 : decode cX0_aim 27 = .ok (.aload_n 0, 1) := by decide +kernel
theorem dX0_aim_28 : decode cX0_aim 28 = .ok (.getfield 84, 3) := by decide +kernel
theorem dX0_aim_31 : decode cX0_aim 31 = .ok (.iload_n 1, 1) := by decide +kernel
theorem dX0_aim_32 : decode cX0_aim 32 = .ok (.invokevirtual 80, 3) := by decide +kernel
theorem dX0_aim_35 : decode cX0_aim 35 = .ok (.istore_n 3, 1) := by decide +kernel
theorem dX0_aim_36 : decode cX0_aim 36 = .ok (.aload_n 0, 1) := by decide +kernel
theorem dX0_aim_37 : decode cX0_aim 37 = .ok (.dup, 1) := by decide +kernel
theorem dX0_aim_38 : decode cX0_aim 38 = .ok (.getfield 84, 3) := by decide +kernel
theorem dX0_aim_41 : decode cX0_aim 41 = .ok (.iload_n 2, 1) := by decide +kernel
theorem dX0_aim_42 : decode cX0_aim 42 = .ok (.iload_n 3, 1) := by decide +kernel
theorem dX0_aim_43 : decode cX0_aim 43 = .ok (.isub, 1) := by decide +kernel
theorem dX0_aim_44 : decode cX0_aim 44 = .ok (.aload_n 0, 1) := by decide +kernel
theorem dX0_aim_45 : decode cX0_aim 45 = .ok (.getfield 9, 3) := by decide +kernel
theorem dX0_aim_48 : decode cX0_aim 48 = .ok (.iload_n 1, 1) := by decide +kernel
theorem dX0_aim_49 : decode cX0_aim 49 = .ok (.iaload, 1) := by decide +kernel
theorem dX0_aim_50 : decode cX0_aim 50 = .ok (.imul, 1) := by decide +kernel
theorem dX0_aim_51 : decode cX0_aim 51 = .ok (.iadd, 1) := by decide +kernel
theorem dX0_aim_52 : decode cX0_aim 52 = .ok (.putfield 84, 3) := by decide +kernel
theorem dX0_aim_55 : decode cX0_aim 55 = .ok (.aload_n 0, 1) := by decide +kernel
theorem dX0_aim_56 : decode cX0_aim 56 = .ok (.iconst 0, 1) := by decide +kernel
theorem dX0_aim_57 : decode cX0_aim 57 = .ok (.putfield 87, 3) := by decide +kernel
theorem dX0_aim_60 : decode cX0_aim 60 = .ok (.iload_n 3, 1) := by decide +kernel
theorem dX0_aim_61 : decode cX0_aim 61 = .ok (.ireturn, 1) := by decide +kernel
theorem dX0_allow_0 : decode cX0_allow 0 = .ok (.aload_n 0, 1) := by decide +kernel
theorem dX0_allow_1 : decode cX0_allow 1 = .ok (.iload_n 1, 1) := by decide +kernel
theorem dX0_allow_2 : decode cX0_allow 2 = .ok (.invokevirtual 61, 3) := by decide +kernel
theorem dX0_allow_5 : decode cX0_allow 5 = .ok (.ifCond .eq 11, 3) := by decide +kernel
theorem dX0_allow_8 : decode cX0_allow 8 = .ok (.aload_n 0, 1) := by decide +kernel
theorem dX0_allow_9 : decode cX0_allow 9 = .ok (.iload_n 2, 1) := by decide +kernel
theorem dX0_allow_10 : decode cX0_allow 10 = .ok (.invokevirtual 61, 3) := by decide +kernel
theorem dX0_allow_13 : decode cX0_allow 13 = .ok (.ifCond .ne 13, 3) := by decide +kernel
theorem dX0_allow_16 : decode cX0_allow 16 = .ok (.new 64, 3) := by decide +kernel
theorem dX0_allow_19 : decode cX0_allow 19 = .ok (.dup, 1) := by decide +kernel
theorem dX0_allow_20 : decode cX0_allow 20 = .ok (.ldc 91, 2) := by decide +kernel
theorem dX0_allow_22 : decode cX0_allow 22 = .ok (.invokespecial 68, 3) := by decide +kernel
theorem dX0_allow_25 : decode cX0_allow 25 = .ok (.athrow, 1) := by decide +kernel
theorem dX0_allow_26 : decode cX0_allow 26 = .ok (.iload_n 1, 1) := by decide +kernel
theorem dX0_allow_27 : decode cX0_allow 27 = .ok (.iload_n 2, 1) := by decide +kernel
theorem dX0_allow_28 : decode cX0_allow 28 = .ok (.if_icmp .ne 13, 3) := by decide +kernel
theorem dX0_allow_31 : decode cX0_allow 31 = .ok (.new 46, 3) := by decide +kernel
theorem dX0_allow_34 : decode cX0_allow 34 = .ok (.dup, 1) := by decide +kernel
theorem dX0_allow_35 : decode cX0_allow 35 = .ok (.ldc 93, 2) := by decide +kernel
theorem dX0_allow_37 : decode cX0_allow 37 = .ok (.invokespecial 50, 3) := by decide +kernel
theorem dX0_allow_40 : decode cX0_allow 40 = .ok (.athrow, 1) := by decide +kernel
theorem dX0_allow_41 : decode cX0_allow 41 = .ok (.iload_n 1, 1) := by decide +kernel
theorem dX0_allow_42 : decode cX0_allow 42 = .ok (.iload_n 2, 1) := by decide +kernel
theorem dX0_allow_43 : decode cX0_allow 43 = .ok (.invokestatic 95, 3) := by decide +kernel
theorem dX0_allow_46 : decode cX0_allow 46 = .ok (.istore 4, 2) := by decide +kernel
theorem dX0_allow_48 : decode cX0_allow 48 = .ok (.aload_n 0, 1) := by decide +kernel
theorem dX0_allow_49 : decode cX0_allow 49 = .ok (.getfield 16, 3) := by decide +kernel
theorem dX0_allow_52 : decode cX0_allow 52 = .ok (.iload 4, 2) := by decide +kernel
theorem dX0_allow_54 : decode cX0_allow 54 = .ok (.baload, 1) := by decide +kernel
theorem dX0_allow_55 : decode cX0_allow 55 = .ok (.istore 5, 2) := by decide +kernel
theorem dX0_allow_57 : decode cX0_allow 57 = .ok (.aload_n 0, 1) := by decide +kernel
theorem dX0_allow_58 : decode cX0_allow 58 = .ok (.getfield 16, 3) := by decide +kernel
theorem dX0_allow_61 : decode cX0_allow 61 = .ok (.iload 4, 2) := by decide +kernel
theorem dX0_allow_63 : decode cX0_allow 63 = .ok (.iload_n 3, 1) := by decide +kernel
theorem dX0_allow_64 : decode cX0_allow 64 = .ok (.bastore, 1) := by decide +kernel
theorem dX0_allow_65 : decode cX0_allow 65 = .ok (.aload_n 0, 1) := by decide +kernel
theorem dX0_allow_66 : decode cX0_allow 66 = .ok (.iconst 0, 1) := by decide +kernel
theorem dX0_allow_67 : decode cX0_allow 67 = .ok (.putfield 87, 3) := by decide +kernel
theorem dX0_allow_70 : decode cX0_allow 70 = .ok (.iload 5, 2) := by decide +kernel
theorem dX0_allow_72 : decode cX0_allow 72 = .ok (.ireturn, 1) := by decide +kernel
theorem dX0_setColour_0 : decode cX0_setColour 0 = .ok (.aload_n 0, 1) := by decide +kernel
theorem dX0_setColour_1 : decode cX0_setColour 1 = .ok (.iload_n 1, 1) := by decide +kernel
theorem dX0_setColour_2 : decode cX0_setColour 2 = .ok (.invokevirtual 57, 3) := by decide +kernel
theorem dX0_setColour_5 : decode cX0_setColour 5 = .ok (.ifCond .ne 13, 3) := by decide +kernel
theorem dX0_setColour_8 : decode cX0_setColour 8 = .ok (.new 64, 3) := by decide +kernel
theorem dX0_setColour_11 : decode cX0_setColour 11 = .ok (.dup, 1) := by decide +kernel
theorem dX0_setColour_12 : decode cX0_setColour 12 = .ok (.ldc 98, 2) := by decide +kernel
theorem dX0_setColour_14 : decode cX0_setColour 14 = .ok (.invokespecial 68, 3) := by decide +kernel
theorem dX0_setColour_17 : decode cX0_setColour 17 = .ok (.athrow, 1) := by decide +kernel
theorem dX0_setColour_18 : decode cX0_setColour 18 = .ok (.iload_n 2, 1) := by decide +kernel
theorem dX0_setColour_19 : decode cX0_setColour 19 = .ok (.ifCond .lt 8, 3) := by decide +kernel
theorem dX0_setColour_22 : decode cX0_setColour 22 = .ok (.iload_n 2, 1) := by decide +kernel
theorem dX0_setColour_23 : decode cX0_setColour 23 = .ok (.iconst 1, 1) := by decide +kernel
theorem dX0_setColour_24 : decode cX0_setColour 24 = .ok (.if_icmp .le 13, 3) := by decide +kernel
theorem dX0_setColour_27 : decode cX0_setColour 27 = .ok (.new 46, 3) := by decide +kernel
theorem dX0_setColour_30 : decode cX0_setColour 30 = .ok (.dup, 1) := by decide +kernel
theorem dX0_setColour_31 : decode cX0_setColour 31 = .ok (.ldc 100, 2) := by decide +kernel
theorem dX0_setColour_33 : decode cX0_setColour 33 = .ok (.invokespecial 50, 3) := by decide +kernel
theorem dX0_setColour_36 : decode cX0_setColour 36 = .ok (.athrow, 1) := by decide +kernel
theorem dX0_setColour_37 : decode cX0_setColour 37 = .ok (.aload_n 0, 1) := by decide +kernel
theorem dX0_setColour_38 : decode cX0_setColour 38 = .ok (.getfield 13, 3) := by decide +kernel
theorem dX0_setColour_41 : decode cX0_setColour 41 = .ok (.iload_n 1, 1) := by decide +kernel
theorem dX0_setColour_42 : decode cX0_setColour 42 = .ok (.iaload, 1) := by decide +kernel
theorem dX0_setColour_43 : decode cX0_setColour 43 = .ok (.istore_n 3, 1) := by decide +kernel
theorem dX0_setColour_44 : decode cX0_setColour 44 = .ok (.aload_n 0, 1) := by decide +kernel
theorem dX0_setColour_45 : decode cX0_setColour 45 = .ok (.getfield 13, 3) := by decide +kernel
theorem dX0_setColour_48 : decode cX0_setColour 48 = .ok (.iload_n 1, 1) := by decide +kernel
theorem dX0_setColour_49 : decode cX0_setColour 49 = .ok (.iload_n 2, 1) := by decide +kernel
theorem dX0_setColour_50 : decode cX0_setColour 50 = .ok (.iastore, 1) := by decide +kernel
theorem dX0_setColour_51 : decode cX0_setColour 51 = .ok (.aload_n 0, 1) := by decide +kernel
theorem dX0_setColour_52 : decode cX0_setColour 52 = .ok (.iconst 0, 1) := by decide +kernel
theorem dX0_setColour_53 : decode cX0_setColour 53 = .ok (.putfield 87, 3) := by decide +kernel
theorem dX0_setColour_56 : decode cX0_setColour 56 = .ok (.iload_n 3, 1) := by decide +kernel
theorem dX0_setColour_57 : decode cX0_setColour 57 = .ok (.ireturn, 1) := by decide +kernel
theorem dX0_setRule_0 : decode cX0_setRule 0 = .ok (.aload_n 0, 1) := by decide +kernel
theorem dX0_setRule_1 : decode cX0_setRule 1 = .ok (.getfield 102, 3) := by decide +kernel
theorem dX0_setRule_4 : decode cX0_setRule 4 = .ok (.istore_n 2, 1) := by decide +kernel
theorem dX0_setRule_5 : decode cX0_setRule 5 = .ok (.aload_n 0, 1) := by decide +kernel
theorem dX0_setRule_6 : decode cX0_setRule 6 = .ok (.iload_n 1, 1) := by decide +kernel
theorem dX0_setRule_7 : decode cX0_setRule 7 = .ok (.putfield 102, 3) := by decide +kernel
theorem dX0_setRule_10 : decode cX0_setRule 10 = .ok (.aload_n 0, 1) := by decide +kernel
theorem dX0_setRule_11 : decode cX0_setRule 11 = .ok (.iconst 0, 1) := by decide +kernel
theorem dX0_setRule_12 : decode cX0_setRule 12 = .ok (.putfield 87, 3) := by decide +kernel
theorem dX0_setRule_15 : decode cX0_setRule 15 = .ok (.iload_n 2, 1) := by decide +kernel
theorem dX0_setRule_16 : decode cX0_setRule 16 = .ok (.ireturn, 1) := by decide +kernel
theorem dX0_move_0 : decode cX0_move 0 = .ok (.aload_n 0, 1) := by decide +kernel
theorem dX0_move_1 : decode cX0_move 1 = .ok (.iload_n 1, 1) := by decide +kernel
theorem dX0_move_2 : decode cX0_move 2 = .ok (.invokevirtual 61, 3) := by decide +kernel
theorem dX0_move_5 : decode cX0_move 5 = .ok (.ifCond .eq 11, 3) := by decide +kernel
theorem dX0_move_8 : decode cX0_move 8 = .ok (.aload_n 0, 1) := by decide +kernel
theorem dX0_move_9 : decode cX0_move 9 = .ok (.iload_n 2, 1) := by decide +kernel
theorem dX0_move_10 : decode cX0_move 10 = .ok (.invokevirtual 61, 3) := by decide +kernel
theorem dX0_move_13 : decode cX0_move 13 = .ok (.ifCond .ne 13, 3) := by decide +kernel
theorem dX0_move_16 : decode cX0_move 16 = .ok (.new 64, 3) := by decide +kernel
theorem dX0_move_19 : decode cX0_move 19 = .ok (.dup, 1) := by decide +kernel
theorem dX0_move_20 : decode cX0_move 20 = .ok (.ldc 91, 2) := by decide +kernel
theorem dX0_move_22 : decode cX0_move 22 = .ok (.invokespecial 68, 3) := by decide +kernel
theorem dX0_move_25 : decode cX0_move 25 = .ok (.athrow, 1) := by decide +kernel
theorem dX0_move_26 : decode cX0_move 26 = .ok (.aload_n 0, 1) := by decide +kernel
theorem dX0_move_27 : decode cX0_move 27 = .ok (.getfield 69, 3) := by decide +kernel
theorem dX0_move_30 : decode cX0_move 30 = .ok (.sipush 500, 3) := by decide +kernel
theorem dX0_move_33 : decode cX0_move 33 = .ok (.if_icmp .ge 12, 3) := by decide +kernel
theorem dX0_move_36 : decode cX0_move 36 = .ok (.aload_n 0, 1) := by decide +kernel
theorem dX0_move_37 : decode cX0_move 37 = .ok (.iload_n 1, 1) := by decide +kernel
theorem dX0_move_38 : decode cX0_move 38 = .ok (.iload_n 2, 1) := by decide +kernel
theorem dX0_move_39 : decode cX0_move 39 = .ok (.invokevirtual 105, 3) := by decide +kernel
theorem dX0_move_42 : decode cX0_move 42 = .ok (.ifCond .ne 13, 3) := by decide +kernel
theorem dX0_move_45 : decode cX0_move 45 = .ok (.new 72, 3) := by decide +kernel
theorem dX0_move_48 : decode cX0_move 48 = .ok (.dup, 1) := by decide +kernel
theorem dX0_move_49 : decode cX0_move 49 = .ok (.ldc 109, 2) := by decide +kernel
theorem dX0_move_51 : decode cX0_move 51 = .ok (.invokespecial 76, 3) := by decide +kernel
theorem dX0_move_54 : decode cX0_move 54 = .ok (.athrow, 1) := by decide +kernel
theorem dX0_move_55 : decode cX0_move 55 = .ok (.aload_n 0, 1) := by decide +kernel
theorem dX0_move_56 : decode cX0_move 56 = .ok (.getfield 23, 3) := by decide +kernel
theorem dX0_move_59 : decode cX0_move 59 = .ok (.iload_n 1, 1) := by decide +kernel
theorem dX0_move_60 : decode cX0_move 60 = .ok (.iaload, 1) := by decide +kernel
theorem dX0_move_61 : decode cX0_move 61 = .ok (.istore_n 3, 1) := by decide +kernel
theorem dX0_move_62 : decode cX0_move 62 = .ok (.aload_n 0, 1) := by decide +kernel
theorem dX0_move_63 : decode cX0_move 63 = .ok (.getfield 20, 3) := by decide +kernel
theorem dX0_move_66 : decode cX0_move 66 = .ok (.aload_n 0, 1) := by decide +kernel
theorem dX0_move_67 : decode cX0_move 67 = .ok (.getfield 69, 3) := by decide +kernel
theorem dX0_move_70 : decode cX0_move 70 = .ok (.aload_n 0, 1) := by decide +kernel
theorem dX0_move_71 : decode cX0_move 71 = .ok (.getfield 77, 3) := by decide +kernel
theorem dX0_move_74 : decode cX0_move 74 = .ok (.iastore, 1) := by decide +kernel
theorem dX0_move_75 : decode cX0_move 75 = .ok (.aload_n 0, 1) := by decide +kernel
theorem dX0_move_76 : decode cX0_move 76 = .ok (.dup, 1) := by decide +kernel
theorem dX0_move_77 : decode cX0_move 77 = .ok (.getfield 69, 3) := by decide +kernel
theorem dX0_move_80 : decode cX0_move 80 = .ok (.iconst 1, 1) := by decide +kernel
theorem dX0_move_81 : decode cX0_move 81 = .ok (.iadd, 1) := by decide +kernel
theorem dX0_move_82 : decode cX0_move 82 = .ok (.putfield 69, 3) := by decide +kernel
theorem dX0_move_85 : decode cX0_move 85 = .ok (.aload_n 0, 1) := by decide +kernel
theorem dX0_move_86 : decode cX0_move 86 = .ok (.aload_n 0, 1) := by decide +kernel
theorem dX0_move_87 : decode cX0_move 87 = .ok (.aload_n 0, 1) := by decide +kernel
theorem dX0_move_88 : decode cX0_move 88 = .ok (.getfield 77, 3) := by decide +kernel
theorem dX0_move_91 : decode cX0_move 91 = .ok (.iload_n 1, 1) := by decide +kernel
theorem dX0_move_92 : decode cX0_move 92 = .ok (.iload_n 2, 1) := by decide +kernel
theorem dX0_move_93 : decode cX0_move 93 = .ok (.invokevirtual 111, 3) := by decide +kernel
theorem dX0_move_96 : decode cX0_move 96 = .ok (.putfield 77, 3) := by decide +kernel
theorem dX0_move_99 : decode cX0_move 99 = .ok (.iload_n 3, 1) := by decide +kernel
theorem dX0_move_100 : decode cX0_move 100 = .ok (.ireturn, 1) := by decide +kernel
theorem dX0_takeBack_0 : decode cX0_takeBack 0 = .ok (.aload_n 0, 1) := by decide +kernel
theorem dX0_takeBack_1 : decode cX0_takeBack 1 = .ok (.getfield 69, 3) := by decide +kernel
theorem dX0_takeBack_4 : decode cX0_takeBack 4 = .ok (.iconst 1, 1) := by decide +kernel
theorem dX0_takeBack_5 : decode cX0_takeBack 5 = .ok (.if_icmp .ge 13, 3) := by decide +kernel
theorem dX0_takeBack_8 : decode cX0_takeBack 8 = .ok (.new 72, 3) := by decide +kernel
theorem dX0_takeBack_11 : decode cX0_takeBack 11 = .ok (.dup, 1) := by decide +kernel
theorem dX0_takeBack_12 : decode cX0_takeBack 12 = .ok (.ldc 115, 2) := by decide +kernel
theorem dX0_takeBack_14 : decode cX0_takeBack 14 = .ok (.invokespecial 76, 3) := by decide +kernel
theorem dX0_takeBack_17 : decode cX0_takeBack 17 = .ok (.athrow, 1) := by decide +kernel
theorem dX0_takeBack_18 : decode cX0_takeBack 18 = .ok (.aload_n 0, 1) := by decide +kernel
theorem dX0_takeBack_19 : decode cX0_takeBack 19 = .ok (.dup, 1) := by decide +kernel
theorem dX0_takeBack_20 : decode cX0_takeBack 20 = .ok (.getfield 69, 3) := by decide +kernel
theorem dX0_takeBack_23 : decode cX0_takeBack 23 = .ok (.iconst 1, 1) := by decide +kernel
theorem dX0_takeBack_24 : decode cX0_takeBack 24 = .ok (.isub, 1) := by decide +kernel
theorem dX0_takeBack_25 : decode cX0_takeBack 25 = .ok (.putfield 69, 3) := by decide +kernel
theorem dX0_takeBack_28 : decode cX0_takeBack 28 = .ok (.aload_n 0, 1) := by decide +kernel
theorem dX0_takeBack_29 : decode cX0_takeBack 29 = .ok (.aload_n 0, 1) := by decide +kernel
theorem dX0_takeBack_30 : decode cX0_takeBack 30 = .ok (.getfield 20, 3) := by decide +kernel
theorem dX0_takeBack_33 : decode cX0_takeBack 33 = .ok (.aload_n 0, 1) := by decide +kernel
theorem dX0_takeBack_34 : decode cX0_takeBack 34 = .ok (.getfield 69, 3) := by decide +kernel
theorem dX0_takeBack_37 : decode cX0_takeBack 37 = .ok (.iaload, 1) := by decide +kernel
theorem dX0_takeBack_38 : decode cX0_takeBack 38 = .ok (.putfield 77, 3) := by decide +kernel
theorem dX0_takeBack_41 : decode cX0_takeBack 41 = .ok (.aload_n 0, 1) := by decide +kernel
theorem dX0_takeBack_42 : decode cX0_takeBack 42 = .ok (.getfield 69, 3) := by decide +kernel
theorem dX0_takeBack_45 : decode cX0_takeBack 45 = .ok (.ireturn, 1) := by decide +kernel
theorem dX0_layStart_0 : decode cX0_layStart 0 = .ok (.aload_n 0, 1) := by decide +kernel
theorem dX0_layStart_1 : decode cX0_layStart 1 = .ok (.getfield 69, 3) := by decide +kernel
theorem dX0_layStart_4 : decode cX0_layStart 4 = .ok (.istore_n 1, 1) := by decide +kernel
theorem dX0_layStart_5 : decode cX0_layStart 5 = .ok (.aload_n 0, 1) := by decide +kernel
theorem dX0_layStart_6 : decode cX0_layStart 6 = .ok (.iconst 0, 1) := by decide +kernel
theorem dX0_layStart_7 : decode cX0_layStart 7 = .ok (.putfield 69, 3) := by decide +kernel
theorem dX0_layStart_10 : decode cX0_layStart 10 = .ok (.iload_n 1, 1) := by decide +kernel
theorem dX0_layStart_11 : decode cX0_layStart 11 = .ok (.ireturn, 1) := by decide +kernel
theorem dX0_pegs_0 : decode cX0_pegs 0 = .ok (.aload_n 0, 1) := by decide +kernel
theorem dX0_pegs_1 : decode cX0_pegs 1 = .ok (.getfield 117, 3) := by decide +kernel
theorem dX0_pegs_4 : decode cX0_pegs 4 = .ok (.ireturn, 1) := by decide +kernel
theorem dX0_disks_0 : decode cX0_disks 0 = .ok (.aload_n 0, 1) := by decide +kernel
theorem dX0_disks_1 : decode cX0_disks 1 = .ok (.getfield 53, 3) := by decide +kernel
theorem dX0_disks_4 : decode cX0_disks 4 = .ok (.ireturn, 1) := by decide +kernel
theorem dX0_moves_0 : decode cX0_moves 0 = .ok (.aload_n 0, 1) := by decide +kernel
theorem dX0_moves_1 : decode cX0_moves 1 = .ok (.getfield 69, 3) := by decide +kernel
theorem dX0_moves_4 : decode cX0_moves 4 = .ok (.ireturn, 1) := by decide +kernel
theorem dX0_pegOf_0 : decode cX0_pegOf 0 = .ok (.aload_n 0, 1) := by decide +kernel
theorem dX0_pegOf_1 : decode cX0_pegOf 1 = .ok (.iload_n 1, 1) := by decide +kernel
theorem dX0_pegOf_2 : decode cX0_pegOf 2 = .ok (.invokevirtual 57, 3) := by decide +kernel
theorem dX0_pegOf_5 : decode cX0_pegOf 5 = .ok (.ifCond .ne 13, 3) := by decide +kernel
theorem dX0_pegOf_8 : decode cX0_pegOf 8 = .ok (.new 64, 3) := by decide +kernel
theorem dX0_pegOf_11 : decode cX0_pegOf 11 = .ok (.dup, 1) := by decide +kernel
theorem dX0_pegOf_12 : decode cX0_pegOf 12 = .ok (.ldc 98, 2) := by decide +kernel
theorem dX0_pegOf_14 : decode cX0_pegOf 14 = .ok (.invokespecial 68, 3) := by decide +kernel
theorem dX0_pegOf_17 : decode cX0_pegOf 17 = .ok (.athrow, 1) := by decide +kernel
theorem dX0_pegOf_18 : decode cX0_pegOf 18 = .ok (.aload_n 0, 1) := by decide +kernel
theorem dX0_pegOf_19 : decode cX0_pegOf 19 = .ok (.aload_n 0, 1) := by decide +kernel
theorem dX0_pegOf_20 : decode cX0_pegOf 20 = .ok (.getfield 77, 3) := by decide +kernel
theorem dX0_pegOf_23 : decode cX0_pegOf 23 = .ok (.iload_n 1, 1) := by decide +kernel
theorem dX0_pegOf_24 : decode cX0_pegOf 24 = .ok (.invokevirtual 80, 3) := by decide +kernel
theorem dX0_pegOf_27 : decode cX0_pegOf 27 = .ok (.ireturn, 1) := by decide +kernel
theorem dX0_top_0 : decode cX0_top 0 = .ok (.aload_n 0, 1) := by decide +kernel
theorem dX0_top_1 : decode cX0_top 1 = .ok (.iload_n 1, 1) := by decide +kernel
theorem dX0_top_2 : decode cX0_top 2 = .ok (.invokevirtual 61, 3) := by decide +kernel
theorem dX0_top_5 : decode cX0_top 5 = .ok (.ifCond .ne 13, 3) := by decide +kernel
theorem dX0_top_8 : decode cX0_top 8 = .ok (.new 64, 3) := by decide +kernel
theorem dX0_top_11 : decode cX0_top 11 = .ok (.dup, 1) := by decide +kernel
theorem dX0_top_12 : decode cX0_top 12 = .ok (.ldc 91, 2) := by decide +kernel
theorem dX0_top_14 : decode cX0_top 14 = .ok (.invokespecial 68, 3) := by decide +kernel
theorem dX0_top_17 : decode cX0_top 17 = .ok (.athrow, 1) := by decide +kernel
theorem dX0_top_18 : decode cX0_top 18 = .ok (.aload_n 0, 1) := by decide +kernel
theorem dX0_top_19 : decode cX0_top 19 = .ok (.aload_n 0, 1) := by decide +kernel
theorem dX0_top_20 : decode cX0_top 20 = .ok (.getfield 77, 3) := by decide +kernel
theorem dX0_top_23 : decode cX0_top 23 = .ok (.invokevirtual 120, 3) := by decide +kernel
theorem dX0_top_26 : decode cX0_top 26 = .ok (.aload_n 0, 1) := by decide +kernel
theorem dX0_top_27 : decode cX0_top 27 = .ok (.getfield 23, 3) := by decide +kernel
theorem dX0_top_30 : decode cX0_top 30 = .ok (.iload_n 1, 1) := by decide +kernel
theorem dX0_top_31 : decode cX0_top 31 = .ok (.iaload, 1) := by decide +kernel
theorem dX0_top_32 : decode cX0_top 32 = .ok (.ireturn, 1) := by decide +kernel
theorem dX0_arrangement_0 : decode cX0_arrangement 0 = .ok (.aload_n 0, 1) := by decide +kernel
theorem dX0_arrangement_1 : decode cX0_arrangement 1 = .ok (.getfield 77, 3) := by decide +kernel
theorem dX0_arrangement_4 : decode cX0_arrangement 4 = .ok (.ireturn, 1) := by decide +kernel
theorem dX0_goal_0 : decode cX0_goal 0 = .ok (.aload_n 0, 1) := by decide +kernel
theorem dX0_goal_1 : decode cX0_goal 1 = .ok (.getfield 84, 3) := by decide +kernel
theorem dX0_goal_4 : decode cX0_goal 4 = .ok (.ireturn, 1) := by decide +kernel
theorem dX0_isLawful_0 : decode cX0_isLawful 0 = .ok (.aload_n 0, 1) := by decide +kernel
theorem dX0_isLawful_1 : decode cX0_isLawful 1 = .ok (.aload_n 0, 1) := by decide +kernel
theorem dX0_isLawful_2 : decode cX0_isLawful 2 = .ok (.getfield 77, 3) := by decide +kernel
theorem dX0_isLawful_5 : decode cX0_isLawful 5 = .ok (.invokevirtual 124, 3) := by decide +kernel
theorem dX0_isLawful_8 : decode cX0_isLawful 8 = .ok (.ireturn, 1) := by decide +kernel
theorem dX0_canMove_0 : decode cX0_canMove 0 = .ok (.aload_n 0, 1) := by decide +kernel
theorem dX0_canMove_1 : decode cX0_canMove 1 = .ok (.iload_n 1, 1) := by decide +kernel
theorem dX0_canMove_2 : decode cX0_canMove 2 = .ok (.invokevirtual 61, 3) := by decide +kernel
theorem dX0_canMove_5 : decode cX0_canMove 5 = .ok (.ifCond .eq 11, 3) := by decide +kernel
theorem dX0_canMove_8 : decode cX0_canMove 8 = .ok (.aload_n 0, 1) := by decide +kernel
theorem dX0_canMove_9 : decode cX0_canMove 9 = .ok (.iload_n 2, 1) := by decide +kernel
theorem dX0_canMove_10 : decode cX0_canMove 10 = .ok (.invokevirtual 61, 3) := by decide +kernel
theorem dX0_canMove_13 : decode cX0_canMove 13 = .ok (.ifCond .ne 13, 3) := by decide +kernel
theorem dX0_canMove_16 : decode cX0_canMove 16 = .ok (.new 64, 3) := by decide +kernel
theorem dX0_canMove_19 : decode cX0_canMove 19 = .ok (.dup, 1) := by decide +kernel
theorem dX0_canMove_20 : decode cX0_canMove 20 = .ok (.ldc 91, 2) := by decide +kernel
theorem dX0_canMove_22 : decode cX0_canMove 22 = .ok (.invokespecial 68, 3) := by decide +kernel
theorem dX0_canMove_25 : decode cX0_canMove 25 = .ok (.athrow, 1) := by decide +kernel
theorem dX0_canMove_26 : decode cX0_canMove 26 = .ok (.aload_n 0, 1) := by decide +kernel
theorem dX0_canMove_27 : decode cX0_canMove 27 = .ok (.iload_n 1, 1) := by decide +kernel
theorem dX0_canMove_28 : decode cX0_canMove 28 = .ok (.iload_n 2, 1) := by decide +kernel
theorem dX0_canMove_29 : decode cX0_canMove 29 = .ok (.invokevirtual 105, 3) := by decide +kernel
theorem dX0_canMove_32 : decode cX0_canMove 32 = .ok (.ireturn, 1) := by decide +kernel
theorem dX0_way_0 : decode cX0_way 0 = .ok (.aload_n 0, 1) := by decide +kernel
theorem dX0_way_1 : decode cX0_way 1 = .ok (.aload_n 0, 1) := by decide +kernel
theorem dX0_way_2 : decode cX0_way 2 = .ok (.getfield 77, 3) := by decide +kernel
theorem dX0_way_5 : decode cX0_way 5 = .ok (.invokevirtual 127, 3) := by decide +kernel
theorem dX0_way_8 : decode cX0_way 8 = .ok (.ireturn, 1) := by decide +kernel
theorem dX0_wayByDisks_0 : decode cX0_wayByDisks 0 = .ok (.aload_n 0, 1) := by decide +kernel
theorem dX0_wayByDisks_1 : decode cX0_wayByDisks 1 = .ok (.getfield 117, 3) := by decide +kernel
theorem dX0_wayByDisks_4 : decode cX0_wayByDisks 4 = .ok (.iconst 3, 1) := by decide +kernel
theorem dX0_wayByDisks_5 : decode cX0_wayByDisks 5 = .ok (.if_icmp .gt 17, 3) := by decide +kernel
theorem dX0_wayByDisks_8 : decode cX0_wayByDisks 8 = .ok (.aload_n 0, 1) := by decide +kernel
theorem dX0_wayByDisks_9 : decode cX0_wayByDisks 9 = .ok (.getfield 102, 3) := by decide +kernel
theorem dX0_wayByDisks_12 : decode cX0_wayByDisks 12 = .ok (.ifCond .ne 10, 3) := by decide +kernel
theorem dX0_wayByDisks_15 : decode cX0_wayByDisks 15 = .ok (.aload_n 0, 1) := by decide +kernel
theorem dX0_wayByDisks_16 : decode cX0_wayByDisks 16 = .ok (.invokevirtual 131, 3) := by decide +kernel
theorem dX0_wayByDisks_19 : decode cX0_wayByDisks 19 = .ok (.ifCond .eq 13, 3) := by decide +kernel
theorem dX0_wayByDisks_22 : decode cX0_wayByDisks 22 = .ok (.new 72, 3) := by decide +kernel
theorem dX0_wayByDisks_25 : decode cX0_wayByDisks 25 = .ok (.dup, 1) := by decide +kernel
theorem dX0_wayByDisks_26 : decode cX0_wayByDisks 26 = .ok (.ldc 135, 2) := by decide +kernel
theorem dX0_wayByDisks_28 : decode cX0_wayByDisks 28 = .ok (.invokespecial 76, 3) := by decide +kernel
theorem dX0_wayByDisks_31 : decode cX0_wayByDisks 31 = .ok (.athrow, 1) := by decide +kernel
theorem dX0_wayByDisks_32 : decode cX0_wayByDisks 32 = .ok (.aload_n 0, 1) := by decide +kernel
theorem dX0_wayByDisks_33 : decode cX0_wayByDisks 33 = .ok (.getfield 53, 3) := by decide +kernel
theorem dX0_wayByDisks_36 : decode cX0_wayByDisks 36 = .ok (.iconst 1, 1) := by decide +kernel
theorem dX0_wayByDisks_37 : decode cX0_wayByDisks 37 = .ok (.isub, 1) := by decide +kernel
theorem dX0_wayByDisks_38 : decode cX0_wayByDisks 38 = .ok (.istore_n 1, 1) := by decide +kernel
theorem dX0_wayByDisks_39 : decode cX0_wayByDisks 39 = .ok (.iload_n 1, 1) := by decide +kernel
theorem dX0_wayByDisks_40 : decode cX0_wayByDisks 40 = .ok (.ifCond .lt 30, 3) := by decide +kernel
theorem dX0_wayByDisks_43 : decode cX0_wayByDisks 43 = .ok (.aload_n 0, 1) := by decide +kernel
theorem dX0_wayByDisks_44 : decode cX0_wayByDisks 44 = .ok (.aload_n 0, 1) := by decide +kernel
theorem dX0_wayByDisks_45 : decode cX0_wayByDisks 45 = .ok (.getfield 77, 3) := by decide +kernel
theorem dX0_wayByDisks_48 : decode cX0_wayByDisks 48 = .ok (.iload_n 1, 1) := by decide +kernel
theorem dX0_wayByDisks_49 : decode cX0_wayByDisks 49 = .ok (.invokevirtual 80, 3) := by decide +kernel
theorem dX0_wayByDisks_52 : decode cX0_wayByDisks 52 = .ok (.aload_n 0, 1) := by decide +kernel
theorem dX0_wayByDisks_53 : decode cX0_wayByDisks 53 = .ok (.aload_n 0, 1) := by decide +kernel
theorem dX0_wayByDisks_54 : decode cX0_wayByDisks 54 = .ok (.getfield 84, 3) := by decide +kernel
theorem dX0_wayByDisks_57 : decode cX0_wayByDisks 57 = .ok (.iload_n 1, 1) := by decide +kernel
theorem dX0_wayByDisks_58 : decode cX0_wayByDisks 58 = .ok (.invokevirtual 80, 3) := by decide +kernel
theorem dX0_wayByDisks_61 : decode cX0_wayByDisks 61 = .ok (.if_icmp .ne 9, 3) := by decide +kernel
theorem dX0_wayByDisks_64 : decode cX0_wayByDisks 64 = .ok (.iinc 1 (-1), 3) := by decide +kernel
theorem dX0_wayByDisks_67 : decode cX0_wayByDisks 67 = .ok (.goto (-28), 3) := by decide +kernel
theorem dX0_wayByDisks_70 : decode cX0_wayByDisks 70 = .ok (.iload_n 1, 1) := by decide +kernel
theorem dX0_wayByDisks_71 : decode cX0_wayByDisks 71 = .ok (.ifCond .ge 5, 3) := by decide +kernel
theorem dX0_wayByDisks_74 : decode cX0_wayByDisks 74 = .ok (.iconst 0, 1) := by decide +kernel
theorem dX0_wayByDisks_75 : decode cX0_wayByDisks 75 = .ok (.ireturn, 1) := by decide +kernel
theorem dX0_wayByDisks_76 : decode cX0_wayByDisks 76 = .ok (.aload_n 0, 1) := by decide +kernel
theorem dX0_wayByDisks_77 : decode cX0_wayByDisks 77 = .ok (.aload_n 0, 1) := by decide +kernel
theorem dX0_wayByDisks_78 : decode cX0_wayByDisks 78 = .ok (.getfield 77, 3) := by decide +kernel
theorem dX0_wayByDisks_81 : decode cX0_wayByDisks 81 = .ok (.iload_n 1, 1) := by decide +kernel
theorem dX0_wayByDisks_82 : decode cX0_wayByDisks 82 = .ok (.invokevirtual 80, 3) := by decide +kernel
theorem dX0_wayByDisks_85 : decode cX0_wayByDisks 85 = .ok (.istore_n 2, 1) := by decide +kernel
theorem dX0_wayByDisks_86 : decode cX0_wayByDisks 86 = .ok (.aload_n 0, 1) := by decide +kernel
theorem dX0_wayByDisks_87 : decode cX0_wayByDisks 87 = .ok (.aload_n 0, 1) := by decide +kernel
theorem dX0_wayByDisks_88 : decode cX0_wayByDisks 88 = .ok (.getfield 84, 3) := by decide +kernel
theorem dX0_wayByDisks_91 : decode cX0_wayByDisks 91 = .ok (.iload_n 1, 1) := by decide +kernel
theorem dX0_wayByDisks_92 : decode cX0_wayByDisks 92 = .ok (.invokevirtual 80, 3) := by decide +kernel
theorem dX0_wayByDisks_95 : decode cX0_wayByDisks 95 = .ok (.istore_n 3, 1) := by decide +kernel
theorem dX0_wayByDisks_96 : decode cX0_wayByDisks 96 = .ok (.iload_n 2, 1) := by decide +kernel
theorem dX0_wayByDisks_97 : decode cX0_wayByDisks 97 = .ok (.iload_n 3, 1) := by decide +kernel
theorem dX0_wayByDisks_98 : decode cX0_wayByDisks 98 = .ok (.invokestatic 137, 3) := by decide +kernel
theorem dX0_wayByDisks_101 : decode cX0_wayByDisks 101 = .ok (.istore 4, 2) := by decide +kernel
theorem dX0_wayByDisks_103 : decode cX0_wayByDisks 103 = .ok (.aload_n 0, 1) := by decide +kernel
theorem dX0_wayByDisks_104 : decode cX0_wayByDisks 104 = .ok (.aload_n 0, 1) := by decide +kernel
theorem dX0_wayByDisks_105 : decode cX0_wayByDisks 105 = .ok (.getfield 77, 3) := by decide +kernel
theorem dX0_wayByDisks_108 : decode cX0_wayByDisks 108 = .ok (.iload_n 1, 1) := by decide +kernel
theorem dX0_wayByDisks_109 : decode cX0_wayByDisks 109 = .ok (.iload 4, 2) := by decide +kernel
theorem dX0_wayByDisks_111 : decode cX0_wayByDisks 111 = .ok (.invokevirtual 140, 3) := by decide +kernel
theorem dX0_wayByDisks_114 : decode cX0_wayByDisks 114 = .ok (.aload_n 0, 1) := by decide +kernel
theorem dX0_wayByDisks_115 : decode cX0_wayByDisks 115 = .ok (.aload_n 0, 1) := by decide +kernel
theorem dX0_wayByDisks_116 : decode cX0_wayByDisks 116 = .ok (.getfield 84, 3) := by decide +kernel
theorem dX0_wayByDisks_119 : decode cX0_wayByDisks 119 = .ok (.iload_n 1, 1) := by decide +kernel
theorem dX0_wayByDisks_120 : decode cX0_wayByDisks 120 = .ok (.iload 4, 2) := by decide +kernel
theorem dX0_wayByDisks_122 : decode cX0_wayByDisks 122 = .ok (.invokevirtual 140, 3) := by decide +kernel
theorem dX0_wayByDisks_125 : decode cX0_wayByDisks 125 = .ok (.iadd, 1) := by decide +kernel
theorem dX0_wayByDisks_126 : decode cX0_wayByDisks 126 = .ok (.iconst 1, 1) := by decide +kernel
theorem dX0_wayByDisks_127 : decode cX0_wayByDisks 127 = .ok (.iadd, 1) := by decide +kernel
theorem dX0_wayByDisks_128 : decode cX0_wayByDisks 128 = .ok (.istore 5, 2) := by decide +kernel
theorem dX0_wayByDisks_130 : decode cX0_wayByDisks 130 = .ok (.aload_n 0, 1) := by decide +kernel
theorem dX0_wayByDisks_131 : decode cX0_wayByDisks 131 = .ok (.aload_n 0, 1) := by decide +kernel
theorem dX0_wayByDisks_132 : decode cX0_wayByDisks 132 = .ok (.getfield 77, 3) := by decide +kernel
theorem dX0_wayByDisks_135 : decode cX0_wayByDisks 135 = .ok (.iload_n 1, 1) := by decide +kernel
theorem dX0_wayByDisks_136 : decode cX0_wayByDisks 136 = .ok (.iload_n 3, 1) := by decide +kernel
theorem dX0_wayByDisks_137 : decode cX0_wayByDisks 137 = .ok (.invokevirtual 140, 3) := by decide +kernel
theorem dX0_wayByDisks_140 : decode cX0_wayByDisks 140 = .ok (.aload_n 0, 1) := by decide +kernel
theorem dX0_wayByDisks_141 : decode cX0_wayByDisks 141 = .ok (.aload_n 0, 1) := by decide +kernel
theorem dX0_wayByDisks_142 : decode cX0_wayByDisks 142 = .ok (.getfield 84, 3) := by decide +kernel
theorem dX0_wayByDisks_145 : decode cX0_wayByDisks 145 = .ok (.iload_n 1, 1) := by decide +kernel
theorem dX0_wayByDisks_146 : decode cX0_wayByDisks 146 = .ok (.iload_n 2, 1) := by decide +kernel
theorem dX0_wayByDisks_147 : decode cX0_wayByDisks 147 = .ok (.invokevirtual 140, 3) := by decide +kernel
theorem dX0_wayByDisks_150 : decode cX0_wayByDisks 150 = .ok (.iadd, 1) := by decide +kernel
theorem dX0_wayByDisks_151 : decode cX0_wayByDisks 151 = .ok (.iconst 1, 1) := by decide +kernel
theorem dX0_wayByDisks_152 : decode cX0_wayByDisks 152 = .ok (.iload_n 1, 1) := by decide +kernel
theorem dX0_wayByDisks_153 : decode cX0_wayByDisks 153 = .ok (.ishl, 1) := by decide +kernel
theorem dX0_wayByDisks_154 : decode cX0_wayByDisks 154 = .ok (.iadd, 1) := by decide +kernel
theorem dX0_wayByDisks_155 : decode cX0_wayByDisks 155 = .ok (.iconst 1, 1) := by decide +kernel
theorem dX0_wayByDisks_156 : decode cX0_wayByDisks 156 = .ok (.iadd, 1) := by decide +kernel
theorem dX0_wayByDisks_157 : decode cX0_wayByDisks 157 = .ok (.istore 6, 2) := by decide +kernel
theorem dX0_wayByDisks_159 : decode cX0_wayByDisks 159 = .ok (.iload 5, 2) := by decide +kernel
theorem dX0_wayByDisks_161 : decode cX0_wayByDisks 161 = .ok (.iload 6, 2) := by decide +kernel
theorem dX0_wayByDisks_163 : decode cX0_wayByDisks 163 = .ok (.invokestatic 143, 3) := by decide +kernel
theorem dX0_wayByDisks_166 : decode cX0_wayByDisks 166 = .ok (.ireturn, 1) := by decide +kernel
theorem dX0_lost_0 : decode cX0_lost 0 = .ok (.aload_n 0, 1) := by decide +kernel
theorem dX0_lost_1 : decode cX0_lost 1 = .ok (.aload_n 0, 1) := by decide +kernel
theorem dX0_lost_2 : decode cX0_lost 2 = .ok (.getfield 77, 3) := by decide +kernel
theorem dX0_lost_5 : decode cX0_lost 5 = .ok (.invokevirtual 127, 3) := by decide +kernel
theorem dX0_lost_8 : decode cX0_lost 8 = .ok (.istore_n 1, 1) := by decide +kernel
theorem dX0_lost_9 : decode cX0_lost 9 = .ok (.aload_n 0, 1) := by decide +kernel
theorem dX0_lost_10 : decode cX0_lost 10 = .ok (.aload_n 0, 1) := by decide +kernel
theorem dX0_lost_11 : decode cX0_lost 11 = .ok (.getfield 69, 3) := by decide +kernel
theorem dX0_lost_14 : decode cX0_lost 14 = .ok (.ifCond .le 12, 3) := by decide +kernel
theorem dX0_lost_17 : decode cX0_lost 17 = .ok (.aload_n 0, 1) := by decide +kernel
theorem dX0_lost_18 : decode cX0_lost 18 = .ok (.getfield 20, 3) := by decide +kernel
theorem dX0_lost_21 : decode cX0_lost 21 = .ok (.iconst 0, 1) := by decide +kernel
theorem dX0_lost_22 : decode cX0_lost 22 = .ok (.iaload, 1) := by decide +kernel
theorem dX0_lost_23 : decode cX0_lost 23 = .ok (.goto 7, 3) := by decide +kernel
theorem dX0_lost_26 : decode cX0_lost 26 = .ok (.aload_n 0, 1) := by decide +kernel
theorem dX0_lost_27 : decode cX0_lost 27 = .ok (.getfield 77, 3) := by decide +kernel
theorem dX0_lost_30 : decode cX0_lost 30 = .ok (.invokevirtual 127, 3) := by decide +kernel
theorem dX0_lost_33 : decode cX0_lost 33 = .ok (.istore_n 2, 1) := by decide +kernel
theorem dX0_lost_34 : decode cX0_lost 34 = .ok (.iload_n 1, 1) := by decide +kernel
theorem dX0_lost_35 : decode cX0_lost 35 = .ok (.iconst (-1), 1) := by decide +kernel
theorem dX0_lost_36 : decode cX0_lost 36 = .ok (.if_icmp .eq 8, 3) := by decide +kernel
theorem dX0_lost_39 : decode cX0_lost 39 = .ok (.iload_n 2, 1) := by decide +kernel
theorem dX0_lost_40 : decode cX0_lost 40 = .ok (.iconst (-1), 1) := by decide +kernel
theorem dX0_lost_41 : decode cX0_lost 41 = .ok (.if_icmp .ne 13, 3) := by decide +kernel
theorem dX0_lost_44 : decode cX0_lost 44 = .ok (.new 72, 3) := by decide +kernel
theorem dX0_lost_47 : decode cX0_lost 47 = .ok (.dup, 1) := by decide +kernel
theorem dX0_lost_48 : decode cX0_lost 48 = .ok (.ldc 148, 2) := by decide +kernel
theorem dX0_lost_50 : decode cX0_lost 50 = .ok (.invokespecial 76, 3) := by decide +kernel
theorem dX0_lost_53 : decode cX0_lost 53 = .ok (.athrow, 1) := by decide +kernel
theorem dX0_lost_54 : decode cX0_lost 54 = .ok (.aload_n 0, 1) := by decide +kernel
theorem dX0_lost_55 : decode cX0_lost 55 = .ok (.getfield 69, 3) := by decide +kernel
theorem dX0_lost_58 : decode cX0_lost 58 = .ok (.iload_n 1, 1) := by decide +kernel
theorem dX0_lost_59 : decode cX0_lost 59 = .ok (.iadd, 1) := by decide +kernel
theorem dX0_lost_60 : decode cX0_lost 60 = .ok (.iload_n 2, 1) := by decide +kernel
theorem dX0_lost_61 : decode cX0_lost 61 = .ok (.isub, 1) := by decide +kernel
theorem dX0_lost_62 : decode cX0_lost 62 = .ok (.ireturn, 1) := by decide +kernel
theorem dX0_next_0 : decode cX0_next 0 = .ok (.aload_n 0, 1) := by decide +kernel
theorem dX0_next_1 : decode cX0_next 1 = .ok (.aload_n 0, 1) := by decide +kernel
theorem dX0_next_2 : decode cX0_next 2 = .ok (.getfield 77, 3) := by decide +kernel
theorem dX0_next_5 : decode cX0_next 5 = .ok (.invokevirtual 127, 3) := by decide +kernel
theorem dX0_next_8 : decode cX0_next 8 = .ok (.istore_n 1, 1) := by decide +kernel
theorem dX0_next_9 : decode cX0_next 9 = .ok (.iload_n 1, 1) := by decide +kernel
theorem dX0_next_10 : decode cX0_next 10 = .ok (.iconst 1, 1) := by decide +kernel
theorem dX0_next_11 : decode cX0_next 11 = .ok (.if_icmp .ge 5, 3) := by decide +kernel
theorem dX0_next_14 : decode cX0_next 14 = .ok (.iconst (-1), 1) := by decide +kernel
theorem dX0_next_15 : decode cX0_next 15 = .ok (.ireturn, 1) := by decide +kernel
theorem dX0_next_16 : decode cX0_next 16 = .ok (.iconst 0, 1) := by decide +kernel
theorem dX0_next_17 : decode cX0_next 17 = .ok (.istore_n 2, 1) := by decide +kernel
theorem dX0_next_18 : decode cX0_next 18 = .ok (.iload_n 2, 1) := by decide +kernel
theorem dX0_next_19 : decode cX0_next 19 = .ok (.aload_n 0, 1) := by decide +kernel
theorem dX0_next_20 : decode cX0_next 20 = .ok (.getfield 117, 3) := by decide +kernel
theorem dX0_next_23 : decode cX0_next 23 = .ok (.if_icmp .ge 61, 3) := by decide +kernel
theorem dX0_next_26 : decode cX0_next 26 = .ok (.iconst 0, 1) := by decide +kernel
theorem dX0_next_27 : decode cX0_next 27 = .ok (.istore_n 3, 1) := by decide +kernel
theorem dX0_next_28 : decode cX0_next 28 = .ok (.iload_n 3, 1) := by decide +kernel
theorem dX0_next_29 : decode cX0_next 29 = .ok (.aload_n 0, 1) := by decide +kernel
theorem dX0_next_30 : decode cX0_next 30 = .ok (.getfield 117, 3) := by decide +kernel
theorem dX0_next_33 : decode cX0_next 33 = .ok (.if_icmp .ge 45, 3) := by decide +kernel
theorem dX0_next_36 : decode cX0_next 36 = .ok (.aload_n 0, 1) := by decide +kernel
theorem dX0_next_37 : decode cX0_next 37 = .ok (.iload_n 2, 1) := by decide +kernel
theorem dX0_next_38 : decode cX0_next 38 = .ok (.iload_n 3, 1) := by decide +kernel
theorem dX0_next_39 : decode cX0_next 39 = .ok (.invokevirtual 105, 3) := by decide +kernel
theorem dX0_next_42 : decode cX0_next 42 = .ok (.ifCond .eq 30, 3) := by decide +kernel
theorem dX0_next_45 : decode cX0_next 45 = .ok (.aload_n 0, 1) := by decide +kernel
theorem dX0_next_46 : decode cX0_next 46 = .ok (.aload_n 0, 1) := by decide +kernel
theorem dX0_next_47 : decode cX0_next 47 = .ok (.aload_n 0, 1) := by decide +kernel
theorem dX0_next_48 : decode cX0_next 48 = .ok (.getfield 77, 3) := by decide +kernel
theorem dX0_next_51 : decode cX0_next 51 = .ok (.iload_n 2, 1) := by decide +kernel
theorem dX0_next_52 : decode cX0_next 52 = .ok (.iload_n 3, 1) := by decide +kernel
theorem dX0_next_53 : decode cX0_next 53 = .ok (.invokevirtual 111, 3) := by decide +kernel
theorem dX0_next_56 : decode cX0_next 56 = .ok (.invokevirtual 127, 3) := by decide +kernel
theorem dX0_next_59 : decode cX0_next 59 = .ok (.iload_n 1, 1) := by decide +kernel
theorem dX0_next_60 : decode cX0_next 60 = .ok (.iconst 1, 1) := by decide +kernel
theorem dX0_next_61 : decode cX0_next 61 = .ok (.isub, 1) := by decide +kernel
theorem dX0_next_62 : decode cX0_next 62 = .ok (.if_icmp .ne 10, 3) := by decide +kernel
theorem dX0_next_65 : decode cX0_next 65 = .ok (.bipush 10, 2) := by decide +kernel
theorem dX0_next_67 : decode cX0_next 67 = .ok (.iload_n 2, 1) := by decide +kernel
theorem dX0_next_68 : decode cX0_next 68 = .ok (.imul, 1) := by decide +kernel
theorem dX0_next_69 : decode cX0_next 69 = .ok (.iload_n 3, 1) := by decide +kernel
theorem dX0_next_70 : decode cX0_next 70 = .ok (.iadd, 1) := by decide +kernel
theorem dX0_next_71 : decode cX0_next 71 = .ok (.ireturn, 1) := by decide +kernel
theorem dX0_next_72 : decode cX0_next 72 = .ok (.iinc 3 1, 3) := by decide +kernel
theorem dX0_next_75 : decode cX0_next 75 = .ok (.goto (-47), 3) := by decide +kernel
theorem dX0_next_78 : decode cX0_next 78 = .ok (.iinc 2 1, 3) := by decide +kernel
theorem dX0_next_81 : decode cX0_next 81 = .ok (.goto (-63), 3) := by decide +kernel
theorem dX0_next_84 : decode cX0_next 84 = .ok (.iconst (-1), 1) := by decide +kernel
theorem dX0_next_85 : decode cX0_next 85 = .ok (.ireturn, 1) := by decide +kernel
theorem dX0_reachable_0 : decode cX0_reachable 0 = .ok (.aload_n 0, 1) := by decide +kernel
theorem dX0_reachable_1 : decode cX0_reachable 1 = .ok (.aload_n 0, 1) := by decide +kernel
theorem dX0_reachable_2 : decode cX0_reachable 2 = .ok (.getfield 77, 3) := by decide +kernel
theorem dX0_reachable_5 : decode cX0_reachable 5 = .ok (.aload_n 0, 1) := by decide +kernel
theorem dX0_reachable_6 : decode cX0_reachable 6 = .ok (.getfield 29, 3) := by decide +kernel
theorem dX0_reachable_9 : decode cX0_reachable 9 = .ok (.iconst 0, 1) := by decide +kernel
theorem dX0_reachable_10 : decode cX0_reachable 10 = .ok (.invokevirtual 150, 3) := by decide +kernel
theorem dX0_reachable_13 : decode cX0_reachable 13 = .ok (.ireturn, 1) := by decide +kernel
theorem dX0_splits_0 : decode cX0_splits 0 = .ok (.iload_n 1, 1) := by decide +kernel
theorem dX0_splits_1 : decode cX0_splits 1 = .ok (.ifCond .lt 19, 3) := by decide +kernel
theorem dX0_splits_4 : decode cX0_splits 4 = .ok (.iload_n 1, 1) := by decide +kernel
theorem dX0_splits_5 : decode cX0_splits 5 = .ok (.bipush 20, 2) := by decide +kernel
theorem dX0_splits_7 : decode cX0_splits 7 = .ok (.if_icmp .gt 13, 3) := by decide +kernel
theorem dX0_splits_10 : decode cX0_splits 10 = .ok (.iload_n 2, 1) := by decide +kernel
theorem dX0_splits_11 : decode cX0_splits 11 = .ok (.iconst 3, 1) := by decide +kernel
theorem dX0_splits_12 : decode cX0_splits 12 = .ok (.if_icmp .lt 8, 3) := by decide +kernel
theorem dX0_splits_15 : decode cX0_splits 15 = .ok (.iload_n 2, 1) := by decide +kernel
theorem dX0_splits_16 : decode cX0_splits 16 = .ok (.iconst 5, 1) := by decide +kernel
theorem dX0_splits_17 : decode cX0_splits 17 = .ok (.if_icmp .le 13, 3) := by decide +kernel
theorem dX0_splits_20 : decode cX0_splits 20 = .ok (.new 46, 3) := by decide +kernel
theorem dX0_splits_23 : decode cX0_splits 23 = .ok (.dup, 1) := by decide +kernel
theorem dX0_splits_24 : decode cX0_splits 24 = .ok (.ldc 154, 2) := by decide +kernel
theorem dX0_splits_26 : decode cX0_splits 26 = .ok (.invokespecial 50, 3) := by decide +kernel
theorem dX0_splits_29 : decode cX0_splits 29 = .ok (.athrow, 1) := by decide +kernel
theorem dX0_splits_30 : decode cX0_splits 30 = .ok (.aload_n 0, 1) := by decide +kernel
theorem dX0_splits_31 : decode cX0_splits 31 = .ok (.getfield 39, 3) := by decide +kernel
theorem dX0_splits_34 : decode cX0_splits 34 = .ok (.iload_n 1, 1) := by decide +kernel
theorem dX0_splits_35 : decode cX0_splits 35 = .ok (.iload_n 2, 1) := by decide +kernel
theorem dX0_splits_36 : decode cX0_splits 36 = .ok (.invokestatic 156, 3) := by decide +kernel
theorem dX0_splits_39 : decode cX0_splits 39 = .ok (.iaload, 1) := by decide +kernel
theorem dX0_splits_40 : decode cX0_splits 40 = .ok (.ireturn, 1) := by decide +kernel
theorem dX0_lay_0 : decode cX0_lay 0 = .ok (.aload_n 0, 1) := by decide +kernel
theorem dX0_lay_1 : decode cX0_lay 1 = .ok (.iload_n 1, 1) := by decide +kernel
theorem dX0_lay_2 : decode cX0_lay 2 = .ok (.putfield 117, 3) := by decide +kernel
theorem dX0_lay_5 : decode cX0_lay 5 = .ok (.aload_n 0, 1) := by decide +kernel
theorem dX0_lay_6 : decode cX0_lay 6 = .ok (.iload_n 2, 1) := by decide +kernel
theorem dX0_lay_7 : decode cX0_lay 7 = .ok (.putfield 53, 3) := by decide +kernel
theorem dX0_lay_10 : decode cX0_lay 10 = .ok (.iconst 1, 1) := by decide +kernel
theorem dX0_lay_11 : decode cX0_lay 11 = .ok (.istore_n 3, 1) := by decide +kernel
theorem dX0_lay_12 : decode cX0_lay 12 = .ok (.iconst 0, 1) := by decide +kernel
theorem dX0_lay_13 : decode cX0_lay 13 = .ok (.istore 4, 2) := by decide +kernel
theorem dX0_lay_15 : decode cX0_lay 15 = .ok (.iload 4, 2) := by decide +kernel
theorem dX0_lay_17 : decode cX0_lay 17 = .ok (.aload_n 0, 1) := by decide +kernel
theorem dX0_lay_18 : decode cX0_lay 18 = .ok (.getfield 9, 3) := by decide +kernel
theorem dX0_lay_21 : decode cX0_lay 21 = .ok (.arraylength, 1) := by decide +kernel
theorem dX0_lay_22 : decode cX0_lay 22 = .ok (.if_icmp .ge 21, 3) := by decide +kernel
theorem dX0_lay_25 : decode cX0_lay 25 = .ok (.aload_n 0, 1) := by decide +kernel
theorem dX0_lay_26 : decode cX0_lay 26 = .ok (.getfield 9, 3) := by decide +kernel
theorem dX0_lay_29 : decode cX0_lay 29 = .ok (.iload 4, 2) := by decide +kernel
theorem dX0_lay_31 : decode cX0_lay 31 = .ok (.iload_n 3, 1) := by decide +kernel
theorem dX0_lay_32 : decode cX0_lay 32 = .ok (.iastore, 1) := by decide +kernel
theorem dX0_lay_33 : decode cX0_lay 33 = .ok (.iload_n 3, 1) := by decide +kernel
theorem dX0_lay_34 : decode cX0_lay 34 = .ok (.iload_n 1, 1) := by decide +kernel
theorem dX0_lay_35 : decode cX0_lay 35 = .ok (.imul, 1) := by decide +kernel
theorem dX0_lay_36 : decode cX0_lay 36 = .ok (.istore_n 3, 1) := by decide +kernel
theorem dX0_lay_37 : decode cX0_lay 37 = .ok (.iinc 4 1, 3) := by decide +kernel
theorem dX0_lay_40 : decode cX0_lay 40 = .ok (.goto (-25), 3) := by decide +kernel
theorem dX0_lay_43 : decode cX0_lay 43 = .ok (.iconst 0, 1) := by decide +kernel
theorem dX0_lay_44 : decode cX0_lay 44 = .ok (.istore 4, 2) := by decide +kernel
theorem dX0_lay_46 : decode cX0_lay 46 = .ok (.iload 4, 2) := by decide +kernel
theorem dX0_lay_48 : decode cX0_lay 48 = .ok (.aload_n 0, 1) := by decide +kernel
theorem dX0_lay_49 : decode cX0_lay 49 = .ok (.getfield 13, 3) := by decide +kernel
theorem dX0_lay_52 : decode cX0_lay 52 = .ok (.arraylength, 1) := by decide +kernel
theorem dX0_lay_53 : decode cX0_lay 53 = .ok (.if_icmp .ge 17, 3) := by decide +kernel
theorem dX0_lay_56 : decode cX0_lay 56 = .ok (.aload_n 0, 1) := by decide +kernel
theorem dX0_lay_57 : decode cX0_lay 57 = .ok (.getfield 13, 3) := by decide +kernel
theorem dX0_lay_60 : decode cX0_lay 60 = .ok (.iload 4, 2) := by decide +kernel
theorem dX0_lay_62 : decode cX0_lay 62 = .ok (.iconst 0, 1) := by decide +kernel
theorem dX0_lay_63 : decode cX0_lay 63 = .ok (.iastore, 1) := by decide +kernel
theorem dX0_lay_64 : decode cX0_lay 64 = .ok (.iinc 4 1, 3) := by decide +kernel
theorem dX0_lay_67 : decode cX0_lay 67 = .ok (.goto (-21), 3) := by decide +kernel
theorem dX0_lay_70 : decode cX0_lay 70 = .ok (.iconst 0, 1) := by decide +kernel
theorem dX0_lay_71 : decode cX0_lay 71 = .ok (.istore 4, 2) := by decide +kernel
theorem dX0_lay_73 : decode cX0_lay 73 = .ok (.iload 4, 2) := by decide +kernel
theorem dX0_lay_75 : decode cX0_lay 75 = .ok (.aload_n 0, 1) := by decide +kernel
theorem dX0_lay_76 : decode cX0_lay 76 = .ok (.getfield 16, 3) := by decide +kernel
theorem dX0_lay_79 : decode cX0_lay 79 = .ok (.arraylength, 1) := by decide +kernel
theorem dX0_lay_80 : decode cX0_lay 80 = .ok (.if_icmp .ge 17, 3) := by decide +kernel
theorem dX0_lay_83 : decode cX0_lay 83 = .ok (.aload_n 0, 1) := by decide +kernel
theorem dX0_lay_84 : decode cX0_lay 84 = .ok (.getfield 16, 3) := by decide +kernel
theorem dX0_lay_87 : decode cX0_lay 87 = .ok (.iload 4, 2) := by decide +kernel
theorem dX0_lay_89 : decode cX0_lay 89 = .ok (.iconst 1, 1) := by decide +kernel
theorem dX0_lay_90 : decode cX0_lay 90 = .ok (.bastore, 1) := by decide +kernel
theorem dX0_lay_91 : decode cX0_lay 91 = .ok (.iinc 4 1, 3) := by decide +kernel
theorem dX0_lay_94 : decode cX0_lay 94 = .ok (.goto (-21), 3) := by decide +kernel
theorem dX0_lay_97 : decode cX0_lay 97 = .ok (.aload_n 0, 1) := by decide +kernel
theorem dX0_lay_98 : decode cX0_lay 98 = .ok (.iconst 0, 1) := by decide +kernel
theorem dX0_lay_99 : decode cX0_lay 99 = .ok (.putfield 102, 3) := by decide +kernel
theorem dX0_lay_102 : decode cX0_lay 102 = .ok (.aload_n 0, 1) := by decide +kernel
theorem dX0_lay_103 : decode cX0_lay 103 = .ok (.iconst 0, 1) := by decide +kernel
theorem dX0_lay_104 : decode cX0_lay 104 = .ok (.putfield 77, 3) := by decide +kernel
theorem dX0_lay_107 : decode cX0_lay 107 = .ok (.aload_n 0, 1) := by decide +kernel
theorem dX0_lay_108 : decode cX0_lay 108 = .ok (.aload_n 0, 1) := by decide +kernel
theorem dX0_lay_109 : decode cX0_lay 109 = .ok (.getfield 9, 3) := by decide +kernel
theorem dX0_lay_112 : decode cX0_lay 112 = .ok (.aload_n 0, 1) := by decide +kernel
theorem dX0_lay_113 : decode cX0_lay 113 = .ok (.getfield 53, 3) := by decide +kernel
theorem dX0_lay_116 : decode cX0_lay 116 = .ok (.iaload, 1) := by decide +kernel
theorem dX0_lay_117 : decode cX0_lay 117 = .ok (.iconst 1, 1) := by decide +kernel
theorem dX0_lay_118 : decode cX0_lay 118 = .ok (.isub, 1) := by decide +kernel
theorem dX0_lay_119 : decode cX0_lay 119 = .ok (.putfield 84, 3) := by decide +kernel
theorem dX0_lay_122 : decode cX0_lay 122 = .ok (.aload_n 0, 1) := by decide +kernel
theorem dX0_lay_123 : decode cX0_lay 123 = .ok (.iconst 0, 1) := by decide +kernel
theorem dX0_lay_124 : decode cX0_lay 124 = .ok (.putfield 69, 3) := by decide +kernel
theorem dX0_lay_127 : decode cX0_lay 127 = .ok (.aload_n 0, 1) := by decide +kernel
theorem dX0_lay_128 : decode cX0_lay 128 = .ok (.iconst 0, 1) := by decide +kernel
theorem dX0_lay_129 : decode cX0_lay 129 = .ok (.putfield 87, 3) := by decide +kernel
theorem dX0_lay_132 : decode cX0_lay 132 = .ok (.return_, 1) := by decide +kernel
theorem dX0_isPeg_0 : decode cX0_isPeg 0 = .ok (.iload_n 1, 1) := by decide +kernel
theorem dX0_isPeg_1 : decode cX0_isPeg 1 = .ok (.ifCond .lt 15, 3) := by decide +kernel
theorem dX0_isPeg_4 : decode cX0_isPeg 4 = .ok (.iload_n 1, 1) := by decide +kernel
theorem dX0_isPeg_5 : decode cX0_isPeg 5 = .ok (.aload_n 0, 1) := by decide +kernel
theorem dX0_isPeg_6 : decode cX0_isPeg 6 = .ok (.getfield 117, 3) := by decide +kernel
theorem dX0_isPeg_9 : decode cX0_isPeg 9 = .ok (.if_icmp .ge 7, 3) := by decide +kernel
theorem dX0_isPeg_12 : decode cX0_isPeg 12 = .ok (.iconst 1, 1) := by decide +kernel
theorem dX0_isPeg_13 : decode cX0_isPeg 13 = .ok (.goto 4, 3) := by decide +kernel
theorem dX0_isPeg_16 : decode cX0_isPeg 16 = .ok (.iconst 0, 1) := by decide +kernel
theorem dX0_isPeg_17 : decode cX0_isPeg 17 = .ok (.ireturn, 1) := by decide +kernel
theorem dX0_isDisk_0 : decode cX0_isDisk 0 = .ok (.iload_n 1, 1) := by decide +kernel
theorem dX0_isDisk_1 : decode cX0_isDisk 1 = .ok (.ifCond .lt 15, 3) := by decide +kernel
theorem dX0_isDisk_4 : decode cX0_isDisk 4 = .ok (.iload_n 1, 1) := by decide +kernel
theorem dX0_isDisk_5 : decode cX0_isDisk 5 = .ok (.aload_n 0, 1) := by decide +kernel
theorem dX0_isDisk_6 : decode cX0_isDisk 6 = .ok (.getfield 53, 3) := by decide +kernel
theorem dX0_isDisk_9 : decode cX0_isDisk 9 = .ok (.if_icmp .ge 7, 3) := by decide +kernel
theorem dX0_isDisk_12 : decode cX0_isDisk 12 = .ok (.iconst 1, 1) := by decide +kernel
theorem dX0_isDisk_13 : decode cX0_isDisk 13 = .ok (.goto 4, 3) := by decide +kernel
theorem dX0_isDisk_16 : decode cX0_isDisk 16 = .ok (.iconst 0, 1) := by decide +kernel
theorem dX0_isDisk_17 : decode cX0_isDisk 17 = .ok (.ireturn, 1) := by decide +kernel
theorem dX0_isNumber_0 : decode cX0_isNumber 0 = .ok (.iload_n 1, 1) := by decide +kernel
theorem dX0_isNumber_1 : decode cX0_isNumber 1 = .ok (.ifCond .lt 20, 3) := by decide +kernel
theorem dX0_isNumber_4 : decode cX0_isNumber 4 = .ok (.iload_n 1, 1) := by decide +kernel
theorem dX0_isNumber_5 : decode cX0_isNumber 5 = .ok (.aload_n 0, 1) := by decide +kernel
theorem dX0_isNumber_6 : decode cX0_isNumber 6 = .ok (.getfield 9, 3) := by decide +kernel
theorem dX0_isNumber_9 : decode cX0_isNumber 9 = .ok (.aload_n 0, 1) := by decide +kernel
theorem dX0_isNumber_10 : decode cX0_isNumber 10 = .ok (.getfield 53, 3) := by decide +kernel
theorem dX0_isNumber_13 : decode cX0_isNumber 13 = .ok (.iaload, 1) := by decide +kernel
theorem dX0_isNumber_14 : decode cX0_isNumber 14 = .ok (.if_icmp .ge 7, 3) := by decide +kernel
theorem dX0_isNumber_17 : decode cX0_isNumber 17 = .ok (.iconst 1, 1) := by decide +kernel
theorem dX0_isNumber_18 : decode cX0_isNumber 18 = .ok (.goto 4, 3) := by decide +kernel
theorem dX0_isNumber_21 : decode cX0_isNumber 21 = .ok (.iconst 0, 1) := by decide +kernel
theorem dX0_isNumber_22 : decode cX0_isNumber 22 = .ok (.ireturn, 1) := by decide +kernel
theorem dX0_pairOf_0 : decode cX0_pairOf 0 = .ok (.iload_n 0, 1) := by decide +kernel
theorem dX0_pairOf_1 : decode cX0_pairOf 1 = .ok (.iconst 5, 1) := by decide +kernel
theorem dX0_pairOf_2 : decode cX0_pairOf 2 = .ok (.imul, 1) := by decide +kernel
theorem dX0_pairOf_3 : decode cX0_pairOf 3 = .ok (.iload_n 1, 1) := by decide +kernel
theorem dX0_pairOf_4 : decode cX0_pairOf 4 = .ok (.iadd, 1) := by decide +kernel
theorem dX0_pairOf_5 : decode cX0_pairOf 5 = .ok (.ireturn, 1) := by decide +kernel
theorem dX0_isAnyBarred_0 : decode cX0_isAnyBarred 0 = .ok (.iconst 0, 1) := by decide +kernel
theorem dX0_isAnyBarred_1 : decode cX0_isAnyBarred 1 = .ok (.istore_n 1, 1) := by decide +kernel
theorem dX0_isAnyBarred_2 : decode cX0_isAnyBarred 2 = .ok (.iload_n 1, 1) := by decide +kernel
theorem dX0_isAnyBarred_3 : decode cX0_isAnyBarred 3 = .ok (.aload_n 0, 1) := by decide +kernel
theorem dX0_isAnyBarred_4 : decode cX0_isAnyBarred 4 = .ok (.getfield 16, 3) := by decide +kernel
theorem dX0_isAnyBarred_7 : decode cX0_isAnyBarred 7 = .ok (.arraylength, 1) := by decide +kernel
theorem dX0_isAnyBarred_8 : decode cX0_isAnyBarred 8 = .ok (.if_icmp .ge 20, 3) := by decide +kernel
theorem dX0_isAnyBarred_11 : decode cX0_isAnyBarred 11 = .ok (.aload_n 0, 1) := by decide +kernel
theorem dX0_isAnyBarred_12 : decode cX0_isAnyBarred 12 = .ok (.getfield 16, 3) := by decide +kernel
theorem dX0_isAnyBarred_15 : decode cX0_isAnyBarred 15 = .ok (.iload_n 1, 1) := by decide +kernel
theorem dX0_isAnyBarred_16 : decode cX0_isAnyBarred 16 = .ok (.baload, 1) := by decide +kernel
theorem dX0_isAnyBarred_17 : decode cX0_isAnyBarred 17 = .ok (.ifCond .ne 5, 3) := by decide +kernel
theorem dX0_isAnyBarred_20 : decode cX0_isAnyBarred 20 = .ok (.iconst 1, 1) := by decide +kernel
theorem dX0_isAnyBarred_21 : decode cX0_isAnyBarred 21 = .ok (.ireturn, 1) := by decide +kernel
theorem dX0_isAnyBarred_22 : decode cX0_isAnyBarred 22 = .ok (.iinc 1 1, 3) := by decide +kernel
theorem dX0_isAnyBarred_25 : decode cX0_isAnyBarred 25 = .ok (.goto (-23), 3) := by decide +kernel
theorem dX0_isAnyBarred_28 : decode cX0_isAnyBarred 28 = .ok (.iconst 0, 1) := by decide +kernel
theorem dX0_isAnyBarred_29 : decode cX0_isAnyBarred 29 = .ok (.ireturn, 1) := by decide +kernel
theorem dX0_pegIn_0 : decode cX0_pegIn 0 = .ok (.aload_n 0, 1) := by decide +kernel
theorem dX0_pegIn_1 : decode cX0_pegIn 1 = .ok (.getfield 9, 3) := by decide +kernel
theorem dX0_pegIn_4 : decode cX0_pegIn 4 = .ok (.iload_n 2, 1) := by decide +kernel
theorem dX0_pegIn_5 : decode cX0_pegIn 5 = .ok (.iaload, 1) := by decide +kernel
theorem dX0_pegIn_6 : decode cX0_pegIn 6 = .ok (.istore_n 3, 1) := by decide +kernel
theorem dX0_pegIn_7 : decode cX0_pegIn 7 = .ok (.iload_n 3, 1) := by decide +kernel
theorem dX0_pegIn_8 : decode cX0_pegIn 8 = .ok (.iconst 1, 1) := by decide +kernel
theorem dX0_pegIn_9 : decode cX0_pegIn 9 = .ok (.if_icmp .lt 11, 3) := by decide +kernel
theorem dX0_pegIn_12 : decode cX0_pegIn 12 = .ok (.aload_n 0, 1) := by decide +kernel
theorem dX0_pegIn_13 : decode cX0_pegIn 13 = .ok (.getfield 117, 3) := by decide +kernel
theorem dX0_pegIn_16 : decode cX0_pegIn 16 = .ok (.iconst 1, 1) := by decide +kernel
theorem dX0_pegIn_17 : decode cX0_pegIn 17 = .ok (.if_icmp .ge 5, 3) := by decide +kernel
theorem dX0_pegIn_20 : decode cX0_pegIn 20 = .ok (.iconst 0, 1) := by decide +kernel
theorem dX0_pegIn_21 : decode cX0_pegIn 21 = .ok (.ireturn, 1) := by decide +kernel
theorem dX0_pegIn_22 : decode cX0_pegIn 22 = .ok (.iload_n 1, 1) := by decide +kernel
theorem dX0_pegIn_23 : decode cX0_pegIn 23 = .ok (.iload_n 3, 1) := by decide +kernel
theorem dX0_pegIn_24 : decode cX0_pegIn 24 = .ok (.idiv, 1) := by decide +kernel
theorem dX0_pegIn_25 : decode cX0_pegIn 25 = .ok (.aload_n 0, 1) := by decide +kernel
theorem dX0_pegIn_26 : decode cX0_pegIn 26 = .ok (.getfield 117, 3) := by decide +kernel
theorem dX0_pegIn_29 : decode cX0_pegIn 29 = .ok (.irem, 1) := by decide +kernel
theorem dX0_pegIn_30 : decode cX0_pegIn 30 = .ok (.ireturn, 1) := by decide +kernel
theorem dX0_diskBelow_0 : decode cX0_diskBelow 0 = .ok (.aload_n 0, 1) := by decide +kernel
theorem dX0_diskBelow_1 : decode cX0_diskBelow 1 = .ok (.iload_n 1, 1) := by decide +kernel
theorem dX0_diskBelow_2 : decode cX0_diskBelow 2 = .ok (.iload_n 2, 1) := by decide +kernel
theorem dX0_diskBelow_3 : decode cX0_diskBelow 3 = .ok (.invokevirtual 80, 3) := by decide +kernel
theorem dX0_diskBelow_6 : decode cX0_diskBelow 6 = .ok (.istore_n 3, 1) := by decide +kernel
theorem dX0_diskBelow_7 : decode cX0_diskBelow 7 = .ok (.iload_n 2, 1) := by decide +kernel
theorem dX0_diskBelow_8 : decode cX0_diskBelow 8 = .ok (.iconst 1, 1) := by decide +kernel
theorem dX0_diskBelow_9 : decode cX0_diskBelow 9 = .ok (.iadd, 1) := by decide +kernel
theorem dX0_diskBelow_10 : decode cX0_diskBelow 10 = .ok (.istore 4, 2) := by decide +kernel
theorem dX0_diskBelow_12 : decode cX0_diskBelow 12 = .ok (.iload 4, 2) := by decide +kernel
theorem dX0_diskBelow_14 : decode cX0_diskBelow 14 = .ok (.aload_n 0, 1) := by decide +kernel
theorem dX0_diskBelow_15 : decode cX0_diskBelow 15 = .ok (.getfield 53, 3) := by decide +kernel
theorem dX0_diskBelow_18 : decode cX0_diskBelow 18 = .ok (.if_icmp .ge 23, 3) := by decide +kernel
theorem dX0_diskBelow_21 : decode cX0_diskBelow 21 = .ok (.aload_n 0, 1) := by decide +kernel
theorem dX0_diskBelow_22 : decode cX0_diskBelow 22 = .ok (.iload_n 1, 1) := by decide +kernel
theorem dX0_diskBelow_23 : decode cX0_diskBelow 23 = .ok (.iload 4, 2) := by decide +kernel
theorem dX0_diskBelow_25 : decode cX0_diskBelow 25 = .ok (.invokevirtual 80, 3) := by decide +kernel
theorem dX0_diskBelow_28 : decode cX0_diskBelow 28 = .ok (.iload_n 3, 1) := by decide +kernel
theorem dX0_diskBelow_29 : decode cX0_diskBelow 29 = .ok (.if_icmp .ne 6, 3) := by decide +kernel
theorem dX0_diskBelow_32 : decode cX0_diskBelow 32 = .ok (.iload 4, 2) := by decide +kernel
theorem dX0_diskBelow_34 : decode cX0_diskBelow 34 = .ok (.ireturn, 1) := by decide +kernel
theorem dX0_diskBelow_35 : decode cX0_diskBelow 35 = .ok (.iinc 4 1, 3) := by decide +kernel
theorem dX0_diskBelow_38 : decode cX0_diskBelow 38 = .ok (.goto (-26), 3) := by decide +kernel
theorem dX0_diskBelow_41 : decode cX0_diskBelow 41 = .ok (.iconst (-1), 1) := by decide +kernel
theorem dX0_diskBelow_42 : decode cX0_diskBelow 42 = .ok (.ireturn, 1) := by decide +kernel
theorem dX0_mayLieOn_0 : decode cX0_mayLieOn 0 = .ok (.aload_n 0, 1) := by decide +kernel
theorem dX0_mayLieOn_1 : decode cX0_mayLieOn 1 = .ok (.getfield 102, 3) := by decide +kernel
theorem dX0_mayLieOn_4 : decode cX0_mayLieOn 4 = .ok (.ifCond .eq 23, 3) := by decide +kernel
theorem dX0_mayLieOn_7 : decode cX0_mayLieOn 7 = .ok (.iload_n 2, 1) := by decide +kernel
theorem dX0_mayLieOn_8 : decode cX0_mayLieOn 8 = .ok (.iconst (-1), 1) := by decide +kernel
theorem dX0_mayLieOn_9 : decode cX0_mayLieOn 9 = .ok (.if_icmp .eq 18, 3) := by decide +kernel
theorem dX0_mayLieOn_12 : decode cX0_mayLieOn 12 = .ok (.aload_n 0, 1) := by decide +kernel
theorem dX0_mayLieOn_13 : decode cX0_mayLieOn 13 = .ok (.getfield 13, 3) := by decide +kernel
theorem dX0_mayLieOn_16 : decode cX0_mayLieOn 16 = .ok (.iload_n 1, 1) := by decide +kernel
theorem dX0_mayLieOn_17 : decode cX0_mayLieOn 17 = .ok (.iaload, 1) := by decide +kernel
theorem dX0_mayLieOn_18 : decode cX0_mayLieOn 18 = .ok (.aload_n 0, 1) := by decide +kernel
theorem dX0_mayLieOn_19 : decode cX0_mayLieOn 19 = .ok (.getfield 13, 3) := by decide +kernel
theorem dX0_mayLieOn_22 : decode cX0_mayLieOn 22 = .ok (.iload_n 2, 1) := by decide +kernel
theorem dX0_mayLieOn_23 : decode cX0_mayLieOn 23 = .ok (.iaload, 1) := by decide +kernel
theorem dX0_mayLieOn_24 : decode cX0_mayLieOn 24 = .ok (.if_icmp .eq 7, 3) := by decide +kernel
theorem dX0_mayLieOn_27 : decode cX0_mayLieOn 27 = .ok (.iconst 1, 1) := by decide +kernel
theorem dX0_mayLieOn_28 : decode cX0_mayLieOn 28 = .ok (.goto 4, 3) := by decide +kernel
theorem dX0_mayLieOn_31 : decode cX0_mayLieOn 31 = .ok (.iconst 0, 1) := by decide +kernel
theorem dX0_mayLieOn_32 : decode cX0_mayLieOn 32 = .ok (.ireturn, 1) := by decide +kernel
theorem dX0_keepsRule_0 : decode cX0_keepsRule 0 = .ok (.iconst 0, 1) := by decide +kernel
theorem dX0_keepsRule_1 : decode cX0_keepsRule 1 = .ok (.istore_n 2, 1) := by decide +kernel
theorem dX0_keepsRule_2 : decode cX0_keepsRule 2 = .ok (.iload_n 2, 1) := by decide +kernel
theorem dX0_keepsRule_3 : decode cX0_keepsRule 3 = .ok (.aload_n 0, 1) := by decide +kernel
theorem dX0_keepsRule_4 : decode cX0_keepsRule 4 = .ok (.getfield 53, 3) := by decide +kernel
theorem dX0_keepsRule_7 : decode cX0_keepsRule 7 = .ok (.if_icmp .ge 25, 3) := by decide +kernel
theorem dX0_keepsRule_10 : decode cX0_keepsRule 10 = .ok (.aload_n 0, 1) := by decide +kernel
theorem dX0_keepsRule_11 : decode cX0_keepsRule 11 = .ok (.iload_n 2, 1) := by decide +kernel
theorem dX0_keepsRule_12 : decode cX0_keepsRule 12 = .ok (.aload_n 0, 1) := by decide +kernel
theorem dX0_keepsRule_13 : decode cX0_keepsRule 13 = .ok (.iload_n 1, 1) := by decide +kernel
theorem dX0_keepsRule_14 : decode cX0_keepsRule 14 = .ok (.iload_n 2, 1) := by decide +kernel
theorem dX0_keepsRule_15 : decode cX0_keepsRule 15 = .ok (.invokevirtual 159, 3) := by decide +kernel
theorem dX0_keepsRule_18 : decode cX0_keepsRule 18 = .ok (.invokevirtual 162, 3) := by decide +kernel
theorem dX0_keepsRule_21 : decode cX0_keepsRule 21 = .ok (.ifCond .ne 5, 3) := by decide +kernel
theorem dX0_keepsRule_24 : decode cX0_keepsRule 24 = .ok (.iconst 0, 1) := by decide +kernel
theorem dX0_keepsRule_25 : decode cX0_keepsRule 25 = .ok (.ireturn, 1) := by decide +kernel
theorem dX0_keepsRule_26 : decode cX0_keepsRule 26 = .ok (.iinc 2 1, 3) := by decide +kernel
theorem dX0_keepsRule_29 : decode cX0_keepsRule 29 = .ok (.goto (-27), 3) := by decide +kernel
theorem dX0_keepsRule_32 : decode cX0_keepsRule 32 = .ok (.iconst 1, 1) := by decide +kernel
theorem dX0_keepsRule_33 : decode cX0_keepsRule 33 = .ok (.ireturn, 1) := by decide +kernel
theorem dX0_readTops_0 : decode cX0_readTops 0 = .ok (.iconst 0, 1) := by decide +kernel
theorem dX0_readTops_1 : decode cX0_readTops 1 = .ok (.istore_n 2, 1) := by decide +kernel
theorem dX0_readTops_2 : decode cX0_readTops 2 = .ok (.iload_n 2, 1) := by decide +kernel
theorem dX0_readTops_3 : decode cX0_readTops 3 = .ok (.aload_n 0, 1) := by decide +kernel
theorem dX0_readTops_4 : decode cX0_readTops 4 = .ok (.getfield 23, 3) := by decide +kernel
theorem dX0_readTops_7 : decode cX0_readTops 7 = .ok (.arraylength, 1) := by decide +kernel
theorem dX0_readTops_8 : decode cX0_readTops 8 = .ok (.if_icmp .ge 16, 3) := by decide +kernel
theorem dX0_readTops_11 : decode cX0_readTops 11 = .ok (.aload_n 0, 1) := by decide +kernel
theorem dX0_readTops_12 : decode cX0_readTops 12 = .ok (.getfield 23, 3) := by decide +kernel
theorem dX0_readTops_15 : decode cX0_readTops 15 = .ok (.iload_n 2, 1) := by decide +kernel
theorem dX0_readTops_16 : decode cX0_readTops 16 = .ok (.iconst (-1), 1) := by decide +kernel
theorem dX0_readTops_17 : decode cX0_readTops 17 = .ok (.iastore, 1) := by decide +kernel
theorem dX0_readTops_18 : decode cX0_readTops 18 = .ok (.iinc 2 1, 3) := by decide +kernel
theorem dX0_readTops_21 : decode cX0_readTops 21 = .ok (.goto (-19), 3) := by decide +kernel
theorem dX0_readTops_24 : decode cX0_readTops 24 = .ok (.aload_n 0, 1) := by decide +kernel
theorem dX0_readTops_25 : decode cX0_readTops 25 = .ok (.getfield 53, 3) := by decide +kernel
theorem dX0_readTops_28 : decode cX0_readTops 28 = .ok (.iconst 1, 1) := by decide +kernel
theorem dX0_readTops_29 : decode cX0_readTops 29 = .ok (.isub, 1) := by decide +kernel
theorem dX0_readTops_30 : decode cX0_readTops 30 = .ok (.istore_n 2, 1) := by decide +kernel
theorem dX0_readTops_31 : decode cX0_readTops 31 = .ok (.iload_n 2, 1) := by decide +kernel
theorem dX0_readTops_32 : decode cX0_readTops 32 = .ok (.ifCond .lt 31, 3) := by decide +kernel
theorem dX0_readTops_35 : decode cX0_readTops 35 = .ok (.aload_n 0, 1) := by decide +kernel
theorem dX0_readTops_36 : decode cX0_readTops 36 = .ok (.iload_n 1, 1) := by decide +kernel
theorem dX0_readTops_37 : decode cX0_readTops 37 = .ok (.iload_n 2, 1) := by decide +kernel
theorem dX0_readTops_38 : decode cX0_readTops 38 = .ok (.invokevirtual 80, 3) := by decide +kernel
theorem dX0_readTops_41 : decode cX0_readTops 41 = .ok (.istore_n 3, 1) := by decide +kernel
theorem dX0_readTops_42 : decode cX0_readTops 42 = .ok (.aload_n 0, 1) := by decide +kernel
theorem dX0_readTops_43 : decode cX0_readTops 43 = .ok (.iload_n 3, 1) := by decide +kernel
theorem dX0_readTops_44 : decode cX0_readTops 44 = .ok (.invokevirtual 61, 3) := by decide +kernel
theorem dX0_readTops_47 : decode cX0_readTops 47 = .ok (.ifCond .eq 10, 3) := by decide +kernel
theorem dX0_readTops_50 : decode cX0_readTops 50 = .ok (.aload_n 0, 1) := by decide +kernel
theorem dX0_readTops_51 : decode cX0_readTops 51 = .ok (.getfield 23, 3) := by decide +kernel
theorem dX0_readTops_54 : decode cX0_readTops 54 = .ok (.iload_n 3, 1) := by decide +kernel
theorem dX0_readTops_55 : decode cX0_readTops 55 = .ok (.iload_n 2, 1) := by decide +kernel
theorem dX0_readTops_56 : decode cX0_readTops 56 = .ok (.iastore, 1) := by decide +kernel
theorem dX0_readTops_57 : decode cX0_readTops 57 = .ok (.iinc 2 (-1), 3) := by decide +kernel
theorem dX0_readTops_60 : decode cX0_readTops 60 = .ok (.goto (-29), 3) := by decide +kernel
theorem dX0_readTops_63 : decode cX0_readTops 63 = .ok (.return_, 1) := by decide +kernel
theorem dX0_fits_0 : decode cX0_fits 0 = .ok (.aload_n 0, 1) := by decide +kernel
theorem dX0_fits_1 : decode cX0_fits 1 = .ok (.getfield 23, 3) := by decide +kernel
theorem dX0_fits_4 : decode cX0_fits 4 = .ok (.iload_n 1, 1) := by decide +kernel
theorem dX0_fits_5 : decode cX0_fits 5 = .ok (.iaload, 1) := by decide +kernel
theorem dX0_fits_6 : decode cX0_fits 6 = .ok (.istore_n 3, 1) := by decide +kernel
theorem dX0_fits_7 : decode cX0_fits 7 = .ok (.aload_n 0, 1) := by decide +kernel
theorem dX0_fits_8 : decode cX0_fits 8 = .ok (.getfield 23, 3) := by decide +kernel
theorem dX0_fits_11 : decode cX0_fits 11 = .ok (.iload_n 2, 1) := by decide +kernel
theorem dX0_fits_12 : decode cX0_fits 12 = .ok (.iaload, 1) := by decide +kernel
theorem dX0_fits_13 : decode cX0_fits 13 = .ok (.istore 4, 2) := by decide +kernel
theorem dX0_fits_15 : decode cX0_fits 15 = .ok (.iload_n 1, 1) := by decide +kernel
theorem dX0_fits_16 : decode cX0_fits 16 = .ok (.iload_n 2, 1) := by decide +kernel
theorem dX0_fits_17 : decode cX0_fits 17 = .ok (.if_icmp .eq 24, 3) := by decide +kernel
theorem dX0_fits_20 : decode cX0_fits 20 = .ok (.iload_n 3, 1) := by decide +kernel
theorem dX0_fits_21 : decode cX0_fits 21 = .ok (.iconst (-1), 1) := by decide +kernel
theorem dX0_fits_22 : decode cX0_fits 22 = .ok (.if_icmp .eq 19, 3) := by decide +kernel
theorem dX0_fits_25 : decode cX0_fits 25 = .ok (.iload 4, 2) := by decide +kernel
theorem dX0_fits_27 : decode cX0_fits 27 = .ok (.iconst (-1), 1) := by decide +kernel
theorem dX0_fits_28 : decode cX0_fits 28 = .ok (.if_icmp .eq 9, 3) := by decide +kernel
theorem dX0_fits_31 : decode cX0_fits 31 = .ok (.iload 4, 2) := by decide +kernel
theorem dX0_fits_33 : decode cX0_fits 33 = .ok (.iload_n 3, 1) := by decide +kernel
theorem dX0_fits_34 : decode cX0_fits 34 = .ok (.if_icmp .le 7, 3) := by decide +kernel
theorem dX0_fits_37 : decode cX0_fits 37 = .ok (.iconst 1, 1) := by decide +kernel
theorem dX0_fits_38 : decode cX0_fits 38 = .ok (.goto 4, 3) := by decide +kernel
theorem dX0_fits_41 : decode cX0_fits 41 = .ok (.iconst 0, 1) := by decide +kernel
theorem dX0_fits_42 : decode cX0_fits 42 = .ok (.ireturn, 1) := by decide +kernel
theorem dX0_behindMove_0 : decode cX0_behindMove 0 = .ok (.aload_n 0, 1) := by decide +kernel
theorem dX0_behindMove_1 : decode cX0_behindMove 1 = .ok (.getfield 23, 3) := by decide +kernel
theorem dX0_behindMove_4 : decode cX0_behindMove 4 = .ok (.iload_n 2, 1) := by decide +kernel
theorem dX0_behindMove_5 : decode cX0_behindMove 5 = .ok (.iaload, 1) := by decide +kernel
theorem dX0_behindMove_6 : decode cX0_behindMove 6 = .ok (.istore 4, 2) := by decide +kernel
theorem dX0_behindMove_8 : decode cX0_behindMove 8 = .ok (.aload_n 0, 1) := by decide +kernel
theorem dX0_behindMove_9 : decode cX0_behindMove 9 = .ok (.iload 4, 2) := by decide +kernel
theorem dX0_behindMove_11 : decode cX0_behindMove 11 = .ok (.invokevirtual 57, 3) := by decide +kernel
theorem dX0_behindMove_14 : decode cX0_behindMove 14 = .ok (.ifCond .ne 5, 3) := by decide +kernel
theorem dX0_behindMove_17 : decode cX0_behindMove 17 = .ok (.iload_n 1, 1) := by decide +kernel
theorem dX0_behindMove_18 : decode cX0_behindMove 18 = .ok (.ireturn, 1) := by decide +kernel
theorem dX0_behindMove_19 : decode cX0_behindMove 19 = .ok (.iload_n 1, 1) := by decide +kernel
theorem dX0_behindMove_20 : decode cX0_behindMove 20 = .ok (.iload_n 3, 1) := by decide +kernel
theorem dX0_behindMove_21 : decode cX0_behindMove 21 = .ok (.iload_n 2, 1) := by decide +kernel
theorem dX0_behindMove_22 : decode cX0_behindMove 22 = .ok (.isub, 1) := by decide +kernel
theorem dX0_behindMove_23 : decode cX0_behindMove 23 = .ok (.aload_n 0, 1) := by decide +kernel
theorem dX0_behindMove_24 : decode cX0_behindMove 24 = .ok (.getfield 9, 3) := by decide +kernel
theorem dX0_behindMove_27 : decode cX0_behindMove 27 = .ok (.iload 4, 2) := by decide +kernel
theorem dX0_behindMove_29 : decode cX0_behindMove 29 = .ok (.iaload, 1) := by decide +kernel
theorem dX0_behindMove_30 : decode cX0_behindMove 30 = .ok (.imul, 1) := by decide +kernel
theorem dX0_behindMove_31 : decode cX0_behindMove 31 = .ok (.iadd, 1) := by decide +kernel
theorem dX0_behindMove_32 : decode cX0_behindMove 32 = .ok (.ireturn, 1) := by decide +kernel
theorem dX0_isPossible_0 : decode cX0_isPossible 0 = .ok (.aload_n 0, 1) := by decide +kernel
theorem dX0_isPossible_1 : decode cX0_isPossible 1 = .ok (.aload_n 0, 1) := by decide +kernel
theorem dX0_isPossible_2 : decode cX0_isPossible 2 = .ok (.getfield 77, 3) := by decide +kernel
theorem dX0_isPossible_5 : decode cX0_isPossible 5 = .ok (.invokevirtual 120, 3) := by decide +kernel
theorem dX0_isPossible_8 : decode cX0_isPossible 8 = .ok (.aload_n 0, 1) := by decide +kernel
theorem dX0_isPossible_9 : decode cX0_isPossible 9 = .ok (.iload_n 1, 1) := by decide +kernel
theorem dX0_isPossible_10 : decode cX0_isPossible 10 = .ok (.iload_n 2, 1) := by decide +kernel
theorem dX0_isPossible_11 : decode cX0_isPossible 11 = .ok (.invokevirtual 165, 3) := by decide +kernel
theorem dX0_isPossible_14 : decode cX0_isPossible 14 = .ok (.ifCond .eq 37, 3) := by decide +kernel
theorem dX0_isPossible_17 : decode cX0_isPossible 17 = .ok (.aload_n 0, 1) := by decide +kernel
theorem dX0_isPossible_18 : decode cX0_isPossible 18 = .ok (.getfield 16, 3) := by decide +kernel
theorem dX0_isPossible_21 : decode cX0_isPossible 21 = .ok (.iload_n 1, 1) := by decide +kernel
theorem dX0_isPossible_22 : decode cX0_isPossible 22 = .ok (.iload_n 2, 1) := by decide +kernel
theorem dX0_isPossible_23 : decode cX0_isPossible 23 = .ok (.invokestatic 95, 3) := by decide +kernel
theorem dX0_isPossible_26 : decode cX0_isPossible 26 = .ok (.baload, 1) := by decide +kernel
theorem dX0_isPossible_27 : decode cX0_isPossible 27 = .ok (.ifCond .eq 24, 3) := by decide +kernel
theorem dX0_isPossible_30 : decode cX0_isPossible 30 = .ok (.aload_n 0, 1) := by decide +kernel
theorem dX0_isPossible_31 : decode cX0_isPossible 31 = .ok (.aload_n 0, 1) := by decide +kernel
theorem dX0_isPossible_32 : decode cX0_isPossible 32 = .ok (.aload_n 0, 1) := by decide +kernel
theorem dX0_isPossible_33 : decode cX0_isPossible 33 = .ok (.getfield 77, 3) := by decide +kernel
theorem dX0_isPossible_36 : decode cX0_isPossible 36 = .ok (.iload_n 1, 1) := by decide +kernel
theorem dX0_isPossible_37 : decode cX0_isPossible 37 = .ok (.iload_n 2, 1) := by decide +kernel
theorem dX0_isPossible_38 : decode cX0_isPossible 38 = .ok (.invokevirtual 111, 3) := by decide +kernel
theorem dX0_isPossible_41 : decode cX0_isPossible 41 = .ok (.invokevirtual 124, 3) := by decide +kernel
theorem dX0_isPossible_44 : decode cX0_isPossible 44 = .ok (.ifCond .eq 7, 3) := by decide +kernel
theorem dX0_isPossible_47 : decode cX0_isPossible 47 = .ok (.iconst 1, 1) := by decide +kernel
theorem dX0_isPossible_48 : decode cX0_isPossible 48 = .ok (.goto 4, 3) := by decide +kernel
theorem dX0_isPossible_51 : decode cX0_isPossible 51 = .ok (.iconst 0, 1) := by decide +kernel
theorem dX0_isPossible_52 : decode cX0_isPossible 52 = .ok (.ireturn, 1) := by decide +kernel
theorem dX0_isStep_0 : decode cX0_isStep 0 = .ok (.aload_n 0, 1) := by decide +kernel
theorem dX0_isStep_1 : decode cX0_isStep 1 = .ok (.iload_n 1, 1) := by decide +kernel
theorem dX0_isStep_2 : decode cX0_isStep 2 = .ok (.iload_n 2, 1) := by decide +kernel
theorem dX0_isStep_3 : decode cX0_isStep 3 = .ok (.invokevirtual 165, 3) := by decide +kernel
theorem dX0_isStep_6 : decode cX0_isStep 6 = .ok (.ifCond .ne 5, 3) := by decide +kernel
theorem dX0_isStep_9 : decode cX0_isStep 9 = .ok (.iconst 0, 1) := by decide +kernel
theorem dX0_isStep_10 : decode cX0_isStep 10 = .ok (.ireturn, 1) := by decide +kernel
theorem dX0_isStep_11 : decode cX0_isStep 11 = .ok (.iload_n 3, 1) := by decide +kernel
theorem dX0_isStep_12 : decode cX0_isStep 12 = .ok (.ifCond .eq 11, 3) := by decide +kernel
theorem dX0_isStep_15 : decode cX0_isStep 15 = .ok (.iload_n 2, 1) := by decide +kernel
theorem dX0_isStep_16 : decode cX0_isStep 16 = .ok (.iload_n 1, 1) := by decide +kernel
theorem dX0_isStep_17 : decode cX0_isStep 17 = .ok (.invokestatic 95, 3) := by decide +kernel
theorem dX0_isStep_20 : decode cX0_isStep 20 = .ok (.goto 8, 3) := by decide +kernel
theorem dX0_isStep_23 : decode cX0_isStep 23 = .ok (.iload_n 1, 1) := by decide +kernel
theorem dX0_isStep_24 : decode cX0_isStep 24 = .ok (.iload_n 2, 1) := by decide +kernel
theorem dX0_isStep_25 : decode cX0_isStep 25 = .ok (.invokestatic 95, 3) := by decide +kernel
theorem dX0_isStep_28 : decode cX0_isStep 28 = .ok (.istore 4, 2) := by decide +kernel
theorem dX0_isStep_30 : decode cX0_isStep 30 = .ok (.aload_n 0, 1) := by decide +kernel
theorem dX0_isStep_31 : decode cX0_isStep 31 = .ok (.getfield 16, 3) := by decide +kernel
theorem dX0_isStep_34 : decode cX0_isStep 34 = .ok (.iload 4, 2) := by decide +kernel
theorem dX0_isStep_36 : decode cX0_isStep 36 = .ok (.baload, 1) := by decide +kernel
theorem dX0_isStep_37 : decode cX0_isStep 37 = .ok (.ifCond .eq 26, 3) := by decide +kernel
theorem dX0_isStep_40 : decode cX0_isStep 40 = .ok (.aload_n 0, 1) := by decide +kernel
theorem dX0_isStep_41 : decode cX0_isStep 41 = .ok (.aload_n 0, 1) := by decide +kernel
theorem dX0_isStep_42 : decode cX0_isStep 42 = .ok (.getfield 23, 3) := by decide +kernel
theorem dX0_isStep_45 : decode cX0_isStep 45 = .ok (.iload_n 1, 1) := by decide +kernel
theorem dX0_isStep_46 : decode cX0_isStep 46 = .ok (.iaload, 1) := by decide +kernel
theorem dX0_isStep_47 : decode cX0_isStep 47 = .ok (.aload_n 0, 1) := by decide +kernel
theorem dX0_isStep_48 : decode cX0_isStep 48 = .ok (.getfield 23, 3) := by decide +kernel
theorem dX0_isStep_51 : decode cX0_isStep 51 = .ok (.iload_n 2, 1) := by decide +kernel
theorem dX0_isStep_52 : decode cX0_isStep 52 = .ok (.iaload, 1) := by decide +kernel
theorem dX0_isStep_53 : decode cX0_isStep 53 = .ok (.invokevirtual 162, 3) := by decide +kernel
theorem dX0_isStep_56 : decode cX0_isStep 56 = .ok (.ifCond .eq 7, 3) := by decide +kernel
theorem dX0_isStep_59 : decode cX0_isStep 59 = .ok (.iconst 1, 1) := by decide +kernel
theorem dX0_isStep_60 : decode cX0_isStep 60 = .ok (.goto 4, 3) := by decide +kernel
theorem dX0_isStep_63 : decode cX0_isStep 63 = .ok (.iconst 0, 1) := by decide +kernel
theorem dX0_isStep_64 : decode cX0_isStep 64 = .ok (.ireturn, 1) := by decide +kernel
theorem dX0_wayFrom_0 : decode cX0_wayFrom 0 = .ok (.aload_n 0, 1) := by decide +kernel
theorem dX0_wayFrom_1 : decode cX0_wayFrom 1 = .ok (.getfield 87, 3) := by decide +kernel
theorem dX0_wayFrom_4 : decode cX0_wayFrom 4 = .ok (.ifCond .ne 22, 3) := by decide +kernel
theorem dX0_wayFrom_7 : decode cX0_wayFrom 7 = .ok (.aload_n 0, 1) := by decide +kernel
theorem dX0_wayFrom_8 : decode cX0_wayFrom 8 = .ok (.aload_n 0, 1) := by decide +kernel
theorem dX0_wayFrom_9 : decode cX0_wayFrom 9 = .ok (.getfield 84, 3) := by decide +kernel
theorem dX0_wayFrom_12 : decode cX0_wayFrom 12 = .ok (.aload_n 0, 1) := by decide +kernel
theorem dX0_wayFrom_13 : decode cX0_wayFrom 13 = .ok (.getfield 26, 3) := by decide +kernel
theorem dX0_wayFrom_16 : decode cX0_wayFrom 16 = .ok (.iconst 1, 1) := by decide +kernel
theorem dX0_wayFrom_17 : decode cX0_wayFrom 17 = .ok (.invokevirtual 150, 3) := by decide +kernel
theorem dX0_wayFrom_20 : decode cX0_wayFrom 20 = .ok (.pop, 1) := by decide +kernel
theorem dX0_wayFrom_21 : decode cX0_wayFrom 21 = .ok (.aload_n 0, 1) := by decide +kernel
theorem dX0_wayFrom_22 : decode cX0_wayFrom 22 = .ok (.iconst 1, 1) := by decide +kernel
theorem dX0_wayFrom_23 : decode cX0_wayFrom 23 = .ok (.putfield 87, 3) := by decide +kernel
theorem dX0_wayFrom_26 : decode cX0_wayFrom 26 = .ok (.aload_n 0, 1) := by decide +kernel
theorem dX0_wayFrom_27 : decode cX0_wayFrom 27 = .ok (.iload_n 1, 1) := by decide +kernel
theorem dX0_wayFrom_28 : decode cX0_wayFrom 28 = .ok (.invokevirtual 168, 3) := by decide +kernel
theorem dX0_wayFrom_31 : decode cX0_wayFrom 31 = .ok (.ifCond .eq 12, 3) := by decide +kernel
theorem dX0_wayFrom_34 : decode cX0_wayFrom 34 = .ok (.aload_n 0, 1) := by decide +kernel
theorem dX0_wayFrom_35 : decode cX0_wayFrom 35 = .ok (.getfield 26, 3) := by decide +kernel
theorem dX0_wayFrom_38 : decode cX0_wayFrom 38 = .ok (.iload_n 1, 1) := by decide +kernel
theorem dX0_wayFrom_39 : decode cX0_wayFrom 39 = .ok (.iaload, 1) := by decide +kernel
theorem dX0_wayFrom_40 : decode cX0_wayFrom 40 = .ok (.goto 4, 3) := by decide +kernel
theorem dX0_wayFrom_43 : decode cX0_wayFrom 43 = .ok (.iconst (-1), 1) := by decide +kernel
theorem dX0_wayFrom_44 : decode cX0_wayFrom 44 = .ok (.ireturn, 1) := by decide +kernel
theorem dX0_search_0 : decode cX0_search 0 = .ok (.iconst 0, 1) := by decide +kernel
theorem dX0_search_1 : decode cX0_search 1 = .ok (.istore 4, 2) := by decide +kernel
theorem dX0_search_3 : decode cX0_search 3 = .ok (.iload 4, 2) := by decide +kernel
theorem dX0_search_5 : decode cX0_search 5 = .ok (.aload_n 0, 1) := by decide +kernel
theorem dX0_search_6 : decode cX0_search 6 = .ok (.getfield 9, 3) := by decide +kernel
theorem dX0_search_9 : decode cX0_search 9 = .ok (.aload_n 0, 1) := by decide +kernel
theorem dX0_search_10 : decode cX0_search 10 = .ok (.getfield 53, 3) := by decide +kernel
theorem dX0_search_13 : decode cX0_search 13 = .ok (.iaload, 1) := by decide +kernel
theorem dX0_search_14 : decode cX0_search 14 = .ok (.if_icmp .ge 21, 3) := by decide +kernel
theorem dX0_search_17 : decode cX0_search 17 = .ok (.iload 4, 2) := by decide +kernel
theorem dX0_search_19 : decode cX0_search 19 = .ok (.aload_n 2, 1) := by decide +kernel
theorem dX0_search_20 : decode cX0_search 20 = .ok (.arraylength, 1) := by decide +kernel
theorem dX0_search_21 : decode cX0_search 21 = .ok (.if_icmp .ge 14, 3) := by decide +kernel
theorem dX0_search_24 : decode cX0_search 24 = .ok (.aload_n 2, 1) := by decide +kernel
theorem dX0_search_25 : decode cX0_search 25 = .ok (.iload 4, 2) := by decide +kernel
theorem dX0_search_27 : decode cX0_search 27 = .ok (.iconst (-1), 1) := by decide +kernel
theorem dX0_search_28 : decode cX0_search 28 = .ok (.iastore, 1) := by decide +kernel
theorem dX0_search_29 : decode cX0_search 29 = .ok (.iinc 4 1, 3) := by decide +kernel
theorem dX0_search_32 : decode cX0_search 32 = .ok (.goto (-29), 3) := by decide +kernel
theorem dX0_search_35 : decode cX0_search 35 = .ok (.aload_n 0, 1) := by decide +kernel
theorem dX0_search_36 : decode cX0_search 36 = .ok (.iload_n 1, 1) := by decide +kernel
theorem dX0_search_37 : decode cX0_search 37 = .ok (.invokevirtual 168, 3) := by decide +kernel
theorem dX0_search_40 : decode cX0_search 40 = .ok (.ifCond .eq 11, 3) := by decide +kernel
theorem dX0_search_43 : decode cX0_search 43 = .ok (.aload_n 0, 1) := by decide +kernel
theorem dX0_search_44 : decode cX0_search 44 = .ok (.iload_n 1, 1) := by decide +kernel
theorem dX0_search_45 : decode cX0_search 45 = .ok (.invokevirtual 124, 3) := by decide +kernel
theorem dX0_search_48 : decode cX0_search 48 = .ok (.ifCond .ne 5, 3) := by decide +kernel
theorem dX0_search_51 : decode cX0_search 51 = .ok (.iconst 0, 1) := by decide +kernel
theorem dX0_search_52 : decode cX0_search 52 = .ok (.ireturn, 1) := by decide +kernel
theorem dX0_search_53 : decode cX0_search 53 = .ok (.aload_n 2, 1) := by decide +kernel
theorem dX0_search_54 : decode cX0_search 54 = .ok (.iload_n 1, 1) := by decide +kernel
theorem dX0_search_55 : decode cX0_search 55 = .ok (.iconst 0, 1) := by decide +kernel
theorem dX0_search_56 : decode cX0_search 56 = .ok (.iastore, 1) := by decide +kernel
theorem dX0_search_57 : decode cX0_search 57 = .ok (.aload_n 0, 1) := by decide +kernel
theorem dX0_search_58 : decode cX0_search 58 = .ok (.getfield 32, 3) := by decide +kernel
theorem dX0_search_61 : decode cX0_search 61 = .ok (.iconst 0, 1) := by decide +kernel
theorem dX0_search_62 : decode cX0_search 62 = .ok (.iload_n 1, 1) := by decide +kernel
theorem dX0_search_63 : decode cX0_search 63 = .ok (.iastore, 1) := by decide +kernel
theorem dX0_search_64 : decode cX0_search 64 = .ok (.iconst 1, 1) := by decide +kernel
theorem dX0_search_65 : decode cX0_search 65 = .ok (.istore 4, 2) := by decide +kernel
theorem dX0_search_67 : decode cX0_search 67 = .ok (.iconst 0, 1) := by decide +kernel
theorem dX0_search_68 : decode cX0_search 68 = .ok (.istore 5, 2) := by decide +kernel
theorem dX0_search_70 : decode cX0_search 70 = .ok (.iload 5, 2) := by decide +kernel
theorem dX0_search_72 : decode cX0_search 72 = .ok (.iload 4, 2) := by decide +kernel
theorem dX0_search_74 : decode cX0_search 74 = .ok (.if_icmp .ge 36, 3) := by decide +kernel
theorem dX0_search_77 : decode cX0_search 77 = .ok (.iload 5, 2) := by decide +kernel
theorem dX0_search_79 : decode cX0_search 79 = .ok (.aload_n 0, 1) := by decide +kernel
theorem dX0_search_80 : decode cX0_search 80 = .ok (.getfield 32, 3) := by decide +kernel
theorem dX0_search_83 : decode cX0_search 83 = .ok (.arraylength, 1) := by decide +kernel
theorem dX0_search_84 : decode cX0_search 84 = .ok (.if_icmp .ge 26, 3) := by decide +kernel
theorem dX0_search_87 : decode cX0_search 87 = .ok (.aload_n 0, 1) := by decide +kernel
theorem dX0_search_88 : decode cX0_search 88 = .ok (.aload_n 0, 1) := by decide +kernel
theorem dX0_search_89 : decode cX0_search 89 = .ok (.getfield 32, 3) := by decide +kernel
theorem dX0_search_92 : decode cX0_search 92 = .ok (.iload 5, 2) := by decide +kernel
theorem dX0_search_94 : decode cX0_search 94 = .ok (.iaload, 1) := by decide +kernel
theorem dX0_search_95 : decode cX0_search 95 = .ok (.aload_n 2, 1) := by decide +kernel
theorem dX0_search_96 : decode cX0_search 96 = .ok (.iload_n 3, 1) := by decide +kernel
theorem dX0_search_97 : decode cX0_search 97 = .ok (.iload 4, 2) := by decide +kernel
theorem dX0_search_99 : decode cX0_search 99 = .ok (.invokevirtual 171, 3) := by decide +kernel
theorem dX0_search_102 : decode cX0_search 102 = .ok (.istore 4, 2) := by decide +kernel
theorem dX0_search_104 : decode cX0_search 104 = .ok (.iinc 5 1, 3) := by decide +kernel
theorem dX0_search_107 : decode cX0_search 107 = .ok (.goto (-37), 3) := by decide +kernel
theorem dX0_search_110 : decode cX0_search 110 = .ok (.iload 4, 2) := by decide +kernel
theorem dX0_search_112 : decode cX0_search 112 = .ok (.ireturn, 1) := by decide +kernel
theorem dX0_searchFrom_0 : decode cX0_searchFrom 0 = .ok (.iload 4, 2) := by decide +kernel
theorem dX0_searchFrom_2 : decode cX0_searchFrom 2 = .ok (.istore 5, 2) := by decide +kernel
theorem dX0_searchFrom_4 : decode cX0_searchFrom 4 = .ok (.aload_n 0, 1) := by decide +kernel
theorem dX0_searchFrom_5 : decode cX0_searchFrom 5 = .ok (.iload_n 1, 1) := by decide +kernel
theorem dX0_searchFrom_6 : decode cX0_searchFrom 6 = .ok (.invokevirtual 120, 3) := by decide +kernel
theorem dX0_searchFrom_9 : decode cX0_searchFrom 9 = .ok (.iconst 0, 1) := by decide +kernel
theorem dX0_searchFrom_10 : decode cX0_searchFrom 10 = .ok (.istore 6, 2) := by decide +kernel
theorem dX0_searchFrom_12 : decode cX0_searchFrom 12 = .ok (.iload 6, 2) := by decide +kernel
theorem dX0_searchFrom_14 : decode cX0_searchFrom 14 = .ok (.aload_n 0, 1) := by decide +kernel
theorem dX0_searchFrom_15 : decode cX0_searchFrom 15 = .ok (.getfield 117, 3) := by decide +kernel
theorem dX0_searchFrom_18 : decode cX0_searchFrom 18 = .ok (.if_icmp .ge 98, 3) := by decide +kernel
theorem dX0_searchFrom_21 : decode cX0_searchFrom 21 = .ok (.iconst 0, 1) := by decide +kernel
theorem dX0_searchFrom_22 : decode cX0_searchFrom 22 = .ok (.istore 7, 2) := by decide +kernel
theorem dX0_searchFrom_24 : decode cX0_searchFrom 24 = .ok (.iload 7, 2) := by decide +kernel
theorem dX0_searchFrom_26 : decode cX0_searchFrom 26 = .ok (.aload_n 0, 1) := by decide +kernel
theorem dX0_searchFrom_27 : decode cX0_searchFrom 27 = .ok (.getfield 117, 3) := by decide +kernel
theorem dX0_searchFrom_30 : decode cX0_searchFrom 30 = .ok (.if_icmp .ge 80, 3) := by decide +kernel
theorem dX0_searchFrom_33 : decode cX0_searchFrom 33 = .ok (.aload_n 0, 1) := by decide +kernel
theorem dX0_searchFrom_34 : decode cX0_searchFrom 34 = .ok (.iload 6, 2) := by decide +kernel
theorem dX0_searchFrom_36 : decode cX0_searchFrom 36 = .ok (.iload 7, 2) := by decide +kernel
theorem dX0_searchFrom_38 : decode cX0_searchFrom 38 = .ok (.iload_n 3, 1) := by decide +kernel
theorem dX0_searchFrom_39 : decode cX0_searchFrom 39 = .ok (.invokevirtual 175, 3) := by decide +kernel
theorem dX0_searchFrom_42 : decode cX0_searchFrom 42 = .ok (.ifCond .eq 62, 3) := by decide +kernel
theorem dX0_searchFrom_45 : decode cX0_searchFrom 45 = .ok (.aload_n 0, 1) := by decide +kernel
theorem dX0_searchFrom_46 : decode cX0_searchFrom 46 = .ok (.iload_n 1, 1) := by decide +kernel
theorem dX0_searchFrom_47 : decode cX0_searchFrom 47 = .ok (.iload 6, 2) := by decide +kernel
theorem dX0_searchFrom_49 : decode cX0_searchFrom 49 = .ok (.iload 7, 2) := by decide +kernel
theorem dX0_searchFrom_51 : decode cX0_searchFrom 51 = .ok (.invokevirtual 111, 3) := by decide +kernel
theorem dX0_searchFrom_54 : decode cX0_searchFrom 54 = .ok (.istore 8, 2) := by decide +kernel
theorem dX0_searchFrom_56 : decode cX0_searchFrom 56 = .ok (.aload_n 0, 1) := by decide +kernel
theorem dX0_searchFrom_57 : decode cX0_searchFrom 57 = .ok (.iload 8, 2) := by decide +kernel
theorem dX0_searchFrom_59 : decode cX0_searchFrom 59 = .ok (.invokevirtual 168, 3) := by decide +kernel
theorem dX0_searchFrom_62 : decode cX0_searchFrom 62 = .ok (.ifCond .eq 42, 3) := by decide +kernel
theorem dX0_searchFrom_65 : decode cX0_searchFrom 65 = .ok (.aload_n 2, 1) := by decide +kernel
theorem dX0_searchFrom_66 : decode cX0_searchFrom 66 = .ok (.iload 8, 2) := by decide +kernel
theorem dX0_searchFrom_68 : decode cX0_searchFrom 68 = .ok (.iaload, 1) := by decide +kernel
theorem dX0_searchFrom_69 : decode cX0_searchFrom 69 = .ok (.iconst (-1), 1) := by decide +kernel
theorem dX0_searchFrom_70 : decode cX0_searchFrom 70 = .ok (.if_icmp .ne 34, 3) := by decide +kernel
theorem dX0_searchFrom_73 : decode cX0_searchFrom 73 = .ok (.iload 5, 2) := by decide +kernel
theorem dX0_searchFrom_75 : decode cX0_searchFrom 75 = .ok (.aload_n 0, 1) := by decide +kernel
theorem dX0_searchFrom_76 : decode cX0_searchFrom 76 = .ok (.getfield 32, 3) := by decide +kernel
theorem dX0_searchFrom_79 : decode cX0_searchFrom 79 = .ok (.arraylength, 1) := by decide +kernel
theorem dX0_searchFrom_80 : decode cX0_searchFrom 80 = .ok (.if_icmp .ge 24, 3) := by decide +kernel
theorem dX0_searchFrom_83 : decode cX0_searchFrom 83 = .ok (.aload_n 2, 1) := by decide +kernel
theorem dX0_searchFrom_84 : decode cX0_searchFrom 84 = .ok (.iload 8, 2) := by decide +kernel
theorem dX0_searchFrom_86 : decode cX0_searchFrom 86 = .ok (.aload_n 2, 1) := by decide +kernel
theorem dX0_searchFrom_87 : decode cX0_searchFrom 87 = .ok (.iload_n 1, 1) := by decide +kernel
theorem dX0_searchFrom_88 : decode cX0_searchFrom 88 = .ok (.iaload, 1) := by decide +kernel
theorem dX0_searchFrom_89 : decode cX0_searchFrom 89 = .ok (.iconst 1, 1) := by decide +kernel
theorem dX0_searchFrom_90 : decode cX0_searchFrom 90 = .ok (.iadd, 1) := by decide +kernel
theorem dX0_searchFrom_91 : decode cX0_searchFrom 91 = .ok (.iastore, 1) := by decide +kernel
theorem dX0_searchFrom_92 : decode cX0_searchFrom 92 = .ok (.aload_n 0, 1) := by decide +kernel
theorem dX0_searchFrom_93 : decode cX0_searchFrom 93 = .ok (.getfield 32, 3) := by decide +kernel
theorem dX0_searchFrom_96 : decode cX0_searchFrom 96 = .ok (.iload 5, 2) := by decide +kernel
theorem dX0_searchFrom_98 : decode cX0_searchFrom 98 = .ok (.iload 8, 2) := by decide +kernel
theorem dX0_searchFrom_100 : decode cX0_searchFrom 100 = .ok (.iastore, 1) := by decide +kernel
theorem dX0_searchFrom_101 : decode cX0_searchFrom 101 = .ok (.iinc 5 1, 3) := by decide +kernel
theorem dX0_searchFrom_104 : decode cX0_searchFrom 104 = .ok (.iinc 7 1, 3) := by decide +kernel
theorem dX0_searchFrom_107 : decode cX0_searchFrom 107 = .ok (.goto (-83), 3) := by decide +kernel
theorem dX0_searchFrom_110 : decode cX0_searchFrom 110 = .ok (.iinc 6 1, 3) := by decide +kernel
theorem dX0_searchFrom_113 : decode cX0_searchFrom 113 = .ok (.goto (-101), 3) := by decide +kernel
theorem dX0_searchFrom_116 : decode cX0_searchFrom 116 = .ok (.iload 5, 2) := by decide +kernel
theorem dX0_searchFrom_118 : decode cX0_searchFrom 118 = .ok (.ireturn, 1) := by decide +kernel
theorem dX0_thirdPeg_0 : decode cX0_thirdPeg 0 = .ok (.iconst 3, 1) := by decide +kernel
theorem dX0_thirdPeg_1 : decode cX0_thirdPeg 1 = .ok (.iload_n 0, 1) := by decide +kernel
theorem dX0_thirdPeg_2 : decode cX0_thirdPeg 2 = .ok (.isub, 1) := by decide +kernel
theorem dX0_thirdPeg_3 : decode cX0_thirdPeg 3 = .ok (.iload_n 1, 1) := by decide +kernel
theorem dX0_thirdPeg_4 : decode cX0_thirdPeg 4 = .ok (.isub, 1) := by decide +kernel
theorem dX0_thirdPeg_5 : decode cX0_thirdPeg 5 = .ok (.ireturn, 1) := by decide +kernel
theorem dX0_gather_0 : decode cX0_gather 0 = .ok (.iload_n 3, 1) := by decide +kernel
theorem dX0_gather_1 : decode cX0_gather 1 = .ok (.istore 4, 2) := by decide +kernel
theorem dX0_gather_3 : decode cX0_gather 3 = .ok (.iconst 0, 1) := by decide +kernel
theorem dX0_gather_4 : decode cX0_gather 4 = .ok (.istore 5, 2) := by decide +kernel
theorem dX0_gather_6 : decode cX0_gather 6 = .ok (.iload_n 2, 1) := by decide +kernel
theorem dX0_gather_7 : decode cX0_gather 7 = .ok (.iconst 1, 1) := by decide +kernel
theorem dX0_gather_8 : decode cX0_gather 8 = .ok (.isub, 1) := by decide +kernel
theorem dX0_gather_9 : decode cX0_gather 9 = .ok (.istore 6, 2) := by decide +kernel
theorem dX0_gather_11 : decode cX0_gather 11 = .ok (.iload 6, 2) := by decide +kernel
theorem dX0_gather_13 : decode cX0_gather 13 = .ok (.ifCond .lt 43, 3) := by decide +kernel
theorem dX0_gather_16 : decode cX0_gather 16 = .ok (.aload_n 0, 1) := by decide +kernel
theorem dX0_gather_17 : decode cX0_gather 17 = .ok (.iload_n 1, 1) := by decide +kernel
theorem dX0_gather_18 : decode cX0_gather 18 = .ok (.iload 6, 2) := by decide +kernel
theorem dX0_gather_20 : decode cX0_gather 20 = .ok (.invokevirtual 80, 3) := by decide +kernel
theorem dX0_gather_23 : decode cX0_gather 23 = .ok (.istore 7, 2) := by decide +kernel
theorem dX0_gather_25 : decode cX0_gather 25 = .ok (.iload 7, 2) := by decide +kernel
theorem dX0_gather_27 : decode cX0_gather 27 = .ok (.iload 4, 2) := by decide +kernel
theorem dX0_gather_29 : decode cX0_gather 29 = .ok (.if_icmp .eq 21, 3) := by decide +kernel
theorem dX0_gather_32 : decode cX0_gather 32 = .ok (.iload 7, 2) := by decide +kernel
theorem dX0_gather_34 : decode cX0_gather 34 = .ok (.iload 4, 2) := by decide +kernel
theorem dX0_gather_36 : decode cX0_gather 36 = .ok (.invokestatic 137, 3) := by decide +kernel
theorem dX0_gather_39 : decode cX0_gather 39 = .ok (.istore 4, 2) := by decide +kernel
theorem dX0_gather_41 : decode cX0_gather 41 = .ok (.iload 5, 2) := by decide +kernel
theorem dX0_gather_43 : decode cX0_gather 43 = .ok (.iconst 1, 1) := by decide +kernel
theorem dX0_gather_44 : decode cX0_gather 44 = .ok (.iload 6, 2) := by decide +kernel
theorem dX0_gather_46 : decode cX0_gather 46 = .ok (.ishl, 1) := by decide +kernel
theorem dX0_gather_47 : decode cX0_gather 47 = .ok (.iadd, 1) := by decide +kernel
theorem dX0_gather_48 : decode cX0_gather 48 = .ok (.istore 5, 2) := by decide +kernel
theorem dX0_gather_50 : decode cX0_gather 50 = .ok (.iinc 6 (-1), 3) := by decide +kernel
theorem dX0_gather_53 : decode cX0_gather 53 = .ok (.goto (-42), 3) := by decide +kernel
theorem dX0_gather_56 : decode cX0_gather 56 = .ok (.iload 5, 2) := by decide +kernel
theorem dX0_gather_58 : decode cX0_gather 58 = .ok (.ireturn, 1) := by decide +kernel
theorem dX0_splitIndex_0 : decode cX0_splitIndex 0 = .ok (.iload_n 1, 1) := by decide +kernel
theorem dX0_splitIndex_1 : decode cX0_splitIndex 1 = .ok (.iconst 3, 1) := by decide +kernel
theorem dX0_splitIndex_2 : decode cX0_splitIndex 2 = .ok (.isub, 1) := by decide +kernel
theorem dX0_splitIndex_3 : decode cX0_splitIndex 3 = .ok (.bipush 21, 2) := by decide +kernel
theorem dX0_splitIndex_5 : decode cX0_splitIndex 5 = .ok (.imul, 1) := by decide +kernel
theorem dX0_splitIndex_6 : decode cX0_splitIndex 6 = .ok (.iload_n 0, 1) := by decide +kernel
theorem dX0_splitIndex_7 : decode cX0_splitIndex 7 = .ok (.iadd, 1) := by decide +kernel
theorem dX0_splitIndex_8 : decode cX0_splitIndex 8 = .ok (.ireturn, 1) := by decide +kernel
theorem dX0_splitTable_0 : decode cX0_splitTable 0 = .ok (.bipush 20, 2) := by decide +kernel
theorem dX0_splitTable_2 : decode cX0_splitTable 2 = .ok (.iconst 5, 1) := by decide +kernel
theorem dX0_splitTable_3 : decode cX0_splitTable 3 = .ok (.invokestatic 156, 3) := by decide +kernel
theorem dX0_splitTable_6 : decode cX0_splitTable 6 = .ok (.iconst 1, 1) := by decide +kernel
theorem dX0_splitTable_7 : decode cX0_splitTable 7 = .ok (.iadd, 1) := by decide +kernel
theorem dX0_splitTable_8 : decode cX0_splitTable 8 = .ok (.newarray .int, 2) := by decide +kernel
theorem dX0_splitTable_10 : decode cX0_splitTable 10 = .ok (.astore_n 0, 1) := by decide +kernel
theorem dX0_splitTable_11 : decode cX0_splitTable 11 = .ok (.iconst 3, 1) := by decide +kernel
theorem dX0_splitTable_12 : decode cX0_splitTable 12 = .ok (.istore_n 1, 1) := by decide +kernel
theorem dX0_splitTable_13 : decode cX0_splitTable 13 = .ok (.iload_n 1, 1) := by decide +kernel
theorem dX0_splitTable_14 : decode cX0_splitTable 14 = .ok (.iconst 5, 1) := by decide +kernel
theorem dX0_splitTable_15 : decode cX0_splitTable 15 = .ok (.if_icmp .gt 36, 3) := by decide +kernel
theorem dX0_splitTable_18 : decode cX0_splitTable 18 = .ok (.iconst 0, 1) := by decide +kernel
theorem dX0_splitTable_19 : decode cX0_splitTable 19 = .ok (.istore_n 2, 1) := by decide +kernel
theorem dX0_splitTable_20 : decode cX0_splitTable 20 = .ok (.iload_n 2, 1) := by decide +kernel
theorem dX0_splitTable_21 : decode cX0_splitTable 21 = .ok (.bipush 20, 2) := by decide +kernel
theorem dX0_splitTable_23 : decode cX0_splitTable 23 = .ok (.if_icmp .gt 22, 3) := by decide +kernel
theorem dX0_splitTable_26 : decode cX0_splitTable 26 = .ok (.aload_n 0, 1) := by decide +kernel
theorem dX0_splitTable_27 : decode cX0_splitTable 27 = .ok (.iload_n 2, 1) := by decide +kernel
theorem dX0_splitTable_28 : decode cX0_splitTable 28 = .ok (.iload_n 1, 1) := by decide +kernel
theorem dX0_splitTable_29 : decode cX0_splitTable 29 = .ok (.invokestatic 156, 3) := by decide +kernel
theorem dX0_splitTable_32 : decode cX0_splitTable 32 = .ok (.aload_n 0, 1) := by decide +kernel
theorem dX0_splitTable_33 : decode cX0_splitTable 33 = .ok (.iload_n 2, 1) := by decide +kernel
theorem dX0_splitTable_34 : decode cX0_splitTable 34 = .ok (.iload_n 1, 1) := by decide +kernel
theorem dX0_splitTable_35 : decode cX0_splitTable 35 = .ok (.invokestatic 179, 3) := by decide +kernel
theorem dX0_splitTable_38 : decode cX0_splitTable 38 = .ok (.iastore, 1) := by decide +kernel
theorem dX0_splitTable_39 : decode cX0_splitTable 39 = .ok (.iinc 2 1, 3) := by decide +kernel
theorem dX0_splitTable_42 : decode cX0_splitTable 42 = .ok (.goto (-22), 3) := by decide +kernel
theorem dX0_splitTable_45 : decode cX0_splitTable 45 = .ok (.iinc 1 1, 3) := by decide +kernel
theorem dX0_splitTable_48 : decode cX0_splitTable 48 = .ok (.goto (-35), 3) := by decide +kernel
theorem dX0_splitTable_51 : decode cX0_splitTable 51 = .ok (.aload_n 0, 1) := by decide +kernel
theorem dX0_splitTable_52 : decode cX0_splitTable 52 = .ok (.areturn, 1) := by decide +kernel
theorem dX0_splitNumber_0 : decode cX0_splitNumber 0 = .ok (.iload_n 2, 1) := by decide +kernel
theorem dX0_splitNumber_1 : decode cX0_splitNumber 1 = .ok (.iconst 3, 1) := by decide +kernel
theorem dX0_splitNumber_2 : decode cX0_splitNumber 2 = .ok (.if_icmp .ne 9, 3) := by decide +kernel
theorem dX0_splitNumber_5 : decode cX0_splitNumber 5 = .ok (.iconst 1, 1) := by decide +kernel
theorem dX0_splitNumber_6 : decode cX0_splitNumber 6 = .ok (.iload_n 1, 1) := by decide +kernel
theorem dX0_splitNumber_7 : decode cX0_splitNumber 7 = .ok (.ishl, 1) := by decide +kernel
theorem dX0_splitNumber_8 : decode cX0_splitNumber 8 = .ok (.iconst 1, 1) := by decide +kernel
theorem dX0_splitNumber_9 : decode cX0_splitNumber 9 = .ok (.isub, 1) := by decide +kernel
theorem dX0_splitNumber_10 : decode cX0_splitNumber 10 = .ok (.ireturn, 1) := by decide +kernel
theorem dX0_splitNumber_11 : decode cX0_splitNumber 11 = .ok (.iload_n 1, 1) := by decide +kernel
theorem dX0_splitNumber_12 : decode cX0_splitNumber 12 = .ok (.iconst 2, 1) := by decide +kernel
theorem dX0_splitNumber_13 : decode cX0_splitNumber 13 = .ok (.if_icmp .ge 5, 3) := by decide +kernel
theorem dX0_splitNumber_16 : decode cX0_splitNumber 16 = .ok (.iload_n 1, 1) := by decide +kernel
theorem dX0_splitNumber_17 : decode cX0_splitNumber 17 = .ok (.ireturn, 1) := by decide +kernel
theorem dX0_splitNumber_18 : decode cX0_splitNumber 18 = .ok (.ldc 185, 2) := by decide +kernel
theorem dX0_splitNumber_20 : decode cX0_splitNumber 20 = .ok (.istore_n 3, 1) := by decide +kernel
theorem dX0_splitNumber_21 : decode cX0_splitNumber 21 = .ok (.iconst 1, 1) := by decide +kernel
theorem dX0_splitNumber_22 : decode cX0_splitNumber 22 = .ok (.istore 4, 2) := by decide +kernel
theorem dX0_splitNumber_24 : decode cX0_splitNumber 24 = .ok (.iload 4, 2) := by decide +kernel
theorem dX0_splitNumber_26 : decode cX0_splitNumber 26 = .ok (.iload_n 1, 1) := by decide +kernel
theorem dX0_splitNumber_27 : decode cX0_splitNumber 27 = .ok (.if_icmp .ge 41, 3) := by decide +kernel
theorem dX0_splitNumber_30 : decode cX0_splitNumber 30 = .ok (.iconst 2, 1) := by decide +kernel
theorem dX0_splitNumber_31 : decode cX0_splitNumber 31 = .ok (.aload_n 0, 1) := by decide +kernel
theorem dX0_splitNumber_32 : decode cX0_splitNumber 32 = .ok (.iload 4, 2) := by decide +kernel
theorem dX0_splitNumber_34 : decode cX0_splitNumber 34 = .ok (.iload_n 2, 1) := by decide +kernel
theorem dX0_splitNumber_35 : decode cX0_splitNumber 35 = .ok (.invokestatic 156, 3) := by decide +kernel
theorem dX0_splitNumber_38 : decode cX0_splitNumber 38 = .ok (.iaload, 1) := by decide +kernel
theorem dX0_splitNumber_39 : decode cX0_splitNumber 39 = .ok (.imul, 1) := by decide +kernel
theorem dX0_splitNumber_40 : decode cX0_splitNumber 40 = .ok (.aload_n 0, 1) := by decide +kernel
theorem dX0_splitNumber_41 : decode cX0_splitNumber 41 = .ok (.iload_n 1, 1) := by decide +kernel
theorem dX0_splitNumber_42 : decode cX0_splitNumber 42 = .ok (.iload 4, 2) := by decide +kernel
theorem dX0_splitNumber_44 : decode cX0_splitNumber 44 = .ok (.isub, 1) := by decide +kernel
theorem dX0_splitNumber_45 : decode cX0_splitNumber 45 = .ok (.iload_n 2, 1) := by decide +kernel
theorem dX0_splitNumber_46 : decode cX0_splitNumber 46 = .ok (.iconst 1, 1) := by decide +kernel
theorem dX0_splitNumber_47 : decode cX0_splitNumber 47 = .ok (.isub, 1) := by decide +kernel
theorem dX0_splitNumber_48 : decode cX0_splitNumber 48 = .ok (.invokestatic 156, 3) := by decide +kernel
theorem dX0_splitNumber_51 : decode cX0_splitNumber 51 = .ok (.iaload, 1) := by decide +kernel
theorem dX0_splitNumber_52 : decode cX0_splitNumber 52 = .ok (.iadd, 1) := by decide +kernel
theorem dX0_splitNumber_53 : decode cX0_splitNumber 53 = .ok (.istore 5, 2) := by decide +kernel
theorem dX0_splitNumber_55 : decode cX0_splitNumber 55 = .ok (.iload_n 3, 1) := by decide +kernel
theorem dX0_splitNumber_56 : decode cX0_splitNumber 56 = .ok (.iload 5, 2) := by decide +kernel
theorem dX0_splitNumber_58 : decode cX0_splitNumber 58 = .ok (.invokestatic 143, 3) := by decide +kernel
theorem dX0_splitNumber_61 : decode cX0_splitNumber 61 = .ok (.istore_n 3, 1) := by decide +kernel
theorem dX0_splitNumber_62 : decode cX0_splitNumber 62 = .ok (.iinc 4 1, 3) := by decide +kernel
theorem dX0_splitNumber_65 : decode cX0_splitNumber 65 = .ok (.goto (-41), 3) := by decide +kernel
theorem dX0_splitNumber_68 : decode cX0_splitNumber 68 = .ok (.iload_n 3, 1) := by decide +kernel
theorem dX0_splitNumber_69 : decode cX0_splitNumber 69 = .ok (.ireturn, 1) := by decide +kernel
theorem dJ9_min_7cf53_0 : decode cJ9_min_7cf53 0 = .ok (.iload_n 0, 1) := by decide +kernel
theorem dJ9_min_7cf53_1 : decode cJ9_min_7cf53 1 = .ok (.iload_n 1, 1) := by decide +kernel
theorem dJ9_min_7cf53_2 : decode cJ9_min_7cf53 2 = .ok (.if_icmp .gt 7, 3) := by decide +kernel
theorem dJ9_min_7cf53_5 : decode cJ9_min_7cf53 5 = .ok (.iload_n 0, 1) := by decide +kernel
theorem dJ9_min_7cf53_6 : decode cJ9_min_7cf53 6 = .ok (.goto 4, 3) := by decide +kernel
theorem dJ9_min_7cf53_9 : decode cJ9_min_7cf53 9 = .ok (.iload_n 1, 1) := by decide +kernel
theorem dJ9_min_7cf53_10 : decode cJ9_min_7cf53 10 = .ok (.ireturn, 1) := by decide +kernel
end
section
theorem dX1_init_0 : decode cX1_init 0 = .ok (.aload_n 0, 1) := by decide +kernel
theorem dX1_init_1 : decode cX1_init 1 = .ok (.invokespecial 1, 3) := by decide +kernel
theorem dX1_init_4 : decode cX1_init 4 = .ok (.aload_n 0, 1) := by decide +kernel
theorem dX1_init_5 : decode cX1_init 5 = .ok (.iconst 3, 1) := by decide +kernel
theorem dX1_init_6 : decode cX1_init 6 = .ok (.putfield 7, 3) := by decide +kernel
theorem dX1_init_9 : decode cX1_init 9 = .ok (.aload_n 0, 1) := by decide +kernel
theorem dX1_init_10 : decode cX1_init 10 = .ok (.iconst 3, 1) := by decide +kernel
theorem dX1_init_11 : decode cX1_init 11 = .ok (.putfield 13, 3) := by decide +kernel
theorem dX1_init_14 : decode cX1_init 14 = .ok (.aload_n 0, 1) := by decide +kernel
theorem dX1_init_15 : decode cX1_init 15 = .ok (.bipush 6, 2) := by decide +kernel
theorem dX1_init_17 : decode cX1_init 17 = .ok (.newarray .int, 2) := by decide +kernel
theorem dX1_init_19 : decode cX1_init 19 = .ok (.putfield 16, 3) := by decide +kernel
theorem dX1_init_22 : decode cX1_init 22 = .ok (.aload_n 0, 1) := by decide +kernel
theorem dX1_init_23 : decode cX1_init 23 = .ok (.bipush 6, 2) := by decide +kernel
theorem dX1_init_25 : decode cX1_init 25 = .ok (.newarray .int, 2) := by decide +kernel
theorem dX1_init_27 : decode cX1_init 27 = .ok (.putfield 20, 3) := by decide +kernel
theorem dX1_init_30 : decode cX1_init 30 = .ok (.aload_n 0, 1) := by decide +kernel
theorem dX1_init_31 : decode cX1_init 31 = .ok (.bipush 6, 2) := by decide +kernel
theorem dX1_init_33 : decode cX1_init 33 = .ok (.newarray .int, 2) := by decide +kernel
theorem dX1_init_35 : decode cX1_init 35 = .ok (.putfield 23, 3) := by decide +kernel
theorem dX1_init_38 : decode cX1_init 38 = .ok (.aload_n 0, 1) := by decide +kernel
theorem dX1_init_39 : decode cX1_init 39 = .ok (.bipush 25, 2) := by decide +kernel
theorem dX1_init_41 : decode cX1_init 41 = .ok (.newarray .boolean, 2) := by decide +kernel
theorem dX1_init_43 : decode cX1_init 43 = .ok (.putfield 26, 3) := by decide +kernel
theorem dX1_init_46 : decode cX1_init 46 = .ok (.aload_n 0, 1) := by decide +kernel
theorem dX1_init_47 : decode cX1_init 47 = .ok (.sipush 500, 3) := by decide +kernel
theorem dX1_init_50 : decode cX1_init 50 = .ok (.newarray .int, 2) := by decide +kernel
theorem dX1_init_52 : decode cX1_init 52 = .ok (.putfield 30, 3) := by decide +kernel
theorem dX1_init_55 : decode cX1_init 55 = .ok (.aload_n 0, 1) := by decide +kernel
theorem dX1_init_56 : decode cX1_init 56 = .ok (.sipush 500, 3) := by decide +kernel
theorem dX1_init_59 : decode cX1_init 59 = .ok (.newarray .int, 2) := by decide +kernel
theorem dX1_init_61 : decode cX1_init 61 = .ok (.putfield 33, 3) := by decide +kernel
theorem dX1_init_64 : decode cX1_init 64 = .ok (.aload_n 0, 1) := by decide +kernel
theorem dX1_init_65 : decode cX1_init 65 = .ok (.bipush 6, 2) := by decide +kernel
theorem dX1_init_67 : decode cX1_init 67 = .ok (.newarray .int, 2) := by decide +kernel
theorem dX1_init_69 : decode cX1_init 69 = .ok (.putfield 36, 3) := by decide +kernel
theorem dX1_init_72 : decode cX1_init 72 = .ok (.aload_n 0, 1) := by decide +kernel
theorem dX1_init_73 : decode cX1_init 73 = .ok (.sipush 15625, 3) := by decide +kernel
theorem dX1_init_76 : decode cX1_init 76 = .ok (.newarray .int, 2) := by decide +kernel
theorem dX1_init_78 : decode cX1_init 78 = .ok (.putfield 39, 3) := by decide +kernel
theorem dX1_init_81 : decode cX1_init 81 = .ok (.aload_n 0, 1) := by decide +kernel
theorem dX1_init_82 : decode cX1_init 82 = .ok (.sipush 15625, 3) := by decide +kernel
theorem dX1_init_85 : decode cX1_init 85 = .ok (.newarray .int, 2) := by decide +kernel
theorem dX1_init_87 : decode cX1_init 87 = .ok (.putfield 42, 3) := by decide +kernel
theorem dX1_init_90 : decode cX1_init 90 = .ok (.aload_n 0, 1) := by decide +kernel
theorem dX1_init_91 : decode cX1_init 91 = .ok (.bipush 63, 2) := by decide +kernel
theorem dX1_init_93 : decode cX1_init 93 = .ok (.newarray .int, 2) := by decide +kernel
theorem dX1_init_95 : decode cX1_init 95 = .ok (.putfield 45, 3) := by decide +kernel
theorem dX1_init_98 : decode cX1_init 98 = .ok (.aload_n 0, 1) := by decide +kernel
theorem dX1_init_99 : decode cX1_init 99 = .ok (.iconst 3, 1) := by decide +kernel
theorem dX1_init_100 : decode cX1_init 100 = .ok (.iconst 3, 1) := by decide +kernel
theorem dX1_init_101 : decode cX1_init 101 = .ok (.invokevirtual 48, 3) := by decide +kernel
theorem dX1_init_104 : decode cX1_init 104 = .ok (.return_, 1) := by decide +kernel
theorem dX1_thrown_0 : decode cX1_thrown 0 = .ok (.aload_n 0, 1) := by decide +kernel
theorem dX1_thrown_1 : decode cX1_thrown 1 = .ok (.getfield 52, 3) := by decide +kernel
theorem dX1_thrown_4 : decode cX1_thrown 4 = .ok (.ireturn, 1) := by decide +kernel
theorem dX1_goesWell_0 : decode cX1_goesWell 0 = .ok (.aload_n 0, 1) := by decide +kernel
theorem dX1_goesWell_1 : decode cX1_goesWell 1 = .ok (.iload_n 1, 1) := by decide +kernel
theorem dX1_goesWell_2 : decode cX1_goesWell 2 = .ok (.putfield 52, 3) := by decide +kernel
theorem dX1_goesWell_5 : decode cX1_goesWell 5 = .ok (.iload_n 1, 1) := by decide +kernel
theorem dX1_goesWell_6 : decode cX1_goesWell 6 = .ok (.ifCond .ne 7, 3) := by decide +kernel
theorem dX1_goesWell_9 : decode cX1_goesWell 9 = .ok (.iconst 1, 1) := by decide +kernel
theorem dX1_goesWell_10 : decode cX1_goesWell 10 = .ok (.goto 4, 3) := by decide +kernel
theorem dX1_goesWell_13 : decode cX1_goesWell 13 = .ok (.iconst 0, 1) := by decide +kernel
theorem dX1_goesWell_14 : decode cX1_goesWell 14 = .ok (.ireturn, 1) := by decide +kernel
theorem dX1_in_0 : decode cX1_in 0 = .ok (.iload_n 0, 1) := by decide +kernel
theorem dX1_in_1 : decode cX1_in 1 = .ok (.iload_n 1, 1) := by decide +kernel
theorem dX1_in_2 : decode cX1_in 2 = .ok (.if_icmp .lt 12, 3) := by decide +kernel
theorem dX1_in_5 : decode cX1_in 5 = .ok (.iload_n 0, 1) := by decide +kernel
theorem dX1_in_6 : decode cX1_in 6 = .ok (.iload_n 2, 1) := by decide +kernel
theorem dX1_in_7 : decode cX1_in 7 = .ok (.if_icmp .gt 7, 3) := by decide +kernel
theorem dX1_in_10 : decode cX1_in 10 = .ok (.iconst 1, 1) := by decide +kernel
theorem dX1_in_11 : decode cX1_in 11 = .ok (.goto 4, 3) := by decide +kernel
theorem dX1_in_14 : decode cX1_in 14 = .ok (.iconst 0, 1) := by decide +kernel
theorem dX1_in_15 : decode cX1_in 15 = .ok (.ireturn, 1) := by decide +kernel
theorem dX1_isDisk_0 : decode cX1_isDisk 0 = .ok (.iload_n 1, 1) := by decide +kernel
theorem dX1_isDisk_1 : decode cX1_isDisk 1 = .ok (.iconst 0, 1) := by decide +kernel
theorem dX1_isDisk_2 : decode cX1_isDisk 2 = .ok (.aload_n 0, 1) := by decide +kernel
theorem dX1_isDisk_3 : decode cX1_isDisk 3 = .ok (.getfield 13, 3) := by decide +kernel
theorem dX1_isDisk_6 : decode cX1_isDisk 6 = .ok (.iconst 1, 1) := by decide +kernel
theorem dX1_isDisk_7 : decode cX1_isDisk 7 = .ok (.isub, 1) := by decide +kernel
theorem dX1_isDisk_8 : decode cX1_isDisk 8 = .ok (.invokestatic 55, 3) := by decide +kernel
theorem dX1_isDisk_11 : decode cX1_isDisk 11 = .ok (.ireturn, 1) := by decide +kernel
theorem dX1_isPeg_0 : decode cX1_isPeg 0 = .ok (.iload_n 1, 1) := by decide +kernel
theorem dX1_isPeg_1 : decode cX1_isPeg 1 = .ok (.iconst 0, 1) := by decide +kernel
theorem dX1_isPeg_2 : decode cX1_isPeg 2 = .ok (.aload_n 0, 1) := by decide +kernel
theorem dX1_isPeg_3 : decode cX1_isPeg 3 = .ok (.getfield 7, 3) := by decide +kernel
theorem dX1_isPeg_6 : decode cX1_isPeg 6 = .ok (.iconst 1, 1) := by decide +kernel
theorem dX1_isPeg_7 : decode cX1_isPeg 7 = .ok (.isub, 1) := by decide +kernel
theorem dX1_isPeg_8 : decode cX1_isPeg 8 = .ok (.invokestatic 55, 3) := by decide +kernel
theorem dX1_isPeg_11 : decode cX1_isPeg 11 = .ok (.ireturn, 1) := by decide +kernel
theorem dX1_all_0 : decode cX1_all 0 = .ok (.iconst 1, 1) := by decide +kernel
theorem dX1_all_1 : decode cX1_all 1 = .ok (.istore_n 1, 1) := by decide +kernel
theorem dX1_all_2 : decode cX1_all 2 = .ok (.iconst 0, 1) := by decide +kernel
theorem dX1_all_3 : decode cX1_all 3 = .ok (.istore_n 2, 1) := by decide +kernel
theorem dX1_all_4 : decode cX1_all 4 = .ok (.iload_n 2, 1) := by decide +kernel
theorem dX1_all_5 : decode cX1_all 5 = .ok (.aload_n 0, 1) := by decide +kernel
theorem dX1_all_6 : decode cX1_all 6 = .ok (.getfield 13, 3) := by decide +kernel
theorem dX1_all_9 : decode cX1_all 9 = .ok (.if_icmp .ge 16, 3) := by decide +kernel
theorem dX1_all_12 : decode cX1_all 12 = .ok (.iload_n 1, 1) := by decide +kernel
theorem dX1_all_13 : decode cX1_all 13 = .ok (.aload_n 0, 1) := by decide +kernel
theorem dX1_all_14 : decode cX1_all 14 = .ok (.getfield 7, 3) := by decide +kernel
theorem dX1_all_17 : decode cX1_all 17 = .ok (.imul, 1) := by decide +kernel
theorem dX1_all_18 : decode cX1_all 18 = .ok (.istore_n 1, 1) := by decide +kernel
theorem dX1_all_19 : decode cX1_all 19 = .ok (.iinc 2 1, 3) := by decide +kernel
theorem dX1_all_22 : decode cX1_all 22 = .ok (.goto (-18), 3) := by decide +kernel
theorem dX1_all_25 : decode cX1_all 25 = .ok (.iload_n 1, 1) := by decide +kernel
theorem dX1_all_26 : decode cX1_all 26 = .ok (.ireturn, 1) := by decide +kernel
theorem dX1_lay_0 : decode cX1_lay 0 = .ok (.aload_n 0, 1) := by decide +kernel
theorem dX1_lay_1 : decode cX1_lay 1 = .ok (.iload_n 1, 1) := by decide +kernel
theorem dX1_lay_2 : decode cX1_lay 2 = .ok (.putfield 7, 3) := by decide +kernel
theorem dX1_lay_5 : decode cX1_lay 5 = .ok (.aload_n 0, 1) := by decide +kernel
theorem dX1_lay_6 : decode cX1_lay 6 = .ok (.iload_n 2, 1) := by decide +kernel
theorem dX1_lay_7 : decode cX1_lay 7 = .ok (.putfield 13, 3) := by decide +kernel
theorem dX1_lay_10 : decode cX1_lay 10 = .ok (.iconst 0, 1) := by decide +kernel
theorem dX1_lay_11 : decode cX1_lay 11 = .ok (.istore_n 3, 1) := by decide +kernel
theorem dX1_lay_12 : decode cX1_lay 12 = .ok (.iload_n 3, 1) := by decide +kernel
theorem dX1_lay_13 : decode cX1_lay 13 = .ok (.bipush 6, 2) := by decide +kernel
theorem dX1_lay_15 : decode cX1_lay 15 = .ok (.if_icmp .ge 32, 3) := by decide +kernel
theorem dX1_lay_18 : decode cX1_lay 18 = .ok (.aload_n 0, 1) := by decide +kernel
theorem dX1_lay_19 : decode cX1_lay 19 = .ok (.getfield 16, 3) := by decide +kernel
theorem dX1_lay_22 : decode cX1_lay 22 = .ok (.iload_n 3, 1) := by decide +kernel
theorem dX1_lay_23 : decode cX1_lay 23 = .ok (.iconst 0, 1) := by decide +kernel
theorem dX1_lay_24 : decode cX1_lay 24 = .ok (.iastore, 1) := by decide +kernel
theorem dX1_lay_25 : decode cX1_lay 25 = .ok (.aload_n 0, 1) := by decide +kernel
theorem dX1_lay_26 : decode cX1_lay 26 = .ok (.getfield 20, 3) := by decide +kernel
theorem dX1_lay_29 : decode cX1_lay 29 = .ok (.iload_n 3, 1) := by decide +kernel
theorem dX1_lay_30 : decode cX1_lay 30 = .ok (.iload_n 1, 1) := by decide +kernel
theorem dX1_lay_31 : decode cX1_lay 31 = .ok (.iconst 1, 1) := by decide +kernel
theorem dX1_lay_32 : decode cX1_lay 32 = .ok (.isub, 1) := by decide +kernel
theorem dX1_lay_33 : decode cX1_lay 33 = .ok (.iastore, 1) := by decide +kernel
theorem dX1_lay_34 : decode cX1_lay 34 = .ok (.aload_n 0, 1) := by decide +kernel
theorem dX1_lay_35 : decode cX1_lay 35 = .ok (.getfield 23, 3) := by decide +kernel
theorem dX1_lay_38 : decode cX1_lay 38 = .ok (.iload_n 3, 1) := by decide +kernel
theorem dX1_lay_39 : decode cX1_lay 39 = .ok (.iconst 0, 1) := by decide +kernel
theorem dX1_lay_40 : decode cX1_lay 40 = .ok (.iastore, 1) := by decide +kernel
theorem dX1_lay_41 : decode cX1_lay 41 = .ok (.iinc 3 1, 3) := by decide +kernel
theorem dX1_lay_44 : decode cX1_lay 44 = .ok (.goto (-32), 3) := by decide +kernel
theorem dX1_lay_47 : decode cX1_lay 47 = .ok (.iconst 0, 1) := by decide +kernel
theorem dX1_lay_48 : decode cX1_lay 48 = .ok (.istore_n 3, 1) := by decide +kernel
theorem dX1_lay_49 : decode cX1_lay 49 = .ok (.iload_n 3, 1) := by decide +kernel
theorem dX1_lay_50 : decode cX1_lay 50 = .ok (.bipush 25, 2) := by decide +kernel
theorem dX1_lay_52 : decode cX1_lay 52 = .ok (.if_icmp .ge 16, 3) := by decide +kernel
theorem dX1_lay_55 : decode cX1_lay 55 = .ok (.aload_n 0, 1) := by decide +kernel
theorem dX1_lay_56 : decode cX1_lay 56 = .ok (.getfield 26, 3) := by decide +kernel
theorem dX1_lay_59 : decode cX1_lay 59 = .ok (.iload_n 3, 1) := by decide +kernel
theorem dX1_lay_60 : decode cX1_lay 60 = .ok (.iconst 0, 1) := by decide +kernel
theorem dX1_lay_61 : decode cX1_lay 61 = .ok (.bastore, 1) := by decide +kernel
theorem dX1_lay_62 : decode cX1_lay 62 = .ok (.iinc 3 1, 3) := by decide +kernel
theorem dX1_lay_65 : decode cX1_lay 65 = .ok (.goto (-16), 3) := by decide +kernel
theorem dX1_lay_68 : decode cX1_lay 68 = .ok (.aload_n 0, 1) := by decide +kernel
theorem dX1_lay_69 : decode cX1_lay 69 = .ok (.iconst 0, 1) := by decide +kernel
theorem dX1_lay_70 : decode cX1_lay 70 = .ok (.putfield 59, 3) := by decide +kernel
theorem dX1_lay_73 : decode cX1_lay 73 = .ok (.aload_n 0, 1) := by decide +kernel
theorem dX1_lay_74 : decode cX1_lay 74 = .ok (.iconst 0, 1) := by decide +kernel
theorem dX1_lay_75 : decode cX1_lay 75 = .ok (.putfield 63, 3) := by decide +kernel
theorem dX1_lay_78 : decode cX1_lay 78 = .ok (.return_, 1) := by decide +kernel
theorem dX1_begin_0 : decode cX1_begin 0 = .ok (.aload_n 0, 1) := by decide +kernel
theorem dX1_begin_1 : decode cX1_begin 1 = .ok (.iload_n 1, 1) := by decide +kernel
theorem dX1_begin_2 : decode cX1_begin 2 = .ok (.iconst 3, 1) := by decide +kernel
theorem dX1_begin_3 : decode cX1_begin 3 = .ok (.iconst 5, 1) := by decide +kernel
theorem dX1_begin_4 : decode cX1_begin 4 = .ok (.invokestatic 55, 3) := by decide +kernel
theorem dX1_begin_7 : decode cX1_begin 7 = .ok (.ifCond .eq 17, 3) := by decide +kernel
theorem dX1_begin_10 : decode cX1_begin 10 = .ok (.iload_n 2, 1) := by decide +kernel
theorem dX1_begin_11 : decode cX1_begin 11 = .ok (.iconst 1, 1) := by decide +kernel
theorem dX1_begin_12 : decode cX1_begin 12 = .ok (.bipush 6, 2) := by decide +kernel
theorem dX1_begin_14 : decode cX1_begin 14 = .ok (.invokestatic 55, 3) := by decide +kernel
theorem dX1_begin_17 : decode cX1_begin 17 = .ok (.ifCond .eq 7, 3) := by decide +kernel
theorem dX1_begin_20 : decode cX1_begin 20 = .ok (.iconst 0, 1) := by decide +kernel
theorem dX1_begin_21 : decode cX1_begin 21 = .ok (.goto 4, 3) := by decide +kernel
theorem dX1_begin_24 : decode cX1_begin 24 = .ok (.iconst 1, 1) := by decide +kernel
theorem dX1_begin_25 : decode cX1_begin 25 = .ok (.invokevirtual 66, 3) := by decide +kernel
theorem dX1_begin_28 : decode cX1_begin 28 = .ok (.ifCond .ne 5, 3) := by decide +kernel
theorem dX1_begin_31 : decode cX1_begin 31 = .ok (.iconst 0, 1) := by decide +kernel
theorem dX1_begin_32 : decode cX1_begin 32 = .ok (.ireturn, 1) := by decide +kernel
theorem dX1_begin_33 : decode cX1_begin 33 = .ok (.aload_n 0, 1) := by decide +kernel
theorem dX1_begin_34 : decode cX1_begin 34 = .ok (.iload_n 1, 1) := by decide +kernel
theorem dX1_begin_35 : decode cX1_begin 35 = .ok (.iload_n 2, 1) := by decide +kernel
theorem dX1_begin_36 : decode cX1_begin 36 = .ok (.invokevirtual 48, 3) := by decide +kernel
theorem dX1_begin_39 : decode cX1_begin 39 = .ok (.aload_n 0, 1) := by decide +kernel
theorem dX1_begin_40 : decode cX1_begin 40 = .ok (.invokevirtual 70, 3) := by decide +kernel
theorem dX1_begin_43 : decode cX1_begin 43 = .ok (.ireturn, 1) := by decide +kernel
theorem dX1_put_0 : decode cX1_put 0 = .ok (.aload_n 0, 1) := by decide +kernel
theorem dX1_put_1 : decode cX1_put 1 = .ok (.aload_n 0, 1) := by decide +kernel
theorem dX1_put_2 : decode cX1_put 2 = .ok (.iload_n 1, 1) := by decide +kernel
theorem dX1_put_3 : decode cX1_put 3 = .ok (.invokevirtual 74, 3) := by decide +kernel
theorem dX1_put_6 : decode cX1_put 6 = .ok (.ifCond .eq 11, 3) := by decide +kernel
theorem dX1_put_9 : decode cX1_put 9 = .ok (.aload_n 0, 1) := by decide +kernel
theorem dX1_put_10 : decode cX1_put 10 = .ok (.iload_n 2, 1) := by decide +kernel
theorem dX1_put_11 : decode cX1_put 11 = .ok (.invokevirtual 77, 3) := by decide +kernel
theorem dX1_put_14 : decode cX1_put 14 = .ok (.ifCond .ne 7, 3) := by decide +kernel
theorem dX1_put_17 : decode cX1_put 17 = .ok (.iconst 1, 1) := by decide +kernel
theorem dX1_put_18 : decode cX1_put 18 = .ok (.goto 15, 3) := by decide +kernel
theorem dX1_put_21 : decode cX1_put 21 = .ok (.aload_n 0, 1) := by decide +kernel
theorem dX1_put_22 : decode cX1_put 22 = .ok (.getfield 63, 3) := by decide +kernel
theorem dX1_put_25 : decode cX1_put 25 = .ok (.ifCond .le 7, 3) := by decide +kernel
theorem dX1_put_28 : decode cX1_put 28 = .ok (.iconst 2, 1) := by decide +kernel
theorem dX1_put_29 : decode cX1_put 29 = .ok (.goto 4, 3) := by decide +kernel
theorem dX1_put_32 : decode cX1_put 32 = .ok (.iconst 0, 1) := by decide +kernel
theorem dX1_put_33 : decode cX1_put 33 = .ok (.invokevirtual 66, 3) := by decide +kernel
theorem dX1_put_36 : decode cX1_put 36 = .ok (.ifCond .ne 5, 3) := by decide +kernel
theorem dX1_put_39 : decode cX1_put 39 = .ok (.iconst 0, 1) := by decide +kernel
theorem dX1_put_40 : decode cX1_put 40 = .ok (.ireturn, 1) := by decide +kernel
theorem dX1_put_41 : decode cX1_put 41 = .ok (.aload_n 0, 1) := by decide +kernel
theorem dX1_put_42 : decode cX1_put 42 = .ok (.getfield 16, 3) := by decide +kernel
theorem dX1_put_45 : decode cX1_put 45 = .ok (.iload_n 1, 1) := by decide +kernel
theorem dX1_put_46 : decode cX1_put 46 = .ok (.iaload, 1) := by decide +kernel
theorem dX1_put_47 : decode cX1_put 47 = .ok (.istore_n 3, 1) := by decide +kernel
theorem dX1_put_48 : decode cX1_put 48 = .ok (.aload_n 0, 1) := by decide +kernel
theorem dX1_put_49 : decode cX1_put 49 = .ok (.getfield 16, 3) := by decide +kernel
theorem dX1_put_52 : decode cX1_put 52 = .ok (.iload_n 1, 1) := by decide +kernel
theorem dX1_put_53 : decode cX1_put 53 = .ok (.iload_n 2, 1) := by decide +kernel
theorem dX1_put_54 : decode cX1_put 54 = .ok (.iastore, 1) := by decide +kernel
theorem dX1_put_55 : decode cX1_put 55 = .ok (.iload_n 3, 1) := by decide +kernel
theorem dX1_put_56 : decode cX1_put 56 = .ok (.ireturn, 1) := by decide +kernel
theorem dX1_aim_0 : decode cX1_aim 0 = .ok (.aload_n 0, 1) := by decide +kernel
theorem dX1_aim_1 : decode cX1_aim 1 = .ok (.aload_n 0, 1) := by decide +kernel
theorem dX1_aim_2 : decode cX1_aim 2 = .ok (.iload_n 1, 1) := by decide +kernel
theorem dX1_aim_3 : decode cX1_aim 3 = .ok (.invokevirtual 74, 3) := by decide +kernel
theorem dX1_aim_6 : decode cX1_aim 6 = .ok (.ifCond .eq 15, 3) := by decide +kernel
theorem dX1_aim_9 : decode cX1_aim 9 = .ok (.aload_n 0, 1) := by decide +kernel
theorem dX1_aim_10 : decode cX1_aim 10 = .ok (.iload_n 2, 1) := by decide +kernel
theorem dX1_aim_11 : decode cX1_aim 11 = .ok (.invokevirtual 77, 3) := by decide +kernel
theorem dX1_aim_14 : decode cX1_aim 14 = .ok (.ifCond .eq 7, 3) := by decide +kernel
theorem dX1_aim_17 : decode cX1_aim 17 = .ok (.iconst 0, 1) := by decide +kernel
theorem dX1_aim_18 : decode cX1_aim 18 = .ok (.goto 4, 3) := by decide +kernel
theorem dX1_aim_21 : decode cX1_aim 21 = .ok (.iconst 1, 1) := by decide +kernel
theorem dX1_aim_22 : decode cX1_aim 22 = .ok (.invokevirtual 66, 3) := by decide +kernel
theorem dX1_aim_25 : decode cX1_aim 25 = .ok (.ifCond .ne 5, 3) := by decide +kernel
theorem dX1_aim_28 : decode cX1_aim 28 = .ok (.iconst 0, 1) := by decide +kernel
theorem dX1_aim_29 : decode cX1_aim 29 = .ok (.ireturn, 1) := by decide +kernel
theorem dX1_aim_30 : decode cX1_aim 30 = .ok (.aload_n 0, 1) := by decide +kernel
theorem dX1_aim_31 : decode cX1_aim 31 = .ok (.getfield 20, 3) := by decide +kernel
theorem dX1_aim_34 : decode cX1_aim 34 = .ok (.iload_n 1, 1) := by decide +kernel
theorem dX1_aim_35 : decode cX1_aim 35 = .ok (.iaload, 1) := by decide +kernel
theorem dX1_aim_36 : decode cX1_aim 36 = .ok (.istore_n 3, 1) := by decide +kernel
theorem dX1_aim_37 : decode cX1_aim 37 = .ok (.aload_n 0, 1) := by decide +kernel
theorem dX1_aim_38 : decode cX1_aim 38 = .ok (.getfield 20, 3) := by decide +kernel
theorem dX1_aim_41 : decode cX1_aim 41 = .ok (.iload_n 1, 1) := by decide +kernel
theorem dX1_aim_42 : decode cX1_aim 42 = .ok (.iload_n 2, 1) := by decide +kernel
theorem dX1_aim_43 : decode cX1_aim 43 = .ok (.iastore, 1) := by decide +kernel
theorem dX1_aim_44 : decode cX1_aim 44 = .ok (.iload_n 3, 1) := by decide +kernel
theorem dX1_aim_45 : decode cX1_aim 45 = .ok (.ireturn, 1) := by decide +kernel
theorem dX1_allow_0 : decode cX1_allow 0 = .ok (.aload_n 0, 1) := by decide +kernel
theorem dX1_allow_1 : decode cX1_allow 1 = .ok (.aload_n 0, 1) := by decide +kernel
theorem dX1_allow_2 : decode cX1_allow 2 = .ok (.iload_n 1, 1) := by decide +kernel
theorem dX1_allow_3 : decode cX1_allow 3 = .ok (.invokevirtual 77, 3) := by decide +kernel
theorem dX1_allow_6 : decode cX1_allow 6 = .ok (.ifCond .eq 11, 3) := by decide +kernel
theorem dX1_allow_9 : decode cX1_allow 9 = .ok (.aload_n 0, 1) := by decide +kernel
theorem dX1_allow_10 : decode cX1_allow 10 = .ok (.iload_n 2, 1) := by decide +kernel
theorem dX1_allow_11 : decode cX1_allow 11 = .ok (.invokevirtual 77, 3) := by decide +kernel
theorem dX1_allow_14 : decode cX1_allow 14 = .ok (.ifCond .ne 7, 3) := by decide +kernel
theorem dX1_allow_17 : decode cX1_allow 17 = .ok (.iconst 1, 1) := by decide +kernel
theorem dX1_allow_18 : decode cX1_allow 18 = .ok (.goto 13, 3) := by decide +kernel
theorem dX1_allow_21 : decode cX1_allow 21 = .ok (.iload_n 1, 1) := by decide +kernel
theorem dX1_allow_22 : decode cX1_allow 22 = .ok (.iload_n 2, 1) := by decide +kernel
theorem dX1_allow_23 : decode cX1_allow 23 = .ok (.if_icmp .ne 7, 3) := by decide +kernel
theorem dX1_allow_26 : decode cX1_allow 26 = .ok (.iconst 2, 1) := by decide +kernel
theorem dX1_allow_27 : decode cX1_allow 27 = .ok (.goto 4, 3) := by decide +kernel
theorem dX1_allow_30 : decode cX1_allow 30 = .ok (.iconst 0, 1) := by decide +kernel
theorem dX1_allow_31 : decode cX1_allow 31 = .ok (.invokevirtual 66, 3) := by decide +kernel
theorem dX1_allow_34 : decode cX1_allow 34 = .ok (.ifCond .ne 5, 3) := by decide +kernel
theorem dX1_allow_37 : decode cX1_allow 37 = .ok (.iconst 0, 1) := by decide +kernel
theorem dX1_allow_38 : decode cX1_allow 38 = .ok (.ireturn, 1) := by decide +kernel
theorem dX1_allow_39 : decode cX1_allow 39 = .ok (.aload_n 0, 1) := by decide +kernel
theorem dX1_allow_40 : decode cX1_allow 40 = .ok (.getfield 26, 3) := by decide +kernel
theorem dX1_allow_43 : decode cX1_allow 43 = .ok (.iconst 5, 1) := by decide +kernel
theorem dX1_allow_44 : decode cX1_allow 44 = .ok (.iload_n 1, 1) := by decide +kernel
theorem dX1_allow_45 : decode cX1_allow 45 = .ok (.imul, 1) := by decide +kernel
theorem dX1_allow_46 : decode cX1_allow 46 = .ok (.iload_n 2, 1) := by decide +kernel
theorem dX1_allow_47 : decode cX1_allow 47 = .ok (.iadd, 1) := by decide +kernel
theorem dX1_allow_48 : decode cX1_allow 48 = .ok (.baload, 1) := by decide +kernel
theorem dX1_allow_49 : decode cX1_allow 49 = .ok (.ifCond .ne 7, 3) := by decide +kernel
theorem dX1_allow_52 : decode cX1_allow 52 = .ok (.iconst 1, 1) := by decide +kernel
theorem dX1_allow_53 : decode cX1_allow 53 = .ok (.goto 4, 3) := by decide +kernel
theorem dX1_allow_56 : decode cX1_allow 56 = .ok (.iconst 0, 1) := by decide +kernel
theorem dX1_allow_57 : decode cX1_allow 57 = .ok (.istore 4, 2) := by decide +kernel
theorem dX1_allow_59 : decode cX1_allow 59 = .ok (.aload_n 0, 1) := by decide +kernel
theorem dX1_allow_60 : decode cX1_allow 60 = .ok (.getfield 26, 3) := by decide +kernel
theorem dX1_allow_63 : decode cX1_allow 63 = .ok (.iconst 5, 1) := by decide +kernel
theorem dX1_allow_64 : decode cX1_allow 64 = .ok (.iload_n 1, 1) := by decide +kernel
theorem dX1_allow_65 : decode cX1_allow 65 = .ok (.imul, 1) := by decide +kernel
theorem dX1_allow_66 : decode cX1_allow 66 = .ok (.iload_n 2, 1) := by decide +kernel
theorem dX1_allow_67 : decode cX1_allow 67 = .ok (.iadd, 1) := by decide +kernel
theorem dX1_allow_68 : decode cX1_allow 68 = .ok (.iload_n 3, 1) := by decide +kernel
theorem dX1_allow_69 : decode cX1_allow 69 = .ok (.ifCond .ne 7, 3) := by decide +kernel
theorem dX1_allow_72 : decode cX1_allow 72 = .ok (.iconst 1, 1) := by decide +kernel
theorem dX1_allow_73 : decode cX1_allow 73 = .ok (.goto 4, 3) := by decide +kernel
theorem dX1_allow_76 : decode cX1_allow 76 = .ok (.iconst 0, 1) := by decide +kernel
theorem dX1_allow_77 : decode cX1_allow 77 = .ok (.bastore, 1) := by decide +kernel
theorem dX1_allow_78 : decode cX1_allow 78 = .ok (.iload 4, 2) := by decide +kernel
theorem dX1_allow_80 : decode cX1_allow 80 = .ok (.ireturn, 1) := by decide +kernel
theorem dX1_setColour_0 : decode cX1_setColour 0 = .ok (.aload_n 0, 1) := by decide +kernel
theorem dX1_setColour_1 : decode cX1_setColour 1 = .ok (.aload_n 0, 1) := by decide +kernel
theorem dX1_setColour_2 : decode cX1_setColour 2 = .ok (.iload_n 1, 1) := by decide +kernel
theorem dX1_setColour_3 : decode cX1_setColour 3 = .ok (.invokevirtual 74, 3) := by decide +kernel
theorem dX1_setColour_6 : decode cX1_setColour 6 = .ok (.ifCond .ne 7, 3) := by decide +kernel
theorem dX1_setColour_9 : decode cX1_setColour 9 = .ok (.iconst 1, 1) := by decide +kernel
theorem dX1_setColour_10 : decode cX1_setColour 10 = .ok (.goto 17, 3) := by decide +kernel
theorem dX1_setColour_13 : decode cX1_setColour 13 = .ok (.iload_n 2, 1) := by decide +kernel
theorem dX1_setColour_14 : decode cX1_setColour 14 = .ok (.iconst 0, 1) := by decide +kernel
theorem dX1_setColour_15 : decode cX1_setColour 15 = .ok (.iconst 1, 1) := by decide +kernel
theorem dX1_setColour_16 : decode cX1_setColour 16 = .ok (.invokestatic 55, 3) := by decide +kernel
theorem dX1_setColour_19 : decode cX1_setColour 19 = .ok (.ifCond .eq 7, 3) := by decide +kernel
theorem dX1_setColour_22 : decode cX1_setColour 22 = .ok (.iconst 0, 1) := by decide +kernel
theorem dX1_setColour_23 : decode cX1_setColour 23 = .ok (.goto 4, 3) := by decide +kernel
theorem dX1_setColour_26 : decode cX1_setColour 26 = .ok (.iconst 2, 1) := by decide +kernel
theorem dX1_setColour_27 : decode cX1_setColour 27 = .ok (.invokevirtual 66, 3) := by decide +kernel
theorem dX1_setColour_30 : decode cX1_setColour 30 = .ok (.ifCond .ne 5, 3) := by decide +kernel
theorem dX1_setColour_33 : decode cX1_setColour 33 = .ok (.iconst 0, 1) := by decide +kernel
theorem dX1_setColour_34 : decode cX1_setColour 34 = .ok (.ireturn, 1) := by decide +kernel
theorem dX1_setColour_35 : decode cX1_setColour 35 = .ok (.aload_n 0, 1) := by decide +kernel
theorem dX1_setColour_36 : decode cX1_setColour 36 = .ok (.getfield 23, 3) := by decide +kernel
theorem dX1_setColour_39 : decode cX1_setColour 39 = .ok (.iload_n 1, 1) := by decide +kernel
theorem dX1_setColour_40 : decode cX1_setColour 40 = .ok (.iaload, 1) := by decide +kernel
theorem dX1_setColour_41 : decode cX1_setColour 41 = .ok (.istore_n 3, 1) := by decide +kernel
theorem dX1_setColour_42 : decode cX1_setColour 42 = .ok (.aload_n 0, 1) := by decide +kernel
theorem dX1_setColour_43 : decode cX1_setColour 43 = .ok (.getfield 23, 3) := by decide +kernel
theorem dX1_setColour_46 : decode cX1_setColour 46 = .ok (.iload_n 1, 1) := by decide +kernel
theorem dX1_setColour_47 : decode cX1_setColour 47 = .ok (.iload_n 2, 1) := by decide +kernel
theorem dX1_setColour_48 : decode cX1_setColour 48 = .ok (.iastore, 1) := by decide +kernel
theorem dX1_setColour_49 : decode cX1_setColour 49 = .ok (.iload_n 3, 1) := by decide +kernel
theorem dX1_setColour_50 : decode cX1_setColour 50 = .ok (.ireturn, 1) := by decide +kernel
theorem dX1_setRule_0 : decode cX1_setRule 0 = .ok (.aload_n 0, 1) := by decide +kernel
theorem dX1_setRule_1 : decode cX1_setRule 1 = .ok (.iconst 0, 1) := by decide +kernel
theorem dX1_setRule_2 : decode cX1_setRule 2 = .ok (.putfield 52, 3) := by decide +kernel
theorem dX1_setRule_5 : decode cX1_setRule 5 = .ok (.aload_n 0, 1) := by decide +kernel
theorem dX1_setRule_6 : decode cX1_setRule 6 = .ok (.getfield 59, 3) := by decide +kernel
theorem dX1_setRule_9 : decode cX1_setRule 9 = .ok (.istore_n 2, 1) := by decide +kernel
theorem dX1_setRule_10 : decode cX1_setRule 10 = .ok (.aload_n 0, 1) := by decide +kernel
theorem dX1_setRule_11 : decode cX1_setRule 11 = .ok (.iload_n 1, 1) := by decide +kernel
theorem dX1_setRule_12 : decode cX1_setRule 12 = .ok (.putfield 59, 3) := by decide +kernel
theorem dX1_setRule_15 : decode cX1_setRule 15 = .ok (.iload_n 2, 1) := by decide +kernel
theorem dX1_setRule_16 : decode cX1_setRule 16 = .ok (.ireturn, 1) := by decide +kernel
theorem dX1_numberOfNow_0 : decode cX1_numberOfNow 0 = .ok (.iconst 0, 1) := by decide +kernel
theorem dX1_numberOfNow_1 : decode cX1_numberOfNow 1 = .ok (.istore_n 1, 1) := by decide +kernel
theorem dX1_numberOfNow_2 : decode cX1_numberOfNow 2 = .ok (.aload_n 0, 1) := by decide +kernel
theorem dX1_numberOfNow_3 : decode cX1_numberOfNow 3 = .ok (.getfield 13, 3) := by decide +kernel
theorem dX1_numberOfNow_6 : decode cX1_numberOfNow 6 = .ok (.iconst 1, 1) := by decide +kernel
theorem dX1_numberOfNow_7 : decode cX1_numberOfNow 7 = .ok (.isub, 1) := by decide +kernel
theorem dX1_numberOfNow_8 : decode cX1_numberOfNow 8 = .ok (.istore_n 2, 1) := by decide +kernel
theorem dX1_numberOfNow_9 : decode cX1_numberOfNow 9 = .ok (.iload_n 2, 1) := by decide +kernel
theorem dX1_numberOfNow_10 : decode cX1_numberOfNow 10 = .ok (.ifCond .lt 23, 3) := by decide +kernel
theorem dX1_numberOfNow_13 : decode cX1_numberOfNow 13 = .ok (.aload_n 0, 1) := by decide +kernel
theorem dX1_numberOfNow_14 : decode cX1_numberOfNow 14 = .ok (.getfield 7, 3) := by decide +kernel
theorem dX1_numberOfNow_17 : decode cX1_numberOfNow 17 = .ok (.iload_n 1, 1) := by decide +kernel
theorem dX1_numberOfNow_18 : decode cX1_numberOfNow 18 = .ok (.imul, 1) := by decide +kernel
theorem dX1_numberOfNow_19 : decode cX1_numberOfNow 19 = .ok (.aload_n 0, 1) := by decide +kernel
theorem dX1_numberOfNow_20 : decode cX1_numberOfNow 20 = .ok (.getfield 16, 3) := by decide +kernel
theorem dX1_numberOfNow_23 : decode cX1_numberOfNow 23 = .ok (.iload_n 2, 1) := by decide +kernel
theorem dX1_numberOfNow_24 : decode cX1_numberOfNow 24 = .ok (.iaload, 1) := by decide +kernel
theorem dX1_numberOfNow_25 : decode cX1_numberOfNow 25 = .ok (.iadd, 1) := by decide +kernel
theorem dX1_numberOfNow_26 : decode cX1_numberOfNow 26 = .ok (.istore_n 1, 1) := by decide +kernel
theorem dX1_numberOfNow_27 : decode cX1_numberOfNow 27 = .ok (.iinc 2 (-1), 3) := by decide +kernel
theorem dX1_numberOfNow_30 : decode cX1_numberOfNow 30 = .ok (.goto (-21), 3) := by decide +kernel
theorem dX1_numberOfNow_33 : decode cX1_numberOfNow 33 = .ok (.iload_n 1, 1) := by decide +kernel
theorem dX1_numberOfNow_34 : decode cX1_numberOfNow 34 = .ok (.ireturn, 1) := by decide +kernel
theorem dX1_numberOfGoal_0 : decode cX1_numberOfGoal 0 = .ok (.iconst 0, 1) := by decide +kernel
theorem dX1_numberOfGoal_1 : decode cX1_numberOfGoal 1 = .ok (.istore_n 1, 1) := by decide +kernel
theorem dX1_numberOfGoal_2 : decode cX1_numberOfGoal 2 = .ok (.aload_n 0, 1) := by decide +kernel
theorem dX1_numberOfGoal_3 : decode cX1_numberOfGoal 3 = .ok (.getfield 13, 3) := by decide +kernel
theorem dX1_numberOfGoal_6 : decode cX1_numberOfGoal 6 = .ok (.iconst 1, 1) := by decide +kernel
theorem dX1_numberOfGoal_7 : decode cX1_numberOfGoal 7 = .ok (.isub, 1) := by decide +kernel
theorem dX1_numberOfGoal_8 : decode cX1_numberOfGoal 8 = .ok (.istore_n 2, 1) := by decide +kernel
theorem dX1_numberOfGoal_9 : decode cX1_numberOfGoal 9 = .ok (.iload_n 2, 1) := by decide +kernel
theorem dX1_numberOfGoal_10 : decode cX1_numberOfGoal 10 = .ok (.ifCond .lt 23, 3) := by decide +kernel
theorem dX1_numberOfGoal_13 : decode cX1_numberOfGoal 13 = .ok (.aload_n 0, 1) := by decide +kernel
theorem dX1_numberOfGoal_14 : decode cX1_numberOfGoal 14 = .ok (.getfield 7, 3) := by decide +kernel
theorem dX1_numberOfGoal_17 : decode cX1_numberOfGoal 17 = .ok (.iload_n 1, 1) := by decide +kernel
theorem dX1_numberOfGoal_18 : decode cX1_numberOfGoal 18 = .ok (.imul, 1) := by decide +kernel
theorem dX1_numberOfGoal_19 : decode cX1_numberOfGoal 19 = .ok (.aload_n 0, 1) := by decide +kernel
theorem dX1_numberOfGoal_20 : decode cX1_numberOfGoal 20 = .ok (.getfield 20, 3) := by decide +kernel
theorem dX1_numberOfGoal_23 : decode cX1_numberOfGoal 23 = .ok (.iload_n 2, 1) := by decide +kernel
theorem dX1_numberOfGoal_24 : decode cX1_numberOfGoal 24 = .ok (.iaload, 1) := by decide +kernel
theorem dX1_numberOfGoal_25 : decode cX1_numberOfGoal 25 = .ok (.iadd, 1) := by decide +kernel
theorem dX1_numberOfGoal_26 : decode cX1_numberOfGoal 26 = .ok (.istore_n 1, 1) := by decide +kernel
theorem dX1_numberOfGoal_27 : decode cX1_numberOfGoal 27 = .ok (.iinc 2 (-1), 3) := by decide +kernel
theorem dX1_numberOfGoal_30 : decode cX1_numberOfGoal 30 = .ok (.goto (-21), 3) := by decide +kernel
theorem dX1_numberOfGoal_33 : decode cX1_numberOfGoal 33 = .ok (.iload_n 1, 1) := by decide +kernel
theorem dX1_numberOfGoal_34 : decode cX1_numberOfGoal 34 = .ok (.ireturn, 1) := by decide +kernel
theorem dX1_open_0 : decode cX1_open 0 = .ok (.iload_n 1, 1) := by decide +kernel
theorem dX1_open_1 : decode cX1_open 1 = .ok (.istore_n 2, 1) := by decide +kernel
theorem dX1_open_2 : decode cX1_open 2 = .ok (.iconst 0, 1) := by decide +kernel
theorem dX1_open_3 : decode cX1_open 3 = .ok (.istore_n 3, 1) := by decide +kernel
theorem dX1_open_4 : decode cX1_open 4 = .ok (.iload_n 3, 1) := by decide +kernel
theorem dX1_open_5 : decode cX1_open 5 = .ok (.aload_n 0, 1) := by decide +kernel
theorem dX1_open_6 : decode cX1_open 6 = .ok (.getfield 13, 3) := by decide +kernel
theorem dX1_open_9 : decode cX1_open 9 = .ok (.if_icmp .ge 28, 3) := by decide +kernel
theorem dX1_open_12 : decode cX1_open 12 = .ok (.aload_n 0, 1) := by decide +kernel
theorem dX1_open_13 : decode cX1_open 13 = .ok (.getfield 36, 3) := by decide +kernel
theorem dX1_open_16 : decode cX1_open 16 = .ok (.iload_n 3, 1) := by decide +kernel
theorem dX1_open_17 : decode cX1_open 17 = .ok (.iload_n 2, 1) := by decide +kernel
theorem dX1_open_18 : decode cX1_open 18 = .ok (.aload_n 0, 1) := by decide +kernel
theorem dX1_open_19 : decode cX1_open 19 = .ok (.getfield 7, 3) := by decide +kernel
theorem dX1_open_22 : decode cX1_open 22 = .ok (.irem, 1) := by decide +kernel
theorem dX1_open_23 : decode cX1_open 23 = .ok (.iastore, 1) := by decide +kernel
theorem dX1_open_24 : decode cX1_open 24 = .ok (.iload_n 2, 1) := by decide +kernel
theorem dX1_open_25 : decode cX1_open 25 = .ok (.aload_n 0, 1) := by decide +kernel
theorem dX1_open_26 : decode cX1_open 26 = .ok (.getfield 7, 3) := by decide +kernel
theorem dX1_open_29 : decode cX1_open 29 = .ok (.idiv, 1) := by decide +kernel
theorem dX1_open_30 : decode cX1_open 30 = .ok (.istore_n 2, 1) := by decide +kernel
theorem dX1_open_31 : decode cX1_open 31 = .ok (.iinc 3 1, 3) := by decide +kernel
theorem dX1_open_34 : decode cX1_open 34 = .ok (.goto (-30), 3) := by decide +kernel
theorem dX1_open_37 : decode cX1_open 37 = .ok (.return_, 1) := by decide +kernel
theorem dX1_topOf_0 : decode cX1_topOf 0 = .ok (.iconst 0, 1) := by decide +kernel
theorem dX1_topOf_1 : decode cX1_topOf 1 = .ok (.istore_n 2, 1) := by decide +kernel
theorem dX1_topOf_2 : decode cX1_topOf 2 = .ok (.iload_n 2, 1) := by decide +kernel
theorem dX1_topOf_3 : decode cX1_topOf 3 = .ok (.aload_n 0, 1) := by decide +kernel
theorem dX1_topOf_4 : decode cX1_topOf 4 = .ok (.getfield 13, 3) := by decide +kernel
theorem dX1_topOf_7 : decode cX1_topOf 7 = .ok (.if_icmp .ge 21, 3) := by decide +kernel
theorem dX1_topOf_10 : decode cX1_topOf 10 = .ok (.aload_n 0, 1) := by decide +kernel
theorem dX1_topOf_11 : decode cX1_topOf 11 = .ok (.getfield 36, 3) := by decide +kernel
theorem dX1_topOf_14 : decode cX1_topOf 14 = .ok (.iload_n 2, 1) := by decide +kernel
theorem dX1_topOf_15 : decode cX1_topOf 15 = .ok (.iaload, 1) := by decide +kernel
theorem dX1_topOf_16 : decode cX1_topOf 16 = .ok (.iload_n 1, 1) := by decide +kernel
theorem dX1_topOf_17 : decode cX1_topOf 17 = .ok (.if_icmp .ne 5, 3) := by decide +kernel
theorem dX1_topOf_20 : decode cX1_topOf 20 = .ok (.iload_n 2, 1) := by decide +kernel
theorem dX1_topOf_21 : decode cX1_topOf 21 = .ok (.ireturn, 1) := by decide +kernel
theorem dX1_topOf_22 : decode cX1_topOf 22 = .ok (.iinc 2 1, 3) := by decide +kernel
theorem dX1_topOf_25 : decode cX1_topOf 25 = .ok (.goto (-23), 3) := by decide +kernel
theorem dX1_topOf_28 : decode cX1_topOf 28 = .ok (.iconst (-1), 1) := by decide +kernel
theorem dX1_topOf_29 : decode cX1_topOf 29 = .ok (.ireturn, 1) := by decide +kernel
theorem dX1_isFine_0 : decode cX1_isFine 0 = .ok (.iconst 1, 1) := by decide +kernel
theorem dX1_isFine_1 : decode cX1_isFine 1 = .ok (.istore_n 1, 1) := by decide +kernel
theorem dX1_isFine_2 : decode cX1_isFine 2 = .ok (.iconst 0, 1) := by decide +kernel
theorem dX1_isFine_3 : decode cX1_isFine 3 = .ok (.istore_n 2, 1) := by decide +kernel
theorem dX1_isFine_4 : decode cX1_isFine 4 = .ok (.iload_n 2, 1) := by decide +kernel
theorem dX1_isFine_5 : decode cX1_isFine 5 = .ok (.aload_n 0, 1) := by decide +kernel
theorem dX1_isFine_6 : decode cX1_isFine 6 = .ok (.getfield 7, 3) := by decide +kernel
theorem dX1_isFine_9 : decode cX1_isFine 9 = .ok (.if_icmp .ge 81, 3) := by decide +kernel
theorem dX1_isFine_12 : decode cX1_isFine 12 = .ok (.aload_n 0, 1) := by decide +kernel
theorem dX1_isFine_13 : decode cX1_isFine 13 = .ok (.getfield 59, 3) := by decide +kernel
theorem dX1_isFine_16 : decode cX1_isFine 16 = .ok (.ifCond .eq 74, 3) := by decide +kernel
theorem dX1_isFine_19 : decode cX1_isFine 19 = .ok (.iconst (-1), 1) := by decide +kernel
theorem dX1_isFine_20 : decode cX1_isFine 20 = .ok (.istore_n 3, 1) := by decide +kernel
theorem dX1_isFine_21 : decode cX1_isFine 21 = .ok (.iconst 0, 1) := by decide +kernel
theorem dX1_isFine_22 : decode cX1_isFine 22 = .ok (.istore 4, 2) := by decide +kernel
theorem dX1_isFine_24 : decode cX1_isFine 24 = .ok (.iload 4, 2) := by decide +kernel
theorem dX1_isFine_26 : decode cX1_isFine 26 = .ok (.aload_n 0, 1) := by decide +kernel
theorem dX1_isFine_27 : decode cX1_isFine 27 = .ok (.getfield 13, 3) := by decide +kernel
theorem dX1_isFine_30 : decode cX1_isFine 30 = .ok (.if_icmp .ge 54, 3) := by decide +kernel
theorem dX1_isFine_33 : decode cX1_isFine 33 = .ok (.aload_n 0, 1) := by decide +kernel
theorem dX1_isFine_34 : decode cX1_isFine 34 = .ok (.getfield 36, 3) := by decide +kernel
theorem dX1_isFine_37 : decode cX1_isFine 37 = .ok (.iload 4, 2) := by decide +kernel
theorem dX1_isFine_39 : decode cX1_isFine 39 = .ok (.iaload, 1) := by decide +kernel
theorem dX1_isFine_40 : decode cX1_isFine 40 = .ok (.iload_n 2, 1) := by decide +kernel
theorem dX1_isFine_41 : decode cX1_isFine 41 = .ok (.if_icmp .ne 37, 3) := by decide +kernel
theorem dX1_isFine_44 : decode cX1_isFine 44 = .ok (.iload_n 1, 1) := by decide +kernel
theorem dX1_isFine_45 : decode cX1_isFine 45 = .ok (.ifCond .eq 28, 3) := by decide +kernel
theorem dX1_isFine_48 : decode cX1_isFine 48 = .ok (.iload_n 3, 1) := by decide +kernel
theorem dX1_isFine_49 : decode cX1_isFine 49 = .ok (.iconst (-1), 1) := by decide +kernel
theorem dX1_isFine_50 : decode cX1_isFine 50 = .ok (.if_icmp .eq 19, 3) := by decide +kernel
theorem dX1_isFine_53 : decode cX1_isFine 53 = .ok (.aload_n 0, 1) := by decide +kernel
theorem dX1_isFine_54 : decode cX1_isFine 54 = .ok (.getfield 23, 3) := by decide +kernel
theorem dX1_isFine_57 : decode cX1_isFine 57 = .ok (.iload_n 3, 1) := by decide +kernel
theorem dX1_isFine_58 : decode cX1_isFine 58 = .ok (.iaload, 1) := by decide +kernel
theorem dX1_isFine_59 : decode cX1_isFine 59 = .ok (.aload_n 0, 1) := by decide +kernel
theorem dX1_isFine_60 : decode cX1_isFine 60 = .ok (.getfield 23, 3) := by decide +kernel
theorem dX1_isFine_63 : decode cX1_isFine 63 = .ok (.iload 4, 2) := by decide +kernel
theorem dX1_isFine_65 : decode cX1_isFine 65 = .ok (.iaload, 1) := by decide +kernel
theorem dX1_isFine_66 : decode cX1_isFine 66 = .ok (.if_icmp .eq 7, 3) := by decide +kernel
theorem dX1_isFine_69 : decode cX1_isFine 69 = .ok (.iconst 1, 1) := by decide +kernel
theorem dX1_isFine_70 : decode cX1_isFine 70 = .ok (.goto 4, 3) := by decide +kernel
theorem dX1_isFine_73 : decode cX1_isFine 73 = .ok (.iconst 0, 1) := by decide +kernel
theorem dX1_isFine_74 : decode cX1_isFine 74 = .ok (.istore_n 1, 1) := by decide +kernel
theorem dX1_isFine_75 : decode cX1_isFine 75 = .ok (.iload 4, 2) := by decide +kernel
theorem dX1_isFine_77 : decode cX1_isFine 77 = .ok (.istore_n 3, 1) := by decide +kernel
theorem dX1_isFine_78 : decode cX1_isFine 78 = .ok (.iinc 4 1, 3) := by decide +kernel
theorem dX1_isFine_81 : decode cX1_isFine 81 = .ok (.goto (-57), 3) := by decide +kernel
theorem dX1_isFine_84 : decode cX1_isFine 84 = .ok (.iinc 2 1, 3) := by decide +kernel
theorem dX1_isFine_87 : decode cX1_isFine 87 = .ok (.goto (-83), 3) := by decide +kernel
theorem dX1_isFine_90 : decode cX1_isFine 90 = .ok (.iload_n 1, 1) := by decide +kernel
theorem dX1_isFine_91 : decode cX1_isFine 91 = .ok (.ireturn, 1) := by decide +kernel
theorem dX1_isLawfulNumber_0 : decode cX1_isLawfulNumber 0 = .ok (.aload_n 0, 1) := by decide +kernel
theorem dX1_isLawfulNumber_1 : decode cX1_isLawfulNumber 1 = .ok (.iload_n 1, 1) := by decide +kernel
theorem dX1_isLawfulNumber_2 : decode cX1_isLawfulNumber 2 = .ok (.invokevirtual 80, 3) := by decide +kernel
theorem dX1_isLawfulNumber_5 : decode cX1_isLawfulNumber 5 = .ok (.aload_n 0, 1) := by decide +kernel
theorem dX1_isLawfulNumber_6 : decode cX1_isLawfulNumber 6 = .ok (.invokevirtual 84, 3) := by decide +kernel
theorem dX1_isLawfulNumber_9 : decode cX1_isLawfulNumber 9 = .ok (.ireturn, 1) := by decide +kernel
theorem dX1_behind_0 : decode cX1_behind 0 = .ok (.aload_n 0, 1) := by decide +kernel
theorem dX1_behind_1 : decode cX1_behind 1 = .ok (.iload_n 1, 1) := by decide +kernel
theorem dX1_behind_2 : decode cX1_behind 2 = .ok (.invokevirtual 80, 3) := by decide +kernel
theorem dX1_behind_5 : decode cX1_behind 5 = .ok (.aload_n 0, 1) := by decide +kernel
theorem dX1_behind_6 : decode cX1_behind 6 = .ok (.iload_n 2, 1) := by decide +kernel
theorem dX1_behind_7 : decode cX1_behind 7 = .ok (.invokevirtual 88, 3) := by decide +kernel
theorem dX1_behind_10 : decode cX1_behind 10 = .ok (.istore 4, 2) := by decide +kernel
theorem dX1_behind_12 : decode cX1_behind 12 = .ok (.aload_n 0, 1) := by decide +kernel
theorem dX1_behind_13 : decode cX1_behind 13 = .ok (.iload_n 3, 1) := by decide +kernel
theorem dX1_behind_14 : decode cX1_behind 14 = .ok (.invokevirtual 88, 3) := by decide +kernel
theorem dX1_behind_17 : decode cX1_behind 17 = .ok (.istore 5, 2) := by decide +kernel
theorem dX1_behind_19 : decode cX1_behind 19 = .ok (.iload_n 2, 1) := by decide +kernel
theorem dX1_behind_20 : decode cX1_behind 20 = .ok (.iload_n 3, 1) := by decide +kernel
theorem dX1_behind_21 : decode cX1_behind 21 = .ok (.if_icmp .eq 35, 3) := by decide +kernel
theorem dX1_behind_24 : decode cX1_behind 24 = .ok (.iload 4, 2) := by decide +kernel
theorem dX1_behind_26 : decode cX1_behind 26 = .ok (.iconst (-1), 1) := by decide +kernel
theorem dX1_behind_27 : decode cX1_behind 27 = .ok (.if_icmp .eq 29, 3) := by decide +kernel
theorem dX1_behind_30 : decode cX1_behind 30 = .ok (.iload 5, 2) := by decide +kernel
theorem dX1_behind_32 : decode cX1_behind 32 = .ok (.iconst (-1), 1) := by decide +kernel
theorem dX1_behind_33 : decode cX1_behind 33 = .ok (.if_icmp .eq 10, 3) := by decide +kernel
theorem dX1_behind_36 : decode cX1_behind 36 = .ok (.iload 5, 2) := by decide +kernel
theorem dX1_behind_38 : decode cX1_behind 38 = .ok (.iload 4, 2) := by decide +kernel
theorem dX1_behind_40 : decode cX1_behind 40 = .ok (.if_icmp .lt 16, 3) := by decide +kernel
theorem dX1_behind_43 : decode cX1_behind 43 = .ok (.aload_n 0, 1) := by decide +kernel
theorem dX1_behind_44 : decode cX1_behind 44 = .ok (.getfield 26, 3) := by decide +kernel
theorem dX1_behind_47 : decode cX1_behind 47 = .ok (.iconst 5, 1) := by decide +kernel
theorem dX1_behind_48 : decode cX1_behind 48 = .ok (.iload_n 2, 1) := by decide +kernel
theorem dX1_behind_49 : decode cX1_behind 49 = .ok (.imul, 1) := by decide +kernel
theorem dX1_behind_50 : decode cX1_behind 50 = .ok (.iload_n 3, 1) := by decide +kernel
theorem dX1_behind_51 : decode cX1_behind 51 = .ok (.iadd, 1) := by decide +kernel
theorem dX1_behind_52 : decode cX1_behind 52 = .ok (.baload, 1) := by decide +kernel
theorem dX1_behind_53 : decode cX1_behind 53 = .ok (.ifCond .eq 5, 3) := by decide +kernel
theorem dX1_behind_56 : decode cX1_behind 56 = .ok (.iconst (-1), 1) := by decide +kernel
theorem dX1_behind_57 : decode cX1_behind 57 = .ok (.ireturn, 1) := by decide +kernel
theorem dX1_behind_58 : decode cX1_behind 58 = .ok (.aload_n 0, 1) := by decide +kernel
theorem dX1_behind_59 : decode cX1_behind 59 = .ok (.getfield 36, 3) := by decide +kernel
theorem dX1_behind_62 : decode cX1_behind 62 = .ok (.iload 4, 2) := by decide +kernel
theorem dX1_behind_64 : decode cX1_behind 64 = .ok (.iload_n 3, 1) := by decide +kernel
theorem dX1_behind_65 : decode cX1_behind 65 = .ok (.iastore, 1) := by decide +kernel
theorem dX1_behind_66 : decode cX1_behind 66 = .ok (.iconst 1, 1) := by decide +kernel
theorem dX1_behind_67 : decode cX1_behind 67 = .ok (.istore 6, 2) := by decide +kernel
theorem dX1_behind_69 : decode cX1_behind 69 = .ok (.iconst 0, 1) := by decide +kernel
theorem dX1_behind_70 : decode cX1_behind 70 = .ok (.istore 7, 2) := by decide +kernel
theorem dX1_behind_72 : decode cX1_behind 72 = .ok (.iload 7, 2) := by decide +kernel
theorem dX1_behind_74 : decode cX1_behind 74 = .ok (.iload 4, 2) := by decide +kernel
theorem dX1_behind_76 : decode cX1_behind 76 = .ok (.if_icmp .ge 18, 3) := by decide +kernel
theorem dX1_behind_79 : decode cX1_behind 79 = .ok (.iload 6, 2) := by decide +kernel
theorem dX1_behind_81 : decode cX1_behind 81 = .ok (.aload_n 0, 1) := by decide +kernel
theorem dX1_behind_82 : decode cX1_behind 82 = .ok (.getfield 7, 3) := by decide +kernel
theorem dX1_behind_85 : decode cX1_behind 85 = .ok (.imul, 1) := by decide +kernel
theorem dX1_behind_86 : decode cX1_behind 86 = .ok (.istore 6, 2) := by decide +kernel
theorem dX1_behind_88 : decode cX1_behind 88 = .ok (.iinc 7 1, 3) := by decide +kernel
theorem dX1_behind_91 : decode cX1_behind 91 = .ok (.goto (-19), 3) := by decide +kernel
theorem dX1_behind_94 : decode cX1_behind 94 = .ok (.aload_n 0, 1) := by decide +kernel
theorem dX1_behind_95 : decode cX1_behind 95 = .ok (.invokevirtual 84, 3) := by decide +kernel
theorem dX1_behind_98 : decode cX1_behind 98 = .ok (.ifCond .eq 14, 3) := by decide +kernel
theorem dX1_behind_101 : decode cX1_behind 101 = .ok (.iload_n 1, 1) := by decide +kernel
theorem dX1_behind_102 : decode cX1_behind 102 = .ok (.iload_n 3, 1) := by decide +kernel
theorem dX1_behind_103 : decode cX1_behind 103 = .ok (.iload_n 2, 1) := by decide +kernel
theorem dX1_behind_104 : decode cX1_behind 104 = .ok (.isub, 1) := by decide +kernel
theorem dX1_behind_105 : decode cX1_behind 105 = .ok (.iload 6, 2) := by decide +kernel
theorem dX1_behind_107 : decode cX1_behind 107 = .ok (.imul, 1) := by decide +kernel
theorem dX1_behind_108 : decode cX1_behind 108 = .ok (.iadd, 1) := by decide +kernel
theorem dX1_behind_109 : decode cX1_behind 109 = .ok (.goto 4, 3) := by decide +kernel
theorem dX1_behind_112 : decode cX1_behind 112 = .ok (.iconst (-1), 1) := by decide +kernel
theorem dX1_behind_113 : decode cX1_behind 113 = .ok (.ireturn, 1) := by decide +kernel
theorem dX1_move_0 : decode cX1_move 0 = .ok (.aload_n 0, 1) := by decide +kernel
theorem dX1_move_1 : decode cX1_move 1 = .ok (.iload_n 1, 1) := by decide +kernel
theorem dX1_move_2 : decode cX1_move 2 = .ok (.invokevirtual 77, 3) := by decide +kernel
theorem dX1_move_5 : decode cX1_move 5 = .ok (.ifCond .eq 15, 3) := by decide +kernel
theorem dX1_move_8 : decode cX1_move 8 = .ok (.aload_n 0, 1) := by decide +kernel
theorem dX1_move_9 : decode cX1_move 9 = .ok (.iload_n 2, 1) := by decide +kernel
theorem dX1_move_10 : decode cX1_move 10 = .ok (.invokevirtual 77, 3) := by decide +kernel
theorem dX1_move_13 : decode cX1_move 13 = .ok (.ifCond .eq 7, 3) := by decide +kernel
theorem dX1_move_16 : decode cX1_move 16 = .ok (.iconst 1, 1) := by decide +kernel
theorem dX1_move_17 : decode cX1_move 17 = .ok (.goto 4, 3) := by decide +kernel
theorem dX1_move_20 : decode cX1_move 20 = .ok (.iconst 0, 1) := by decide +kernel
theorem dX1_move_21 : decode cX1_move 21 = .ok (.istore_n 3, 1) := by decide +kernel
theorem dX1_move_22 : decode cX1_move 22 = .ok (.iload_n 3, 1) := by decide +kernel
theorem dX1_move_23 : decode cX1_move 23 = .ok (.ifCond .eq 16, 3) := by decide +kernel
theorem dX1_move_26 : decode cX1_move 26 = .ok (.aload_n 0, 1) := by decide +kernel
theorem dX1_move_27 : decode cX1_move 27 = .ok (.aload_n 0, 1) := by decide +kernel
theorem dX1_move_28 : decode cX1_move 28 = .ok (.invokevirtual 92, 3) := by decide +kernel
theorem dX1_move_31 : decode cX1_move 31 = .ok (.iload_n 1, 1) := by decide +kernel
theorem dX1_move_32 : decode cX1_move 32 = .ok (.iload_n 2, 1) := by decide +kernel
theorem dX1_move_33 : decode cX1_move 33 = .ok (.invokevirtual 95, 3) := by decide +kernel
theorem dX1_move_36 : decode cX1_move 36 = .ok (.goto 4, 3) := by decide +kernel
theorem dX1_move_39 : decode cX1_move 39 = .ok (.iconst (-1), 1) := by decide +kernel
theorem dX1_move_40 : decode cX1_move 40 = .ok (.istore 4, 2) := by decide +kernel
theorem dX1_move_42 : decode cX1_move 42 = .ok (.aload_n 0, 1) := by decide +kernel
theorem dX1_move_43 : decode cX1_move 43 = .ok (.iload_n 3, 1) := by decide +kernel
theorem dX1_move_44 : decode cX1_move 44 = .ok (.ifCond .ne 7, 3) := by decide +kernel
theorem dX1_move_47 : decode cX1_move 47 = .ok (.iconst 1, 1) := by decide +kernel
theorem dX1_move_48 : decode cX1_move 48 = .ok (.goto 24, 3) := by decide +kernel
theorem dX1_move_51 : decode cX1_move 51 = .ok (.iload 4, 2) := by decide +kernel
theorem dX1_move_53 : decode cX1_move 53 = .ok (.iconst (-1), 1) := by decide +kernel
theorem dX1_move_54 : decode cX1_move 54 = .ok (.if_icmp .eq 13, 3) := by decide +kernel
theorem dX1_move_57 : decode cX1_move 57 = .ok (.aload_n 0, 1) := by decide +kernel
theorem dX1_move_58 : decode cX1_move 58 = .ok (.getfield 63, 3) := by decide +kernel
theorem dX1_move_61 : decode cX1_move 61 = .ok (.sipush 500, 3) := by decide +kernel
theorem dX1_move_64 : decode cX1_move 64 = .ok (.if_icmp .ne 7, 3) := by decide +kernel
theorem dX1_move_67 : decode cX1_move 67 = .ok (.iconst 2, 1) := by decide +kernel
theorem dX1_move_68 : decode cX1_move 68 = .ok (.goto 4, 3) := by decide +kernel
theorem dX1_move_71 : decode cX1_move 71 = .ok (.iconst 0, 1) := by decide +kernel
theorem dX1_move_72 : decode cX1_move 72 = .ok (.invokevirtual 66, 3) := by decide +kernel
theorem dX1_move_75 : decode cX1_move 75 = .ok (.ifCond .ne 5, 3) := by decide +kernel
theorem dX1_move_78 : decode cX1_move 78 = .ok (.iconst 0, 1) := by decide +kernel
theorem dX1_move_79 : decode cX1_move 79 = .ok (.ireturn, 1) := by decide +kernel
theorem dX1_move_80 : decode cX1_move 80 = .ok (.aload_n 0, 1) := by decide +kernel
theorem dX1_move_81 : decode cX1_move 81 = .ok (.getfield 63, 3) := by decide +kernel
theorem dX1_move_84 : decode cX1_move 84 = .ok (.ifCond .ne 11, 3) := by decide +kernel
theorem dX1_move_87 : decode cX1_move 87 = .ok (.aload_n 0, 1) := by decide +kernel
theorem dX1_move_88 : decode cX1_move 88 = .ok (.aload_n 0, 1) := by decide +kernel
theorem dX1_move_89 : decode cX1_move 89 = .ok (.invokevirtual 92, 3) := by decide +kernel
theorem dX1_move_92 : decode cX1_move 92 = .ok (.putfield 99, 3) := by decide +kernel
theorem dX1_move_95 : decode cX1_move 95 = .ok (.aload_n 0, 1) := by decide +kernel
theorem dX1_move_96 : decode cX1_move 96 = .ok (.aload_n 0, 1) := by decide +kernel
theorem dX1_move_97 : decode cX1_move 97 = .ok (.invokevirtual 92, 3) := by decide +kernel
theorem dX1_move_100 : decode cX1_move 100 = .ok (.invokevirtual 80, 3) := by decide +kernel
theorem dX1_move_103 : decode cX1_move 103 = .ok (.aload_n 0, 1) := by decide +kernel
theorem dX1_move_104 : decode cX1_move 104 = .ok (.iload_n 1, 1) := by decide +kernel
theorem dX1_move_105 : decode cX1_move 105 = .ok (.invokevirtual 88, 3) := by decide +kernel
theorem dX1_move_108 : decode cX1_move 108 = .ok (.istore 5, 2) := by decide +kernel
theorem dX1_move_110 : decode cX1_move 110 = .ok (.aload_n 0, 1) := by decide +kernel
theorem dX1_move_111 : decode cX1_move 111 = .ok (.getfield 16, 3) := by decide +kernel
theorem dX1_move_114 : decode cX1_move 114 = .ok (.iload 5, 2) := by decide +kernel
theorem dX1_move_116 : decode cX1_move 116 = .ok (.iload_n 2, 1) := by decide +kernel
theorem dX1_move_117 : decode cX1_move 117 = .ok (.iastore, 1) := by decide +kernel
theorem dX1_move_118 : decode cX1_move 118 = .ok (.aload_n 0, 1) := by decide +kernel
theorem dX1_move_119 : decode cX1_move 119 = .ok (.getfield 30, 3) := by decide +kernel
theorem dX1_move_122 : decode cX1_move 122 = .ok (.aload_n 0, 1) := by decide +kernel
theorem dX1_move_123 : decode cX1_move 123 = .ok (.getfield 63, 3) := by decide +kernel
theorem dX1_move_126 : decode cX1_move 126 = .ok (.iload_n 1, 1) := by decide +kernel
theorem dX1_move_127 : decode cX1_move 127 = .ok (.iastore, 1) := by decide +kernel
theorem dX1_move_128 : decode cX1_move 128 = .ok (.aload_n 0, 1) := by decide +kernel
theorem dX1_move_129 : decode cX1_move 129 = .ok (.getfield 33, 3) := by decide +kernel
theorem dX1_move_132 : decode cX1_move 132 = .ok (.aload_n 0, 1) := by decide +kernel
theorem dX1_move_133 : decode cX1_move 133 = .ok (.getfield 63, 3) := by decide +kernel
theorem dX1_move_136 : decode cX1_move 136 = .ok (.iload_n 2, 1) := by decide +kernel
theorem dX1_move_137 : decode cX1_move 137 = .ok (.iastore, 1) := by decide +kernel
theorem dX1_move_138 : decode cX1_move 138 = .ok (.aload_n 0, 1) := by decide +kernel
theorem dX1_move_139 : decode cX1_move 139 = .ok (.dup, 1) := by decide +kernel
theorem dX1_move_140 : decode cX1_move 140 = .ok (.getfield 63, 3) := by decide +kernel
theorem dX1_move_143 : decode cX1_move 143 = .ok (.iconst 1, 1) := by decide +kernel
theorem dX1_move_144 : decode cX1_move 144 = .ok (.iadd, 1) := by decide +kernel
theorem dX1_move_145 : decode cX1_move 145 = .ok (.putfield 63, 3) := by decide +kernel
theorem dX1_move_148 : decode cX1_move 148 = .ok (.iload 5, 2) := by decide +kernel
theorem dX1_move_150 : decode cX1_move 150 = .ok (.ireturn, 1) := by decide +kernel
theorem dX1_takeBack_0 : decode cX1_takeBack 0 = .ok (.aload_n 0, 1) := by decide +kernel
theorem dX1_takeBack_1 : decode cX1_takeBack 1 = .ok (.aload_n 0, 1) := by decide +kernel
theorem dX1_takeBack_2 : decode cX1_takeBack 2 = .ok (.getfield 63, 3) := by decide +kernel
theorem dX1_takeBack_5 : decode cX1_takeBack 5 = .ok (.ifCond .ne 7, 3) := by decide +kernel
theorem dX1_takeBack_8 : decode cX1_takeBack 8 = .ok (.iconst 1, 1) := by decide +kernel
theorem dX1_takeBack_9 : decode cX1_takeBack 9 = .ok (.goto 4, 3) := by decide +kernel
theorem dX1_takeBack_12 : decode cX1_takeBack 12 = .ok (.iconst 0, 1) := by decide +kernel
theorem dX1_takeBack_13 : decode cX1_takeBack 13 = .ok (.invokevirtual 66, 3) := by decide +kernel
theorem dX1_takeBack_16 : decode cX1_takeBack 16 = .ok (.ifCond .ne 5, 3) := by decide +kernel
theorem dX1_takeBack_19 : decode cX1_takeBack 19 = .ok (.iconst 0, 1) := by decide +kernel
theorem dX1_takeBack_20 : decode cX1_takeBack 20 = .ok (.ireturn, 1) := by decide +kernel
theorem dX1_takeBack_21 : decode cX1_takeBack 21 = .ok (.aload_n 0, 1) := by decide +kernel
theorem dX1_takeBack_22 : decode cX1_takeBack 22 = .ok (.dup, 1) := by decide +kernel
theorem dX1_takeBack_23 : decode cX1_takeBack 23 = .ok (.getfield 63, 3) := by decide +kernel
theorem dX1_takeBack_26 : decode cX1_takeBack 26 = .ok (.iconst 1, 1) := by decide +kernel
theorem dX1_takeBack_27 : decode cX1_takeBack 27 = .ok (.isub, 1) := by decide +kernel
theorem dX1_takeBack_28 : decode cX1_takeBack 28 = .ok (.putfield 63, 3) := by decide +kernel
theorem dX1_takeBack_31 : decode cX1_takeBack 31 = .ok (.aload_n 0, 1) := by decide +kernel
theorem dX1_takeBack_32 : decode cX1_takeBack 32 = .ok (.aload_n 0, 1) := by decide +kernel
theorem dX1_takeBack_33 : decode cX1_takeBack 33 = .ok (.invokevirtual 92, 3) := by decide +kernel
theorem dX1_takeBack_36 : decode cX1_takeBack 36 = .ok (.invokevirtual 80, 3) := by decide +kernel
theorem dX1_takeBack_39 : decode cX1_takeBack 39 = .ok (.aload_n 0, 1) := by decide +kernel
theorem dX1_takeBack_40 : decode cX1_takeBack 40 = .ok (.getfield 16, 3) := by decide +kernel
theorem dX1_takeBack_43 : decode cX1_takeBack 43 = .ok (.aload_n 0, 1) := by decide +kernel
theorem dX1_takeBack_44 : decode cX1_takeBack 44 = .ok (.aload_n 0, 1) := by decide +kernel
theorem dX1_takeBack_45 : decode cX1_takeBack 45 = .ok (.getfield 33, 3) := by decide +kernel
theorem dX1_takeBack_48 : decode cX1_takeBack 48 = .ok (.aload_n 0, 1) := by decide +kernel
theorem dX1_takeBack_49 : decode cX1_takeBack 49 = .ok (.getfield 63, 3) := by decide +kernel
theorem dX1_takeBack_52 : decode cX1_takeBack 52 = .ok (.iaload, 1) := by decide +kernel
theorem dX1_takeBack_53 : decode cX1_takeBack 53 = .ok (.invokevirtual 88, 3) := by decide +kernel
theorem dX1_takeBack_56 : decode cX1_takeBack 56 = .ok (.aload_n 0, 1) := by decide +kernel
theorem dX1_takeBack_57 : decode cX1_takeBack 57 = .ok (.getfield 30, 3) := by decide +kernel
theorem dX1_takeBack_60 : decode cX1_takeBack 60 = .ok (.aload_n 0, 1) := by decide +kernel
theorem dX1_takeBack_61 : decode cX1_takeBack 61 = .ok (.getfield 63, 3) := by decide +kernel
theorem dX1_takeBack_64 : decode cX1_takeBack 64 = .ok (.iaload, 1) := by decide +kernel
theorem dX1_takeBack_65 : decode cX1_takeBack 65 = .ok (.iastore, 1) := by decide +kernel
theorem dX1_takeBack_66 : decode cX1_takeBack 66 = .ok (.aload_n 0, 1) := by decide +kernel
theorem dX1_takeBack_67 : decode cX1_takeBack 67 = .ok (.getfield 63, 3) := by decide +kernel
theorem dX1_takeBack_70 : decode cX1_takeBack 70 = .ok (.ireturn, 1) := by decide +kernel
theorem dX1_layStart_0 : decode cX1_layStart 0 = .ok (.aload_n 0, 1) := by decide +kernel
theorem dX1_layStart_1 : decode cX1_layStart 1 = .ok (.iconst 0, 1) := by decide +kernel
theorem dX1_layStart_2 : decode cX1_layStart 2 = .ok (.putfield 52, 3) := by decide +kernel
theorem dX1_layStart_5 : decode cX1_layStart 5 = .ok (.aload_n 0, 1) := by decide +kernel
theorem dX1_layStart_6 : decode cX1_layStart 6 = .ok (.getfield 63, 3) := by decide +kernel
theorem dX1_layStart_9 : decode cX1_layStart 9 = .ok (.istore_n 1, 1) := by decide +kernel
theorem dX1_layStart_10 : decode cX1_layStart 10 = .ok (.aload_n 0, 1) := by decide +kernel
theorem dX1_layStart_11 : decode cX1_layStart 11 = .ok (.iconst 0, 1) := by decide +kernel
theorem dX1_layStart_12 : decode cX1_layStart 12 = .ok (.putfield 63, 3) := by decide +kernel
theorem dX1_layStart_15 : decode cX1_layStart 15 = .ok (.iload_n 1, 1) := by decide +kernel
theorem dX1_layStart_16 : decode cX1_layStart 16 = .ok (.ireturn, 1) := by decide +kernel
theorem dX1_pegs_0 : decode cX1_pegs 0 = .ok (.aload_n 0, 1) := by decide +kernel
theorem dX1_pegs_1 : decode cX1_pegs 1 = .ok (.iconst 0, 1) := by decide +kernel
theorem dX1_pegs_2 : decode cX1_pegs 2 = .ok (.putfield 52, 3) := by decide +kernel
theorem dX1_pegs_5 : decode cX1_pegs 5 = .ok (.aload_n 0, 1) := by decide +kernel
theorem dX1_pegs_6 : decode cX1_pegs 6 = .ok (.getfield 7, 3) := by decide +kernel
theorem dX1_pegs_9 : decode cX1_pegs 9 = .ok (.ireturn, 1) := by decide +kernel
theorem dX1_disks_0 : decode cX1_disks 0 = .ok (.aload_n 0, 1) := by decide +kernel
theorem dX1_disks_1 : decode cX1_disks 1 = .ok (.iconst 0, 1) := by decide +kernel
theorem dX1_disks_2 : decode cX1_disks 2 = .ok (.putfield 52, 3) := by decide +kernel
theorem dX1_disks_5 : decode cX1_disks 5 = .ok (.aload_n 0, 1) := by decide +kernel
theorem dX1_disks_6 : decode cX1_disks 6 = .ok (.getfield 13, 3) := by decide +kernel
theorem dX1_disks_9 : decode cX1_disks 9 = .ok (.ireturn, 1) := by decide +kernel
theorem dX1_moves_0 : decode cX1_moves 0 = .ok (.aload_n 0, 1) := by decide +kernel
theorem dX1_moves_1 : decode cX1_moves 1 = .ok (.iconst 0, 1) := by decide +kernel
theorem dX1_moves_2 : decode cX1_moves 2 = .ok (.putfield 52, 3) := by decide +kernel
theorem dX1_moves_5 : decode cX1_moves 5 = .ok (.aload_n 0, 1) := by decide +kernel
theorem dX1_moves_6 : decode cX1_moves 6 = .ok (.getfield 63, 3) := by decide +kernel
theorem dX1_moves_9 : decode cX1_moves 9 = .ok (.ireturn, 1) := by decide +kernel
theorem dX1_pegOf_0 : decode cX1_pegOf 0 = .ok (.aload_n 0, 1) := by decide +kernel
theorem dX1_pegOf_1 : decode cX1_pegOf 1 = .ok (.aload_n 0, 1) := by decide +kernel
theorem dX1_pegOf_2 : decode cX1_pegOf 2 = .ok (.iload_n 1, 1) := by decide +kernel
theorem dX1_pegOf_3 : decode cX1_pegOf 3 = .ok (.invokevirtual 74, 3) := by decide +kernel
theorem dX1_pegOf_6 : decode cX1_pegOf 6 = .ok (.ifCond .eq 7, 3) := by decide +kernel
theorem dX1_pegOf_9 : decode cX1_pegOf 9 = .ok (.iconst 0, 1) := by decide +kernel
theorem dX1_pegOf_10 : decode cX1_pegOf 10 = .ok (.goto 4, 3) := by decide +kernel
theorem dX1_pegOf_13 : decode cX1_pegOf 13 = .ok (.iconst 1, 1) := by decide +kernel
theorem dX1_pegOf_14 : decode cX1_pegOf 14 = .ok (.invokevirtual 66, 3) := by decide +kernel
theorem dX1_pegOf_17 : decode cX1_pegOf 17 = .ok (.ifCond .eq 12, 3) := by decide +kernel
theorem dX1_pegOf_20 : decode cX1_pegOf 20 = .ok (.aload_n 0, 1) := by decide +kernel
theorem dX1_pegOf_21 : decode cX1_pegOf 21 = .ok (.getfield 16, 3) := by decide +kernel
theorem dX1_pegOf_24 : decode cX1_pegOf 24 = .ok (.iload_n 1, 1) := by decide +kernel
theorem dX1_pegOf_25 : decode cX1_pegOf 25 = .ok (.iaload, 1) := by decide +kernel
theorem dX1_pegOf_26 : decode cX1_pegOf 26 = .ok (.goto 4, 3) := by decide +kernel
theorem dX1_pegOf_29 : decode cX1_pegOf 29 = .ok (.iconst 0, 1) := by decide +kernel
theorem dX1_pegOf_30 : decode cX1_pegOf 30 = .ok (.ireturn, 1) := by decide +kernel
theorem dX1_top_0 : decode cX1_top 0 = .ok (.aload_n 0, 1) := by decide +kernel
theorem dX1_top_1 : decode cX1_top 1 = .ok (.aload_n 0, 1) := by decide +kernel
theorem dX1_top_2 : decode cX1_top 2 = .ok (.iload_n 1, 1) := by decide +kernel
theorem dX1_top_3 : decode cX1_top 3 = .ok (.invokevirtual 77, 3) := by decide +kernel
theorem dX1_top_6 : decode cX1_top 6 = .ok (.ifCond .eq 7, 3) := by decide +kernel
theorem dX1_top_9 : decode cX1_top 9 = .ok (.iconst 0, 1) := by decide +kernel
theorem dX1_top_10 : decode cX1_top 10 = .ok (.goto 4, 3) := by decide +kernel
theorem dX1_top_13 : decode cX1_top 13 = .ok (.iconst 1, 1) := by decide +kernel
theorem dX1_top_14 : decode cX1_top 14 = .ok (.invokevirtual 66, 3) := by decide +kernel
theorem dX1_top_17 : decode cX1_top 17 = .ok (.ifCond .ne 5, 3) := by decide +kernel
theorem dX1_top_20 : decode cX1_top 20 = .ok (.iconst 0, 1) := by decide +kernel
theorem dX1_top_21 : decode cX1_top 21 = .ok (.ireturn, 1) := by decide +kernel
theorem dX1_top_22 : decode cX1_top 22 = .ok (.aload_n 0, 1) := by decide +kernel
theorem dX1_top_23 : decode cX1_top 23 = .ok (.aload_n 0, 1) := by decide +kernel
theorem dX1_top_24 : decode cX1_top 24 = .ok (.invokevirtual 92, 3) := by decide +kernel
theorem dX1_top_27 : decode cX1_top 27 = .ok (.invokevirtual 80, 3) := by decide +kernel
theorem dX1_top_30 : decode cX1_top 30 = .ok (.aload_n 0, 1) := by decide +kernel
theorem dX1_top_31 : decode cX1_top 31 = .ok (.iload_n 1, 1) := by decide +kernel
theorem dX1_top_32 : decode cX1_top 32 = .ok (.invokevirtual 88, 3) := by decide +kernel
theorem dX1_top_35 : decode cX1_top 35 = .ok (.ireturn, 1) := by decide +kernel
theorem dX1_arrangement_0 : decode cX1_arrangement 0 = .ok (.aload_n 0, 1) := by decide +kernel
theorem dX1_arrangement_1 : decode cX1_arrangement 1 = .ok (.iconst 0, 1) := by decide +kernel
theorem dX1_arrangement_2 : decode cX1_arrangement 2 = .ok (.putfield 52, 3) := by decide +kernel
theorem dX1_arrangement_5 : decode cX1_arrangement 5 = .ok (.aload_n 0, 1) := by decide +kernel
theorem dX1_arrangement_6 : decode cX1_arrangement 6 = .ok (.invokevirtual 92, 3) := by decide +kernel
theorem dX1_arrangement_9 : decode cX1_arrangement 9 = .ok (.ireturn, 1) := by decide +kernel
theorem dX1_goal_0 : decode cX1_goal 0 = .ok (.aload_n 0, 1) := by decide +kernel
theorem dX1_goal_1 : decode cX1_goal 1 = .ok (.iconst 0, 1) := by decide +kernel
theorem dX1_goal_2 : decode cX1_goal 2 = .ok (.putfield 52, 3) := by decide +kernel
theorem dX1_goal_5 : decode cX1_goal 5 = .ok (.aload_n 0, 1) := by decide +kernel
theorem dX1_goal_6 : decode cX1_goal 6 = .ok (.invokevirtual 102, 3) := by decide +kernel
theorem dX1_goal_9 : decode cX1_goal 9 = .ok (.ireturn, 1) := by decide +kernel
theorem dX1_isLawful_0 : decode cX1_isLawful 0 = .ok (.aload_n 0, 1) := by decide +kernel
theorem dX1_isLawful_1 : decode cX1_isLawful 1 = .ok (.iconst 0, 1) := by decide +kernel
theorem dX1_isLawful_2 : decode cX1_isLawful 2 = .ok (.putfield 52, 3) := by decide +kernel
theorem dX1_isLawful_5 : decode cX1_isLawful 5 = .ok (.aload_n 0, 1) := by decide +kernel
theorem dX1_isLawful_6 : decode cX1_isLawful 6 = .ok (.aload_n 0, 1) := by decide +kernel
theorem dX1_isLawful_7 : decode cX1_isLawful 7 = .ok (.invokevirtual 92, 3) := by decide +kernel
theorem dX1_isLawful_10 : decode cX1_isLawful 10 = .ok (.invokevirtual 105, 3) := by decide +kernel
theorem dX1_isLawful_13 : decode cX1_isLawful 13 = .ok (.ireturn, 1) := by decide +kernel
theorem dX1_canMove_0 : decode cX1_canMove 0 = .ok (.aload_n 0, 1) := by decide +kernel
theorem dX1_canMove_1 : decode cX1_canMove 1 = .ok (.aload_n 0, 1) := by decide +kernel
theorem dX1_canMove_2 : decode cX1_canMove 2 = .ok (.iload_n 1, 1) := by decide +kernel
theorem dX1_canMove_3 : decode cX1_canMove 3 = .ok (.invokevirtual 77, 3) := by decide +kernel
theorem dX1_canMove_6 : decode cX1_canMove 6 = .ok (.ifCond .eq 15, 3) := by decide +kernel
theorem dX1_canMove_9 : decode cX1_canMove 9 = .ok (.aload_n 0, 1) := by decide +kernel
theorem dX1_canMove_10 : decode cX1_canMove 10 = .ok (.iload_n 2, 1) := by decide +kernel
theorem dX1_canMove_11 : decode cX1_canMove 11 = .ok (.invokevirtual 77, 3) := by decide +kernel
theorem dX1_canMove_14 : decode cX1_canMove 14 = .ok (.ifCond .eq 7, 3) := by decide +kernel
theorem dX1_canMove_17 : decode cX1_canMove 17 = .ok (.iconst 0, 1) := by decide +kernel
theorem dX1_canMove_18 : decode cX1_canMove 18 = .ok (.goto 4, 3) := by decide +kernel
theorem dX1_canMove_21 : decode cX1_canMove 21 = .ok (.iconst 1, 1) := by decide +kernel
theorem dX1_canMove_22 : decode cX1_canMove 22 = .ok (.invokevirtual 66, 3) := by decide +kernel
theorem dX1_canMove_25 : decode cX1_canMove 25 = .ok (.ifCond .eq 21, 3) := by decide +kernel
theorem dX1_canMove_28 : decode cX1_canMove 28 = .ok (.aload_n 0, 1) := by decide +kernel
theorem dX1_canMove_29 : decode cX1_canMove 29 = .ok (.aload_n 0, 1) := by decide +kernel
theorem dX1_canMove_30 : decode cX1_canMove 30 = .ok (.invokevirtual 92, 3) := by decide +kernel
theorem dX1_canMove_33 : decode cX1_canMove 33 = .ok (.iload_n 1, 1) := by decide +kernel
theorem dX1_canMove_34 : decode cX1_canMove 34 = .ok (.iload_n 2, 1) := by decide +kernel
theorem dX1_canMove_35 : decode cX1_canMove 35 = .ok (.invokevirtual 95, 3) := by decide +kernel
theorem dX1_canMove_38 : decode cX1_canMove 38 = .ok (.iconst (-1), 1) := by decide +kernel
theorem dX1_canMove_39 : decode cX1_canMove 39 = .ok (.if_icmp .eq 7, 3) := by decide +kernel
theorem dX1_canMove_42 : decode cX1_canMove 42 = .ok (.iconst 1, 1) := by decide +kernel
theorem dX1_canMove_43 : decode cX1_canMove 43 = .ok (.goto 4, 3) := by decide +kernel
theorem dX1_canMove_46 : decode cX1_canMove 46 = .ok (.iconst 0, 1) := by decide +kernel
theorem dX1_canMove_47 : decode cX1_canMove 47 = .ok (.ireturn, 1) := by decide +kernel
theorem dX1_search_0 : decode cX1_search 0 = .ok (.iconst 0, 1) := by decide +kernel
theorem dX1_search_1 : decode cX1_search 1 = .ok (.istore_n 2, 1) := by decide +kernel
theorem dX1_search_2 : decode cX1_search 2 = .ok (.iload_n 2, 1) := by decide +kernel
theorem dX1_search_3 : decode cX1_search 3 = .ok (.sipush 15625, 3) := by decide +kernel
theorem dX1_search_6 : decode cX1_search 6 = .ok (.if_icmp .ge 16, 3) := by decide +kernel
theorem dX1_search_9 : decode cX1_search 9 = .ok (.aload_n 0, 1) := by decide +kernel
theorem dX1_search_10 : decode cX1_search 10 = .ok (.getfield 39, 3) := by decide +kernel
theorem dX1_search_13 : decode cX1_search 13 = .ok (.iload_n 2, 1) := by decide +kernel
theorem dX1_search_14 : decode cX1_search 14 = .ok (.iconst (-1), 1) := by decide +kernel
theorem dX1_search_15 : decode cX1_search 15 = .ok (.iastore, 1) := by decide +kernel
theorem dX1_search_16 : decode cX1_search 16 = .ok (.iinc 2 1, 3) := by decide +kernel
theorem dX1_search_19 : decode cX1_search 19 = .ok (.goto (-17), 3) := by decide +kernel
theorem dX1_search_22 : decode cX1_search 22 = .ok (.aload_n 0, 1) := by decide +kernel
theorem dX1_search_23 : decode cX1_search 23 = .ok (.iconst 0, 1) := by decide +kernel
theorem dX1_search_24 : decode cX1_search 24 = .ok (.putfield 108, 3) := by decide +kernel
theorem dX1_search_27 : decode cX1_search 27 = .ok (.aload_n 0, 1) := by decide +kernel
theorem dX1_search_28 : decode cX1_search 28 = .ok (.iload_n 1, 1) := by decide +kernel
theorem dX1_search_29 : decode cX1_search 29 = .ok (.invokevirtual 105, 3) := by decide +kernel
theorem dX1_search_32 : decode cX1_search 32 = .ok (.ifCond .eq 22, 3) := by decide +kernel
theorem dX1_search_35 : decode cX1_search 35 = .ok (.aload_n 0, 1) := by decide +kernel
theorem dX1_search_36 : decode cX1_search 36 = .ok (.getfield 39, 3) := by decide +kernel
theorem dX1_search_39 : decode cX1_search 39 = .ok (.iload_n 1, 1) := by decide +kernel
theorem dX1_search_40 : decode cX1_search 40 = .ok (.iconst 0, 1) := by decide +kernel
theorem dX1_search_41 : decode cX1_search 41 = .ok (.iastore, 1) := by decide +kernel
theorem dX1_search_42 : decode cX1_search 42 = .ok (.aload_n 0, 1) := by decide +kernel
theorem dX1_search_43 : decode cX1_search 43 = .ok (.getfield 42, 3) := by decide +kernel
theorem dX1_search_46 : decode cX1_search 46 = .ok (.iconst 0, 1) := by decide +kernel
theorem dX1_search_47 : decode cX1_search 47 = .ok (.iload_n 1, 1) := by decide +kernel
theorem dX1_search_48 : decode cX1_search 48 = .ok (.iastore, 1) := by decide +kernel
theorem dX1_search_49 : decode cX1_search 49 = .ok (.aload_n 0, 1) := by decide +kernel
theorem dX1_search_50 : decode cX1_search 50 = .ok (.iconst 1, 1) := by decide +kernel
theorem dX1_search_51 : decode cX1_search 51 = .ok (.putfield 108, 3) := by decide +kernel
theorem dX1_search_54 : decode cX1_search 54 = .ok (.iconst 0, 1) := by decide +kernel
theorem dX1_search_55 : decode cX1_search 55 = .ok (.istore_n 2, 1) := by decide +kernel
theorem dX1_search_56 : decode cX1_search 56 = .ok (.iload_n 2, 1) := by decide +kernel
theorem dX1_search_57 : decode cX1_search 57 = .ok (.aload_n 0, 1) := by decide +kernel
theorem dX1_search_58 : decode cX1_search 58 = .ok (.getfield 108, 3) := by decide +kernel
theorem dX1_search_61 : decode cX1_search 61 = .ok (.if_icmp .ge 112, 3) := by decide +kernel
theorem dX1_search_64 : decode cX1_search 64 = .ok (.iconst 0, 1) := by decide +kernel
theorem dX1_search_65 : decode cX1_search 65 = .ok (.istore_n 3, 1) := by decide +kernel
theorem dX1_search_66 : decode cX1_search 66 = .ok (.iload_n 3, 1) := by decide +kernel
theorem dX1_search_67 : decode cX1_search 67 = .ok (.aload_n 0, 1) := by decide +kernel
theorem dX1_search_68 : decode cX1_search 68 = .ok (.getfield 7, 3) := by decide +kernel
theorem dX1_search_71 : decode cX1_search 71 = .ok (.aload_n 0, 1) := by decide +kernel
theorem dX1_search_72 : decode cX1_search 72 = .ok (.getfield 7, 3) := by decide +kernel
theorem dX1_search_75 : decode cX1_search 75 = .ok (.imul, 1) := by decide +kernel
theorem dX1_search_76 : decode cX1_search 76 = .ok (.if_icmp .ge 91, 3) := by decide +kernel
theorem dX1_search_79 : decode cX1_search 79 = .ok (.aload_n 0, 1) := by decide +kernel
theorem dX1_search_80 : decode cX1_search 80 = .ok (.aload_n 0, 1) := by decide +kernel
theorem dX1_search_81 : decode cX1_search 81 = .ok (.getfield 42, 3) := by decide +kernel
theorem dX1_search_84 : decode cX1_search 84 = .ok (.iload_n 2, 1) := by decide +kernel
theorem dX1_search_85 : decode cX1_search 85 = .ok (.iaload, 1) := by decide +kernel
theorem dX1_search_86 : decode cX1_search 86 = .ok (.iload_n 3, 1) := by decide +kernel
theorem dX1_search_87 : decode cX1_search 87 = .ok (.aload_n 0, 1) := by decide +kernel
theorem dX1_search_88 : decode cX1_search 88 = .ok (.getfield 7, 3) := by decide +kernel
theorem dX1_search_91 : decode cX1_search 91 = .ok (.idiv, 1) := by decide +kernel
theorem dX1_search_92 : decode cX1_search 92 = .ok (.iload_n 3, 1) := by decide +kernel
theorem dX1_search_93 : decode cX1_search 93 = .ok (.aload_n 0, 1) := by decide +kernel
theorem dX1_search_94 : decode cX1_search 94 = .ok (.getfield 7, 3) := by decide +kernel
theorem dX1_search_97 : decode cX1_search 97 = .ok (.irem, 1) := by decide +kernel
theorem dX1_search_98 : decode cX1_search 98 = .ok (.invokevirtual 95, 3) := by decide +kernel
theorem dX1_search_101 : decode cX1_search 101 = .ok (.istore 4, 2) := by decide +kernel
theorem dX1_search_103 : decode cX1_search 103 = .ok (.iload 4, 2) := by decide +kernel
theorem dX1_search_105 : decode cX1_search 105 = .ok (.iconst (-1), 1) := by decide +kernel
theorem dX1_search_106 : decode cX1_search 106 = .ok (.if_icmp .eq 55, 3) := by decide +kernel
theorem dX1_search_109 : decode cX1_search 109 = .ok (.aload_n 0, 1) := by decide +kernel
theorem dX1_search_110 : decode cX1_search 110 = .ok (.getfield 39, 3) := by decide +kernel
theorem dX1_search_113 : decode cX1_search 113 = .ok (.iload 4, 2) := by decide +kernel
theorem dX1_search_115 : decode cX1_search 115 = .ok (.iaload, 1) := by decide +kernel
theorem dX1_search_116 : decode cX1_search 116 = .ok (.iconst (-1), 1) := by decide +kernel
theorem dX1_search_117 : decode cX1_search 117 = .ok (.if_icmp .ne 44, 3) := by decide +kernel
theorem dX1_search_120 : decode cX1_search 120 = .ok (.aload_n 0, 1) := by decide +kernel
theorem dX1_search_121 : decode cX1_search 121 = .ok (.getfield 39, 3) := by decide +kernel
theorem dX1_search_124 : decode cX1_search 124 = .ok (.iload 4, 2) := by decide +kernel
theorem dX1_search_126 : decode cX1_search 126 = .ok (.aload_n 0, 1) := by decide +kernel
theorem dX1_search_127 : decode cX1_search 127 = .ok (.getfield 39, 3) := by decide +kernel
theorem dX1_search_130 : decode cX1_search 130 = .ok (.aload_n 0, 1) := by decide +kernel
theorem dX1_search_131 : decode cX1_search 131 = .ok (.getfield 42, 3) := by decide +kernel
theorem dX1_search_134 : decode cX1_search 134 = .ok (.iload_n 2, 1) := by decide +kernel
theorem dX1_search_135 : decode cX1_search 135 = .ok (.iaload, 1) := by decide +kernel
theorem dX1_search_136 : decode cX1_search 136 = .ok (.iaload, 1) := by decide +kernel
theorem dX1_search_137 : decode cX1_search 137 = .ok (.iconst 1, 1) := by decide +kernel
theorem dX1_search_138 : decode cX1_search 138 = .ok (.iadd, 1) := by decide +kernel
theorem dX1_search_139 : decode cX1_search 139 = .ok (.iastore, 1) := by decide +kernel
theorem dX1_search_140 : decode cX1_search 140 = .ok (.aload_n 0, 1) := by decide +kernel
theorem dX1_search_141 : decode cX1_search 141 = .ok (.getfield 42, 3) := by decide +kernel
theorem dX1_search_144 : decode cX1_search 144 = .ok (.aload_n 0, 1) := by decide +kernel
theorem dX1_search_145 : decode cX1_search 145 = .ok (.getfield 108, 3) := by decide +kernel
theorem dX1_search_148 : decode cX1_search 148 = .ok (.iload 4, 2) := by decide +kernel
theorem dX1_search_150 : decode cX1_search 150 = .ok (.iastore, 1) := by decide +kernel
theorem dX1_search_151 : decode cX1_search 151 = .ok (.aload_n 0, 1) := by decide +kernel
theorem dX1_search_152 : decode cX1_search 152 = .ok (.dup, 1) := by decide +kernel
theorem dX1_search_153 : decode cX1_search 153 = .ok (.getfield 108, 3) := by decide +kernel
theorem dX1_search_156 : decode cX1_search 156 = .ok (.iconst 1, 1) := by decide +kernel
theorem dX1_search_157 : decode cX1_search 157 = .ok (.iadd, 1) := by decide +kernel
theorem dX1_search_158 : decode cX1_search 158 = .ok (.putfield 108, 3) := by decide +kernel
theorem dX1_search_161 : decode cX1_search 161 = .ok (.iinc 3 1, 3) := by decide +kernel
theorem dX1_search_164 : decode cX1_search 164 = .ok (.goto (-98), 3) := by decide +kernel
theorem dX1_search_167 : decode cX1_search 167 = .ok (.iinc 2 1, 3) := by decide +kernel
theorem dX1_search_170 : decode cX1_search 170 = .ok (.goto (-114), 3) := by decide +kernel
theorem dX1_search_173 : decode cX1_search 173 = .ok (.return_, 1) := by decide +kernel
theorem dX1_wayFrom_0 : decode cX1_wayFrom 0 = .ok (.aload_n 0, 1) := by decide +kernel
theorem dX1_wayFrom_1 : decode cX1_wayFrom 1 = .ok (.iload_n 1, 1) := by decide +kernel
theorem dX1_wayFrom_2 : decode cX1_wayFrom 2 = .ok (.invokevirtual 111, 3) := by decide +kernel
theorem dX1_wayFrom_5 : decode cX1_wayFrom 5 = .ok (.aload_n 0, 1) := by decide +kernel
theorem dX1_wayFrom_6 : decode cX1_wayFrom 6 = .ok (.getfield 39, 3) := by decide +kernel
theorem dX1_wayFrom_9 : decode cX1_wayFrom 9 = .ok (.aload_n 0, 1) := by decide +kernel
theorem dX1_wayFrom_10 : decode cX1_wayFrom 10 = .ok (.invokevirtual 102, 3) := by decide +kernel
theorem dX1_wayFrom_13 : decode cX1_wayFrom 13 = .ok (.iaload, 1) := by decide +kernel
theorem dX1_wayFrom_14 : decode cX1_wayFrom 14 = .ok (.ireturn, 1) := by decide +kernel
theorem dX1_way_0 : decode cX1_way 0 = .ok (.aload_n 0, 1) := by decide +kernel
theorem dX1_way_1 : decode cX1_way 1 = .ok (.iconst 0, 1) := by decide +kernel
theorem dX1_way_2 : decode cX1_way 2 = .ok (.putfield 52, 3) := by decide +kernel
theorem dX1_way_5 : decode cX1_way 5 = .ok (.aload_n 0, 1) := by decide +kernel
theorem dX1_way_6 : decode cX1_way 6 = .ok (.aload_n 0, 1) := by decide +kernel
theorem dX1_way_7 : decode cX1_way 7 = .ok (.invokevirtual 92, 3) := by decide +kernel
theorem dX1_way_10 : decode cX1_way 10 = .ok (.invokevirtual 114, 3) := by decide +kernel
theorem dX1_way_13 : decode cX1_way 13 = .ok (.ireturn, 1) := by decide +kernel
theorem dX1_gather_0 : decode cX1_gather 0 = .ok (.iconst 0, 1) := by decide +kernel
theorem dX1_gather_1 : decode cX1_gather 1 = .ok (.istore 4, 2) := by decide +kernel
theorem dX1_gather_3 : decode cX1_gather 3 = .ok (.iload_n 3, 1) := by decide +kernel
theorem dX1_gather_4 : decode cX1_gather 4 = .ok (.istore 5, 2) := by decide +kernel
theorem dX1_gather_6 : decode cX1_gather 6 = .ok (.iload_n 2, 1) := by decide +kernel
theorem dX1_gather_7 : decode cX1_gather 7 = .ok (.iconst 1, 1) := by decide +kernel
theorem dX1_gather_8 : decode cX1_gather 8 = .ok (.isub, 1) := by decide +kernel
theorem dX1_gather_9 : decode cX1_gather 9 = .ok (.istore 6, 2) := by decide +kernel
theorem dX1_gather_11 : decode cX1_gather 11 = .ok (.iload 6, 2) := by decide +kernel
theorem dX1_gather_13 : decode cX1_gather 13 = .ok (.ifCond .lt 57, 3) := by decide +kernel
theorem dX1_gather_16 : decode cX1_gather 16 = .ok (.iload_n 1, 1) := by decide +kernel
theorem dX1_gather_17 : decode cX1_gather 17 = .ok (.ifCond .eq 13, 3) := by decide +kernel
theorem dX1_gather_20 : decode cX1_gather 20 = .ok (.aload_n 0, 1) := by decide +kernel
theorem dX1_gather_21 : decode cX1_gather 21 = .ok (.getfield 20, 3) := by decide +kernel
theorem dX1_gather_24 : decode cX1_gather 24 = .ok (.iload 6, 2) := by decide +kernel
theorem dX1_gather_26 : decode cX1_gather 26 = .ok (.iaload, 1) := by decide +kernel
theorem dX1_gather_27 : decode cX1_gather 27 = .ok (.goto 10, 3) := by decide +kernel
theorem dX1_gather_30 : decode cX1_gather 30 = .ok (.aload_n 0, 1) := by decide +kernel
theorem dX1_gather_31 : decode cX1_gather 31 = .ok (.getfield 16, 3) := by decide +kernel
theorem dX1_gather_34 : decode cX1_gather 34 = .ok (.iload 6, 2) := by decide +kernel
theorem dX1_gather_36 : decode cX1_gather 36 = .ok (.iaload, 1) := by decide +kernel
theorem dX1_gather_37 : decode cX1_gather 37 = .ok (.istore 7, 2) := by decide +kernel
theorem dX1_gather_39 : decode cX1_gather 39 = .ok (.iload 7, 2) := by decide +kernel
theorem dX1_gather_41 : decode cX1_gather 41 = .ok (.iload 5, 2) := by decide +kernel
theorem dX1_gather_43 : decode cX1_gather 43 = .ok (.if_icmp .eq 21, 3) := by decide +kernel
theorem dX1_gather_46 : decode cX1_gather 46 = .ok (.iload 4, 2) := by decide +kernel
theorem dX1_gather_48 : decode cX1_gather 48 = .ok (.iconst 1, 1) := by decide +kernel
theorem dX1_gather_49 : decode cX1_gather 49 = .ok (.iload 6, 2) := by decide +kernel
theorem dX1_gather_51 : decode cX1_gather 51 = .ok (.ishl, 1) := by decide +kernel
theorem dX1_gather_52 : decode cX1_gather 52 = .ok (.iadd, 1) := by decide +kernel
theorem dX1_gather_53 : decode cX1_gather 53 = .ok (.istore 4, 2) := by decide +kernel
theorem dX1_gather_55 : decode cX1_gather 55 = .ok (.iconst 3, 1) := by decide +kernel
theorem dX1_gather_56 : decode cX1_gather 56 = .ok (.iload 7, 2) := by decide +kernel
theorem dX1_gather_58 : decode cX1_gather 58 = .ok (.isub, 1) := by decide +kernel
theorem dX1_gather_59 : decode cX1_gather 59 = .ok (.iload 5, 2) := by decide +kernel
theorem dX1_gather_61 : decode cX1_gather 61 = .ok (.isub, 1) := by decide +kernel
theorem dX1_gather_62 : decode cX1_gather 62 = .ok (.istore 5, 2) := by decide +kernel
theorem dX1_gather_64 : decode cX1_gather 64 = .ok (.iinc 6 (-1), 3) := by decide +kernel
theorem dX1_gather_67 : decode cX1_gather 67 = .ok (.goto (-56), 3) := by decide +kernel
theorem dX1_gather_70 : decode cX1_gather 70 = .ok (.iload 4, 2) := by decide +kernel
theorem dX1_gather_72 : decode cX1_gather 72 = .ok (.ireturn, 1) := by decide +kernel
theorem dX1_wayByDisks_0 : decode cX1_wayByDisks 0 = .ok (.aload_n 0, 1) := by decide +kernel
theorem dX1_wayByDisks_1 : decode cX1_wayByDisks 1 = .ok (.getfield 7, 3) := by decide +kernel
theorem dX1_wayByDisks_4 : decode cX1_wayByDisks 4 = .ok (.iconst 3, 1) := by decide +kernel
theorem dX1_wayByDisks_5 : decode cX1_wayByDisks 5 = .ok (.if_icmp .ne 14, 3) := by decide +kernel
theorem dX1_wayByDisks_8 : decode cX1_wayByDisks 8 = .ok (.aload_n 0, 1) := by decide +kernel
theorem dX1_wayByDisks_9 : decode cX1_wayByDisks 9 = .ok (.getfield 59, 3) := by decide +kernel
theorem dX1_wayByDisks_12 : decode cX1_wayByDisks 12 = .ok (.ifCond .ne 7, 3) := by decide +kernel
theorem dX1_wayByDisks_15 : decode cX1_wayByDisks 15 = .ok (.iconst 1, 1) := by decide +kernel
theorem dX1_wayByDisks_16 : decode cX1_wayByDisks 16 = .ok (.goto 4, 3) := by decide +kernel
theorem dX1_wayByDisks_19 : decode cX1_wayByDisks 19 = .ok (.iconst 0, 1) := by decide +kernel
theorem dX1_wayByDisks_20 : decode cX1_wayByDisks 20 = .ok (.istore_n 1, 1) := by decide +kernel
theorem dX1_wayByDisks_21 : decode cX1_wayByDisks 21 = .ok (.iconst 0, 1) := by decide +kernel
theorem dX1_wayByDisks_22 : decode cX1_wayByDisks 22 = .ok (.istore_n 2, 1) := by decide +kernel
theorem dX1_wayByDisks_23 : decode cX1_wayByDisks 23 = .ok (.iload_n 2, 1) := by decide +kernel
theorem dX1_wayByDisks_24 : decode cX1_wayByDisks 24 = .ok (.bipush 25, 2) := by decide +kernel
theorem dX1_wayByDisks_26 : decode cX1_wayByDisks 26 = .ok (.if_icmp .ge 28, 3) := by decide +kernel
theorem dX1_wayByDisks_29 : decode cX1_wayByDisks 29 = .ok (.iload_n 1, 1) := by decide +kernel
theorem dX1_wayByDisks_30 : decode cX1_wayByDisks 30 = .ok (.ifCond .eq 16, 3) := by decide +kernel
theorem dX1_wayByDisks_33 : decode cX1_wayByDisks 33 = .ok (.aload_n 0, 1) := by decide +kernel
theorem dX1_wayByDisks_34 : decode cX1_wayByDisks 34 = .ok (.getfield 26, 3) := by decide +kernel
theorem dX1_wayByDisks_37 : decode cX1_wayByDisks 37 = .ok (.iload_n 2, 1) := by decide +kernel
theorem dX1_wayByDisks_38 : decode cX1_wayByDisks 38 = .ok (.baload, 1) := by decide +kernel
theorem dX1_wayByDisks_39 : decode cX1_wayByDisks 39 = .ok (.ifCond .ne 7, 3) := by decide +kernel
theorem dX1_wayByDisks_42 : decode cX1_wayByDisks 42 = .ok (.iconst 1, 1) := by decide +kernel
theorem dX1_wayByDisks_43 : decode cX1_wayByDisks 43 = .ok (.goto 4, 3) := by decide +kernel
theorem dX1_wayByDisks_46 : decode cX1_wayByDisks 46 = .ok (.iconst 0, 1) := by decide +kernel
theorem dX1_wayByDisks_47 : decode cX1_wayByDisks 47 = .ok (.istore_n 1, 1) := by decide +kernel
theorem dX1_wayByDisks_48 : decode cX1_wayByDisks 48 = .ok (.iinc 2 1, 3) := by decide +kernel
theorem dX1_wayByDisks_51 : decode cX1_wayByDisks 51 = .ok (.goto (-28), 3) := by decide +kernel
theorem dX1_wayByDisks_54 : decode cX1_wayByDisks 54 = .ok (.aload_n 0, 1) := by decide +kernel
theorem dX1_wayByDisks_55 : decode cX1_wayByDisks 55 = .ok (.iload_n 1, 1) := by decide +kernel
theorem dX1_wayByDisks_56 : decode cX1_wayByDisks 56 = .ok (.ifCond .eq 7, 3) := by decide +kernel
theorem dX1_wayByDisks_59 : decode cX1_wayByDisks 59 = .ok (.iconst 0, 1) := by decide +kernel
theorem dX1_wayByDisks_60 : decode cX1_wayByDisks 60 = .ok (.goto 4, 3) := by decide +kernel
theorem dX1_wayByDisks_63 : decode cX1_wayByDisks 63 = .ok (.iconst 1, 1) := by decide +kernel
theorem dX1_wayByDisks_64 : decode cX1_wayByDisks 64 = .ok (.invokevirtual 66, 3) := by decide +kernel
theorem dX1_wayByDisks_67 : decode cX1_wayByDisks 67 = .ok (.ifCond .ne 5, 3) := by decide +kernel
theorem dX1_wayByDisks_70 : decode cX1_wayByDisks 70 = .ok (.iconst 0, 1) := by decide +kernel
theorem dX1_wayByDisks_71 : decode cX1_wayByDisks 71 = .ok (.ireturn, 1) := by decide +kernel
theorem dX1_wayByDisks_72 : decode cX1_wayByDisks 72 = .ok (.aload_n 0, 1) := by decide +kernel
theorem dX1_wayByDisks_73 : decode cX1_wayByDisks 73 = .ok (.getfield 13, 3) := by decide +kernel
theorem dX1_wayByDisks_76 : decode cX1_wayByDisks 76 = .ok (.iconst 1, 1) := by decide +kernel
theorem dX1_wayByDisks_77 : decode cX1_wayByDisks 77 = .ok (.isub, 1) := by decide +kernel
theorem dX1_wayByDisks_78 : decode cX1_wayByDisks 78 = .ok (.istore_n 2, 1) := by decide +kernel
theorem dX1_wayByDisks_79 : decode cX1_wayByDisks 79 = .ok (.iload_n 2, 1) := by decide +kernel
theorem dX1_wayByDisks_80 : decode cX1_wayByDisks 80 = .ok (.ifCond .lt 24, 3) := by decide +kernel
theorem dX1_wayByDisks_83 : decode cX1_wayByDisks 83 = .ok (.aload_n 0, 1) := by decide +kernel
theorem dX1_wayByDisks_84 : decode cX1_wayByDisks 84 = .ok (.getfield 16, 3) := by decide +kernel
theorem dX1_wayByDisks_87 : decode cX1_wayByDisks 87 = .ok (.iload_n 2, 1) := by decide +kernel
theorem dX1_wayByDisks_88 : decode cX1_wayByDisks 88 = .ok (.iaload, 1) := by decide +kernel
theorem dX1_wayByDisks_89 : decode cX1_wayByDisks 89 = .ok (.aload_n 0, 1) := by decide +kernel
theorem dX1_wayByDisks_90 : decode cX1_wayByDisks 90 = .ok (.getfield 20, 3) := by decide +kernel
theorem dX1_wayByDisks_93 : decode cX1_wayByDisks 93 = .ok (.iload_n 2, 1) := by decide +kernel
theorem dX1_wayByDisks_94 : decode cX1_wayByDisks 94 = .ok (.iaload, 1) := by decide +kernel
theorem dX1_wayByDisks_95 : decode cX1_wayByDisks 95 = .ok (.if_icmp .ne 9, 3) := by decide +kernel
theorem dX1_wayByDisks_98 : decode cX1_wayByDisks 98 = .ok (.iinc 2 (-1), 3) := by decide +kernel
theorem dX1_wayByDisks_101 : decode cX1_wayByDisks 101 = .ok (.goto (-22), 3) := by decide +kernel
theorem dX1_wayByDisks_104 : decode cX1_wayByDisks 104 = .ok (.iload_n 2, 1) := by decide +kernel
theorem dX1_wayByDisks_105 : decode cX1_wayByDisks 105 = .ok (.ifCond .ge 5, 3) := by decide +kernel
theorem dX1_wayByDisks_108 : decode cX1_wayByDisks 108 = .ok (.iconst 0, 1) := by decide +kernel
theorem dX1_wayByDisks_109 : decode cX1_wayByDisks 109 = .ok (.ireturn, 1) := by decide +kernel
theorem dX1_wayByDisks_110 : decode cX1_wayByDisks 110 = .ok (.aload_n 0, 1) := by decide +kernel
theorem dX1_wayByDisks_111 : decode cX1_wayByDisks 111 = .ok (.getfield 16, 3) := by decide +kernel
theorem dX1_wayByDisks_114 : decode cX1_wayByDisks 114 = .ok (.iload_n 2, 1) := by decide +kernel
theorem dX1_wayByDisks_115 : decode cX1_wayByDisks 115 = .ok (.iaload, 1) := by decide +kernel
theorem dX1_wayByDisks_116 : decode cX1_wayByDisks 116 = .ok (.istore_n 3, 1) := by decide +kernel
theorem dX1_wayByDisks_117 : decode cX1_wayByDisks 117 = .ok (.aload_n 0, 1) := by decide +kernel
theorem dX1_wayByDisks_118 : decode cX1_wayByDisks 118 = .ok (.getfield 20, 3) := by decide +kernel
theorem dX1_wayByDisks_121 : decode cX1_wayByDisks 121 = .ok (.iload_n 2, 1) := by decide +kernel
theorem dX1_wayByDisks_122 : decode cX1_wayByDisks 122 = .ok (.iaload, 1) := by decide +kernel
theorem dX1_wayByDisks_123 : decode cX1_wayByDisks 123 = .ok (.istore 4, 2) := by decide +kernel
theorem dX1_wayByDisks_125 : decode cX1_wayByDisks 125 = .ok (.iconst 3, 1) := by decide +kernel
theorem dX1_wayByDisks_126 : decode cX1_wayByDisks 126 = .ok (.iload_n 3, 1) := by decide +kernel
theorem dX1_wayByDisks_127 : decode cX1_wayByDisks 127 = .ok (.isub, 1) := by decide +kernel
theorem dX1_wayByDisks_128 : decode cX1_wayByDisks 128 = .ok (.iload 4, 2) := by decide +kernel
theorem dX1_wayByDisks_130 : decode cX1_wayByDisks 130 = .ok (.isub, 1) := by decide +kernel
theorem dX1_wayByDisks_131 : decode cX1_wayByDisks 131 = .ok (.istore 5, 2) := by decide +kernel
theorem dX1_wayByDisks_133 : decode cX1_wayByDisks 133 = .ok (.aload_n 0, 1) := by decide +kernel
theorem dX1_wayByDisks_134 : decode cX1_wayByDisks 134 = .ok (.iconst 0, 1) := by decide +kernel
theorem dX1_wayByDisks_135 : decode cX1_wayByDisks 135 = .ok (.iload_n 2, 1) := by decide +kernel
theorem dX1_wayByDisks_136 : decode cX1_wayByDisks 136 = .ok (.iload 5, 2) := by decide +kernel
theorem dX1_wayByDisks_138 : decode cX1_wayByDisks 138 = .ok (.invokevirtual 117, 3) := by decide +kernel
theorem dX1_wayByDisks_141 : decode cX1_wayByDisks 141 = .ok (.aload_n 0, 1) := by decide +kernel
theorem dX1_wayByDisks_142 : decode cX1_wayByDisks 142 = .ok (.iconst 1, 1) := by decide +kernel
theorem dX1_wayByDisks_143 : decode cX1_wayByDisks 143 = .ok (.iload_n 2, 1) := by decide +kernel
theorem dX1_wayByDisks_144 : decode cX1_wayByDisks 144 = .ok (.iload 5, 2) := by decide +kernel
theorem dX1_wayByDisks_146 : decode cX1_wayByDisks 146 = .ok (.invokevirtual 117, 3) := by decide +kernel
theorem dX1_wayByDisks_149 : decode cX1_wayByDisks 149 = .ok (.iadd, 1) := by decide +kernel
theorem dX1_wayByDisks_150 : decode cX1_wayByDisks 150 = .ok (.iconst 1, 1) := by decide +kernel
theorem dX1_wayByDisks_151 : decode cX1_wayByDisks 151 = .ok (.iadd, 1) := by decide +kernel
theorem dX1_wayByDisks_152 : decode cX1_wayByDisks 152 = .ok (.istore 6, 2) := by decide +kernel
theorem dX1_wayByDisks_154 : decode cX1_wayByDisks 154 = .ok (.aload_n 0, 1) := by decide +kernel
theorem dX1_wayByDisks_155 : decode cX1_wayByDisks 155 = .ok (.iconst 0, 1) := by decide +kernel
theorem dX1_wayByDisks_156 : decode cX1_wayByDisks 156 = .ok (.iload_n 2, 1) := by decide +kernel
theorem dX1_wayByDisks_157 : decode cX1_wayByDisks 157 = .ok (.iload 4, 2) := by decide +kernel
theorem dX1_wayByDisks_159 : decode cX1_wayByDisks 159 = .ok (.invokevirtual 117, 3) := by decide +kernel
theorem dX1_wayByDisks_162 : decode cX1_wayByDisks 162 = .ok (.aload_n 0, 1) := by decide +kernel
theorem dX1_wayByDisks_163 : decode cX1_wayByDisks 163 = .ok (.iconst 1, 1) := by decide +kernel
theorem dX1_wayByDisks_164 : decode cX1_wayByDisks 164 = .ok (.iload_n 2, 1) := by decide +kernel
theorem dX1_wayByDisks_165 : decode cX1_wayByDisks 165 = .ok (.iload_n 3, 1) := by decide +kernel
theorem dX1_wayByDisks_166 : decode cX1_wayByDisks 166 = .ok (.invokevirtual 117, 3) := by decide +kernel
theorem dX1_wayByDisks_169 : decode cX1_wayByDisks 169 = .ok (.iadd, 1) := by decide +kernel
theorem dX1_wayByDisks_170 : decode cX1_wayByDisks 170 = .ok (.iconst 1, 1) := by decide +kernel
theorem dX1_wayByDisks_171 : decode cX1_wayByDisks 171 = .ok (.iload_n 2, 1) := by decide +kernel
theorem dX1_wayByDisks_172 : decode cX1_wayByDisks 172 = .ok (.ishl, 1) := by decide +kernel
theorem dX1_wayByDisks_173 : decode cX1_wayByDisks 173 = .ok (.iadd, 1) := by decide +kernel
theorem dX1_wayByDisks_174 : decode cX1_wayByDisks 174 = .ok (.iconst 1, 1) := by decide +kernel
theorem dX1_wayByDisks_175 : decode cX1_wayByDisks 175 = .ok (.iadd, 1) := by decide +kernel
theorem dX1_wayByDisks_176 : decode cX1_wayByDisks 176 = .ok (.istore 7, 2) := by decide +kernel
theorem dX1_wayByDisks_178 : decode cX1_wayByDisks 178 = .ok (.iload 6, 2) := by decide +kernel
theorem dX1_wayByDisks_180 : decode cX1_wayByDisks 180 = .ok (.iload 7, 2) := by decide +kernel
theorem dX1_wayByDisks_182 : decode cX1_wayByDisks 182 = .ok (.if_icmp .ge 8, 3) := by decide +kernel
theorem dX1_wayByDisks_185 : decode cX1_wayByDisks 185 = .ok (.iload 6, 2) := by decide +kernel
theorem dX1_wayByDisks_187 : decode cX1_wayByDisks 187 = .ok (.goto 5, 3) := by decide +kernel
theorem dX1_wayByDisks_190 : decode cX1_wayByDisks 190 = .ok (.iload 7, 2) := by decide +kernel
theorem dX1_wayByDisks_192 : decode cX1_wayByDisks 192 = .ok (.ireturn, 1) := by decide +kernel
theorem dX1_lost_0 : decode cX1_lost 0 = .ok (.aload_n 0, 1) := by decide +kernel
theorem dX1_lost_1 : decode cX1_lost 1 = .ok (.aload_n 0, 1) := by decide +kernel
theorem dX1_lost_2 : decode cX1_lost 2 = .ok (.invokevirtual 92, 3) := by decide +kernel
theorem dX1_lost_5 : decode cX1_lost 5 = .ok (.invokevirtual 114, 3) := by decide +kernel
theorem dX1_lost_8 : decode cX1_lost 8 = .ok (.istore_n 1, 1) := by decide +kernel
theorem dX1_lost_9 : decode cX1_lost 9 = .ok (.aload_n 0, 1) := by decide +kernel
theorem dX1_lost_10 : decode cX1_lost 10 = .ok (.getfield 63, 3) := by decide +kernel
theorem dX1_lost_13 : decode cX1_lost 13 = .ok (.ifCond .ne 7, 3) := by decide +kernel
theorem dX1_lost_16 : decode cX1_lost 16 = .ok (.iload_n 1, 1) := by decide +kernel
theorem dX1_lost_17 : decode cX1_lost 17 = .ok (.goto 11, 3) := by decide +kernel
theorem dX1_lost_20 : decode cX1_lost 20 = .ok (.aload_n 0, 1) := by decide +kernel
theorem dX1_lost_21 : decode cX1_lost 21 = .ok (.aload_n 0, 1) := by decide +kernel
theorem dX1_lost_22 : decode cX1_lost 22 = .ok (.getfield 99, 3) := by decide +kernel
theorem dX1_lost_25 : decode cX1_lost 25 = .ok (.invokevirtual 114, 3) := by decide +kernel
theorem dX1_lost_28 : decode cX1_lost 28 = .ok (.istore_n 2, 1) := by decide +kernel
theorem dX1_lost_29 : decode cX1_lost 29 = .ok (.aload_n 0, 1) := by decide +kernel
theorem dX1_lost_30 : decode cX1_lost 30 = .ok (.iload_n 1, 1) := by decide +kernel
theorem dX1_lost_31 : decode cX1_lost 31 = .ok (.iconst (-1), 1) := by decide +kernel
theorem dX1_lost_32 : decode cX1_lost 32 = .ok (.if_icmp .eq 8, 3) := by decide +kernel
theorem dX1_lost_35 : decode cX1_lost 35 = .ok (.iload_n 2, 1) := by decide +kernel
theorem dX1_lost_36 : decode cX1_lost 36 = .ok (.iconst (-1), 1) := by decide +kernel
theorem dX1_lost_37 : decode cX1_lost 37 = .ok (.if_icmp .ne 7, 3) := by decide +kernel
theorem dX1_lost_40 : decode cX1_lost 40 = .ok (.iconst 1, 1) := by decide +kernel
theorem dX1_lost_41 : decode cX1_lost 41 = .ok (.goto 4, 3) := by decide +kernel
theorem dX1_lost_44 : decode cX1_lost 44 = .ok (.iconst 0, 1) := by decide +kernel
theorem dX1_lost_45 : decode cX1_lost 45 = .ok (.invokevirtual 66, 3) := by decide +kernel
theorem dX1_lost_48 : decode cX1_lost 48 = .ok (.ifCond .eq 14, 3) := by decide +kernel
theorem dX1_lost_51 : decode cX1_lost 51 = .ok (.aload_n 0, 1) := by decide +kernel
theorem dX1_lost_52 : decode cX1_lost 52 = .ok (.getfield 63, 3) := by decide +kernel
theorem dX1_lost_55 : decode cX1_lost 55 = .ok (.iload_n 1, 1) := by decide +kernel
theorem dX1_lost_56 : decode cX1_lost 56 = .ok (.iadd, 1) := by decide +kernel
theorem dX1_lost_57 : decode cX1_lost 57 = .ok (.iload_n 2, 1) := by decide +kernel
theorem dX1_lost_58 : decode cX1_lost 58 = .ok (.isub, 1) := by decide +kernel
theorem dX1_lost_59 : decode cX1_lost 59 = .ok (.goto 4, 3) := by decide +kernel
theorem dX1_lost_62 : decode cX1_lost 62 = .ok (.iconst 0, 1) := by decide +kernel
theorem dX1_lost_63 : decode cX1_lost 63 = .ok (.ireturn, 1) := by decide +kernel
theorem dX1_next_0 : decode cX1_next 0 = .ok (.aload_n 0, 1) := by decide +kernel
theorem dX1_next_1 : decode cX1_next 1 = .ok (.iconst 0, 1) := by decide +kernel
theorem dX1_next_2 : decode cX1_next 2 = .ok (.putfield 52, 3) := by decide +kernel
theorem dX1_next_5 : decode cX1_next 5 = .ok (.aload_n 0, 1) := by decide +kernel
theorem dX1_next_6 : decode cX1_next 6 = .ok (.invokevirtual 92, 3) := by decide +kernel
theorem dX1_next_9 : decode cX1_next 9 = .ok (.istore_n 1, 1) := by decide +kernel
theorem dX1_next_10 : decode cX1_next 10 = .ok (.aload_n 0, 1) := by decide +kernel
theorem dX1_next_11 : decode cX1_next 11 = .ok (.iload_n 1, 1) := by decide +kernel
theorem dX1_next_12 : decode cX1_next 12 = .ok (.invokevirtual 114, 3) := by decide +kernel
theorem dX1_next_15 : decode cX1_next 15 = .ok (.istore_n 2, 1) := by decide +kernel
theorem dX1_next_16 : decode cX1_next 16 = .ok (.iconst 0, 1) := by decide +kernel
theorem dX1_next_17 : decode cX1_next 17 = .ok (.istore_n 3, 1) := by decide +kernel
theorem dX1_next_18 : decode cX1_next 18 = .ok (.iload_n 3, 1) := by decide +kernel
theorem dX1_next_19 : decode cX1_next 19 = .ok (.aload_n 0, 1) := by decide +kernel
theorem dX1_next_20 : decode cX1_next 20 = .ok (.getfield 7, 3) := by decide +kernel
theorem dX1_next_23 : decode cX1_next 23 = .ok (.aload_n 0, 1) := by decide +kernel
theorem dX1_next_24 : decode cX1_next 24 = .ok (.getfield 7, 3) := by decide +kernel
theorem dX1_next_27 : decode cX1_next 27 = .ok (.imul, 1) := by decide +kernel
theorem dX1_next_28 : decode cX1_next 28 = .ok (.if_icmp .ge 67, 3) := by decide +kernel
theorem dX1_next_31 : decode cX1_next 31 = .ok (.iload_n 2, 1) := by decide +kernel
theorem dX1_next_32 : decode cX1_next 32 = .ok (.ifCond .le 63, 3) := by decide +kernel
theorem dX1_next_35 : decode cX1_next 35 = .ok (.aload_n 0, 1) := by decide +kernel
theorem dX1_next_36 : decode cX1_next 36 = .ok (.iload_n 1, 1) := by decide +kernel
theorem dX1_next_37 : decode cX1_next 37 = .ok (.iload_n 3, 1) := by decide +kernel
theorem dX1_next_38 : decode cX1_next 38 = .ok (.aload_n 0, 1) := by decide +kernel
theorem dX1_next_39 : decode cX1_next 39 = .ok (.getfield 7, 3) := by decide +kernel
theorem dX1_next_42 : decode cX1_next 42 = .ok (.idiv, 1) := by decide +kernel
theorem dX1_next_43 : decode cX1_next 43 = .ok (.iload_n 3, 1) := by decide +kernel
theorem dX1_next_44 : decode cX1_next 44 = .ok (.aload_n 0, 1) := by decide +kernel
theorem dX1_next_45 : decode cX1_next 45 = .ok (.getfield 7, 3) := by decide +kernel
theorem dX1_next_48 : decode cX1_next 48 = .ok (.irem, 1) := by decide +kernel
theorem dX1_next_49 : decode cX1_next 49 = .ok (.invokevirtual 95, 3) := by decide +kernel
theorem dX1_next_52 : decode cX1_next 52 = .ok (.istore 4, 2) := by decide +kernel
theorem dX1_next_54 : decode cX1_next 54 = .ok (.iload 4, 2) := by decide +kernel
theorem dX1_next_56 : decode cX1_next 56 = .ok (.iconst (-1), 1) := by decide +kernel
theorem dX1_next_57 : decode cX1_next 57 = .ok (.if_icmp .eq 32, 3) := by decide +kernel
theorem dX1_next_60 : decode cX1_next 60 = .ok (.aload_n 0, 1) := by decide +kernel
theorem dX1_next_61 : decode cX1_next 61 = .ok (.iload 4, 2) := by decide +kernel
theorem dX1_next_63 : decode cX1_next 63 = .ok (.invokevirtual 114, 3) := by decide +kernel
theorem dX1_next_66 : decode cX1_next 66 = .ok (.iload_n 2, 1) := by decide +kernel
theorem dX1_next_67 : decode cX1_next 67 = .ok (.iconst 1, 1) := by decide +kernel
theorem dX1_next_68 : decode cX1_next 68 = .ok (.isub, 1) := by decide +kernel
theorem dX1_next_69 : decode cX1_next 69 = .ok (.if_icmp .ne 20, 3) := by decide +kernel
theorem dX1_next_72 : decode cX1_next 72 = .ok (.bipush 10, 2) := by decide +kernel
theorem dX1_next_74 : decode cX1_next 74 = .ok (.iload_n 3, 1) := by decide +kernel
theorem dX1_next_75 : decode cX1_next 75 = .ok (.aload_n 0, 1) := by decide +kernel
theorem dX1_next_76 : decode cX1_next 76 = .ok (.getfield 7, 3) := by decide +kernel
theorem dX1_next_79 : decode cX1_next 79 = .ok (.idiv, 1) := by decide +kernel
theorem dX1_next_80 : decode cX1_next 80 = .ok (.imul, 1) := by decide +kernel
theorem dX1_next_81 : decode cX1_next 81 = .ok (.iload_n 3, 1) := by decide +kernel
theorem dX1_next_82 : decode cX1_next 82 = .ok (.aload_n 0, 1) := by decide +kernel
theorem dX1_next_83 : decode cX1_next 83 = .ok (.getfield 7, 3) := by decide +kernel
theorem dX1_next_86 : decode cX1_next 86 = .ok (.irem, 1) := by decide +kernel
theorem dX1_next_87 : decode cX1_next 87 = .ok (.iadd, 1) := by decide +kernel
theorem dX1_next_88 : decode cX1_next 88 = .ok (.ireturn, 1) := by decide +kernel
theorem dX1_next_89 : decode cX1_next 89 = .ok (.iinc 3 1, 3) := by decide +kernel
theorem dX1_next_92 : decode cX1_next 92 = .ok (.goto (-74), 3) := by decide +kernel
theorem dX1_next_95 : decode cX1_next 95 = .ok (.iconst (-1), 1) := by decide +kernel
theorem dX1_next_96 : decode cX1_next 96 = .ok (.ireturn, 1) := by decide +kernel
theorem dX1_reachable_0 : decode cX1_reachable 0 = .ok (.aload_n 0, 1) := by decide +kernel
theorem dX1_reachable_1 : decode cX1_reachable 1 = .ok (.iconst 0, 1) := by decide +kernel
theorem dX1_reachable_2 : decode cX1_reachable 2 = .ok (.putfield 52, 3) := by decide +kernel
theorem dX1_reachable_5 : decode cX1_reachable 5 = .ok (.aload_n 0, 1) := by decide +kernel
theorem dX1_reachable_6 : decode cX1_reachable 6 = .ok (.aload_n 0, 1) := by decide +kernel
theorem dX1_reachable_7 : decode cX1_reachable 7 = .ok (.invokevirtual 92, 3) := by decide +kernel
theorem dX1_reachable_10 : decode cX1_reachable 10 = .ok (.invokevirtual 111, 3) := by decide +kernel
theorem dX1_reachable_13 : decode cX1_reachable 13 = .ok (.aload_n 0, 1) := by decide +kernel
theorem dX1_reachable_14 : decode cX1_reachable 14 = .ok (.getfield 108, 3) := by decide +kernel
theorem dX1_reachable_17 : decode cX1_reachable 17 = .ok (.ireturn, 1) := by decide +kernel
theorem dX1_splits_0 : decode cX1_splits 0 = .ok (.aload_n 0, 1) := by decide +kernel
theorem dX1_splits_1 : decode cX1_splits 1 = .ok (.iload_n 1, 1) := by decide +kernel
theorem dX1_splits_2 : decode cX1_splits 2 = .ok (.iconst 0, 1) := by decide +kernel
theorem dX1_splits_3 : decode cX1_splits 3 = .ok (.bipush 20, 2) := by decide +kernel
theorem dX1_splits_5 : decode cX1_splits 5 = .ok (.invokestatic 55, 3) := by decide +kernel
theorem dX1_splits_8 : decode cX1_splits 8 = .ok (.ifCond .eq 16, 3) := by decide +kernel
theorem dX1_splits_11 : decode cX1_splits 11 = .ok (.iload_n 2, 1) := by decide +kernel
theorem dX1_splits_12 : decode cX1_splits 12 = .ok (.iconst 3, 1) := by decide +kernel
theorem dX1_splits_13 : decode cX1_splits 13 = .ok (.iconst 5, 1) := by decide +kernel
theorem dX1_splits_14 : decode cX1_splits 14 = .ok (.invokestatic 55, 3) := by decide +kernel
theorem dX1_splits_17 : decode cX1_splits 17 = .ok (.ifCond .eq 7, 3) := by decide +kernel
theorem dX1_splits_20 : decode cX1_splits 20 = .ok (.iconst 0, 1) := by decide +kernel
theorem dX1_splits_21 : decode cX1_splits 21 = .ok (.goto 4, 3) := by decide +kernel
theorem dX1_splits_24 : decode cX1_splits 24 = .ok (.iconst 1, 1) := by decide +kernel
theorem dX1_splits_25 : decode cX1_splits 25 = .ok (.invokevirtual 66, 3) := by decide +kernel
theorem dX1_splits_28 : decode cX1_splits 28 = .ok (.ifCond .ne 5, 3) := by decide +kernel
theorem dX1_splits_31 : decode cX1_splits 31 = .ok (.iconst 0, 1) := by decide +kernel
theorem dX1_splits_32 : decode cX1_splits 32 = .ok (.ireturn, 1) := by decide +kernel
theorem dX1_splits_33 : decode cX1_splits 33 = .ok (.iconst 0, 1) := by decide +kernel
theorem dX1_splits_34 : decode cX1_splits 34 = .ok (.istore_n 3, 1) := by decide +kernel
theorem dX1_splits_35 : decode cX1_splits 35 = .ok (.iload_n 3, 1) := by decide +kernel
theorem dX1_splits_36 : decode cX1_splits 36 = .ok (.bipush 20, 2) := by decide +kernel
theorem dX1_splits_38 : decode cX1_splits 38 = .ok (.if_icmp .gt 20, 3) := by decide +kernel
theorem dX1_splits_41 : decode cX1_splits 41 = .ok (.aload_n 0, 1) := by decide +kernel
theorem dX1_splits_42 : decode cX1_splits 42 = .ok (.getfield 45, 3) := by decide +kernel
theorem dX1_splits_45 : decode cX1_splits 45 = .ok (.iload_n 3, 1) := by decide +kernel
theorem dX1_splits_46 : decode cX1_splits 46 = .ok (.iconst 1, 1) := by decide +kernel
theorem dX1_splits_47 : decode cX1_splits 47 = .ok (.iload_n 3, 1) := by decide +kernel
theorem dX1_splits_48 : decode cX1_splits 48 = .ok (.ishl, 1) := by decide +kernel
theorem dX1_splits_49 : decode cX1_splits 49 = .ok (.iconst 1, 1) := by decide +kernel
theorem dX1_splits_50 : decode cX1_splits 50 = .ok (.isub, 1) := by decide +kernel
theorem dX1_splits_51 : decode cX1_splits 51 = .ok (.iastore, 1) := by decide +kernel
theorem dX1_splits_52 : decode cX1_splits 52 = .ok (.iinc 3 1, 3) := by decide +kernel
theorem dX1_splits_55 : decode cX1_splits 55 = .ok (.goto (-20), 3) := by decide +kernel
theorem dX1_splits_58 : decode cX1_splits 58 = .ok (.iconst 4, 1) := by decide +kernel
theorem dX1_splits_59 : decode cX1_splits 59 = .ok (.istore_n 3, 1) := by decide +kernel
theorem dX1_splits_60 : decode cX1_splits 60 = .ok (.iload_n 3, 1) := by decide +kernel
theorem dX1_splits_61 : decode cX1_splits 61 = .ok (.iconst 5, 1) := by decide +kernel
theorem dX1_splits_62 : decode cX1_splits 62 = .ok (.if_icmp .gt 175, 3) := by decide +kernel
theorem dX1_splits_65 : decode cX1_splits 65 = .ok (.bipush 21, 2) := by decide +kernel
theorem dX1_splits_67 : decode cX1_splits 67 = .ok (.iload_n 3, 1) := by decide +kernel
theorem dX1_splits_68 : decode cX1_splits 68 = .ok (.iconst 3, 1) := by decide +kernel
theorem dX1_splits_69 : decode cX1_splits 69 = .ok (.isub, 1) := by decide +kernel
theorem dX1_splits_70 : decode cX1_splits 70 = .ok (.imul, 1) := by decide +kernel
theorem dX1_splits_71 : decode cX1_splits 71 = .ok (.istore 4, 2) := by decide +kernel
theorem dX1_splits_73 : decode cX1_splits 73 = .ok (.aload_n 0, 1) := by decide +kernel
theorem dX1_splits_74 : decode cX1_splits 74 = .ok (.getfield 45, 3) := by decide +kernel
theorem dX1_splits_77 : decode cX1_splits 77 = .ok (.iload 4, 2) := by decide +kernel
theorem dX1_splits_79 : decode cX1_splits 79 = .ok (.iconst 0, 1) := by decide +kernel
theorem dX1_splits_80 : decode cX1_splits 80 = .ok (.iastore, 1) := by decide +kernel
theorem dX1_splits_81 : decode cX1_splits 81 = .ok (.aload_n 0, 1) := by decide +kernel
theorem dX1_splits_82 : decode cX1_splits 82 = .ok (.getfield 45, 3) := by decide +kernel
theorem dX1_splits_85 : decode cX1_splits 85 = .ok (.iload 4, 2) := by decide +kernel
theorem dX1_splits_87 : decode cX1_splits 87 = .ok (.iconst 1, 1) := by decide +kernel
theorem dX1_splits_88 : decode cX1_splits 88 = .ok (.iadd, 1) := by decide +kernel
theorem dX1_splits_89 : decode cX1_splits 89 = .ok (.iconst 1, 1) := by decide +kernel
theorem dX1_splits_90 : decode cX1_splits 90 = .ok (.iastore, 1) := by decide +kernel
theorem dX1_splits_91 : decode cX1_splits 91 = .ok (.iconst 2, 1) := by decide +kernel
theorem dX1_splits_92 : decode cX1_splits 92 = .ok (.istore 5, 2) := by decide +kernel
theorem dX1_splits_94 : decode cX1_splits 94 = .ok (.iload 5, 2) := by decide +kernel
theorem dX1_splits_96 : decode cX1_splits 96 = .ok (.bipush 20, 2) := by decide +kernel
theorem dX1_splits_98 : decode cX1_splits 98 = .ok (.if_icmp .gt 133, 3) := by decide +kernel
theorem dX1_splits_101 : decode cX1_splits 101 = .ok (.aload_n 0, 1) := by decide +kernel
theorem dX1_splits_102 : decode cX1_splits 102 = .ok (.getfield 45, 3) := by decide +kernel
theorem dX1_splits_105 : decode cX1_splits 105 = .ok (.iload 4, 2) := by decide +kernel
theorem dX1_splits_107 : decode cX1_splits 107 = .ok (.iload 5, 2) := by decide +kernel
theorem dX1_splits_109 : decode cX1_splits 109 = .ok (.iadd, 1) := by decide +kernel
theorem dX1_splits_110 : decode cX1_splits 110 = .ok (.iconst 2, 1) := by decide +kernel
theorem dX1_splits_111 : decode cX1_splits 111 = .ok (.aload_n 0, 1) := by decide +kernel
theorem dX1_splits_112 : decode cX1_splits 112 = .ok (.getfield 45, 3) := by decide +kernel
theorem dX1_splits_115 : decode cX1_splits 115 = .ok (.iload 4, 2) := by decide +kernel
theorem dX1_splits_117 : decode cX1_splits 117 = .ok (.iconst 1, 1) := by decide +kernel
theorem dX1_splits_118 : decode cX1_splits 118 = .ok (.iadd, 1) := by decide +kernel
theorem dX1_splits_119 : decode cX1_splits 119 = .ok (.iaload, 1) := by decide +kernel
theorem dX1_splits_120 : decode cX1_splits 120 = .ok (.imul, 1) := by decide +kernel
theorem dX1_splits_121 : decode cX1_splits 121 = .ok (.aload_n 0, 1) := by decide +kernel
theorem dX1_splits_122 : decode cX1_splits 122 = .ok (.getfield 45, 3) := by decide +kernel
theorem dX1_splits_125 : decode cX1_splits 125 = .ok (.iload 4, 2) := by decide +kernel
theorem dX1_splits_127 : decode cX1_splits 127 = .ok (.bipush 21, 2) := by decide +kernel
theorem dX1_splits_129 : decode cX1_splits 129 = .ok (.isub, 1) := by decide +kernel
theorem dX1_splits_130 : decode cX1_splits 130 = .ok (.iload 5, 2) := by decide +kernel
theorem dX1_splits_132 : decode cX1_splits 132 = .ok (.iadd, 1) := by decide +kernel
theorem dX1_splits_133 : decode cX1_splits 133 = .ok (.iconst 1, 1) := by decide +kernel
theorem dX1_splits_134 : decode cX1_splits 134 = .ok (.isub, 1) := by decide +kernel
theorem dX1_splits_135 : decode cX1_splits 135 = .ok (.iaload, 1) := by decide +kernel
theorem dX1_splits_136 : decode cX1_splits 136 = .ok (.iadd, 1) := by decide +kernel
theorem dX1_splits_137 : decode cX1_splits 137 = .ok (.iastore, 1) := by decide +kernel
theorem dX1_splits_138 : decode cX1_splits 138 = .ok (.iconst 2, 1) := by decide +kernel
theorem dX1_splits_139 : decode cX1_splits 139 = .ok (.istore 6, 2) := by decide +kernel
theorem dX1_splits_141 : decode cX1_splits 141 = .ok (.iload 6, 2) := by decide +kernel
theorem dX1_splits_143 : decode cX1_splits 143 = .ok (.iload 5, 2) := by decide +kernel
theorem dX1_splits_145 : decode cX1_splits 145 = .ok (.if_icmp .ge 80, 3) := by decide +kernel
theorem dX1_splits_148 : decode cX1_splits 148 = .ok (.iconst 2, 1) := by decide +kernel
theorem dX1_splits_149 : decode cX1_splits 149 = .ok (.aload_n 0, 1) := by decide +kernel
theorem dX1_splits_150 : decode cX1_splits 150 = .ok (.getfield 45, 3) := by decide +kernel
theorem dX1_splits_153 : decode cX1_splits 153 = .ok (.iload 4, 2) := by decide +kernel
theorem dX1_splits_155 : decode cX1_splits 155 = .ok (.iload 6, 2) := by decide +kernel
theorem dX1_splits_157 : decode cX1_splits 157 = .ok (.iadd, 1) := by decide +kernel
theorem dX1_splits_158 : decode cX1_splits 158 = .ok (.iaload, 1) := by decide +kernel
theorem dX1_splits_159 : decode cX1_splits 159 = .ok (.imul, 1) := by decide +kernel
theorem dX1_splits_160 : decode cX1_splits 160 = .ok (.aload_n 0, 1) := by decide +kernel
theorem dX1_splits_161 : decode cX1_splits 161 = .ok (.getfield 45, 3) := by decide +kernel
theorem dX1_splits_164 : decode cX1_splits 164 = .ok (.iload 4, 2) := by decide +kernel
theorem dX1_splits_166 : decode cX1_splits 166 = .ok (.bipush 21, 2) := by decide +kernel
theorem dX1_splits_168 : decode cX1_splits 168 = .ok (.isub, 1) := by decide +kernel
theorem dX1_splits_169 : decode cX1_splits 169 = .ok (.iload 5, 2) := by decide +kernel
theorem dX1_splits_171 : decode cX1_splits 171 = .ok (.iadd, 1) := by decide +kernel
theorem dX1_splits_172 : decode cX1_splits 172 = .ok (.iload 6, 2) := by decide +kernel
theorem dX1_splits_174 : decode cX1_splits 174 = .ok (.isub, 1) := by decide +kernel
theorem dX1_splits_175 : decode cX1_splits 175 = .ok (.iaload, 1) := by decide +kernel
theorem dX1_splits_176 : decode cX1_splits 176 = .ok (.iadd, 1) := by decide +kernel
theorem dX1_splits_177 : decode cX1_splits 177 = .ok (.istore 7, 2) := by decide +kernel
theorem dX1_splits_179 : decode cX1_splits 179 = .ok (.aload_n 0, 1) := by decide +kernel
theorem dX1_splits_180 : decode cX1_splits 180 = .ok (.getfield 45, 3) := by decide +kernel
theorem dX1_splits_183 : decode cX1_splits 183 = .ok (.iload 4, 2) := by decide +kernel
theorem dX1_splits_185 : decode cX1_splits 185 = .ok (.iload 5, 2) := by decide +kernel
theorem dX1_splits_187 : decode cX1_splits 187 = .ok (.iadd, 1) := by decide +kernel
theorem dX1_splits_188 : decode cX1_splits 188 = .ok (.iload 7, 2) := by decide +kernel
theorem dX1_splits_190 : decode cX1_splits 190 = .ok (.aload_n 0, 1) := by decide +kernel
theorem dX1_splits_191 : decode cX1_splits 191 = .ok (.getfield 45, 3) := by decide +kernel
theorem dX1_splits_194 : decode cX1_splits 194 = .ok (.iload 4, 2) := by decide +kernel
theorem dX1_splits_196 : decode cX1_splits 196 = .ok (.iload 5, 2) := by decide +kernel
theorem dX1_splits_198 : decode cX1_splits 198 = .ok (.iadd, 1) := by decide +kernel
theorem dX1_splits_199 : decode cX1_splits 199 = .ok (.iaload, 1) := by decide +kernel
theorem dX1_splits_200 : decode cX1_splits 200 = .ok (.if_icmp .ge 8, 3) := by decide +kernel
theorem dX1_splits_203 : decode cX1_splits 203 = .ok (.iload 7, 2) := by decide +kernel
theorem dX1_splits_205 : decode cX1_splits 205 = .ok (.goto 13, 3) := by decide +kernel
theorem dX1_splits_208 : decode cX1_splits 208 = .ok (.aload_n 0, 1) := by decide +kernel
theorem dX1_splits_209 : decode cX1_splits 209 = .ok (.getfield 45, 3) := by decide +kernel
theorem dX1_splits_212 : decode cX1_splits 212 = .ok (.iload 4, 2) := by decide +kernel
theorem dX1_splits_214 : decode cX1_splits 214 = .ok (.iload 5, 2) := by decide +kernel
theorem dX1_splits_216 : decode cX1_splits 216 = .ok (.iadd, 1) := by decide +kernel
theorem dX1_splits_217 : decode cX1_splits 217 = .ok (.iaload, 1) := by decide +kernel
theorem dX1_splits_218 : decode cX1_splits 218 = .ok (.iastore, 1) := by decide +kernel
theorem dX1_splits_219 : decode cX1_splits 219 = .ok (.iinc 6 1, 3) := by decide +kernel
theorem dX1_splits_222 : decode cX1_splits 222 = .ok (.goto (-81), 3) := by decide +kernel
theorem dX1_splits_225 : decode cX1_splits 225 = .ok (.iinc 5 1, 3) := by decide +kernel
theorem dX1_splits_228 : decode cX1_splits 228 = .ok (.goto (-134), 3) := by decide +kernel
theorem dX1_splits_231 : decode cX1_splits 231 = .ok (.iinc 3 1, 3) := by decide +kernel
theorem dX1_splits_234 : decode cX1_splits 234 = .ok (.goto (-174), 3) := by decide +kernel
theorem dX1_splits_237 : decode cX1_splits 237 = .ok (.aload_n 0, 1) := by decide +kernel
theorem dX1_splits_238 : decode cX1_splits 238 = .ok (.getfield 45, 3) := by decide +kernel
theorem dX1_splits_241 : decode cX1_splits 241 = .ok (.bipush 21, 2) := by decide +kernel
theorem dX1_splits_243 : decode cX1_splits 243 = .ok (.iload_n 2, 1) := by decide +kernel
theorem dX1_splits_244 : decode cX1_splits 244 = .ok (.iconst 3, 1) := by decide +kernel
theorem dX1_splits_245 : decode cX1_splits 245 = .ok (.isub, 1) := by decide +kernel
theorem dX1_splits_246 : decode cX1_splits 246 = .ok (.imul, 1) := by decide +kernel
theorem dX1_splits_247 : decode cX1_splits 247 = .ok (.iload_n 1, 1) := by decide +kernel
theorem dX1_splits_248 : decode cX1_splits 248 = .ok (.iadd, 1) := by decide +kernel
theorem dX1_splits_249 : decode cX1_splits 249 = .ok (.iaload, 1) := by decide +kernel
theorem dX1_splits_250 : decode cX1_splits 250 = .ok (.ireturn, 1) := by decide +kernel
end
section
theorem dL_begin_0 : decode cL_begin 0 = .ok (.aload_n 3, 1) := by decide +kernel
theorem dL_begin_1 : decode cL_begin 1 = .ok (.iconst 0, 1) := by decide +kernel
theorem dL_begin_2 : decode cL_begin 2 = .ok (.aload_n 0, 1) := by decide +kernel
theorem dL_begin_3 : decode cL_begin 3 = .ok (.iload_n 1, 1) := by decide +kernel
theorem dL_begin_4 : decode cL_begin 4 = .ok (.iload_n 2, 1) := by decide +kernel
theorem dL_begin_5 : decode cL_begin 5 = .ok (.invokevirtual 7, 3) := by decide +kernel
theorem dL_begin_8 : decode cL_begin 8 = .ok (.i2l, 1) := by decide +kernel
theorem dL_begin_9 : decode cL_begin 9 = .ok (.lastore, 1) := by decide +kernel
theorem dL_begin_10 : decode cL_begin 10 = .ok (.goto 7, 3) := by decide +kernel
theorem dL_begin_13 : decode cL_begin 13 = .ok (.astore 4, 2) := by decide +kernel
theorem dL_begin_15 : decode cL_begin 15 = .ok (.iconst 1, 1) := by decide +kernel
theorem dL_begin_16 : decode cL_begin 16 = .ok (.ireturn, 1) := by decide +kernel
theorem dL_begin_17 : decode cL_begin 17 = .ok (.iconst 0, 1) := by decide +kernel
theorem dL_begin_18 : decode cL_begin 18 = .ok (.ireturn, 1) := by decide +kernel
theorem dL_put_0 : decode cL_put 0 = .ok (.aload_n 3, 1) := by decide +kernel
theorem dL_put_1 : decode cL_put 1 = .ok (.iconst 0, 1) := by decide +kernel
theorem dL_put_2 : decode cL_put 2 = .ok (.aload_n 0, 1) := by decide +kernel
theorem dL_put_3 : decode cL_put 3 = .ok (.iload_n 1, 1) := by decide +kernel
theorem dL_put_4 : decode cL_put 4 = .ok (.iload_n 2, 1) := by decide +kernel
theorem dL_put_5 : decode cL_put 5 = .ok (.invokevirtual 15, 3) := by decide +kernel
theorem dL_put_8 : decode cL_put 8 = .ok (.i2l, 1) := by decide +kernel
theorem dL_put_9 : decode cL_put 9 = .ok (.lastore, 1) := by decide +kernel
theorem dL_put_10 : decode cL_put 10 = .ok (.goto 11, 3) := by decide +kernel
theorem dL_put_13 : decode cL_put 13 = .ok (.astore 4, 2) := by decide +kernel
theorem dL_put_15 : decode cL_put 15 = .ok (.iconst 1, 1) := by decide +kernel
theorem dL_put_16 : decode cL_put 16 = .ok (.ireturn, 1) := by decide +kernel
theorem dL_put_17 : decode cL_put 17 = .ok (.astore 4, 2) := by decide +kernel
theorem dL_put_19 : decode cL_put 19 = .ok (.iconst 2, 1) := by decide +kernel
theorem dL_put_20 : decode cL_put 20 = .ok (.ireturn, 1) := by decide +kernel
theorem dL_put_21 : decode cL_put 21 = .ok (.iconst 0, 1) := by decide +kernel
theorem dL_put_22 : decode cL_put 22 = .ok (.ireturn, 1) := by decide +kernel
theorem dL_aim_0 : decode cL_aim 0 = .ok (.aload_n 3, 1) := by decide +kernel
theorem dL_aim_1 : decode cL_aim 1 = .ok (.iconst 0, 1) := by decide +kernel
theorem dL_aim_2 : decode cL_aim 2 = .ok (.aload_n 0, 1) := by decide +kernel
theorem dL_aim_3 : decode cL_aim 3 = .ok (.iload_n 1, 1) := by decide +kernel
theorem dL_aim_4 : decode cL_aim 4 = .ok (.iload_n 2, 1) := by decide +kernel
theorem dL_aim_5 : decode cL_aim 5 = .ok (.invokevirtual 22, 3) := by decide +kernel
theorem dL_aim_8 : decode cL_aim 8 = .ok (.i2l, 1) := by decide +kernel
theorem dL_aim_9 : decode cL_aim 9 = .ok (.lastore, 1) := by decide +kernel
theorem dL_aim_10 : decode cL_aim 10 = .ok (.goto 7, 3) := by decide +kernel
theorem dL_aim_13 : decode cL_aim 13 = .ok (.astore 4, 2) := by decide +kernel
theorem dL_aim_15 : decode cL_aim 15 = .ok (.iconst 1, 1) := by decide +kernel
theorem dL_aim_16 : decode cL_aim 16 = .ok (.ireturn, 1) := by decide +kernel
theorem dL_aim_17 : decode cL_aim 17 = .ok (.iconst 0, 1) := by decide +kernel
theorem dL_aim_18 : decode cL_aim 18 = .ok (.ireturn, 1) := by decide +kernel
theorem dL_allow_0 : decode cL_allow 0 = .ok (.aload 4, 2) := by decide +kernel
theorem dL_allow_2 : decode cL_allow 2 = .ok (.iconst 0, 1) := by decide +kernel
theorem dL_allow_3 : decode cL_allow 3 = .ok (.aload_n 0, 1) := by decide +kernel
theorem dL_allow_4 : decode cL_allow 4 = .ok (.iload_n 1, 1) := by decide +kernel
theorem dL_allow_5 : decode cL_allow 5 = .ok (.iload_n 2, 1) := by decide +kernel
theorem dL_allow_6 : decode cL_allow 6 = .ok (.iload_n 3, 1) := by decide +kernel
theorem dL_allow_7 : decode cL_allow 7 = .ok (.invokevirtual 25, 3) := by decide +kernel
theorem dL_allow_10 : decode cL_allow 10 = .ok (.ifCond .eq 7, 3) := by decide +kernel
theorem dL_allow_13 : decode cL_allow 13 = .ok (.lconst 1, 1) := by decide +kernel
theorem dL_allow_14 : decode cL_allow 14 = .ok (.goto 4, 3) := by decide +kernel
theorem dL_allow_17 : decode cL_allow 17 = .ok (.lconst 0, 1) := by decide +kernel
theorem dL_allow_18 : decode cL_allow 18 = .ok (.lastore, 1) := by decide +kernel
theorem dL_allow_19 : decode cL_allow 19 = .ok (.goto 11, 3) := by decide +kernel
theorem dL_allow_22 : decode cL_allow 22 = .ok (.astore 5, 2) := by decide +kernel
theorem dL_allow_24 : decode cL_allow 24 = .ok (.iconst 1, 1) := by decide +kernel
theorem dL_allow_25 : decode cL_allow 25 = .ok (.ireturn, 1) := by decide +kernel
theorem dL_allow_26 : decode cL_allow 26 = .ok (.astore 5, 2) := by decide +kernel
theorem dL_allow_28 : decode cL_allow 28 = .ok (.iconst 2, 1) := by decide +kernel
theorem dL_allow_29 : decode cL_allow 29 = .ok (.ireturn, 1) := by decide +kernel
theorem dL_allow_30 : decode cL_allow 30 = .ok (.iconst 0, 1) := by decide +kernel
theorem dL_allow_31 : decode cL_allow 31 = .ok (.ireturn, 1) := by decide +kernel
theorem dL_setColour_0 : decode cL_setColour 0 = .ok (.aload_n 3, 1) := by decide +kernel
theorem dL_setColour_1 : decode cL_setColour 1 = .ok (.iconst 0, 1) := by decide +kernel
theorem dL_setColour_2 : decode cL_setColour 2 = .ok (.aload_n 0, 1) := by decide +kernel
theorem dL_setColour_3 : decode cL_setColour 3 = .ok (.iload_n 1, 1) := by decide +kernel
theorem dL_setColour_4 : decode cL_setColour 4 = .ok (.iload_n 2, 1) := by decide +kernel
theorem dL_setColour_5 : decode cL_setColour 5 = .ok (.invokevirtual 29, 3) := by decide +kernel
theorem dL_setColour_8 : decode cL_setColour 8 = .ok (.i2l, 1) := by decide +kernel
theorem dL_setColour_9 : decode cL_setColour 9 = .ok (.lastore, 1) := by decide +kernel
theorem dL_setColour_10 : decode cL_setColour 10 = .ok (.goto 11, 3) := by decide +kernel
theorem dL_setColour_13 : decode cL_setColour 13 = .ok (.astore 4, 2) := by decide +kernel
theorem dL_setColour_15 : decode cL_setColour 15 = .ok (.iconst 1, 1) := by decide +kernel
theorem dL_setColour_16 : decode cL_setColour 16 = .ok (.ireturn, 1) := by decide +kernel
theorem dL_setColour_17 : decode cL_setColour 17 = .ok (.astore 4, 2) := by decide +kernel
theorem dL_setColour_19 : decode cL_setColour 19 = .ok (.iconst 2, 1) := by decide +kernel
theorem dL_setColour_20 : decode cL_setColour 20 = .ok (.ireturn, 1) := by decide +kernel
theorem dL_setColour_21 : decode cL_setColour 21 = .ok (.iconst 0, 1) := by decide +kernel
theorem dL_setColour_22 : decode cL_setColour 22 = .ok (.ireturn, 1) := by decide +kernel
theorem dL_move_0 : decode cL_move 0 = .ok (.aload_n 3, 1) := by decide +kernel
theorem dL_move_1 : decode cL_move 1 = .ok (.iconst 0, 1) := by decide +kernel
theorem dL_move_2 : decode cL_move 2 = .ok (.aload_n 0, 1) := by decide +kernel
theorem dL_move_3 : decode cL_move 3 = .ok (.iload_n 1, 1) := by decide +kernel
theorem dL_move_4 : decode cL_move 4 = .ok (.iload_n 2, 1) := by decide +kernel
theorem dL_move_5 : decode cL_move 5 = .ok (.invokevirtual 32, 3) := by decide +kernel
theorem dL_move_8 : decode cL_move 8 = .ok (.i2l, 1) := by decide +kernel
theorem dL_move_9 : decode cL_move 9 = .ok (.lastore, 1) := by decide +kernel
theorem dL_move_10 : decode cL_move 10 = .ok (.goto 11, 3) := by decide +kernel
theorem dL_move_13 : decode cL_move 13 = .ok (.astore 4, 2) := by decide +kernel
theorem dL_move_15 : decode cL_move 15 = .ok (.iconst 1, 1) := by decide +kernel
theorem dL_move_16 : decode cL_move 16 = .ok (.ireturn, 1) := by decide +kernel
theorem dL_move_17 : decode cL_move 17 = .ok (.astore 4, 2) := by decide +kernel
theorem dL_move_19 : decode cL_move 19 = .ok (.iconst 2, 1) := by decide +kernel
theorem dL_move_20 : decode cL_move 20 = .ok (.ireturn, 1) := by decide +kernel
theorem dL_move_21 : decode cL_move 21 = .ok (.iconst 0, 1) := by decide +kernel
theorem dL_move_22 : decode cL_move 22 = .ok (.ireturn, 1) := by decide +kernel
theorem dL_takeBack_0 : decode cL_takeBack 0 = .ok (.aload_n 1, 1) := by decide +kernel
theorem dL_takeBack_1 : decode cL_takeBack 1 = .ok (.iconst 0, 1) := by decide +kernel
theorem dL_takeBack_2 : decode cL_takeBack 2 = .ok (.aload_n 0, 1) := by decide +kernel
theorem dL_takeBack_3 : decode cL_takeBack 3 = .ok (.invokevirtual 35, 3) := by decide +kernel
theorem dL_takeBack_6 : decode cL_takeBack 6 = .ok (.i2l, 1) := by decide +kernel
theorem dL_takeBack_7 : decode cL_takeBack 7 = .ok (.lastore, 1) := by decide +kernel
theorem dL_takeBack_8 : decode cL_takeBack 8 = .ok (.goto 6, 3) := by decide +kernel
theorem dL_takeBack_11 : decode cL_takeBack 11 = .ok (.astore_n 2, 1) := by decide +kernel
theorem dL_takeBack_12 : decode cL_takeBack 12 = .ok (.iconst 1, 1) := by decide +kernel
theorem dL_takeBack_13 : decode cL_takeBack 13 = .ok (.ireturn, 1) := by decide +kernel
theorem dL_takeBack_14 : decode cL_takeBack 14 = .ok (.iconst 0, 1) := by decide +kernel
theorem dL_takeBack_15 : decode cL_takeBack 15 = .ok (.ireturn, 1) := by decide +kernel
theorem dL_pegOf_0 : decode cL_pegOf 0 = .ok (.aload_n 2, 1) := by decide +kernel
theorem dL_pegOf_1 : decode cL_pegOf 1 = .ok (.iconst 0, 1) := by decide +kernel
theorem dL_pegOf_2 : decode cL_pegOf 2 = .ok (.aload_n 0, 1) := by decide +kernel
theorem dL_pegOf_3 : decode cL_pegOf 3 = .ok (.iload_n 1, 1) := by decide +kernel
theorem dL_pegOf_4 : decode cL_pegOf 4 = .ok (.invokevirtual 39, 3) := by decide +kernel
theorem dL_pegOf_7 : decode cL_pegOf 7 = .ok (.i2l, 1) := by decide +kernel
theorem dL_pegOf_8 : decode cL_pegOf 8 = .ok (.lastore, 1) := by decide +kernel
theorem dL_pegOf_9 : decode cL_pegOf 9 = .ok (.goto 6, 3) := by decide +kernel
theorem dL_pegOf_12 : decode cL_pegOf 12 = .ok (.astore_n 3, 1) := by decide +kernel
theorem dL_pegOf_13 : decode cL_pegOf 13 = .ok (.iconst 1, 1) := by decide +kernel
theorem dL_pegOf_14 : decode cL_pegOf 14 = .ok (.ireturn, 1) := by decide +kernel
theorem dL_pegOf_15 : decode cL_pegOf 15 = .ok (.iconst 0, 1) := by decide +kernel
theorem dL_pegOf_16 : decode cL_pegOf 16 = .ok (.ireturn, 1) := by decide +kernel
theorem dL_top_0 : decode cL_top 0 = .ok (.aload_n 2, 1) := by decide +kernel
theorem dL_top_1 : decode cL_top 1 = .ok (.iconst 0, 1) := by decide +kernel
theorem dL_top_2 : decode cL_top 2 = .ok (.aload_n 0, 1) := by decide +kernel
theorem dL_top_3 : decode cL_top 3 = .ok (.iload_n 1, 1) := by decide +kernel
theorem dL_top_4 : decode cL_top 4 = .ok (.invokevirtual 43, 3) := by decide +kernel
theorem dL_top_7 : decode cL_top 7 = .ok (.i2l, 1) := by decide +kernel
theorem dL_top_8 : decode cL_top 8 = .ok (.lastore, 1) := by decide +kernel
theorem dL_top_9 : decode cL_top 9 = .ok (.goto 6, 3) := by decide +kernel
theorem dL_top_12 : decode cL_top 12 = .ok (.astore_n 3, 1) := by decide +kernel
theorem dL_top_13 : decode cL_top 13 = .ok (.iconst 1, 1) := by decide +kernel
theorem dL_top_14 : decode cL_top 14 = .ok (.ireturn, 1) := by decide +kernel
theorem dL_top_15 : decode cL_top 15 = .ok (.iconst 0, 1) := by decide +kernel
theorem dL_top_16 : decode cL_top 16 = .ok (.ireturn, 1) := by decide +kernel
theorem dL_canMove_0 : decode cL_canMove 0 = .ok (.aload_n 3, 1) := by decide +kernel
theorem dL_canMove_1 : decode cL_canMove 1 = .ok (.iconst 0, 1) := by decide +kernel
theorem dL_canMove_2 : decode cL_canMove 2 = .ok (.aload_n 0, 1) := by decide +kernel
theorem dL_canMove_3 : decode cL_canMove 3 = .ok (.iload_n 1, 1) := by decide +kernel
theorem dL_canMove_4 : decode cL_canMove 4 = .ok (.iload_n 2, 1) := by decide +kernel
theorem dL_canMove_5 : decode cL_canMove 5 = .ok (.invokevirtual 46, 3) := by decide +kernel
theorem dL_canMove_8 : decode cL_canMove 8 = .ok (.ifCond .eq 7, 3) := by decide +kernel
theorem dL_canMove_11 : decode cL_canMove 11 = .ok (.lconst 1, 1) := by decide +kernel
theorem dL_canMove_12 : decode cL_canMove 12 = .ok (.goto 4, 3) := by decide +kernel
theorem dL_canMove_15 : decode cL_canMove 15 = .ok (.lconst 0, 1) := by decide +kernel
theorem dL_canMove_16 : decode cL_canMove 16 = .ok (.lastore, 1) := by decide +kernel
theorem dL_canMove_17 : decode cL_canMove 17 = .ok (.goto 7, 3) := by decide +kernel
theorem dL_canMove_20 : decode cL_canMove 20 = .ok (.astore 4, 2) := by decide +kernel
theorem dL_canMove_22 : decode cL_canMove 22 = .ok (.iconst 1, 1) := by decide +kernel
theorem dL_canMove_23 : decode cL_canMove 23 = .ok (.ireturn, 1) := by decide +kernel
theorem dL_canMove_24 : decode cL_canMove 24 = .ok (.iconst 0, 1) := by decide +kernel
theorem dL_canMove_25 : decode cL_canMove 25 = .ok (.ireturn, 1) := by decide +kernel
theorem dL_wayByDisks_0 : decode cL_wayByDisks 0 = .ok (.aload_n 1, 1) := by decide +kernel
theorem dL_wayByDisks_1 : decode cL_wayByDisks 1 = .ok (.iconst 0, 1) := by decide +kernel
theorem dL_wayByDisks_2 : decode cL_wayByDisks 2 = .ok (.aload_n 0, 1) := by decide +kernel
theorem dL_wayByDisks_3 : decode cL_wayByDisks 3 = .ok (.invokevirtual 50, 3) := by decide +kernel
theorem dL_wayByDisks_6 : decode cL_wayByDisks 6 = .ok (.i2l, 1) := by decide +kernel
theorem dL_wayByDisks_7 : decode cL_wayByDisks 7 = .ok (.lastore, 1) := by decide +kernel
theorem dL_wayByDisks_8 : decode cL_wayByDisks 8 = .ok (.goto 6, 3) := by decide +kernel
theorem dL_wayByDisks_11 : decode cL_wayByDisks 11 = .ok (.astore_n 2, 1) := by decide +kernel
theorem dL_wayByDisks_12 : decode cL_wayByDisks 12 = .ok (.iconst 1, 1) := by decide +kernel
theorem dL_wayByDisks_13 : decode cL_wayByDisks 13 = .ok (.ireturn, 1) := by decide +kernel
theorem dL_wayByDisks_14 : decode cL_wayByDisks 14 = .ok (.iconst 0, 1) := by decide +kernel
theorem dL_wayByDisks_15 : decode cL_wayByDisks 15 = .ok (.ireturn, 1) := by decide +kernel
theorem dL_lost_0 : decode cL_lost 0 = .ok (.aload_n 1, 1) := by decide +kernel
theorem dL_lost_1 : decode cL_lost 1 = .ok (.iconst 0, 1) := by decide +kernel
theorem dL_lost_2 : decode cL_lost 2 = .ok (.aload_n 0, 1) := by decide +kernel
theorem dL_lost_3 : decode cL_lost 3 = .ok (.invokevirtual 53, 3) := by decide +kernel
theorem dL_lost_6 : decode cL_lost 6 = .ok (.i2l, 1) := by decide +kernel
theorem dL_lost_7 : decode cL_lost 7 = .ok (.lastore, 1) := by decide +kernel
theorem dL_lost_8 : decode cL_lost 8 = .ok (.goto 6, 3) := by decide +kernel
theorem dL_lost_11 : decode cL_lost 11 = .ok (.astore_n 2, 1) := by decide +kernel
theorem dL_lost_12 : decode cL_lost 12 = .ok (.iconst 1, 1) := by decide +kernel
theorem dL_lost_13 : decode cL_lost 13 = .ok (.ireturn, 1) := by decide +kernel
theorem dL_lost_14 : decode cL_lost 14 = .ok (.iconst 0, 1) := by decide +kernel
theorem dL_lost_15 : decode cL_lost 15 = .ok (.ireturn, 1) := by decide +kernel
theorem dL_splits_0 : decode cL_splits 0 = .ok (.aload_n 3, 1) := by decide +kernel
theorem dL_splits_1 : decode cL_splits 1 = .ok (.iconst 0, 1) := by decide +kernel
theorem dL_splits_2 : decode cL_splits 2 = .ok (.aload_n 0, 1) := by decide +kernel
theorem dL_splits_3 : decode cL_splits 3 = .ok (.iload_n 1, 1) := by decide +kernel
theorem dL_splits_4 : decode cL_splits 4 = .ok (.iload_n 2, 1) := by decide +kernel
theorem dL_splits_5 : decode cL_splits 5 = .ok (.invokevirtual 56, 3) := by decide +kernel
theorem dL_splits_8 : decode cL_splits 8 = .ok (.i2l, 1) := by decide +kernel
theorem dL_splits_9 : decode cL_splits 9 = .ok (.lastore, 1) := by decide +kernel
theorem dL_splits_10 : decode cL_splits 10 = .ok (.goto 7, 3) := by decide +kernel
theorem dL_splits_13 : decode cL_splits 13 = .ok (.astore 4, 2) := by decide +kernel
theorem dL_splits_15 : decode cL_splits 15 = .ok (.iconst 1, 1) := by decide +kernel
theorem dL_splits_16 : decode cL_splits 16 = .ok (.ireturn, 1) := by decide +kernel
theorem dL_splits_17 : decode cL_splits 17 = .ok (.iconst 0, 1) := by decide +kernel
theorem dL_splits_18 : decode cL_splits 18 = .ok (.ireturn, 1) := by decide +kernel
theorem dL_law_0 : decode cL_law 0 = .ok (.new 8, 3) := by decide +kernel
theorem dL_law_3 : decode cL_law 3 = .ok (.dup, 1) := by decide +kernel
theorem dL_law_4 : decode cL_law 4 = .ok (.invokespecial 59, 3) := by decide +kernel
theorem dL_law_7 : decode cL_law 7 = .ok (.astore_n 1, 1) := by decide +kernel
theorem dL_law_8 : decode cL_law 8 = .ok (.new 60, 3) := by decide +kernel
theorem dL_law_11 : decode cL_law 11 = .ok (.dup, 1) := by decide +kernel
theorem dL_law_12 : decode cL_law 12 = .ok (.invokespecial 62, 3) := by decide +kernel
theorem dL_law_15 : decode cL_law 15 = .ok (.astore_n 2, 1) := by decide +kernel
theorem dL_law_16 : decode cL_law 16 = .ok (.iconst 1, 1) := by decide +kernel
theorem dL_law_17 : decode cL_law 17 = .ok (.newarray .long, 2) := by decide +kernel
theorem dL_law_19 : decode cL_law 19 = .ok (.astore_n 3, 1) := by decide +kernel
theorem dL_law_20 : decode cL_law 20 = .ok (.iconst 0, 1) := by decide +kernel
theorem dL_law_21 : decode cL_law 21 = .ok (.istore 4, 2) := by decide +kernel
theorem dL_law_23 : decode cL_law 23 = .ok (.iload 4, 2) := by decide +kernel
theorem dL_law_25 : decode cL_law 25 = .ok (.aload_n 0, 1) := by decide +kernel
theorem dL_law_26 : decode cL_law 26 = .ok (.arraylength, 1) := by decide +kernel
theorem dL_law_27 : decode cL_law 27 = .ok (.iconst 4, 1) := by decide +kernel
theorem dL_law_28 : decode cL_law 28 = .ok (.isub, 1) := by decide +kernel
theorem dL_law_29 : decode cL_law 29 = .ok (.if_icmp .gt 1126, 3) := by decide +kernel
theorem dL_law_32 : decode cL_law 32 = .ok (.aload_n 0, 1) := by decide +kernel
theorem dL_law_33 : decode cL_law 33 = .ok (.iload 4, 2) := by decide +kernel
theorem dL_law_35 : decode cL_law 35 = .ok (.iaload, 1) := by decide +kernel
theorem dL_law_36 : decode cL_law 36 = .ok (.bipush 31, 2) := by decide +kernel
theorem dL_law_38 : decode cL_law 38 = .ok (.iand, 1) := by decide +kernel
theorem dL_law_39 : decode cL_law 39 = .ok (.tableswitch 1110 0 23 #[109, 177, 245, 313, 416, 484, 525, 593, 637, 650, 663, 676, 689, 745, 801, 814, 827, 840, 915, 928, 972, 1016, 1029, 1042], 109) := by decide +kernel
theorem dL_law_148 : decode cL_law 148 = .ok (.aload_n 1, 1) := by decide +kernel
theorem dL_law_149 : decode cL_law 149 = .ok (.aload_n 0, 1) := by decide +kernel
theorem dL_law_150 : decode cL_law 150 = .ok (.iload 4, 2) := by decide +kernel
theorem dL_law_152 : decode cL_law 152 = .ok (.iconst 1, 1) := by decide +kernel
theorem dL_law_153 : decode cL_law 153 = .ok (.iadd, 1) := by decide +kernel
theorem dL_law_154 : decode cL_law 154 = .ok (.iaload, 1) := by decide +kernel
theorem dL_law_155 : decode cL_law 155 = .ok (.aload_n 0, 1) := by decide +kernel
theorem dL_law_156 : decode cL_law 156 = .ok (.iload 4, 2) := by decide +kernel
theorem dL_law_158 : decode cL_law 158 = .ok (.iconst 2, 1) := by decide +kernel
theorem dL_law_159 : decode cL_law 159 = .ok (.iadd, 1) := by decide +kernel
theorem dL_law_160 : decode cL_law 160 = .ok (.iaload, 1) := by decide +kernel
theorem dL_law_161 : decode cL_law 161 = .ok (.aload_n 3, 1) := by decide +kernel
theorem dL_law_162 : decode cL_law 162 = .ok (.invokestatic 63, 3) := by decide +kernel
theorem dL_law_165 : decode cL_law 165 = .ok (.istore 5, 2) := by decide +kernel
theorem dL_law_167 : decode cL_law 167 = .ok (.aload_n 2, 1) := by decide +kernel
theorem dL_law_168 : decode cL_law 168 = .ok (.aload_n 0, 1) := by decide +kernel
theorem dL_law_169 : decode cL_law 169 = .ok (.iload 4, 2) := by decide +kernel
theorem dL_law_171 : decode cL_law 171 = .ok (.iconst 1, 1) := by decide +kernel
theorem dL_law_172 : decode cL_law 172 = .ok (.iadd, 1) := by decide +kernel
theorem dL_law_173 : decode cL_law 173 = .ok (.iaload, 1) := by decide +kernel
theorem dL_law_174 : decode cL_law 174 = .ok (.aload_n 0, 1) := by decide +kernel
theorem dL_law_175 : decode cL_law 175 = .ok (.iload 4, 2) := by decide +kernel
theorem dL_law_177 : decode cL_law 177 = .ok (.iconst 2, 1) := by decide +kernel
theorem dL_law_178 : decode cL_law 178 = .ok (.iadd, 1) := by decide +kernel
theorem dL_law_179 : decode cL_law 179 = .ok (.iaload, 1) := by decide +kernel
theorem dL_law_180 : decode cL_law 180 = .ok (.invokevirtual 68, 3) := by decide +kernel
theorem dL_law_183 : decode cL_law 183 = .ok (.istore 6, 2) := by decide +kernel
theorem dL_law_185 : decode cL_law 185 = .ok (.aload_n 2, 1) := by decide +kernel
theorem dL_law_186 : decode cL_law 186 = .ok (.invokevirtual 69, 3) := by decide +kernel
theorem dL_law_189 : decode cL_law 189 = .ok (.iload 5, 2) := by decide +kernel
theorem dL_law_191 : decode cL_law 191 = .ok (.if_icmp .eq 5, 3) := by decide +kernel
theorem dL_law_194 : decode cL_law 194 = .ok (.iconst 0, 1) := by decide +kernel
theorem dL_law_195 : decode cL_law 195 = .ok (.ireturn, 1) := by decide +kernel
theorem dL_law_196 : decode cL_law 196 = .ok (.iload 5, 2) := by decide +kernel
theorem dL_law_198 : decode cL_law 198 = .ok (.ifCond .ne 15, 3) := by decide +kernel
theorem dL_law_201 : decode cL_law 201 = .ok (.aload_n 3, 1) := by decide +kernel
theorem dL_law_202 : decode cL_law 202 = .ok (.iconst 0, 1) := by decide +kernel
theorem dL_law_203 : decode cL_law 203 = .ok (.laload, 1) := by decide +kernel
theorem dL_law_204 : decode cL_law 204 = .ok (.iload 6, 2) := by decide +kernel
theorem dL_law_206 : decode cL_law 206 = .ok (.i2l, 1) := by decide +kernel
theorem dL_law_207 : decode cL_law 207 = .ok (.lcmp, 1) := by decide +kernel
theorem dL_law_208 : decode cL_law 208 = .ok (.ifCond .eq 5, 3) := by decide +kernel
theorem dL_law_211 : decode cL_law 211 = .ok (.iconst 0, 1) := by decide +kernel
theorem dL_law_212 : decode cL_law 212 = .ok (.ireturn, 1) := by decide +kernel
theorem dL_law_213 : decode cL_law 213 = .ok (.goto 936, 3) := by decide +kernel
theorem dL_law_216 : decode cL_law 216 = .ok (.aload_n 1, 1) := by decide +kernel
theorem dL_law_217 : decode cL_law 217 = .ok (.aload_n 0, 1) := by decide +kernel
theorem dL_law_218 : decode cL_law 218 = .ok (.iload 4, 2) := by decide +kernel
theorem dL_law_220 : decode cL_law 220 = .ok (.iconst 1, 1) := by decide +kernel
theorem dL_law_221 : decode cL_law 221 = .ok (.iadd, 1) := by decide +kernel
theorem dL_law_222 : decode cL_law 222 = .ok (.iaload, 1) := by decide +kernel
theorem dL_law_223 : decode cL_law 223 = .ok (.aload_n 0, 1) := by decide +kernel
theorem dL_law_224 : decode cL_law 224 = .ok (.iload 4, 2) := by decide +kernel
theorem dL_law_226 : decode cL_law 226 = .ok (.iconst 2, 1) := by decide +kernel
theorem dL_law_227 : decode cL_law 227 = .ok (.iadd, 1) := by decide +kernel
theorem dL_law_228 : decode cL_law 228 = .ok (.iaload, 1) := by decide +kernel
theorem dL_law_229 : decode cL_law 229 = .ok (.aload_n 3, 1) := by decide +kernel
theorem dL_law_230 : decode cL_law 230 = .ok (.invokestatic 72, 3) := by decide +kernel
theorem dL_law_233 : decode cL_law 233 = .ok (.istore 5, 2) := by decide +kernel
theorem dL_law_235 : decode cL_law 235 = .ok (.aload_n 2, 1) := by decide +kernel
theorem dL_law_236 : decode cL_law 236 = .ok (.aload_n 0, 1) := by decide +kernel
theorem dL_law_237 : decode cL_law 237 = .ok (.iload 4, 2) := by decide +kernel
theorem dL_law_239 : decode cL_law 239 = .ok (.iconst 1, 1) := by decide +kernel
theorem dL_law_240 : decode cL_law 240 = .ok (.iadd, 1) := by decide +kernel
theorem dL_law_241 : decode cL_law 241 = .ok (.iaload, 1) := by decide +kernel
theorem dL_law_242 : decode cL_law 242 = .ok (.aload_n 0, 1) := by decide +kernel
theorem dL_law_243 : decode cL_law 243 = .ok (.iload 4, 2) := by decide +kernel
theorem dL_law_245 : decode cL_law 245 = .ok (.iconst 2, 1) := by decide +kernel
theorem dL_law_246 : decode cL_law 246 = .ok (.iadd, 1) := by decide +kernel
theorem dL_law_247 : decode cL_law 247 = .ok (.iaload, 1) := by decide +kernel
theorem dL_law_248 : decode cL_law 248 = .ok (.invokevirtual 74, 3) := by decide +kernel
theorem dL_law_251 : decode cL_law 251 = .ok (.istore 6, 2) := by decide +kernel
theorem dL_law_253 : decode cL_law 253 = .ok (.aload_n 2, 1) := by decide +kernel
theorem dL_law_254 : decode cL_law 254 = .ok (.invokevirtual 69, 3) := by decide +kernel
theorem dL_law_257 : decode cL_law 257 = .ok (.iload 5, 2) := by decide +kernel
theorem dL_law_259 : decode cL_law 259 = .ok (.if_icmp .eq 5, 3) := by decide +kernel
theorem dL_law_262 : decode cL_law 262 = .ok (.iconst 0, 1) := by decide +kernel
theorem dL_law_263 : decode cL_law 263 = .ok (.ireturn, 1) := by decide +kernel
theorem dL_law_264 : decode cL_law 264 = .ok (.iload 5, 2) := by decide +kernel
theorem dL_law_266 : decode cL_law 266 = .ok (.ifCond .ne 15, 3) := by decide +kernel
theorem dL_law_269 : decode cL_law 269 = .ok (.aload_n 3, 1) := by decide +kernel
theorem dL_law_270 : decode cL_law 270 = .ok (.iconst 0, 1) := by decide +kernel
theorem dL_law_271 : decode cL_law 271 = .ok (.laload, 1) := by decide +kernel
theorem dL_law_272 : decode cL_law 272 = .ok (.iload 6, 2) := by decide +kernel
theorem dL_law_274 : decode cL_law 274 = .ok (.i2l, 1) := by decide +kernel
theorem dL_law_275 : decode cL_law 275 = .ok (.lcmp, 1) := by decide +kernel
theorem dL_law_276 : decode cL_law 276 = .ok (.ifCond .eq 5, 3) := by decide +kernel
theorem dL_law_279 : decode cL_law 279 = .ok (.iconst 0, 1) := by decide +kernel
theorem dL_law_280 : decode cL_law 280 = .ok (.ireturn, 1) := by decide +kernel
theorem dL_law_281 : decode cL_law 281 = .ok (.goto 868, 3) := by decide +kernel
theorem dL_law_284 : decode cL_law 284 = .ok (.aload_n 1, 1) := by decide +kernel
theorem dL_law_285 : decode cL_law 285 = .ok (.aload_n 0, 1) := by decide +kernel
theorem dL_law_286 : decode cL_law 286 = .ok (.iload 4, 2) := by decide +kernel
theorem dL_law_288 : decode cL_law 288 = .ok (.iconst 1, 1) := by decide +kernel
theorem dL_law_289 : decode cL_law 289 = .ok (.iadd, 1) := by decide +kernel
theorem dL_law_290 : decode cL_law 290 = .ok (.iaload, 1) := by decide +kernel
theorem dL_law_291 : decode cL_law 291 = .ok (.aload_n 0, 1) := by decide +kernel
theorem dL_law_292 : decode cL_law 292 = .ok (.iload 4, 2) := by decide +kernel
theorem dL_law_294 : decode cL_law 294 = .ok (.iconst 2, 1) := by decide +kernel
theorem dL_law_295 : decode cL_law 295 = .ok (.iadd, 1) := by decide +kernel
theorem dL_law_296 : decode cL_law 296 = .ok (.iaload, 1) := by decide +kernel
theorem dL_law_297 : decode cL_law 297 = .ok (.aload_n 3, 1) := by decide +kernel
theorem dL_law_298 : decode cL_law 298 = .ok (.invokestatic 75, 3) := by decide +kernel
theorem dL_law_301 : decode cL_law 301 = .ok (.istore 5, 2) := by decide +kernel
theorem dL_law_303 : decode cL_law 303 = .ok (.aload_n 2, 1) := by decide +kernel
theorem dL_law_304 : decode cL_law 304 = .ok (.aload_n 0, 1) := by decide +kernel
theorem dL_law_305 : decode cL_law 305 = .ok (.iload 4, 2) := by decide +kernel
theorem dL_law_307 : decode cL_law 307 = .ok (.iconst 1, 1) := by decide +kernel
theorem dL_law_308 : decode cL_law 308 = .ok (.iadd, 1) := by decide +kernel
theorem dL_law_309 : decode cL_law 309 = .ok (.iaload, 1) := by decide +kernel
theorem dL_law_310 : decode cL_law 310 = .ok (.aload_n 0, 1) := by decide +kernel
theorem dL_law_311 : decode cL_law 311 = .ok (.iload 4, 2) := by decide +kernel
theorem dL_law_313 : decode cL_law 313 = .ok (.iconst 2, 1) := by decide +kernel
theorem dL_law_314 : decode cL_law 314 = .ok (.iadd, 1) := by decide +kernel
theorem dL_law_315 : decode cL_law 315 = .ok (.iaload, 1) := by decide +kernel
theorem dL_law_316 : decode cL_law 316 = .ok (.invokevirtual 77, 3) := by decide +kernel
theorem dL_law_319 : decode cL_law 319 = .ok (.istore 6, 2) := by decide +kernel
theorem dL_law_321 : decode cL_law 321 = .ok (.aload_n 2, 1) := by decide +kernel
theorem dL_law_322 : decode cL_law 322 = .ok (.invokevirtual 69, 3) := by decide +kernel
theorem dL_law_325 : decode cL_law 325 = .ok (.iload 5, 2) := by decide +kernel
theorem dL_law_327 : decode cL_law 327 = .ok (.if_icmp .eq 5, 3) := by decide +kernel
theorem dL_law_330 : decode cL_law 330 = .ok (.iconst 0, 1) := by decide +kernel
theorem dL_law_331 : decode cL_law 331 = .ok (.ireturn, 1) := by decide +kernel
theorem dL_law_332 : decode cL_law 332 = .ok (.iload 5, 2) := by decide +kernel
theorem dL_law_334 : decode cL_law 334 = .ok (.ifCond .ne 15, 3) := by decide +kernel
theorem dL_law_337 : decode cL_law 337 = .ok (.aload_n 3, 1) := by decide +kernel
theorem dL_law_338 : decode cL_law 338 = .ok (.iconst 0, 1) := by decide +kernel
theorem dL_law_339 : decode cL_law 339 = .ok (.laload, 1) := by decide +kernel
theorem dL_law_340 : decode cL_law 340 = .ok (.iload 6, 2) := by decide +kernel
theorem dL_law_342 : decode cL_law 342 = .ok (.i2l, 1) := by decide +kernel
theorem dL_law_343 : decode cL_law 343 = .ok (.lcmp, 1) := by decide +kernel
theorem dL_law_344 : decode cL_law 344 = .ok (.ifCond .eq 5, 3) := by decide +kernel
theorem dL_law_347 : decode cL_law 347 = .ok (.iconst 0, 1) := by decide +kernel
theorem dL_law_348 : decode cL_law 348 = .ok (.ireturn, 1) := by decide +kernel
theorem dL_law_349 : decode cL_law 349 = .ok (.goto 800, 3) := by decide +kernel
theorem dL_law_352 : decode cL_law 352 = .ok (.aload_n 1, 1) := by decide +kernel
theorem dL_law_353 : decode cL_law 353 = .ok (.aload_n 0, 1) := by decide +kernel
theorem dL_law_354 : decode cL_law 354 = .ok (.iload 4, 2) := by decide +kernel
theorem dL_law_356 : decode cL_law 356 = .ok (.iconst 1, 1) := by decide +kernel
theorem dL_law_357 : decode cL_law 357 = .ok (.iadd, 1) := by decide +kernel
theorem dL_law_358 : decode cL_law 358 = .ok (.iaload, 1) := by decide +kernel
theorem dL_law_359 : decode cL_law 359 = .ok (.aload_n 0, 1) := by decide +kernel
theorem dL_law_360 : decode cL_law 360 = .ok (.iload 4, 2) := by decide +kernel
theorem dL_law_362 : decode cL_law 362 = .ok (.iconst 2, 1) := by decide +kernel
theorem dL_law_363 : decode cL_law 363 = .ok (.iadd, 1) := by decide +kernel
theorem dL_law_364 : decode cL_law 364 = .ok (.iaload, 1) := by decide +kernel
theorem dL_law_365 : decode cL_law 365 = .ok (.aload_n 0, 1) := by decide +kernel
theorem dL_law_366 : decode cL_law 366 = .ok (.iload 4, 2) := by decide +kernel
theorem dL_law_368 : decode cL_law 368 = .ok (.iconst 3, 1) := by decide +kernel
theorem dL_law_369 : decode cL_law 369 = .ok (.iadd, 1) := by decide +kernel
theorem dL_law_370 : decode cL_law 370 = .ok (.iaload, 1) := by decide +kernel
theorem dL_law_371 : decode cL_law 371 = .ok (.ifCond .eq 7, 3) := by decide +kernel
theorem dL_law_374 : decode cL_law 374 = .ok (.iconst 1, 1) := by decide +kernel
theorem dL_law_375 : decode cL_law 375 = .ok (.goto 4, 3) := by decide +kernel
theorem dL_law_378 : decode cL_law 378 = .ok (.iconst 0, 1) := by decide +kernel
theorem dL_law_379 : decode cL_law 379 = .ok (.aload_n 3, 1) := by decide +kernel
theorem dL_law_380 : decode cL_law 380 = .ok (.invokestatic 78, 3) := by decide +kernel
theorem dL_law_383 : decode cL_law 383 = .ok (.istore 5, 2) := by decide +kernel
theorem dL_law_385 : decode cL_law 385 = .ok (.aload_n 2, 1) := by decide +kernel
theorem dL_law_386 : decode cL_law 386 = .ok (.aload_n 0, 1) := by decide +kernel
theorem dL_law_387 : decode cL_law 387 = .ok (.iload 4, 2) := by decide +kernel
theorem dL_law_389 : decode cL_law 389 = .ok (.iconst 1, 1) := by decide +kernel
theorem dL_law_390 : decode cL_law 390 = .ok (.iadd, 1) := by decide +kernel
theorem dL_law_391 : decode cL_law 391 = .ok (.iaload, 1) := by decide +kernel
theorem dL_law_392 : decode cL_law 392 = .ok (.aload_n 0, 1) := by decide +kernel
theorem dL_law_393 : decode cL_law 393 = .ok (.iload 4, 2) := by decide +kernel
theorem dL_law_395 : decode cL_law 395 = .ok (.iconst 2, 1) := by decide +kernel
theorem dL_law_396 : decode cL_law 396 = .ok (.iadd, 1) := by decide +kernel
theorem dL_law_397 : decode cL_law 397 = .ok (.iaload, 1) := by decide +kernel
theorem dL_law_398 : decode cL_law 398 = .ok (.aload_n 0, 1) := by decide +kernel
theorem dL_law_399 : decode cL_law 399 = .ok (.iload 4, 2) := by decide +kernel
theorem dL_law_401 : decode cL_law 401 = .ok (.iconst 3, 1) := by decide +kernel
theorem dL_law_402 : decode cL_law 402 = .ok (.iadd, 1) := by decide +kernel
theorem dL_law_403 : decode cL_law 403 = .ok (.iaload, 1) := by decide +kernel
theorem dL_law_404 : decode cL_law 404 = .ok (.ifCond .eq 7, 3) := by decide +kernel
theorem dL_law_407 : decode cL_law 407 = .ok (.iconst 1, 1) := by decide +kernel
theorem dL_law_408 : decode cL_law 408 = .ok (.goto 4, 3) := by decide +kernel
theorem dL_law_411 : decode cL_law 411 = .ok (.iconst 0, 1) := by decide +kernel
theorem dL_law_412 : decode cL_law 412 = .ok (.invokevirtual 81, 3) := by decide +kernel
theorem dL_law_415 : decode cL_law 415 = .ok (.istore 6, 2) := by decide +kernel
theorem dL_law_417 : decode cL_law 417 = .ok (.aload_n 2, 1) := by decide +kernel
theorem dL_law_418 : decode cL_law 418 = .ok (.invokevirtual 69, 3) := by decide +kernel
theorem dL_law_421 : decode cL_law 421 = .ok (.iload 5, 2) := by decide +kernel
theorem dL_law_423 : decode cL_law 423 = .ok (.if_icmp .eq 5, 3) := by decide +kernel
theorem dL_law_426 : decode cL_law 426 = .ok (.iconst 0, 1) := by decide +kernel
theorem dL_law_427 : decode cL_law 427 = .ok (.ireturn, 1) := by decide +kernel
theorem dL_law_428 : decode cL_law 428 = .ok (.iload 5, 2) := by decide +kernel
theorem dL_law_430 : decode cL_law 430 = .ok (.ifCond .ne 22, 3) := by decide +kernel
theorem dL_law_433 : decode cL_law 433 = .ok (.aload_n 3, 1) := by decide +kernel
theorem dL_law_434 : decode cL_law 434 = .ok (.iconst 0, 1) := by decide +kernel
theorem dL_law_435 : decode cL_law 435 = .ok (.laload, 1) := by decide +kernel
theorem dL_law_436 : decode cL_law 436 = .ok (.iload 6, 2) := by decide +kernel
theorem dL_law_438 : decode cL_law 438 = .ok (.ifCond .eq 7, 3) := by decide +kernel
theorem dL_law_441 : decode cL_law 441 = .ok (.lconst 1, 1) := by decide +kernel
theorem dL_law_442 : decode cL_law 442 = .ok (.goto 4, 3) := by decide +kernel
theorem dL_law_445 : decode cL_law 445 = .ok (.lconst 0, 1) := by decide +kernel
theorem dL_law_446 : decode cL_law 446 = .ok (.lcmp, 1) := by decide +kernel
theorem dL_law_447 : decode cL_law 447 = .ok (.ifCond .eq 5, 3) := by decide +kernel
theorem dL_law_450 : decode cL_law 450 = .ok (.iconst 0, 1) := by decide +kernel
theorem dL_law_451 : decode cL_law 451 = .ok (.ireturn, 1) := by decide +kernel
theorem dL_law_452 : decode cL_law 452 = .ok (.goto 697, 3) := by decide +kernel
theorem dL_law_455 : decode cL_law 455 = .ok (.aload_n 1, 1) := by decide +kernel
theorem dL_law_456 : decode cL_law 456 = .ok (.aload_n 0, 1) := by decide +kernel
theorem dL_law_457 : decode cL_law 457 = .ok (.iload 4, 2) := by decide +kernel
theorem dL_law_459 : decode cL_law 459 = .ok (.iconst 1, 1) := by decide +kernel
theorem dL_law_460 : decode cL_law 460 = .ok (.iadd, 1) := by decide +kernel
theorem dL_law_461 : decode cL_law 461 = .ok (.iaload, 1) := by decide +kernel
theorem dL_law_462 : decode cL_law 462 = .ok (.aload_n 0, 1) := by decide +kernel
theorem dL_law_463 : decode cL_law 463 = .ok (.iload 4, 2) := by decide +kernel
theorem dL_law_465 : decode cL_law 465 = .ok (.iconst 2, 1) := by decide +kernel
theorem dL_law_466 : decode cL_law 466 = .ok (.iadd, 1) := by decide +kernel
theorem dL_law_467 : decode cL_law 467 = .ok (.iaload, 1) := by decide +kernel
theorem dL_law_468 : decode cL_law 468 = .ok (.aload_n 3, 1) := by decide +kernel
theorem dL_law_469 : decode cL_law 469 = .ok (.invokestatic 82, 3) := by decide +kernel
theorem dL_law_472 : decode cL_law 472 = .ok (.istore 5, 2) := by decide +kernel
theorem dL_law_474 : decode cL_law 474 = .ok (.aload_n 2, 1) := by decide +kernel
theorem dL_law_475 : decode cL_law 475 = .ok (.aload_n 0, 1) := by decide +kernel
theorem dL_law_476 : decode cL_law 476 = .ok (.iload 4, 2) := by decide +kernel
theorem dL_law_478 : decode cL_law 478 = .ok (.iconst 1, 1) := by decide +kernel
theorem dL_law_479 : decode cL_law 479 = .ok (.iadd, 1) := by decide +kernel
theorem dL_law_480 : decode cL_law 480 = .ok (.iaload, 1) := by decide +kernel
theorem dL_law_481 : decode cL_law 481 = .ok (.aload_n 0, 1) := by decide +kernel
theorem dL_law_482 : decode cL_law 482 = .ok (.iload 4, 2) := by decide +kernel
theorem dL_law_484 : decode cL_law 484 = .ok (.iconst 2, 1) := by decide +kernel
theorem dL_law_485 : decode cL_law 485 = .ok (.iadd, 1) := by decide +kernel
theorem dL_law_486 : decode cL_law 486 = .ok (.iaload, 1) := by decide +kernel
theorem dL_law_487 : decode cL_law 487 = .ok (.invokevirtual 84, 3) := by decide +kernel
theorem dL_law_490 : decode cL_law 490 = .ok (.istore 6, 2) := by decide +kernel
theorem dL_law_492 : decode cL_law 492 = .ok (.aload_n 2, 1) := by decide +kernel
theorem dL_law_493 : decode cL_law 493 = .ok (.invokevirtual 69, 3) := by decide +kernel
theorem dL_law_496 : decode cL_law 496 = .ok (.iload 5, 2) := by decide +kernel
theorem dL_law_498 : decode cL_law 498 = .ok (.if_icmp .eq 5, 3) := by decide +kernel
theorem dL_law_501 : decode cL_law 501 = .ok (.iconst 0, 1) := by decide +kernel
theorem dL_law_502 : decode cL_law 502 = .ok (.ireturn, 1) := by decide +kernel
theorem dL_law_503 : decode cL_law 503 = .ok (.iload 5, 2) := by decide +kernel
theorem dL_law_505 : decode cL_law 505 = .ok (.ifCond .ne 15, 3) := by decide +kernel
theorem dL_law_508 : decode cL_law 508 = .ok (.aload_n 3, 1) := by decide +kernel
theorem dL_law_509 : decode cL_law 509 = .ok (.iconst 0, 1) := by decide +kernel
theorem dL_law_510 : decode cL_law 510 = .ok (.laload, 1) := by decide +kernel
theorem dL_law_511 : decode cL_law 511 = .ok (.iload 6, 2) := by decide +kernel
theorem dL_law_513 : decode cL_law 513 = .ok (.i2l, 1) := by decide +kernel
theorem dL_law_514 : decode cL_law 514 = .ok (.lcmp, 1) := by decide +kernel
theorem dL_law_515 : decode cL_law 515 = .ok (.ifCond .eq 5, 3) := by decide +kernel
theorem dL_law_518 : decode cL_law 518 = .ok (.iconst 0, 1) := by decide +kernel
theorem dL_law_519 : decode cL_law 519 = .ok (.ireturn, 1) := by decide +kernel
theorem dL_law_520 : decode cL_law 520 = .ok (.goto 629, 3) := by decide +kernel
theorem dL_law_523 : decode cL_law 523 = .ok (.aload_n 1, 1) := by decide +kernel
theorem dL_law_524 : decode cL_law 524 = .ok (.aload_n 0, 1) := by decide +kernel
theorem dL_law_525 : decode cL_law 525 = .ok (.iload 4, 2) := by decide +kernel
theorem dL_law_527 : decode cL_law 527 = .ok (.iconst 1, 1) := by decide +kernel
theorem dL_law_528 : decode cL_law 528 = .ok (.iadd, 1) := by decide +kernel
theorem dL_law_529 : decode cL_law 529 = .ok (.iaload, 1) := by decide +kernel
theorem dL_law_530 : decode cL_law 530 = .ok (.ifCond .eq 7, 3) := by decide +kernel
theorem dL_law_533 : decode cL_law 533 = .ok (.iconst 1, 1) := by decide +kernel
theorem dL_law_534 : decode cL_law 534 = .ok (.goto 4, 3) := by decide +kernel
theorem dL_law_537 : decode cL_law 537 = .ok (.iconst 0, 1) := by decide +kernel
theorem dL_law_538 : decode cL_law 538 = .ok (.invokevirtual 85, 3) := by decide +kernel
theorem dL_law_541 : decode cL_law 541 = .ok (.aload_n 2, 1) := by decide +kernel
theorem dL_law_542 : decode cL_law 542 = .ok (.aload_n 0, 1) := by decide +kernel
theorem dL_law_543 : decode cL_law 543 = .ok (.iload 4, 2) := by decide +kernel
theorem dL_law_545 : decode cL_law 545 = .ok (.iconst 1, 1) := by decide +kernel
theorem dL_law_546 : decode cL_law 546 = .ok (.iadd, 1) := by decide +kernel
theorem dL_law_547 : decode cL_law 547 = .ok (.iaload, 1) := by decide +kernel
theorem dL_law_548 : decode cL_law 548 = .ok (.ifCond .eq 7, 3) := by decide +kernel
theorem dL_law_551 : decode cL_law 551 = .ok (.iconst 1, 1) := by decide +kernel
theorem dL_law_552 : decode cL_law 552 = .ok (.goto 4, 3) := by decide +kernel
theorem dL_law_555 : decode cL_law 555 = .ok (.iconst 0, 1) := by decide +kernel
theorem dL_law_556 : decode cL_law 556 = .ok (.invokevirtual 89, 3) := by decide +kernel
theorem dL_law_559 : decode cL_law 559 = .ok (.if_icmp .eq 590, 3) := by decide +kernel
theorem dL_law_562 : decode cL_law 562 = .ok (.iconst 0, 1) := by decide +kernel
theorem dL_law_563 : decode cL_law 563 = .ok (.ireturn, 1) := by decide +kernel
theorem dL_law_564 : decode cL_law 564 = .ok (.aload_n 1, 1) := by decide +kernel
theorem dL_law_565 : decode cL_law 565 = .ok (.aload_n 0, 1) := by decide +kernel
theorem dL_law_566 : decode cL_law 566 = .ok (.iload 4, 2) := by decide +kernel
theorem dL_law_568 : decode cL_law 568 = .ok (.iconst 1, 1) := by decide +kernel
theorem dL_law_569 : decode cL_law 569 = .ok (.iadd, 1) := by decide +kernel
theorem dL_law_570 : decode cL_law 570 = .ok (.iaload, 1) := by decide +kernel
theorem dL_law_571 : decode cL_law 571 = .ok (.aload_n 0, 1) := by decide +kernel
theorem dL_law_572 : decode cL_law 572 = .ok (.iload 4, 2) := by decide +kernel
theorem dL_law_574 : decode cL_law 574 = .ok (.iconst 2, 1) := by decide +kernel
theorem dL_law_575 : decode cL_law 575 = .ok (.iadd, 1) := by decide +kernel
theorem dL_law_576 : decode cL_law 576 = .ok (.iaload, 1) := by decide +kernel
theorem dL_law_577 : decode cL_law 577 = .ok (.aload_n 3, 1) := by decide +kernel
theorem dL_law_578 : decode cL_law 578 = .ok (.invokestatic 90, 3) := by decide +kernel
theorem dL_law_581 : decode cL_law 581 = .ok (.istore 5, 2) := by decide +kernel
theorem dL_law_583 : decode cL_law 583 = .ok (.aload_n 2, 1) := by decide +kernel
theorem dL_law_584 : decode cL_law 584 = .ok (.aload_n 0, 1) := by decide +kernel
theorem dL_law_585 : decode cL_law 585 = .ok (.iload 4, 2) := by decide +kernel
theorem dL_law_587 : decode cL_law 587 = .ok (.iconst 1, 1) := by decide +kernel
theorem dL_law_588 : decode cL_law 588 = .ok (.iadd, 1) := by decide +kernel
theorem dL_law_589 : decode cL_law 589 = .ok (.iaload, 1) := by decide +kernel
theorem dL_law_590 : decode cL_law 590 = .ok (.aload_n 0, 1) := by decide +kernel
theorem dL_law_591 : decode cL_law 591 = .ok (.iload 4, 2) := by decide +kernel
theorem dL_law_593 : decode cL_law 593 = .ok (.iconst 2, 1) := by decide +kernel
theorem dL_law_594 : decode cL_law 594 = .ok (.iadd, 1) := by decide +kernel
theorem dL_law_595 : decode cL_law 595 = .ok (.iaload, 1) := by decide +kernel
theorem dL_law_596 : decode cL_law 596 = .ok (.invokevirtual 92, 3) := by decide +kernel
theorem dL_law_599 : decode cL_law 599 = .ok (.istore 6, 2) := by decide +kernel
theorem dL_law_601 : decode cL_law 601 = .ok (.aload_n 2, 1) := by decide +kernel
theorem dL_law_602 : decode cL_law 602 = .ok (.invokevirtual 69, 3) := by decide +kernel
theorem dL_law_605 : decode cL_law 605 = .ok (.iload 5, 2) := by decide +kernel
theorem dL_law_607 : decode cL_law 607 = .ok (.if_icmp .eq 5, 3) := by decide +kernel
theorem dL_law_610 : decode cL_law 610 = .ok (.iconst 0, 1) := by decide +kernel
theorem dL_law_611 : decode cL_law 611 = .ok (.ireturn, 1) := by decide +kernel
theorem dL_law_612 : decode cL_law 612 = .ok (.iload 5, 2) := by decide +kernel
theorem dL_law_614 : decode cL_law 614 = .ok (.ifCond .ne 15, 3) := by decide +kernel
theorem dL_law_617 : decode cL_law 617 = .ok (.aload_n 3, 1) := by decide +kernel
theorem dL_law_618 : decode cL_law 618 = .ok (.iconst 0, 1) := by decide +kernel
theorem dL_law_619 : decode cL_law 619 = .ok (.laload, 1) := by decide +kernel
theorem dL_law_620 : decode cL_law 620 = .ok (.iload 6, 2) := by decide +kernel
theorem dL_law_622 : decode cL_law 622 = .ok (.i2l, 1) := by decide +kernel
theorem dL_law_623 : decode cL_law 623 = .ok (.lcmp, 1) := by decide +kernel
theorem dL_law_624 : decode cL_law 624 = .ok (.ifCond .eq 5, 3) := by decide +kernel
theorem dL_law_627 : decode cL_law 627 = .ok (.iconst 0, 1) := by decide +kernel
theorem dL_law_628 : decode cL_law 628 = .ok (.ireturn, 1) := by decide +kernel
theorem dL_law_629 : decode cL_law 629 = .ok (.goto 520, 3) := by decide +kernel
theorem dL_law_632 : decode cL_law 632 = .ok (.aload_n 1, 1) := by decide +kernel
theorem dL_law_633 : decode cL_law 633 = .ok (.aload_n 3, 1) := by decide +kernel
theorem dL_law_634 : decode cL_law 634 = .ok (.invokestatic 93, 3) := by decide +kernel
theorem dL_law_637 : decode cL_law 637 = .ok (.istore 5, 2) := by decide +kernel
theorem dL_law_639 : decode cL_law 639 = .ok (.aload_n 2, 1) := by decide +kernel
theorem dL_law_640 : decode cL_law 640 = .ok (.invokevirtual 96, 3) := by decide +kernel
theorem dL_law_643 : decode cL_law 643 = .ok (.istore 6, 2) := by decide +kernel
theorem dL_law_645 : decode cL_law 645 = .ok (.aload_n 2, 1) := by decide +kernel
theorem dL_law_646 : decode cL_law 646 = .ok (.invokevirtual 69, 3) := by decide +kernel
theorem dL_law_649 : decode cL_law 649 = .ok (.iload 5, 2) := by decide +kernel
theorem dL_law_651 : decode cL_law 651 = .ok (.if_icmp .eq 5, 3) := by decide +kernel
theorem dL_law_654 : decode cL_law 654 = .ok (.iconst 0, 1) := by decide +kernel
theorem dL_law_655 : decode cL_law 655 = .ok (.ireturn, 1) := by decide +kernel
theorem dL_law_656 : decode cL_law 656 = .ok (.iload 5, 2) := by decide +kernel
theorem dL_law_658 : decode cL_law 658 = .ok (.ifCond .ne 15, 3) := by decide +kernel
theorem dL_law_661 : decode cL_law 661 = .ok (.aload_n 3, 1) := by decide +kernel
theorem dL_law_662 : decode cL_law 662 = .ok (.iconst 0, 1) := by decide +kernel
theorem dL_law_663 : decode cL_law 663 = .ok (.laload, 1) := by decide +kernel
theorem dL_law_664 : decode cL_law 664 = .ok (.iload 6, 2) := by decide +kernel
theorem dL_law_666 : decode cL_law 666 = .ok (.i2l, 1) := by decide +kernel
theorem dL_law_667 : decode cL_law 667 = .ok (.lcmp, 1) := by decide +kernel
theorem dL_law_668 : decode cL_law 668 = .ok (.ifCond .eq 5, 3) := by decide +kernel
theorem dL_law_671 : decode cL_law 671 = .ok (.iconst 0, 1) := by decide +kernel
theorem dL_law_672 : decode cL_law 672 = .ok (.ireturn, 1) := by decide +kernel
theorem dL_law_673 : decode cL_law 673 = .ok (.goto 476, 3) := by decide +kernel
theorem dL_law_676 : decode cL_law 676 = .ok (.aload_n 1, 1) := by decide +kernel
theorem dL_law_677 : decode cL_law 677 = .ok (.invokevirtual 97, 3) := by decide +kernel
theorem dL_law_680 : decode cL_law 680 = .ok (.aload_n 2, 1) := by decide +kernel
theorem dL_law_681 : decode cL_law 681 = .ok (.invokevirtual 100, 3) := by decide +kernel
theorem dL_law_684 : decode cL_law 684 = .ok (.if_icmp .eq 465, 3) := by decide +kernel
theorem dL_law_687 : decode cL_law 687 = .ok (.iconst 0, 1) := by decide +kernel
theorem dL_law_688 : decode cL_law 688 = .ok (.ireturn, 1) := by decide +kernel
theorem dL_law_689 : decode cL_law 689 = .ok (.aload_n 1, 1) := by decide +kernel
theorem dL_law_690 : decode cL_law 690 = .ok (.invokevirtual 101, 3) := by decide +kernel
theorem dL_law_693 : decode cL_law 693 = .ok (.aload_n 2, 1) := by decide +kernel
theorem dL_law_694 : decode cL_law 694 = .ok (.invokevirtual 104, 3) := by decide +kernel
theorem dL_law_697 : decode cL_law 697 = .ok (.if_icmp .eq 452, 3) := by decide +kernel
theorem dL_law_700 : decode cL_law 700 = .ok (.iconst 0, 1) := by decide +kernel
theorem dL_law_701 : decode cL_law 701 = .ok (.ireturn, 1) := by decide +kernel
theorem dL_law_702 : decode cL_law 702 = .ok (.aload_n 1, 1) := by decide +kernel
theorem dL_law_703 : decode cL_law 703 = .ok (.invokevirtual 105, 3) := by decide +kernel
theorem dL_law_706 : decode cL_law 706 = .ok (.aload_n 2, 1) := by decide +kernel
theorem dL_law_707 : decode cL_law 707 = .ok (.invokevirtual 108, 3) := by decide +kernel
theorem dL_law_710 : decode cL_law 710 = .ok (.if_icmp .eq 439, 3) := by decide +kernel
theorem dL_law_713 : decode cL_law 713 = .ok (.iconst 0, 1) := by decide +kernel
theorem dL_law_714 : decode cL_law 714 = .ok (.ireturn, 1) := by decide +kernel
theorem dL_law_715 : decode cL_law 715 = .ok (.aload_n 1, 1) := by decide +kernel
theorem dL_law_716 : decode cL_law 716 = .ok (.invokevirtual 109, 3) := by decide +kernel
theorem dL_law_719 : decode cL_law 719 = .ok (.aload_n 2, 1) := by decide +kernel
theorem dL_law_720 : decode cL_law 720 = .ok (.invokevirtual 112, 3) := by decide +kernel
theorem dL_law_723 : decode cL_law 723 = .ok (.if_icmp .eq 426, 3) := by decide +kernel
theorem dL_law_726 : decode cL_law 726 = .ok (.iconst 0, 1) := by decide +kernel
theorem dL_law_727 : decode cL_law 727 = .ok (.ireturn, 1) := by decide +kernel
theorem dL_law_728 : decode cL_law 728 = .ok (.aload_n 1, 1) := by decide +kernel
theorem dL_law_729 : decode cL_law 729 = .ok (.aload_n 0, 1) := by decide +kernel
theorem dL_law_730 : decode cL_law 730 = .ok (.iload 4, 2) := by decide +kernel
theorem dL_law_732 : decode cL_law 732 = .ok (.iconst 1, 1) := by decide +kernel
theorem dL_law_733 : decode cL_law 733 = .ok (.iadd, 1) := by decide +kernel
theorem dL_law_734 : decode cL_law 734 = .ok (.iaload, 1) := by decide +kernel
theorem dL_law_735 : decode cL_law 735 = .ok (.aload_n 3, 1) := by decide +kernel
theorem dL_law_736 : decode cL_law 736 = .ok (.invokestatic 113, 3) := by decide +kernel
theorem dL_law_739 : decode cL_law 739 = .ok (.istore 5, 2) := by decide +kernel
theorem dL_law_741 : decode cL_law 741 = .ok (.aload_n 2, 1) := by decide +kernel
theorem dL_law_742 : decode cL_law 742 = .ok (.aload_n 0, 1) := by decide +kernel
theorem dL_law_743 : decode cL_law 743 = .ok (.iload 4, 2) := by decide +kernel
theorem dL_law_745 : decode cL_law 745 = .ok (.iconst 1, 1) := by decide +kernel
theorem dL_law_746 : decode cL_law 746 = .ok (.iadd, 1) := by decide +kernel
theorem dL_law_747 : decode cL_law 747 = .ok (.iaload, 1) := by decide +kernel
theorem dL_law_748 : decode cL_law 748 = .ok (.invokevirtual 116, 3) := by decide +kernel
theorem dL_law_751 : decode cL_law 751 = .ok (.istore 6, 2) := by decide +kernel
theorem dL_law_753 : decode cL_law 753 = .ok (.aload_n 2, 1) := by decide +kernel
theorem dL_law_754 : decode cL_law 754 = .ok (.invokevirtual 69, 3) := by decide +kernel
theorem dL_law_757 : decode cL_law 757 = .ok (.iload 5, 2) := by decide +kernel
theorem dL_law_759 : decode cL_law 759 = .ok (.if_icmp .eq 5, 3) := by decide +kernel
theorem dL_law_762 : decode cL_law 762 = .ok (.iconst 0, 1) := by decide +kernel
theorem dL_law_763 : decode cL_law 763 = .ok (.ireturn, 1) := by decide +kernel
theorem dL_law_764 : decode cL_law 764 = .ok (.iload 5, 2) := by decide +kernel
theorem dL_law_766 : decode cL_law 766 = .ok (.ifCond .ne 15, 3) := by decide +kernel
theorem dL_law_769 : decode cL_law 769 = .ok (.aload_n 3, 1) := by decide +kernel
theorem dL_law_770 : decode cL_law 770 = .ok (.iconst 0, 1) := by decide +kernel
theorem dL_law_771 : decode cL_law 771 = .ok (.laload, 1) := by decide +kernel
theorem dL_law_772 : decode cL_law 772 = .ok (.iload 6, 2) := by decide +kernel
theorem dL_law_774 : decode cL_law 774 = .ok (.i2l, 1) := by decide +kernel
theorem dL_law_775 : decode cL_law 775 = .ok (.lcmp, 1) := by decide +kernel
theorem dL_law_776 : decode cL_law 776 = .ok (.ifCond .eq 5, 3) := by decide +kernel
theorem dL_law_779 : decode cL_law 779 = .ok (.iconst 0, 1) := by decide +kernel
theorem dL_law_780 : decode cL_law 780 = .ok (.ireturn, 1) := by decide +kernel
theorem dL_law_781 : decode cL_law 781 = .ok (.goto 368, 3) := by decide +kernel
theorem dL_law_784 : decode cL_law 784 = .ok (.aload_n 1, 1) := by decide +kernel
theorem dL_law_785 : decode cL_law 785 = .ok (.aload_n 0, 1) := by decide +kernel
theorem dL_law_786 : decode cL_law 786 = .ok (.iload 4, 2) := by decide +kernel
theorem dL_law_788 : decode cL_law 788 = .ok (.iconst 1, 1) := by decide +kernel
theorem dL_law_789 : decode cL_law 789 = .ok (.iadd, 1) := by decide +kernel
theorem dL_law_790 : decode cL_law 790 = .ok (.iaload, 1) := by decide +kernel
theorem dL_law_791 : decode cL_law 791 = .ok (.aload_n 3, 1) := by decide +kernel
theorem dL_law_792 : decode cL_law 792 = .ok (.invokestatic 117, 3) := by decide +kernel
theorem dL_law_795 : decode cL_law 795 = .ok (.istore 5, 2) := by decide +kernel
theorem dL_law_797 : decode cL_law 797 = .ok (.aload_n 2, 1) := by decide +kernel
theorem dL_law_798 : decode cL_law 798 = .ok (.aload_n 0, 1) := by decide +kernel
theorem dL_law_799 : decode cL_law 799 = .ok (.iload 4, 2) := by decide +kernel
theorem dL_law_801 : decode cL_law 801 = .ok (.iconst 1, 1) := by decide +kernel
theorem dL_law_802 : decode cL_law 802 = .ok (.iadd, 1) := by decide +kernel
theorem dL_law_803 : decode cL_law 803 = .ok (.iaload, 1) := by decide +kernel
theorem dL_law_804 : decode cL_law 804 = .ok (.invokevirtual 119, 3) := by decide +kernel
theorem dL_law_807 : decode cL_law 807 = .ok (.istore 6, 2) := by decide +kernel
theorem dL_law_809 : decode cL_law 809 = .ok (.aload_n 2, 1) := by decide +kernel
theorem dL_law_810 : decode cL_law 810 = .ok (.invokevirtual 69, 3) := by decide +kernel
theorem dL_law_813 : decode cL_law 813 = .ok (.iload 5, 2) := by decide +kernel
theorem dL_law_815 : decode cL_law 815 = .ok (.if_icmp .eq 5, 3) := by decide +kernel
theorem dL_law_818 : decode cL_law 818 = .ok (.iconst 0, 1) := by decide +kernel
theorem dL_law_819 : decode cL_law 819 = .ok (.ireturn, 1) := by decide +kernel
theorem dL_law_820 : decode cL_law 820 = .ok (.iload 5, 2) := by decide +kernel
theorem dL_law_822 : decode cL_law 822 = .ok (.ifCond .ne 15, 3) := by decide +kernel
theorem dL_law_825 : decode cL_law 825 = .ok (.aload_n 3, 1) := by decide +kernel
theorem dL_law_826 : decode cL_law 826 = .ok (.iconst 0, 1) := by decide +kernel
theorem dL_law_827 : decode cL_law 827 = .ok (.laload, 1) := by decide +kernel
theorem dL_law_828 : decode cL_law 828 = .ok (.iload 6, 2) := by decide +kernel
theorem dL_law_830 : decode cL_law 830 = .ok (.i2l, 1) := by decide +kernel
theorem dL_law_831 : decode cL_law 831 = .ok (.lcmp, 1) := by decide +kernel
theorem dL_law_832 : decode cL_law 832 = .ok (.ifCond .eq 5, 3) := by decide +kernel
theorem dL_law_835 : decode cL_law 835 = .ok (.iconst 0, 1) := by decide +kernel
theorem dL_law_836 : decode cL_law 836 = .ok (.ireturn, 1) := by decide +kernel
theorem dL_law_837 : decode cL_law 837 = .ok (.goto 312, 3) := by decide +kernel
theorem dL_law_840 : decode cL_law 840 = .ok (.aload_n 1, 1) := by decide +kernel
theorem dL_law_841 : decode cL_law 841 = .ok (.invokevirtual 120, 3) := by decide +kernel
theorem dL_law_844 : decode cL_law 844 = .ok (.aload_n 2, 1) := by decide +kernel
theorem dL_law_845 : decode cL_law 845 = .ok (.invokevirtual 123, 3) := by decide +kernel
theorem dL_law_848 : decode cL_law 848 = .ok (.if_icmp .eq 301, 3) := by decide +kernel
theorem dL_law_851 : decode cL_law 851 = .ok (.iconst 0, 1) := by decide +kernel
theorem dL_law_852 : decode cL_law 852 = .ok (.ireturn, 1) := by decide +kernel
theorem dL_law_853 : decode cL_law 853 = .ok (.aload_n 1, 1) := by decide +kernel
theorem dL_law_854 : decode cL_law 854 = .ok (.invokevirtual 124, 3) := by decide +kernel
theorem dL_law_857 : decode cL_law 857 = .ok (.aload_n 2, 1) := by decide +kernel
theorem dL_law_858 : decode cL_law 858 = .ok (.invokevirtual 127, 3) := by decide +kernel
theorem dL_law_861 : decode cL_law 861 = .ok (.if_icmp .eq 288, 3) := by decide +kernel
theorem dL_law_864 : decode cL_law 864 = .ok (.iconst 0, 1) := by decide +kernel
theorem dL_law_865 : decode cL_law 865 = .ok (.ireturn, 1) := by decide +kernel
theorem dL_law_866 : decode cL_law 866 = .ok (.aload_n 1, 1) := by decide +kernel
theorem dL_law_867 : decode cL_law 867 = .ok (.invokevirtual 128, 3) := by decide +kernel
theorem dL_law_870 : decode cL_law 870 = .ok (.aload_n 2, 1) := by decide +kernel
theorem dL_law_871 : decode cL_law 871 = .ok (.invokevirtual 132, 3) := by decide +kernel
theorem dL_law_874 : decode cL_law 874 = .ok (.if_icmp .eq 275, 3) := by decide +kernel
theorem dL_law_877 : decode cL_law 877 = .ok (.iconst 0, 1) := by decide +kernel
theorem dL_law_878 : decode cL_law 878 = .ok (.ireturn, 1) := by decide +kernel
theorem dL_law_879 : decode cL_law 879 = .ok (.aload_n 1, 1) := by decide +kernel
theorem dL_law_880 : decode cL_law 880 = .ok (.aload_n 0, 1) := by decide +kernel
theorem dL_law_881 : decode cL_law 881 = .ok (.iload 4, 2) := by decide +kernel
theorem dL_law_883 : decode cL_law 883 = .ok (.iconst 1, 1) := by decide +kernel
theorem dL_law_884 : decode cL_law 884 = .ok (.iadd, 1) := by decide +kernel
theorem dL_law_885 : decode cL_law 885 = .ok (.iaload, 1) := by decide +kernel
theorem dL_law_886 : decode cL_law 886 = .ok (.aload_n 0, 1) := by decide +kernel
theorem dL_law_887 : decode cL_law 887 = .ok (.iload 4, 2) := by decide +kernel
theorem dL_law_889 : decode cL_law 889 = .ok (.iconst 2, 1) := by decide +kernel
theorem dL_law_890 : decode cL_law 890 = .ok (.iadd, 1) := by decide +kernel
theorem dL_law_891 : decode cL_law 891 = .ok (.iaload, 1) := by decide +kernel
theorem dL_law_892 : decode cL_law 892 = .ok (.aload_n 3, 1) := by decide +kernel
theorem dL_law_893 : decode cL_law 893 = .ok (.invokestatic 133, 3) := by decide +kernel
theorem dL_law_896 : decode cL_law 896 = .ok (.istore 5, 2) := by decide +kernel
theorem dL_law_898 : decode cL_law 898 = .ok (.aload_n 2, 1) := by decide +kernel
theorem dL_law_899 : decode cL_law 899 = .ok (.aload_n 0, 1) := by decide +kernel
theorem dL_law_900 : decode cL_law 900 = .ok (.iload 4, 2) := by decide +kernel
theorem dL_law_902 : decode cL_law 902 = .ok (.iconst 1, 1) := by decide +kernel
theorem dL_law_903 : decode cL_law 903 = .ok (.iadd, 1) := by decide +kernel
theorem dL_law_904 : decode cL_law 904 = .ok (.iaload, 1) := by decide +kernel
theorem dL_law_905 : decode cL_law 905 = .ok (.aload_n 0, 1) := by decide +kernel
theorem dL_law_906 : decode cL_law 906 = .ok (.iload 4, 2) := by decide +kernel
theorem dL_law_908 : decode cL_law 908 = .ok (.iconst 2, 1) := by decide +kernel
theorem dL_law_909 : decode cL_law 909 = .ok (.iadd, 1) := by decide +kernel
theorem dL_law_910 : decode cL_law 910 = .ok (.iaload, 1) := by decide +kernel
theorem dL_law_911 : decode cL_law 911 = .ok (.invokevirtual 135, 3) := by decide +kernel
theorem dL_law_914 : decode cL_law 914 = .ok (.istore 6, 2) := by decide +kernel
theorem dL_law_916 : decode cL_law 916 = .ok (.aload_n 2, 1) := by decide +kernel
theorem dL_law_917 : decode cL_law 917 = .ok (.invokevirtual 69, 3) := by decide +kernel
theorem dL_law_920 : decode cL_law 920 = .ok (.iload 5, 2) := by decide +kernel
theorem dL_law_922 : decode cL_law 922 = .ok (.if_icmp .eq 5, 3) := by decide +kernel
theorem dL_law_925 : decode cL_law 925 = .ok (.iconst 0, 1) := by decide +kernel
theorem dL_law_926 : decode cL_law 926 = .ok (.ireturn, 1) := by decide +kernel
theorem dL_law_927 : decode cL_law 927 = .ok (.iload 5, 2) := by decide +kernel
theorem dL_law_929 : decode cL_law 929 = .ok (.ifCond .ne 22, 3) := by decide +kernel
theorem dL_law_932 : decode cL_law 932 = .ok (.aload_n 3, 1) := by decide +kernel
theorem dL_law_933 : decode cL_law 933 = .ok (.iconst 0, 1) := by decide +kernel
theorem dL_law_934 : decode cL_law 934 = .ok (.laload, 1) := by decide +kernel
theorem dL_law_935 : decode cL_law 935 = .ok (.iload 6, 2) := by decide +kernel
theorem dL_law_937 : decode cL_law 937 = .ok (.ifCond .eq 7, 3) := by decide +kernel
theorem dL_law_940 : decode cL_law 940 = .ok (.lconst 1, 1) := by decide +kernel
theorem dL_law_941 : decode cL_law 941 = .ok (.goto 4, 3) := by decide +kernel
theorem dL_law_944 : decode cL_law 944 = .ok (.lconst 0, 1) := by decide +kernel
theorem dL_law_945 : decode cL_law 945 = .ok (.lcmp, 1) := by decide +kernel
theorem dL_law_946 : decode cL_law 946 = .ok (.ifCond .eq 5, 3) := by decide +kernel
theorem dL_law_949 : decode cL_law 949 = .ok (.iconst 0, 1) := by decide +kernel
theorem dL_law_950 : decode cL_law 950 = .ok (.ireturn, 1) := by decide +kernel
theorem dL_law_951 : decode cL_law 951 = .ok (.goto 198, 3) := by decide +kernel
theorem dL_law_954 : decode cL_law 954 = .ok (.aload_n 1, 1) := by decide +kernel
theorem dL_law_955 : decode cL_law 955 = .ok (.invokevirtual 136, 3) := by decide +kernel
theorem dL_law_958 : decode cL_law 958 = .ok (.aload_n 2, 1) := by decide +kernel
theorem dL_law_959 : decode cL_law 959 = .ok (.invokevirtual 139, 3) := by decide +kernel
theorem dL_law_962 : decode cL_law 962 = .ok (.if_icmp .eq 187, 3) := by decide +kernel
theorem dL_law_965 : decode cL_law 965 = .ok (.iconst 0, 1) := by decide +kernel
theorem dL_law_966 : decode cL_law 966 = .ok (.ireturn, 1) := by decide +kernel
theorem dL_law_967 : decode cL_law 967 = .ok (.aload_n 1, 1) := by decide +kernel
theorem dL_law_968 : decode cL_law 968 = .ok (.aload_n 3, 1) := by decide +kernel
theorem dL_law_969 : decode cL_law 969 = .ok (.invokestatic 140, 3) := by decide +kernel
theorem dL_law_972 : decode cL_law 972 = .ok (.istore 5, 2) := by decide +kernel
theorem dL_law_974 : decode cL_law 974 = .ok (.aload_n 2, 1) := by decide +kernel
theorem dL_law_975 : decode cL_law 975 = .ok (.invokevirtual 142, 3) := by decide +kernel
theorem dL_law_978 : decode cL_law 978 = .ok (.istore 6, 2) := by decide +kernel
theorem dL_law_980 : decode cL_law 980 = .ok (.aload_n 2, 1) := by decide +kernel
theorem dL_law_981 : decode cL_law 981 = .ok (.invokevirtual 69, 3) := by decide +kernel
theorem dL_law_984 : decode cL_law 984 = .ok (.iload 5, 2) := by decide +kernel
theorem dL_law_986 : decode cL_law 986 = .ok (.if_icmp .eq 5, 3) := by decide +kernel
theorem dL_law_989 : decode cL_law 989 = .ok (.iconst 0, 1) := by decide +kernel
theorem dL_law_990 : decode cL_law 990 = .ok (.ireturn, 1) := by decide +kernel
theorem dL_law_991 : decode cL_law 991 = .ok (.iload 5, 2) := by decide +kernel
theorem dL_law_993 : decode cL_law 993 = .ok (.ifCond .ne 15, 3) := by decide +kernel
theorem dL_law_996 : decode cL_law 996 = .ok (.aload_n 3, 1) := by decide +kernel
theorem dL_law_997 : decode cL_law 997 = .ok (.iconst 0, 1) := by decide +kernel
theorem dL_law_998 : decode cL_law 998 = .ok (.laload, 1) := by decide +kernel
theorem dL_law_999 : decode cL_law 999 = .ok (.iload 6, 2) := by decide +kernel
theorem dL_law_1001 : decode cL_law 1001 = .ok (.i2l, 1) := by decide +kernel
theorem dL_law_1002 : decode cL_law 1002 = .ok (.lcmp, 1) := by decide +kernel
theorem dL_law_1003 : decode cL_law 1003 = .ok (.ifCond .eq 5, 3) := by decide +kernel
theorem dL_law_1006 : decode cL_law 1006 = .ok (.iconst 0, 1) := by decide +kernel
theorem dL_law_1007 : decode cL_law 1007 = .ok (.ireturn, 1) := by decide +kernel
theorem dL_law_1008 : decode cL_law 1008 = .ok (.goto 141, 3) := by decide +kernel
theorem dL_law_1011 : decode cL_law 1011 = .ok (.aload_n 1, 1) := by decide +kernel
theorem dL_law_1012 : decode cL_law 1012 = .ok (.aload_n 3, 1) := by decide +kernel
theorem dL_law_1013 : decode cL_law 1013 = .ok (.invokestatic 143, 3) := by decide +kernel
theorem dL_law_1016 : decode cL_law 1016 = .ok (.istore 5, 2) := by decide +kernel
theorem dL_law_1018 : decode cL_law 1018 = .ok (.aload_n 2, 1) := by decide +kernel
theorem dL_law_1019 : decode cL_law 1019 = .ok (.invokevirtual 145, 3) := by decide +kernel
theorem dL_law_1022 : decode cL_law 1022 = .ok (.istore 6, 2) := by decide +kernel
theorem dL_law_1024 : decode cL_law 1024 = .ok (.aload_n 2, 1) := by decide +kernel
theorem dL_law_1025 : decode cL_law 1025 = .ok (.invokevirtual 69, 3) := by decide +kernel
theorem dL_law_1028 : decode cL_law 1028 = .ok (.iload 5, 2) := by decide +kernel
theorem dL_law_1030 : decode cL_law 1030 = .ok (.if_icmp .eq 5, 3) := by decide +kernel
theorem dL_law_1033 : decode cL_law 1033 = .ok (.iconst 0, 1) := by decide +kernel
theorem dL_law_1034 : decode cL_law 1034 = .ok (.ireturn, 1) := by decide +kernel
theorem dL_law_1035 : decode cL_law 1035 = .ok (.iload 5, 2) := by decide +kernel
theorem dL_law_1037 : decode cL_law 1037 = .ok (.ifCond .ne 15, 3) := by decide +kernel
theorem dL_law_1040 : decode cL_law 1040 = .ok (.aload_n 3, 1) := by decide +kernel
theorem dL_law_1041 : decode cL_law 1041 = .ok (.iconst 0, 1) := by decide +kernel
theorem dL_law_1042 : decode cL_law 1042 = .ok (.laload, 1) := by decide +kernel
theorem dL_law_1043 : decode cL_law 1043 = .ok (.iload 6, 2) := by decide +kernel
theorem dL_law_1045 : decode cL_law 1045 = .ok (.i2l, 1) := by decide +kernel
theorem dL_law_1046 : decode cL_law 1046 = .ok (.lcmp, 1) := by decide +kernel
theorem dL_law_1047 : decode cL_law 1047 = .ok (.ifCond .eq 5, 3) := by decide +kernel
theorem dL_law_1050 : decode cL_law 1050 = .ok (.iconst 0, 1) := by decide +kernel
theorem dL_law_1051 : decode cL_law 1051 = .ok (.ireturn, 1) := by decide +kernel
theorem dL_law_1052 : decode cL_law 1052 = .ok (.goto 97, 3) := by decide +kernel
theorem dL_law_1055 : decode cL_law 1055 = .ok (.aload_n 1, 1) := by decide +kernel
theorem dL_law_1056 : decode cL_law 1056 = .ok (.invokevirtual 146, 3) := by decide +kernel
theorem dL_law_1059 : decode cL_law 1059 = .ok (.aload_n 2, 1) := by decide +kernel
theorem dL_law_1060 : decode cL_law 1060 = .ok (.invokevirtual 149, 3) := by decide +kernel
theorem dL_law_1063 : decode cL_law 1063 = .ok (.if_icmp .eq 86, 3) := by decide +kernel
theorem dL_law_1066 : decode cL_law 1066 = .ok (.iconst 0, 1) := by decide +kernel
theorem dL_law_1067 : decode cL_law 1067 = .ok (.ireturn, 1) := by decide +kernel
theorem dL_law_1068 : decode cL_law 1068 = .ok (.aload_n 1, 1) := by decide +kernel
theorem dL_law_1069 : decode cL_law 1069 = .ok (.invokevirtual 150, 3) := by decide +kernel
theorem dL_law_1072 : decode cL_law 1072 = .ok (.aload_n 2, 1) := by decide +kernel
theorem dL_law_1073 : decode cL_law 1073 = .ok (.invokevirtual 153, 3) := by decide +kernel
theorem dL_law_1076 : decode cL_law 1076 = .ok (.if_icmp .eq 73, 3) := by decide +kernel
theorem dL_law_1079 : decode cL_law 1079 = .ok (.iconst 0, 1) := by decide +kernel
theorem dL_law_1080 : decode cL_law 1080 = .ok (.ireturn, 1) := by decide +kernel
theorem dL_law_1081 : decode cL_law 1081 = .ok (.aload_n 1, 1) := by decide +kernel
theorem dL_law_1082 : decode cL_law 1082 = .ok (.aload_n 0, 1) := by decide +kernel
theorem dL_law_1083 : decode cL_law 1083 = .ok (.iload 4, 2) := by decide +kernel
theorem dL_law_1085 : decode cL_law 1085 = .ok (.iconst 1, 1) := by decide +kernel
theorem dL_law_1086 : decode cL_law 1086 = .ok (.iadd, 1) := by decide +kernel
theorem dL_law_1087 : decode cL_law 1087 = .ok (.iaload, 1) := by decide +kernel
theorem dL_law_1088 : decode cL_law 1088 = .ok (.aload_n 0, 1) := by decide +kernel
theorem dL_law_1089 : decode cL_law 1089 = .ok (.iload 4, 2) := by decide +kernel
theorem dL_law_1091 : decode cL_law 1091 = .ok (.iconst 2, 1) := by decide +kernel
theorem dL_law_1092 : decode cL_law 1092 = .ok (.iadd, 1) := by decide +kernel
theorem dL_law_1093 : decode cL_law 1093 = .ok (.iaload, 1) := by decide +kernel
theorem dL_law_1094 : decode cL_law 1094 = .ok (.aload_n 3, 1) := by decide +kernel
theorem dL_law_1095 : decode cL_law 1095 = .ok (.invokestatic 154, 3) := by decide +kernel
theorem dL_law_1098 : decode cL_law 1098 = .ok (.istore 5, 2) := by decide +kernel
theorem dL_law_1100 : decode cL_law 1100 = .ok (.aload_n 2, 1) := by decide +kernel
theorem dL_law_1101 : decode cL_law 1101 = .ok (.aload_n 0, 1) := by decide +kernel
theorem dL_law_1102 : decode cL_law 1102 = .ok (.iload 4, 2) := by decide +kernel
theorem dL_law_1104 : decode cL_law 1104 = .ok (.iconst 1, 1) := by decide +kernel
theorem dL_law_1105 : decode cL_law 1105 = .ok (.iadd, 1) := by decide +kernel
theorem dL_law_1106 : decode cL_law 1106 = .ok (.iaload, 1) := by decide +kernel
theorem dL_law_1107 : decode cL_law 1107 = .ok (.aload_n 0, 1) := by decide +kernel
theorem dL_law_1108 : decode cL_law 1108 = .ok (.iload 4, 2) := by decide +kernel
theorem dL_law_1110 : decode cL_law 1110 = .ok (.iconst 2, 1) := by decide +kernel
theorem dL_law_1111 : decode cL_law 1111 = .ok (.iadd, 1) := by decide +kernel
theorem dL_law_1112 : decode cL_law 1112 = .ok (.iaload, 1) := by decide +kernel
theorem dL_law_1113 : decode cL_law 1113 = .ok (.invokevirtual 156, 3) := by decide +kernel
theorem dL_law_1116 : decode cL_law 1116 = .ok (.istore 6, 2) := by decide +kernel
theorem dL_law_1118 : decode cL_law 1118 = .ok (.aload_n 2, 1) := by decide +kernel
theorem dL_law_1119 : decode cL_law 1119 = .ok (.invokevirtual 69, 3) := by decide +kernel
theorem dL_law_1122 : decode cL_law 1122 = .ok (.iload 5, 2) := by decide +kernel
theorem dL_law_1124 : decode cL_law 1124 = .ok (.if_icmp .eq 5, 3) := by decide +kernel
theorem dL_law_1127 : decode cL_law 1127 = .ok (.iconst 0, 1) := by decide +kernel
theorem dL_law_1128 : decode cL_law 1128 = .ok (.ireturn, 1) := by decide +kernel
theorem dL_law_1129 : decode cL_law 1129 = .ok (.iload 5, 2) := by decide +kernel
theorem dL_law_1131 : decode cL_law 1131 = .ok (.ifCond .ne 15, 3) := by decide +kernel
theorem dL_law_1134 : decode cL_law 1134 = .ok (.aload_n 3, 1) := by decide +kernel
theorem dL_law_1135 : decode cL_law 1135 = .ok (.iconst 0, 1) := by decide +kernel
theorem dL_law_1136 : decode cL_law 1136 = .ok (.laload, 1) := by decide +kernel
theorem dL_law_1137 : decode cL_law 1137 = .ok (.iload 6, 2) := by decide +kernel
theorem dL_law_1139 : decode cL_law 1139 = .ok (.i2l, 1) := by decide +kernel
theorem dL_law_1140 : decode cL_law 1140 = .ok (.lcmp, 1) := by decide +kernel
theorem dL_law_1141 : decode cL_law 1141 = .ok (.ifCond .eq 5, 3) := by decide +kernel
theorem dL_law_1144 : decode cL_law 1144 = .ok (.iconst 0, 1) := by decide +kernel
theorem dL_law_1145 : decode cL_law 1145 = .ok (.ireturn, 1) := by decide +kernel
theorem dL_law_1146 : decode cL_law 1146 = .ok (.goto 3, 3) := by decide +kernel
theorem dL_law_1149 : decode cL_law 1149 = .ok (.iinc 4 4, 3) := by decide +kernel
theorem dL_law_1152 : decode cL_law 1152 = .ok (.goto (-1129), 3) := by decide +kernel
theorem dL_law_1155 : decode cL_law 1155 = .ok (.iconst 1, 1) := by decide +kernel
theorem dL_law_1156 : decode cL_law 1156 = .ok (.ireturn, 1) := by decide +kernel
end
section
/-! A walk over worlds, with all that stays in one tuple: jJ K k n pc lo st ws says that the machine at pc, with locals lo, stack st and world ws, with k cells and n slots made so far, comes to an end as wanted. -/
abbrev jk_T : Type := (Program × Launch × Env × Room × State) × (MethodId × Array Value × List Frame × Method × Code) × ((Nat → Prop) × (State → Prop)) × va_G × Nat
def jl_has (ls : Array Slot) (nL : Nat) (lo : List (Option Value)) : Prop := ls.size = nL ∧ lv_wf ls ∧ ∀ (i : Nat) (v : Value), lo[i]? = some (some v) → ls[i]? = some (.val v) ∧ v.category = 1
def jJ (K : jk_T) (k n : Nat) (pc : Nat) (lo : List (Option Value)) (st : List Value) (ws : va_W) : Prop :=
  ∀ (H : Heap) (locs : List Loc) (ls : Array Slot), va_P K.2.2.2.1 vwCl ws H → va_D K.2.2.1.1 ws → va_S K.2.2.1.1 K.1.2.2.2.2.heap H locs → jl_has ls K.2.2.2.2 lo →
    W K.1.1 K.1.2.1 K.1.2.2.1 K.1.2.2.2.1 K.1.2.2.2.2 K.2.1.1 K.2.1.2.1 K.2.1.2.2.1 K.2.1.2.2.2.1 K.2.1.2.2.2.2 H locs k n K.2.2.1.2 (F0 K.2.1.1 pc ls st)
abbrev jy_T : Type := ClassId × ClassId × ClassId
def jtys (Y : jy_T) : List (ClassId × FieldType) := [(Y.1, .int), (Y.2.1, .boolean), (Y.2.2, .long)]
def jC (cc : ByteArray) (own : String) (Y : jy_T) (rm : Room) (nL : Nat) (K : jk_T) : Prop :=
  K.1.1.tables.exec = Jvm.exec ∧ K.2.1.2.2.2.2.code = cc ∧ K.1.2.2.2.2.vm.findClass own = some K.2.1.1.cls ∧ (∀ w ∈ wG, w.before K.2.1.2.1 K.1.2.2.2.2 = true) ∧ va_K K.2.2.2.1 vwCl (jtys Y) K.1.2.2.2.2 ∧
  (∀ q, K.1.2.2.2.2.heap.size ≤ q → K.2.2.1.1 q) ∧ K.2.1.2.2.2.2.maxLocals = K.2.2.2.2 ∧ K.2.1.2.2.2.1.locks = false ∧ K.1.2.2.2.1 = rm ∧ K.2.2.2.2 = nL
-- the ends of a method: what it answers, with which world
abbrev jp_T : Type := Option Value → va_W → Prop
def jQ (D : va_G) (Y : jy_T) (A : Nat → Prop) (Pst : jp_T) : Array Value → State → Outcome → State → Prop := fun _ st o t =>
  (∃ (r : Option Value) (w : va_W), o = .returned r ∧ Pst r w ∧ va_P D vwCl w t.heap ∧ va_K D vwCl (jtys Y) t ∧ va_D A w) ∧ va_F A st t
def jR (Y : jy_T) (ret : Option FieldType) (mc ms : Nat) (Pst : jp_T) (K : jk_T) : Prop :=
  K.2.1.2.2.2.1.sig.returnType = ret ∧ ∀ t, MQ K.2.1.2.2.1 (jQ K.2.2.2.1 Y K.2.2.1.1 Pst) K.2.1.2.1 K.1.2.2.2.2 mc ms K.2.2.1.1 t → K.2.2.1.2 t
def jPc (D : va_G) (Y : jy_T) (av : List Value) (w0 : va_W) (sz : Nat) : Array Value → State → Prop :=
  va_Pc av (fun U => U.heap.size = sz ∧ va_P D vwCl w0 U.heap ∧ va_K D vwCl (jtys Y) U ∧ va_D (fun _ => True) w0)
/-- a method's contract: from the world w0, with the arguments av, it answers r with the world w so that Pst r w -/
def MJ (l : Launch) (y : MethodName) (cc : ByteArray) (maxL : Nat) (ret : Option FieldType) (rm : Room) (D : va_G) (Y : jy_T) (av : List Value) (w0 : va_W) (Pst : jp_T) : Prop :=
  ∀ sz, Met l y (Cond.code y cc maxL ret :: wG) rm (jPc D Y av w0 sz) (jQ D Y (va_A w0 sz) Pst) rm.cells rm.slots (va_A w0 sz)
def jargs : List Value → Nat → List (Option Value) := fun vs n => vs.map some ++ List.replicate (n - vs.length) none
theorem jl_entry (vs : List Value) {n : Nat} (h : vs.length ≤ n) (hc : ∀ v ∈ vs, v.category = 1) : jl_has ((lg_sl vs ++ List.replicate (n - (lg_sl vs).length) Slot.unset).toArray) n (jargs vs n) := by
  have hlen : ∀ us : List Value, (∀ v ∈ us, v.category = 1) → lg_sl us = us.map Slot.val := by
    intro us hu
    induction us with
    | nil => rfl
    | cons a us ih =>
      have h1 : a.category = 1 := hu a List.mem_cons_self
      show (if a.category = 2 then [Slot.val a, .second] else [Slot.val a]) ++ lg_sl us = _
      rw [if_neg (by omega), ih (fun v hv => hu v (List.mem_cons_of_mem _ hv))]
      rfl
  have e := hlen vs hc
  obtain ⟨h1, h2, -⟩ := lv_entry vs (n := n) (by rw [e, List.length_map]; exact h)
  refine ⟨h1, h2, fun i v hv => ?_⟩
  rw [e]
  unfold jargs at hv
  by_cases hi : i < vs.length
  · rw [List.getElem?_append_left (by simpa using hi), List.getElem?_map] at hv
    have hg : vs[i]? = some vs[i] := List.getElem?_eq_getElem hi
    rw [hg] at hv
    simp only [Option.map_some, Option.some.injEq] at hv
    subst hv
    refine ⟨?_, hc _ (List.getElem_mem hi)⟩
    rw [List.getElem?_toArray, List.getElem?_append_left (by simpa using hi), List.getElem?_map, hg]
    rfl
  · rw [List.getElem?_append_right (by simp; omega)] at hv
    have := List.eq_of_mem_replicate (List.mem_of_getElem? hv)
    cases this
def jl_list (lo : List (Option Value)) (nL : Nat) : List (Nat × Value) := (List.range nL).filterMap (fun j => (lo[j]?.join).map (fun w => (j, w)))
theorem jl_lv {ls : Array Slot} {nL : Nat} {lo : List (Option Value)} (h : jl_has ls nL lo) : lv_has ls nL (jl_list lo nL) := by
  obtain ⟨h1, h2, h3⟩ := h
  refine ⟨h1, h2, fun q hq => ?_⟩
  obtain ⟨j, -, hj⟩ := List.mem_filterMap.mp hq
  cases hjj : lo[j]? with
  | none => rw [hjj] at hj; cases hj
  | some ow =>
    cases ow with
    | none => rw [hjj] at hj; cases hj
    | some w =>
      rw [hjj] at hj
      cases hj
      exact (h3 j w hjj).1
theorem jl_back {ls ls' : Array Slot} {nL : Nat} {lo : List (Option Value)} {i : Nat} {v : Value} (h : jl_has ls nL lo) (hc : v.category = 1) (g : lv_has ls' nL ((i, v) :: (jl_list lo nL).filter (fun q => !(q.1 == i) && !(q.1 + 1 == i && q.2.category == 2)))) : jl_has ls' nL (lo.set i (some v)) := by
  obtain ⟨h1, h2, h3⟩ := h
  obtain ⟨g1, g2, g3⟩ := g
  refine ⟨g1, g2, fun j w hj => ?_⟩
  by_cases hji : j = i
  · subst hji
    by_cases hlt : j < lo.length
    · rw [List.getElem?_set_self hlt] at hj
      cases hj
      exact ⟨g3 (j, v) List.mem_cons_self, hc⟩
    · rw [List.getElem?_eq_none (by simpa using hlt)] at hj
      cases hj
  · rw [List.getElem?_set_ne (fun q => hji q.symm)] at hj
    have hw := h3 j w hj
    refine ⟨g3 (j, w) (List.mem_cons_of_mem _ (List.mem_filter.mpr ⟨List.mem_filterMap.mpr ⟨j, List.mem_range.mpr ?_, by rw [hj]; rfl⟩, ?_⟩)), hw.2⟩
    · rw [← h1]; exact lv_lt hw.1
    · simp [hji, hw.2]
theorem j_top {K : jk_T} {k n pc : Nat} {lo : List (Option Value)} {st : List Value} {ws : va_W} (x y : Int32) (h : x = y) (kk : jJ K k n pc lo (.int y :: st) ws) : jJ K k n pc lo (.int x :: st) ws := h ▸ kk
theorem j_eq {K : jk_T} {k n pc : Nat} {lo lo' : List (Option Value)} {st st' : List Value} {ws ws2 : va_W} (h1 : lo = lo') (h2 : st = st') (h3 : ws = ws2) (kk : jJ K k n pc lo' st' ws2) : jJ K k n pc lo st ws := by
  subst h1; subst h2; subst h3; exact kk
theorem j_widen {K : jk_T} {k n k' n' pc : Nat} {lo : List (Option Value)} {st : List Value} {ws : va_W} (h1 : k ≤ k') (h2 : n ≤ n') (kk : jJ K k' n' pc lo st ws) : jJ K k n pc lo st ws :=
  fun H locs ls hP hD hS hl => W.widen h1 h2 (kk H locs ls hP hD hS hl)
section JR
variable {K : jk_T} {cc : ByteArray} {own : String} {Y : jy_T} {rm : Room} {nL k n pc : Nat} {lo : List (Option Value)} {st : List Value} {ws : va_W}
theorem j_iload_n (C : jC cc own Y rm nL K) {i : Fin 4} {x : Int32} (hd : decode cc pc = .ok (.iload_n i, 1)) (h : lo[(i : Nat)]? = some (some (.int x))) (kk : jJ K k n (pc + 1) lo (.int x :: st) ws) : jJ K k n pc lo st ws :=
  fun H locs ls hP hD hS hl => lv_iload_n C.1 C.2.1 hd rfl (hl.2.2 _ _ h).1 (kk H locs ls hP hD hS hl)
theorem j_iload (C : jC cc own Y rm nL K) {i : Nat} {x : Int32} (hd : decode cc pc = .ok (.iload i, 2)) (h : lo[i]? = some (some (.int x))) (kk : jJ K k n (pc + 2) lo (.int x :: st) ws) : jJ K k n pc lo st ws :=
  fun H locs ls hP hD hS hl => lv_iload C.1 C.2.1 hd (hl.2.2 _ _ h).1 (kk H locs ls hP hD hS hl)
theorem j_aload_n (C : jC cc own Y rm nL K) {i : Fin 4} {x : Nat} (hd : decode cc pc = .ok (.aload_n i, 1)) (h : lo[(i : Nat)]? = some (some (.ref x))) (kk : jJ K k n (pc + 1) lo (.ref x :: st) ws) : jJ K k n pc lo st ws :=
  fun H locs ls hP hD hS hl => lv_aload_n C.1 C.2.1 hd rfl (hl.2.2 _ _ h).1 (kk H locs ls hP hD hS hl)
theorem j_aload (C : jC cc own Y rm nL K) {i : Nat} {x : Nat} (hd : decode cc pc = .ok (.aload i, 2)) (h : lo[i]? = some (some (.ref x))) (kk : jJ K k n (pc + 2) lo (.ref x :: st) ws) : jJ K k n pc lo st ws :=
  fun H locs ls hP hD hS hl => lv_aload C.1 C.2.1 hd (hl.2.2 _ _ h).1 (kk H locs ls hP hD hS hl)
theorem j_istore_n (C : jC cc own Y rm nL K) {i : Fin 4} {x : Int32} (hd : decode cc pc = .ok (.istore_n i, 1)) (hi : (i : Nat) < nL) (kk : jJ K k n (pc + 1) (lo.set (i : Nat) (some (.int x))) st ws) : jJ K k n pc lo (.int x :: st) ws :=
  fun H locs ls hP hD hS hl => lv_istore_n C.1 C.2.1 hd rfl (jl_lv hl) (by rw [C.2.2.2.2.2.2.2.2.2]; exact hi) rfl (fun ls' h' => kk H locs ls' hP hD hS (jl_back hl rfl h'))
theorem j_istore (C : jC cc own Y rm nL K) {i : Nat} {x : Int32} (hd : decode cc pc = .ok (.istore i, 2)) (hi : i < nL) (kk : jJ K k n (pc + 2) (lo.set i (some (.int x))) st ws) : jJ K k n pc lo (.int x :: st) ws :=
  fun H locs ls hP hD hS hl => lv_istore C.1 C.2.1 hd (jl_lv hl) (by rw [C.2.2.2.2.2.2.2.2.2]; exact hi) rfl (fun ls' h' => kk H locs ls' hP hD hS (jl_back hl rfl h'))
theorem j_astore_n (C : jC cc own Y rm nL K) {i : Fin 4} {x : Nat} (hd : decode cc pc = .ok (.astore_n i, 1)) (hi : (i : Nat) < nL) (kk : jJ K k n (pc + 1) (lo.set (i : Nat) (some (.ref x))) st ws) : jJ K k n pc lo (.ref x :: st) ws :=
  fun H locs ls hP hD hS hl => lv_astore_n C.1 C.2.1 hd rfl (jl_lv hl) (by rw [C.2.2.2.2.2.2.2.2.2]; exact hi) rfl (fun ls' h' => kk H locs ls' hP hD hS (jl_back hl rfl h'))
theorem j_astore (C : jC cc own Y rm nL K) {i : Nat} {x : Nat} (hd : decode cc pc = .ok (.astore i, 2)) (hi : i < nL) (kk : jJ K k n (pc + 2) (lo.set i (some (.ref x))) st ws) : jJ K k n pc lo (.ref x :: st) ws :=
  fun H locs ls hP hD hS hl => lv_astore C.1 C.2.1 hd (jl_lv hl) (by rw [C.2.2.2.2.2.2.2.2.2]; exact hi) rfl (fun ls' h' => kk H locs ls' hP hD hS (jl_back hl rfl h'))
theorem jl_mem {ls : Array Slot} {nL : Nat} {lo : List (Option Value)} (h : jl_has ls nL lo) {i : Nat} {v : Value} (hv : lo[i]? = some (some v)) : ∃ j : Nat, (jl_list lo nL)[j]? = some (i, v) :=
  List.getElem?_of_mem (List.mem_filterMap.mpr ⟨i, List.mem_range.mpr (by rw [← h.1]; exact lv_lt (h.2.2 i v hv).1), by rw [hv]; rfl⟩)
theorem j_iinc (C : jC cc own Y rm nL K) {i : Nat} {d : Int} {x v : Int32} (hd : decode cc pc = .ok (.iinc i d, 3)) (h : lo[i]? = some (some (.int x))) (hv : x + Int32.ofInt d = v) (kk : jJ K k n (pc + 3) (lo.set i (some (.int v))) st ws) : jJ K k n pc lo st ws := by
  intro H locs ls hP hD hS hl
  obtain ⟨j, hj⟩ := jl_mem hl h
  exact lv_iinc C.1 C.2.1 hd (jl_lv hl) hj hv (by rw [← hl.1]; exact lv_lt (hl.2.2 i _ h).1) rfl (fun ls' h' => kk H locs ls' hP hD hS (jl_back hl rfl h'))
theorem j_iconst (C : jC cc own Y rm nL K) {d : Int} (v : Int32) (hd : decode cc pc = .ok (.iconst d, 1)) (hv : Int32.ofInt d = v) (kk : jJ K k n (pc + 1) lo (.int v :: st) ws) : jJ K k n pc lo st ws :=
  fun H locs ls hP hD hS hl => lv_iconst C.1 C.2.1 hd hv (kk H locs ls hP hD hS hl)
theorem j_bipush (C : jC cc own Y rm nL K) {d : Int} (v : Int32) (hd : decode cc pc = .ok (.bipush d, 2)) (hv : (Int8.ofInt d).toInt32 = v) (kk : jJ K k n (pc + 2) lo (.int v :: st) ws) : jJ K k n pc lo st ws :=
  fun H locs ls hP hD hS hl => lv_bipush C.1 C.2.1 hd hv (kk H locs ls hP hD hS hl)
theorem j_sipush (C : jC cc own Y rm nL K) {d : Int} (v : Int32) (hd : decode cc pc = .ok (.sipush d, 3)) (hv : (Int16.ofInt d).toInt32 = v) (kk : jJ K k n (pc + 3) lo (.int v :: st) ws) : jJ K k n pc lo st ws :=
  fun H locs ls hP hD hS hl => lv_sipush C.1 C.2.1 hd hv (kk H locs ls hP hD hS hl)
theorem j_ldc (C : jC cc own Y rm nL K) {ix : Nat} {v : Int32} (hd : decode cc pc = .ok (.ldc ix, 2)) (hw : Cond.constant own ix v ∈ wG) (kk : jJ K k n (pc + 2) lo (.int v :: st) ws) : jJ K k n pc lo st ws :=
  fun H locs ls hP hD hS hl => lv_ldc C.1 C.2.1 C.2.2.1 (C.2.2.2.1 _ hw) hd (kk H locs ls hP hD hS hl)
theorem j_iadd (C : jC cc own Y rm nL K) {x y : Int32} (hd : decode cc pc = .ok (.iadd, 1)) (kk : jJ K k n (pc + 1) lo (.int (x + y) :: st) ws) : jJ K k n pc lo (.int y :: .int x :: st) ws :=
  fun H locs ls hP hD hS hl => lv_iadd C.1 C.2.1 hd (kk H locs ls hP hD hS hl)
theorem j_isub (C : jC cc own Y rm nL K) {x y : Int32} (hd : decode cc pc = .ok (.isub, 1)) (kk : jJ K k n (pc + 1) lo (.int (x - y) :: st) ws) : jJ K k n pc lo (.int y :: .int x :: st) ws :=
  fun H locs ls hP hD hS hl => lv_isub C.1 C.2.1 hd (kk H locs ls hP hD hS hl)
theorem j_imul (C : jC cc own Y rm nL K) {x y : Int32} (hd : decode cc pc = .ok (.imul, 1)) (kk : jJ K k n (pc + 1) lo (.int (x * y) :: st) ws) : jJ K k n pc lo (.int y :: .int x :: st) ws :=
  fun H locs ls hP hD hS hl => lv_imul C.1 C.2.1 hd (kk H locs ls hP hD hS hl)
theorem j_iand (C : jC cc own Y rm nL K) {x y : Int32} (hd : decode cc pc = .ok (.iand, 1)) (kk : jJ K k n (pc + 1) lo (.int (x &&& y) :: st) ws) : jJ K k n pc lo (.int y :: .int x :: st) ws :=
  fun H locs ls hP hD hS hl => lv_iand C.1 C.2.1 hd (kk H locs ls hP hD hS hl)
theorem j_ishl (C : jC cc own Y rm nL K) {x y : Int32} (hd : decode cc pc = .ok (.ishl, 1)) (kk : jJ K k n (pc + 1) lo (.int (x <<< (y &&& 31)) :: st) ws) : jJ K k n pc lo (.int y :: .int x :: st) ws :=
  fun H locs ls hP hD hS hl => lv_ishl C.1 C.2.1 hd (kk H locs ls hP hD hS hl)
theorem j_idiv (C : jC cc own Y rm nL K) {x y : Int32} (hd : decode cc pc = .ok (.idiv, 1)) (hne : ¬ y = 0) (kk : jJ K k n (pc + 1) lo (.int (x / y) :: st) ws) : jJ K k n pc lo (.int y :: .int x :: st) ws :=
  fun H locs ls hP hD hS hl => lv_idiv C.1 C.2.1 hd hne (kk H locs ls hP hD hS hl)
theorem j_irem (C : jC cc own Y rm nL K) {x y : Int32} (hd : decode cc pc = .ok (.irem, 1)) (hne : ¬ y = 0) (kk : jJ K k n (pc + 1) lo (.int (x - x / y * y) :: st) ws) : jJ K k n pc lo (.int y :: .int x :: st) ws :=
  fun H locs ls hP hD hS hl => lv_irem C.1 C.2.1 hd hne (kk H locs ls hP hD hS hl)
theorem j_dup (C : jC cc own Y rm nL K) {v : Value} (hd : decode cc pc = .ok (.dup, 1)) (hc : v.category = 1) (kk : jJ K k n (pc + 1) lo (v :: v :: st) ws) : jJ K k n pc lo (v :: st) ws :=
  fun H locs ls hP hD hS hl => lv_dup C.1 C.2.1 hd hc (kk H locs ls hP hD hS hl)
theorem j_pop (C : jC cc own Y rm nL K) {v : Value} (hd : decode cc pc = .ok (.pop, 1)) (hc : v.category = 1) (kk : jJ K k n (pc + 1) lo st ws) : jJ K k n pc lo (v :: st) ws :=
  fun H locs ls hP hD hS hl => lv_pop C.1 C.2.1 hd hc (kk H locs ls hP hD hS hl)
theorem j_goto (C : jC cc own Y rm nL K) {off : Int} (tgt : Nat) (hd : decode cc pc = .ok (.goto off, 3)) (ht : (pc : Int) + off = (tgt : Int)) (kk : jJ K k n tgt lo st ws) : jJ K k n pc lo st ws :=
  fun H locs ls hP hD hS hl => lv_goto C.1 C.2.1 hd ht (kk H locs ls hP hD hS hl)
theorem j_if_eq (C : jC cc own Y rm nL K) {x : Int32} {off : Int} (tgt : Nat) (hd : decode cc pc = .ok (.ifCond .eq off, 3)) (ht : (pc : Int) + off = (tgt : Int)) (kt : x = 0 → jJ K k n tgt lo st ws) (kf : ¬ x = 0 → jJ K k n (pc + 3) lo st ws) : jJ K k n pc lo (.int x :: st) ws :=
  fun H locs ls hP hD hS hl => lv_if_eq C.1 C.2.1 hd ht (fun c => kt c H locs ls hP hD hS hl) (fun c => kf c H locs ls hP hD hS hl)
theorem j_icmp_eq (C : jC cc own Y rm nL K) {x y : Int32} {off : Int} (tgt : Nat) (hd : decode cc pc = .ok (.if_icmp .eq off, 3)) (ht : (pc : Int) + off = (tgt : Int)) (kt : x = y → jJ K k n tgt lo st ws) (kf : ¬ x = y → jJ K k n (pc + 3) lo st ws) : jJ K k n pc lo (.int y :: .int x :: st) ws :=
  fun H locs ls hP hD hS hl => lv_icmp_eq C.1 C.2.1 hd ht (fun c => kt c H locs ls hP hD hS hl) (fun c => kf c H locs ls hP hD hS hl)
theorem jN_icmp_eq (C : jC cc own Y rm nL K) {a b : Nat} {off : Int} (tgt : Nat) (ha : a < 2 ^ 31) (hb : b < 2 ^ 31) (hd : decode cc pc = .ok (.if_icmp .eq off, 3)) (ht : (pc : Int) + off = (tgt : Int)) (kt : a = b → jJ K k n tgt lo st ws) (kf : a ≠ b → jJ K k n (pc + 3) lo st ws) : jJ K k n pc lo (.int (nI b) :: .int (nI a) :: st) ws :=
  j_icmp_eq C tgt hd ht (fun c => kt ((nI_eq ha hb).mp c)) (fun c => kf (fun q => c ((nI_eq ha hb).mpr q)))
theorem j_if_ne (C : jC cc own Y rm nL K) {x : Int32} {off : Int} (tgt : Nat) (hd : decode cc pc = .ok (.ifCond .ne off, 3)) (ht : (pc : Int) + off = (tgt : Int)) (kt : ¬ x = 0 → jJ K k n tgt lo st ws) (kf : x = 0 → jJ K k n (pc + 3) lo st ws) : jJ K k n pc lo (.int x :: st) ws :=
  fun H locs ls hP hD hS hl => lv_if_ne C.1 C.2.1 hd ht (fun c => kt c H locs ls hP hD hS hl) (fun c => kf c H locs ls hP hD hS hl)
theorem j_icmp_ne (C : jC cc own Y rm nL K) {x y : Int32} {off : Int} (tgt : Nat) (hd : decode cc pc = .ok (.if_icmp .ne off, 3)) (ht : (pc : Int) + off = (tgt : Int)) (kt : ¬ x = y → jJ K k n tgt lo st ws) (kf : x = y → jJ K k n (pc + 3) lo st ws) : jJ K k n pc lo (.int y :: .int x :: st) ws :=
  fun H locs ls hP hD hS hl => lv_icmp_ne C.1 C.2.1 hd ht (fun c => kt c H locs ls hP hD hS hl) (fun c => kf c H locs ls hP hD hS hl)
theorem jN_icmp_ne (C : jC cc own Y rm nL K) {a b : Nat} {off : Int} (tgt : Nat) (ha : a < 2 ^ 31) (hb : b < 2 ^ 31) (hd : decode cc pc = .ok (.if_icmp .ne off, 3)) (ht : (pc : Int) + off = (tgt : Int)) (kt : a ≠ b → jJ K k n tgt lo st ws) (kf : a = b → jJ K k n (pc + 3) lo st ws) : jJ K k n pc lo (.int (nI b) :: .int (nI a) :: st) ws :=
  j_icmp_ne C tgt hd ht (fun c => kt (fun q => c ((nI_eq ha hb).mpr q))) (fun c => kf ((nI_eq ha hb).mp c))
theorem j_if_lt (C : jC cc own Y rm nL K) {x : Int32} {off : Int} (tgt : Nat) (hd : decode cc pc = .ok (.ifCond .lt off, 3)) (ht : (pc : Int) + off = (tgt : Int)) (kt : x < 0 → jJ K k n tgt lo st ws) (kf : ¬ x < 0 → jJ K k n (pc + 3) lo st ws) : jJ K k n pc lo (.int x :: st) ws :=
  fun H locs ls hP hD hS hl => lv_if_lt C.1 C.2.1 hd ht (fun c => kt c H locs ls hP hD hS hl) (fun c => kf c H locs ls hP hD hS hl)
theorem j_icmp_lt (C : jC cc own Y rm nL K) {x y : Int32} {off : Int} (tgt : Nat) (hd : decode cc pc = .ok (.if_icmp .lt off, 3)) (ht : (pc : Int) + off = (tgt : Int)) (kt : x < y → jJ K k n tgt lo st ws) (kf : ¬ x < y → jJ K k n (pc + 3) lo st ws) : jJ K k n pc lo (.int y :: .int x :: st) ws :=
  fun H locs ls hP hD hS hl => lv_icmp_lt C.1 C.2.1 hd ht (fun c => kt c H locs ls hP hD hS hl) (fun c => kf c H locs ls hP hD hS hl)
theorem jN_icmp_lt (C : jC cc own Y rm nL K) {a b : Nat} {off : Int} (tgt : Nat) (ha : a < 2 ^ 31) (hb : b < 2 ^ 31) (hd : decode cc pc = .ok (.if_icmp .lt off, 3)) (ht : (pc : Int) + off = (tgt : Int)) (kt : a < b → jJ K k n tgt lo st ws) (kf : b ≤ a → jJ K k n (pc + 3) lo st ws) : jJ K k n pc lo (.int (nI b) :: .int (nI a) :: st) ws :=
  j_icmp_lt C tgt hd ht (fun c => kt ((nI_ltI ha hb).mp c)) (fun c => kf (by have h2 : ¬ a < b := fun q => c ((nI_ltI ha hb).mpr q); omega))
theorem j_if_ge (C : jC cc own Y rm nL K) {x : Int32} {off : Int} (tgt : Nat) (hd : decode cc pc = .ok (.ifCond .ge off, 3)) (ht : (pc : Int) + off = (tgt : Int)) (kt : 0 ≤ x → jJ K k n tgt lo st ws) (kf : ¬ 0 ≤ x → jJ K k n (pc + 3) lo st ws) : jJ K k n pc lo (.int x :: st) ws :=
  fun H locs ls hP hD hS hl => lv_if_ge C.1 C.2.1 hd ht (fun c => kt c H locs ls hP hD hS hl) (fun c => kf c H locs ls hP hD hS hl)
theorem j_icmp_ge (C : jC cc own Y rm nL K) {x y : Int32} {off : Int} (tgt : Nat) (hd : decode cc pc = .ok (.if_icmp .ge off, 3)) (ht : (pc : Int) + off = (tgt : Int)) (kt : y ≤ x → jJ K k n tgt lo st ws) (kf : ¬ y ≤ x → jJ K k n (pc + 3) lo st ws) : jJ K k n pc lo (.int y :: .int x :: st) ws :=
  fun H locs ls hP hD hS hl => lv_icmp_ge C.1 C.2.1 hd ht (fun c => kt c H locs ls hP hD hS hl) (fun c => kf c H locs ls hP hD hS hl)
theorem jN_icmp_ge (C : jC cc own Y rm nL K) {a b : Nat} {off : Int} (tgt : Nat) (ha : a < 2 ^ 31) (hb : b < 2 ^ 31) (hd : decode cc pc = .ok (.if_icmp .ge off, 3)) (ht : (pc : Int) + off = (tgt : Int)) (kt : b ≤ a → jJ K k n tgt lo st ws) (kf : a < b → jJ K k n (pc + 3) lo st ws) : jJ K k n pc lo (.int (nI b) :: .int (nI a) :: st) ws :=
  j_icmp_ge C tgt hd ht (fun c => kt ((nI_leI hb ha).mp c)) (fun c => kf (by have h2 : ¬ b ≤ a := fun q => c ((nI_leI hb ha).mpr q); omega))
theorem j_if_gt (C : jC cc own Y rm nL K) {x : Int32} {off : Int} (tgt : Nat) (hd : decode cc pc = .ok (.ifCond .gt off, 3)) (ht : (pc : Int) + off = (tgt : Int)) (kt : 0 < x → jJ K k n tgt lo st ws) (kf : ¬ 0 < x → jJ K k n (pc + 3) lo st ws) : jJ K k n pc lo (.int x :: st) ws :=
  fun H locs ls hP hD hS hl => lv_if_gt C.1 C.2.1 hd ht (fun c => kt c H locs ls hP hD hS hl) (fun c => kf c H locs ls hP hD hS hl)
theorem j_icmp_gt (C : jC cc own Y rm nL K) {x y : Int32} {off : Int} (tgt : Nat) (hd : decode cc pc = .ok (.if_icmp .gt off, 3)) (ht : (pc : Int) + off = (tgt : Int)) (kt : y < x → jJ K k n tgt lo st ws) (kf : ¬ y < x → jJ K k n (pc + 3) lo st ws) : jJ K k n pc lo (.int y :: .int x :: st) ws :=
  fun H locs ls hP hD hS hl => lv_icmp_gt C.1 C.2.1 hd ht (fun c => kt c H locs ls hP hD hS hl) (fun c => kf c H locs ls hP hD hS hl)
theorem jN_icmp_gt (C : jC cc own Y rm nL K) {a b : Nat} {off : Int} (tgt : Nat) (ha : a < 2 ^ 31) (hb : b < 2 ^ 31) (hd : decode cc pc = .ok (.if_icmp .gt off, 3)) (ht : (pc : Int) + off = (tgt : Int)) (kt : b < a → jJ K k n tgt lo st ws) (kf : a ≤ b → jJ K k n (pc + 3) lo st ws) : jJ K k n pc lo (.int (nI b) :: .int (nI a) :: st) ws :=
  j_icmp_gt C tgt hd ht (fun c => kt ((nI_ltI hb ha).mp c)) (fun c => kf (by have h2 : ¬ b < a := fun q => c ((nI_ltI hb ha).mpr q); omega))
theorem j_if_le (C : jC cc own Y rm nL K) {x : Int32} {off : Int} (tgt : Nat) (hd : decode cc pc = .ok (.ifCond .le off, 3)) (ht : (pc : Int) + off = (tgt : Int)) (kt : x ≤ 0 → jJ K k n tgt lo st ws) (kf : ¬ x ≤ 0 → jJ K k n (pc + 3) lo st ws) : jJ K k n pc lo (.int x :: st) ws :=
  fun H locs ls hP hD hS hl => lv_if_le C.1 C.2.1 hd ht (fun c => kt c H locs ls hP hD hS hl) (fun c => kf c H locs ls hP hD hS hl)
theorem j_icmp_le (C : jC cc own Y rm nL K) {x y : Int32} {off : Int} (tgt : Nat) (hd : decode cc pc = .ok (.if_icmp .le off, 3)) (ht : (pc : Int) + off = (tgt : Int)) (kt : x ≤ y → jJ K k n tgt lo st ws) (kf : ¬ x ≤ y → jJ K k n (pc + 3) lo st ws) : jJ K k n pc lo (.int y :: .int x :: st) ws :=
  fun H locs ls hP hD hS hl => lv_icmp_le C.1 C.2.1 hd ht (fun c => kt c H locs ls hP hD hS hl) (fun c => kf c H locs ls hP hD hS hl)
theorem jN_icmp_le (C : jC cc own Y rm nL K) {a b : Nat} {off : Int} (tgt : Nat) (ha : a < 2 ^ 31) (hb : b < 2 ^ 31) (hd : decode cc pc = .ok (.if_icmp .le off, 3)) (ht : (pc : Int) + off = (tgt : Int)) (kt : a ≤ b → jJ K k n tgt lo st ws) (kf : b < a → jJ K k n (pc + 3) lo st ws) : jJ K k n pc lo (.int (nI b) :: .int (nI a) :: st) ws :=
  j_icmp_le C tgt hd ht (fun c => kt ((nI_leI ha hb).mp c)) (fun c => kf (by have h2 : ¬ a ≤ b := fun q => c ((nI_leI ha hb).mpr q); omega))
def bi (b : Bool) : Int32 := if b then 1 else 0
theorem bi_0 (b : Bool) : bi b = 0 ↔ b = false := by cases b <;> decide
theorem bi_1 (b : Bool) : bi b = 1 ↔ b = true := by cases b <;> decide
theorem bi_n0 (b : Bool) : ¬ bi b = 0 ↔ b = true := by cases b <;> decide
theorem bi_inj {a b : Bool} : bi a = bi b ↔ a = b := by cases a <;> cases b <;> decide
theorem bi_nar (b : Bool) : narrow .boolean (.int (bi b)) = .int (bi b) := by cases b <;> decide
theorem bi_vp (b : Bool) : vp_nar .boolean (bi b) = bi b := by cases b <;> decide
theorem bi_fit (b : Bool) : fits .boolean (.int (bi b)) = true := by cases b <;> decide
theorem jB_if_eq (C : jC cc own Y rm nL K) {b : Bool} {off : Int} (tgt : Nat) (hd : decode cc pc = .ok (.ifCond .eq off, 3)) (ht : (pc : Int) + off = (tgt : Int)) (kt : b = false → jJ K k n tgt lo st ws) (kf : b = true → jJ K k n (pc + 3) lo st ws) : jJ K k n pc lo (.int (bi b) :: st) ws :=
  j_if_eq C tgt hd ht (fun c => kt ((bi_0 b).mp c)) (fun c => kf ((bi_n0 b).mp c))
theorem jB_if_ne (C : jC cc own Y rm nL K) {b : Bool} {off : Int} (tgt : Nat) (hd : decode cc pc = .ok (.ifCond .ne off, 3)) (ht : (pc : Int) + off = (tgt : Int)) (kt : b = true → jJ K k n tgt lo st ws) (kf : b = false → jJ K k n (pc + 3) lo st ws) : jJ K k n pc lo (.int (bi b) :: st) ws :=
  j_if_ne C tgt hd ht (fun c => kt ((bi_n0 b).mp c)) (fun c => kf ((bi_0 b).mp c))
theorem j_iald (C : jC cc own Y rm nL K) (q0 : Nat) {a N : Nat} {f : Nat → Int32} (ha : ws[q0]? = some (a, .inl (Y.1, N, .inl f))) {i : Int32} (j : Nat) (hi : i = nI j) (hj : j < N) (hN : N < 2 ^ 31) (hd : decode cc pc = .ok (.iaload, 1)) (kk : jJ K k n (pc + 1) lo (.int (f j) :: st) ws) : jJ K k n pc lo (.int i :: .ref a :: st) ws := by
  subst hi
  intro H locs ls hP hD hS hl
  have h := kk H locs ls hP hD hS hl
  rw [← nI_clamp (n := j) (by omega)] at h
  exact va_iald C.1 C.2.1 C.2.2.2.2.1 hP q0 0 ha rfl (vp_in_nI hj hN) hd h
theorem j_zald (C : jC cc own Y rm nL K) (q0 : Nat) {a N : Nat} {f : Nat → Int32} (ha : ws[q0]? = some (a, .inl (Y.2.1, N, .inl f))) {i : Int32} (j : Nat) (hi : i = nI j) (hj : j < N) (hN : N < 2 ^ 31) (hd : decode cc pc = .ok (.baload, 1)) (kk : jJ K k n (pc + 1) lo (.int (f j) :: st) ws) : jJ K k n pc lo (.int i :: .ref a :: st) ws := by
  subst hi
  intro H locs ls hP hD hS hl
  have h := kk H locs ls hP hD hS hl
  rw [← nI_clamp (n := j) (by omega)] at h
  exact va_zald C.1 C.2.1 C.2.2.2.2.1 hP q0 1 ha rfl (vp_in_nI hj hN) hd h
theorem j_iast (C : jC cc own Y rm nL K) (q0 : Nat) {a N : Nat} {f : Nat → Int32} (ha : ws[q0]? = some (a, .inl (Y.1, N, .inl f))) {i x : Int32} (j : Nat) (hi : i = nI j) (hj : j < N) (hN : N < 2 ^ 31) {ws2 : va_W} (hd : decode cc pc = .ok (.iastore, 1)) (hs : ws.set q0 (a, .inl (Y.1, N, .inl (upd f j x))) = ws2) (kk : jJ K k n (pc + 1) lo st ws2) : jJ K k n pc lo (.int x :: .int i :: .ref a :: st) ws := by
  subst hi
  subst hs
  intro H locs ls hP hD hS hl
  refine va_iast C.1 C.2.1 C.2.2.2.2.1 hP hD hS q0 0 ha rfl (vp_in_nI hj hN) hd (fun H1 locs1 hP1 hD1 hS1 => ?_)
  rw [nI_clamp (n := j) (by omega)] at hP1 hD1
  exact kk H1 locs1 ls hP1 hD1 hS1 hl
theorem j_zast (C : jC cc own Y rm nL K) (q0 : Nat) {a N : Nat} {f : Nat → Int32} (ha : ws[q0]? = some (a, .inl (Y.2.1, N, .inl f))) {i x : Int32} (j : Nat) (hi : i = nI j) (hj : j < N) (hN : N < 2 ^ 31) {ws2 : va_W} (hd : decode cc pc = .ok (.bastore, 1)) (hs : ws.set q0 (a, .inl (Y.2.1, N, .inl (upd f j (vp_nar .boolean x)))) = ws2) (kk : jJ K k n (pc + 1) lo st ws2) : jJ K k n pc lo (.int x :: .int i :: .ref a :: st) ws := by
  subst hi
  subst hs
  intro H locs ls hP hD hS hl
  refine va_zast C.1 C.2.1 C.2.2.2.2.1 hP hD hS q0 1 ha rfl (vp_in_nI hj hN) hd (fun H1 locs1 hP1 hD1 hS1 => ?_)
  rw [nI_clamp (n := j) (by omega)] at hP1 hD1
  exact kk H1 locs1 ls hP1 hD1 hS1 hl
theorem j_alenG (C : jC cc own Y rm nL K) (q0 t0 : Nat) {a : Nat} {cA : ClassId} {x : vp_A} {ty : FieldType} (ha : ws[q0]? = some (a, .inl (cA, x))) (ht : (jtys Y)[t0]? = some (cA, ty)) {v : Int32} (hv : nI x.1 = v) (hd : decode cc pc = .ok (.arraylength, 1)) (kk : jJ K k n (pc + 1) lo (.int v :: st) ws) : jJ K k n pc lo (.ref a :: st) ws :=
  fun H locs ls hP hD hS hl => va_alen C.1 C.2.1 C.2.2.2.2.1 hP q0 t0 ha ht hv hd (kk H locs ls hP hD hS hl)
theorem j_get (C : jC cc own Y rm nL K) {cn ref : String} {T : u_T} {N ci ix : Nat} (hin : ∀ w ∈ u_ws cn T N, w ∈ wG) (q0 : Nat) {a : Nat} {fs : List Value} (he : ws[q0]? = some (a, .inr (ci, fs))) (hc : vwCl[ci]? = some (cn, T, N)) (kf : Nat) (hk : kf < N) (hl0 : Cond.fieldLink own ix ref (T kf).2.1 (T kf).2.2.1 ∈ wG) (href : (T kf).1 = ref) {v : Value} (hv : fs[kf]? = some v) (hd : decode cc pc = .ok (.getfield ix, 3)) (kk : jJ K k n (pc + 3) lo (v :: st) ws) : jJ K k n pc lo (.ref a :: st) ws :=
  fun H locs ls hP hD hS hl => va_get C.1 C.2.1 C.2.2.2.1 hin C.2.2.1 C.2.2.2.2.1 hP q0 he hc kf hk (C.2.2.2.1 _ hl0) (fun x h => by rw [← href]; exact h) hv hd (kk H locs ls hP hD hS hl)
theorem j_put (C : jC cc own Y rm nL K) {cn ref : String} {T : u_T} {N ci ix : Nat} (hin : ∀ w ∈ u_ws cn T N, w ∈ wG) (ty0 : Nat → FieldType) (hty : ∀ k, k < N → parseFieldDescriptor (T k).2.2.1 = some (ty0 k)) (hnm : ∀ a, a < N → ∀ b, b < N → a ≠ b → (T a).2.1 ≠ (T b).2.1) (q0 : Nat) {a : Nat} {fs : List Value} (he : ws[q0]? = some (a, .inr (ci, fs))) (hc : vwCl[ci]? = some (cn, T, N)) (kf : Nat) (hk : kf < N) (hl0 : Cond.fieldLink own ix ref (T kf).2.1 (T kf).2.2.1 ∈ wG) (href : (T kf).1 = ref) (hfin : (T kf).2.2.2 = false) {v : Value} (hn : narrow (ty0 kf) v = v) (hfit : fits (ty0 kf) v = true) (hlen : kf < fs.length) {ws2 : va_W} (hd : decode cc pc = .ok (.putfield ix, 3)) (hs : ws.set q0 (a, .inr (ci, fs.set kf v)) = ws2) (kk : jJ K k n (pc + 3) lo st ws2) : jJ K k n pc lo (v :: .ref a :: st) ws := by
  subst hs
  exact fun H locs ls hP hD hS hl => va_put C.1 C.2.1 C.2.2.2.1 hin ty0 hty hnm C.2.2.1 C.2.2.2.2.1 hP hD hS q0 he hc kf hk (C.2.2.2.1 _ hl0) (fun x h => by rw [← href]; exact h) hfin (hty kf hk) hn hfit hlen hd (fun H1 locs1 hP1 hD1 hS1 => kk H1 locs1 ls hP1 hD1 hS1 hl)
theorem j_putF (C : jC cc own Y rm nL K) (hini : K.2.1.2.2.2.1.name = "<init>") {cn ref : String} {T : u_T} {N ci ix : Nat} (hin : ∀ w ∈ u_ws cn T N, w ∈ wG) (ty0 : Nat → FieldType) (hty : ∀ k, k < N → parseFieldDescriptor (T k).2.2.1 = some (ty0 k)) (hnm : ∀ a, a < N → ∀ b, b < N → a ≠ b → (T a).2.1 ≠ (T b).2.1) (q0 : Nat) {a : Nat} {fs : List Value} (he : ws[q0]? = some (a, .inr (ci, fs))) (hc : vwCl[ci]? = some (cn, T, N)) (kf : Nat) (hk : kf < N) (hl0 : Cond.fieldLink own ix ref (T kf).2.1 (T kf).2.2.1 ∈ wG) (href : (T kf).1 = ref) (hfin : (T kf).2.2.2 = true) (hdec : (T kf).1 = own) {v : Value} (hn : narrow (ty0 kf) v = v) (hfit : fits (ty0 kf) v = true) (hlen : kf < fs.length) {ws2 : va_W} (hd : decode cc pc = .ok (.putfield ix, 3)) (hs : ws.set q0 (a, .inr (ci, fs.set kf v)) = ws2) (kk : jJ K k n (pc + 3) lo st ws2) : jJ K k n pc lo (v :: .ref a :: st) ws := by
  subst hs
  exact fun H locs ls hP hD hS hl => va_putF C.1 C.2.1 C.2.2.2.1 hin ty0 hty hnm C.2.2.1 C.2.2.2.2.1 hP hD hS q0 he hc kf hk (C.2.2.2.1 _ hl0) (fun x h => by rw [← href]; exact h) hfin hini hdec (hty kf hk) hn hfit hlen hd (fun H1 locs1 hP1 hD1 hS1 => kk H1 locs1 ls hP1 hD1 hS1 hl)
theorem j_newa_int (C : jC cc own Y rm nL K) (N : Nat) {x : Int32} (hx : x = nI N) (hN : N < 100000) (hk : k + 1 ≤ rm.cells) (hn : n + N ≤ rm.slots) (hd : decode cc pc = .ok (.newarray .int, 2)) (kk : ∀ q : Nat, jJ K (k + 1) (n + N) (pc + 2) lo (.ref q :: st) (ws ++ [(q, .inl (Y.1, N, .inl (fun _ => 0)))])) : jJ K k n pc lo (.int x :: st) ws := by
  subst hx
  intro H locs ls hP hD hS hl
  have hcl : (nI N).toNatClampNeg = N := nI_clamp (by omega)
  refine va_newa (atype := .int) (a0 := (N, .inl (fun _ => 0))) (ty := .int) (N' := N) C.1 C.2.1 (C.2.2.2.1 _ wd_ac_int) rfl C.2.2.2.2.1 hP hD hS C.2.2.2.2.2.1 (fun cA => rfl) (nI_pos (by omega)) hcl (by show N * _ ≤ 536870912; simp only [componentBytes]; omega) (by rw [C.2.2.2.2.2.2.2.2.1]; exact hk) (by rw [C.2.2.2.2.2.2.2.2.1]; exact hn) hd (fun q cA H1 hK1 hP1 hD1 hS1 => ?_)
  have e1 := (C.2.2.2.2.1.2 0 _ rfl).2
  have e2 := (hK1.2 3 (cA, .int) rfl).2
  have e3 : cA = Y.1 := by
    have e4 : some cA = some Y.1 := e2.symm.trans e1
    exact Option.some.inj e4
  subst e3
  exact kk q H1 locs ls hP1 hD1 hS1 hl
theorem j_newa_boolean (C : jC cc own Y rm nL K) (N : Nat) {x : Int32} (hx : x = nI N) (hN : N < 100000) (hk : k + 1 ≤ rm.cells) (hn : n + N ≤ rm.slots) (hd : decode cc pc = .ok (.newarray .boolean, 2)) (kk : ∀ q : Nat, jJ K (k + 1) (n + N) (pc + 2) lo (.ref q :: st) (ws ++ [(q, .inl (Y.2.1, N, .inl (fun _ => 0)))])) : jJ K k n pc lo (.int x :: st) ws := by
  subst hx
  intro H locs ls hP hD hS hl
  have hcl : (nI N).toNatClampNeg = N := nI_clamp (by omega)
  refine va_newa (atype := .boolean) (a0 := (N, .inl (fun _ => 0))) (ty := .boolean) (N' := N) C.1 C.2.1 (C.2.2.2.1 _ wd_ac_boolean) rfl C.2.2.2.2.1 hP hD hS C.2.2.2.2.2.1 (fun cA => rfl) (nI_pos (by omega)) hcl (by show N * _ ≤ 536870912; simp only [componentBytes]; omega) (by rw [C.2.2.2.2.2.2.2.2.1]; exact hk) (by rw [C.2.2.2.2.2.2.2.2.1]; exact hn) hd (fun q cA H1 hK1 hP1 hD1 hS1 => ?_)
  have e1 := (C.2.2.2.2.1.2 1 _ rfl).2
  have e2 := (hK1.2 3 (cA, .boolean) rfl).2
  have e3 : cA = Y.2.1 := by
    have e4 : some cA = some Y.2.1 := e2.symm.trans e1
    exact Option.some.inj e4
  subst e3
  exact kk q H1 locs ls hP1 hD1 hS1 hl
-- objects
theorem j_new (C : jC cc own Y rm nL K) {cn : String} {T : u_T} {N ci ix : Nat} (hin : ∀ w ∈ u_ws cn T N, w ∈ wG) (ty0 : Nat → FieldType) (hty : ∀ k, k < N → parseFieldDescriptor (T k).2.2.1 = some (ty0 k)) (hcl : Cond.classLink own ix cn ∈ wG) (hit : Cond.instantiable cn N ∈ wG) (hii : Cond.initialized cn ∈ wG) (hc : vwCl[ci]? = some (cn, T, N)) {fs : List Value} (hfs : ∀ j, j < N → defaultValue (ty0 j) = vp_V fs j) (hk : k + 1 ≤ rm.cells) (hn : n + N ≤ rm.slots) (hd : decode cc pc = .ok (.new ix, 3)) (kk : ∀ q : Nat, jJ K (k + 1) (n + N) (pc + 3) lo (.ref q :: st) (ws ++ [(q, .inr (ci, fs))])) : jJ K k n pc lo st ws :=
  fun H locs ls hP hD hS hl => va_new C.1 C.2.1 C.2.2.2.1 hin ty0 hty C.2.2.1 (C.2.2.2.1 _ hcl) (C.2.2.2.1 _ hit) (C.2.2.2.1 _ hii) C.2.2.2.2.1 hP hD hS C.2.2.2.2.2.1 hc hfs (by rw [C.2.2.2.2.2.2.2.2.1]; exact hk) (by rw [C.2.2.2.2.2.2.2.2.1]; exact hn) hd (fun q H1 hP1 hD1 hS1 => kk q H1 locs ls hP1 hD1 hS1 hl)
theorem j_objInit (C : jC cc own Y rm nL K) {ix a : Nat} (hl0 : Cond.methodLink own ix objectInit ∈ wG) (hd : decode cc pc = .ok (.invokespecial ix, 3)) (hst : (st.map fun v => v.category).sum = 0) (hf : 1 ≤ rm.frames) (hlo : 12 ≤ rm.locals) (kk : jJ K k n (pc + 3) lo st ws) : jJ K k n pc lo (.ref a :: st) ws :=
  fun H locs ls hP hD hS hl => W.objInit C.1 C.2.1 C.2.2.1 (C.2.2.2.1 _ hl0) (C.2.2.2.1 _ wd_im_oi) (C.2.2.2.1 _ wd_co_oi) rfl (by rw [C.2.2.2.2.2.2.1]; exact hl.1) rfl hd (by rw [C.2.2.2.2.2.2.2.2.1]; exact hf) (by rw [C.2.2.2.2.2.2.2.2.1, hst]; exact hlo) (kk H locs ls hP hD hS hl)
-- the ends
theorem jw_Q {p : Program} {l : Launch} {e : Env} {R : Room} {s : State} {m : MethodId} {args : Array Value} {below : List Frame} {meth : Method} {c : Code} {H : Heap} {locs : List Loc} {cells slots : Nat} {Q Q' : State → Prop} {g : JFrame} (h : ∀ t, Q t → Q' t) (kk : W p l e R s m args below meth c H locs cells slots Q g) : W p l e R s m args below meth c H locs cells slots Q' g := by
  intro T hT X
  obtain ⟨t, a, b⟩ := kk T hT X
  exact ⟨t, a, h t b⟩
def jI (P : Int32 → va_W → Prop) : jp_T := fun r w => ∃ x, r = some (.int x) ∧ P x w
def jV (P : va_W → Prop) : jp_T := fun r w => r = none ∧ P w
def jA (P : Nat → va_W → Prop) : jp_T := fun r w => ∃ x, r = some (.ref x) ∧ P x w
theorem jq_of (C : jC cc own Y rm nL K) {Pst : jp_T} {H : Heap} {locs : List Loc} {r : Option Value} (hp : Pst r ws) (hP : va_P K.2.2.2.1 vwCl ws H) (hD : va_D K.2.2.1.1 ws) (hS : va_S K.2.2.1.1 K.1.2.2.2.2.heap H locs) {t : State} (ht : t.heap = H) (hW : K.1.2.2.2.2.WarmedH t.vm) : jQ K.2.2.2.1 Y K.2.2.1.1 Pst K.2.1.2.1 K.1.2.2.2.2 (.returned r) t :=
  ⟨⟨r, ws, rfl, hp, by rw [ht]; exact hP, va_K.moved hW.alike C.2.2.2.2.1, hD⟩, hS.F ht⟩
theorem j_reti (C : jC cc own Y rm nL K) {P : Int32 → va_W → Prop} (hR : jR Y (some .int) k n (jI P) K) {x : Int32} (hd : decode cc pc = .ok (.ireturn, 1)) (hp : P x ws) : jJ K k n pc lo [.int x] ws :=
  fun H locs ls hP hD hS hl => jw_Q hR.2 (W.iret C.1 C.2.1 hR.1 (fun t ht hW => jq_of C ⟨x, rfl, hp⟩ hP hD hS ht hW) hS.2.2 hd C.2.2.2.2.2.2.2.1)
theorem j_retz (C : jC cc own Y rm nL K) {P : Int32 → va_W → Prop} (hR : jR Y (some .boolean) k n (jI P) K) {x : Int32} (hd : decode cc pc = .ok (.ireturn, 1)) (hn : narrow .boolean (.int x) = .int x) (hp : P x ws) : jJ K k n pc lo [.int x] ws :=
  fun H locs ls hP hD hS hl => jw_Q hR.2 (W.zret C.1 C.2.1 hR.1 hn (fun t ht hW => jq_of C ⟨x, rfl, hp⟩ hP hD hS ht hW) hS.2.2 hd C.2.2.2.2.2.2.2.1)
theorem j_retv (C : jC cc own Y rm nL K) {P : va_W → Prop} (hR : jR Y none k n (jV P) K) (hd : decode cc pc = .ok (.return_, 1)) (hp : P ws) : jJ K k n pc lo [] ws :=
  fun H locs ls hP hD hS hl => jw_Q hR.2 (W.vret C.1 C.2.1 hR.1 (fun t ht hW => jq_of C ⟨rfl, hp⟩ hP hD hS ht hW) hS.2.2 hd C.2.2.2.2.2.2.2.1)
theorem j_reta (C : jC cc own Y rm nL K) {P : Nat → va_W → Prop} {tt : FieldType} (hR : jR Y (some (.array tt)) k n (jA P) K) {x : Nat} (hd : decode cc pc = .ok (.areturn, 1)) (hp : P x ws) : jJ K k n pc lo [.ref x] ws :=
  fun H locs ls hP hD hS hl => jw_Q hR.2 (W.aret C.1 C.2.1 hR.1 (Or.inr ⟨_, rfl⟩) (Or.inr ⟨_, rfl⟩) (fun t ht hW => jq_of C ⟨x, rfl, hp⟩ hP hD hS ht hW) hS.2.2 hd C.2.2.2.2.2.2.2.1)
-- the start
theorem j_enter {l : Launch} {y : MethodName} {maxL : Nat} {ret : Option FieldType} {D : va_G} {av : List Value} {w0 : va_W} {Pst : jp_T} (hy : plainName y.cls = true) (hlen : av.length ≤ maxL) (hcat : ∀ v ∈ av, v.category = 1)
    (body : ∀ K : jk_T, K.1.2.1 = l → K.2.2.2.1 = D → K.2.1.2.2.2.1.name = y.name → jC cc y.cls Y rm maxL K → jR Y ret rm.cells rm.slots Pst K → jJ K 0 0 0 (jargs av maxL) [] w0) : MJ l y cc maxL ret rm D Y av w0 Pst := by
  intro sz
  refine Met.ofW (cc := cc) (maxL := maxL) (ret := ret) hy rfl ?_
  intro p e s m args below meth c s₁ B hml hv
  obtain ⟨rfl, hsz, hP, hK, hD0⟩ := hv
  have hnm := name_of_methodNamed B.named B.method
  have hts := wG_head (atoms_spec (ws := Cond.code y cc maxL ret :: wG) B.pre)
  have hown : s.vm.findClass y.cls = some m.cls := findClass_of_methodNamed B.named
  subst hsz
  have hD := hD0.self (sz := s.heap.size)
  rw [lg_entry_eq]
  exact body ((p, l, e, rm, s), (m, av.toArray, below, meth, c), (va_A w0 s.heap.size, _), D, maxL) rfl rfl hnm.1
    ⟨B.exec, B.bytes, hown, hts, hK, fun q h => Or.inr h, hml, B.notSynchronized, rfl, rfl⟩ ⟨B.returns, fun t h => h⟩
    s.heap [] _ hP hD va_S.rf (jl_entry av hlen hcat)
-- calls on the whole world
theorem j_run (C : jC cc own Y rm nL K) {Pst : jp_T} {mc ms : Nat} {ops : List Value}
    (hr : ∀ (H : Heap) (locs : List Loc) (ls : Array Slot), va_P K.2.2.2.1 vwCl ws H → va_D K.2.2.1.1 ws → va_S K.2.2.1.1 K.1.2.2.2.2.heap H locs → jl_has ls K.2.2.2.2 lo →
      va_Run K.1.1 K.1.2.1 K.1.2.2.1 K.1.2.2.2.1 K.1.2.2.2.2 K.2.1.1 K.2.1.2.1 K.2.1.2.2.1 K.2.1.2.2.2.1 K.2.1.2.2.2.2 H locs k n mc ms (F0 K.2.1.1 pc ls ops) st (jQ K.2.2.2.1 Y (va_A ws H.size) Pst #[]) (va_A ws H.size))
    (kk : ∀ r w1, Pst r w1 → jJ K (k + mc) (n + ms) (pc + 3) lo (r.toList ++ st) w1) : jJ K k n pc lo ops ws := by
  intro H locs ls hP hD hS hl T hT X
  obtain ⟨v, st₀, t, T', L, h0, X', hL, e1, e2, ⟨⟨r, w1, hv, hp, hP1, hK1, hD1⟩, hz, hk⟩, hst⟩ := hr H locs ls hP hD hS hl T hT X
  cases hv
  rw [h0] at hz hk
  have hAA : ∀ q, va_A ws H.size q → K.2.2.1.1 q := by
    intro q hq
    rcases hq with ⟨i, en, hi⟩ | hq
    · exact hD.2 i _ hi
    · exact C.2.2.2.2.2.1 q (Nat.le_trans hS.1 hq)
  have hS1 : va_S K.2.2.1.1 K.1.2.2.2.2.heap T'.heap (locs ++ L) := ⟨Nat.le_trans hS.1 (by rw [e1]; exact hz), fun q h1 h2 => by
      rw [e1, hk q (Nat.lt_of_lt_of_le h1 hS.1) (fun z => h2 (hAA q z))]; exact hS.2.1 q h1 h2, fun q hq => by
      rcases List.mem_append.mp hq with h | h
      · exact hS.2.2 q h
      · exact hAA _ (hL q h)⟩
  obtain ⟨t2, a1, b1⟩ := kk v w1 hp T'.heap (locs ++ L) ls (by rw [e1]; exact hP1) (hD1.weaken (fun _ q _ h => hAA _ h)) hS1 hl T' rfl X'
  exact ⟨t2, hst t2 a1, b1⟩
theorem jPc_blind {D : va_G} {av : List Value} {w0 : va_W} {sz : Nat} : FrameBlind (jPc D Y av w0 sz) := fun a U g mk q => by
  obtain ⟨q0, q1, qP, qK, qD⟩ := q
  exact ⟨q0, q1, qP, va_K.moved (u := U) (U := U.calling g mk a) (Vm.Alike.refl U.vm) qK, qD⟩
theorem j_callV (C : jC cc own Y rm nL K) {y : MethodName} {cy : ByteArray} {mL ix : Nat} {ret : Option FieldType} {rmy : Room} {a : Nat} {As : List Value} {Pst : jp_T}
    (hM : MJ K.1.2.1 y cy mL ret rmy K.2.2.2.1 Y (.ref a :: As) ws Pst) (hG : GoodIn wG (wsV own ix y.cls y (Cond.code y cy mL ret :: wG)))
    (hn : (y.cls ≠ "java/lang/invoke/MethodHandle" ∧ y.cls ≠ "java/lang/invoke/VarHandle" ∧ (parseMethodDescriptor y.desc).map (fun d => d.parameters.length) = some As.length))
    {ci q0 : Nat} {q : vw_C} {fs : List Value} (hc : vwCl[ci]? = some q) (hq : q.1 = y.cls) (he : ws[q0]? = some (a, .inr (ci, fs)))
    (hroom : rmy.frames + 1 ≤ rm.frames ∧ 8 + (mL + 11) + rmy.locals ≤ rm.locals) (hcells : k + rmy.cells ≤ rm.cells ∧ n + rmy.slots ≤ rm.slots)
    (hst : (st.map fun v => v.category).sum ≤ 8) (hd : decode cc pc = .ok (.invokevirtual ix, 3))
    (kk : ∀ r w1, Pst r w1 → jJ K (k + rmy.cells) (n + rmy.slots) (pc + 3) lo (r.toList ++ st) w1) : jJ K k n pc lo (As.reverse ++ .ref a :: st) ws := by
  refine j_run C (fun H locs ls hP hD hS hl => ?_) kk
  have hrec := va_recv C.2.2.2.2.1 hP hc he
  rw [hq] at hrec
  exact va_runV (As := As) (rest := st) (g := F0 K.2.1.1 pc ls (As.reverse ++ .ref a :: st)) ⟨C.1, C.2.1, C.2.2.2.2.2.2.1, C.2.2.1, C.2.2.2.1⟩ (hM H.size) (cwV As.length C.2.2.2.1 hG rfl rfl rfl ⟨rfl, hn⟩ (by rw [C.2.2.2.2.2.2.2.2.1]; exact hroom))
    ⟨jPc_blind, hrec, fun U hU hW => ⟨rfl, by rw [hU], by rw [hU]; exact hP, va_K.moved hW.alike C.2.2.2.2.1, hD.weaken (fun _ _ _ _ => trivial)⟩⟩ rfl rfl hl.1 rfl (lv_room hst) hd (by rw [C.2.2.2.2.2.2.2.2.1]; exact hcells)
theorem j_callS (C : jC cc own Y rm nL K) {y : MethodName} {cy : ByteArray} {mL ix : Nat} {ret : Option FieldType} {rmy : Room} {As : List Value} {Pst : jp_T}
    (hM : MJ K.1.2.1 y cy mL ret rmy K.2.2.2.1 Y As ws Pst) (hG : GoodIn wG (wsS own ix y (Cond.code y cy mL ret :: wG))) (hown : y.cls = own)
    (hn : (y.cls ≠ "java/lang/invoke/MethodHandle" ∧ y.cls ≠ "java/lang/invoke/VarHandle" ∧ (parseMethodDescriptor y.desc).map (fun d => d.parameters.length) = some As.length))
    (hroom : rmy.frames + 1 ≤ rm.frames ∧ 8 + (mL + 11) + rmy.locals ≤ rm.locals) (hcells : k + rmy.cells ≤ rm.cells ∧ n + rmy.slots ≤ rm.slots)
    (hst : (st.map fun v => v.category).sum ≤ 8) (hd : decode cc pc = .ok (.invokestatic ix, 3))
    (kk : ∀ r w1, Pst r w1 → jJ K (k + rmy.cells) (n + rmy.slots) (pc + 3) lo (r.toList ++ st) w1) : jJ K k n pc lo (As.reverse ++ st) ws := by
  refine j_run C (fun H locs ls hP hD hS hl => ?_) kk
  exact va_runS (As := As) (rest := st) (g := F0 K.2.1.1 pc ls (As.reverse ++ st)) ⟨C.1, C.2.1, C.2.2.2.2.2.2.1, C.2.2.1, C.2.2.2.1⟩ (hM H.size) (cwS As.length C.2.2.2.1 hG rfl rfl rfl ⟨hown, hn⟩ (by rw [C.2.2.2.2.2.2.2.2.1]; exact hroom))
    ⟨jPc_blind, fun U hU hW => ⟨rfl, by rw [hU], by rw [hU]; exact hP, va_K.moved hW.alike C.2.2.2.2.1, hD.weaken (fun _ _ _ _ => trivial)⟩⟩ rfl rfl hl.1 rfl (lv_room hst) hd (by rw [C.2.2.2.2.2.2.2.2.1]; exact hcells)
theorem j_callV0i (C : jC cc own Y rm nL K) {y : MethodName} {cy : ByteArray} {mL ix : Nat} {ret : Option FieldType} {rmy : Room} {a : Nat}  {P : Int32 → va_W → Prop}
    (hM : MJ K.1.2.1 y cy mL ret rmy K.2.2.2.1 Y (.ref a :: []) ws (jI P)) (hG : GoodIn wG (wsV own ix y.cls y (Cond.code y cy mL ret :: wG)))
    (hn : (y.cls ≠ "java/lang/invoke/MethodHandle" ∧ y.cls ≠ "java/lang/invoke/VarHandle" ∧ (parseMethodDescriptor y.desc).map (fun d => d.parameters.length) = some 0))
    (ci q0 : Nat) {q : vw_C} {fs : List Value} (hc : vwCl[ci]? = some q) (hq : q.1 = y.cls) (he : ws[q0]? = some (a, .inr (ci, fs)))
    (hroom : rmy.frames + 1 ≤ rm.frames ∧ 8 + (mL + 11) + rmy.locals ≤ rm.locals) (hcells : k + rmy.cells ≤ rm.cells ∧ n + rmy.slots ≤ rm.slots)
    (hst : (st.map fun v => v.category).sum ≤ 8) (hd : decode cc pc = .ok (.invokevirtual ix, 3)) (kk : ∀ (x : Int32) w1, P x w1 → jJ K (k + rmy.cells) (n + rmy.slots) (pc + 3) lo (.int x :: st) w1) : jJ K k n pc lo (.ref a :: st) ws :=
  j_callV C (As := []) hM hG hn hc hq he hroom hcells hst hd (fun r w1 hp => by obtain ⟨x, rfl, hp⟩ := hp; exact kk x w1 hp)
theorem j_callS0i (C : jC cc own Y rm nL K) {y : MethodName} {cy : ByteArray} {mL ix : Nat} {ret : Option FieldType} {rmy : Room}  {P : Int32 → va_W → Prop}
    (hM : MJ K.1.2.1 y cy mL ret rmy K.2.2.2.1 Y [] ws (jI P)) (hG : GoodIn wG (wsS own ix y (Cond.code y cy mL ret :: wG))) (hown : y.cls = own)
    (hn : (y.cls ≠ "java/lang/invoke/MethodHandle" ∧ y.cls ≠ "java/lang/invoke/VarHandle" ∧ (parseMethodDescriptor y.desc).map (fun d => d.parameters.length) = some 0))
    (hroom : rmy.frames + 1 ≤ rm.frames ∧ 8 + (mL + 11) + rmy.locals ≤ rm.locals) (hcells : k + rmy.cells ≤ rm.cells ∧ n + rmy.slots ≤ rm.slots)
    (hst : (st.map fun v => v.category).sum ≤ 8) (hd : decode cc pc = .ok (.invokestatic ix, 3)) (kk : ∀ (x : Int32) w1, P x w1 → jJ K (k + rmy.cells) (n + rmy.slots) (pc + 3) lo (.int x :: st) w1) : jJ K k n pc lo (st) ws :=
  j_callS C (As := []) hM hG hown hn hroom hcells hst hd (fun r w1 hp => by obtain ⟨x, rfl, hp⟩ := hp; exact kk x w1 hp)
theorem j_callV1i (C : jC cc own Y rm nL K) {y : MethodName} {cy : ByteArray} {mL ix : Nat} {ret : Option FieldType} {rmy : Room} {a : Nat} {v1 : Value} {P : Int32 → va_W → Prop}
    (hM : MJ K.1.2.1 y cy mL ret rmy K.2.2.2.1 Y (.ref a :: [v1]) ws (jI P)) (hG : GoodIn wG (wsV own ix y.cls y (Cond.code y cy mL ret :: wG)))
    (hn : (y.cls ≠ "java/lang/invoke/MethodHandle" ∧ y.cls ≠ "java/lang/invoke/VarHandle" ∧ (parseMethodDescriptor y.desc).map (fun d => d.parameters.length) = some 1))
    (ci q0 : Nat) {q : vw_C} {fs : List Value} (hc : vwCl[ci]? = some q) (hq : q.1 = y.cls) (he : ws[q0]? = some (a, .inr (ci, fs)))
    (hroom : rmy.frames + 1 ≤ rm.frames ∧ 8 + (mL + 11) + rmy.locals ≤ rm.locals) (hcells : k + rmy.cells ≤ rm.cells ∧ n + rmy.slots ≤ rm.slots)
    (hst : (st.map fun v => v.category).sum ≤ 8) (hd : decode cc pc = .ok (.invokevirtual ix, 3)) (kk : ∀ (x : Int32) w1, P x w1 → jJ K (k + rmy.cells) (n + rmy.slots) (pc + 3) lo (.int x :: st) w1) : jJ K k n pc lo (v1 :: .ref a :: st) ws :=
  j_callV C (As := [v1]) hM hG hn hc hq he hroom hcells hst hd (fun r w1 hp => by obtain ⟨x, rfl, hp⟩ := hp; exact kk x w1 hp)
theorem j_callS1i (C : jC cc own Y rm nL K) {y : MethodName} {cy : ByteArray} {mL ix : Nat} {ret : Option FieldType} {rmy : Room} {v1 : Value} {P : Int32 → va_W → Prop}
    (hM : MJ K.1.2.1 y cy mL ret rmy K.2.2.2.1 Y [v1] ws (jI P)) (hG : GoodIn wG (wsS own ix y (Cond.code y cy mL ret :: wG))) (hown : y.cls = own)
    (hn : (y.cls ≠ "java/lang/invoke/MethodHandle" ∧ y.cls ≠ "java/lang/invoke/VarHandle" ∧ (parseMethodDescriptor y.desc).map (fun d => d.parameters.length) = some 1))
    (hroom : rmy.frames + 1 ≤ rm.frames ∧ 8 + (mL + 11) + rmy.locals ≤ rm.locals) (hcells : k + rmy.cells ≤ rm.cells ∧ n + rmy.slots ≤ rm.slots)
    (hst : (st.map fun v => v.category).sum ≤ 8) (hd : decode cc pc = .ok (.invokestatic ix, 3)) (kk : ∀ (x : Int32) w1, P x w1 → jJ K (k + rmy.cells) (n + rmy.slots) (pc + 3) lo (.int x :: st) w1) : jJ K k n pc lo (v1 :: st) ws :=
  j_callS C (As := [v1]) hM hG hown hn hroom hcells hst hd (fun r w1 hp => by obtain ⟨x, rfl, hp⟩ := hp; exact kk x w1 hp)
theorem j_callV2i (C : jC cc own Y rm nL K) {y : MethodName} {cy : ByteArray} {mL ix : Nat} {ret : Option FieldType} {rmy : Room} {a : Nat} {v1 v2 : Value} {P : Int32 → va_W → Prop}
    (hM : MJ K.1.2.1 y cy mL ret rmy K.2.2.2.1 Y (.ref a :: [v1, v2]) ws (jI P)) (hG : GoodIn wG (wsV own ix y.cls y (Cond.code y cy mL ret :: wG)))
    (hn : (y.cls ≠ "java/lang/invoke/MethodHandle" ∧ y.cls ≠ "java/lang/invoke/VarHandle" ∧ (parseMethodDescriptor y.desc).map (fun d => d.parameters.length) = some 2))
    (ci q0 : Nat) {q : vw_C} {fs : List Value} (hc : vwCl[ci]? = some q) (hq : q.1 = y.cls) (he : ws[q0]? = some (a, .inr (ci, fs)))
    (hroom : rmy.frames + 1 ≤ rm.frames ∧ 8 + (mL + 11) + rmy.locals ≤ rm.locals) (hcells : k + rmy.cells ≤ rm.cells ∧ n + rmy.slots ≤ rm.slots)
    (hst : (st.map fun v => v.category).sum ≤ 8) (hd : decode cc pc = .ok (.invokevirtual ix, 3)) (kk : ∀ (x : Int32) w1, P x w1 → jJ K (k + rmy.cells) (n + rmy.slots) (pc + 3) lo (.int x :: st) w1) : jJ K k n pc lo (v2 :: v1 :: .ref a :: st) ws :=
  j_callV C (As := [v1, v2]) hM hG hn hc hq he hroom hcells hst hd (fun r w1 hp => by obtain ⟨x, rfl, hp⟩ := hp; exact kk x w1 hp)
theorem j_callS2i (C : jC cc own Y rm nL K) {y : MethodName} {cy : ByteArray} {mL ix : Nat} {ret : Option FieldType} {rmy : Room} {v1 v2 : Value} {P : Int32 → va_W → Prop}
    (hM : MJ K.1.2.1 y cy mL ret rmy K.2.2.2.1 Y [v1, v2] ws (jI P)) (hG : GoodIn wG (wsS own ix y (Cond.code y cy mL ret :: wG))) (hown : y.cls = own)
    (hn : (y.cls ≠ "java/lang/invoke/MethodHandle" ∧ y.cls ≠ "java/lang/invoke/VarHandle" ∧ (parseMethodDescriptor y.desc).map (fun d => d.parameters.length) = some 2))
    (hroom : rmy.frames + 1 ≤ rm.frames ∧ 8 + (mL + 11) + rmy.locals ≤ rm.locals) (hcells : k + rmy.cells ≤ rm.cells ∧ n + rmy.slots ≤ rm.slots)
    (hst : (st.map fun v => v.category).sum ≤ 8) (hd : decode cc pc = .ok (.invokestatic ix, 3)) (kk : ∀ (x : Int32) w1, P x w1 → jJ K (k + rmy.cells) (n + rmy.slots) (pc + 3) lo (.int x :: st) w1) : jJ K k n pc lo (v2 :: v1 :: st) ws :=
  j_callS C (As := [v1, v2]) hM hG hown hn hroom hcells hst hd (fun r w1 hp => by obtain ⟨x, rfl, hp⟩ := hp; exact kk x w1 hp)
theorem j_callV3i (C : jC cc own Y rm nL K) {y : MethodName} {cy : ByteArray} {mL ix : Nat} {ret : Option FieldType} {rmy : Room} {a : Nat} {v1 v2 v3 : Value} {P : Int32 → va_W → Prop}
    (hM : MJ K.1.2.1 y cy mL ret rmy K.2.2.2.1 Y (.ref a :: [v1, v2, v3]) ws (jI P)) (hG : GoodIn wG (wsV own ix y.cls y (Cond.code y cy mL ret :: wG)))
    (hn : (y.cls ≠ "java/lang/invoke/MethodHandle" ∧ y.cls ≠ "java/lang/invoke/VarHandle" ∧ (parseMethodDescriptor y.desc).map (fun d => d.parameters.length) = some 3))
    (ci q0 : Nat) {q : vw_C} {fs : List Value} (hc : vwCl[ci]? = some q) (hq : q.1 = y.cls) (he : ws[q0]? = some (a, .inr (ci, fs)))
    (hroom : rmy.frames + 1 ≤ rm.frames ∧ 8 + (mL + 11) + rmy.locals ≤ rm.locals) (hcells : k + rmy.cells ≤ rm.cells ∧ n + rmy.slots ≤ rm.slots)
    (hst : (st.map fun v => v.category).sum ≤ 8) (hd : decode cc pc = .ok (.invokevirtual ix, 3)) (kk : ∀ (x : Int32) w1, P x w1 → jJ K (k + rmy.cells) (n + rmy.slots) (pc + 3) lo (.int x :: st) w1) : jJ K k n pc lo (v3 :: v2 :: v1 :: .ref a :: st) ws :=
  j_callV C (As := [v1, v2, v3]) hM hG hn hc hq he hroom hcells hst hd (fun r w1 hp => by obtain ⟨x, rfl, hp⟩ := hp; exact kk x w1 hp)
theorem j_callS3i (C : jC cc own Y rm nL K) {y : MethodName} {cy : ByteArray} {mL ix : Nat} {ret : Option FieldType} {rmy : Room} {v1 v2 v3 : Value} {P : Int32 → va_W → Prop}
    (hM : MJ K.1.2.1 y cy mL ret rmy K.2.2.2.1 Y [v1, v2, v3] ws (jI P)) (hG : GoodIn wG (wsS own ix y (Cond.code y cy mL ret :: wG))) (hown : y.cls = own)
    (hn : (y.cls ≠ "java/lang/invoke/MethodHandle" ∧ y.cls ≠ "java/lang/invoke/VarHandle" ∧ (parseMethodDescriptor y.desc).map (fun d => d.parameters.length) = some 3))
    (hroom : rmy.frames + 1 ≤ rm.frames ∧ 8 + (mL + 11) + rmy.locals ≤ rm.locals) (hcells : k + rmy.cells ≤ rm.cells ∧ n + rmy.slots ≤ rm.slots)
    (hst : (st.map fun v => v.category).sum ≤ 8) (hd : decode cc pc = .ok (.invokestatic ix, 3)) (kk : ∀ (x : Int32) w1, P x w1 → jJ K (k + rmy.cells) (n + rmy.slots) (pc + 3) lo (.int x :: st) w1) : jJ K k n pc lo (v3 :: v2 :: v1 :: st) ws :=
  j_callS C (As := [v1, v2, v3]) hM hG hown hn hroom hcells hst hd (fun r w1 hp => by obtain ⟨x, rfl, hp⟩ := hp; exact kk x w1 hp)
theorem j_callV4i (C : jC cc own Y rm nL K) {y : MethodName} {cy : ByteArray} {mL ix : Nat} {ret : Option FieldType} {rmy : Room} {a : Nat} {v1 v2 v3 v4 : Value} {P : Int32 → va_W → Prop}
    (hM : MJ K.1.2.1 y cy mL ret rmy K.2.2.2.1 Y (.ref a :: [v1, v2, v3, v4]) ws (jI P)) (hG : GoodIn wG (wsV own ix y.cls y (Cond.code y cy mL ret :: wG)))
    (hn : (y.cls ≠ "java/lang/invoke/MethodHandle" ∧ y.cls ≠ "java/lang/invoke/VarHandle" ∧ (parseMethodDescriptor y.desc).map (fun d => d.parameters.length) = some 4))
    (ci q0 : Nat) {q : vw_C} {fs : List Value} (hc : vwCl[ci]? = some q) (hq : q.1 = y.cls) (he : ws[q0]? = some (a, .inr (ci, fs)))
    (hroom : rmy.frames + 1 ≤ rm.frames ∧ 8 + (mL + 11) + rmy.locals ≤ rm.locals) (hcells : k + rmy.cells ≤ rm.cells ∧ n + rmy.slots ≤ rm.slots)
    (hst : (st.map fun v => v.category).sum ≤ 8) (hd : decode cc pc = .ok (.invokevirtual ix, 3)) (kk : ∀ (x : Int32) w1, P x w1 → jJ K (k + rmy.cells) (n + rmy.slots) (pc + 3) lo (.int x :: st) w1) : jJ K k n pc lo (v4 :: v3 :: v2 :: v1 :: .ref a :: st) ws :=
  j_callV C (As := [v1, v2, v3, v4]) hM hG hn hc hq he hroom hcells hst hd (fun r w1 hp => by obtain ⟨x, rfl, hp⟩ := hp; exact kk x w1 hp)
theorem j_callS4i (C : jC cc own Y rm nL K) {y : MethodName} {cy : ByteArray} {mL ix : Nat} {ret : Option FieldType} {rmy : Room} {v1 v2 v3 v4 : Value} {P : Int32 → va_W → Prop}
    (hM : MJ K.1.2.1 y cy mL ret rmy K.2.2.2.1 Y [v1, v2, v3, v4] ws (jI P)) (hG : GoodIn wG (wsS own ix y (Cond.code y cy mL ret :: wG))) (hown : y.cls = own)
    (hn : (y.cls ≠ "java/lang/invoke/MethodHandle" ∧ y.cls ≠ "java/lang/invoke/VarHandle" ∧ (parseMethodDescriptor y.desc).map (fun d => d.parameters.length) = some 4))
    (hroom : rmy.frames + 1 ≤ rm.frames ∧ 8 + (mL + 11) + rmy.locals ≤ rm.locals) (hcells : k + rmy.cells ≤ rm.cells ∧ n + rmy.slots ≤ rm.slots)
    (hst : (st.map fun v => v.category).sum ≤ 8) (hd : decode cc pc = .ok (.invokestatic ix, 3)) (kk : ∀ (x : Int32) w1, P x w1 → jJ K (k + rmy.cells) (n + rmy.slots) (pc + 3) lo (.int x :: st) w1) : jJ K k n pc lo (v4 :: v3 :: v2 :: v1 :: st) ws :=
  j_callS C (As := [v1, v2, v3, v4]) hM hG hown hn hroom hcells hst hd (fun r w1 hp => by obtain ⟨x, rfl, hp⟩ := hp; exact kk x w1 hp)
theorem j_callV5i (C : jC cc own Y rm nL K) {y : MethodName} {cy : ByteArray} {mL ix : Nat} {ret : Option FieldType} {rmy : Room} {a : Nat} {v1 v2 v3 v4 v5 : Value} {P : Int32 → va_W → Prop}
    (hM : MJ K.1.2.1 y cy mL ret rmy K.2.2.2.1 Y (.ref a :: [v1, v2, v3, v4, v5]) ws (jI P)) (hG : GoodIn wG (wsV own ix y.cls y (Cond.code y cy mL ret :: wG)))
    (hn : (y.cls ≠ "java/lang/invoke/MethodHandle" ∧ y.cls ≠ "java/lang/invoke/VarHandle" ∧ (parseMethodDescriptor y.desc).map (fun d => d.parameters.length) = some 5))
    (ci q0 : Nat) {q : vw_C} {fs : List Value} (hc : vwCl[ci]? = some q) (hq : q.1 = y.cls) (he : ws[q0]? = some (a, .inr (ci, fs)))
    (hroom : rmy.frames + 1 ≤ rm.frames ∧ 8 + (mL + 11) + rmy.locals ≤ rm.locals) (hcells : k + rmy.cells ≤ rm.cells ∧ n + rmy.slots ≤ rm.slots)
    (hst : (st.map fun v => v.category).sum ≤ 8) (hd : decode cc pc = .ok (.invokevirtual ix, 3)) (kk : ∀ (x : Int32) w1, P x w1 → jJ K (k + rmy.cells) (n + rmy.slots) (pc + 3) lo (.int x :: st) w1) : jJ K k n pc lo (v5 :: v4 :: v3 :: v2 :: v1 :: .ref a :: st) ws :=
  j_callV C (As := [v1, v2, v3, v4, v5]) hM hG hn hc hq he hroom hcells hst hd (fun r w1 hp => by obtain ⟨x, rfl, hp⟩ := hp; exact kk x w1 hp)
theorem j_callS5i (C : jC cc own Y rm nL K) {y : MethodName} {cy : ByteArray} {mL ix : Nat} {ret : Option FieldType} {rmy : Room} {v1 v2 v3 v4 v5 : Value} {P : Int32 → va_W → Prop}
    (hM : MJ K.1.2.1 y cy mL ret rmy K.2.2.2.1 Y [v1, v2, v3, v4, v5] ws (jI P)) (hG : GoodIn wG (wsS own ix y (Cond.code y cy mL ret :: wG))) (hown : y.cls = own)
    (hn : (y.cls ≠ "java/lang/invoke/MethodHandle" ∧ y.cls ≠ "java/lang/invoke/VarHandle" ∧ (parseMethodDescriptor y.desc).map (fun d => d.parameters.length) = some 5))
    (hroom : rmy.frames + 1 ≤ rm.frames ∧ 8 + (mL + 11) + rmy.locals ≤ rm.locals) (hcells : k + rmy.cells ≤ rm.cells ∧ n + rmy.slots ≤ rm.slots)
    (hst : (st.map fun v => v.category).sum ≤ 8) (hd : decode cc pc = .ok (.invokestatic ix, 3)) (kk : ∀ (x : Int32) w1, P x w1 → jJ K (k + rmy.cells) (n + rmy.slots) (pc + 3) lo (.int x :: st) w1) : jJ K k n pc lo (v5 :: v4 :: v3 :: v2 :: v1 :: st) ws :=
  j_callS C (As := [v1, v2, v3, v4, v5]) hM hG hown hn hroom hcells hst hd (fun r w1 hp => by obtain ⟨x, rfl, hp⟩ := hp; exact kk x w1 hp)
theorem j_callV0v (C : jC cc own Y rm nL K) {y : MethodName} {cy : ByteArray} {mL ix : Nat} {ret : Option FieldType} {rmy : Room} {a : Nat}  {P : va_W → Prop}
    (hM : MJ K.1.2.1 y cy mL ret rmy K.2.2.2.1 Y (.ref a :: []) ws (jV P)) (hG : GoodIn wG (wsV own ix y.cls y (Cond.code y cy mL ret :: wG)))
    (hn : (y.cls ≠ "java/lang/invoke/MethodHandle" ∧ y.cls ≠ "java/lang/invoke/VarHandle" ∧ (parseMethodDescriptor y.desc).map (fun d => d.parameters.length) = some 0))
    (ci q0 : Nat) {q : vw_C} {fs : List Value} (hc : vwCl[ci]? = some q) (hq : q.1 = y.cls) (he : ws[q0]? = some (a, .inr (ci, fs)))
    (hroom : rmy.frames + 1 ≤ rm.frames ∧ 8 + (mL + 11) + rmy.locals ≤ rm.locals) (hcells : k + rmy.cells ≤ rm.cells ∧ n + rmy.slots ≤ rm.slots)
    (hst : (st.map fun v => v.category).sum ≤ 8) (hd : decode cc pc = .ok (.invokevirtual ix, 3)) (kk : ∀ w1, P w1 → jJ K (k + rmy.cells) (n + rmy.slots) (pc + 3) lo st w1) : jJ K k n pc lo (.ref a :: st) ws :=
  j_callV C (As := []) hM hG hn hc hq he hroom hcells hst hd (fun r w1 hp => by obtain ⟨rfl, hp⟩ := hp; exact kk w1 hp)
theorem j_callS0v (C : jC cc own Y rm nL K) {y : MethodName} {cy : ByteArray} {mL ix : Nat} {ret : Option FieldType} {rmy : Room}  {P : va_W → Prop}
    (hM : MJ K.1.2.1 y cy mL ret rmy K.2.2.2.1 Y [] ws (jV P)) (hG : GoodIn wG (wsS own ix y (Cond.code y cy mL ret :: wG))) (hown : y.cls = own)
    (hn : (y.cls ≠ "java/lang/invoke/MethodHandle" ∧ y.cls ≠ "java/lang/invoke/VarHandle" ∧ (parseMethodDescriptor y.desc).map (fun d => d.parameters.length) = some 0))
    (hroom : rmy.frames + 1 ≤ rm.frames ∧ 8 + (mL + 11) + rmy.locals ≤ rm.locals) (hcells : k + rmy.cells ≤ rm.cells ∧ n + rmy.slots ≤ rm.slots)
    (hst : (st.map fun v => v.category).sum ≤ 8) (hd : decode cc pc = .ok (.invokestatic ix, 3)) (kk : ∀ w1, P w1 → jJ K (k + rmy.cells) (n + rmy.slots) (pc + 3) lo st w1) : jJ K k n pc lo (st) ws :=
  j_callS C (As := []) hM hG hown hn hroom hcells hst hd (fun r w1 hp => by obtain ⟨rfl, hp⟩ := hp; exact kk w1 hp)
theorem j_callV1v (C : jC cc own Y rm nL K) {y : MethodName} {cy : ByteArray} {mL ix : Nat} {ret : Option FieldType} {rmy : Room} {a : Nat} {v1 : Value} {P : va_W → Prop}
    (hM : MJ K.1.2.1 y cy mL ret rmy K.2.2.2.1 Y (.ref a :: [v1]) ws (jV P)) (hG : GoodIn wG (wsV own ix y.cls y (Cond.code y cy mL ret :: wG)))
    (hn : (y.cls ≠ "java/lang/invoke/MethodHandle" ∧ y.cls ≠ "java/lang/invoke/VarHandle" ∧ (parseMethodDescriptor y.desc).map (fun d => d.parameters.length) = some 1))
    (ci q0 : Nat) {q : vw_C} {fs : List Value} (hc : vwCl[ci]? = some q) (hq : q.1 = y.cls) (he : ws[q0]? = some (a, .inr (ci, fs)))
    (hroom : rmy.frames + 1 ≤ rm.frames ∧ 8 + (mL + 11) + rmy.locals ≤ rm.locals) (hcells : k + rmy.cells ≤ rm.cells ∧ n + rmy.slots ≤ rm.slots)
    (hst : (st.map fun v => v.category).sum ≤ 8) (hd : decode cc pc = .ok (.invokevirtual ix, 3)) (kk : ∀ w1, P w1 → jJ K (k + rmy.cells) (n + rmy.slots) (pc + 3) lo st w1) : jJ K k n pc lo (v1 :: .ref a :: st) ws :=
  j_callV C (As := [v1]) hM hG hn hc hq he hroom hcells hst hd (fun r w1 hp => by obtain ⟨rfl, hp⟩ := hp; exact kk w1 hp)
theorem j_callS1v (C : jC cc own Y rm nL K) {y : MethodName} {cy : ByteArray} {mL ix : Nat} {ret : Option FieldType} {rmy : Room} {v1 : Value} {P : va_W → Prop}
    (hM : MJ K.1.2.1 y cy mL ret rmy K.2.2.2.1 Y [v1] ws (jV P)) (hG : GoodIn wG (wsS own ix y (Cond.code y cy mL ret :: wG))) (hown : y.cls = own)
    (hn : (y.cls ≠ "java/lang/invoke/MethodHandle" ∧ y.cls ≠ "java/lang/invoke/VarHandle" ∧ (parseMethodDescriptor y.desc).map (fun d => d.parameters.length) = some 1))
    (hroom : rmy.frames + 1 ≤ rm.frames ∧ 8 + (mL + 11) + rmy.locals ≤ rm.locals) (hcells : k + rmy.cells ≤ rm.cells ∧ n + rmy.slots ≤ rm.slots)
    (hst : (st.map fun v => v.category).sum ≤ 8) (hd : decode cc pc = .ok (.invokestatic ix, 3)) (kk : ∀ w1, P w1 → jJ K (k + rmy.cells) (n + rmy.slots) (pc + 3) lo st w1) : jJ K k n pc lo (v1 :: st) ws :=
  j_callS C (As := [v1]) hM hG hown hn hroom hcells hst hd (fun r w1 hp => by obtain ⟨rfl, hp⟩ := hp; exact kk w1 hp)
theorem j_callV2v (C : jC cc own Y rm nL K) {y : MethodName} {cy : ByteArray} {mL ix : Nat} {ret : Option FieldType} {rmy : Room} {a : Nat} {v1 v2 : Value} {P : va_W → Prop}
    (hM : MJ K.1.2.1 y cy mL ret rmy K.2.2.2.1 Y (.ref a :: [v1, v2]) ws (jV P)) (hG : GoodIn wG (wsV own ix y.cls y (Cond.code y cy mL ret :: wG)))
    (hn : (y.cls ≠ "java/lang/invoke/MethodHandle" ∧ y.cls ≠ "java/lang/invoke/VarHandle" ∧ (parseMethodDescriptor y.desc).map (fun d => d.parameters.length) = some 2))
    (ci q0 : Nat) {q : vw_C} {fs : List Value} (hc : vwCl[ci]? = some q) (hq : q.1 = y.cls) (he : ws[q0]? = some (a, .inr (ci, fs)))
    (hroom : rmy.frames + 1 ≤ rm.frames ∧ 8 + (mL + 11) + rmy.locals ≤ rm.locals) (hcells : k + rmy.cells ≤ rm.cells ∧ n + rmy.slots ≤ rm.slots)
    (hst : (st.map fun v => v.category).sum ≤ 8) (hd : decode cc pc = .ok (.invokevirtual ix, 3)) (kk : ∀ w1, P w1 → jJ K (k + rmy.cells) (n + rmy.slots) (pc + 3) lo st w1) : jJ K k n pc lo (v2 :: v1 :: .ref a :: st) ws :=
  j_callV C (As := [v1, v2]) hM hG hn hc hq he hroom hcells hst hd (fun r w1 hp => by obtain ⟨rfl, hp⟩ := hp; exact kk w1 hp)
theorem j_callS2v (C : jC cc own Y rm nL K) {y : MethodName} {cy : ByteArray} {mL ix : Nat} {ret : Option FieldType} {rmy : Room} {v1 v2 : Value} {P : va_W → Prop}
    (hM : MJ K.1.2.1 y cy mL ret rmy K.2.2.2.1 Y [v1, v2] ws (jV P)) (hG : GoodIn wG (wsS own ix y (Cond.code y cy mL ret :: wG))) (hown : y.cls = own)
    (hn : (y.cls ≠ "java/lang/invoke/MethodHandle" ∧ y.cls ≠ "java/lang/invoke/VarHandle" ∧ (parseMethodDescriptor y.desc).map (fun d => d.parameters.length) = some 2))
    (hroom : rmy.frames + 1 ≤ rm.frames ∧ 8 + (mL + 11) + rmy.locals ≤ rm.locals) (hcells : k + rmy.cells ≤ rm.cells ∧ n + rmy.slots ≤ rm.slots)
    (hst : (st.map fun v => v.category).sum ≤ 8) (hd : decode cc pc = .ok (.invokestatic ix, 3)) (kk : ∀ w1, P w1 → jJ K (k + rmy.cells) (n + rmy.slots) (pc + 3) lo st w1) : jJ K k n pc lo (v2 :: v1 :: st) ws :=
  j_callS C (As := [v1, v2]) hM hG hown hn hroom hcells hst hd (fun r w1 hp => by obtain ⟨rfl, hp⟩ := hp; exact kk w1 hp)
theorem j_callV3v (C : jC cc own Y rm nL K) {y : MethodName} {cy : ByteArray} {mL ix : Nat} {ret : Option FieldType} {rmy : Room} {a : Nat} {v1 v2 v3 : Value} {P : va_W → Prop}
    (hM : MJ K.1.2.1 y cy mL ret rmy K.2.2.2.1 Y (.ref a :: [v1, v2, v3]) ws (jV P)) (hG : GoodIn wG (wsV own ix y.cls y (Cond.code y cy mL ret :: wG)))
    (hn : (y.cls ≠ "java/lang/invoke/MethodHandle" ∧ y.cls ≠ "java/lang/invoke/VarHandle" ∧ (parseMethodDescriptor y.desc).map (fun d => d.parameters.length) = some 3))
    (ci q0 : Nat) {q : vw_C} {fs : List Value} (hc : vwCl[ci]? = some q) (hq : q.1 = y.cls) (he : ws[q0]? = some (a, .inr (ci, fs)))
    (hroom : rmy.frames + 1 ≤ rm.frames ∧ 8 + (mL + 11) + rmy.locals ≤ rm.locals) (hcells : k + rmy.cells ≤ rm.cells ∧ n + rmy.slots ≤ rm.slots)
    (hst : (st.map fun v => v.category).sum ≤ 8) (hd : decode cc pc = .ok (.invokevirtual ix, 3)) (kk : ∀ w1, P w1 → jJ K (k + rmy.cells) (n + rmy.slots) (pc + 3) lo st w1) : jJ K k n pc lo (v3 :: v2 :: v1 :: .ref a :: st) ws :=
  j_callV C (As := [v1, v2, v3]) hM hG hn hc hq he hroom hcells hst hd (fun r w1 hp => by obtain ⟨rfl, hp⟩ := hp; exact kk w1 hp)
theorem j_callS3v (C : jC cc own Y rm nL K) {y : MethodName} {cy : ByteArray} {mL ix : Nat} {ret : Option FieldType} {rmy : Room} {v1 v2 v3 : Value} {P : va_W → Prop}
    (hM : MJ K.1.2.1 y cy mL ret rmy K.2.2.2.1 Y [v1, v2, v3] ws (jV P)) (hG : GoodIn wG (wsS own ix y (Cond.code y cy mL ret :: wG))) (hown : y.cls = own)
    (hn : (y.cls ≠ "java/lang/invoke/MethodHandle" ∧ y.cls ≠ "java/lang/invoke/VarHandle" ∧ (parseMethodDescriptor y.desc).map (fun d => d.parameters.length) = some 3))
    (hroom : rmy.frames + 1 ≤ rm.frames ∧ 8 + (mL + 11) + rmy.locals ≤ rm.locals) (hcells : k + rmy.cells ≤ rm.cells ∧ n + rmy.slots ≤ rm.slots)
    (hst : (st.map fun v => v.category).sum ≤ 8) (hd : decode cc pc = .ok (.invokestatic ix, 3)) (kk : ∀ w1, P w1 → jJ K (k + rmy.cells) (n + rmy.slots) (pc + 3) lo st w1) : jJ K k n pc lo (v3 :: v2 :: v1 :: st) ws :=
  j_callS C (As := [v1, v2, v3]) hM hG hown hn hroom hcells hst hd (fun r w1 hp => by obtain ⟨rfl, hp⟩ := hp; exact kk w1 hp)
theorem j_callV4v (C : jC cc own Y rm nL K) {y : MethodName} {cy : ByteArray} {mL ix : Nat} {ret : Option FieldType} {rmy : Room} {a : Nat} {v1 v2 v3 v4 : Value} {P : va_W → Prop}
    (hM : MJ K.1.2.1 y cy mL ret rmy K.2.2.2.1 Y (.ref a :: [v1, v2, v3, v4]) ws (jV P)) (hG : GoodIn wG (wsV own ix y.cls y (Cond.code y cy mL ret :: wG)))
    (hn : (y.cls ≠ "java/lang/invoke/MethodHandle" ∧ y.cls ≠ "java/lang/invoke/VarHandle" ∧ (parseMethodDescriptor y.desc).map (fun d => d.parameters.length) = some 4))
    (ci q0 : Nat) {q : vw_C} {fs : List Value} (hc : vwCl[ci]? = some q) (hq : q.1 = y.cls) (he : ws[q0]? = some (a, .inr (ci, fs)))
    (hroom : rmy.frames + 1 ≤ rm.frames ∧ 8 + (mL + 11) + rmy.locals ≤ rm.locals) (hcells : k + rmy.cells ≤ rm.cells ∧ n + rmy.slots ≤ rm.slots)
    (hst : (st.map fun v => v.category).sum ≤ 8) (hd : decode cc pc = .ok (.invokevirtual ix, 3)) (kk : ∀ w1, P w1 → jJ K (k + rmy.cells) (n + rmy.slots) (pc + 3) lo st w1) : jJ K k n pc lo (v4 :: v3 :: v2 :: v1 :: .ref a :: st) ws :=
  j_callV C (As := [v1, v2, v3, v4]) hM hG hn hc hq he hroom hcells hst hd (fun r w1 hp => by obtain ⟨rfl, hp⟩ := hp; exact kk w1 hp)
theorem j_callS4v (C : jC cc own Y rm nL K) {y : MethodName} {cy : ByteArray} {mL ix : Nat} {ret : Option FieldType} {rmy : Room} {v1 v2 v3 v4 : Value} {P : va_W → Prop}
    (hM : MJ K.1.2.1 y cy mL ret rmy K.2.2.2.1 Y [v1, v2, v3, v4] ws (jV P)) (hG : GoodIn wG (wsS own ix y (Cond.code y cy mL ret :: wG))) (hown : y.cls = own)
    (hn : (y.cls ≠ "java/lang/invoke/MethodHandle" ∧ y.cls ≠ "java/lang/invoke/VarHandle" ∧ (parseMethodDescriptor y.desc).map (fun d => d.parameters.length) = some 4))
    (hroom : rmy.frames + 1 ≤ rm.frames ∧ 8 + (mL + 11) + rmy.locals ≤ rm.locals) (hcells : k + rmy.cells ≤ rm.cells ∧ n + rmy.slots ≤ rm.slots)
    (hst : (st.map fun v => v.category).sum ≤ 8) (hd : decode cc pc = .ok (.invokestatic ix, 3)) (kk : ∀ w1, P w1 → jJ K (k + rmy.cells) (n + rmy.slots) (pc + 3) lo st w1) : jJ K k n pc lo (v4 :: v3 :: v2 :: v1 :: st) ws :=
  j_callS C (As := [v1, v2, v3, v4]) hM hG hown hn hroom hcells hst hd (fun r w1 hp => by obtain ⟨rfl, hp⟩ := hp; exact kk w1 hp)
theorem j_callV5v (C : jC cc own Y rm nL K) {y : MethodName} {cy : ByteArray} {mL ix : Nat} {ret : Option FieldType} {rmy : Room} {a : Nat} {v1 v2 v3 v4 v5 : Value} {P : va_W → Prop}
    (hM : MJ K.1.2.1 y cy mL ret rmy K.2.2.2.1 Y (.ref a :: [v1, v2, v3, v4, v5]) ws (jV P)) (hG : GoodIn wG (wsV own ix y.cls y (Cond.code y cy mL ret :: wG)))
    (hn : (y.cls ≠ "java/lang/invoke/MethodHandle" ∧ y.cls ≠ "java/lang/invoke/VarHandle" ∧ (parseMethodDescriptor y.desc).map (fun d => d.parameters.length) = some 5))
    (ci q0 : Nat) {q : vw_C} {fs : List Value} (hc : vwCl[ci]? = some q) (hq : q.1 = y.cls) (he : ws[q0]? = some (a, .inr (ci, fs)))
    (hroom : rmy.frames + 1 ≤ rm.frames ∧ 8 + (mL + 11) + rmy.locals ≤ rm.locals) (hcells : k + rmy.cells ≤ rm.cells ∧ n + rmy.slots ≤ rm.slots)
    (hst : (st.map fun v => v.category).sum ≤ 8) (hd : decode cc pc = .ok (.invokevirtual ix, 3)) (kk : ∀ w1, P w1 → jJ K (k + rmy.cells) (n + rmy.slots) (pc + 3) lo st w1) : jJ K k n pc lo (v5 :: v4 :: v3 :: v2 :: v1 :: .ref a :: st) ws :=
  j_callV C (As := [v1, v2, v3, v4, v5]) hM hG hn hc hq he hroom hcells hst hd (fun r w1 hp => by obtain ⟨rfl, hp⟩ := hp; exact kk w1 hp)
theorem j_callS5v (C : jC cc own Y rm nL K) {y : MethodName} {cy : ByteArray} {mL ix : Nat} {ret : Option FieldType} {rmy : Room} {v1 v2 v3 v4 v5 : Value} {P : va_W → Prop}
    (hM : MJ K.1.2.1 y cy mL ret rmy K.2.2.2.1 Y [v1, v2, v3, v4, v5] ws (jV P)) (hG : GoodIn wG (wsS own ix y (Cond.code y cy mL ret :: wG))) (hown : y.cls = own)
    (hn : (y.cls ≠ "java/lang/invoke/MethodHandle" ∧ y.cls ≠ "java/lang/invoke/VarHandle" ∧ (parseMethodDescriptor y.desc).map (fun d => d.parameters.length) = some 5))
    (hroom : rmy.frames + 1 ≤ rm.frames ∧ 8 + (mL + 11) + rmy.locals ≤ rm.locals) (hcells : k + rmy.cells ≤ rm.cells ∧ n + rmy.slots ≤ rm.slots)
    (hst : (st.map fun v => v.category).sum ≤ 8) (hd : decode cc pc = .ok (.invokestatic ix, 3)) (kk : ∀ w1, P w1 → jJ K (k + rmy.cells) (n + rmy.slots) (pc + 3) lo st w1) : jJ K k n pc lo (v5 :: v4 :: v3 :: v2 :: v1 :: st) ws :=
  j_callS C (As := [v1, v2, v3, v4, v5]) hM hG hown hn hroom hcells hst hd (fun r w1 hp => by obtain ⟨rfl, hp⟩ := hp; exact kk w1 hp)
theorem j_callV0a (C : jC cc own Y rm nL K) {y : MethodName} {cy : ByteArray} {mL ix : Nat} {ret : Option FieldType} {rmy : Room} {a : Nat}  {P : Nat → va_W → Prop}
    (hM : MJ K.1.2.1 y cy mL ret rmy K.2.2.2.1 Y (.ref a :: []) ws (jA P)) (hG : GoodIn wG (wsV own ix y.cls y (Cond.code y cy mL ret :: wG)))
    (hn : (y.cls ≠ "java/lang/invoke/MethodHandle" ∧ y.cls ≠ "java/lang/invoke/VarHandle" ∧ (parseMethodDescriptor y.desc).map (fun d => d.parameters.length) = some 0))
    (ci q0 : Nat) {q : vw_C} {fs : List Value} (hc : vwCl[ci]? = some q) (hq : q.1 = y.cls) (he : ws[q0]? = some (a, .inr (ci, fs)))
    (hroom : rmy.frames + 1 ≤ rm.frames ∧ 8 + (mL + 11) + rmy.locals ≤ rm.locals) (hcells : k + rmy.cells ≤ rm.cells ∧ n + rmy.slots ≤ rm.slots)
    (hst : (st.map fun v => v.category).sum ≤ 8) (hd : decode cc pc = .ok (.invokevirtual ix, 3)) (kk : ∀ (x : Nat) w1, P x w1 → jJ K (k + rmy.cells) (n + rmy.slots) (pc + 3) lo (.ref x :: st) w1) : jJ K k n pc lo (.ref a :: st) ws :=
  j_callV C (As := []) hM hG hn hc hq he hroom hcells hst hd (fun r w1 hp => by obtain ⟨x, rfl, hp⟩ := hp; exact kk x w1 hp)
theorem j_callS0a (C : jC cc own Y rm nL K) {y : MethodName} {cy : ByteArray} {mL ix : Nat} {ret : Option FieldType} {rmy : Room}  {P : Nat → va_W → Prop}
    (hM : MJ K.1.2.1 y cy mL ret rmy K.2.2.2.1 Y [] ws (jA P)) (hG : GoodIn wG (wsS own ix y (Cond.code y cy mL ret :: wG))) (hown : y.cls = own)
    (hn : (y.cls ≠ "java/lang/invoke/MethodHandle" ∧ y.cls ≠ "java/lang/invoke/VarHandle" ∧ (parseMethodDescriptor y.desc).map (fun d => d.parameters.length) = some 0))
    (hroom : rmy.frames + 1 ≤ rm.frames ∧ 8 + (mL + 11) + rmy.locals ≤ rm.locals) (hcells : k + rmy.cells ≤ rm.cells ∧ n + rmy.slots ≤ rm.slots)
    (hst : (st.map fun v => v.category).sum ≤ 8) (hd : decode cc pc = .ok (.invokestatic ix, 3)) (kk : ∀ (x : Nat) w1, P x w1 → jJ K (k + rmy.cells) (n + rmy.slots) (pc + 3) lo (.ref x :: st) w1) : jJ K k n pc lo (st) ws :=
  j_callS C (As := []) hM hG hown hn hroom hcells hst hd (fun r w1 hp => by obtain ⟨x, rfl, hp⟩ := hp; exact kk x w1 hp)
theorem j_callV1a (C : jC cc own Y rm nL K) {y : MethodName} {cy : ByteArray} {mL ix : Nat} {ret : Option FieldType} {rmy : Room} {a : Nat} {v1 : Value} {P : Nat → va_W → Prop}
    (hM : MJ K.1.2.1 y cy mL ret rmy K.2.2.2.1 Y (.ref a :: [v1]) ws (jA P)) (hG : GoodIn wG (wsV own ix y.cls y (Cond.code y cy mL ret :: wG)))
    (hn : (y.cls ≠ "java/lang/invoke/MethodHandle" ∧ y.cls ≠ "java/lang/invoke/VarHandle" ∧ (parseMethodDescriptor y.desc).map (fun d => d.parameters.length) = some 1))
    (ci q0 : Nat) {q : vw_C} {fs : List Value} (hc : vwCl[ci]? = some q) (hq : q.1 = y.cls) (he : ws[q0]? = some (a, .inr (ci, fs)))
    (hroom : rmy.frames + 1 ≤ rm.frames ∧ 8 + (mL + 11) + rmy.locals ≤ rm.locals) (hcells : k + rmy.cells ≤ rm.cells ∧ n + rmy.slots ≤ rm.slots)
    (hst : (st.map fun v => v.category).sum ≤ 8) (hd : decode cc pc = .ok (.invokevirtual ix, 3)) (kk : ∀ (x : Nat) w1, P x w1 → jJ K (k + rmy.cells) (n + rmy.slots) (pc + 3) lo (.ref x :: st) w1) : jJ K k n pc lo (v1 :: .ref a :: st) ws :=
  j_callV C (As := [v1]) hM hG hn hc hq he hroom hcells hst hd (fun r w1 hp => by obtain ⟨x, rfl, hp⟩ := hp; exact kk x w1 hp)
theorem j_callS1a (C : jC cc own Y rm nL K) {y : MethodName} {cy : ByteArray} {mL ix : Nat} {ret : Option FieldType} {rmy : Room} {v1 : Value} {P : Nat → va_W → Prop}
    (hM : MJ K.1.2.1 y cy mL ret rmy K.2.2.2.1 Y [v1] ws (jA P)) (hG : GoodIn wG (wsS own ix y (Cond.code y cy mL ret :: wG))) (hown : y.cls = own)
    (hn : (y.cls ≠ "java/lang/invoke/MethodHandle" ∧ y.cls ≠ "java/lang/invoke/VarHandle" ∧ (parseMethodDescriptor y.desc).map (fun d => d.parameters.length) = some 1))
    (hroom : rmy.frames + 1 ≤ rm.frames ∧ 8 + (mL + 11) + rmy.locals ≤ rm.locals) (hcells : k + rmy.cells ≤ rm.cells ∧ n + rmy.slots ≤ rm.slots)
    (hst : (st.map fun v => v.category).sum ≤ 8) (hd : decode cc pc = .ok (.invokestatic ix, 3)) (kk : ∀ (x : Nat) w1, P x w1 → jJ K (k + rmy.cells) (n + rmy.slots) (pc + 3) lo (.ref x :: st) w1) : jJ K k n pc lo (v1 :: st) ws :=
  j_callS C (As := [v1]) hM hG hown hn hroom hcells hst hd (fun r w1 hp => by obtain ⟨x, rfl, hp⟩ := hp; exact kk x w1 hp)
theorem j_callV2a (C : jC cc own Y rm nL K) {y : MethodName} {cy : ByteArray} {mL ix : Nat} {ret : Option FieldType} {rmy : Room} {a : Nat} {v1 v2 : Value} {P : Nat → va_W → Prop}
    (hM : MJ K.1.2.1 y cy mL ret rmy K.2.2.2.1 Y (.ref a :: [v1, v2]) ws (jA P)) (hG : GoodIn wG (wsV own ix y.cls y (Cond.code y cy mL ret :: wG)))
    (hn : (y.cls ≠ "java/lang/invoke/MethodHandle" ∧ y.cls ≠ "java/lang/invoke/VarHandle" ∧ (parseMethodDescriptor y.desc).map (fun d => d.parameters.length) = some 2))
    (ci q0 : Nat) {q : vw_C} {fs : List Value} (hc : vwCl[ci]? = some q) (hq : q.1 = y.cls) (he : ws[q0]? = some (a, .inr (ci, fs)))
    (hroom : rmy.frames + 1 ≤ rm.frames ∧ 8 + (mL + 11) + rmy.locals ≤ rm.locals) (hcells : k + rmy.cells ≤ rm.cells ∧ n + rmy.slots ≤ rm.slots)
    (hst : (st.map fun v => v.category).sum ≤ 8) (hd : decode cc pc = .ok (.invokevirtual ix, 3)) (kk : ∀ (x : Nat) w1, P x w1 → jJ K (k + rmy.cells) (n + rmy.slots) (pc + 3) lo (.ref x :: st) w1) : jJ K k n pc lo (v2 :: v1 :: .ref a :: st) ws :=
  j_callV C (As := [v1, v2]) hM hG hn hc hq he hroom hcells hst hd (fun r w1 hp => by obtain ⟨x, rfl, hp⟩ := hp; exact kk x w1 hp)
theorem j_callS2a (C : jC cc own Y rm nL K) {y : MethodName} {cy : ByteArray} {mL ix : Nat} {ret : Option FieldType} {rmy : Room} {v1 v2 : Value} {P : Nat → va_W → Prop}
    (hM : MJ K.1.2.1 y cy mL ret rmy K.2.2.2.1 Y [v1, v2] ws (jA P)) (hG : GoodIn wG (wsS own ix y (Cond.code y cy mL ret :: wG))) (hown : y.cls = own)
    (hn : (y.cls ≠ "java/lang/invoke/MethodHandle" ∧ y.cls ≠ "java/lang/invoke/VarHandle" ∧ (parseMethodDescriptor y.desc).map (fun d => d.parameters.length) = some 2))
    (hroom : rmy.frames + 1 ≤ rm.frames ∧ 8 + (mL + 11) + rmy.locals ≤ rm.locals) (hcells : k + rmy.cells ≤ rm.cells ∧ n + rmy.slots ≤ rm.slots)
    (hst : (st.map fun v => v.category).sum ≤ 8) (hd : decode cc pc = .ok (.invokestatic ix, 3)) (kk : ∀ (x : Nat) w1, P x w1 → jJ K (k + rmy.cells) (n + rmy.slots) (pc + 3) lo (.ref x :: st) w1) : jJ K k n pc lo (v2 :: v1 :: st) ws :=
  j_callS C (As := [v1, v2]) hM hG hown hn hroom hcells hst hd (fun r w1 hp => by obtain ⟨x, rfl, hp⟩ := hp; exact kk x w1 hp)
theorem j_callV3a (C : jC cc own Y rm nL K) {y : MethodName} {cy : ByteArray} {mL ix : Nat} {ret : Option FieldType} {rmy : Room} {a : Nat} {v1 v2 v3 : Value} {P : Nat → va_W → Prop}
    (hM : MJ K.1.2.1 y cy mL ret rmy K.2.2.2.1 Y (.ref a :: [v1, v2, v3]) ws (jA P)) (hG : GoodIn wG (wsV own ix y.cls y (Cond.code y cy mL ret :: wG)))
    (hn : (y.cls ≠ "java/lang/invoke/MethodHandle" ∧ y.cls ≠ "java/lang/invoke/VarHandle" ∧ (parseMethodDescriptor y.desc).map (fun d => d.parameters.length) = some 3))
    (ci q0 : Nat) {q : vw_C} {fs : List Value} (hc : vwCl[ci]? = some q) (hq : q.1 = y.cls) (he : ws[q0]? = some (a, .inr (ci, fs)))
    (hroom : rmy.frames + 1 ≤ rm.frames ∧ 8 + (mL + 11) + rmy.locals ≤ rm.locals) (hcells : k + rmy.cells ≤ rm.cells ∧ n + rmy.slots ≤ rm.slots)
    (hst : (st.map fun v => v.category).sum ≤ 8) (hd : decode cc pc = .ok (.invokevirtual ix, 3)) (kk : ∀ (x : Nat) w1, P x w1 → jJ K (k + rmy.cells) (n + rmy.slots) (pc + 3) lo (.ref x :: st) w1) : jJ K k n pc lo (v3 :: v2 :: v1 :: .ref a :: st) ws :=
  j_callV C (As := [v1, v2, v3]) hM hG hn hc hq he hroom hcells hst hd (fun r w1 hp => by obtain ⟨x, rfl, hp⟩ := hp; exact kk x w1 hp)
theorem j_callS3a (C : jC cc own Y rm nL K) {y : MethodName} {cy : ByteArray} {mL ix : Nat} {ret : Option FieldType} {rmy : Room} {v1 v2 v3 : Value} {P : Nat → va_W → Prop}
    (hM : MJ K.1.2.1 y cy mL ret rmy K.2.2.2.1 Y [v1, v2, v3] ws (jA P)) (hG : GoodIn wG (wsS own ix y (Cond.code y cy mL ret :: wG))) (hown : y.cls = own)
    (hn : (y.cls ≠ "java/lang/invoke/MethodHandle" ∧ y.cls ≠ "java/lang/invoke/VarHandle" ∧ (parseMethodDescriptor y.desc).map (fun d => d.parameters.length) = some 3))
    (hroom : rmy.frames + 1 ≤ rm.frames ∧ 8 + (mL + 11) + rmy.locals ≤ rm.locals) (hcells : k + rmy.cells ≤ rm.cells ∧ n + rmy.slots ≤ rm.slots)
    (hst : (st.map fun v => v.category).sum ≤ 8) (hd : decode cc pc = .ok (.invokestatic ix, 3)) (kk : ∀ (x : Nat) w1, P x w1 → jJ K (k + rmy.cells) (n + rmy.slots) (pc + 3) lo (.ref x :: st) w1) : jJ K k n pc lo (v3 :: v2 :: v1 :: st) ws :=
  j_callS C (As := [v1, v2, v3]) hM hG hown hn hroom hcells hst hd (fun r w1 hp => by obtain ⟨x, rfl, hp⟩ := hp; exact kk x w1 hp)
theorem j_callV4a (C : jC cc own Y rm nL K) {y : MethodName} {cy : ByteArray} {mL ix : Nat} {ret : Option FieldType} {rmy : Room} {a : Nat} {v1 v2 v3 v4 : Value} {P : Nat → va_W → Prop}
    (hM : MJ K.1.2.1 y cy mL ret rmy K.2.2.2.1 Y (.ref a :: [v1, v2, v3, v4]) ws (jA P)) (hG : GoodIn wG (wsV own ix y.cls y (Cond.code y cy mL ret :: wG)))
    (hn : (y.cls ≠ "java/lang/invoke/MethodHandle" ∧ y.cls ≠ "java/lang/invoke/VarHandle" ∧ (parseMethodDescriptor y.desc).map (fun d => d.parameters.length) = some 4))
    (ci q0 : Nat) {q : vw_C} {fs : List Value} (hc : vwCl[ci]? = some q) (hq : q.1 = y.cls) (he : ws[q0]? = some (a, .inr (ci, fs)))
    (hroom : rmy.frames + 1 ≤ rm.frames ∧ 8 + (mL + 11) + rmy.locals ≤ rm.locals) (hcells : k + rmy.cells ≤ rm.cells ∧ n + rmy.slots ≤ rm.slots)
    (hst : (st.map fun v => v.category).sum ≤ 8) (hd : decode cc pc = .ok (.invokevirtual ix, 3)) (kk : ∀ (x : Nat) w1, P x w1 → jJ K (k + rmy.cells) (n + rmy.slots) (pc + 3) lo (.ref x :: st) w1) : jJ K k n pc lo (v4 :: v3 :: v2 :: v1 :: .ref a :: st) ws :=
  j_callV C (As := [v1, v2, v3, v4]) hM hG hn hc hq he hroom hcells hst hd (fun r w1 hp => by obtain ⟨x, rfl, hp⟩ := hp; exact kk x w1 hp)
theorem j_callS4a (C : jC cc own Y rm nL K) {y : MethodName} {cy : ByteArray} {mL ix : Nat} {ret : Option FieldType} {rmy : Room} {v1 v2 v3 v4 : Value} {P : Nat → va_W → Prop}
    (hM : MJ K.1.2.1 y cy mL ret rmy K.2.2.2.1 Y [v1, v2, v3, v4] ws (jA P)) (hG : GoodIn wG (wsS own ix y (Cond.code y cy mL ret :: wG))) (hown : y.cls = own)
    (hn : (y.cls ≠ "java/lang/invoke/MethodHandle" ∧ y.cls ≠ "java/lang/invoke/VarHandle" ∧ (parseMethodDescriptor y.desc).map (fun d => d.parameters.length) = some 4))
    (hroom : rmy.frames + 1 ≤ rm.frames ∧ 8 + (mL + 11) + rmy.locals ≤ rm.locals) (hcells : k + rmy.cells ≤ rm.cells ∧ n + rmy.slots ≤ rm.slots)
    (hst : (st.map fun v => v.category).sum ≤ 8) (hd : decode cc pc = .ok (.invokestatic ix, 3)) (kk : ∀ (x : Nat) w1, P x w1 → jJ K (k + rmy.cells) (n + rmy.slots) (pc + 3) lo (.ref x :: st) w1) : jJ K k n pc lo (v4 :: v3 :: v2 :: v1 :: st) ws :=
  j_callS C (As := [v1, v2, v3, v4]) hM hG hown hn hroom hcells hst hd (fun r w1 hp => by obtain ⟨x, rfl, hp⟩ := hp; exact kk x w1 hp)
theorem j_callV5a (C : jC cc own Y rm nL K) {y : MethodName} {cy : ByteArray} {mL ix : Nat} {ret : Option FieldType} {rmy : Room} {a : Nat} {v1 v2 v3 v4 v5 : Value} {P : Nat → va_W → Prop}
    (hM : MJ K.1.2.1 y cy mL ret rmy K.2.2.2.1 Y (.ref a :: [v1, v2, v3, v4, v5]) ws (jA P)) (hG : GoodIn wG (wsV own ix y.cls y (Cond.code y cy mL ret :: wG)))
    (hn : (y.cls ≠ "java/lang/invoke/MethodHandle" ∧ y.cls ≠ "java/lang/invoke/VarHandle" ∧ (parseMethodDescriptor y.desc).map (fun d => d.parameters.length) = some 5))
    (ci q0 : Nat) {q : vw_C} {fs : List Value} (hc : vwCl[ci]? = some q) (hq : q.1 = y.cls) (he : ws[q0]? = some (a, .inr (ci, fs)))
    (hroom : rmy.frames + 1 ≤ rm.frames ∧ 8 + (mL + 11) + rmy.locals ≤ rm.locals) (hcells : k + rmy.cells ≤ rm.cells ∧ n + rmy.slots ≤ rm.slots)
    (hst : (st.map fun v => v.category).sum ≤ 8) (hd : decode cc pc = .ok (.invokevirtual ix, 3)) (kk : ∀ (x : Nat) w1, P x w1 → jJ K (k + rmy.cells) (n + rmy.slots) (pc + 3) lo (.ref x :: st) w1) : jJ K k n pc lo (v5 :: v4 :: v3 :: v2 :: v1 :: .ref a :: st) ws :=
  j_callV C (As := [v1, v2, v3, v4, v5]) hM hG hn hc hq he hroom hcells hst hd (fun r w1 hp => by obtain ⟨x, rfl, hp⟩ := hp; exact kk x w1 hp)
theorem j_callS5a (C : jC cc own Y rm nL K) {y : MethodName} {cy : ByteArray} {mL ix : Nat} {ret : Option FieldType} {rmy : Room} {v1 v2 v3 v4 v5 : Value} {P : Nat → va_W → Prop}
    (hM : MJ K.1.2.1 y cy mL ret rmy K.2.2.2.1 Y [v1, v2, v3, v4, v5] ws (jA P)) (hG : GoodIn wG (wsS own ix y (Cond.code y cy mL ret :: wG))) (hown : y.cls = own)
    (hn : (y.cls ≠ "java/lang/invoke/MethodHandle" ∧ y.cls ≠ "java/lang/invoke/VarHandle" ∧ (parseMethodDescriptor y.desc).map (fun d => d.parameters.length) = some 5))
    (hroom : rmy.frames + 1 ≤ rm.frames ∧ 8 + (mL + 11) + rmy.locals ≤ rm.locals) (hcells : k + rmy.cells ≤ rm.cells ∧ n + rmy.slots ≤ rm.slots)
    (hst : (st.map fun v => v.category).sum ≤ 8) (hd : decode cc pc = .ok (.invokestatic ix, 3)) (kk : ∀ (x : Nat) w1, P x w1 → jJ K (k + rmy.cells) (n + rmy.slots) (pc + 3) lo (.ref x :: st) w1) : jJ K k n pc lo (v5 :: v4 :: v3 :: v2 :: v1 :: st) ws :=
  j_callS C (As := [v1, v2, v3, v4, v5]) hM hG hown hn hroom hcells hst hd (fun r w1 hp => by obtain ⟨x, rfl, hp⟩ := hp; exact kk x w1 hp)
end JR
end
section
section JS
variable {K : jk_T} {cc : ByteArray} {own : String} {Y : jy_T} {rm : Room} {nL kc nc pc : Nat} {st : List Value} {ws : va_W}
theorem j_istore_0 (C : jC cc own Y rm nL K) {l0 : Option Value} {tl : List (Option Value)} {x : Int32} (hd : decode cc pc = .ok (.istore_n 0, 1)) (hi : 0 < nL) (kk : jJ K kc nc (pc + 1) (some (.int x) :: tl) st ws) : jJ K kc nc pc (l0 :: tl) (.int x :: st) ws := j_istore_n C hd hi kk
theorem j_astore_0 (C : jC cc own Y rm nL K) {l0 : Option Value} {tl : List (Option Value)} {x : Nat} (hd : decode cc pc = .ok (.astore_n 0, 1)) (hi : 0 < nL) (kk : jJ K kc nc (pc + 1) (some (.ref x) :: tl) st ws) : jJ K kc nc pc (l0 :: tl) (.ref x :: st) ws := j_astore_n C hd hi kk
theorem j_iinc_0 (C : jC cc own Y rm nL K) {tl : List (Option Value)} {x : Int32} (v : Int32) {d : Int} (hv : x + Int32.ofInt d = v) (hd : decode cc pc = .ok (.iinc 0 d, 3)) (kk : jJ K kc nc (pc + 3) (some (.int v) :: tl) st ws) : jJ K kc nc pc (some (.int x) :: tl) st ws := j_iinc C hd rfl hv kk
theorem j_istore_1 (C : jC cc own Y rm nL K) {l0 l1 : Option Value} {tl : List (Option Value)} {x : Int32} (hd : decode cc pc = .ok (.istore_n 1, 1)) (hi : 1 < nL) (kk : jJ K kc nc (pc + 1) (l0 :: some (.int x) :: tl) st ws) : jJ K kc nc pc (l0 :: l1 :: tl) (.int x :: st) ws := j_istore_n C hd hi kk
theorem j_astore_1 (C : jC cc own Y rm nL K) {l0 l1 : Option Value} {tl : List (Option Value)} {x : Nat} (hd : decode cc pc = .ok (.astore_n 1, 1)) (hi : 1 < nL) (kk : jJ K kc nc (pc + 1) (l0 :: some (.ref x) :: tl) st ws) : jJ K kc nc pc (l0 :: l1 :: tl) (.ref x :: st) ws := j_astore_n C hd hi kk
theorem j_iinc_1 (C : jC cc own Y rm nL K) {l0 : Option Value} {tl : List (Option Value)} {x : Int32} (v : Int32) {d : Int} (hv : x + Int32.ofInt d = v) (hd : decode cc pc = .ok (.iinc 1 d, 3)) (kk : jJ K kc nc (pc + 3) (l0 :: some (.int v) :: tl) st ws) : jJ K kc nc pc (l0 :: some (.int x) :: tl) st ws := j_iinc C hd rfl hv kk
theorem j_istore_2 (C : jC cc own Y rm nL K) {l0 l1 l2 : Option Value} {tl : List (Option Value)} {x : Int32} (hd : decode cc pc = .ok (.istore_n 2, 1)) (hi : 2 < nL) (kk : jJ K kc nc (pc + 1) (l0 :: l1 :: some (.int x) :: tl) st ws) : jJ K kc nc pc (l0 :: l1 :: l2 :: tl) (.int x :: st) ws := j_istore_n C hd hi kk
theorem j_astore_2 (C : jC cc own Y rm nL K) {l0 l1 l2 : Option Value} {tl : List (Option Value)} {x : Nat} (hd : decode cc pc = .ok (.astore_n 2, 1)) (hi : 2 < nL) (kk : jJ K kc nc (pc + 1) (l0 :: l1 :: some (.ref x) :: tl) st ws) : jJ K kc nc pc (l0 :: l1 :: l2 :: tl) (.ref x :: st) ws := j_astore_n C hd hi kk
theorem j_iinc_2 (C : jC cc own Y rm nL K) {l0 l1 : Option Value} {tl : List (Option Value)} {x : Int32} (v : Int32) {d : Int} (hv : x + Int32.ofInt d = v) (hd : decode cc pc = .ok (.iinc 2 d, 3)) (kk : jJ K kc nc (pc + 3) (l0 :: l1 :: some (.int v) :: tl) st ws) : jJ K kc nc pc (l0 :: l1 :: some (.int x) :: tl) st ws := j_iinc C hd rfl hv kk
theorem j_istore_3 (C : jC cc own Y rm nL K) {l0 l1 l2 l3 : Option Value} {tl : List (Option Value)} {x : Int32} (hd : decode cc pc = .ok (.istore_n 3, 1)) (hi : 3 < nL) (kk : jJ K kc nc (pc + 1) (l0 :: l1 :: l2 :: some (.int x) :: tl) st ws) : jJ K kc nc pc (l0 :: l1 :: l2 :: l3 :: tl) (.int x :: st) ws := j_istore_n C hd hi kk
theorem j_astore_3 (C : jC cc own Y rm nL K) {l0 l1 l2 l3 : Option Value} {tl : List (Option Value)} {x : Nat} (hd : decode cc pc = .ok (.astore_n 3, 1)) (hi : 3 < nL) (kk : jJ K kc nc (pc + 1) (l0 :: l1 :: l2 :: some (.ref x) :: tl) st ws) : jJ K kc nc pc (l0 :: l1 :: l2 :: l3 :: tl) (.ref x :: st) ws := j_astore_n C hd hi kk
theorem j_iinc_3 (C : jC cc own Y rm nL K) {l0 l1 l2 : Option Value} {tl : List (Option Value)} {x : Int32} (v : Int32) {d : Int} (hv : x + Int32.ofInt d = v) (hd : decode cc pc = .ok (.iinc 3 d, 3)) (kk : jJ K kc nc (pc + 3) (l0 :: l1 :: l2 :: some (.int v) :: tl) st ws) : jJ K kc nc pc (l0 :: l1 :: l2 :: some (.int x) :: tl) st ws := j_iinc C hd rfl hv kk
theorem j_istore_4 (C : jC cc own Y rm nL K) {l0 l1 l2 l3 l4 : Option Value} {tl : List (Option Value)} {x : Int32} (hd : decode cc pc = .ok (.istore 4, 2)) (hi : 4 < nL) (kk : jJ K kc nc (pc + 2) (l0 :: l1 :: l2 :: l3 :: some (.int x) :: tl) st ws) : jJ K kc nc pc (l0 :: l1 :: l2 :: l3 :: l4 :: tl) (.int x :: st) ws := j_istore C hd hi kk
theorem j_astore_4 (C : jC cc own Y rm nL K) {l0 l1 l2 l3 l4 : Option Value} {tl : List (Option Value)} {x : Nat} (hd : decode cc pc = .ok (.astore 4, 2)) (hi : 4 < nL) (kk : jJ K kc nc (pc + 2) (l0 :: l1 :: l2 :: l3 :: some (.ref x) :: tl) st ws) : jJ K kc nc pc (l0 :: l1 :: l2 :: l3 :: l4 :: tl) (.ref x :: st) ws := j_astore C hd hi kk
theorem j_iinc_4 (C : jC cc own Y rm nL K) {l0 l1 l2 l3 : Option Value} {tl : List (Option Value)} {x : Int32} (v : Int32) {d : Int} (hv : x + Int32.ofInt d = v) (hd : decode cc pc = .ok (.iinc 4 d, 3)) (kk : jJ K kc nc (pc + 3) (l0 :: l1 :: l2 :: l3 :: some (.int v) :: tl) st ws) : jJ K kc nc pc (l0 :: l1 :: l2 :: l3 :: some (.int x) :: tl) st ws := j_iinc C hd rfl hv kk
theorem j_istore_5 (C : jC cc own Y rm nL K) {l0 l1 l2 l3 l4 l5 : Option Value} {tl : List (Option Value)} {x : Int32} (hd : decode cc pc = .ok (.istore 5, 2)) (hi : 5 < nL) (kk : jJ K kc nc (pc + 2) (l0 :: l1 :: l2 :: l3 :: l4 :: some (.int x) :: tl) st ws) : jJ K kc nc pc (l0 :: l1 :: l2 :: l3 :: l4 :: l5 :: tl) (.int x :: st) ws := j_istore C hd hi kk
theorem j_astore_5 (C : jC cc own Y rm nL K) {l0 l1 l2 l3 l4 l5 : Option Value} {tl : List (Option Value)} {x : Nat} (hd : decode cc pc = .ok (.astore 5, 2)) (hi : 5 < nL) (kk : jJ K kc nc (pc + 2) (l0 :: l1 :: l2 :: l3 :: l4 :: some (.ref x) :: tl) st ws) : jJ K kc nc pc (l0 :: l1 :: l2 :: l3 :: l4 :: l5 :: tl) (.ref x :: st) ws := j_astore C hd hi kk
theorem j_iinc_5 (C : jC cc own Y rm nL K) {l0 l1 l2 l3 l4 : Option Value} {tl : List (Option Value)} {x : Int32} (v : Int32) {d : Int} (hv : x + Int32.ofInt d = v) (hd : decode cc pc = .ok (.iinc 5 d, 3)) (kk : jJ K kc nc (pc + 3) (l0 :: l1 :: l2 :: l3 :: l4 :: some (.int v) :: tl) st ws) : jJ K kc nc pc (l0 :: l1 :: l2 :: l3 :: l4 :: some (.int x) :: tl) st ws := j_iinc C hd rfl hv kk
theorem j_istore_6 (C : jC cc own Y rm nL K) {l0 l1 l2 l3 l4 l5 l6 : Option Value} {tl : List (Option Value)} {x : Int32} (hd : decode cc pc = .ok (.istore 6, 2)) (hi : 6 < nL) (kk : jJ K kc nc (pc + 2) (l0 :: l1 :: l2 :: l3 :: l4 :: l5 :: some (.int x) :: tl) st ws) : jJ K kc nc pc (l0 :: l1 :: l2 :: l3 :: l4 :: l5 :: l6 :: tl) (.int x :: st) ws := j_istore C hd hi kk
theorem j_astore_6 (C : jC cc own Y rm nL K) {l0 l1 l2 l3 l4 l5 l6 : Option Value} {tl : List (Option Value)} {x : Nat} (hd : decode cc pc = .ok (.astore 6, 2)) (hi : 6 < nL) (kk : jJ K kc nc (pc + 2) (l0 :: l1 :: l2 :: l3 :: l4 :: l5 :: some (.ref x) :: tl) st ws) : jJ K kc nc pc (l0 :: l1 :: l2 :: l3 :: l4 :: l5 :: l6 :: tl) (.ref x :: st) ws := j_astore C hd hi kk
theorem j_iinc_6 (C : jC cc own Y rm nL K) {l0 l1 l2 l3 l4 l5 : Option Value} {tl : List (Option Value)} {x : Int32} (v : Int32) {d : Int} (hv : x + Int32.ofInt d = v) (hd : decode cc pc = .ok (.iinc 6 d, 3)) (kk : jJ K kc nc (pc + 3) (l0 :: l1 :: l2 :: l3 :: l4 :: l5 :: some (.int v) :: tl) st ws) : jJ K kc nc pc (l0 :: l1 :: l2 :: l3 :: l4 :: l5 :: some (.int x) :: tl) st ws := j_iinc C hd rfl hv kk
theorem j_istore_7 (C : jC cc own Y rm nL K) {l0 l1 l2 l3 l4 l5 l6 l7 : Option Value} {tl : List (Option Value)} {x : Int32} (hd : decode cc pc = .ok (.istore 7, 2)) (hi : 7 < nL) (kk : jJ K kc nc (pc + 2) (l0 :: l1 :: l2 :: l3 :: l4 :: l5 :: l6 :: some (.int x) :: tl) st ws) : jJ K kc nc pc (l0 :: l1 :: l2 :: l3 :: l4 :: l5 :: l6 :: l7 :: tl) (.int x :: st) ws := j_istore C hd hi kk
theorem j_astore_7 (C : jC cc own Y rm nL K) {l0 l1 l2 l3 l4 l5 l6 l7 : Option Value} {tl : List (Option Value)} {x : Nat} (hd : decode cc pc = .ok (.astore 7, 2)) (hi : 7 < nL) (kk : jJ K kc nc (pc + 2) (l0 :: l1 :: l2 :: l3 :: l4 :: l5 :: l6 :: some (.ref x) :: tl) st ws) : jJ K kc nc pc (l0 :: l1 :: l2 :: l3 :: l4 :: l5 :: l6 :: l7 :: tl) (.ref x :: st) ws := j_astore C hd hi kk
theorem j_iinc_7 (C : jC cc own Y rm nL K) {l0 l1 l2 l3 l4 l5 l6 : Option Value} {tl : List (Option Value)} {x : Int32} (v : Int32) {d : Int} (hv : x + Int32.ofInt d = v) (hd : decode cc pc = .ok (.iinc 7 d, 3)) (kk : jJ K kc nc (pc + 3) (l0 :: l1 :: l2 :: l3 :: l4 :: l5 :: l6 :: some (.int v) :: tl) st ws) : jJ K kc nc pc (l0 :: l1 :: l2 :: l3 :: l4 :: l5 :: l6 :: some (.int x) :: tl) st ws := j_iinc C hd rfl hv kk
theorem j_istore_8 (C : jC cc own Y rm nL K) {l0 l1 l2 l3 l4 l5 l6 l7 l8 : Option Value} {tl : List (Option Value)} {x : Int32} (hd : decode cc pc = .ok (.istore 8, 2)) (hi : 8 < nL) (kk : jJ K kc nc (pc + 2) (l0 :: l1 :: l2 :: l3 :: l4 :: l5 :: l6 :: l7 :: some (.int x) :: tl) st ws) : jJ K kc nc pc (l0 :: l1 :: l2 :: l3 :: l4 :: l5 :: l6 :: l7 :: l8 :: tl) (.int x :: st) ws := j_istore C hd hi kk
theorem j_astore_8 (C : jC cc own Y rm nL K) {l0 l1 l2 l3 l4 l5 l6 l7 l8 : Option Value} {tl : List (Option Value)} {x : Nat} (hd : decode cc pc = .ok (.astore 8, 2)) (hi : 8 < nL) (kk : jJ K kc nc (pc + 2) (l0 :: l1 :: l2 :: l3 :: l4 :: l5 :: l6 :: l7 :: some (.ref x) :: tl) st ws) : jJ K kc nc pc (l0 :: l1 :: l2 :: l3 :: l4 :: l5 :: l6 :: l7 :: l8 :: tl) (.ref x :: st) ws := j_astore C hd hi kk
theorem j_iinc_8 (C : jC cc own Y rm nL K) {l0 l1 l2 l3 l4 l5 l6 l7 : Option Value} {tl : List (Option Value)} {x : Int32} (v : Int32) {d : Int} (hv : x + Int32.ofInt d = v) (hd : decode cc pc = .ok (.iinc 8 d, 3)) (kk : jJ K kc nc (pc + 3) (l0 :: l1 :: l2 :: l3 :: l4 :: l5 :: l6 :: l7 :: some (.int v) :: tl) st ws) : jJ K kc nc pc (l0 :: l1 :: l2 :: l3 :: l4 :: l5 :: l6 :: l7 :: some (.int x) :: tl) st ws := j_iinc C hd rfl hv kk
theorem j_istore_9 (C : jC cc own Y rm nL K) {l0 l1 l2 l3 l4 l5 l6 l7 l8 l9 : Option Value} {tl : List (Option Value)} {x : Int32} (hd : decode cc pc = .ok (.istore 9, 2)) (hi : 9 < nL) (kk : jJ K kc nc (pc + 2) (l0 :: l1 :: l2 :: l3 :: l4 :: l5 :: l6 :: l7 :: l8 :: some (.int x) :: tl) st ws) : jJ K kc nc pc (l0 :: l1 :: l2 :: l3 :: l4 :: l5 :: l6 :: l7 :: l8 :: l9 :: tl) (.int x :: st) ws := j_istore C hd hi kk
theorem j_astore_9 (C : jC cc own Y rm nL K) {l0 l1 l2 l3 l4 l5 l6 l7 l8 l9 : Option Value} {tl : List (Option Value)} {x : Nat} (hd : decode cc pc = .ok (.astore 9, 2)) (hi : 9 < nL) (kk : jJ K kc nc (pc + 2) (l0 :: l1 :: l2 :: l3 :: l4 :: l5 :: l6 :: l7 :: l8 :: some (.ref x) :: tl) st ws) : jJ K kc nc pc (l0 :: l1 :: l2 :: l3 :: l4 :: l5 :: l6 :: l7 :: l8 :: l9 :: tl) (.ref x :: st) ws := j_astore C hd hi kk
theorem j_iinc_9 (C : jC cc own Y rm nL K) {l0 l1 l2 l3 l4 l5 l6 l7 l8 : Option Value} {tl : List (Option Value)} {x : Int32} (v : Int32) {d : Int} (hv : x + Int32.ofInt d = v) (hd : decode cc pc = .ok (.iinc 9 d, 3)) (kk : jJ K kc nc (pc + 3) (l0 :: l1 :: l2 :: l3 :: l4 :: l5 :: l6 :: l7 :: l8 :: some (.int v) :: tl) st ws) : jJ K kc nc pc (l0 :: l1 :: l2 :: l3 :: l4 :: l5 :: l6 :: l7 :: l8 :: some (.int x) :: tl) st ws := j_iinc C hd rfl hv kk
theorem vp_cell_c {cA : ClassId} {N : Nat} {f g : Nat → Int32} (h : ∀ j, j < N → f j = g j) : vp_cell cA (N, .inl f) = vp_cell cA (N, .inl g) := by
  show arrV cA N (fun j => .int (f j)) = arrV cA N (fun j => .int (g j))
  unfold arrV
  have e : (fun j : Fin N => Value.int (f j.val)) = (fun j : Fin N => Value.int (g j.val)) := funext fun j => by rw [h j.val j.isLt]
  rw [e]
theorem j_eqv (q0 : Nat) {a N : Nat} {cA : ClassId} {f g : Nat → Int32} (he : ws[q0]? = some (a, .inl (cA, N, .inl f))) (h : ∀ j, j < N → f j = g j) {ws2 : va_W} (hs : ws.set q0 (a, .inl (cA, N, .inl g)) = ws2) {lo : List (Option Value)} (kk : jJ K kc nc pc lo st ws2) : jJ K kc nc pc lo st ws := by
  subst hs
  intro H locs ls hP hD hS hl
  have h1 : va_at K.2.2.2.1 vwCl (a, .inl (cA, N, .inl g)) H := by
    have h2 := hP q0 _ he
    show H[a]? = some (vp_cell cA (N, .inl g))
    rw [← vp_cell_c h]; exact h2
  exact kk H locs ls (hP.set hD he h1 (fun q _ => rfl)) (hD.set he) hS hl
end JS
def wA (Y : jy_T) (ad : Nat → Nat) (p n ru nw tg mc me : Int32) (we co al tr to fa se qu sp : Nat → Int32) : va_W := [(ad 0, .inr (0, [.int p, .int n, .int ru, .ref (ad 1), .ref (ad 2), .ref (ad 3), .int nw, .int tg, .ref (ad 4), .int mc, .ref (ad 5), .ref (ad 6), .int me, .ref (ad 7), .ref (ad 8), .ref (ad 9)])), (ad 1, .inl (Y.1, 7, .inl we)), (ad 2, .inl (Y.1, 6, .inl co)), (ad 3, .inl (Y.2.1, 25, .inl al)), (ad 4, .inl (Y.1, 500, .inl tr)), (ad 5, .inl (Y.1, 5, .inl to)), (ad 6, .inl (Y.1, 15625, .inl fa)), (ad 7, .inl (Y.1, 15625, .inl se)), (ad 8, .inl (Y.1, 15625, .inl qu)), (ad 9, .inl (Y.1, 63, .inl sp))]
section JW0
variable {K : jk_T} {cc : ByteArray} {Y : jy_T} {rm : Room} {nL kc nc pc : Nat} {lo : List (Option Value)} {st : List Value} {ad : Nat → Nat} {p n ru nw tg mc me : Int32} {we co al tr to fa se qu sp : Nat → Int32}
theorem g0_pegCount (C : jC cc RX0 Y rm nL K) (hd : decode cc pc = .ok (.getfield 117, 3)) (kk : jJ K kc nc (pc + 3) lo (.int p :: st) (wA Y ad p n ru nw tg mc me we co al tr to fa se qu sp)) : jJ K kc nc pc lo (.ref (ad 0) :: st) (wA Y ad p n ru nw tg mc me we co al tr to fa se qu sp) :=
  j_get C wG_X0 0 rfl rfl 0 (by decide) wd_fl0_117 rfl rfl hd kk
theorem p0_pegCount (C : jC cc RX0 Y rm nL K) {x : Int32} (hd : decode cc pc = .ok (.putfield 117, 3)) (kk : jJ K kc nc (pc + 3) lo st (wA Y ad x n ru nw tg mc me we co al tr to fa se qu sp)) : jJ K kc nc pc lo (.int x :: .ref (ad 0) :: st) (wA Y ad p n ru nw tg mc me we co al tr to fa se qu sp) :=
  j_put (fs := [.int p, .int n, .int ru, .ref (ad 1), .ref (ad 2), .ref (ad 3), .int nw, .int tg, .ref (ad 4), .int mc, .ref (ad 5), .ref (ad 6), .int me, .ref (ad 7), .ref (ad 8), .ref (ad 9)]) (ws2 := (wA Y ad x n ru nw tg mc me we co al tr to fa se qu sp)) C wG_X0 tyX0 tyX0_ok nmX0 0 rfl rfl 0 (by decide) wd_fl0_117 rfl rfl rfl rfl (Nat.le_of_ble_eq_true rfl) hd rfl kk
theorem g0_diskCount (C : jC cc RX0 Y rm nL K) (hd : decode cc pc = .ok (.getfield 53, 3)) (kk : jJ K kc nc (pc + 3) lo (.int n :: st) (wA Y ad p n ru nw tg mc me we co al tr to fa se qu sp)) : jJ K kc nc pc lo (.ref (ad 0) :: st) (wA Y ad p n ru nw tg mc me we co al tr to fa se qu sp) :=
  j_get C wG_X0 0 rfl rfl 1 (by decide) wd_fl0_53 rfl rfl hd kk
theorem p0_diskCount (C : jC cc RX0 Y rm nL K) {x : Int32} (hd : decode cc pc = .ok (.putfield 53, 3)) (kk : jJ K kc nc (pc + 3) lo st (wA Y ad p x ru nw tg mc me we co al tr to fa se qu sp)) : jJ K kc nc pc lo (.int x :: .ref (ad 0) :: st) (wA Y ad p n ru nw tg mc me we co al tr to fa se qu sp) :=
  j_put (fs := [.int p, .int n, .int ru, .ref (ad 1), .ref (ad 2), .ref (ad 3), .int nw, .int tg, .ref (ad 4), .int mc, .ref (ad 5), .ref (ad 6), .int me, .ref (ad 7), .ref (ad 8), .ref (ad 9)]) (ws2 := (wA Y ad p x ru nw tg mc me we co al tr to fa se qu sp)) C wG_X0 tyX0 tyX0_ok nmX0 0 rfl rfl 1 (by decide) wd_fl0_53 rfl rfl rfl rfl (Nat.le_of_ble_eq_true rfl) hd rfl kk
theorem g0_ruleOn (C : jC cc RX0 Y rm nL K) (hd : decode cc pc = .ok (.getfield 102, 3)) (kk : jJ K kc nc (pc + 3) lo (.int ru :: st) (wA Y ad p n ru nw tg mc me we co al tr to fa se qu sp)) : jJ K kc nc pc lo (.ref (ad 0) :: st) (wA Y ad p n ru nw tg mc me we co al tr to fa se qu sp) :=
  j_get C wG_X0 0 rfl rfl 2 (by decide) wd_fl0_102 rfl rfl hd kk
theorem p0_ruleOn (C : jC cc RX0 Y rm nL K) {b : Bool} (hd : decode cc pc = .ok (.putfield 102, 3)) (kk : jJ K kc nc (pc + 3) lo st (wA Y ad p n (bi b) nw tg mc me we co al tr to fa se qu sp)) : jJ K kc nc pc lo (.int (bi b) :: .ref (ad 0) :: st) (wA Y ad p n ru nw tg mc me we co al tr to fa se qu sp) :=
  j_put (fs := [.int p, .int n, .int ru, .ref (ad 1), .ref (ad 2), .ref (ad 3), .int nw, .int tg, .ref (ad 4), .int mc, .ref (ad 5), .ref (ad 6), .int me, .ref (ad 7), .ref (ad 8), .ref (ad 9)]) (ws2 := (wA Y ad p n (bi b) nw tg mc me we co al tr to fa se qu sp)) C wG_X0 tyX0 tyX0_ok nmX0 0 rfl rfl 2 (by decide) wd_fl0_102 rfl rfl (bi_nar b) (bi_fit b) (Nat.le_of_ble_eq_true rfl) hd rfl kk
theorem g0_weight (C : jC cc RX0 Y rm nL K) (hd : decode cc pc = .ok (.getfield 9, 3)) (kk : jJ K kc nc (pc + 3) lo (.ref (ad 1) :: st) (wA Y ad p n ru nw tg mc me we co al tr to fa se qu sp)) : jJ K kc nc pc lo (.ref (ad 0) :: st) (wA Y ad p n ru nw tg mc me we co al tr to fa se qu sp) :=
  j_get C wG_X0 0 rfl rfl 3 (by decide) wd_fl0_9 rfl rfl hd kk
theorem g0_colour (C : jC cc RX0 Y rm nL K) (hd : decode cc pc = .ok (.getfield 13, 3)) (kk : jJ K kc nc (pc + 3) lo (.ref (ad 2) :: st) (wA Y ad p n ru nw tg mc me we co al tr to fa se qu sp)) : jJ K kc nc pc lo (.ref (ad 0) :: st) (wA Y ad p n ru nw tg mc me we co al tr to fa se qu sp) :=
  j_get C wG_X0 0 rfl rfl 4 (by decide) wd_fl0_13 rfl rfl hd kk
theorem g0_allowed (C : jC cc RX0 Y rm nL K) (hd : decode cc pc = .ok (.getfield 16, 3)) (kk : jJ K kc nc (pc + 3) lo (.ref (ad 3) :: st) (wA Y ad p n ru nw tg mc me we co al tr to fa se qu sp)) : jJ K kc nc pc lo (.ref (ad 0) :: st) (wA Y ad p n ru nw tg mc me we co al tr to fa se qu sp) :=
  j_get C wG_X0 0 rfl rfl 5 (by decide) wd_fl0_16 rfl rfl hd kk
theorem g0_now (C : jC cc RX0 Y rm nL K) (hd : decode cc pc = .ok (.getfield 77, 3)) (kk : jJ K kc nc (pc + 3) lo (.int nw :: st) (wA Y ad p n ru nw tg mc me we co al tr to fa se qu sp)) : jJ K kc nc pc lo (.ref (ad 0) :: st) (wA Y ad p n ru nw tg mc me we co al tr to fa se qu sp) :=
  j_get C wG_X0 0 rfl rfl 6 (by decide) wd_fl0_77 rfl rfl hd kk
theorem p0_now (C : jC cc RX0 Y rm nL K) {x : Int32} (hd : decode cc pc = .ok (.putfield 77, 3)) (kk : jJ K kc nc (pc + 3) lo st (wA Y ad p n ru x tg mc me we co al tr to fa se qu sp)) : jJ K kc nc pc lo (.int x :: .ref (ad 0) :: st) (wA Y ad p n ru nw tg mc me we co al tr to fa se qu sp) :=
  j_put (fs := [.int p, .int n, .int ru, .ref (ad 1), .ref (ad 2), .ref (ad 3), .int nw, .int tg, .ref (ad 4), .int mc, .ref (ad 5), .ref (ad 6), .int me, .ref (ad 7), .ref (ad 8), .ref (ad 9)]) (ws2 := (wA Y ad p n ru x tg mc me we co al tr to fa se qu sp)) C wG_X0 tyX0 tyX0_ok nmX0 0 rfl rfl 6 (by decide) wd_fl0_77 rfl rfl rfl rfl (Nat.le_of_ble_eq_true rfl) hd rfl kk
theorem g0_target (C : jC cc RX0 Y rm nL K) (hd : decode cc pc = .ok (.getfield 84, 3)) (kk : jJ K kc nc (pc + 3) lo (.int tg :: st) (wA Y ad p n ru nw tg mc me we co al tr to fa se qu sp)) : jJ K kc nc pc lo (.ref (ad 0) :: st) (wA Y ad p n ru nw tg mc me we co al tr to fa se qu sp) :=
  j_get C wG_X0 0 rfl rfl 7 (by decide) wd_fl0_84 rfl rfl hd kk
theorem p0_target (C : jC cc RX0 Y rm nL K) {x : Int32} (hd : decode cc pc = .ok (.putfield 84, 3)) (kk : jJ K kc nc (pc + 3) lo st (wA Y ad p n ru nw x mc me we co al tr to fa se qu sp)) : jJ K kc nc pc lo (.int x :: .ref (ad 0) :: st) (wA Y ad p n ru nw tg mc me we co al tr to fa se qu sp) :=
  j_put (fs := [.int p, .int n, .int ru, .ref (ad 1), .ref (ad 2), .ref (ad 3), .int nw, .int tg, .ref (ad 4), .int mc, .ref (ad 5), .ref (ad 6), .int me, .ref (ad 7), .ref (ad 8), .ref (ad 9)]) (ws2 := (wA Y ad p n ru nw x mc me we co al tr to fa se qu sp)) C wG_X0 tyX0 tyX0_ok nmX0 0 rfl rfl 7 (by decide) wd_fl0_84 rfl rfl rfl rfl (Nat.le_of_ble_eq_true rfl) hd rfl kk
theorem g0_trail (C : jC cc RX0 Y rm nL K) (hd : decode cc pc = .ok (.getfield 20, 3)) (kk : jJ K kc nc (pc + 3) lo (.ref (ad 4) :: st) (wA Y ad p n ru nw tg mc me we co al tr to fa se qu sp)) : jJ K kc nc pc lo (.ref (ad 0) :: st) (wA Y ad p n ru nw tg mc me we co al tr to fa se qu sp) :=
  j_get C wG_X0 0 rfl rfl 8 (by decide) wd_fl0_20 rfl rfl hd kk
theorem g0_moveCount (C : jC cc RX0 Y rm nL K) (hd : decode cc pc = .ok (.getfield 69, 3)) (kk : jJ K kc nc (pc + 3) lo (.int mc :: st) (wA Y ad p n ru nw tg mc me we co al tr to fa se qu sp)) : jJ K kc nc pc lo (.ref (ad 0) :: st) (wA Y ad p n ru nw tg mc me we co al tr to fa se qu sp) :=
  j_get C wG_X0 0 rfl rfl 9 (by decide) wd_fl0_69 rfl rfl hd kk
theorem p0_moveCount (C : jC cc RX0 Y rm nL K) {x : Int32} (hd : decode cc pc = .ok (.putfield 69, 3)) (kk : jJ K kc nc (pc + 3) lo st (wA Y ad p n ru nw tg x me we co al tr to fa se qu sp)) : jJ K kc nc pc lo (.int x :: .ref (ad 0) :: st) (wA Y ad p n ru nw tg mc me we co al tr to fa se qu sp) :=
  j_put (fs := [.int p, .int n, .int ru, .ref (ad 1), .ref (ad 2), .ref (ad 3), .int nw, .int tg, .ref (ad 4), .int mc, .ref (ad 5), .ref (ad 6), .int me, .ref (ad 7), .ref (ad 8), .ref (ad 9)]) (ws2 := (wA Y ad p n ru nw tg x me we co al tr to fa se qu sp)) C wG_X0 tyX0 tyX0_ok nmX0 0 rfl rfl 9 (by decide) wd_fl0_69 rfl rfl rfl rfl (Nat.le_of_ble_eq_true rfl) hd rfl kk
theorem g0_tops (C : jC cc RX0 Y rm nL K) (hd : decode cc pc = .ok (.getfield 23, 3)) (kk : jJ K kc nc (pc + 3) lo (.ref (ad 5) :: st) (wA Y ad p n ru nw tg mc me we co al tr to fa se qu sp)) : jJ K kc nc pc lo (.ref (ad 0) :: st) (wA Y ad p n ru nw tg mc me we co al tr to fa se qu sp) :=
  j_get C wG_X0 0 rfl rfl 10 (by decide) wd_fl0_23 rfl rfl hd kk
theorem g0_far (C : jC cc RX0 Y rm nL K) (hd : decode cc pc = .ok (.getfield 26, 3)) (kk : jJ K kc nc (pc + 3) lo (.ref (ad 6) :: st) (wA Y ad p n ru nw tg mc me we co al tr to fa se qu sp)) : jJ K kc nc pc lo (.ref (ad 0) :: st) (wA Y ad p n ru nw tg mc me we co al tr to fa se qu sp) :=
  j_get C wG_X0 0 rfl rfl 11 (by decide) wd_fl0_26 rfl rfl hd kk
theorem g0_measured (C : jC cc RX0 Y rm nL K) (hd : decode cc pc = .ok (.getfield 87, 3)) (kk : jJ K kc nc (pc + 3) lo (.int me :: st) (wA Y ad p n ru nw tg mc me we co al tr to fa se qu sp)) : jJ K kc nc pc lo (.ref (ad 0) :: st) (wA Y ad p n ru nw tg mc me we co al tr to fa se qu sp) :=
  j_get C wG_X0 0 rfl rfl 12 (by decide) wd_fl0_87 rfl rfl hd kk
theorem p0_measured (C : jC cc RX0 Y rm nL K) {b : Bool} (hd : decode cc pc = .ok (.putfield 87, 3)) (kk : jJ K kc nc (pc + 3) lo st (wA Y ad p n ru nw tg mc (bi b) we co al tr to fa se qu sp)) : jJ K kc nc pc lo (.int (bi b) :: .ref (ad 0) :: st) (wA Y ad p n ru nw tg mc me we co al tr to fa se qu sp) :=
  j_put (fs := [.int p, .int n, .int ru, .ref (ad 1), .ref (ad 2), .ref (ad 3), .int nw, .int tg, .ref (ad 4), .int mc, .ref (ad 5), .ref (ad 6), .int me, .ref (ad 7), .ref (ad 8), .ref (ad 9)]) (ws2 := (wA Y ad p n ru nw tg mc (bi b) we co al tr to fa se qu sp)) C wG_X0 tyX0 tyX0_ok nmX0 0 rfl rfl 12 (by decide) wd_fl0_87 rfl rfl (bi_nar b) (bi_fit b) (Nat.le_of_ble_eq_true rfl) hd rfl kk
theorem g0_seen (C : jC cc RX0 Y rm nL K) (hd : decode cc pc = .ok (.getfield 29, 3)) (kk : jJ K kc nc (pc + 3) lo (.ref (ad 7) :: st) (wA Y ad p n ru nw tg mc me we co al tr to fa se qu sp)) : jJ K kc nc pc lo (.ref (ad 0) :: st) (wA Y ad p n ru nw tg mc me we co al tr to fa se qu sp) :=
  j_get C wG_X0 0 rfl rfl 13 (by decide) wd_fl0_29 rfl rfl hd kk
theorem g0_queue (C : jC cc RX0 Y rm nL K) (hd : decode cc pc = .ok (.getfield 32, 3)) (kk : jJ K kc nc (pc + 3) lo (.ref (ad 8) :: st) (wA Y ad p n ru nw tg mc me we co al tr to fa se qu sp)) : jJ K kc nc pc lo (.ref (ad 0) :: st) (wA Y ad p n ru nw tg mc me we co al tr to fa se qu sp) :=
  j_get C wG_X0 0 rfl rfl 14 (by decide) wd_fl0_32 rfl rfl hd kk
theorem g0_splitNumbers (C : jC cc RX0 Y rm nL K) (hd : decode cc pc = .ok (.getfield 39, 3)) (kk : jJ K kc nc (pc + 3) lo (.ref (ad 9) :: st) (wA Y ad p n ru nw tg mc me we co al tr to fa se qu sp)) : jJ K kc nc pc lo (.ref (ad 0) :: st) (wA Y ad p n ru nw tg mc me we co al tr to fa se qu sp) :=
  j_get C wG_X0 0 rfl rfl 15 (by decide) wd_fl0_39 rfl rfl hd kk
theorem l0_we (C : jC cc RX0 Y rm nL K) {i : Int32} (j : Nat) (hi : i = nI j) (hj : j < 7) (hd : decode cc pc = .ok (.iaload, 1)) (kk : jJ K kc nc (pc + 1) lo (.int (we j) :: st) (wA Y ad p n ru nw tg mc me we co al tr to fa se qu sp)) : jJ K kc nc pc lo (.int i :: .ref (ad 1) :: st) (wA Y ad p n ru nw tg mc me we co al tr to fa se qu sp) :=
  j_iald C 1 rfl j hi hj (by decide) hd kk
theorem s0_we (C : jC cc RX0 Y rm nL K) {i x : Int32} (j : Nat) (hi : i = nI j) (hj : j < 7) (hd : decode cc pc = .ok (.iastore, 1)) (kk : jJ K kc nc (pc + 1) lo st (wA Y ad p n ru nw tg mc me (upd we j x) co al tr to fa se qu sp)) : jJ K kc nc pc lo (.int x :: .int i :: .ref (ad 1) :: st) (wA Y ad p n ru nw tg mc me we co al tr to fa se qu sp) :=
  j_iast C 1 rfl j hi hj (by decide) hd rfl kk
theorem e0_we (g : Nat → Int32) (h : ∀ j, j < 7 → we j = g j) (kk : jJ K kc nc pc lo st (wA Y ad p n ru nw tg mc me g co al tr to fa se qu sp)) : jJ K kc nc pc lo st (wA Y ad p n ru nw tg mc me we co al tr to fa se qu sp) := j_eqv 1 rfl h rfl kk
theorem n0_we (C : jC cc RX0 Y rm nL K) (hd : decode cc pc = .ok (.arraylength, 1)) (kk : jJ K kc nc (pc + 1) lo (.int (nI 7) :: st) (wA Y ad p n ru nw tg mc me we co al tr to fa se qu sp)) : jJ K kc nc pc lo (.ref (ad 1) :: st) (wA Y ad p n ru nw tg mc me we co al tr to fa se qu sp) :=
  j_alenG C 1 0 rfl rfl rfl hd kk
theorem l0_co (C : jC cc RX0 Y rm nL K) {i : Int32} (j : Nat) (hi : i = nI j) (hj : j < 6) (hd : decode cc pc = .ok (.iaload, 1)) (kk : jJ K kc nc (pc + 1) lo (.int (co j) :: st) (wA Y ad p n ru nw tg mc me we co al tr to fa se qu sp)) : jJ K kc nc pc lo (.int i :: .ref (ad 2) :: st) (wA Y ad p n ru nw tg mc me we co al tr to fa se qu sp) :=
  j_iald C 2 rfl j hi hj (by decide) hd kk
theorem s0_co (C : jC cc RX0 Y rm nL K) {i x : Int32} (j : Nat) (hi : i = nI j) (hj : j < 6) (hd : decode cc pc = .ok (.iastore, 1)) (kk : jJ K kc nc (pc + 1) lo st (wA Y ad p n ru nw tg mc me we (upd co j x) al tr to fa se qu sp)) : jJ K kc nc pc lo (.int x :: .int i :: .ref (ad 2) :: st) (wA Y ad p n ru nw tg mc me we co al tr to fa se qu sp) :=
  j_iast C 2 rfl j hi hj (by decide) hd rfl kk
theorem e0_co (g : Nat → Int32) (h : ∀ j, j < 6 → co j = g j) (kk : jJ K kc nc pc lo st (wA Y ad p n ru nw tg mc me we g al tr to fa se qu sp)) : jJ K kc nc pc lo st (wA Y ad p n ru nw tg mc me we co al tr to fa se qu sp) := j_eqv 2 rfl h rfl kk
theorem n0_co (C : jC cc RX0 Y rm nL K) (hd : decode cc pc = .ok (.arraylength, 1)) (kk : jJ K kc nc (pc + 1) lo (.int (nI 6) :: st) (wA Y ad p n ru nw tg mc me we co al tr to fa se qu sp)) : jJ K kc nc pc lo (.ref (ad 2) :: st) (wA Y ad p n ru nw tg mc me we co al tr to fa se qu sp) :=
  j_alenG C 2 0 rfl rfl rfl hd kk
theorem l0_al (C : jC cc RX0 Y rm nL K) {i : Int32} (j : Nat) (hi : i = nI j) (hj : j < 25) (hd : decode cc pc = .ok (.baload, 1)) (kk : jJ K kc nc (pc + 1) lo (.int (al j) :: st) (wA Y ad p n ru nw tg mc me we co al tr to fa se qu sp)) : jJ K kc nc pc lo (.int i :: .ref (ad 3) :: st) (wA Y ad p n ru nw tg mc me we co al tr to fa se qu sp) :=
  j_zald C 3 rfl j hi hj (by decide) hd kk
theorem s0_al (C : jC cc RX0 Y rm nL K) {i : Int32} {b : Bool} (j : Nat) (hi : i = nI j) (hj : j < 25) (hd : decode cc pc = .ok (.bastore, 1)) (kk : jJ K kc nc (pc + 1) lo st (wA Y ad p n ru nw tg mc me we co (upd al j (bi b)) tr to fa se qu sp)) : jJ K kc nc pc lo (.int (bi b) :: .int i :: .ref (ad 3) :: st) (wA Y ad p n ru nw tg mc me we co al tr to fa se qu sp) :=
  j_zast C 3 rfl j hi hj (by decide) hd (by rw [bi_vp]; rfl) kk
theorem e0_al (g : Nat → Int32) (h : ∀ j, j < 25 → al j = g j) (kk : jJ K kc nc pc lo st (wA Y ad p n ru nw tg mc me we co g tr to fa se qu sp)) : jJ K kc nc pc lo st (wA Y ad p n ru nw tg mc me we co al tr to fa se qu sp) := j_eqv 3 rfl h rfl kk
theorem n0_al (C : jC cc RX0 Y rm nL K) (hd : decode cc pc = .ok (.arraylength, 1)) (kk : jJ K kc nc (pc + 1) lo (.int (nI 25) :: st) (wA Y ad p n ru nw tg mc me we co al tr to fa se qu sp)) : jJ K kc nc pc lo (.ref (ad 3) :: st) (wA Y ad p n ru nw tg mc me we co al tr to fa se qu sp) :=
  j_alenG C 3 1 rfl rfl rfl hd kk
theorem l0_tr (C : jC cc RX0 Y rm nL K) {i : Int32} (j : Nat) (hi : i = nI j) (hj : j < 500) (hd : decode cc pc = .ok (.iaload, 1)) (kk : jJ K kc nc (pc + 1) lo (.int (tr j) :: st) (wA Y ad p n ru nw tg mc me we co al tr to fa se qu sp)) : jJ K kc nc pc lo (.int i :: .ref (ad 4) :: st) (wA Y ad p n ru nw tg mc me we co al tr to fa se qu sp) :=
  j_iald C 4 rfl j hi hj (by decide) hd kk
theorem s0_tr (C : jC cc RX0 Y rm nL K) {i x : Int32} (j : Nat) (hi : i = nI j) (hj : j < 500) (hd : decode cc pc = .ok (.iastore, 1)) (kk : jJ K kc nc (pc + 1) lo st (wA Y ad p n ru nw tg mc me we co al (upd tr j x) to fa se qu sp)) : jJ K kc nc pc lo (.int x :: .int i :: .ref (ad 4) :: st) (wA Y ad p n ru nw tg mc me we co al tr to fa se qu sp) :=
  j_iast C 4 rfl j hi hj (by decide) hd rfl kk
theorem e0_tr (g : Nat → Int32) (h : ∀ j, j < 500 → tr j = g j) (kk : jJ K kc nc pc lo st (wA Y ad p n ru nw tg mc me we co al g to fa se qu sp)) : jJ K kc nc pc lo st (wA Y ad p n ru nw tg mc me we co al tr to fa se qu sp) := j_eqv 4 rfl h rfl kk
theorem n0_tr (C : jC cc RX0 Y rm nL K) (hd : decode cc pc = .ok (.arraylength, 1)) (kk : jJ K kc nc (pc + 1) lo (.int (nI 500) :: st) (wA Y ad p n ru nw tg mc me we co al tr to fa se qu sp)) : jJ K kc nc pc lo (.ref (ad 4) :: st) (wA Y ad p n ru nw tg mc me we co al tr to fa se qu sp) :=
  j_alenG C 4 0 rfl rfl rfl hd kk
theorem l0_to (C : jC cc RX0 Y rm nL K) {i : Int32} (j : Nat) (hi : i = nI j) (hj : j < 5) (hd : decode cc pc = .ok (.iaload, 1)) (kk : jJ K kc nc (pc + 1) lo (.int (to j) :: st) (wA Y ad p n ru nw tg mc me we co al tr to fa se qu sp)) : jJ K kc nc pc lo (.int i :: .ref (ad 5) :: st) (wA Y ad p n ru nw tg mc me we co al tr to fa se qu sp) :=
  j_iald C 5 rfl j hi hj (by decide) hd kk
theorem s0_to (C : jC cc RX0 Y rm nL K) {i x : Int32} (j : Nat) (hi : i = nI j) (hj : j < 5) (hd : decode cc pc = .ok (.iastore, 1)) (kk : jJ K kc nc (pc + 1) lo st (wA Y ad p n ru nw tg mc me we co al tr (upd to j x) fa se qu sp)) : jJ K kc nc pc lo (.int x :: .int i :: .ref (ad 5) :: st) (wA Y ad p n ru nw tg mc me we co al tr to fa se qu sp) :=
  j_iast C 5 rfl j hi hj (by decide) hd rfl kk
theorem e0_to (g : Nat → Int32) (h : ∀ j, j < 5 → to j = g j) (kk : jJ K kc nc pc lo st (wA Y ad p n ru nw tg mc me we co al tr g fa se qu sp)) : jJ K kc nc pc lo st (wA Y ad p n ru nw tg mc me we co al tr to fa se qu sp) := j_eqv 5 rfl h rfl kk
theorem n0_to (C : jC cc RX0 Y rm nL K) (hd : decode cc pc = .ok (.arraylength, 1)) (kk : jJ K kc nc (pc + 1) lo (.int (nI 5) :: st) (wA Y ad p n ru nw tg mc me we co al tr to fa se qu sp)) : jJ K kc nc pc lo (.ref (ad 5) :: st) (wA Y ad p n ru nw tg mc me we co al tr to fa se qu sp) :=
  j_alenG C 5 0 rfl rfl rfl hd kk
theorem l0_fa (C : jC cc RX0 Y rm nL K) {i : Int32} (j : Nat) (hi : i = nI j) (hj : j < 15625) (hd : decode cc pc = .ok (.iaload, 1)) (kk : jJ K kc nc (pc + 1) lo (.int (fa j) :: st) (wA Y ad p n ru nw tg mc me we co al tr to fa se qu sp)) : jJ K kc nc pc lo (.int i :: .ref (ad 6) :: st) (wA Y ad p n ru nw tg mc me we co al tr to fa se qu sp) :=
  j_iald C 6 rfl j hi hj (by decide) hd kk
theorem s0_fa (C : jC cc RX0 Y rm nL K) {i x : Int32} (j : Nat) (hi : i = nI j) (hj : j < 15625) (hd : decode cc pc = .ok (.iastore, 1)) (kk : jJ K kc nc (pc + 1) lo st (wA Y ad p n ru nw tg mc me we co al tr to (upd fa j x) se qu sp)) : jJ K kc nc pc lo (.int x :: .int i :: .ref (ad 6) :: st) (wA Y ad p n ru nw tg mc me we co al tr to fa se qu sp) :=
  j_iast C 6 rfl j hi hj (by decide) hd rfl kk
theorem e0_fa (g : Nat → Int32) (h : ∀ j, j < 15625 → fa j = g j) (kk : jJ K kc nc pc lo st (wA Y ad p n ru nw tg mc me we co al tr to g se qu sp)) : jJ K kc nc pc lo st (wA Y ad p n ru nw tg mc me we co al tr to fa se qu sp) := j_eqv 6 rfl h rfl kk
theorem n0_fa (C : jC cc RX0 Y rm nL K) (hd : decode cc pc = .ok (.arraylength, 1)) (kk : jJ K kc nc (pc + 1) lo (.int (nI 15625) :: st) (wA Y ad p n ru nw tg mc me we co al tr to fa se qu sp)) : jJ K kc nc pc lo (.ref (ad 6) :: st) (wA Y ad p n ru nw tg mc me we co al tr to fa se qu sp) :=
  j_alenG C 6 0 rfl rfl rfl hd kk
theorem l0_se (C : jC cc RX0 Y rm nL K) {i : Int32} (j : Nat) (hi : i = nI j) (hj : j < 15625) (hd : decode cc pc = .ok (.iaload, 1)) (kk : jJ K kc nc (pc + 1) lo (.int (se j) :: st) (wA Y ad p n ru nw tg mc me we co al tr to fa se qu sp)) : jJ K kc nc pc lo (.int i :: .ref (ad 7) :: st) (wA Y ad p n ru nw tg mc me we co al tr to fa se qu sp) :=
  j_iald C 7 rfl j hi hj (by decide) hd kk
theorem s0_se (C : jC cc RX0 Y rm nL K) {i x : Int32} (j : Nat) (hi : i = nI j) (hj : j < 15625) (hd : decode cc pc = .ok (.iastore, 1)) (kk : jJ K kc nc (pc + 1) lo st (wA Y ad p n ru nw tg mc me we co al tr to fa (upd se j x) qu sp)) : jJ K kc nc pc lo (.int x :: .int i :: .ref (ad 7) :: st) (wA Y ad p n ru nw tg mc me we co al tr to fa se qu sp) :=
  j_iast C 7 rfl j hi hj (by decide) hd rfl kk
theorem e0_se (g : Nat → Int32) (h : ∀ j, j < 15625 → se j = g j) (kk : jJ K kc nc pc lo st (wA Y ad p n ru nw tg mc me we co al tr to fa g qu sp)) : jJ K kc nc pc lo st (wA Y ad p n ru nw tg mc me we co al tr to fa se qu sp) := j_eqv 7 rfl h rfl kk
theorem n0_se (C : jC cc RX0 Y rm nL K) (hd : decode cc pc = .ok (.arraylength, 1)) (kk : jJ K kc nc (pc + 1) lo (.int (nI 15625) :: st) (wA Y ad p n ru nw tg mc me we co al tr to fa se qu sp)) : jJ K kc nc pc lo (.ref (ad 7) :: st) (wA Y ad p n ru nw tg mc me we co al tr to fa se qu sp) :=
  j_alenG C 7 0 rfl rfl rfl hd kk
theorem l0_qu (C : jC cc RX0 Y rm nL K) {i : Int32} (j : Nat) (hi : i = nI j) (hj : j < 15625) (hd : decode cc pc = .ok (.iaload, 1)) (kk : jJ K kc nc (pc + 1) lo (.int (qu j) :: st) (wA Y ad p n ru nw tg mc me we co al tr to fa se qu sp)) : jJ K kc nc pc lo (.int i :: .ref (ad 8) :: st) (wA Y ad p n ru nw tg mc me we co al tr to fa se qu sp) :=
  j_iald C 8 rfl j hi hj (by decide) hd kk
theorem s0_qu (C : jC cc RX0 Y rm nL K) {i x : Int32} (j : Nat) (hi : i = nI j) (hj : j < 15625) (hd : decode cc pc = .ok (.iastore, 1)) (kk : jJ K kc nc (pc + 1) lo st (wA Y ad p n ru nw tg mc me we co al tr to fa se (upd qu j x) sp)) : jJ K kc nc pc lo (.int x :: .int i :: .ref (ad 8) :: st) (wA Y ad p n ru nw tg mc me we co al tr to fa se qu sp) :=
  j_iast C 8 rfl j hi hj (by decide) hd rfl kk
theorem e0_qu (g : Nat → Int32) (h : ∀ j, j < 15625 → qu j = g j) (kk : jJ K kc nc pc lo st (wA Y ad p n ru nw tg mc me we co al tr to fa se g sp)) : jJ K kc nc pc lo st (wA Y ad p n ru nw tg mc me we co al tr to fa se qu sp) := j_eqv 8 rfl h rfl kk
theorem n0_qu (C : jC cc RX0 Y rm nL K) (hd : decode cc pc = .ok (.arraylength, 1)) (kk : jJ K kc nc (pc + 1) lo (.int (nI 15625) :: st) (wA Y ad p n ru nw tg mc me we co al tr to fa se qu sp)) : jJ K kc nc pc lo (.ref (ad 8) :: st) (wA Y ad p n ru nw tg mc me we co al tr to fa se qu sp) :=
  j_alenG C 8 0 rfl rfl rfl hd kk
theorem l0_sp (C : jC cc RX0 Y rm nL K) {i : Int32} (j : Nat) (hi : i = nI j) (hj : j < 63) (hd : decode cc pc = .ok (.iaload, 1)) (kk : jJ K kc nc (pc + 1) lo (.int (sp j) :: st) (wA Y ad p n ru nw tg mc me we co al tr to fa se qu sp)) : jJ K kc nc pc lo (.int i :: .ref (ad 9) :: st) (wA Y ad p n ru nw tg mc me we co al tr to fa se qu sp) :=
  j_iald C 9 rfl j hi hj (by decide) hd kk
theorem s0_sp (C : jC cc RX0 Y rm nL K) {i x : Int32} (j : Nat) (hi : i = nI j) (hj : j < 63) (hd : decode cc pc = .ok (.iastore, 1)) (kk : jJ K kc nc (pc + 1) lo st (wA Y ad p n ru nw tg mc me we co al tr to fa se qu (upd sp j x))) : jJ K kc nc pc lo (.int x :: .int i :: .ref (ad 9) :: st) (wA Y ad p n ru nw tg mc me we co al tr to fa se qu sp) :=
  j_iast C 9 rfl j hi hj (by decide) hd rfl kk
theorem e0_sp (g : Nat → Int32) (h : ∀ j, j < 63 → sp j = g j) (kk : jJ K kc nc pc lo st (wA Y ad p n ru nw tg mc me we co al tr to fa se qu g)) : jJ K kc nc pc lo st (wA Y ad p n ru nw tg mc me we co al tr to fa se qu sp) := j_eqv 9 rfl h rfl kk
theorem n0_sp (C : jC cc RX0 Y rm nL K) (hd : decode cc pc = .ok (.arraylength, 1)) (kk : jJ K kc nc (pc + 1) lo (.int (nI 63) :: st) (wA Y ad p n ru nw tg mc me we co al tr to fa se qu sp)) : jJ K kc nc pc lo (.ref (ad 9) :: st) (wA Y ad p n ru nw tg mc me we co al tr to fa se qu sp) :=
  j_alenG C 9 0 rfl rfl rfl hd kk
end JW0
def wM (Y : jy_T) (ad : Nat → Nat) (th p n ru mc s0 qd : Int32) (nw gl co ba fr tt lk fa qu nb : Nat → Int32) : va_W := [(ad 0, .inr (1, [.int th, .int p, .int n, .ref (ad 1), .ref (ad 2), .ref (ad 3), .int ru, .ref (ad 4), .ref (ad 5), .ref (ad 6), .int mc, .int s0, .ref (ad 7), .ref (ad 8), .ref (ad 9), .int qd, .ref (ad 10)])), (ad 1, .inl (Y.1, 6, .inl nw)), (ad 2, .inl (Y.1, 6, .inl gl)), (ad 3, .inl (Y.1, 6, .inl co)), (ad 4, .inl (Y.2.1, 25, .inl ba)), (ad 5, .inl (Y.1, 500, .inl fr)), (ad 6, .inl (Y.1, 500, .inl tt)), (ad 7, .inl (Y.1, 6, .inl lk)), (ad 8, .inl (Y.1, 15625, .inl fa)), (ad 9, .inl (Y.1, 15625, .inl qu)), (ad 10, .inl (Y.1, 63, .inl nb))]
section JW1
variable {K : jk_T} {cc : ByteArray} {Y : jy_T} {rm : Room} {nL kc nc pc : Nat} {lo : List (Option Value)} {st : List Value} {ad : Nat → Nat} {th p n ru mc s0 qd : Int32} {nw gl co ba fr tt lk fa qu nb : Nat → Int32}
theorem g1_thrown (C : jC cc RX1 Y rm nL K) (hd : decode cc pc = .ok (.getfield 52, 3)) (kk : jJ K kc nc (pc + 3) lo (.int th :: st) (wM Y ad th p n ru mc s0 qd nw gl co ba fr tt lk fa qu nb)) : jJ K kc nc pc lo (.ref (ad 0) :: st) (wM Y ad th p n ru mc s0 qd nw gl co ba fr tt lk fa qu nb) :=
  j_get C wG_X1 0 rfl rfl 0 (by decide) wd_fl1_52 rfl rfl hd kk
theorem p1_thrown (C : jC cc RX1 Y rm nL K) {x : Int32} (hd : decode cc pc = .ok (.putfield 52, 3)) (kk : jJ K kc nc (pc + 3) lo st (wM Y ad x p n ru mc s0 qd nw gl co ba fr tt lk fa qu nb)) : jJ K kc nc pc lo (.int x :: .ref (ad 0) :: st) (wM Y ad th p n ru mc s0 qd nw gl co ba fr tt lk fa qu nb) :=
  j_put (fs := [.int th, .int p, .int n, .ref (ad 1), .ref (ad 2), .ref (ad 3), .int ru, .ref (ad 4), .ref (ad 5), .ref (ad 6), .int mc, .int s0, .ref (ad 7), .ref (ad 8), .ref (ad 9), .int qd, .ref (ad 10)]) (ws2 := (wM Y ad x p n ru mc s0 qd nw gl co ba fr tt lk fa qu nb)) C wG_X1 tyX1 tyX1_ok nmX1 0 rfl rfl 0 (by decide) wd_fl1_52 rfl rfl rfl rfl (Nat.le_of_ble_eq_true rfl) hd rfl kk
theorem g1_pegs (C : jC cc RX1 Y rm nL K) (hd : decode cc pc = .ok (.getfield 7, 3)) (kk : jJ K kc nc (pc + 3) lo (.int p :: st) (wM Y ad th p n ru mc s0 qd nw gl co ba fr tt lk fa qu nb)) : jJ K kc nc pc lo (.ref (ad 0) :: st) (wM Y ad th p n ru mc s0 qd nw gl co ba fr tt lk fa qu nb) :=
  j_get C wG_X1 0 rfl rfl 1 (by decide) wd_fl1_7 rfl rfl hd kk
theorem p1_pegs (C : jC cc RX1 Y rm nL K) {x : Int32} (hd : decode cc pc = .ok (.putfield 7, 3)) (kk : jJ K kc nc (pc + 3) lo st (wM Y ad th x n ru mc s0 qd nw gl co ba fr tt lk fa qu nb)) : jJ K kc nc pc lo (.int x :: .ref (ad 0) :: st) (wM Y ad th p n ru mc s0 qd nw gl co ba fr tt lk fa qu nb) :=
  j_put (fs := [.int th, .int p, .int n, .ref (ad 1), .ref (ad 2), .ref (ad 3), .int ru, .ref (ad 4), .ref (ad 5), .ref (ad 6), .int mc, .int s0, .ref (ad 7), .ref (ad 8), .ref (ad 9), .int qd, .ref (ad 10)]) (ws2 := (wM Y ad th x n ru mc s0 qd nw gl co ba fr tt lk fa qu nb)) C wG_X1 tyX1 tyX1_ok nmX1 0 rfl rfl 1 (by decide) wd_fl1_7 rfl rfl rfl rfl (Nat.le_of_ble_eq_true rfl) hd rfl kk
theorem g1_disks (C : jC cc RX1 Y rm nL K) (hd : decode cc pc = .ok (.getfield 13, 3)) (kk : jJ K kc nc (pc + 3) lo (.int n :: st) (wM Y ad th p n ru mc s0 qd nw gl co ba fr tt lk fa qu nb)) : jJ K kc nc pc lo (.ref (ad 0) :: st) (wM Y ad th p n ru mc s0 qd nw gl co ba fr tt lk fa qu nb) :=
  j_get C wG_X1 0 rfl rfl 2 (by decide) wd_fl1_13 rfl rfl hd kk
theorem p1_disks (C : jC cc RX1 Y rm nL K) {x : Int32} (hd : decode cc pc = .ok (.putfield 13, 3)) (kk : jJ K kc nc (pc + 3) lo st (wM Y ad th p x ru mc s0 qd nw gl co ba fr tt lk fa qu nb)) : jJ K kc nc pc lo (.int x :: .ref (ad 0) :: st) (wM Y ad th p n ru mc s0 qd nw gl co ba fr tt lk fa qu nb) :=
  j_put (fs := [.int th, .int p, .int n, .ref (ad 1), .ref (ad 2), .ref (ad 3), .int ru, .ref (ad 4), .ref (ad 5), .ref (ad 6), .int mc, .int s0, .ref (ad 7), .ref (ad 8), .ref (ad 9), .int qd, .ref (ad 10)]) (ws2 := (wM Y ad th p x ru mc s0 qd nw gl co ba fr tt lk fa qu nb)) C wG_X1 tyX1 tyX1_ok nmX1 0 rfl rfl 2 (by decide) wd_fl1_13 rfl rfl rfl rfl (Nat.le_of_ble_eq_true rfl) hd rfl kk
theorem g1_now (C : jC cc RX1 Y rm nL K) (hd : decode cc pc = .ok (.getfield 16, 3)) (kk : jJ K kc nc (pc + 3) lo (.ref (ad 1) :: st) (wM Y ad th p n ru mc s0 qd nw gl co ba fr tt lk fa qu nb)) : jJ K kc nc pc lo (.ref (ad 0) :: st) (wM Y ad th p n ru mc s0 qd nw gl co ba fr tt lk fa qu nb) :=
  j_get C wG_X1 0 rfl rfl 3 (by decide) wd_fl1_16 rfl rfl hd kk
theorem g1_goal (C : jC cc RX1 Y rm nL K) (hd : decode cc pc = .ok (.getfield 20, 3)) (kk : jJ K kc nc (pc + 3) lo (.ref (ad 2) :: st) (wM Y ad th p n ru mc s0 qd nw gl co ba fr tt lk fa qu nb)) : jJ K kc nc pc lo (.ref (ad 0) :: st) (wM Y ad th p n ru mc s0 qd nw gl co ba fr tt lk fa qu nb) :=
  j_get C wG_X1 0 rfl rfl 4 (by decide) wd_fl1_20 rfl rfl hd kk
theorem g1_colours (C : jC cc RX1 Y rm nL K) (hd : decode cc pc = .ok (.getfield 23, 3)) (kk : jJ K kc nc (pc + 3) lo (.ref (ad 3) :: st) (wM Y ad th p n ru mc s0 qd nw gl co ba fr tt lk fa qu nb)) : jJ K kc nc pc lo (.ref (ad 0) :: st) (wM Y ad th p n ru mc s0 qd nw gl co ba fr tt lk fa qu nb) :=
  j_get C wG_X1 0 rfl rfl 5 (by decide) wd_fl1_23 rfl rfl hd kk
theorem g1_rule (C : jC cc RX1 Y rm nL K) (hd : decode cc pc = .ok (.getfield 59, 3)) (kk : jJ K kc nc (pc + 3) lo (.int ru :: st) (wM Y ad th p n ru mc s0 qd nw gl co ba fr tt lk fa qu nb)) : jJ K kc nc pc lo (.ref (ad 0) :: st) (wM Y ad th p n ru mc s0 qd nw gl co ba fr tt lk fa qu nb) :=
  j_get C wG_X1 0 rfl rfl 6 (by decide) wd_fl1_59 rfl rfl hd kk
theorem p1_rule (C : jC cc RX1 Y rm nL K) {b : Bool} (hd : decode cc pc = .ok (.putfield 59, 3)) (kk : jJ K kc nc (pc + 3) lo st (wM Y ad th p n (bi b) mc s0 qd nw gl co ba fr tt lk fa qu nb)) : jJ K kc nc pc lo (.int (bi b) :: .ref (ad 0) :: st) (wM Y ad th p n ru mc s0 qd nw gl co ba fr tt lk fa qu nb) :=
  j_put (fs := [.int th, .int p, .int n, .ref (ad 1), .ref (ad 2), .ref (ad 3), .int ru, .ref (ad 4), .ref (ad 5), .ref (ad 6), .int mc, .int s0, .ref (ad 7), .ref (ad 8), .ref (ad 9), .int qd, .ref (ad 10)]) (ws2 := (wM Y ad th p n (bi b) mc s0 qd nw gl co ba fr tt lk fa qu nb)) C wG_X1 tyX1 tyX1_ok nmX1 0 rfl rfl 6 (by decide) wd_fl1_59 rfl rfl (bi_nar b) (bi_fit b) (Nat.le_of_ble_eq_true rfl) hd rfl kk
theorem g1_isBarred (C : jC cc RX1 Y rm nL K) (hd : decode cc pc = .ok (.getfield 26, 3)) (kk : jJ K kc nc (pc + 3) lo (.ref (ad 4) :: st) (wM Y ad th p n ru mc s0 qd nw gl co ba fr tt lk fa qu nb)) : jJ K kc nc pc lo (.ref (ad 0) :: st) (wM Y ad th p n ru mc s0 qd nw gl co ba fr tt lk fa qu nb) :=
  j_get C wG_X1 0 rfl rfl 7 (by decide) wd_fl1_26 rfl rfl hd kk
theorem g1_froms (C : jC cc RX1 Y rm nL K) (hd : decode cc pc = .ok (.getfield 30, 3)) (kk : jJ K kc nc (pc + 3) lo (.ref (ad 5) :: st) (wM Y ad th p n ru mc s0 qd nw gl co ba fr tt lk fa qu nb)) : jJ K kc nc pc lo (.ref (ad 0) :: st) (wM Y ad th p n ru mc s0 qd nw gl co ba fr tt lk fa qu nb) :=
  j_get C wG_X1 0 rfl rfl 8 (by decide) wd_fl1_30 rfl rfl hd kk
theorem g1_tos (C : jC cc RX1 Y rm nL K) (hd : decode cc pc = .ok (.getfield 33, 3)) (kk : jJ K kc nc (pc + 3) lo (.ref (ad 6) :: st) (wM Y ad th p n ru mc s0 qd nw gl co ba fr tt lk fa qu nb)) : jJ K kc nc pc lo (.ref (ad 0) :: st) (wM Y ad th p n ru mc s0 qd nw gl co ba fr tt lk fa qu nb) :=
  j_get C wG_X1 0 rfl rfl 9 (by decide) wd_fl1_33 rfl rfl hd kk
theorem g1_moves (C : jC cc RX1 Y rm nL K) (hd : decode cc pc = .ok (.getfield 63, 3)) (kk : jJ K kc nc (pc + 3) lo (.int mc :: st) (wM Y ad th p n ru mc s0 qd nw gl co ba fr tt lk fa qu nb)) : jJ K kc nc pc lo (.ref (ad 0) :: st) (wM Y ad th p n ru mc s0 qd nw gl co ba fr tt lk fa qu nb) :=
  j_get C wG_X1 0 rfl rfl 10 (by decide) wd_fl1_63 rfl rfl hd kk
theorem p1_moves (C : jC cc RX1 Y rm nL K) {x : Int32} (hd : decode cc pc = .ok (.putfield 63, 3)) (kk : jJ K kc nc (pc + 3) lo st (wM Y ad th p n ru x s0 qd nw gl co ba fr tt lk fa qu nb)) : jJ K kc nc pc lo (.int x :: .ref (ad 0) :: st) (wM Y ad th p n ru mc s0 qd nw gl co ba fr tt lk fa qu nb) :=
  j_put (fs := [.int th, .int p, .int n, .ref (ad 1), .ref (ad 2), .ref (ad 3), .int ru, .ref (ad 4), .ref (ad 5), .ref (ad 6), .int mc, .int s0, .ref (ad 7), .ref (ad 8), .ref (ad 9), .int qd, .ref (ad 10)]) (ws2 := (wM Y ad th p n ru x s0 qd nw gl co ba fr tt lk fa qu nb)) C wG_X1 tyX1 tyX1_ok nmX1 0 rfl rfl 10 (by decide) wd_fl1_63 rfl rfl rfl rfl (Nat.le_of_ble_eq_true rfl) hd rfl kk
theorem g1_start (C : jC cc RX1 Y rm nL K) (hd : decode cc pc = .ok (.getfield 99, 3)) (kk : jJ K kc nc (pc + 3) lo (.int s0 :: st) (wM Y ad th p n ru mc s0 qd nw gl co ba fr tt lk fa qu nb)) : jJ K kc nc pc lo (.ref (ad 0) :: st) (wM Y ad th p n ru mc s0 qd nw gl co ba fr tt lk fa qu nb) :=
  j_get C wG_X1 0 rfl rfl 11 (by decide) wd_fl1_99 rfl rfl hd kk
theorem p1_start (C : jC cc RX1 Y rm nL K) {x : Int32} (hd : decode cc pc = .ok (.putfield 99, 3)) (kk : jJ K kc nc (pc + 3) lo st (wM Y ad th p n ru mc x qd nw gl co ba fr tt lk fa qu nb)) : jJ K kc nc pc lo (.int x :: .ref (ad 0) :: st) (wM Y ad th p n ru mc s0 qd nw gl co ba fr tt lk fa qu nb) :=
  j_put (fs := [.int th, .int p, .int n, .ref (ad 1), .ref (ad 2), .ref (ad 3), .int ru, .ref (ad 4), .ref (ad 5), .ref (ad 6), .int mc, .int s0, .ref (ad 7), .ref (ad 8), .ref (ad 9), .int qd, .ref (ad 10)]) (ws2 := (wM Y ad th p n ru mc x qd nw gl co ba fr tt lk fa qu nb)) C wG_X1 tyX1 tyX1_ok nmX1 0 rfl rfl 11 (by decide) wd_fl1_99 rfl rfl rfl rfl (Nat.le_of_ble_eq_true rfl) hd rfl kk
theorem g1_look (C : jC cc RX1 Y rm nL K) (hd : decode cc pc = .ok (.getfield 36, 3)) (kk : jJ K kc nc (pc + 3) lo (.ref (ad 7) :: st) (wM Y ad th p n ru mc s0 qd nw gl co ba fr tt lk fa qu nb)) : jJ K kc nc pc lo (.ref (ad 0) :: st) (wM Y ad th p n ru mc s0 qd nw gl co ba fr tt lk fa qu nb) :=
  j_get C wG_X1 0 rfl rfl 12 (by decide) wd_fl1_36 rfl rfl hd kk
theorem g1_far (C : jC cc RX1 Y rm nL K) (hd : decode cc pc = .ok (.getfield 39, 3)) (kk : jJ K kc nc (pc + 3) lo (.ref (ad 8) :: st) (wM Y ad th p n ru mc s0 qd nw gl co ba fr tt lk fa qu nb)) : jJ K kc nc pc lo (.ref (ad 0) :: st) (wM Y ad th p n ru mc s0 qd nw gl co ba fr tt lk fa qu nb) :=
  j_get C wG_X1 0 rfl rfl 13 (by decide) wd_fl1_39 rfl rfl hd kk
theorem g1_queue (C : jC cc RX1 Y rm nL K) (hd : decode cc pc = .ok (.getfield 42, 3)) (kk : jJ K kc nc (pc + 3) lo (.ref (ad 9) :: st) (wM Y ad th p n ru mc s0 qd nw gl co ba fr tt lk fa qu nb)) : jJ K kc nc pc lo (.ref (ad 0) :: st) (wM Y ad th p n ru mc s0 qd nw gl co ba fr tt lk fa qu nb) :=
  j_get C wG_X1 0 rfl rfl 14 (by decide) wd_fl1_42 rfl rfl hd kk
theorem g1_queued (C : jC cc RX1 Y rm nL K) (hd : decode cc pc = .ok (.getfield 108, 3)) (kk : jJ K kc nc (pc + 3) lo (.int qd :: st) (wM Y ad th p n ru mc s0 qd nw gl co ba fr tt lk fa qu nb)) : jJ K kc nc pc lo (.ref (ad 0) :: st) (wM Y ad th p n ru mc s0 qd nw gl co ba fr tt lk fa qu nb) :=
  j_get C wG_X1 0 rfl rfl 15 (by decide) wd_fl1_108 rfl rfl hd kk
theorem p1_queued (C : jC cc RX1 Y rm nL K) {x : Int32} (hd : decode cc pc = .ok (.putfield 108, 3)) (kk : jJ K kc nc (pc + 3) lo st (wM Y ad th p n ru mc s0 x nw gl co ba fr tt lk fa qu nb)) : jJ K kc nc pc lo (.int x :: .ref (ad 0) :: st) (wM Y ad th p n ru mc s0 qd nw gl co ba fr tt lk fa qu nb) :=
  j_put (fs := [.int th, .int p, .int n, .ref (ad 1), .ref (ad 2), .ref (ad 3), .int ru, .ref (ad 4), .ref (ad 5), .ref (ad 6), .int mc, .int s0, .ref (ad 7), .ref (ad 8), .ref (ad 9), .int qd, .ref (ad 10)]) (ws2 := (wM Y ad th p n ru mc s0 x nw gl co ba fr tt lk fa qu nb)) C wG_X1 tyX1 tyX1_ok nmX1 0 rfl rfl 15 (by decide) wd_fl1_108 rfl rfl rfl rfl (Nat.le_of_ble_eq_true rfl) hd rfl kk
theorem g1_numbers (C : jC cc RX1 Y rm nL K) (hd : decode cc pc = .ok (.getfield 45, 3)) (kk : jJ K kc nc (pc + 3) lo (.ref (ad 10) :: st) (wM Y ad th p n ru mc s0 qd nw gl co ba fr tt lk fa qu nb)) : jJ K kc nc pc lo (.ref (ad 0) :: st) (wM Y ad th p n ru mc s0 qd nw gl co ba fr tt lk fa qu nb) :=
  j_get C wG_X1 0 rfl rfl 16 (by decide) wd_fl1_45 rfl rfl hd kk
theorem l1_nw (C : jC cc RX1 Y rm nL K) {i : Int32} (j : Nat) (hi : i = nI j) (hj : j < 6) (hd : decode cc pc = .ok (.iaload, 1)) (kk : jJ K kc nc (pc + 1) lo (.int (nw j) :: st) (wM Y ad th p n ru mc s0 qd nw gl co ba fr tt lk fa qu nb)) : jJ K kc nc pc lo (.int i :: .ref (ad 1) :: st) (wM Y ad th p n ru mc s0 qd nw gl co ba fr tt lk fa qu nb) :=
  j_iald C 1 rfl j hi hj (by decide) hd kk
theorem s1_nw (C : jC cc RX1 Y rm nL K) {i x : Int32} (j : Nat) (hi : i = nI j) (hj : j < 6) (hd : decode cc pc = .ok (.iastore, 1)) (kk : jJ K kc nc (pc + 1) lo st (wM Y ad th p n ru mc s0 qd (upd nw j x) gl co ba fr tt lk fa qu nb)) : jJ K kc nc pc lo (.int x :: .int i :: .ref (ad 1) :: st) (wM Y ad th p n ru mc s0 qd nw gl co ba fr tt lk fa qu nb) :=
  j_iast C 1 rfl j hi hj (by decide) hd rfl kk
theorem e1_nw (g : Nat → Int32) (h : ∀ j, j < 6 → nw j = g j) (kk : jJ K kc nc pc lo st (wM Y ad th p n ru mc s0 qd g gl co ba fr tt lk fa qu nb)) : jJ K kc nc pc lo st (wM Y ad th p n ru mc s0 qd nw gl co ba fr tt lk fa qu nb) := j_eqv 1 rfl h rfl kk
theorem n1_nw (C : jC cc RX1 Y rm nL K) (hd : decode cc pc = .ok (.arraylength, 1)) (kk : jJ K kc nc (pc + 1) lo (.int (nI 6) :: st) (wM Y ad th p n ru mc s0 qd nw gl co ba fr tt lk fa qu nb)) : jJ K kc nc pc lo (.ref (ad 1) :: st) (wM Y ad th p n ru mc s0 qd nw gl co ba fr tt lk fa qu nb) :=
  j_alenG C 1 0 rfl rfl rfl hd kk
theorem l1_gl (C : jC cc RX1 Y rm nL K) {i : Int32} (j : Nat) (hi : i = nI j) (hj : j < 6) (hd : decode cc pc = .ok (.iaload, 1)) (kk : jJ K kc nc (pc + 1) lo (.int (gl j) :: st) (wM Y ad th p n ru mc s0 qd nw gl co ba fr tt lk fa qu nb)) : jJ K kc nc pc lo (.int i :: .ref (ad 2) :: st) (wM Y ad th p n ru mc s0 qd nw gl co ba fr tt lk fa qu nb) :=
  j_iald C 2 rfl j hi hj (by decide) hd kk
theorem s1_gl (C : jC cc RX1 Y rm nL K) {i x : Int32} (j : Nat) (hi : i = nI j) (hj : j < 6) (hd : decode cc pc = .ok (.iastore, 1)) (kk : jJ K kc nc (pc + 1) lo st (wM Y ad th p n ru mc s0 qd nw (upd gl j x) co ba fr tt lk fa qu nb)) : jJ K kc nc pc lo (.int x :: .int i :: .ref (ad 2) :: st) (wM Y ad th p n ru mc s0 qd nw gl co ba fr tt lk fa qu nb) :=
  j_iast C 2 rfl j hi hj (by decide) hd rfl kk
theorem e1_gl (g : Nat → Int32) (h : ∀ j, j < 6 → gl j = g j) (kk : jJ K kc nc pc lo st (wM Y ad th p n ru mc s0 qd nw g co ba fr tt lk fa qu nb)) : jJ K kc nc pc lo st (wM Y ad th p n ru mc s0 qd nw gl co ba fr tt lk fa qu nb) := j_eqv 2 rfl h rfl kk
theorem n1_gl (C : jC cc RX1 Y rm nL K) (hd : decode cc pc = .ok (.arraylength, 1)) (kk : jJ K kc nc (pc + 1) lo (.int (nI 6) :: st) (wM Y ad th p n ru mc s0 qd nw gl co ba fr tt lk fa qu nb)) : jJ K kc nc pc lo (.ref (ad 2) :: st) (wM Y ad th p n ru mc s0 qd nw gl co ba fr tt lk fa qu nb) :=
  j_alenG C 2 0 rfl rfl rfl hd kk
theorem l1_co (C : jC cc RX1 Y rm nL K) {i : Int32} (j : Nat) (hi : i = nI j) (hj : j < 6) (hd : decode cc pc = .ok (.iaload, 1)) (kk : jJ K kc nc (pc + 1) lo (.int (co j) :: st) (wM Y ad th p n ru mc s0 qd nw gl co ba fr tt lk fa qu nb)) : jJ K kc nc pc lo (.int i :: .ref (ad 3) :: st) (wM Y ad th p n ru mc s0 qd nw gl co ba fr tt lk fa qu nb) :=
  j_iald C 3 rfl j hi hj (by decide) hd kk
theorem s1_co (C : jC cc RX1 Y rm nL K) {i x : Int32} (j : Nat) (hi : i = nI j) (hj : j < 6) (hd : decode cc pc = .ok (.iastore, 1)) (kk : jJ K kc nc (pc + 1) lo st (wM Y ad th p n ru mc s0 qd nw gl (upd co j x) ba fr tt lk fa qu nb)) : jJ K kc nc pc lo (.int x :: .int i :: .ref (ad 3) :: st) (wM Y ad th p n ru mc s0 qd nw gl co ba fr tt lk fa qu nb) :=
  j_iast C 3 rfl j hi hj (by decide) hd rfl kk
theorem e1_co (g : Nat → Int32) (h : ∀ j, j < 6 → co j = g j) (kk : jJ K kc nc pc lo st (wM Y ad th p n ru mc s0 qd nw gl g ba fr tt lk fa qu nb)) : jJ K kc nc pc lo st (wM Y ad th p n ru mc s0 qd nw gl co ba fr tt lk fa qu nb) := j_eqv 3 rfl h rfl kk
theorem n1_co (C : jC cc RX1 Y rm nL K) (hd : decode cc pc = .ok (.arraylength, 1)) (kk : jJ K kc nc (pc + 1) lo (.int (nI 6) :: st) (wM Y ad th p n ru mc s0 qd nw gl co ba fr tt lk fa qu nb)) : jJ K kc nc pc lo (.ref (ad 3) :: st) (wM Y ad th p n ru mc s0 qd nw gl co ba fr tt lk fa qu nb) :=
  j_alenG C 3 0 rfl rfl rfl hd kk
theorem l1_ba (C : jC cc RX1 Y rm nL K) {i : Int32} (j : Nat) (hi : i = nI j) (hj : j < 25) (hd : decode cc pc = .ok (.baload, 1)) (kk : jJ K kc nc (pc + 1) lo (.int (ba j) :: st) (wM Y ad th p n ru mc s0 qd nw gl co ba fr tt lk fa qu nb)) : jJ K kc nc pc lo (.int i :: .ref (ad 4) :: st) (wM Y ad th p n ru mc s0 qd nw gl co ba fr tt lk fa qu nb) :=
  j_zald C 4 rfl j hi hj (by decide) hd kk
theorem s1_ba (C : jC cc RX1 Y rm nL K) {i : Int32} {b : Bool} (j : Nat) (hi : i = nI j) (hj : j < 25) (hd : decode cc pc = .ok (.bastore, 1)) (kk : jJ K kc nc (pc + 1) lo st (wM Y ad th p n ru mc s0 qd nw gl co (upd ba j (bi b)) fr tt lk fa qu nb)) : jJ K kc nc pc lo (.int (bi b) :: .int i :: .ref (ad 4) :: st) (wM Y ad th p n ru mc s0 qd nw gl co ba fr tt lk fa qu nb) :=
  j_zast C 4 rfl j hi hj (by decide) hd (by rw [bi_vp]; rfl) kk
theorem e1_ba (g : Nat → Int32) (h : ∀ j, j < 25 → ba j = g j) (kk : jJ K kc nc pc lo st (wM Y ad th p n ru mc s0 qd nw gl co g fr tt lk fa qu nb)) : jJ K kc nc pc lo st (wM Y ad th p n ru mc s0 qd nw gl co ba fr tt lk fa qu nb) := j_eqv 4 rfl h rfl kk
theorem n1_ba (C : jC cc RX1 Y rm nL K) (hd : decode cc pc = .ok (.arraylength, 1)) (kk : jJ K kc nc (pc + 1) lo (.int (nI 25) :: st) (wM Y ad th p n ru mc s0 qd nw gl co ba fr tt lk fa qu nb)) : jJ K kc nc pc lo (.ref (ad 4) :: st) (wM Y ad th p n ru mc s0 qd nw gl co ba fr tt lk fa qu nb) :=
  j_alenG C 4 1 rfl rfl rfl hd kk
theorem l1_fr (C : jC cc RX1 Y rm nL K) {i : Int32} (j : Nat) (hi : i = nI j) (hj : j < 500) (hd : decode cc pc = .ok (.iaload, 1)) (kk : jJ K kc nc (pc + 1) lo (.int (fr j) :: st) (wM Y ad th p n ru mc s0 qd nw gl co ba fr tt lk fa qu nb)) : jJ K kc nc pc lo (.int i :: .ref (ad 5) :: st) (wM Y ad th p n ru mc s0 qd nw gl co ba fr tt lk fa qu nb) :=
  j_iald C 5 rfl j hi hj (by decide) hd kk
theorem s1_fr (C : jC cc RX1 Y rm nL K) {i x : Int32} (j : Nat) (hi : i = nI j) (hj : j < 500) (hd : decode cc pc = .ok (.iastore, 1)) (kk : jJ K kc nc (pc + 1) lo st (wM Y ad th p n ru mc s0 qd nw gl co ba (upd fr j x) tt lk fa qu nb)) : jJ K kc nc pc lo (.int x :: .int i :: .ref (ad 5) :: st) (wM Y ad th p n ru mc s0 qd nw gl co ba fr tt lk fa qu nb) :=
  j_iast C 5 rfl j hi hj (by decide) hd rfl kk
theorem e1_fr (g : Nat → Int32) (h : ∀ j, j < 500 → fr j = g j) (kk : jJ K kc nc pc lo st (wM Y ad th p n ru mc s0 qd nw gl co ba g tt lk fa qu nb)) : jJ K kc nc pc lo st (wM Y ad th p n ru mc s0 qd nw gl co ba fr tt lk fa qu nb) := j_eqv 5 rfl h rfl kk
theorem n1_fr (C : jC cc RX1 Y rm nL K) (hd : decode cc pc = .ok (.arraylength, 1)) (kk : jJ K kc nc (pc + 1) lo (.int (nI 500) :: st) (wM Y ad th p n ru mc s0 qd nw gl co ba fr tt lk fa qu nb)) : jJ K kc nc pc lo (.ref (ad 5) :: st) (wM Y ad th p n ru mc s0 qd nw gl co ba fr tt lk fa qu nb) :=
  j_alenG C 5 0 rfl rfl rfl hd kk
theorem l1_tt (C : jC cc RX1 Y rm nL K) {i : Int32} (j : Nat) (hi : i = nI j) (hj : j < 500) (hd : decode cc pc = .ok (.iaload, 1)) (kk : jJ K kc nc (pc + 1) lo (.int (tt j) :: st) (wM Y ad th p n ru mc s0 qd nw gl co ba fr tt lk fa qu nb)) : jJ K kc nc pc lo (.int i :: .ref (ad 6) :: st) (wM Y ad th p n ru mc s0 qd nw gl co ba fr tt lk fa qu nb) :=
  j_iald C 6 rfl j hi hj (by decide) hd kk
theorem s1_tt (C : jC cc RX1 Y rm nL K) {i x : Int32} (j : Nat) (hi : i = nI j) (hj : j < 500) (hd : decode cc pc = .ok (.iastore, 1)) (kk : jJ K kc nc (pc + 1) lo st (wM Y ad th p n ru mc s0 qd nw gl co ba fr (upd tt j x) lk fa qu nb)) : jJ K kc nc pc lo (.int x :: .int i :: .ref (ad 6) :: st) (wM Y ad th p n ru mc s0 qd nw gl co ba fr tt lk fa qu nb) :=
  j_iast C 6 rfl j hi hj (by decide) hd rfl kk
theorem e1_tt (g : Nat → Int32) (h : ∀ j, j < 500 → tt j = g j) (kk : jJ K kc nc pc lo st (wM Y ad th p n ru mc s0 qd nw gl co ba fr g lk fa qu nb)) : jJ K kc nc pc lo st (wM Y ad th p n ru mc s0 qd nw gl co ba fr tt lk fa qu nb) := j_eqv 6 rfl h rfl kk
theorem n1_tt (C : jC cc RX1 Y rm nL K) (hd : decode cc pc = .ok (.arraylength, 1)) (kk : jJ K kc nc (pc + 1) lo (.int (nI 500) :: st) (wM Y ad th p n ru mc s0 qd nw gl co ba fr tt lk fa qu nb)) : jJ K kc nc pc lo (.ref (ad 6) :: st) (wM Y ad th p n ru mc s0 qd nw gl co ba fr tt lk fa qu nb) :=
  j_alenG C 6 0 rfl rfl rfl hd kk
theorem l1_lk (C : jC cc RX1 Y rm nL K) {i : Int32} (j : Nat) (hi : i = nI j) (hj : j < 6) (hd : decode cc pc = .ok (.iaload, 1)) (kk : jJ K kc nc (pc + 1) lo (.int (lk j) :: st) (wM Y ad th p n ru mc s0 qd nw gl co ba fr tt lk fa qu nb)) : jJ K kc nc pc lo (.int i :: .ref (ad 7) :: st) (wM Y ad th p n ru mc s0 qd nw gl co ba fr tt lk fa qu nb) :=
  j_iald C 7 rfl j hi hj (by decide) hd kk
theorem s1_lk (C : jC cc RX1 Y rm nL K) {i x : Int32} (j : Nat) (hi : i = nI j) (hj : j < 6) (hd : decode cc pc = .ok (.iastore, 1)) (kk : jJ K kc nc (pc + 1) lo st (wM Y ad th p n ru mc s0 qd nw gl co ba fr tt (upd lk j x) fa qu nb)) : jJ K kc nc pc lo (.int x :: .int i :: .ref (ad 7) :: st) (wM Y ad th p n ru mc s0 qd nw gl co ba fr tt lk fa qu nb) :=
  j_iast C 7 rfl j hi hj (by decide) hd rfl kk
theorem e1_lk (g : Nat → Int32) (h : ∀ j, j < 6 → lk j = g j) (kk : jJ K kc nc pc lo st (wM Y ad th p n ru mc s0 qd nw gl co ba fr tt g fa qu nb)) : jJ K kc nc pc lo st (wM Y ad th p n ru mc s0 qd nw gl co ba fr tt lk fa qu nb) := j_eqv 7 rfl h rfl kk
theorem n1_lk (C : jC cc RX1 Y rm nL K) (hd : decode cc pc = .ok (.arraylength, 1)) (kk : jJ K kc nc (pc + 1) lo (.int (nI 6) :: st) (wM Y ad th p n ru mc s0 qd nw gl co ba fr tt lk fa qu nb)) : jJ K kc nc pc lo (.ref (ad 7) :: st) (wM Y ad th p n ru mc s0 qd nw gl co ba fr tt lk fa qu nb) :=
  j_alenG C 7 0 rfl rfl rfl hd kk
theorem l1_fa (C : jC cc RX1 Y rm nL K) {i : Int32} (j : Nat) (hi : i = nI j) (hj : j < 15625) (hd : decode cc pc = .ok (.iaload, 1)) (kk : jJ K kc nc (pc + 1) lo (.int (fa j) :: st) (wM Y ad th p n ru mc s0 qd nw gl co ba fr tt lk fa qu nb)) : jJ K kc nc pc lo (.int i :: .ref (ad 8) :: st) (wM Y ad th p n ru mc s0 qd nw gl co ba fr tt lk fa qu nb) :=
  j_iald C 8 rfl j hi hj (by decide) hd kk
theorem s1_fa (C : jC cc RX1 Y rm nL K) {i x : Int32} (j : Nat) (hi : i = nI j) (hj : j < 15625) (hd : decode cc pc = .ok (.iastore, 1)) (kk : jJ K kc nc (pc + 1) lo st (wM Y ad th p n ru mc s0 qd nw gl co ba fr tt lk (upd fa j x) qu nb)) : jJ K kc nc pc lo (.int x :: .int i :: .ref (ad 8) :: st) (wM Y ad th p n ru mc s0 qd nw gl co ba fr tt lk fa qu nb) :=
  j_iast C 8 rfl j hi hj (by decide) hd rfl kk
theorem e1_fa (g : Nat → Int32) (h : ∀ j, j < 15625 → fa j = g j) (kk : jJ K kc nc pc lo st (wM Y ad th p n ru mc s0 qd nw gl co ba fr tt lk g qu nb)) : jJ K kc nc pc lo st (wM Y ad th p n ru mc s0 qd nw gl co ba fr tt lk fa qu nb) := j_eqv 8 rfl h rfl kk
theorem n1_fa (C : jC cc RX1 Y rm nL K) (hd : decode cc pc = .ok (.arraylength, 1)) (kk : jJ K kc nc (pc + 1) lo (.int (nI 15625) :: st) (wM Y ad th p n ru mc s0 qd nw gl co ba fr tt lk fa qu nb)) : jJ K kc nc pc lo (.ref (ad 8) :: st) (wM Y ad th p n ru mc s0 qd nw gl co ba fr tt lk fa qu nb) :=
  j_alenG C 8 0 rfl rfl rfl hd kk
theorem l1_qu (C : jC cc RX1 Y rm nL K) {i : Int32} (j : Nat) (hi : i = nI j) (hj : j < 15625) (hd : decode cc pc = .ok (.iaload, 1)) (kk : jJ K kc nc (pc + 1) lo (.int (qu j) :: st) (wM Y ad th p n ru mc s0 qd nw gl co ba fr tt lk fa qu nb)) : jJ K kc nc pc lo (.int i :: .ref (ad 9) :: st) (wM Y ad th p n ru mc s0 qd nw gl co ba fr tt lk fa qu nb) :=
  j_iald C 9 rfl j hi hj (by decide) hd kk
theorem s1_qu (C : jC cc RX1 Y rm nL K) {i x : Int32} (j : Nat) (hi : i = nI j) (hj : j < 15625) (hd : decode cc pc = .ok (.iastore, 1)) (kk : jJ K kc nc (pc + 1) lo st (wM Y ad th p n ru mc s0 qd nw gl co ba fr tt lk fa (upd qu j x) nb)) : jJ K kc nc pc lo (.int x :: .int i :: .ref (ad 9) :: st) (wM Y ad th p n ru mc s0 qd nw gl co ba fr tt lk fa qu nb) :=
  j_iast C 9 rfl j hi hj (by decide) hd rfl kk
theorem e1_qu (g : Nat → Int32) (h : ∀ j, j < 15625 → qu j = g j) (kk : jJ K kc nc pc lo st (wM Y ad th p n ru mc s0 qd nw gl co ba fr tt lk fa g nb)) : jJ K kc nc pc lo st (wM Y ad th p n ru mc s0 qd nw gl co ba fr tt lk fa qu nb) := j_eqv 9 rfl h rfl kk
theorem n1_qu (C : jC cc RX1 Y rm nL K) (hd : decode cc pc = .ok (.arraylength, 1)) (kk : jJ K kc nc (pc + 1) lo (.int (nI 15625) :: st) (wM Y ad th p n ru mc s0 qd nw gl co ba fr tt lk fa qu nb)) : jJ K kc nc pc lo (.ref (ad 9) :: st) (wM Y ad th p n ru mc s0 qd nw gl co ba fr tt lk fa qu nb) :=
  j_alenG C 9 0 rfl rfl rfl hd kk
theorem l1_nb (C : jC cc RX1 Y rm nL K) {i : Int32} (j : Nat) (hi : i = nI j) (hj : j < 63) (hd : decode cc pc = .ok (.iaload, 1)) (kk : jJ K kc nc (pc + 1) lo (.int (nb j) :: st) (wM Y ad th p n ru mc s0 qd nw gl co ba fr tt lk fa qu nb)) : jJ K kc nc pc lo (.int i :: .ref (ad 10) :: st) (wM Y ad th p n ru mc s0 qd nw gl co ba fr tt lk fa qu nb) :=
  j_iald C 10 rfl j hi hj (by decide) hd kk
theorem s1_nb (C : jC cc RX1 Y rm nL K) {i x : Int32} (j : Nat) (hi : i = nI j) (hj : j < 63) (hd : decode cc pc = .ok (.iastore, 1)) (kk : jJ K kc nc (pc + 1) lo st (wM Y ad th p n ru mc s0 qd nw gl co ba fr tt lk fa qu (upd nb j x))) : jJ K kc nc pc lo (.int x :: .int i :: .ref (ad 10) :: st) (wM Y ad th p n ru mc s0 qd nw gl co ba fr tt lk fa qu nb) :=
  j_iast C 10 rfl j hi hj (by decide) hd rfl kk
theorem e1_nb (g : Nat → Int32) (h : ∀ j, j < 63 → nb j = g j) (kk : jJ K kc nc pc lo st (wM Y ad th p n ru mc s0 qd nw gl co ba fr tt lk fa qu g)) : jJ K kc nc pc lo st (wM Y ad th p n ru mc s0 qd nw gl co ba fr tt lk fa qu nb) := j_eqv 10 rfl h rfl kk
theorem n1_nb (C : jC cc RX1 Y rm nL K) (hd : decode cc pc = .ok (.arraylength, 1)) (kk : jJ K kc nc (pc + 1) lo (.int (nI 63) :: st) (wM Y ad th p n ru mc s0 qd nw gl co ba fr tt lk fa qu nb)) : jJ K kc nc pc lo (.ref (ad 10) :: st) (wM Y ad th p n ru mc s0 qd nw gl co ba fr tt lk fa qu nb) :=
  j_alenG C 10 0 rfl rfl rfl hd kk
end JW1
theorem nd_X0_begin : (yX0_begin.cls ≠ "java/lang/invoke/MethodHandle" ∧ yX0_begin.cls ≠ "java/lang/invoke/VarHandle" ∧ (parseMethodDescriptor yX0_begin.desc).map (fun d => d.parameters.length) = some 2) := by decide +kernel
theorem nd_X0_put : (yX0_put.cls ≠ "java/lang/invoke/MethodHandle" ∧ yX0_put.cls ≠ "java/lang/invoke/VarHandle" ∧ (parseMethodDescriptor yX0_put.desc).map (fun d => d.parameters.length) = some 2) := by decide +kernel
theorem nd_X0_aim : (yX0_aim.cls ≠ "java/lang/invoke/MethodHandle" ∧ yX0_aim.cls ≠ "java/lang/invoke/VarHandle" ∧ (parseMethodDescriptor yX0_aim.desc).map (fun d => d.parameters.length) = some 2) := by decide +kernel
theorem nd_X0_allow : (yX0_allow.cls ≠ "java/lang/invoke/MethodHandle" ∧ yX0_allow.cls ≠ "java/lang/invoke/VarHandle" ∧ (parseMethodDescriptor yX0_allow.desc).map (fun d => d.parameters.length) = some 3) := by decide +kernel
theorem nd_X0_setColour : (yX0_setColour.cls ≠ "java/lang/invoke/MethodHandle" ∧ yX0_setColour.cls ≠ "java/lang/invoke/VarHandle" ∧ (parseMethodDescriptor yX0_setColour.desc).map (fun d => d.parameters.length) = some 2) := by decide +kernel
theorem nd_X0_setRule : (yX0_setRule.cls ≠ "java/lang/invoke/MethodHandle" ∧ yX0_setRule.cls ≠ "java/lang/invoke/VarHandle" ∧ (parseMethodDescriptor yX0_setRule.desc).map (fun d => d.parameters.length) = some 1) := by decide +kernel
theorem nd_X0_move : (yX0_move.cls ≠ "java/lang/invoke/MethodHandle" ∧ yX0_move.cls ≠ "java/lang/invoke/VarHandle" ∧ (parseMethodDescriptor yX0_move.desc).map (fun d => d.parameters.length) = some 2) := by decide +kernel
theorem nd_X0_takeBack : (yX0_takeBack.cls ≠ "java/lang/invoke/MethodHandle" ∧ yX0_takeBack.cls ≠ "java/lang/invoke/VarHandle" ∧ (parseMethodDescriptor yX0_takeBack.desc).map (fun d => d.parameters.length) = some 0) := by decide +kernel
theorem nd_X0_layStart : (yX0_layStart.cls ≠ "java/lang/invoke/MethodHandle" ∧ yX0_layStart.cls ≠ "java/lang/invoke/VarHandle" ∧ (parseMethodDescriptor yX0_layStart.desc).map (fun d => d.parameters.length) = some 0) := by decide +kernel
theorem nd_X0_pegs : (yX0_pegs.cls ≠ "java/lang/invoke/MethodHandle" ∧ yX0_pegs.cls ≠ "java/lang/invoke/VarHandle" ∧ (parseMethodDescriptor yX0_pegs.desc).map (fun d => d.parameters.length) = some 0) := by decide +kernel
theorem nd_X0_disks : (yX0_disks.cls ≠ "java/lang/invoke/MethodHandle" ∧ yX0_disks.cls ≠ "java/lang/invoke/VarHandle" ∧ (parseMethodDescriptor yX0_disks.desc).map (fun d => d.parameters.length) = some 0) := by decide +kernel
theorem nd_X0_moves : (yX0_moves.cls ≠ "java/lang/invoke/MethodHandle" ∧ yX0_moves.cls ≠ "java/lang/invoke/VarHandle" ∧ (parseMethodDescriptor yX0_moves.desc).map (fun d => d.parameters.length) = some 0) := by decide +kernel
theorem nd_X0_pegOf : (yX0_pegOf.cls ≠ "java/lang/invoke/MethodHandle" ∧ yX0_pegOf.cls ≠ "java/lang/invoke/VarHandle" ∧ (parseMethodDescriptor yX0_pegOf.desc).map (fun d => d.parameters.length) = some 1) := by decide +kernel
theorem nd_X0_top : (yX0_top.cls ≠ "java/lang/invoke/MethodHandle" ∧ yX0_top.cls ≠ "java/lang/invoke/VarHandle" ∧ (parseMethodDescriptor yX0_top.desc).map (fun d => d.parameters.length) = some 1) := by decide +kernel
theorem nd_X0_arrangement : (yX0_arrangement.cls ≠ "java/lang/invoke/MethodHandle" ∧ yX0_arrangement.cls ≠ "java/lang/invoke/VarHandle" ∧ (parseMethodDescriptor yX0_arrangement.desc).map (fun d => d.parameters.length) = some 0) := by decide +kernel
theorem nd_X0_goal : (yX0_goal.cls ≠ "java/lang/invoke/MethodHandle" ∧ yX0_goal.cls ≠ "java/lang/invoke/VarHandle" ∧ (parseMethodDescriptor yX0_goal.desc).map (fun d => d.parameters.length) = some 0) := by decide +kernel
theorem nd_X0_isLawful : (yX0_isLawful.cls ≠ "java/lang/invoke/MethodHandle" ∧ yX0_isLawful.cls ≠ "java/lang/invoke/VarHandle" ∧ (parseMethodDescriptor yX0_isLawful.desc).map (fun d => d.parameters.length) = some 0) := by decide +kernel
theorem nd_X0_canMove : (yX0_canMove.cls ≠ "java/lang/invoke/MethodHandle" ∧ yX0_canMove.cls ≠ "java/lang/invoke/VarHandle" ∧ (parseMethodDescriptor yX0_canMove.desc).map (fun d => d.parameters.length) = some 2) := by decide +kernel
theorem nd_X0_way : (yX0_way.cls ≠ "java/lang/invoke/MethodHandle" ∧ yX0_way.cls ≠ "java/lang/invoke/VarHandle" ∧ (parseMethodDescriptor yX0_way.desc).map (fun d => d.parameters.length) = some 0) := by decide +kernel
theorem nd_X0_wayByDisks : (yX0_wayByDisks.cls ≠ "java/lang/invoke/MethodHandle" ∧ yX0_wayByDisks.cls ≠ "java/lang/invoke/VarHandle" ∧ (parseMethodDescriptor yX0_wayByDisks.desc).map (fun d => d.parameters.length) = some 0) := by decide +kernel
theorem nd_X0_lost : (yX0_lost.cls ≠ "java/lang/invoke/MethodHandle" ∧ yX0_lost.cls ≠ "java/lang/invoke/VarHandle" ∧ (parseMethodDescriptor yX0_lost.desc).map (fun d => d.parameters.length) = some 0) := by decide +kernel
theorem nd_X0_next : (yX0_next.cls ≠ "java/lang/invoke/MethodHandle" ∧ yX0_next.cls ≠ "java/lang/invoke/VarHandle" ∧ (parseMethodDescriptor yX0_next.desc).map (fun d => d.parameters.length) = some 0) := by decide +kernel
theorem nd_X0_reachable : (yX0_reachable.cls ≠ "java/lang/invoke/MethodHandle" ∧ yX0_reachable.cls ≠ "java/lang/invoke/VarHandle" ∧ (parseMethodDescriptor yX0_reachable.desc).map (fun d => d.parameters.length) = some 0) := by decide +kernel
theorem nd_X0_splits : (yX0_splits.cls ≠ "java/lang/invoke/MethodHandle" ∧ yX0_splits.cls ≠ "java/lang/invoke/VarHandle" ∧ (parseMethodDescriptor yX0_splits.desc).map (fun d => d.parameters.length) = some 2) := by decide +kernel
theorem nd_X0_lay : (yX0_lay.cls ≠ "java/lang/invoke/MethodHandle" ∧ yX0_lay.cls ≠ "java/lang/invoke/VarHandle" ∧ (parseMethodDescriptor yX0_lay.desc).map (fun d => d.parameters.length) = some 2) := by decide +kernel
theorem nd_X0_isPeg : (yX0_isPeg.cls ≠ "java/lang/invoke/MethodHandle" ∧ yX0_isPeg.cls ≠ "java/lang/invoke/VarHandle" ∧ (parseMethodDescriptor yX0_isPeg.desc).map (fun d => d.parameters.length) = some 1) := by decide +kernel
theorem nd_X0_isDisk : (yX0_isDisk.cls ≠ "java/lang/invoke/MethodHandle" ∧ yX0_isDisk.cls ≠ "java/lang/invoke/VarHandle" ∧ (parseMethodDescriptor yX0_isDisk.desc).map (fun d => d.parameters.length) = some 1) := by decide +kernel
theorem nd_X0_isNumber : (yX0_isNumber.cls ≠ "java/lang/invoke/MethodHandle" ∧ yX0_isNumber.cls ≠ "java/lang/invoke/VarHandle" ∧ (parseMethodDescriptor yX0_isNumber.desc).map (fun d => d.parameters.length) = some 1) := by decide +kernel
theorem nd_X0_pairOf : (yX0_pairOf.cls ≠ "java/lang/invoke/MethodHandle" ∧ yX0_pairOf.cls ≠ "java/lang/invoke/VarHandle" ∧ (parseMethodDescriptor yX0_pairOf.desc).map (fun d => d.parameters.length) = some 2) := by decide +kernel
theorem nd_X0_isAnyBarred : (yX0_isAnyBarred.cls ≠ "java/lang/invoke/MethodHandle" ∧ yX0_isAnyBarred.cls ≠ "java/lang/invoke/VarHandle" ∧ (parseMethodDescriptor yX0_isAnyBarred.desc).map (fun d => d.parameters.length) = some 0) := by decide +kernel
theorem nd_X0_pegIn : (yX0_pegIn.cls ≠ "java/lang/invoke/MethodHandle" ∧ yX0_pegIn.cls ≠ "java/lang/invoke/VarHandle" ∧ (parseMethodDescriptor yX0_pegIn.desc).map (fun d => d.parameters.length) = some 2) := by decide +kernel
theorem nd_X0_diskBelow : (yX0_diskBelow.cls ≠ "java/lang/invoke/MethodHandle" ∧ yX0_diskBelow.cls ≠ "java/lang/invoke/VarHandle" ∧ (parseMethodDescriptor yX0_diskBelow.desc).map (fun d => d.parameters.length) = some 2) := by decide +kernel
theorem nd_X0_mayLieOn : (yX0_mayLieOn.cls ≠ "java/lang/invoke/MethodHandle" ∧ yX0_mayLieOn.cls ≠ "java/lang/invoke/VarHandle" ∧ (parseMethodDescriptor yX0_mayLieOn.desc).map (fun d => d.parameters.length) = some 2) := by decide +kernel
theorem nd_X0_keepsRule : (yX0_keepsRule.cls ≠ "java/lang/invoke/MethodHandle" ∧ yX0_keepsRule.cls ≠ "java/lang/invoke/VarHandle" ∧ (parseMethodDescriptor yX0_keepsRule.desc).map (fun d => d.parameters.length) = some 1) := by decide +kernel
theorem nd_X0_readTops : (yX0_readTops.cls ≠ "java/lang/invoke/MethodHandle" ∧ yX0_readTops.cls ≠ "java/lang/invoke/VarHandle" ∧ (parseMethodDescriptor yX0_readTops.desc).map (fun d => d.parameters.length) = some 1) := by decide +kernel
theorem nd_X0_fits : (yX0_fits.cls ≠ "java/lang/invoke/MethodHandle" ∧ yX0_fits.cls ≠ "java/lang/invoke/VarHandle" ∧ (parseMethodDescriptor yX0_fits.desc).map (fun d => d.parameters.length) = some 2) := by decide +kernel
theorem nd_X0_behindMove : (yX0_behindMove.cls ≠ "java/lang/invoke/MethodHandle" ∧ yX0_behindMove.cls ≠ "java/lang/invoke/VarHandle" ∧ (parseMethodDescriptor yX0_behindMove.desc).map (fun d => d.parameters.length) = some 3) := by decide +kernel
theorem nd_X0_isPossible : (yX0_isPossible.cls ≠ "java/lang/invoke/MethodHandle" ∧ yX0_isPossible.cls ≠ "java/lang/invoke/VarHandle" ∧ (parseMethodDescriptor yX0_isPossible.desc).map (fun d => d.parameters.length) = some 2) := by decide +kernel
theorem nd_X0_isStep : (yX0_isStep.cls ≠ "java/lang/invoke/MethodHandle" ∧ yX0_isStep.cls ≠ "java/lang/invoke/VarHandle" ∧ (parseMethodDescriptor yX0_isStep.desc).map (fun d => d.parameters.length) = some 3) := by decide +kernel
theorem nd_X0_wayFrom : (yX0_wayFrom.cls ≠ "java/lang/invoke/MethodHandle" ∧ yX0_wayFrom.cls ≠ "java/lang/invoke/VarHandle" ∧ (parseMethodDescriptor yX0_wayFrom.desc).map (fun d => d.parameters.length) = some 1) := by decide +kernel
theorem nd_X0_search : (yX0_search.cls ≠ "java/lang/invoke/MethodHandle" ∧ yX0_search.cls ≠ "java/lang/invoke/VarHandle" ∧ (parseMethodDescriptor yX0_search.desc).map (fun d => d.parameters.length) = some 3) := by decide +kernel
theorem nd_X0_searchFrom : (yX0_searchFrom.cls ≠ "java/lang/invoke/MethodHandle" ∧ yX0_searchFrom.cls ≠ "java/lang/invoke/VarHandle" ∧ (parseMethodDescriptor yX0_searchFrom.desc).map (fun d => d.parameters.length) = some 4) := by decide +kernel
theorem nd_X0_thirdPeg : (yX0_thirdPeg.cls ≠ "java/lang/invoke/MethodHandle" ∧ yX0_thirdPeg.cls ≠ "java/lang/invoke/VarHandle" ∧ (parseMethodDescriptor yX0_thirdPeg.desc).map (fun d => d.parameters.length) = some 2) := by decide +kernel
theorem nd_X0_gather : (yX0_gather.cls ≠ "java/lang/invoke/MethodHandle" ∧ yX0_gather.cls ≠ "java/lang/invoke/VarHandle" ∧ (parseMethodDescriptor yX0_gather.desc).map (fun d => d.parameters.length) = some 3) := by decide +kernel
theorem nd_X0_splitIndex : (yX0_splitIndex.cls ≠ "java/lang/invoke/MethodHandle" ∧ yX0_splitIndex.cls ≠ "java/lang/invoke/VarHandle" ∧ (parseMethodDescriptor yX0_splitIndex.desc).map (fun d => d.parameters.length) = some 2) := by decide +kernel
theorem nd_X0_splitTable : (yX0_splitTable.cls ≠ "java/lang/invoke/MethodHandle" ∧ yX0_splitTable.cls ≠ "java/lang/invoke/VarHandle" ∧ (parseMethodDescriptor yX0_splitTable.desc).map (fun d => d.parameters.length) = some 0) := by decide +kernel
theorem nd_X0_splitNumber : (yX0_splitNumber.cls ≠ "java/lang/invoke/MethodHandle" ∧ yX0_splitNumber.cls ≠ "java/lang/invoke/VarHandle" ∧ (parseMethodDescriptor yX0_splitNumber.desc).map (fun d => d.parameters.length) = some 3) := by decide +kernel
theorem nd_X1_thrown : (yX1_thrown.cls ≠ "java/lang/invoke/MethodHandle" ∧ yX1_thrown.cls ≠ "java/lang/invoke/VarHandle" ∧ (parseMethodDescriptor yX1_thrown.desc).map (fun d => d.parameters.length) = some 0) := by decide +kernel
theorem nd_X1_goesWell : (yX1_goesWell.cls ≠ "java/lang/invoke/MethodHandle" ∧ yX1_goesWell.cls ≠ "java/lang/invoke/VarHandle" ∧ (parseMethodDescriptor yX1_goesWell.desc).map (fun d => d.parameters.length) = some 1) := by decide +kernel
theorem nd_X1_in : (yX1_in.cls ≠ "java/lang/invoke/MethodHandle" ∧ yX1_in.cls ≠ "java/lang/invoke/VarHandle" ∧ (parseMethodDescriptor yX1_in.desc).map (fun d => d.parameters.length) = some 3) := by decide +kernel
theorem nd_X1_isDisk : (yX1_isDisk.cls ≠ "java/lang/invoke/MethodHandle" ∧ yX1_isDisk.cls ≠ "java/lang/invoke/VarHandle" ∧ (parseMethodDescriptor yX1_isDisk.desc).map (fun d => d.parameters.length) = some 1) := by decide +kernel
theorem nd_X1_isPeg : (yX1_isPeg.cls ≠ "java/lang/invoke/MethodHandle" ∧ yX1_isPeg.cls ≠ "java/lang/invoke/VarHandle" ∧ (parseMethodDescriptor yX1_isPeg.desc).map (fun d => d.parameters.length) = some 1) := by decide +kernel
theorem nd_X1_all : (yX1_all.cls ≠ "java/lang/invoke/MethodHandle" ∧ yX1_all.cls ≠ "java/lang/invoke/VarHandle" ∧ (parseMethodDescriptor yX1_all.desc).map (fun d => d.parameters.length) = some 0) := by decide +kernel
theorem nd_X1_lay : (yX1_lay.cls ≠ "java/lang/invoke/MethodHandle" ∧ yX1_lay.cls ≠ "java/lang/invoke/VarHandle" ∧ (parseMethodDescriptor yX1_lay.desc).map (fun d => d.parameters.length) = some 2) := by decide +kernel
theorem nd_X1_begin : (yX1_begin.cls ≠ "java/lang/invoke/MethodHandle" ∧ yX1_begin.cls ≠ "java/lang/invoke/VarHandle" ∧ (parseMethodDescriptor yX1_begin.desc).map (fun d => d.parameters.length) = some 2) := by decide +kernel
theorem nd_X1_put : (yX1_put.cls ≠ "java/lang/invoke/MethodHandle" ∧ yX1_put.cls ≠ "java/lang/invoke/VarHandle" ∧ (parseMethodDescriptor yX1_put.desc).map (fun d => d.parameters.length) = some 2) := by decide +kernel
theorem nd_X1_aim : (yX1_aim.cls ≠ "java/lang/invoke/MethodHandle" ∧ yX1_aim.cls ≠ "java/lang/invoke/VarHandle" ∧ (parseMethodDescriptor yX1_aim.desc).map (fun d => d.parameters.length) = some 2) := by decide +kernel
theorem nd_X1_allow : (yX1_allow.cls ≠ "java/lang/invoke/MethodHandle" ∧ yX1_allow.cls ≠ "java/lang/invoke/VarHandle" ∧ (parseMethodDescriptor yX1_allow.desc).map (fun d => d.parameters.length) = some 3) := by decide +kernel
theorem nd_X1_setColour : (yX1_setColour.cls ≠ "java/lang/invoke/MethodHandle" ∧ yX1_setColour.cls ≠ "java/lang/invoke/VarHandle" ∧ (parseMethodDescriptor yX1_setColour.desc).map (fun d => d.parameters.length) = some 2) := by decide +kernel
theorem nd_X1_setRule : (yX1_setRule.cls ≠ "java/lang/invoke/MethodHandle" ∧ yX1_setRule.cls ≠ "java/lang/invoke/VarHandle" ∧ (parseMethodDescriptor yX1_setRule.desc).map (fun d => d.parameters.length) = some 1) := by decide +kernel
theorem nd_X1_numberOfNow : (yX1_numberOfNow.cls ≠ "java/lang/invoke/MethodHandle" ∧ yX1_numberOfNow.cls ≠ "java/lang/invoke/VarHandle" ∧ (parseMethodDescriptor yX1_numberOfNow.desc).map (fun d => d.parameters.length) = some 0) := by decide +kernel
theorem nd_X1_numberOfGoal : (yX1_numberOfGoal.cls ≠ "java/lang/invoke/MethodHandle" ∧ yX1_numberOfGoal.cls ≠ "java/lang/invoke/VarHandle" ∧ (parseMethodDescriptor yX1_numberOfGoal.desc).map (fun d => d.parameters.length) = some 0) := by decide +kernel
theorem nd_X1_open : (yX1_open.cls ≠ "java/lang/invoke/MethodHandle" ∧ yX1_open.cls ≠ "java/lang/invoke/VarHandle" ∧ (parseMethodDescriptor yX1_open.desc).map (fun d => d.parameters.length) = some 1) := by decide +kernel
theorem nd_X1_topOf : (yX1_topOf.cls ≠ "java/lang/invoke/MethodHandle" ∧ yX1_topOf.cls ≠ "java/lang/invoke/VarHandle" ∧ (parseMethodDescriptor yX1_topOf.desc).map (fun d => d.parameters.length) = some 1) := by decide +kernel
theorem nd_X1_isFine : (yX1_isFine.cls ≠ "java/lang/invoke/MethodHandle" ∧ yX1_isFine.cls ≠ "java/lang/invoke/VarHandle" ∧ (parseMethodDescriptor yX1_isFine.desc).map (fun d => d.parameters.length) = some 0) := by decide +kernel
theorem nd_X1_isLawfulNumber : (yX1_isLawfulNumber.cls ≠ "java/lang/invoke/MethodHandle" ∧ yX1_isLawfulNumber.cls ≠ "java/lang/invoke/VarHandle" ∧ (parseMethodDescriptor yX1_isLawfulNumber.desc).map (fun d => d.parameters.length) = some 1) := by decide +kernel
theorem nd_X1_behind : (yX1_behind.cls ≠ "java/lang/invoke/MethodHandle" ∧ yX1_behind.cls ≠ "java/lang/invoke/VarHandle" ∧ (parseMethodDescriptor yX1_behind.desc).map (fun d => d.parameters.length) = some 3) := by decide +kernel
theorem nd_X1_move : (yX1_move.cls ≠ "java/lang/invoke/MethodHandle" ∧ yX1_move.cls ≠ "java/lang/invoke/VarHandle" ∧ (parseMethodDescriptor yX1_move.desc).map (fun d => d.parameters.length) = some 2) := by decide +kernel
theorem nd_X1_takeBack : (yX1_takeBack.cls ≠ "java/lang/invoke/MethodHandle" ∧ yX1_takeBack.cls ≠ "java/lang/invoke/VarHandle" ∧ (parseMethodDescriptor yX1_takeBack.desc).map (fun d => d.parameters.length) = some 0) := by decide +kernel
theorem nd_X1_layStart : (yX1_layStart.cls ≠ "java/lang/invoke/MethodHandle" ∧ yX1_layStart.cls ≠ "java/lang/invoke/VarHandle" ∧ (parseMethodDescriptor yX1_layStart.desc).map (fun d => d.parameters.length) = some 0) := by decide +kernel
theorem nd_X1_pegs : (yX1_pegs.cls ≠ "java/lang/invoke/MethodHandle" ∧ yX1_pegs.cls ≠ "java/lang/invoke/VarHandle" ∧ (parseMethodDescriptor yX1_pegs.desc).map (fun d => d.parameters.length) = some 0) := by decide +kernel
theorem nd_X1_disks : (yX1_disks.cls ≠ "java/lang/invoke/MethodHandle" ∧ yX1_disks.cls ≠ "java/lang/invoke/VarHandle" ∧ (parseMethodDescriptor yX1_disks.desc).map (fun d => d.parameters.length) = some 0) := by decide +kernel
theorem nd_X1_moves : (yX1_moves.cls ≠ "java/lang/invoke/MethodHandle" ∧ yX1_moves.cls ≠ "java/lang/invoke/VarHandle" ∧ (parseMethodDescriptor yX1_moves.desc).map (fun d => d.parameters.length) = some 0) := by decide +kernel
theorem nd_X1_pegOf : (yX1_pegOf.cls ≠ "java/lang/invoke/MethodHandle" ∧ yX1_pegOf.cls ≠ "java/lang/invoke/VarHandle" ∧ (parseMethodDescriptor yX1_pegOf.desc).map (fun d => d.parameters.length) = some 1) := by decide +kernel
theorem nd_X1_top : (yX1_top.cls ≠ "java/lang/invoke/MethodHandle" ∧ yX1_top.cls ≠ "java/lang/invoke/VarHandle" ∧ (parseMethodDescriptor yX1_top.desc).map (fun d => d.parameters.length) = some 1) := by decide +kernel
theorem nd_X1_arrangement : (yX1_arrangement.cls ≠ "java/lang/invoke/MethodHandle" ∧ yX1_arrangement.cls ≠ "java/lang/invoke/VarHandle" ∧ (parseMethodDescriptor yX1_arrangement.desc).map (fun d => d.parameters.length) = some 0) := by decide +kernel
theorem nd_X1_goal : (yX1_goal.cls ≠ "java/lang/invoke/MethodHandle" ∧ yX1_goal.cls ≠ "java/lang/invoke/VarHandle" ∧ (parseMethodDescriptor yX1_goal.desc).map (fun d => d.parameters.length) = some 0) := by decide +kernel
theorem nd_X1_isLawful : (yX1_isLawful.cls ≠ "java/lang/invoke/MethodHandle" ∧ yX1_isLawful.cls ≠ "java/lang/invoke/VarHandle" ∧ (parseMethodDescriptor yX1_isLawful.desc).map (fun d => d.parameters.length) = some 0) := by decide +kernel
theorem nd_X1_canMove : (yX1_canMove.cls ≠ "java/lang/invoke/MethodHandle" ∧ yX1_canMove.cls ≠ "java/lang/invoke/VarHandle" ∧ (parseMethodDescriptor yX1_canMove.desc).map (fun d => d.parameters.length) = some 2) := by decide +kernel
theorem nd_X1_search : (yX1_search.cls ≠ "java/lang/invoke/MethodHandle" ∧ yX1_search.cls ≠ "java/lang/invoke/VarHandle" ∧ (parseMethodDescriptor yX1_search.desc).map (fun d => d.parameters.length) = some 1) := by decide +kernel
theorem nd_X1_wayFrom : (yX1_wayFrom.cls ≠ "java/lang/invoke/MethodHandle" ∧ yX1_wayFrom.cls ≠ "java/lang/invoke/VarHandle" ∧ (parseMethodDescriptor yX1_wayFrom.desc).map (fun d => d.parameters.length) = some 1) := by decide +kernel
theorem nd_X1_way : (yX1_way.cls ≠ "java/lang/invoke/MethodHandle" ∧ yX1_way.cls ≠ "java/lang/invoke/VarHandle" ∧ (parseMethodDescriptor yX1_way.desc).map (fun d => d.parameters.length) = some 0) := by decide +kernel
theorem nd_X1_gather : (yX1_gather.cls ≠ "java/lang/invoke/MethodHandle" ∧ yX1_gather.cls ≠ "java/lang/invoke/VarHandle" ∧ (parseMethodDescriptor yX1_gather.desc).map (fun d => d.parameters.length) = some 3) := by decide +kernel
theorem nd_X1_wayByDisks : (yX1_wayByDisks.cls ≠ "java/lang/invoke/MethodHandle" ∧ yX1_wayByDisks.cls ≠ "java/lang/invoke/VarHandle" ∧ (parseMethodDescriptor yX1_wayByDisks.desc).map (fun d => d.parameters.length) = some 0) := by decide +kernel
theorem nd_X1_lost : (yX1_lost.cls ≠ "java/lang/invoke/MethodHandle" ∧ yX1_lost.cls ≠ "java/lang/invoke/VarHandle" ∧ (parseMethodDescriptor yX1_lost.desc).map (fun d => d.parameters.length) = some 0) := by decide +kernel
theorem nd_X1_next : (yX1_next.cls ≠ "java/lang/invoke/MethodHandle" ∧ yX1_next.cls ≠ "java/lang/invoke/VarHandle" ∧ (parseMethodDescriptor yX1_next.desc).map (fun d => d.parameters.length) = some 0) := by decide +kernel
theorem nd_X1_reachable : (yX1_reachable.cls ≠ "java/lang/invoke/MethodHandle" ∧ yX1_reachable.cls ≠ "java/lang/invoke/VarHandle" ∧ (parseMethodDescriptor yX1_reachable.desc).map (fun d => d.parameters.length) = some 0) := by decide +kernel
theorem nd_X1_splits : (yX1_splits.cls ≠ "java/lang/invoke/MethodHandle" ∧ yX1_splits.cls ≠ "java/lang/invoke/VarHandle" ∧ (parseMethodDescriptor yX1_splits.desc).map (fun d => d.parameters.length) = some 2) := by decide +kernel
theorem nd_J9_min_7cf53 : (yJ9_min_7cf53.cls ≠ "java/lang/invoke/MethodHandle" ∧ yJ9_min_7cf53.cls ≠ "java/lang/invoke/VarHandle" ∧ (parseMethodDescriptor yJ9_min_7cf53.desc).map (fun d => d.parameters.length) = some 2) := by decide +kernel
theorem nd_L_begin : (yL_begin.cls ≠ "java/lang/invoke/MethodHandle" ∧ yL_begin.cls ≠ "java/lang/invoke/VarHandle" ∧ (parseMethodDescriptor yL_begin.desc).map (fun d => d.parameters.length) = some 4) := by decide +kernel
theorem nd_L_put : (yL_put.cls ≠ "java/lang/invoke/MethodHandle" ∧ yL_put.cls ≠ "java/lang/invoke/VarHandle" ∧ (parseMethodDescriptor yL_put.desc).map (fun d => d.parameters.length) = some 4) := by decide +kernel
theorem nd_L_aim : (yL_aim.cls ≠ "java/lang/invoke/MethodHandle" ∧ yL_aim.cls ≠ "java/lang/invoke/VarHandle" ∧ (parseMethodDescriptor yL_aim.desc).map (fun d => d.parameters.length) = some 4) := by decide +kernel
theorem nd_L_allow : (yL_allow.cls ≠ "java/lang/invoke/MethodHandle" ∧ yL_allow.cls ≠ "java/lang/invoke/VarHandle" ∧ (parseMethodDescriptor yL_allow.desc).map (fun d => d.parameters.length) = some 5) := by decide +kernel
theorem nd_L_setColour : (yL_setColour.cls ≠ "java/lang/invoke/MethodHandle" ∧ yL_setColour.cls ≠ "java/lang/invoke/VarHandle" ∧ (parseMethodDescriptor yL_setColour.desc).map (fun d => d.parameters.length) = some 4) := by decide +kernel
theorem nd_L_move : (yL_move.cls ≠ "java/lang/invoke/MethodHandle" ∧ yL_move.cls ≠ "java/lang/invoke/VarHandle" ∧ (parseMethodDescriptor yL_move.desc).map (fun d => d.parameters.length) = some 4) := by decide +kernel
theorem nd_L_takeBack : (yL_takeBack.cls ≠ "java/lang/invoke/MethodHandle" ∧ yL_takeBack.cls ≠ "java/lang/invoke/VarHandle" ∧ (parseMethodDescriptor yL_takeBack.desc).map (fun d => d.parameters.length) = some 2) := by decide +kernel
theorem nd_L_pegOf : (yL_pegOf.cls ≠ "java/lang/invoke/MethodHandle" ∧ yL_pegOf.cls ≠ "java/lang/invoke/VarHandle" ∧ (parseMethodDescriptor yL_pegOf.desc).map (fun d => d.parameters.length) = some 3) := by decide +kernel
theorem nd_L_top : (yL_top.cls ≠ "java/lang/invoke/MethodHandle" ∧ yL_top.cls ≠ "java/lang/invoke/VarHandle" ∧ (parseMethodDescriptor yL_top.desc).map (fun d => d.parameters.length) = some 3) := by decide +kernel
theorem nd_L_canMove : (yL_canMove.cls ≠ "java/lang/invoke/MethodHandle" ∧ yL_canMove.cls ≠ "java/lang/invoke/VarHandle" ∧ (parseMethodDescriptor yL_canMove.desc).map (fun d => d.parameters.length) = some 4) := by decide +kernel
theorem nd_L_wayByDisks : (yL_wayByDisks.cls ≠ "java/lang/invoke/MethodHandle" ∧ yL_wayByDisks.cls ≠ "java/lang/invoke/VarHandle" ∧ (parseMethodDescriptor yL_wayByDisks.desc).map (fun d => d.parameters.length) = some 2) := by decide +kernel
theorem nd_L_lost : (yL_lost.cls ≠ "java/lang/invoke/MethodHandle" ∧ yL_lost.cls ≠ "java/lang/invoke/VarHandle" ∧ (parseMethodDescriptor yL_lost.desc).map (fun d => d.parameters.length) = some 2) := by decide +kernel
theorem nd_L_splits : (yL_splits.cls ≠ "java/lang/invoke/MethodHandle" ∧ yL_splits.cls ≠ "java/lang/invoke/VarHandle" ∧ (parseMethodDescriptor yL_splits.desc).map (fun d => d.parameters.length) = some 4) := by decide +kernel
theorem nd_L_law : (yL_law.cls ≠ "java/lang/invoke/MethodHandle" ∧ yL_law.cls ≠ "java/lang/invoke/VarHandle" ∧ (parseMethodDescriptor yL_law.desc).map (fun d => d.parameters.length) = some 1) := by decide +kernel
end
section
section JF
variable {K : jk_T} {cc : ByteArray} {own : String} {Y : jy_T} {rm : Room} {nL k n pc : Nat} {lo : List (Option Value)} {st : List Value} {ws : va_W}
theorem j_mmin (C : jC cc own Y rm nL K) {ix : Nat} {x y : Int32} (hl0 : Cond.methodLink own ix yJ9_min_7cf53 ∈ wG) (hfr : 1 ≤ rm.frames) (hlo : (st.map fun v => v.category).sum + 13 ≤ rm.locals) (hk : k ≤ rm.cells) (hn : n ≤ rm.slots) (hd : decode cc pc = .ok (.invokestatic ix, 3)) (kk : jJ K k n (pc + 3) lo (.int (if y < x then y else x) :: st) ws) : jJ K k n pc lo (.int y :: .int x :: st) ws :=
  fun H locs ls hP hD hS hl => va_mmin C.1 C.2.1 (by rw [C.2.2.2.2.2.2.1]; exact hl.1.symm) C.2.2.1 (C.2.2.2.1 _ hl0) (C.2.2.2.1 _ wd_st_J9_min_7cf53) (C.2.2.2.1 _ wd_in_J9) (C.2.2.2.1 _ wd_co_J9_min_7cf53) (by rw [C.2.2.2.2.2.2.2.2.1]; exact hfr) (by rw [C.2.2.2.2.2.2.2.2.1]; exact hlo) (by rw [C.2.2.2.2.2.2.2.2.1]; exact hk) (by rw [C.2.2.2.2.2.2.2.2.1]; exact hn) hd (kk H locs ls hP hD hS hl)
theorem fm_of {α : Type} {ws wc : List α} {is : List Nat} (h : is.map (fun i => ws[i]?) = wc.map some) : is.filterMap (fun i => ws[i]?) = wc := by
  have h1 : is.filterMap (fun i => ws[i]?) = (is.map (fun i => ws[i]?)).filterMap id := by rw [List.filterMap_map]; rfl
  rw [h1, h, List.filterMap_map]
  show List.filterMap some wc = wc
  exact List.filterMap_some
/-- the world in another order, or a part of it -/
theorem j_sub {ws2 : va_W} (is : List Nat) (hm : is.map (fun i => ws[i]?) = ws2.map some) (hn : va_nd is = true) (kk : jJ K k n pc lo st ws2) : jJ K k n pc lo st ws :=
  fun H locs ls hP hD hS hl => kk H locs ls (hP.sub is (fm_of hm)) (hD.sub is hn hm) hS hl
/-- where a method has thrown an E -/
def jH (K : jk_T) (k n : Nat) (pc : Nat) (lo : List (Option Value)) (E : String) (ws : va_W) : Prop :=
  ∀ (H : Heap) (locs : List Loc) (ls : Array Slot) (ce : Cell) (q : Nat) (rest : List Value), va_P K.2.2.2.1 vwCl ws H → va_D K.2.2.1.1 ws → va_S K.2.2.1.1 K.1.2.2.2.2.heap H locs → jl_has ls K.2.2.2.2 lo → H[q]? = some ce → ce.vm = .none → K.1.2.2.2.2.vm.findClass E = some ce.cls →
    vx_W K.1.1 K.1.2.1 K.1.2.2.1 K.1.2.2.2.1 K.1.2.2.2.2 K.2.1.1 K.2.1.2.1 K.2.1.2.2.1 K.2.1.2.2.2.1 K.2.1.2.2.2.2 H locs k n K.2.2.1.2 (F0 K.2.1.1 pc ls rest) q
def jXC (D : va_G) (Y : jy_T) (A : Nat → Prop) (Pex : String → va_W → Prop) : String → State → State → Prop := fun E st t =>
  (∃ w, Pex E w ∧ va_P D vwCl w t.heap ∧ va_K D vwCl (jtys Y) t ∧ va_D A w) ∧ va_F A st t
/-- a call of a part of the world -/
theorem j_runF (C : jC cc own Y rm nL K) {Pst : jp_T} {mc ms : Nat} {ops : List Value} {wc wr : va_W} (isC isR : List Nat) (hC : isC.map (fun i => ws[i]?) = wc.map some) (hR : isR.map (fun i => ws[i]?) = wr.map some) (hnC : va_nd isC = true) (hnR : va_nd isR = true) (hdis : ∀ i ∈ isR, i ∉ isC)
    (hr : ∀ (H : Heap) (locs : List Loc) (ls : Array Slot), va_P K.2.2.2.1 vwCl wc H → va_D K.2.2.1.1 wc → va_S K.2.2.1.1 K.1.2.2.2.2.heap H locs → jl_has ls K.2.2.2.2 lo → (∀ q, va_A wc H.size q → K.2.2.1.1 q) →
      va_Run K.1.1 K.1.2.1 K.1.2.2.1 K.1.2.2.2.1 K.1.2.2.2.2 K.2.1.1 K.2.1.2.1 K.2.1.2.2.1 K.2.1.2.2.2.1 K.2.1.2.2.2.2 H locs k n mc ms (F0 K.2.1.1 pc ls ops) st (jQ K.2.2.2.1 Y (va_A wc H.size) Pst #[]) (va_A wc H.size))
    (kk : ∀ r w1, Pst r w1 → jJ K (k + mc) (n + ms) (pc + 3) lo (r.toList ++ st) (wr ++ w1)) : jJ K k n pc lo ops ws := by
  intro H locs ls hP hD hS hl T hT X
  have hPc := hP.sub isC (fm_of hC)
  have hDc := hD.sub isC hnC hC
  have hF := va_free hD hS C.2.2.2.2.2.1 isC hC
  obtain ⟨v, st₀, t, T', L, h0, X', hL, e1, e2, ⟨⟨r, w1, hv, hp, hP1, hK1, hD1⟩, hz, hk⟩, hst⟩ := hr H locs ls hPc hDc hS hl hF T hT X
  cases hv
  rw [h0] at hz hk
  rw [← e1] at hP1 hz hk
  obtain ⟨hP2, hD2⟩ := va_join hP hD isC isR hC hR hnR hdis hk hF hP1 hD1
  have hS1 : va_S K.2.2.1.1 K.1.2.2.2.2.heap T'.heap (locs ++ L) := ⟨Nat.le_trans hS.1 hz, fun q h1 h2 => by
      rw [hk q (Nat.lt_of_lt_of_le h1 hS.1) (fun z => h2 (hF q z))]; exact hS.2.1 q h1 h2, fun q hq => by
      rcases List.mem_append.mp hq with h | h
      · exact hS.2.2 q h
      · exact hF _ (hL q h)⟩
  obtain ⟨t2, a1, b1⟩ := kk v w1 hp T'.heap (locs ++ L) ls hP2 hD2 hS1 hl T' rfl X'
  exact ⟨t2, hst t2 a1, b1⟩
theorem j_runX (C : jC cc own Y rm nL K) {Pst : jp_T} {Pex : String → va_W → Prop} {mc ms : Nat} {ops : List Value} {wc wr : va_W} (isC isR : List Nat) (hC : isC.map (fun i => ws[i]?) = wc.map some) (hR : isR.map (fun i => ws[i]?) = wr.map some) (hnC : va_nd isC = true) (hnR : va_nd isR = true) (hdis : ∀ i ∈ isR, i ∉ isC)
    (hr : ∀ (H : Heap) (locs : List Loc) (ls : Array Slot), va_P K.2.2.2.1 vwCl wc H → va_D K.2.2.1.1 wc → va_S K.2.2.1.1 K.1.2.2.2.2.heap H locs → jl_has ls K.2.2.2.2 lo → (∀ q, va_A wc H.size q → K.2.2.1.1 q) →
      vx_Run K.1.1 K.1.2.1 K.1.2.2.1 K.1.2.2.2.1 K.1.2.2.2.2 K.2.1.1 K.2.1.2.1 K.2.1.2.2.1 K.2.1.2.2.2.1 K.2.1.2.2.2.2 H locs k n mc ms (F0 K.2.1.1 pc ls ops) st (jQ K.2.2.2.1 Y (va_A wc H.size) Pst #[]) (jXC K.2.2.2.1 Y (va_A wc H.size) Pex) (va_A wc H.size))
    (kk : ∀ r w1, Pst r w1 → jJ K (k + mc) (n + ms) (pc + 3) lo (r.toList ++ st) (wr ++ w1))
    (kx : ∀ E w1, Pex E w1 → jH K (k + mc) (n + ms) pc lo E (wr ++ w1)) : jJ K k n pc lo ops ws := by
  intro H locs ls hP hD hS hl T hT X
  have hPc := hP.sub isC (fm_of hC)
  have hDc := hD.sub isC hnC hC
  have hF := va_free hD hS C.2.2.2.2.2.1 isC hC
  have key : ∀ (T' t : State) (st₀ : State) (L : List Loc) (w1 : va_W), st₀.heap = H → T'.heap = t.heap → (∀ q ∈ L, va_A wc H.size q.base) → va_P K.2.2.2.1 vwCl w1 t.heap → va_D (va_A wc H.size) w1 → va_F (va_A wc H.size) st₀ t →
      va_P K.2.2.2.1 vwCl (wr ++ w1) T'.heap ∧ va_D K.2.2.1.1 (wr ++ w1) ∧ va_S K.2.2.1.1 K.1.2.2.2.2.heap T'.heap (locs ++ L) := by
    intro T' t st₀ L w1 h0 e1 hL hP1 hD1 hFF
    obtain ⟨hz, hk⟩ := hFF
    rw [h0] at hz hk
    rw [← e1] at hP1 hz hk
    obtain ⟨hP2, hD2⟩ := va_join hP hD isC isR hC hR hnR hdis hk hF hP1 hD1
    exact ⟨hP2, hD2, Nat.le_trans hS.1 hz, fun q h1 h2 => by
      rw [hk q (Nat.lt_of_lt_of_le h1 hS.1) (fun z => h2 (hF q z))]; exact hS.2.1 q h1 h2, fun q hq => by
      rcases List.mem_append.mp hq with h | h
      · exact hS.2.2 q h
      · exact hF _ (hL q h)⟩
  rcases hr H locs ls hPc hDc hS hl hF T hT X with ⟨v, st₀, t, T', L, h0, X', hL, e1, e2, ⟨⟨r, w1, hv, hp, hP1, hK1, hD1⟩, hFF⟩, hst⟩ | ⟨q, st₀, t, T', L, E, ce, h0, X', hL, e1, e2, ⟨⟨w1, hp, hP1, hK1, hD1⟩, hFF⟩, hce, hcv, hcl, hst⟩
  · cases hv
    obtain ⟨a, b, c⟩ := key T' t st₀ L w1 h0 e1 hL hP1 hD1 hFF
    obtain ⟨t2, a1, b1⟩ := kk v w1 hp T'.heap (locs ++ L) ls a b c hl T' rfl X'
    exact ⟨t2, hst t2 a1, b1⟩
  · obtain ⟨a, b, c⟩ := key T' t st₀ L w1 h0 e1 hL hP1 hD1 hFF
    obtain ⟨t2, a1, b1⟩ := kx E w1 hp T'.heap (locs ++ L) ls ce q st a b c hl (by rw [e1]; exact hce) hcv hcl T' rfl X'
    exact ⟨t2, hst.trans a1, b1⟩
end JF
-- what an exception needs
def xNm : List String := ["java/lang/RuntimeException", "java/lang/Exception"]
def xIAE : String := "java/lang/IllegalArgumentException"
def xIOO : String := "java/lang/IndexOutOfBoundsException"
def xISE : String := "java/lang/IllegalStateException"
def xAt1 : List Cond := vx_atS RX0 50 xIAE xNm
def xAt2 : List Cond := vx_atS RX0 68 xIOO xNm
def xAt3 : List Cond := vx_atS RX0 76 xISE xNm
def xW : List Cond := (xAt1 ++ (xAt2 ++ xAt3)).filter (fun w => !goodWord w)
def xcd : Cond → Bool
  | .castable _ _ => true
  | .declares _ => true
  | _ => false
theorem xW_cd : xW.all xcd = true := by decide +kernel
theorem xW_tbl : xW.all (fun w => decide (w ∈ lw_tbl)) = true := by decide +kernel
theorem xAt_tbl : (xAt1 ++ (xAt2 ++ xAt3)).all (fun w => decide (w ∈ lw_tbl)) = true := by decide +kernel
theorem xAt_ot : (xAt1 ++ (xAt2 ++ xAt3)).all (fun w => vx_ot w) = true := by decide +kernel
theorem xAt_in : ∀ w ∈ xAt1 ++ (xAt2 ++ xAt3), w ∈ wG ∨ w ∈ xW := fun w h => by
  have h1 : w ∈ lw_tbl := of_decide_eq_true (List.all_eq_true.mp xAt_tbl w h)
  cases g : goodWord w
  · exact Or.inr (List.mem_filter.mpr ⟨h, by rw [g]; rfl⟩)
  · exact Or.inl (List.mem_filter.mpr ⟨h1, g⟩)
def xS : List (Nat × String) := [(48, "pegs or disks out of range"), (66, "no such disk or peg"), (74, "a move was made"), (91, "no such peg"), (93, "both pegs are the same"), (98, "no such disk"), (100, "colour out of range"), (109, "the move is not possible, or too many were made"), (115, "no move was made"), (135, "only for three free pegs without the rule of colours"), (148, "there is no way"), (154, "disks or pegs out of range")]
def xN : List (String × String) := [(xIAE, xISE), (xIAE, xIOO), (xISE, xIAE), (xISE, xIOO), (xIOO, xIAE), (xIOO, xISE)]
def xF (A : Nat → Prop) (U : State) (H : Heap) : Prop :=
  vx_Zq Bundle.tN "UNASSIGNED_STACK" Bundle.steD A U H ∧ vx_Zq Bundle.tN "SUPPRESSED_SENTINEL" Bundle.listD A U H ∧ (∀ w ∈ xW, va_Nw w U) ∧ (∀ q ∈ xS, ∃ sa, vk_R RX0 q.1 q.2 sa U) ∧ ∀ q ∈ xN, va_Nc q.1 q.2 U
theorem xNw_warm {w : Cond} {s U : State} (h : xcd w = true) (hW : s.WarmedH U.vm) (hz : va_Nw w s) : va_Nw w U := by
  cases w with
  | castable a b => exact va_Nw.warmC hW hz
  | declares a => exact va_Nw.warmD hW hz
  | _ => cases h
theorem xF_call {A B : Nat → Prop} {s U : State} {H : Heap} {locs : List Loc} (h : xF A s s.heap) (hS : va_S A s.heap H locs) (hU : U.heap = H) (hW : s.WarmedH U.vm) (hAB : ∀ q, B q → A q) : xF B U U.heap := by
  obtain ⟨h1, h2, h3, h4, h5⟩ := h
  subst hU
  exact ⟨((h1.moved hW.alike).kept hS.2.1).narrow hAB, ((h2.moved hW.alike).kept hS.2.1).narrow hAB, fun w hw => xNw_warm (List.all_eq_true.mp xW_cd w hw) hW (h3 w hw), fun q hq => by
    obtain ⟨sa, hs⟩ := h4 q hq
    exact ⟨sa, hs.warm hW⟩, fun q hq => (h5 q hq).moved hW.alike⟩
theorem xcd_tab {w : Cond} (h : xcd w = true) : w.onTables = true := by
  cases w with
  | castable a b => rfl
  | declares a => rfl
  | _ => cases h
theorem xF_calling {A : Nat → Prop} {U : State} {g : JFrame} {mk : MethodId} {a : Array Value} (h : xF A U U.heap) : xF A (U.calling g mk a) (U.calling g mk a).heap := by
  obtain ⟨h1, h2, h3, h4, h5⟩ := h
  exact ⟨vx_Zq.moved (u := U) (U := U.calling g mk a) (Vm.Alike.refl U.vm) h1, vx_Zq.moved (u := U) (U := U.calling g mk a) (Vm.Alike.refl U.vm) h2, fun w hw => va_Nw.same (u := U) (U := U.calling g mk a) (xcd_tab (List.all_eq_true.mp xW_cd w hw)) rfl (h3 w hw), fun q hq => by
    obtain ⟨sa, hs⟩ := h4 q hq
    exact ⟨sa, vk_R.same (u := U) (U := U.calling g mk a) rfl hs⟩, fun q hq => va_Nc.moved (u := U) (U := U.calling g mk a) (Vm.Alike.refl U.vm) (h5 q hq)⟩
def jPx (D : va_G) (Y : jy_T) (av : List Value) (w0 : va_W) (sz : Nat) : Array Value → State → Prop :=
  va_Pc av (fun U => (U.heap.size = sz ∧ va_P D vwCl w0 U.heap ∧ va_K D vwCl (jtys Y) U ∧ va_D (fun _ => True) w0) ∧ xF (va_A w0 sz) U U.heap)
theorem jPx_blind {D : va_G} {Y : jy_T} {av : List Value} {w0 : va_W} {sz : Nat} : FrameBlind (jPx D Y av w0 sz) := fun a U g mk q => by
  obtain ⟨q0, ⟨q1, qP, qK, qD⟩, qX⟩ := q
  exact ⟨q0, ⟨q1, qP, va_K.moved (u := U) (U := U.calling g mk a) (Vm.Alike.refl U.vm) qK, qD⟩, xF_calling qX⟩
/-- the contract of a method that may throw: it answers r with the world w so that Pst r w, or throws an E with the world w so that Pex E w -/
def MX (l : Launch) (y : MethodName) (cc : ByteArray) (maxL : Nat) (ret : Option FieldType) (rm : Room) (D : va_G) (Y : jy_T) (av : List Value) (w0 : va_W) (Pst : jp_T) (Pex : String → va_W → Prop) : Prop :=
  ∀ sz, vx_Met l y (Cond.code y cc maxL ret :: wG) rm (jPx D Y av w0 sz) (jQ D Y (va_A w0 sz) Pst) (jXC D Y (va_A w0 sz) Pex) rm.cells rm.slots (va_A w0 sz)
/-- the contract of a method with handlers -/
def MW (l : Launch) (y : MethodName) (cc : ByteArray) (maxL : Nat) (ret : Option FieldType) (hh : List (Nat × Nat × Nat × Nat)) (rm : Room) (D : va_G) (Y : jy_T) (av : List Value) (w0 : va_W) (Pst : jp_T) : Prop :=
  ∀ sz, Met l y (Cond.codeWith y cc maxL ret hh :: wG) rm (jPx D Y av w0 sz) (jQ D Y (va_A w0 sz) Pst) rm.cells rm.slots (va_A w0 sz)
def jX (K : jk_T) : Prop := xF K.2.2.1.1 K.1.2.2.2.2 K.1.2.2.2.2.heap
def jT (Y : jy_T) (mc ms : Nat) (Pst : jp_T) (Pex : String → va_W → Prop) (K : jk_T) : Prop :=
  (∀ x ∈ K.2.1.2.2.2.2.exceptionTable.toList, False) ∧ K.1.2.1.stackTraces = false ∧ ∀ t, vx_MQ K.2.1.2.2.1 (jQ K.2.2.2.1 Y K.2.2.1.1 Pst) (jXC K.2.2.2.1 Y K.2.2.1.1 Pex) K.2.1.2.1 K.1.2.2.2.2 mc ms K.2.2.1.1 t → K.2.2.1.2 t
theorem j_enterX {cc : ByteArray} {Y : jy_T} {rm : Room} {l : Launch} {y : MethodName} {maxL : Nat} {ret : Option FieldType} {D : va_G} {av : List Value} {w0 : va_W} {Pst : jp_T} {Pex : String → va_W → Prop} (hl : l.stackTraces = false) (hy : plainName y.cls = true) (hlen : av.length ≤ maxL) (hcat : ∀ v ∈ av, v.category = 1)
    (body : ∀ K : jk_T, K.1.2.1 = l → K.2.2.2.1 = D → jC cc y.cls Y rm maxL K → jR Y ret rm.cells rm.slots Pst K → jX K → jT Y rm.cells rm.slots Pst Pex K → jJ K 0 0 0 (jargs av maxL) [] w0) : MX l y cc maxL ret rm D Y av w0 Pst Pex := by
  intro sz
  refine vx_ofW (cc := cc) (maxL := maxL) (ret := ret) hy rfl ?_
  intro p e s m args below meth c s₁ B hml hht hv
  obtain ⟨rfl, ⟨hsz, hP, hK, hD0⟩, hX⟩ := hv
  have hts := wG_head (atoms_spec (ws := Cond.code y cc maxL ret :: wG) B.pre)
  have hown : s.vm.findClass y.cls = some m.cls := findClass_of_methodNamed B.named
  subst hsz
  have hD := hD0.self (sz := s.heap.size)
  rw [lg_entry_eq]
  exact body ((p, l, e, rm, s), (m, av.toArray, below, meth, c), (va_A w0 s.heap.size, _), D, maxL) rfl rfl
    ⟨B.exec, B.bytes, hown, hts, hK, fun q h => Or.inr h, hml, B.notSynchronized, rfl, rfl⟩ ⟨B.returns, fun t ⟨o, b1, b2, b3, b4⟩ => ⟨o, b1, b2, Or.inl ⟨b3, b4⟩⟩⟩ hX ⟨hht, hl, fun t h => h⟩
    s.heap [] _ hP hD va_S.rf (jl_entry av hlen hcat)
theorem j_enterW {cc : ByteArray} {Y : jy_T} {rm : Room} {l : Launch} {y : MethodName} {maxL : Nat} {ret : Option FieldType} {hh : List (Nat × Nat × Nat × Nat)} {D : va_G} {av : List Value} {w0 : va_W} {Pst : jp_T} (hy : plainName y.cls = true) (hlen : av.length ≤ maxL) (hcat : ∀ v ∈ av, v.category = 1)
    (body : ∀ K : jk_T, K.1.2.1 = l → K.2.2.2.1 = D → jC cc y.cls Y rm maxL K → jR Y ret rm.cells rm.slots Pst K → jX K → K.2.1.2.2.2.2.exceptionTable.toList = tableOf hh → jJ K 0 0 0 (jargs av maxL) [] w0) : MW l y cc maxL ret hh rm D Y av w0 Pst := by
  intro sz
  refine va_MetW (cc := cc) (maxL := maxL) (ret := ret) (hh := hh) hy rfl ?_
  intro p e s m args below meth c s₁ B hml hv
  obtain ⟨rfl, ⟨hsz, hP, hK, hD0⟩, hX⟩ := hv
  have hat := atoms_spec (ws := Cond.codeWith y cc maxL ret hh :: wG) B.pre
  have hts : ∀ w ∈ wG, w.before av.toArray s = true := fun w q => hat w (List.mem_cons_of_mem _ q)
  have htab := vx_table (x := y) B (hat _ List.mem_cons_self)
  have hown : s.vm.findClass y.cls = some m.cls := findClass_of_methodNamed B.named
  subst hsz
  have hD := hD0.self (sz := s.heap.size)
  rw [lg_entry_eq]
  exact body ((p, l, e, rm, s), (m, av.toArray, below, meth, c), (va_A w0 s.heap.size, _), D, maxL) rfl rfl
    ⟨B.exec, B.bytes, hown, hts, hK, fun q h => Or.inr h, hml, B.notSynchronized, rfl, rfl⟩ ⟨B.returns, fun t h => h⟩ hX htab
    s.heap [] _ hP hD va_S.rf (jl_entry av hlen hcat)
section JX
variable {K : jk_T} {cc : ByteArray} {own : String} {Y : jy_T} {rm : Room} {nL k n pc : Nat} {lo : List (Option Value)} {st : List Value} {ws : va_W}
theorem j_throw (C : jC cc RX0 Y rm nL K) (X : jX K) {mc ms : Nat} {Pst : jp_T} {Pex : String → va_W → Prop} (T : jT Y mc ms Pst Pex K) {ik is ic : Nat} {cls text : String} (hk : Cond.classLink RX0 ik cls ∈ wG) (hini : Cond.initialized cls ∈ wG) (hstr : (is, text) ∈ xS) (hat : ∀ w ∈ vx_atS RX0 ic cls xNm, w ∈ xAt1 ++ (xAt2 ++ xAt3)) (hcls : Bundle.fit cls = true)
    (d0 : decode cc pc = .ok (.new ik, 3)) (d3 : decode cc (pc + 3) = .ok (.dup, 1)) (d4 : decode cc (pc + 4) = .ok (.ldc is, 2)) (d6 : decode cc (pc + 6) = .ok (.invokespecial ic, 3)) (d9 : decode cc (pc + 9) = .ok (.athrow, 1))
    (hf : 5 < rm.frames) (hlo : (st.map fun v => v.category).sum + 82 ≤ rm.locals) (hk1 : k + 1 ≤ rm.cells) (hn1 : n + 6 ≤ rm.slots) (hk2 : k + 1 ≤ mc) (hn2 : n + 6 ≤ ms) (hp : Pex cls ws) : jJ K k n pc lo st ws := by
  intro H locs ls hP hD hS hl
  obtain ⟨hU, hN, hw, hs, -⟩ := id X
  obtain ⟨sa, hsa⟩ := hs _ hstr
  refine jw_Q T.2.2 (vx_throwS (names := xNm) (text := text) (sa := sa) C.1 C.2.1 T.2.1 C.2.2.1 hcls (by decide) (C.2.2.2.1 _ hk) (C.2.2.2.1 _ hini) hsa ?_ ?_ hU hN hS (by rw [C.2.2.2.2.2.2.1]; exact hl.1) d0 d3 d4 d6 d9 (fun x hx => (T.1 x hx).elim) (by rw [C.2.2.2.2.2.2.2.2.1]; exact hf) (by rw [C.2.2.2.2.2.2.2.2.1]; exact hlo) (by rw [C.2.2.2.2.2.2.2.2.1]; exact hk1) (by rw [C.2.2.2.2.2.2.2.2.1]; exact hn1) C.2.2.2.2.2.2.2.1 ?_ hS.2.2 hk2 hn2)
  · intro w h
    rcases xAt_in w (hat w h) with g | g
    · exact C.2.2.2.1 w g
    · exact va_Nw.use (xcd_tab (List.all_eq_true.mp xW_cd w g)) (hw w g)
  · intro w h
    rcases List.mem_cons.mp h with rfl | h
    · rfl
    · rcases List.mem_cons.mp h with rfl | h
      · rfl
      · exact List.all_eq_true.mp xAt_ot w (hat w h)
  · intro t hvm hz hq
    exact ⟨⟨ws, hp, hP.kept (fun i q hi => hq _ (hP i q hi).lt), va_K.moved hvm C.2.2.2.2.1, hD⟩, Nat.le_trans hS.1 hz, fun q h1 h2 => by rw [hq q (Nat.lt_of_lt_of_le h1 hS.1)]; exact hS.2.1 q h1 h2⟩
/-- the n-th handler takes it -/
theorem j_catch (C : jC cc own Y rm nL K) {hh : List (Nat × Nat × Nat × Nat)} (tb : K.2.1.2.2.2.2.exceptionTable.toList = tableOf hh) {E : String} (pre : List (Nat × Nat × Nat × Nat)) (x : Nat × Nat × Nat × Nat) (suf : List (Nat × Nat × Nat × Nat)) (hs : hh = pre ++ x :: suf)
    (hpass : ∀ z ∈ pre, z.2.2.2 ≠ 0 ∧ ∃ nm, Cond.classLink own z.2.2.2 nm ∈ wG ∧ va_Nc E nm K.1.2.2.2.2) (hx : x.1 ≤ pc ∧ pc < x.2.1) (h0 : x.2.2.2 ≠ 0) {nm : String} (hlink : Cond.classLink own x.2.2.2 nm ∈ wG) (hcast : va_Nw (.castable E nm) K.1.2.2.2.2)
    (kk : ∀ q : Nat, jJ K k n x.2.2.1 lo [.ref q] ws) : jH K k n pc lo E ws := by
  intro H locs ls ce q rest hP hD hS hl hce hcv hcl
  subst hs
  refine vx_catch (E := E) C.2.2.1 (tableOf pre) ⟨x.1, x.2.1, x.2.2.1, x.2.2.2⟩ (tableOf suf) (by rw [tb]; unfold tableOf; rw [List.map_append]; rfl) (fun z hz => ?_) (by show (decide _ && decide _) = true; rw [decide_eq_true hx.1, decide_eq_true hx.2]; rfl) h0 (C.2.2.2.1 _ hlink) (va_Nw.use rfl hcast) hce hcv hcl (kk q H locs ls hP hD hS hl)
  obtain ⟨w, hw, rfl⟩ := List.mem_map.mp hz
  obtain ⟨a, nm1, b, c⟩ := hpass w hw
  exact Or.inr ⟨a, nm1, C.2.2.2.1 _ b, c⟩
theorem j_callVX (C : jC cc own Y rm nL K) (X : jX K) {y : MethodName} {cy : ByteArray} {mL ix : Nat} {ret : Option FieldType} {rmy : Room} {a : Nat} (As : List Value) {Pst : jp_T} {Pex : String → va_W → Prop} {wc wr : va_W} (isC isR : List Nat)
    (hM : MX K.1.2.1 y cy mL ret rmy K.2.2.2.1 Y (.ref a :: As) wc Pst Pex) (hC : isC.map (fun i => ws[i]?) = wc.map some) (hR : isR.map (fun i => ws[i]?) = wr.map some) (hnC : va_nd isC = true) (hnR : va_nd isR = true) (hdis : ∀ i ∈ isR, i ∉ isC)
    (hG : GoodIn wG (wsV own ix y.cls y (Cond.code y cy mL ret :: wG)))
    (hn : (y.cls ≠ "java/lang/invoke/MethodHandle" ∧ y.cls ≠ "java/lang/invoke/VarHandle" ∧ (parseMethodDescriptor y.desc).map (fun d => d.parameters.length) = some As.length))
    (ci q0 : Nat) {q : vw_C} {fs : List Value} (hc : vwCl[ci]? = some q) (hq : q.1 = y.cls) (he : wc[q0]? = some (a, .inr (ci, fs)))
    (hroom : rmy.frames + 1 ≤ rm.frames ∧ 8 + (mL + 11) + rmy.locals ≤ rm.locals) (hcells : k + rmy.cells ≤ rm.cells ∧ n + rmy.slots ≤ rm.slots)
    (hst : (st.map fun v => v.category).sum ≤ 8) (hd : decode cc pc = .ok (.invokevirtual ix, 3)) {ops : List Value} (hops : ops = As.reverse ++ .ref a :: st)
    (kk : ∀ r w1, Pst r w1 → jJ K (k + rmy.cells) (n + rmy.slots) (pc + 3) lo (r.toList ++ st) (wr ++ w1))
    (kx : ∀ E w1, Pex E w1 → jH K (k + rmy.cells) (n + rmy.slots) pc lo E (wr ++ w1)) : jJ K k n pc lo ops ws := by
  subst hops
  refine j_runX C isC isR hC hR hnC hnR hdis (fun H locs ls hP hD hS hl hF => ?_) kk kx
  have hrec := va_recv C.2.2.2.2.1 hP hc he
  rw [hq] at hrec
  exact vx_runV (As := As) (rest := st) (g := F0 K.2.1.1 pc ls (As.reverse ++ .ref a :: st)) ⟨C.1, C.2.1, C.2.2.2.2.2.2.1, C.2.2.1, C.2.2.2.1⟩ (hM H.size) (cwV As.length C.2.2.2.1 hG rfl rfl rfl ⟨rfl, hn⟩ (by rw [C.2.2.2.2.2.2.2.2.1]; exact hroom))
    ⟨jPx_blind, hrec, fun U hU hW => ⟨rfl, ⟨by rw [hU], by rw [hU]; exact hP, va_K.moved hW.alike C.2.2.2.2.1, hD.weaken (fun _ _ _ _ => trivial)⟩, xF_call X hS hU hW hF⟩⟩ rfl rfl hl.1 rfl (lv_room hst) hd (by rw [C.2.2.2.2.2.2.2.2.1]; exact hcells)
theorem j_callVF (C : jC cc own Y rm nL K) {y : MethodName} {cy : ByteArray} {mL ix : Nat} {ret : Option FieldType} {rmy : Room} {a : Nat} (As : List Value) {Pst : jp_T} {wc wr : va_W} (isC isR : List Nat)
    (hM : MJ K.1.2.1 y cy mL ret rmy K.2.2.2.1 Y (.ref a :: As) wc Pst) (hC : isC.map (fun i => ws[i]?) = wc.map some) (hR : isR.map (fun i => ws[i]?) = wr.map some) (hnC : va_nd isC = true) (hnR : va_nd isR = true) (hdis : ∀ i ∈ isR, i ∉ isC)
    (hG : GoodIn wG (wsV own ix y.cls y (Cond.code y cy mL ret :: wG)))
    (hn : (y.cls ≠ "java/lang/invoke/MethodHandle" ∧ y.cls ≠ "java/lang/invoke/VarHandle" ∧ (parseMethodDescriptor y.desc).map (fun d => d.parameters.length) = some As.length))
    (ci q0 : Nat) {q : vw_C} {fs : List Value} (hc : vwCl[ci]? = some q) (hq : q.1 = y.cls) (he : wc[q0]? = some (a, .inr (ci, fs)))
    (hroom : rmy.frames + 1 ≤ rm.frames ∧ 8 + (mL + 11) + rmy.locals ≤ rm.locals) (hcells : k + rmy.cells ≤ rm.cells ∧ n + rmy.slots ≤ rm.slots)
    (hst : (st.map fun v => v.category).sum ≤ 8) (hd : decode cc pc = .ok (.invokevirtual ix, 3)) {ops : List Value} (hops : ops = As.reverse ++ .ref a :: st)
    (kk : ∀ r w1, Pst r w1 → jJ K (k + rmy.cells) (n + rmy.slots) (pc + 3) lo (r.toList ++ st) (wr ++ w1)) : jJ K k n pc lo ops ws := by
  subst hops
  refine j_runF C isC isR hC hR hnC hnR hdis (fun H locs ls hP hD hS hl hF => ?_) kk
  have hrec := va_recv C.2.2.2.2.1 hP hc he
  rw [hq] at hrec
  exact va_runV (As := As) (rest := st) (g := F0 K.2.1.1 pc ls (As.reverse ++ .ref a :: st)) ⟨C.1, C.2.1, C.2.2.2.2.2.2.1, C.2.2.1, C.2.2.2.1⟩ (hM H.size) (cwV As.length C.2.2.2.1 hG rfl rfl rfl ⟨rfl, hn⟩ (by rw [C.2.2.2.2.2.2.2.2.1]; exact hroom))
    ⟨jPc_blind, hrec, fun U hU hW => ⟨rfl, by rw [hU], by rw [hU]; exact hP, va_K.moved hW.alike C.2.2.2.2.1, hD.weaken (fun _ _ _ _ => trivial)⟩⟩ rfl rfl hl.1 rfl (lv_room hst) hd (by rw [C.2.2.2.2.2.2.2.2.1]; exact hcells)
theorem j_callSF (C : jC cc own Y rm nL K) {y : MethodName} {cy : ByteArray} {mL ix : Nat} {ret : Option FieldType} {rmy : Room} (As : List Value) {Pst : jp_T} {wc wr : va_W} (isC isR : List Nat)
    (hM : MJ K.1.2.1 y cy mL ret rmy K.2.2.2.1 Y As wc Pst) (hC : isC.map (fun i => ws[i]?) = wc.map some) (hR : isR.map (fun i => ws[i]?) = wr.map some) (hnC : va_nd isC = true) (hnR : va_nd isR = true) (hdis : ∀ i ∈ isR, i ∉ isC)
    (hG : GoodIn wG (wsS own ix y (Cond.code y cy mL ret :: wG))) (hown : y.cls = own)
    (hn : (y.cls ≠ "java/lang/invoke/MethodHandle" ∧ y.cls ≠ "java/lang/invoke/VarHandle" ∧ (parseMethodDescriptor y.desc).map (fun d => d.parameters.length) = some As.length))
    (hroom : rmy.frames + 1 ≤ rm.frames ∧ 8 + (mL + 11) + rmy.locals ≤ rm.locals) (hcells : k + rmy.cells ≤ rm.cells ∧ n + rmy.slots ≤ rm.slots)
    (hst : (st.map fun v => v.category).sum ≤ 8) (hd : decode cc pc = .ok (.invokestatic ix, 3)) {ops : List Value} (hops : ops = As.reverse ++ st)
    (kk : ∀ r w1, Pst r w1 → jJ K (k + rmy.cells) (n + rmy.slots) (pc + 3) lo (r.toList ++ st) (wr ++ w1)) : jJ K k n pc lo ops ws := by
  subst hops
  refine j_runF C isC isR hC hR hnC hnR hdis (fun H locs ls hP hD hS hl hF => ?_) kk
  exact va_runS (As := As) (rest := st) (g := F0 K.2.1.1 pc ls (As.reverse ++ st)) ⟨C.1, C.2.1, C.2.2.2.2.2.2.1, C.2.2.1, C.2.2.2.1⟩ (hM H.size) (cwS As.length C.2.2.2.1 hG rfl rfl rfl ⟨hown, hn⟩ (by rw [C.2.2.2.2.2.2.2.2.1]; exact hroom))
    ⟨jPc_blind, fun U hU hW => ⟨rfl, by rw [hU], by rw [hU]; exact hP, va_K.moved hW.alike C.2.2.2.2.1, hD.weaken (fun _ _ _ _ => trivial)⟩⟩ rfl rfl hl.1 rfl (lv_room hst) hd (by rw [C.2.2.2.2.2.2.2.2.1]; exact hcells)
theorem j_callSW (C : jC cc own Y rm nL K) (X : jX K) {y : MethodName} {cy : ByteArray} {mL ix : Nat} {ret : Option FieldType} {hh : List (Nat × Nat × Nat × Nat)} {rmy : Room} (As : List Value) {Pst : jp_T} {wc wr : va_W} (isC isR : List Nat)
    (hM : MW K.1.2.1 y cy mL ret hh rmy K.2.2.2.1 Y As wc Pst) (hC : isC.map (fun i => ws[i]?) = wc.map some) (hR : isR.map (fun i => ws[i]?) = wr.map some) (hnC : va_nd isC = true) (hnR : va_nd isR = true) (hdis : ∀ i ∈ isR, i ∉ isC)
    (hG : GoodIn wG (va_wsS own ix y (Cond.codeWith y cy mL ret hh :: wG)))
    (hn : (y.cls ≠ "java/lang/invoke/MethodHandle" ∧ y.cls ≠ "java/lang/invoke/VarHandle" ∧ (parseMethodDescriptor y.desc).map (fun d => d.parameters.length) = some As.length))
    (hroom : rmy.frames + 1 ≤ rm.frames ∧ 8 + (mL + 11) + rmy.locals ≤ rm.locals) (hcells : k + rmy.cells ≤ rm.cells ∧ n + rmy.slots ≤ rm.slots)
    (hst : (st.map fun v => v.category).sum ≤ 8) (hd : decode cc pc = .ok (.invokestatic ix, 3)) {ops : List Value} (hops : ops = As.reverse ++ st)
    (kk : ∀ r w1, Pst r w1 → jJ K (k + rmy.cells) (n + rmy.slots) (pc + 3) lo (r.toList ++ st) (wr ++ w1)) : jJ K k n pc lo ops ws := by
  subst hops
  refine j_runF C isC isR hC hR hnC hnR hdis (fun H locs ls hP hD hS hl hF => ?_) kk
  exact vx_runSW (As := As) (rest := st) (g := F0 K.2.1.1 pc ls (As.reverse ++ st)) ⟨C.1, C.2.1, C.2.2.2.2.2.2.1, C.2.2.1, C.2.2.2.1⟩ (hM H.size) (vx_cwSW As.length C.2.2.2.1 hG rfl rfl rfl hn (by rw [C.2.2.2.2.2.2.2.2.1]; exact hroom))
    ⟨jPx_blind, fun U hU hW => ⟨rfl, ⟨by rw [hU], by rw [hU]; exact hP, va_K.moved hW.alike C.2.2.2.2.1, hD.weaken (fun _ _ _ _ => trivial)⟩, xF_call X hS hU hW hF⟩⟩ rfl rfl hl.1 rfl (lv_room hst) hd (by rw [C.2.2.2.2.2.2.2.2.1]; exact hcells)
end JX
end
section
section JL
variable {K : jk_T} {cc : ByteArray} {own : String} {Y : jy_T} {rm : Room} {nL k n pc : Nat} {lo : List (Option Value)} {st : List Value} {ws : va_W}
theorem j_lconst (C : jC cc own Y rm nL K) {i : Fin 2} (v : Int64) (hd : decode cc pc = .ok (.lconst i, 1)) (hv : Int64.ofNat (i : Nat) = v) (kk : jJ K k n (pc + 1) lo (.long v :: st) ws) : jJ K k n pc lo st ws :=
  fun H locs ls hP hD hS hl => lv_lconst C.1 C.2.1 hd hv (kk H locs ls hP hD hS hl)
theorem j_i2l (C : jC cc own Y rm nL K) {x : Int32} (hd : decode cc pc = .ok (.i2l, 1)) (kk : jJ K k n (pc + 1) lo (.long x.toInt64 :: st) ws) : jJ K k n pc lo (.int x :: st) ws :=
  fun H locs ls hP hD hS hl => lv_i2l C.1 C.2.1 hd rfl (kk H locs ls hP hD hS hl)
theorem j_lcmp (C : jC cc own Y rm nL K) {x y : Int64} (hd : decode cc pc = .ok (.lcmp, 1)) (kk : jJ K k n (pc + 1) lo (.int (lg_cmp x y) :: st) ws) : jJ K k n pc lo (.long y :: .long x :: st) ws :=
  fun H locs ls hP hD hS hl => W.lcmp C.1 C.2.1 hd (kk H locs ls hP hD hS hl)
theorem j_lald (C : jC cc own Y rm nL K) (q0 : Nat) {a N : Nat} {f : Nat → Int64} (ha : ws[q0]? = some (a, .inl (Y.2.2, N, .inr (.inl f)))) {i : Int32} (j : Nat) (hi : i = nI j) (hj : j < N) (hN : N < 2 ^ 31) (hd : decode cc pc = .ok (.laload, 1)) (kk : jJ K k n (pc + 1) lo (.long (f j) :: st) ws) : jJ K k n pc lo (.int i :: .ref a :: st) ws := by
  subst hi
  intro H locs ls hP hD hS hl
  have h := kk H locs ls hP hD hS hl
  rw [← nI_clamp (n := j) (by omega)] at h
  exact va_lald C.1 C.2.1 C.2.2.2.2.1 hP q0 2 ha rfl (vp_in_nI hj hN) hd h
theorem j_last (C : jC cc own Y rm nL K) (q0 : Nat) {a N : Nat} {f : Nat → Int64} (ha : ws[q0]? = some (a, .inl (Y.2.2, N, .inr (.inl f)))) {i : Int32} {x : Int64} (j : Nat) (hi : i = nI j) (hj : j < N) (hN : N < 2 ^ 31) {ws2 : va_W} (hd : decode cc pc = .ok (.lastore, 1)) (hs : ws.set q0 (a, .inl (Y.2.2, N, .inr (.inl (vp_updL f j x)))) = ws2) (kk : jJ K k n (pc + 1) lo st ws2) : jJ K k n pc lo (.long x :: .int i :: .ref a :: st) ws := by
  subst hi
  subst hs
  intro H locs ls hP hD hS hl
  refine va_last C.1 C.2.1 C.2.2.2.2.1 hP hD hS q0 2 ha rfl (vp_in_nI hj hN) hd (fun H1 locs1 hP1 hD1 hS1 => ?_)
  rw [nI_clamp (n := j) (by omega)] at hP1 hD1
  exact kk H1 locs1 ls hP1 hD1 hS1 hl
theorem j_newa_long (C : jC cc own Y rm nL K) (N : Nat) {x : Int32} (hx : x = nI N) (hN : N < 100000) (hk : k + 1 ≤ rm.cells) (hn : n + N ≤ rm.slots) (hd : decode cc pc = .ok (.newarray .long, 2)) (kk : ∀ q : Nat, jJ K (k + 1) (n + N) (pc + 2) lo (.ref q :: st) (ws ++ [(q, .inl (Y.2.2, N, .inr (.inl (fun _ => 0))))])) : jJ K k n pc lo (.int x :: st) ws := by
  subst hx
  intro H locs ls hP hD hS hl
  have hcl : (nI N).toNatClampNeg = N := nI_clamp (by omega)
  refine va_newa (atype := .long) (a0 := (N, .inr (.inl (fun _ => 0)))) (ty := .long) (N' := N) C.1 C.2.1 (C.2.2.2.1 _ wd_ac_long) rfl C.2.2.2.2.1 hP hD hS C.2.2.2.2.2.1 (fun cA => rfl) (nI_pos (by omega)) hcl (by show N * _ ≤ 536870912; simp only [componentBytes]; omega) (by rw [C.2.2.2.2.2.2.2.2.1]; exact hk) (by rw [C.2.2.2.2.2.2.2.2.1]; exact hn) hd (fun q cA H1 hK1 hP1 hD1 hS1 => ?_)
  have e1 := (C.2.2.2.2.1.2 2 _ rfl).2
  have e2 := (hK1.2 3 (cA, .long) rfl).2
  have e3 : cA = Y.2.2 := by
    have e4 : some cA = some Y.2.2 := e2.symm.trans e1
    exact Option.some.inj e4
  subst e3
  exact kk q H1 locs ls hP1 hD1 hS1 hl
theorem j_sld (C : jC cc own Y rm nL K) {b L : Nat} {xs : Nat → Int32} (hX : va_X b L xs K.1.2.2.2.2 K.1.2.2.2.2.heap) (hbl : b < K.1.2.2.2.2.heap.size) (hbA : ¬ K.2.2.1.1 b) {i : Int32} (j : Nat) (hi : i = nI j) (hj : j < L) (hN : L < 2 ^ 31) (hd : decode cc pc = .ok (.iaload, 1)) (kk : jJ K k n (pc + 1) lo (.int (xs j) :: st) ws) : jJ K k n pc lo (.int i :: .ref b :: st) ws := by
  subst hi
  intro H locs ls hP hD hS hl
  have h := kk H locs ls hP hD hS hl
  rw [← nI_clamp (n := j) (by omega)] at h
  exact va_sld C.1 C.2.1 hX hbl hbA hS (vp_in_nI hj hN) hd h
theorem j_slen (C : jC cc own Y rm nL K) {b L : Nat} {xs : Nat → Int32} (hX : va_X b L xs K.1.2.2.2.2 K.1.2.2.2.2.heap) (hbl : b < K.1.2.2.2.2.heap.size) (hbA : ¬ K.2.2.1.1 b) (hd : decode cc pc = .ok (.arraylength, 1)) (kk : jJ K k n (pc + 1) lo (.int (nI L) :: st) ws) : jJ K k n pc lo (.ref b :: st) ws :=
  fun H locs ls hP hD hS hl => va_slen C.1 C.2.1 hX hbl hbA hS hd (kk H locs ls hP hD hS hl)
theorem j_tabIn (C : jC cc own Y rm nL K) {dflt lo9 hi9 : Int} {offs : Array Int} {len : Nat} (x : Nat) {off : Int} (tgt : Nat) (hd : decode cc pc = .ok (.tableswitch dflt lo9 hi9 offs, len)) (h1 : ¬ (x : Int) < lo9) (h2 : ¬ hi9 < (x : Int)) (hx : x < 100) (ho : offs[((x : Int) - lo9).toNat]? = some off) (ht : (pc : Int) + off = (tgt : Int)) (kk : jJ K k n tgt lo st ws) : jJ K k n pc lo (.int (nI x) :: st) ws :=
  fun H locs ls hP hD hS hl => lv_tableIn C.1 C.2.1 hd (by rw [nI_toInt (by omega)]; exact h1) (by rw [nI_toInt (by omega)]; exact h2) (by rw [nI_toInt (by omega)]; exact ho) ht (kk H locs ls hP hD hS hl)
theorem j_tabOut (C : jC cc own Y rm nL K) {dflt lo9 hi9 : Int} {offs : Array Int} {len : Nat} (x : Nat) (tgt : Nat) (hd : decode cc pc = .ok (.tableswitch dflt lo9 hi9 offs, len)) (h : hi9 < (x : Int)) (hx : x < 100) (ht : (pc : Int) + dflt = (tgt : Int)) (kk : jJ K k n tgt lo st ws) : jJ K k n pc lo (.int (nI x) :: st) ws :=
  fun H locs ls hP hD hS hl => lv_tableOut C.1 C.2.1 hd (Or.inr (by rw [nI_toInt (by omega)]; exact h)) ht (kk H locs ls hP hD hS hl)
theorem lg_cmp_self (x : Int64) : lg_cmp x x = 0 := by
  unfold lg_cmp
  simp
end JL
end
