/-! A walk over worlds, with all that stays in one tuple: jJ K k n pc lo st ws says that the machine at pc, with locals lo, stack st and world ws, with k cells and n slots made so far, comes to an end as wanted. -/
abbrev jk_T : Type := (Program × Launch × Env × Room × State) × (MethodId × Array Value × List Frame × Method × Code) × ((Nat → Prop) × (State → Prop)) × va_G × Nat
def jl_has (ls : Array Slot) (nL : Nat) (lo : List (Option Value)) : Prop := ls.size = nL ∧ lv_wf ls ∧ ∀ (i : Nat) (v : Value), lo[i]? = some (some v) → ls[i]? = some (.val v) ∧ v.category = 1
def jJ (K : jk_T) (k n : Nat) (pc : Nat) (lo : List (Option Value)) (st : List Value) (ws : va_W) : Prop :=
  ∀ (H : Heap) (locs : List Loc) (ls : Array Slot), va_P K.2.2.2.1 vwCl ws H → va_D K.2.2.1.1 ws → va_S K.2.2.1.1 K.1.2.2.2.2.heap H locs → jl_has ls K.2.2.2.2 lo →
    W K.1.1 K.1.2.1 K.1.2.2.1 K.1.2.2.2.1 K.1.2.2.2.2 K.2.1.1 K.2.1.2.1 K.2.1.2.2.1 K.2.1.2.2.2.1 K.2.1.2.2.2.2 H locs k n K.2.2.1.2 (F0 K.2.1.1 pc ls st)
abbrev jy_T : Type := ClassId × ClassId × ClassId
def jtys (Y : jy_T) : List (ClassId × FieldType) := [(Y.1, .int), (Y.2.1, .boolean)]
def jC (cc : ByteArray) (own : String) (Y : jy_T) (rm : Room) (nL : Nat) (K : jk_T) : Prop :=
  K.1.1.tables.exec = Jvm.exec ∧ K.2.1.2.2.2.2.code = cc ∧ K.1.2.2.2.2.vm.findClass own = some K.2.1.1.cls ∧ (∀ w ∈ wG, w.before K.2.1.2.1 K.1.2.2.2.2 = true) ∧ va_K K.2.2.2.1 vwCl (jtys Y) K.1.2.2.2.2 ∧
  (∀ q, K.1.2.2.2.2.heap.size ≤ q → K.2.2.1.1 q) ∧ K.2.1.2.2.2.2.maxLocals = K.2.2.2.2 ∧ K.2.1.2.2.2.1.locks = false ∧ K.1.2.2.2.1 = rm ∧ K.2.2.2.2 = nL
-- the ends of a method: what it answers, with which world
abbrev jp_T : Type := Option Value → va_W → Prop
def jQ (D : va_G) (Y : jy_T) (A : Nat → Prop) (Pst : jp_T) : Array Value → State → Outcome → State → Prop := fun _ st o t =>
  (∃ (r : Option Value) (w : va_W), o = .returned r ∧ Pst r w ∧ va_P D vwCl w t.heap ∧ va_K D vwCl (jtys Y) t ∧ va_D A w) ∧ va_F A st t
def jR (Y : jy_T) (ret : Option FieldType) (mc ms : Nat) (Pst : jp_T) (K : jk_T) : Prop :=
  K.2.1.2.2.2.1.sig.returnType = ret ∧ ∀ t, MQ K.2.1.2.2.1 (jQ K.2.2.2.1 Y K.2.2.1.1 Pst) K.2.1.2.1 K.1.2.2.2.2 mc ms K.2.2.1.1 t → K.2.2.1.2 t
def jPc (D : va_G) (Y : jy_T) (av : List Value) (w0 : va_W) (sz : Nat) : Array Value → State → Prop :=
  va_Pc av (fun U => U.heap.size = sz ∧ va_P D vwCl w0 U.heap ∧ va_K D vwCl (jtys Y) U ∧ va_D (fun _ => True) w0)
/-- a method's contract: from the world w0, with the arguments av, it answers r with the world w so that Pst r w -/
def MJ (l : Launch) (y : MethodName) (cc : ByteArray) (maxL : Nat) (ret : Option FieldType) (rm : Room) (D : va_G) (Y : jy_T) (av : List Value) (w0 : va_W) (Pst : jp_T) : Prop :=
  ∀ sz, Met l y (Cond.code y cc maxL ret :: wG) rm (jPc D Y av w0 sz) (jQ D Y (va_A w0 sz) Pst) rm.cells rm.slots (va_A w0 sz)
def jargs : List Value → Nat → List (Option Value) := fun vs n => vs.map some ++ List.replicate (n - vs.length) none
theorem jl_entry (vs : List Value) {n : Nat} (h : vs.length ≤ n) (hc : ∀ v ∈ vs, v.category = 1) : jl_has ((lg_sl vs ++ List.replicate (n - (lg_sl vs).length) Slot.unset).toArray) n (jargs vs n) := by
  have hlen : ∀ us : List Value, (∀ v ∈ us, v.category = 1) → lg_sl us = us.map Slot.val := by
    intro us hu
    induction us with
    | nil => rfl
    | cons a us ih =>
      have h1 : a.category = 1 := hu a List.mem_cons_self
      show (if a.category = 2 then [Slot.val a, .second] else [Slot.val a]) ++ lg_sl us = _
      rw [if_neg (by omega), ih (fun v hv => hu v (List.mem_cons_of_mem _ hv))]
      rfl
  have e := hlen vs hc
  obtain ⟨h1, h2, -⟩ := lv_entry vs (n := n) (by rw [e, List.length_map]; exact h)
  refine ⟨h1, h2, fun i v hv => ?_⟩
  rw [e]
  unfold jargs at hv
  by_cases hi : i < vs.length
  · rw [List.getElem?_append_left (by simpa using hi), List.getElem?_map] at hv
    have hg : vs[i]? = some vs[i] := List.getElem?_eq_getElem hi
    rw [hg] at hv
    simp only [Option.map_some, Option.some.injEq] at hv
    subst hv
    refine ⟨?_, hc _ (List.getElem_mem hi)⟩
    rw [List.getElem?_toArray, List.getElem?_append_left (by simpa using hi), List.getElem?_map, hg]
    rfl
  · rw [List.getElem?_append_right (by simp; omega)] at hv
    have := List.eq_of_mem_replicate (List.mem_of_getElem? hv)
    cases this
def jl_list (lo : List (Option Value)) (nL : Nat) : List (Nat × Value) := (List.range nL).filterMap (fun j => (lo[j]?.join).map (fun w => (j, w)))
theorem jl_lv {ls : Array Slot} {nL : Nat} {lo : List (Option Value)} (h : jl_has ls nL lo) : lv_has ls nL (jl_list lo nL) := by
  obtain ⟨h1, h2, h3⟩ := h
  refine ⟨h1, h2, fun q hq => ?_⟩
  obtain ⟨j, -, hj⟩ := List.mem_filterMap.mp hq
  cases hjj : lo[j]? with
  | none => rw [hjj] at hj; cases hj
  | some ow =>
    cases ow with
    | none => rw [hjj] at hj; cases hj
    | some w =>
      rw [hjj] at hj
      cases hj
      exact (h3 j w hjj).1
theorem jl_back {ls ls' : Array Slot} {nL : Nat} {lo : List (Option Value)} {i : Nat} {v : Value} (h : jl_has ls nL lo) (hc : v.category = 1) (g : lv_has ls' nL ((i, v) :: (jl_list lo nL).filter (fun q => !(q.1 == i) && !(q.1 + 1 == i && q.2.category == 2)))) : jl_has ls' nL (lo.set i (some v)) := by
  obtain ⟨h1, h2, h3⟩ := h
  obtain ⟨g1, g2, g3⟩ := g
  refine ⟨g1, g2, fun j w hj => ?_⟩
  by_cases hji : j = i
  · subst hji
    by_cases hlt : j < lo.length
    · rw [List.getElem?_set_self hlt] at hj
      cases hj
      exact ⟨g3 (j, v) List.mem_cons_self, hc⟩
    · rw [List.getElem?_eq_none (by simpa using hlt)] at hj
      cases hj
  · rw [List.getElem?_set_ne (fun q => hji q.symm)] at hj
    have hw := h3 j w hj
    refine ⟨g3 (j, w) (List.mem_cons_of_mem _ (List.mem_filter.mpr ⟨List.mem_filterMap.mpr ⟨j, List.mem_range.mpr ?_, by rw [hj]; rfl⟩, ?_⟩)), hw.2⟩
    · rw [← h1]; exact lv_lt hw.1
    · simp [hji, hw.2]
theorem j_top {K : jk_T} {k n pc : Nat} {lo : List (Option Value)} {st : List Value} {ws : va_W} (x y : Int32) (h : x = y) (kk : jJ K k n pc lo (.int y :: st) ws) : jJ K k n pc lo (.int x :: st) ws := h ▸ kk
theorem j_eq {K : jk_T} {k n pc : Nat} {lo lo' : List (Option Value)} {st st' : List Value} {ws ws2 : va_W} (h1 : lo = lo') (h2 : st = st') (h3 : ws = ws2) (kk : jJ K k n pc lo' st' ws2) : jJ K k n pc lo st ws := by
  subst h1; subst h2; subst h3; exact kk
theorem j_widen {K : jk_T} {k n k' n' pc : Nat} {lo : List (Option Value)} {st : List Value} {ws : va_W} (h1 : k ≤ k') (h2 : n ≤ n') (kk : jJ K k' n' pc lo st ws) : jJ K k n pc lo st ws :=
  fun H locs ls hP hD hS hl => W.widen h1 h2 (kk H locs ls hP hD hS hl)
section JR
variable {K : jk_T} {cc : ByteArray} {own : String} {Y : jy_T} {rm : Room} {nL k n pc : Nat} {lo : List (Option Value)} {st : List Value} {ws : va_W}
theorem j_iload_n (C : jC cc own Y rm nL K) {i : Fin 4} {x : Int32} (hd : decode cc pc = .ok (.iload_n i, 1)) (h : lo[(i : Nat)]? = some (some (.int x))) (kk : jJ K k n (pc + 1) lo (.int x :: st) ws) : jJ K k n pc lo st ws :=
  fun H locs ls hP hD hS hl => lv_iload_n C.1 C.2.1 hd rfl (hl.2.2 _ _ h).1 (kk H locs ls hP hD hS hl)
theorem j_iload (C : jC cc own Y rm nL K) {i : Nat} {x : Int32} (hd : decode cc pc = .ok (.iload i, 2)) (h : lo[i]? = some (some (.int x))) (kk : jJ K k n (pc + 2) lo (.int x :: st) ws) : jJ K k n pc lo st ws :=
  fun H locs ls hP hD hS hl => lv_iload C.1 C.2.1 hd (hl.2.2 _ _ h).1 (kk H locs ls hP hD hS hl)
theorem j_aload_n (C : jC cc own Y rm nL K) {i : Fin 4} {x : Nat} (hd : decode cc pc = .ok (.aload_n i, 1)) (h : lo[(i : Nat)]? = some (some (.ref x))) (kk : jJ K k n (pc + 1) lo (.ref x :: st) ws) : jJ K k n pc lo st ws :=
  fun H locs ls hP hD hS hl => lv_aload_n C.1 C.2.1 hd rfl (hl.2.2 _ _ h).1 (kk H locs ls hP hD hS hl)
theorem j_aload (C : jC cc own Y rm nL K) {i : Nat} {x : Nat} (hd : decode cc pc = .ok (.aload i, 2)) (h : lo[i]? = some (some (.ref x))) (kk : jJ K k n (pc + 2) lo (.ref x :: st) ws) : jJ K k n pc lo st ws :=
  fun H locs ls hP hD hS hl => lv_aload C.1 C.2.1 hd (hl.2.2 _ _ h).1 (kk H locs ls hP hD hS hl)
theorem j_istore_n (C : jC cc own Y rm nL K) {i : Fin 4} {x : Int32} (hd : decode cc pc = .ok (.istore_n i, 1)) (hi : (i : Nat) < nL) (kk : jJ K k n (pc + 1) (lo.set (i : Nat) (some (.int x))) st ws) : jJ K k n pc lo (.int x :: st) ws :=
  fun H locs ls hP hD hS hl => lv_istore_n C.1 C.2.1 hd rfl (jl_lv hl) (by rw [C.2.2.2.2.2.2.2.2.2]; exact hi) rfl (fun ls' h' => kk H locs ls' hP hD hS (jl_back hl rfl h'))
theorem j_istore (C : jC cc own Y rm nL K) {i : Nat} {x : Int32} (hd : decode cc pc = .ok (.istore i, 2)) (hi : i < nL) (kk : jJ K k n (pc + 2) (lo.set i (some (.int x))) st ws) : jJ K k n pc lo (.int x :: st) ws :=
  fun H locs ls hP hD hS hl => lv_istore C.1 C.2.1 hd (jl_lv hl) (by rw [C.2.2.2.2.2.2.2.2.2]; exact hi) rfl (fun ls' h' => kk H locs ls' hP hD hS (jl_back hl rfl h'))
theorem j_astore_n (C : jC cc own Y rm nL K) {i : Fin 4} {x : Nat} (hd : decode cc pc = .ok (.astore_n i, 1)) (hi : (i : Nat) < nL) (kk : jJ K k n (pc + 1) (lo.set (i : Nat) (some (.ref x))) st ws) : jJ K k n pc lo (.ref x :: st) ws :=
  fun H locs ls hP hD hS hl => lv_astore_n C.1 C.2.1 hd rfl (jl_lv hl) (by rw [C.2.2.2.2.2.2.2.2.2]; exact hi) rfl (fun ls' h' => kk H locs ls' hP hD hS (jl_back hl rfl h'))
theorem j_astore (C : jC cc own Y rm nL K) {i : Nat} {x : Nat} (hd : decode cc pc = .ok (.astore i, 2)) (hi : i < nL) (kk : jJ K k n (pc + 2) (lo.set i (some (.ref x))) st ws) : jJ K k n pc lo (.ref x :: st) ws :=
  fun H locs ls hP hD hS hl => lv_astore C.1 C.2.1 hd (jl_lv hl) (by rw [C.2.2.2.2.2.2.2.2.2]; exact hi) rfl (fun ls' h' => kk H locs ls' hP hD hS (jl_back hl rfl h'))
theorem jl_mem {ls : Array Slot} {nL : Nat} {lo : List (Option Value)} (h : jl_has ls nL lo) {i : Nat} {v : Value} (hv : lo[i]? = some (some v)) : ∃ j : Nat, (jl_list lo nL)[j]? = some (i, v) :=
  List.getElem?_of_mem (List.mem_filterMap.mpr ⟨i, List.mem_range.mpr (by rw [← h.1]; exact lv_lt (h.2.2 i v hv).1), by rw [hv]; rfl⟩)
theorem j_iinc (C : jC cc own Y rm nL K) {i : Nat} {d : Int} {x v : Int32} (hd : decode cc pc = .ok (.iinc i d, 3)) (h : lo[i]? = some (some (.int x))) (hv : x + Int32.ofInt d = v) (kk : jJ K k n (pc + 3) (lo.set i (some (.int v))) st ws) : jJ K k n pc lo st ws := by
  intro H locs ls hP hD hS hl
  obtain ⟨j, hj⟩ := jl_mem hl h
  exact lv_iinc C.1 C.2.1 hd (jl_lv hl) hj hv (by rw [← hl.1]; exact lv_lt (hl.2.2 i _ h).1) rfl (fun ls' h' => kk H locs ls' hP hD hS (jl_back hl rfl h'))
theorem j_iconst (C : jC cc own Y rm nL K) {d : Int} (v : Int32) (hd : decode cc pc = .ok (.iconst d, 1)) (hv : Int32.ofInt d = v) (kk : jJ K k n (pc + 1) lo (.int v :: st) ws) : jJ K k n pc lo st ws :=
  fun H locs ls hP hD hS hl => lv_iconst C.1 C.2.1 hd hv (kk H locs ls hP hD hS hl)
theorem j_bipush (C : jC cc own Y rm nL K) {d : Int} (v : Int32) (hd : decode cc pc = .ok (.bipush d, 2)) (hv : (Int8.ofInt d).toInt32 = v) (kk : jJ K k n (pc + 2) lo (.int v :: st) ws) : jJ K k n pc lo st ws :=
  fun H locs ls hP hD hS hl => lv_bipush C.1 C.2.1 hd hv (kk H locs ls hP hD hS hl)
theorem j_sipush (C : jC cc own Y rm nL K) {d : Int} (v : Int32) (hd : decode cc pc = .ok (.sipush d, 3)) (hv : (Int16.ofInt d).toInt32 = v) (kk : jJ K k n (pc + 3) lo (.int v :: st) ws) : jJ K k n pc lo st ws :=
  fun H locs ls hP hD hS hl => lv_sipush C.1 C.2.1 hd hv (kk H locs ls hP hD hS hl)
theorem j_ldc (C : jC cc own Y rm nL K) {ix : Nat} {v : Int32} (hd : decode cc pc = .ok (.ldc ix, 2)) (hw : Cond.constant own ix v ∈ wG) (kk : jJ K k n (pc + 2) lo (.int v :: st) ws) : jJ K k n pc lo st ws :=
  fun H locs ls hP hD hS hl => lv_ldc C.1 C.2.1 C.2.2.1 (C.2.2.2.1 _ hw) hd (kk H locs ls hP hD hS hl)
theorem j_iadd (C : jC cc own Y rm nL K) {x y : Int32} (hd : decode cc pc = .ok (.iadd, 1)) (kk : jJ K k n (pc + 1) lo (.int (x + y) :: st) ws) : jJ K k n pc lo (.int y :: .int x :: st) ws :=
  fun H locs ls hP hD hS hl => lv_iadd C.1 C.2.1 hd (kk H locs ls hP hD hS hl)
theorem j_isub (C : jC cc own Y rm nL K) {x y : Int32} (hd : decode cc pc = .ok (.isub, 1)) (kk : jJ K k n (pc + 1) lo (.int (x - y) :: st) ws) : jJ K k n pc lo (.int y :: .int x :: st) ws :=
  fun H locs ls hP hD hS hl => lv_isub C.1 C.2.1 hd (kk H locs ls hP hD hS hl)
theorem j_imul (C : jC cc own Y rm nL K) {x y : Int32} (hd : decode cc pc = .ok (.imul, 1)) (kk : jJ K k n (pc + 1) lo (.int (x * y) :: st) ws) : jJ K k n pc lo (.int y :: .int x :: st) ws :=
  fun H locs ls hP hD hS hl => lv_imul C.1 C.2.1 hd (kk H locs ls hP hD hS hl)
theorem j_iand (C : jC cc own Y rm nL K) {x y : Int32} (hd : decode cc pc = .ok (.iand, 1)) (kk : jJ K k n (pc + 1) lo (.int (x &&& y) :: st) ws) : jJ K k n pc lo (.int y :: .int x :: st) ws :=
  fun H locs ls hP hD hS hl => lv_iand C.1 C.2.1 hd (kk H locs ls hP hD hS hl)
theorem j_ishl (C : jC cc own Y rm nL K) {x y : Int32} (hd : decode cc pc = .ok (.ishl, 1)) (kk : jJ K k n (pc + 1) lo (.int (x <<< (y &&& 31)) :: st) ws) : jJ K k n pc lo (.int y :: .int x :: st) ws :=
  fun H locs ls hP hD hS hl => lv_ishl C.1 C.2.1 hd (kk H locs ls hP hD hS hl)
theorem j_idiv (C : jC cc own Y rm nL K) {x y : Int32} (hd : decode cc pc = .ok (.idiv, 1)) (hne : ¬ y = 0) (kk : jJ K k n (pc + 1) lo (.int (x / y) :: st) ws) : jJ K k n pc lo (.int y :: .int x :: st) ws :=
  fun H locs ls hP hD hS hl => lv_idiv C.1 C.2.1 hd hne (kk H locs ls hP hD hS hl)
theorem j_irem (C : jC cc own Y rm nL K) {x y : Int32} (hd : decode cc pc = .ok (.irem, 1)) (hne : ¬ y = 0) (kk : jJ K k n (pc + 1) lo (.int (x - x / y * y) :: st) ws) : jJ K k n pc lo (.int y :: .int x :: st) ws :=
  fun H locs ls hP hD hS hl => lv_irem C.1 C.2.1 hd hne (kk H locs ls hP hD hS hl)
theorem j_dup (C : jC cc own Y rm nL K) {v : Value} (hd : decode cc pc = .ok (.dup, 1)) (hc : v.category = 1) (kk : jJ K k n (pc + 1) lo (v :: v :: st) ws) : jJ K k n pc lo (v :: st) ws :=
  fun H locs ls hP hD hS hl => lv_dup C.1 C.2.1 hd hc (kk H locs ls hP hD hS hl)
theorem j_pop (C : jC cc own Y rm nL K) {v : Value} (hd : decode cc pc = .ok (.pop, 1)) (hc : v.category = 1) (kk : jJ K k n (pc + 1) lo st ws) : jJ K k n pc lo (v :: st) ws :=
  fun H locs ls hP hD hS hl => lv_pop C.1 C.2.1 hd hc (kk H locs ls hP hD hS hl)
theorem j_goto (C : jC cc own Y rm nL K) {off : Int} (tgt : Nat) (hd : decode cc pc = .ok (.goto off, 3)) (ht : (pc : Int) + off = (tgt : Int)) (kk : jJ K k n tgt lo st ws) : jJ K k n pc lo st ws :=
  fun H locs ls hP hD hS hl => lv_goto C.1 C.2.1 hd ht (kk H locs ls hP hD hS hl)
theorem j_if_eq (C : jC cc own Y rm nL K) {x : Int32} {off : Int} (tgt : Nat) (hd : decode cc pc = .ok (.ifCond .eq off, 3)) (ht : (pc : Int) + off = (tgt : Int)) (kt : x = 0 → jJ K k n tgt lo st ws) (kf : ¬ x = 0 → jJ K k n (pc + 3) lo st ws) : jJ K k n pc lo (.int x :: st) ws :=
  fun H locs ls hP hD hS hl => lv_if_eq C.1 C.2.1 hd ht (fun c => kt c H locs ls hP hD hS hl) (fun c => kf c H locs ls hP hD hS hl)
theorem j_icmp_eq (C : jC cc own Y rm nL K) {x y : Int32} {off : Int} (tgt : Nat) (hd : decode cc pc = .ok (.if_icmp .eq off, 3)) (ht : (pc : Int) + off = (tgt : Int)) (kt : x = y → jJ K k n tgt lo st ws) (kf : ¬ x = y → jJ K k n (pc + 3) lo st ws) : jJ K k n pc lo (.int y :: .int x :: st) ws :=
  fun H locs ls hP hD hS hl => lv_icmp_eq C.1 C.2.1 hd ht (fun c => kt c H locs ls hP hD hS hl) (fun c => kf c H locs ls hP hD hS hl)
theorem jN_icmp_eq (C : jC cc own Y rm nL K) {a b : Nat} {off : Int} (tgt : Nat) (ha : a < 2 ^ 31) (hb : b < 2 ^ 31) (hd : decode cc pc = .ok (.if_icmp .eq off, 3)) (ht : (pc : Int) + off = (tgt : Int)) (kt : a = b → jJ K k n tgt lo st ws) (kf : a ≠ b → jJ K k n (pc + 3) lo st ws) : jJ K k n pc lo (.int (nI b) :: .int (nI a) :: st) ws :=
  j_icmp_eq C tgt hd ht (fun c => kt ((nI_eq ha hb).mp c)) (fun c => kf (fun q => c ((nI_eq ha hb).mpr q)))
theorem j_if_ne (C : jC cc own Y rm nL K) {x : Int32} {off : Int} (tgt : Nat) (hd : decode cc pc = .ok (.ifCond .ne off, 3)) (ht : (pc : Int) + off = (tgt : Int)) (kt : ¬ x = 0 → jJ K k n tgt lo st ws) (kf : x = 0 → jJ K k n (pc + 3) lo st ws) : jJ K k n pc lo (.int x :: st) ws :=
  fun H locs ls hP hD hS hl => lv_if_ne C.1 C.2.1 hd ht (fun c => kt c H locs ls hP hD hS hl) (fun c => kf c H locs ls hP hD hS hl)
theorem j_icmp_ne (C : jC cc own Y rm nL K) {x y : Int32} {off : Int} (tgt : Nat) (hd : decode cc pc = .ok (.if_icmp .ne off, 3)) (ht : (pc : Int) + off = (tgt : Int)) (kt : ¬ x = y → jJ K k n tgt lo st ws) (kf : x = y → jJ K k n (pc + 3) lo st ws) : jJ K k n pc lo (.int y :: .int x :: st) ws :=
  fun H locs ls hP hD hS hl => lv_icmp_ne C.1 C.2.1 hd ht (fun c => kt c H locs ls hP hD hS hl) (fun c => kf c H locs ls hP hD hS hl)
theorem jN_icmp_ne (C : jC cc own Y rm nL K) {a b : Nat} {off : Int} (tgt : Nat) (ha : a < 2 ^ 31) (hb : b < 2 ^ 31) (hd : decode cc pc = .ok (.if_icmp .ne off, 3)) (ht : (pc : Int) + off = (tgt : Int)) (kt : a ≠ b → jJ K k n tgt lo st ws) (kf : a = b → jJ K k n (pc + 3) lo st ws) : jJ K k n pc lo (.int (nI b) :: .int (nI a) :: st) ws :=
  j_icmp_ne C tgt hd ht (fun c => kt (fun q => c ((nI_eq ha hb).mpr q))) (fun c => kf ((nI_eq ha hb).mp c))
theorem j_if_lt (C : jC cc own Y rm nL K) {x : Int32} {off : Int} (tgt : Nat) (hd : decode cc pc = .ok (.ifCond .lt off, 3)) (ht : (pc : Int) + off = (tgt : Int)) (kt : x < 0 → jJ K k n tgt lo st ws) (kf : ¬ x < 0 → jJ K k n (pc + 3) lo st ws) : jJ K k n pc lo (.int x :: st) ws :=
  fun H locs ls hP hD hS hl => lv_if_lt C.1 C.2.1 hd ht (fun c => kt c H locs ls hP hD hS hl) (fun c => kf c H locs ls hP hD hS hl)
theorem j_icmp_lt (C : jC cc own Y rm nL K) {x y : Int32} {off : Int} (tgt : Nat) (hd : decode cc pc = .ok (.if_icmp .lt off, 3)) (ht : (pc : Int) + off = (tgt : Int)) (kt : x < y → jJ K k n tgt lo st ws) (kf : ¬ x < y → jJ K k n (pc + 3) lo st ws) : jJ K k n pc lo (.int y :: .int x :: st) ws :=
  fun H locs ls hP hD hS hl => lv_icmp_lt C.1 C.2.1 hd ht (fun c => kt c H locs ls hP hD hS hl) (fun c => kf c H locs ls hP hD hS hl)
theorem jN_icmp_lt (C : jC cc own Y rm nL K) {a b : Nat} {off : Int} (tgt : Nat) (ha : a < 2 ^ 31) (hb : b < 2 ^ 31) (hd : decode cc pc = .ok (.if_icmp .lt off, 3)) (ht : (pc : Int) + off = (tgt : Int)) (kt : a < b → jJ K k n tgt lo st ws) (kf : b ≤ a → jJ K k n (pc + 3) lo st ws) : jJ K k n pc lo (.int (nI b) :: .int (nI a) :: st) ws :=
  j_icmp_lt C tgt hd ht (fun c => kt ((nI_ltI ha hb).mp c)) (fun c => kf (by have h2 : ¬ a < b := fun q => c ((nI_ltI ha hb).mpr q); omega))
theorem j_if_ge (C : jC cc own Y rm nL K) {x : Int32} {off : Int} (tgt : Nat) (hd : decode cc pc = .ok (.ifCond .ge off, 3)) (ht : (pc : Int) + off = (tgt : Int)) (kt : 0 ≤ x → jJ K k n tgt lo st ws) (kf : ¬ 0 ≤ x → jJ K k n (pc + 3) lo st ws) : jJ K k n pc lo (.int x :: st) ws :=
  fun H locs ls hP hD hS hl => lv_if_ge C.1 C.2.1 hd ht (fun c => kt c H locs ls hP hD hS hl) (fun c => kf c H locs ls hP hD hS hl)
theorem j_icmp_ge (C : jC cc own Y rm nL K) {x y : Int32} {off : Int} (tgt : Nat) (hd : decode cc pc = .ok (.if_icmp .ge off, 3)) (ht : (pc : Int) + off = (tgt : Int)) (kt : y ≤ x → jJ K k n tgt lo st ws) (kf : ¬ y ≤ x → jJ K k n (pc + 3) lo st ws) : jJ K k n pc lo (.int y :: .int x :: st) ws :=
  fun H locs ls hP hD hS hl => lv_icmp_ge C.1 C.2.1 hd ht (fun c => kt c H locs ls hP hD hS hl) (fun c => kf c H locs ls hP hD hS hl)
theorem jN_icmp_ge (C : jC cc own Y rm nL K) {a b : Nat} {off : Int} (tgt : Nat) (ha : a < 2 ^ 31) (hb : b < 2 ^ 31) (hd : decode cc pc = .ok (.if_icmp .ge off, 3)) (ht : (pc : Int) + off = (tgt : Int)) (kt : b ≤ a → jJ K k n tgt lo st ws) (kf : a < b → jJ K k n (pc + 3) lo st ws) : jJ K k n pc lo (.int (nI b) :: .int (nI a) :: st) ws :=
  j_icmp_ge C tgt hd ht (fun c => kt ((nI_leI hb ha).mp c)) (fun c => kf (by have h2 : ¬ b ≤ a := fun q => c ((nI_leI hb ha).mpr q); omega))
theorem j_if_gt (C : jC cc own Y rm nL K) {x : Int32} {off : Int} (tgt : Nat) (hd : decode cc pc = .ok (.ifCond .gt off, 3)) (ht : (pc : Int) + off = (tgt : Int)) (kt : 0 < x → jJ K k n tgt lo st ws) (kf : ¬ 0 < x → jJ K k n (pc + 3) lo st ws) : jJ K k n pc lo (.int x :: st) ws :=
  fun H locs ls hP hD hS hl => lv_if_gt C.1 C.2.1 hd ht (fun c => kt c H locs ls hP hD hS hl) (fun c => kf c H locs ls hP hD hS hl)
theorem j_icmp_gt (C : jC cc own Y rm nL K) {x y : Int32} {off : Int} (tgt : Nat) (hd : decode cc pc = .ok (.if_icmp .gt off, 3)) (ht : (pc : Int) + off = (tgt : Int)) (kt : y < x → jJ K k n tgt lo st ws) (kf : ¬ y < x → jJ K k n (pc + 3) lo st ws) : jJ K k n pc lo (.int y :: .int x :: st) ws :=
  fun H locs ls hP hD hS hl => lv_icmp_gt C.1 C.2.1 hd ht (fun c => kt c H locs ls hP hD hS hl) (fun c => kf c H locs ls hP hD hS hl)
theorem jN_icmp_gt (C : jC cc own Y rm nL K) {a b : Nat} {off : Int} (tgt : Nat) (ha : a < 2 ^ 31) (hb : b < 2 ^ 31) (hd : decode cc pc = .ok (.if_icmp .gt off, 3)) (ht : (pc : Int) + off = (tgt : Int)) (kt : b < a → jJ K k n tgt lo st ws) (kf : a ≤ b → jJ K k n (pc + 3) lo st ws) : jJ K k n pc lo (.int (nI b) :: .int (nI a) :: st) ws :=
  j_icmp_gt C tgt hd ht (fun c => kt ((nI_ltI hb ha).mp c)) (fun c => kf (by have h2 : ¬ b < a := fun q => c ((nI_ltI hb ha).mpr q); omega))
theorem j_if_le (C : jC cc own Y rm nL K) {x : Int32} {off : Int} (tgt : Nat) (hd : decode cc pc = .ok (.ifCond .le off, 3)) (ht : (pc : Int) + off = (tgt : Int)) (kt : x ≤ 0 → jJ K k n tgt lo st ws) (kf : ¬ x ≤ 0 → jJ K k n (pc + 3) lo st ws) : jJ K k n pc lo (.int x :: st) ws :=
  fun H locs ls hP hD hS hl => lv_if_le C.1 C.2.1 hd ht (fun c => kt c H locs ls hP hD hS hl) (fun c => kf c H locs ls hP hD hS hl)
theorem j_icmp_le (C : jC cc own Y rm nL K) {x y : Int32} {off : Int} (tgt : Nat) (hd : decode cc pc = .ok (.if_icmp .le off, 3)) (ht : (pc : Int) + off = (tgt : Int)) (kt : x ≤ y → jJ K k n tgt lo st ws) (kf : ¬ x ≤ y → jJ K k n (pc + 3) lo st ws) : jJ K k n pc lo (.int y :: .int x :: st) ws :=
  fun H locs ls hP hD hS hl => lv_icmp_le C.1 C.2.1 hd ht (fun c => kt c H locs ls hP hD hS hl) (fun c => kf c H locs ls hP hD hS hl)
theorem jN_icmp_le (C : jC cc own Y rm nL K) {a b : Nat} {off : Int} (tgt : Nat) (ha : a < 2 ^ 31) (hb : b < 2 ^ 31) (hd : decode cc pc = .ok (.if_icmp .le off, 3)) (ht : (pc : Int) + off = (tgt : Int)) (kt : a ≤ b → jJ K k n tgt lo st ws) (kf : b < a → jJ K k n (pc + 3) lo st ws) : jJ K k n pc lo (.int (nI b) :: .int (nI a) :: st) ws :=
  j_icmp_le C tgt hd ht (fun c => kt ((nI_leI ha hb).mp c)) (fun c => kf (by have h2 : ¬ a ≤ b := fun q => c ((nI_leI ha hb).mpr q); omega))
def bi (b : Bool) : Int32 := if b then 1 else 0
theorem bi_0 (b : Bool) : bi b = 0 ↔ b = false := by cases b <;> decide
theorem bi_1 (b : Bool) : bi b = 1 ↔ b = true := by cases b <;> decide
theorem bi_n0 (b : Bool) : ¬ bi b = 0 ↔ b = true := by cases b <;> decide
theorem bi_inj {a b : Bool} : bi a = bi b ↔ a = b := by cases a <;> cases b <;> decide
theorem bi_nar (b : Bool) : narrow .boolean (.int (bi b)) = .int (bi b) := by cases b <;> decide
theorem bi_vp (b : Bool) : vp_nar .boolean (bi b) = bi b := by cases b <;> decide
theorem bi_fit (b : Bool) : fits .boolean (.int (bi b)) = true := by cases b <;> decide
theorem jB_if_eq (C : jC cc own Y rm nL K) {b : Bool} {off : Int} (tgt : Nat) (hd : decode cc pc = .ok (.ifCond .eq off, 3)) (ht : (pc : Int) + off = (tgt : Int)) (kt : b = false → jJ K k n tgt lo st ws) (kf : b = true → jJ K k n (pc + 3) lo st ws) : jJ K k n pc lo (.int (bi b) :: st) ws :=
  j_if_eq C tgt hd ht (fun c => kt ((bi_0 b).mp c)) (fun c => kf ((bi_n0 b).mp c))
theorem jB_if_ne (C : jC cc own Y rm nL K) {b : Bool} {off : Int} (tgt : Nat) (hd : decode cc pc = .ok (.ifCond .ne off, 3)) (ht : (pc : Int) + off = (tgt : Int)) (kt : b = true → jJ K k n tgt lo st ws) (kf : b = false → jJ K k n (pc + 3) lo st ws) : jJ K k n pc lo (.int (bi b) :: st) ws :=
  j_if_ne C tgt hd ht (fun c => kt ((bi_n0 b).mp c)) (fun c => kf ((bi_0 b).mp c))
theorem j_iald (C : jC cc own Y rm nL K) (q0 : Nat) {a N : Nat} {f : Nat → Int32} (ha : ws[q0]? = some (a, .inl (Y.1, N, .inl f))) {i : Int32} (j : Nat) (hi : i = nI j) (hj : j < N) (hN : N < 2 ^ 31) (hd : decode cc pc = .ok (.iaload, 1)) (kk : jJ K k n (pc + 1) lo (.int (f j) :: st) ws) : jJ K k n pc lo (.int i :: .ref a :: st) ws := by
  subst hi
  intro H locs ls hP hD hS hl
  have h := kk H locs ls hP hD hS hl
  rw [← nI_clamp (n := j) (by omega)] at h
  exact va_iald C.1 C.2.1 C.2.2.2.2.1 hP q0 0 ha rfl (vp_in_nI hj hN) hd h
theorem j_zald (C : jC cc own Y rm nL K) (q0 : Nat) {a N : Nat} {f : Nat → Int32} (ha : ws[q0]? = some (a, .inl (Y.2.1, N, .inl f))) {i : Int32} (j : Nat) (hi : i = nI j) (hj : j < N) (hN : N < 2 ^ 31) (hd : decode cc pc = .ok (.baload, 1)) (kk : jJ K k n (pc + 1) lo (.int (f j) :: st) ws) : jJ K k n pc lo (.int i :: .ref a :: st) ws := by
  subst hi
  intro H locs ls hP hD hS hl
  have h := kk H locs ls hP hD hS hl
  rw [← nI_clamp (n := j) (by omega)] at h
  exact va_zald C.1 C.2.1 C.2.2.2.2.1 hP q0 1 ha rfl (vp_in_nI hj hN) hd h
theorem j_iast (C : jC cc own Y rm nL K) (q0 : Nat) {a N : Nat} {f : Nat → Int32} (ha : ws[q0]? = some (a, .inl (Y.1, N, .inl f))) {i x : Int32} (j : Nat) (hi : i = nI j) (hj : j < N) (hN : N < 2 ^ 31) {ws2 : va_W} (hd : decode cc pc = .ok (.iastore, 1)) (hs : ws.set q0 (a, .inl (Y.1, N, .inl (upd f j x))) = ws2) (kk : jJ K k n (pc + 1) lo st ws2) : jJ K k n pc lo (.int x :: .int i :: .ref a :: st) ws := by
  subst hi
  subst hs
  intro H locs ls hP hD hS hl
  refine va_iast C.1 C.2.1 C.2.2.2.2.1 hP hD hS q0 0 ha rfl (vp_in_nI hj hN) hd (fun H1 locs1 hP1 hD1 hS1 => ?_)
  rw [nI_clamp (n := j) (by omega)] at hP1 hD1
  exact kk H1 locs1 ls hP1 hD1 hS1 hl
theorem j_zast (C : jC cc own Y rm nL K) (q0 : Nat) {a N : Nat} {f : Nat → Int32} (ha : ws[q0]? = some (a, .inl (Y.2.1, N, .inl f))) {i x : Int32} (j : Nat) (hi : i = nI j) (hj : j < N) (hN : N < 2 ^ 31) {ws2 : va_W} (hd : decode cc pc = .ok (.bastore, 1)) (hs : ws.set q0 (a, .inl (Y.2.1, N, .inl (upd f j (vp_nar .boolean x)))) = ws2) (kk : jJ K k n (pc + 1) lo st ws2) : jJ K k n pc lo (.int x :: .int i :: .ref a :: st) ws := by
  subst hi
  subst hs
  intro H locs ls hP hD hS hl
  refine va_zast C.1 C.2.1 C.2.2.2.2.1 hP hD hS q0 1 ha rfl (vp_in_nI hj hN) hd (fun H1 locs1 hP1 hD1 hS1 => ?_)
  rw [nI_clamp (n := j) (by omega)] at hP1 hD1
  exact kk H1 locs1 ls hP1 hD1 hS1 hl
theorem j_alenG (C : jC cc own Y rm nL K) (q0 t0 : Nat) {a : Nat} {cA : ClassId} {x : vp_A} {ty : FieldType} (ha : ws[q0]? = some (a, .inl (cA, x))) (ht : (jtys Y)[t0]? = some (cA, ty)) {v : Int32} (hv : nI x.1 = v) (hd : decode cc pc = .ok (.arraylength, 1)) (kk : jJ K k n (pc + 1) lo (.int v :: st) ws) : jJ K k n pc lo (.ref a :: st) ws :=
  fun H locs ls hP hD hS hl => va_alen C.1 C.2.1 C.2.2.2.2.1 hP q0 t0 ha ht hv hd (kk H locs ls hP hD hS hl)
theorem j_get (C : jC cc own Y rm nL K) {cn ref : String} {T : u_T} {N ci ix : Nat} (hin : ∀ w ∈ u_ws cn T N, w ∈ wG) (q0 : Nat) {a : Nat} {fs : List Value} (he : ws[q0]? = some (a, .inr (ci, fs))) (hc : vwCl[ci]? = some (cn, T, N)) (kf : Nat) (hk : kf < N) (hl0 : Cond.fieldLink own ix ref (T kf).2.1 (T kf).2.2.1 ∈ wG) (href : (T kf).1 = ref) {v : Value} (hv : fs[kf]? = some v) (hd : decode cc pc = .ok (.getfield ix, 3)) (kk : jJ K k n (pc + 3) lo (v :: st) ws) : jJ K k n pc lo (.ref a :: st) ws :=
  fun H locs ls hP hD hS hl => va_get C.1 C.2.1 C.2.2.2.1 hin C.2.2.1 C.2.2.2.2.1 hP q0 he hc kf hk (C.2.2.2.1 _ hl0) (fun x h => by rw [← href]; exact h) hv hd (kk H locs ls hP hD hS hl)
theorem j_put (C : jC cc own Y rm nL K) {cn ref : String} {T : u_T} {N ci ix : Nat} (hin : ∀ w ∈ u_ws cn T N, w ∈ wG) (ty0 : Nat → FieldType) (hty : ∀ k, k < N → parseFieldDescriptor (T k).2.2.1 = some (ty0 k)) (hnm : ∀ a, a < N → ∀ b, b < N → a ≠ b → (T a).2.1 ≠ (T b).2.1) (q0 : Nat) {a : Nat} {fs : List Value} (he : ws[q0]? = some (a, .inr (ci, fs))) (hc : vwCl[ci]? = some (cn, T, N)) (kf : Nat) (hk : kf < N) (hl0 : Cond.fieldLink own ix ref (T kf).2.1 (T kf).2.2.1 ∈ wG) (href : (T kf).1 = ref) (hfin : (T kf).2.2.2 = false) {v : Value} (hn : narrow (ty0 kf) v = v) (hfit : fits (ty0 kf) v = true) (hlen : kf < fs.length) {ws2 : va_W} (hd : decode cc pc = .ok (.putfield ix, 3)) (hs : ws.set q0 (a, .inr (ci, fs.set kf v)) = ws2) (kk : jJ K k n (pc + 3) lo st ws2) : jJ K k n pc lo (v :: .ref a :: st) ws := by
  subst hs
  exact fun H locs ls hP hD hS hl => va_put C.1 C.2.1 C.2.2.2.1 hin ty0 hty hnm C.2.2.1 C.2.2.2.2.1 hP hD hS q0 he hc kf hk (C.2.2.2.1 _ hl0) (fun x h => by rw [← href]; exact h) hfin (hty kf hk) hn hfit hlen hd (fun H1 locs1 hP1 hD1 hS1 => kk H1 locs1 ls hP1 hD1 hS1 hl)
theorem j_putF (C : jC cc own Y rm nL K) (hini : K.2.1.2.2.2.1.name = "<init>") {cn ref : String} {T : u_T} {N ci ix : Nat} (hin : ∀ w ∈ u_ws cn T N, w ∈ wG) (ty0 : Nat → FieldType) (hty : ∀ k, k < N → parseFieldDescriptor (T k).2.2.1 = some (ty0 k)) (hnm : ∀ a, a < N → ∀ b, b < N → a ≠ b → (T a).2.1 ≠ (T b).2.1) (q0 : Nat) {a : Nat} {fs : List Value} (he : ws[q0]? = some (a, .inr (ci, fs))) (hc : vwCl[ci]? = some (cn, T, N)) (kf : Nat) (hk : kf < N) (hl0 : Cond.fieldLink own ix ref (T kf).2.1 (T kf).2.2.1 ∈ wG) (href : (T kf).1 = ref) (hfin : (T kf).2.2.2 = true) (hdec : (T kf).1 = own) {v : Value} (hn : narrow (ty0 kf) v = v) (hfit : fits (ty0 kf) v = true) (hlen : kf < fs.length) {ws2 : va_W} (hd : decode cc pc = .ok (.putfield ix, 3)) (hs : ws.set q0 (a, .inr (ci, fs.set kf v)) = ws2) (kk : jJ K k n (pc + 3) lo st ws2) : jJ K k n pc lo (v :: .ref a :: st) ws := by
  subst hs
  exact fun H locs ls hP hD hS hl => va_putF C.1 C.2.1 C.2.2.2.1 hin ty0 hty hnm C.2.2.1 C.2.2.2.2.1 hP hD hS q0 he hc kf hk (C.2.2.2.1 _ hl0) (fun x h => by rw [← href]; exact h) hfin hini hdec (hty kf hk) hn hfit hlen hd (fun H1 locs1 hP1 hD1 hS1 => kk H1 locs1 ls hP1 hD1 hS1 hl)
theorem j_newa_int (C : jC cc own Y rm nL K) (N : Nat) {x : Int32} (hx : x = nI N) (hN : N < 100000) (hk : k + 1 ≤ rm.cells) (hn : n + N ≤ rm.slots) (hd : decode cc pc = .ok (.newarray .int, 2)) (kk : ∀ q : Nat, jJ K (k + 1) (n + N) (pc + 2) lo (.ref q :: st) (ws ++ [(q, .inl (Y.1, N, .inl (fun _ => 0)))])) : jJ K k n pc lo (.int x :: st) ws := by
  subst hx
  intro H locs ls hP hD hS hl
  have hcl : (nI N).toNatClampNeg = N := nI_clamp (by omega)
  refine va_newa (atype := .int) (a0 := (N, .inl (fun _ => 0))) (ty := .int) (N' := N) C.1 C.2.1 (C.2.2.2.1 _ wd_ac_int) rfl C.2.2.2.2.1 hP hD hS C.2.2.2.2.2.1 (fun cA => rfl) (nI_pos (by omega)) hcl (by show N * _ ≤ 536870912; simp only [componentBytes]; omega) (by rw [C.2.2.2.2.2.2.2.2.1]; exact hk) (by rw [C.2.2.2.2.2.2.2.2.1]; exact hn) hd (fun q cA H1 hK1 hP1 hD1 hS1 => ?_)
  have e1 := (C.2.2.2.2.1.2 0 _ rfl).2
  have e2 := (hK1.2 2 (cA, .int) rfl).2
  have e3 : cA = Y.1 := by
    have e4 : some cA = some Y.1 := e2.symm.trans e1
    exact Option.some.inj e4
  subst e3
  exact kk q H1 locs ls hP1 hD1 hS1 hl
theorem j_newa_boolean (C : jC cc own Y rm nL K) (N : Nat) {x : Int32} (hx : x = nI N) (hN : N < 100000) (hk : k + 1 ≤ rm.cells) (hn : n + N ≤ rm.slots) (hd : decode cc pc = .ok (.newarray .boolean, 2)) (kk : ∀ q : Nat, jJ K (k + 1) (n + N) (pc + 2) lo (.ref q :: st) (ws ++ [(q, .inl (Y.2.1, N, .inl (fun _ => 0)))])) : jJ K k n pc lo (.int x :: st) ws := by
  subst hx
  intro H locs ls hP hD hS hl
  have hcl : (nI N).toNatClampNeg = N := nI_clamp (by omega)
  refine va_newa (atype := .boolean) (a0 := (N, .inl (fun _ => 0))) (ty := .boolean) (N' := N) C.1 C.2.1 (C.2.2.2.1 _ wd_ac_boolean) rfl C.2.2.2.2.1 hP hD hS C.2.2.2.2.2.1 (fun cA => rfl) (nI_pos (by omega)) hcl (by show N * _ ≤ 536870912; simp only [componentBytes]; omega) (by rw [C.2.2.2.2.2.2.2.2.1]; exact hk) (by rw [C.2.2.2.2.2.2.2.2.1]; exact hn) hd (fun q cA H1 hK1 hP1 hD1 hS1 => ?_)
  have e1 := (C.2.2.2.2.1.2 1 _ rfl).2
  have e2 := (hK1.2 2 (cA, .boolean) rfl).2
  have e3 : cA = Y.2.1 := by
    have e4 : some cA = some Y.2.1 := e2.symm.trans e1
    exact Option.some.inj e4
  subst e3
  exact kk q H1 locs ls hP1 hD1 hS1 hl
-- objects
theorem j_new (C : jC cc own Y rm nL K) {cn : String} {T : u_T} {N ci ix : Nat} (hin : ∀ w ∈ u_ws cn T N, w ∈ wG) (ty0 : Nat → FieldType) (hty : ∀ k, k < N → parseFieldDescriptor (T k).2.2.1 = some (ty0 k)) (hcl : Cond.classLink own ix cn ∈ wG) (hit : Cond.instantiable cn N ∈ wG) (hii : Cond.initialized cn ∈ wG) (hc : vwCl[ci]? = some (cn, T, N)) {fs : List Value} (hfs : ∀ j, j < N → defaultValue (ty0 j) = vp_V fs j) (hk : k + 1 ≤ rm.cells) (hn : n + N ≤ rm.slots) (hd : decode cc pc = .ok (.new ix, 3)) (kk : ∀ q : Nat, jJ K (k + 1) (n + N) (pc + 3) lo (.ref q :: st) (ws ++ [(q, .inr (ci, fs))])) : jJ K k n pc lo st ws :=
  fun H locs ls hP hD hS hl => va_new C.1 C.2.1 C.2.2.2.1 hin ty0 hty C.2.2.1 (C.2.2.2.1 _ hcl) (C.2.2.2.1 _ hit) (C.2.2.2.1 _ hii) C.2.2.2.2.1 hP hD hS C.2.2.2.2.2.1 hc hfs (by rw [C.2.2.2.2.2.2.2.2.1]; exact hk) (by rw [C.2.2.2.2.2.2.2.2.1]; exact hn) hd (fun q H1 hP1 hD1 hS1 => kk q H1 locs ls hP1 hD1 hS1 hl)
theorem j_objInit (C : jC cc own Y rm nL K) {ix a : Nat} (hl0 : Cond.methodLink own ix objectInit ∈ wG) (hd : decode cc pc = .ok (.invokespecial ix, 3)) (hst : (st.map fun v => v.category).sum = 0) (hf : 1 ≤ rm.frames) (hlo : 12 ≤ rm.locals) (kk : jJ K k n (pc + 3) lo st ws) : jJ K k n pc lo (.ref a :: st) ws :=
  fun H locs ls hP hD hS hl => W.objInit C.1 C.2.1 C.2.2.1 (C.2.2.2.1 _ hl0) (C.2.2.2.1 _ wd_im_oi) (C.2.2.2.1 _ wd_co_oi) rfl (by rw [C.2.2.2.2.2.2.1]; exact hl.1) rfl hd (by rw [C.2.2.2.2.2.2.2.2.1]; exact hf) (by rw [C.2.2.2.2.2.2.2.2.1, hst]; exact hlo) (kk H locs ls hP hD hS hl)
-- the ends
theorem jw_Q {p : Program} {l : Launch} {e : Env} {R : Room} {s : State} {m : MethodId} {args : Array Value} {below : List Frame} {meth : Method} {c : Code} {H : Heap} {locs : List Loc} {cells slots : Nat} {Q Q' : State → Prop} {g : JFrame} (h : ∀ t, Q t → Q' t) (kk : W p l e R s m args below meth c H locs cells slots Q g) : W p l e R s m args below meth c H locs cells slots Q' g := by
  intro T hT X
  obtain ⟨t, a, b⟩ := kk T hT X
  exact ⟨t, a, h t b⟩
def jI (P : Int32 → va_W → Prop) : jp_T := fun r w => ∃ x, r = some (.int x) ∧ P x w
def jV (P : va_W → Prop) : jp_T := fun r w => r = none ∧ P w
def jA (P : Nat → va_W → Prop) : jp_T := fun r w => ∃ x, r = some (.ref x) ∧ P x w
theorem jq_of (C : jC cc own Y rm nL K) {Pst : jp_T} {H : Heap} {locs : List Loc} {r : Option Value} (hp : Pst r ws) (hP : va_P K.2.2.2.1 vwCl ws H) (hD : va_D K.2.2.1.1 ws) (hS : va_S K.2.2.1.1 K.1.2.2.2.2.heap H locs) {t : State} (ht : t.heap = H) (hW : K.1.2.2.2.2.WarmedH t.vm) : jQ K.2.2.2.1 Y K.2.2.1.1 Pst K.2.1.2.1 K.1.2.2.2.2 (.returned r) t :=
  ⟨⟨r, ws, rfl, hp, by rw [ht]; exact hP, va_K.moved hW.alike C.2.2.2.2.1, hD⟩, hS.F ht⟩
theorem j_reti (C : jC cc own Y rm nL K) {P : Int32 → va_W → Prop} (hR : jR Y (some .int) k n (jI P) K) {x : Int32} (hd : decode cc pc = .ok (.ireturn, 1)) (hp : P x ws) : jJ K k n pc lo [.int x] ws :=
  fun H locs ls hP hD hS hl => jw_Q hR.2 (W.iret C.1 C.2.1 hR.1 (fun t ht hW => jq_of C ⟨x, rfl, hp⟩ hP hD hS ht hW) hS.2.2 hd C.2.2.2.2.2.2.2.1)
theorem j_retz (C : jC cc own Y rm nL K) {P : Int32 → va_W → Prop} (hR : jR Y (some .boolean) k n (jI P) K) {x : Int32} (hd : decode cc pc = .ok (.ireturn, 1)) (hn : narrow .boolean (.int x) = .int x) (hp : P x ws) : jJ K k n pc lo [.int x] ws :=
  fun H locs ls hP hD hS hl => jw_Q hR.2 (W.zret C.1 C.2.1 hR.1 hn (fun t ht hW => jq_of C ⟨x, rfl, hp⟩ hP hD hS ht hW) hS.2.2 hd C.2.2.2.2.2.2.2.1)
theorem j_retv (C : jC cc own Y rm nL K) {P : va_W → Prop} (hR : jR Y none k n (jV P) K) (hd : decode cc pc = .ok (.return_, 1)) (hp : P ws) : jJ K k n pc lo [] ws :=
  fun H locs ls hP hD hS hl => jw_Q hR.2 (W.vret C.1 C.2.1 hR.1 (fun t ht hW => jq_of C ⟨rfl, hp⟩ hP hD hS ht hW) hS.2.2 hd C.2.2.2.2.2.2.2.1)
theorem j_reta (C : jC cc own Y rm nL K) {P : Nat → va_W → Prop} {tt : FieldType} (hR : jR Y (some (.array tt)) k n (jA P) K) {x : Nat} (hd : decode cc pc = .ok (.areturn, 1)) (hp : P x ws) : jJ K k n pc lo [.ref x] ws :=
  fun H locs ls hP hD hS hl => jw_Q hR.2 (W.aret C.1 C.2.1 hR.1 (Or.inr ⟨_, rfl⟩) (Or.inr ⟨_, rfl⟩) (fun t ht hW => jq_of C ⟨x, rfl, hp⟩ hP hD hS ht hW) hS.2.2 hd C.2.2.2.2.2.2.2.1)
-- the start
theorem j_enter {l : Launch} {y : MethodName} {maxL : Nat} {ret : Option FieldType} {D : va_G} {av : List Value} {w0 : va_W} {Pst : jp_T} (hy : plainName y.cls = true) (hlen : av.length ≤ maxL) (hcat : ∀ v ∈ av, v.category = 1)
    (body : ∀ K : jk_T, K.1.2.1 = l → K.2.2.2.1 = D → K.2.1.2.2.2.1.name = y.name → jC cc y.cls Y rm maxL K → jR Y ret rm.cells rm.slots Pst K → jJ K 0 0 0 (jargs av maxL) [] w0) : MJ l y cc maxL ret rm D Y av w0 Pst := by
  intro sz
  refine Met.ofW (cc := cc) (maxL := maxL) (ret := ret) hy rfl ?_
  intro p e s m args below meth c s₁ B hml hv
  obtain ⟨rfl, hsz, hP, hK, hD0⟩ := hv
  have hnm := name_of_methodNamed B.named B.method
  have hts := wG_head (atoms_spec (ws := Cond.code y cc maxL ret :: wG) B.pre)
  have hown : s.vm.findClass y.cls = some m.cls := findClass_of_methodNamed B.named
  subst hsz
  have hD := hD0.self (sz := s.heap.size)
  rw [lg_entry_eq]
  exact body ((p, l, e, rm, s), (m, av.toArray, below, meth, c), (va_A w0 s.heap.size, _), D, maxL) rfl rfl hnm.1
    ⟨B.exec, B.bytes, hown, hts, hK, fun q h => Or.inr h, hml, B.notSynchronized, rfl, rfl⟩ ⟨B.returns, fun t h => h⟩
    s.heap [] _ hP hD va_S.rf (jl_entry av hlen hcat)
-- calls on the whole world
theorem j_run (C : jC cc own Y rm nL K) {Pst : jp_T} {mc ms : Nat} {ops : List Value}
    (hr : ∀ (H : Heap) (locs : List Loc) (ls : Array Slot), va_P K.2.2.2.1 vwCl ws H → va_D K.2.2.1.1 ws → va_S K.2.2.1.1 K.1.2.2.2.2.heap H locs → jl_has ls K.2.2.2.2 lo →
      va_Run K.1.1 K.1.2.1 K.1.2.2.1 K.1.2.2.2.1 K.1.2.2.2.2 K.2.1.1 K.2.1.2.1 K.2.1.2.2.1 K.2.1.2.2.2.1 K.2.1.2.2.2.2 H locs k n mc ms (F0 K.2.1.1 pc ls ops) st (jQ K.2.2.2.1 Y (va_A ws H.size) Pst #[]) (va_A ws H.size))
    (kk : ∀ r w1, Pst r w1 → jJ K (k + mc) (n + ms) (pc + 3) lo (r.toList ++ st) w1) : jJ K k n pc lo ops ws := by
  intro H locs ls hP hD hS hl T hT X
  obtain ⟨v, st₀, t, T', L, h0, X', hL, e1, e2, ⟨⟨r, w1, hv, hp, hP1, hK1, hD1⟩, hz, hk⟩, hst⟩ := hr H locs ls hP hD hS hl T hT X
  cases hv
  rw [h0] at hz hk
  have hAA : ∀ q, va_A ws H.size q → K.2.2.1.1 q := by
    intro q hq
    rcases hq with ⟨i, en, hi⟩ | hq
    · exact hD.2 i _ hi
    · exact C.2.2.2.2.2.1 q (Nat.le_trans hS.1 hq)
  have hS1 : va_S K.2.2.1.1 K.1.2.2.2.2.heap T'.heap (locs ++ L) := ⟨Nat.le_trans hS.1 (by rw [e1]; exact hz), fun q h1 h2 => by
      rw [e1, hk q (Nat.lt_of_lt_of_le h1 hS.1) (fun z => h2 (hAA q z))]; exact hS.2.1 q h1 h2, fun q hq => by
      rcases List.mem_append.mp hq with h | h
      · exact hS.2.2 q h
      · exact hAA _ (hL q h)⟩
  obtain ⟨t2, a1, b1⟩ := kk v w1 hp T'.heap (locs ++ L) ls (by rw [e1]; exact hP1) (hD1.weaken (fun _ q _ h => hAA _ h)) hS1 hl T' rfl X'
  exact ⟨t2, hst t2 a1, b1⟩
theorem jPc_blind {D : va_G} {av : List Value} {w0 : va_W} {sz : Nat} : FrameBlind (jPc D Y av w0 sz) := fun a U g mk q => by
  obtain ⟨q0, q1, qP, qK, qD⟩ := q
  exact ⟨q0, q1, qP, va_K.moved (u := U) (U := U.calling g mk a) (Vm.Alike.refl U.vm) qK, qD⟩
theorem j_callV (C : jC cc own Y rm nL K) {y : MethodName} {cy : ByteArray} {mL ix : Nat} {ret : Option FieldType} {rmy : Room} {a : Nat} {As : List Value} {Pst : jp_T}
    (hM : MJ K.1.2.1 y cy mL ret rmy K.2.2.2.1 Y (.ref a :: As) ws Pst) (hG : GoodIn wG (wsV own ix y.cls y (Cond.code y cy mL ret :: wG)))
    (hn : (y.cls ≠ "java/lang/invoke/MethodHandle" ∧ y.cls ≠ "java/lang/invoke/VarHandle" ∧ (parseMethodDescriptor y.desc).map (fun d => d.parameters.length) = some As.length))
    {ci q0 : Nat} {q : vw_C} {fs : List Value} (hc : vwCl[ci]? = some q) (hq : q.1 = y.cls) (he : ws[q0]? = some (a, .inr (ci, fs)))
    (hroom : rmy.frames + 1 ≤ rm.frames ∧ 8 + (mL + 11) + rmy.locals ≤ rm.locals) (hcells : k + rmy.cells ≤ rm.cells ∧ n + rmy.slots ≤ rm.slots)
    (hst : (st.map fun v => v.category).sum ≤ 8) (hd : decode cc pc = .ok (.invokevirtual ix, 3))
    (kk : ∀ r w1, Pst r w1 → jJ K (k + rmy.cells) (n + rmy.slots) (pc + 3) lo (r.toList ++ st) w1) : jJ K k n pc lo (As.reverse ++ .ref a :: st) ws := by
  refine j_run C (fun H locs ls hP hD hS hl => ?_) kk
  have hrec := va_recv C.2.2.2.2.1 hP hc he
  rw [hq] at hrec
  exact va_runV (As := As) (rest := st) (g := F0 K.2.1.1 pc ls (As.reverse ++ .ref a :: st)) ⟨C.1, C.2.1, C.2.2.2.2.2.2.1, C.2.2.1, C.2.2.2.1⟩ (hM H.size) (cwV As.length C.2.2.2.1 hG rfl rfl rfl ⟨rfl, hn⟩ (by rw [C.2.2.2.2.2.2.2.2.1]; exact hroom))
    ⟨jPc_blind, hrec, fun U hU hW => ⟨rfl, by rw [hU], by rw [hU]; exact hP, va_K.moved hW.alike C.2.2.2.2.1, hD.weaken (fun _ _ _ _ => trivial)⟩⟩ rfl rfl hl.1 rfl (lv_room hst) hd (by rw [C.2.2.2.2.2.2.2.2.1]; exact hcells)
theorem j_callS (C : jC cc own Y rm nL K) {y : MethodName} {cy : ByteArray} {mL ix : Nat} {ret : Option FieldType} {rmy : Room} {As : List Value} {Pst : jp_T}
    (hM : MJ K.1.2.1 y cy mL ret rmy K.2.2.2.1 Y As ws Pst) (hG : GoodIn wG (wsS own ix y (Cond.code y cy mL ret :: wG))) (hown : y.cls = own)
    (hn : (y.cls ≠ "java/lang/invoke/MethodHandle" ∧ y.cls ≠ "java/lang/invoke/VarHandle" ∧ (parseMethodDescriptor y.desc).map (fun d => d.parameters.length) = some As.length))
    (hroom : rmy.frames + 1 ≤ rm.frames ∧ 8 + (mL + 11) + rmy.locals ≤ rm.locals) (hcells : k + rmy.cells ≤ rm.cells ∧ n + rmy.slots ≤ rm.slots)
    (hst : (st.map fun v => v.category).sum ≤ 8) (hd : decode cc pc = .ok (.invokestatic ix, 3))
    (kk : ∀ r w1, Pst r w1 → jJ K (k + rmy.cells) (n + rmy.slots) (pc + 3) lo (r.toList ++ st) w1) : jJ K k n pc lo (As.reverse ++ st) ws := by
  refine j_run C (fun H locs ls hP hD hS hl => ?_) kk
  exact va_runS (As := As) (rest := st) (g := F0 K.2.1.1 pc ls (As.reverse ++ st)) ⟨C.1, C.2.1, C.2.2.2.2.2.2.1, C.2.2.1, C.2.2.2.1⟩ (hM H.size) (cwS As.length C.2.2.2.1 hG rfl rfl rfl ⟨hown, hn⟩ (by rw [C.2.2.2.2.2.2.2.2.1]; exact hroom))
    ⟨jPc_blind, fun U hU hW => ⟨rfl, by rw [hU], by rw [hU]; exact hP, va_K.moved hW.alike C.2.2.2.2.1, hD.weaken (fun _ _ _ _ => trivial)⟩⟩ rfl rfl hl.1 rfl (lv_room hst) hd (by rw [C.2.2.2.2.2.2.2.2.1]; exact hcells)
theorem j_callV0i (C : jC cc own Y rm nL K) {y : MethodName} {cy : ByteArray} {mL ix : Nat} {ret : Option FieldType} {rmy : Room} {a : Nat}  {P : Int32 → va_W → Prop}
    (hM : MJ K.1.2.1 y cy mL ret rmy K.2.2.2.1 Y (.ref a :: []) ws (jI P)) (hG : GoodIn wG (wsV own ix y.cls y (Cond.code y cy mL ret :: wG)))
    (hn : (y.cls ≠ "java/lang/invoke/MethodHandle" ∧ y.cls ≠ "java/lang/invoke/VarHandle" ∧ (parseMethodDescriptor y.desc).map (fun d => d.parameters.length) = some 0))
    (ci q0 : Nat) {q : vw_C} {fs : List Value} (hc : vwCl[ci]? = some q) (hq : q.1 = y.cls) (he : ws[q0]? = some (a, .inr (ci, fs)))
    (hroom : rmy.frames + 1 ≤ rm.frames ∧ 8 + (mL + 11) + rmy.locals ≤ rm.locals) (hcells : k + rmy.cells ≤ rm.cells ∧ n + rmy.slots ≤ rm.slots)
    (hst : (st.map fun v => v.category).sum ≤ 8) (hd : decode cc pc = .ok (.invokevirtual ix, 3)) (kk : ∀ (x : Int32) w1, P x w1 → jJ K (k + rmy.cells) (n + rmy.slots) (pc + 3) lo (.int x :: st) w1) : jJ K k n pc lo (.ref a :: st) ws :=
  j_callV C (As := []) hM hG hn hc hq he hroom hcells hst hd (fun r w1 hp => by obtain ⟨x, rfl, hp⟩ := hp; exact kk x w1 hp)
theorem j_callS0i (C : jC cc own Y rm nL K) {y : MethodName} {cy : ByteArray} {mL ix : Nat} {ret : Option FieldType} {rmy : Room}  {P : Int32 → va_W → Prop}
    (hM : MJ K.1.2.1 y cy mL ret rmy K.2.2.2.1 Y [] ws (jI P)) (hG : GoodIn wG (wsS own ix y (Cond.code y cy mL ret :: wG))) (hown : y.cls = own)
    (hn : (y.cls ≠ "java/lang/invoke/MethodHandle" ∧ y.cls ≠ "java/lang/invoke/VarHandle" ∧ (parseMethodDescriptor y.desc).map (fun d => d.parameters.length) = some 0))
    (hroom : rmy.frames + 1 ≤ rm.frames ∧ 8 + (mL + 11) + rmy.locals ≤ rm.locals) (hcells : k + rmy.cells ≤ rm.cells ∧ n + rmy.slots ≤ rm.slots)
    (hst : (st.map fun v => v.category).sum ≤ 8) (hd : decode cc pc = .ok (.invokestatic ix, 3)) (kk : ∀ (x : Int32) w1, P x w1 → jJ K (k + rmy.cells) (n + rmy.slots) (pc + 3) lo (.int x :: st) w1) : jJ K k n pc lo (st) ws :=
  j_callS C (As := []) hM hG hown hn hroom hcells hst hd (fun r w1 hp => by obtain ⟨x, rfl, hp⟩ := hp; exact kk x w1 hp)
theorem j_callV1i (C : jC cc own Y rm nL K) {y : MethodName} {cy : ByteArray} {mL ix : Nat} {ret : Option FieldType} {rmy : Room} {a : Nat} {v1 : Value} {P : Int32 → va_W → Prop}
    (hM : MJ K.1.2.1 y cy mL ret rmy K.2.2.2.1 Y (.ref a :: [v1]) ws (jI P)) (hG : GoodIn wG (wsV own ix y.cls y (Cond.code y cy mL ret :: wG)))
    (hn : (y.cls ≠ "java/lang/invoke/MethodHandle" ∧ y.cls ≠ "java/lang/invoke/VarHandle" ∧ (parseMethodDescriptor y.desc).map (fun d => d.parameters.length) = some 1))
    (ci q0 : Nat) {q : vw_C} {fs : List Value} (hc : vwCl[ci]? = some q) (hq : q.1 = y.cls) (he : ws[q0]? = some (a, .inr (ci, fs)))
    (hroom : rmy.frames + 1 ≤ rm.frames ∧ 8 + (mL + 11) + rmy.locals ≤ rm.locals) (hcells : k + rmy.cells ≤ rm.cells ∧ n + rmy.slots ≤ rm.slots)
    (hst : (st.map fun v => v.category).sum ≤ 8) (hd : decode cc pc = .ok (.invokevirtual ix, 3)) (kk : ∀ (x : Int32) w1, P x w1 → jJ K (k + rmy.cells) (n + rmy.slots) (pc + 3) lo (.int x :: st) w1) : jJ K k n pc lo (v1 :: .ref a :: st) ws :=
  j_callV C (As := [v1]) hM hG hn hc hq he hroom hcells hst hd (fun r w1 hp => by obtain ⟨x, rfl, hp⟩ := hp; exact kk x w1 hp)
theorem j_callS1i (C : jC cc own Y rm nL K) {y : MethodName} {cy : ByteArray} {mL ix : Nat} {ret : Option FieldType} {rmy : Room} {v1 : Value} {P : Int32 → va_W → Prop}
    (hM : MJ K.1.2.1 y cy mL ret rmy K.2.2.2.1 Y [v1] ws (jI P)) (hG : GoodIn wG (wsS own ix y (Cond.code y cy mL ret :: wG))) (hown : y.cls = own)
    (hn : (y.cls ≠ "java/lang/invoke/MethodHandle" ∧ y.cls ≠ "java/lang/invoke/VarHandle" ∧ (parseMethodDescriptor y.desc).map (fun d => d.parameters.length) = some 1))
    (hroom : rmy.frames + 1 ≤ rm.frames ∧ 8 + (mL + 11) + rmy.locals ≤ rm.locals) (hcells : k + rmy.cells ≤ rm.cells ∧ n + rmy.slots ≤ rm.slots)
    (hst : (st.map fun v => v.category).sum ≤ 8) (hd : decode cc pc = .ok (.invokestatic ix, 3)) (kk : ∀ (x : Int32) w1, P x w1 → jJ K (k + rmy.cells) (n + rmy.slots) (pc + 3) lo (.int x :: st) w1) : jJ K k n pc lo (v1 :: st) ws :=
  j_callS C (As := [v1]) hM hG hown hn hroom hcells hst hd (fun r w1 hp => by obtain ⟨x, rfl, hp⟩ := hp; exact kk x w1 hp)
theorem j_callV2i (C : jC cc own Y rm nL K) {y : MethodName} {cy : ByteArray} {mL ix : Nat} {ret : Option FieldType} {rmy : Room} {a : Nat} {v1 v2 : Value} {P : Int32 → va_W → Prop}
    (hM : MJ K.1.2.1 y cy mL ret rmy K.2.2.2.1 Y (.ref a :: [v1, v2]) ws (jI P)) (hG : GoodIn wG (wsV own ix y.cls y (Cond.code y cy mL ret :: wG)))
    (hn : (y.cls ≠ "java/lang/invoke/MethodHandle" ∧ y.cls ≠ "java/lang/invoke/VarHandle" ∧ (parseMethodDescriptor y.desc).map (fun d => d.parameters.length) = some 2))
    (ci q0 : Nat) {q : vw_C} {fs : List Value} (hc : vwCl[ci]? = some q) (hq : q.1 = y.cls) (he : ws[q0]? = some (a, .inr (ci, fs)))
    (hroom : rmy.frames + 1 ≤ rm.frames ∧ 8 + (mL + 11) + rmy.locals ≤ rm.locals) (hcells : k + rmy.cells ≤ rm.cells ∧ n + rmy.slots ≤ rm.slots)
    (hst : (st.map fun v => v.category).sum ≤ 8) (hd : decode cc pc = .ok (.invokevirtual ix, 3)) (kk : ∀ (x : Int32) w1, P x w1 → jJ K (k + rmy.cells) (n + rmy.slots) (pc + 3) lo (.int x :: st) w1) : jJ K k n pc lo (v2 :: v1 :: .ref a :: st) ws :=
  j_callV C (As := [v1, v2]) hM hG hn hc hq he hroom hcells hst hd (fun r w1 hp => by obtain ⟨x, rfl, hp⟩ := hp; exact kk x w1 hp)
theorem j_callS2i (C : jC cc own Y rm nL K) {y : MethodName} {cy : ByteArray} {mL ix : Nat} {ret : Option FieldType} {rmy : Room} {v1 v2 : Value} {P : Int32 → va_W → Prop}
    (hM : MJ K.1.2.1 y cy mL ret rmy K.2.2.2.1 Y [v1, v2] ws (jI P)) (hG : GoodIn wG (wsS own ix y (Cond.code y cy mL ret :: wG))) (hown : y.cls = own)
    (hn : (y.cls ≠ "java/lang/invoke/MethodHandle" ∧ y.cls ≠ "java/lang/invoke/VarHandle" ∧ (parseMethodDescriptor y.desc).map (fun d => d.parameters.length) = some 2))
    (hroom : rmy.frames + 1 ≤ rm.frames ∧ 8 + (mL + 11) + rmy.locals ≤ rm.locals) (hcells : k + rmy.cells ≤ rm.cells ∧ n + rmy.slots ≤ rm.slots)
    (hst : (st.map fun v => v.category).sum ≤ 8) (hd : decode cc pc = .ok (.invokestatic ix, 3)) (kk : ∀ (x : Int32) w1, P x w1 → jJ K (k + rmy.cells) (n + rmy.slots) (pc + 3) lo (.int x :: st) w1) : jJ K k n pc lo (v2 :: v1 :: st) ws :=
  j_callS C (As := [v1, v2]) hM hG hown hn hroom hcells hst hd (fun r w1 hp => by obtain ⟨x, rfl, hp⟩ := hp; exact kk x w1 hp)
theorem j_callV3i (C : jC cc own Y rm nL K) {y : MethodName} {cy : ByteArray} {mL ix : Nat} {ret : Option FieldType} {rmy : Room} {a : Nat} {v1 v2 v3 : Value} {P : Int32 → va_W → Prop}
    (hM : MJ K.1.2.1 y cy mL ret rmy K.2.2.2.1 Y (.ref a :: [v1, v2, v3]) ws (jI P)) (hG : GoodIn wG (wsV own ix y.cls y (Cond.code y cy mL ret :: wG)))
    (hn : (y.cls ≠ "java/lang/invoke/MethodHandle" ∧ y.cls ≠ "java/lang/invoke/VarHandle" ∧ (parseMethodDescriptor y.desc).map (fun d => d.parameters.length) = some 3))
    (ci q0 : Nat) {q : vw_C} {fs : List Value} (hc : vwCl[ci]? = some q) (hq : q.1 = y.cls) (he : ws[q0]? = some (a, .inr (ci, fs)))
    (hroom : rmy.frames + 1 ≤ rm.frames ∧ 8 + (mL + 11) + rmy.locals ≤ rm.locals) (hcells : k + rmy.cells ≤ rm.cells ∧ n + rmy.slots ≤ rm.slots)
    (hst : (st.map fun v => v.category).sum ≤ 8) (hd : decode cc pc = .ok (.invokevirtual ix, 3)) (kk : ∀ (x : Int32) w1, P x w1 → jJ K (k + rmy.cells) (n + rmy.slots) (pc + 3) lo (.int x :: st) w1) : jJ K k n pc lo (v3 :: v2 :: v1 :: .ref a :: st) ws :=
  j_callV C (As := [v1, v2, v3]) hM hG hn hc hq he hroom hcells hst hd (fun r w1 hp => by obtain ⟨x, rfl, hp⟩ := hp; exact kk x w1 hp)
theorem j_callS3i (C : jC cc own Y rm nL K) {y : MethodName} {cy : ByteArray} {mL ix : Nat} {ret : Option FieldType} {rmy : Room} {v1 v2 v3 : Value} {P : Int32 → va_W → Prop}
    (hM : MJ K.1.2.1 y cy mL ret rmy K.2.2.2.1 Y [v1, v2, v3] ws (jI P)) (hG : GoodIn wG (wsS own ix y (Cond.code y cy mL ret :: wG))) (hown : y.cls = own)
    (hn : (y.cls ≠ "java/lang/invoke/MethodHandle" ∧ y.cls ≠ "java/lang/invoke/VarHandle" ∧ (parseMethodDescriptor y.desc).map (fun d => d.parameters.length) = some 3))
    (hroom : rmy.frames + 1 ≤ rm.frames ∧ 8 + (mL + 11) + rmy.locals ≤ rm.locals) (hcells : k + rmy.cells ≤ rm.cells ∧ n + rmy.slots ≤ rm.slots)
    (hst : (st.map fun v => v.category).sum ≤ 8) (hd : decode cc pc = .ok (.invokestatic ix, 3)) (kk : ∀ (x : Int32) w1, P x w1 → jJ K (k + rmy.cells) (n + rmy.slots) (pc + 3) lo (.int x :: st) w1) : jJ K k n pc lo (v3 :: v2 :: v1 :: st) ws :=
  j_callS C (As := [v1, v2, v3]) hM hG hown hn hroom hcells hst hd (fun r w1 hp => by obtain ⟨x, rfl, hp⟩ := hp; exact kk x w1 hp)
theorem j_callV4i (C : jC cc own Y rm nL K) {y : MethodName} {cy : ByteArray} {mL ix : Nat} {ret : Option FieldType} {rmy : Room} {a : Nat} {v1 v2 v3 v4 : Value} {P : Int32 → va_W → Prop}
    (hM : MJ K.1.2.1 y cy mL ret rmy K.2.2.2.1 Y (.ref a :: [v1, v2, v3, v4]) ws (jI P)) (hG : GoodIn wG (wsV own ix y.cls y (Cond.code y cy mL ret :: wG)))
    (hn : (y.cls ≠ "java/lang/invoke/MethodHandle" ∧ y.cls ≠ "java/lang/invoke/VarHandle" ∧ (parseMethodDescriptor y.desc).map (fun d => d.parameters.length) = some 4))
    (ci q0 : Nat) {q : vw_C} {fs : List Value} (hc : vwCl[ci]? = some q) (hq : q.1 = y.cls) (he : ws[q0]? = some (a, .inr (ci, fs)))
    (hroom : rmy.frames + 1 ≤ rm.frames ∧ 8 + (mL + 11) + rmy.locals ≤ rm.locals) (hcells : k + rmy.cells ≤ rm.cells ∧ n + rmy.slots ≤ rm.slots)
    (hst : (st.map fun v => v.category).sum ≤ 8) (hd : decode cc pc = .ok (.invokevirtual ix, 3)) (kk : ∀ (x : Int32) w1, P x w1 → jJ K (k + rmy.cells) (n + rmy.slots) (pc + 3) lo (.int x :: st) w1) : jJ K k n pc lo (v4 :: v3 :: v2 :: v1 :: .ref a :: st) ws :=
  j_callV C (As := [v1, v2, v3, v4]) hM hG hn hc hq he hroom hcells hst hd (fun r w1 hp => by obtain ⟨x, rfl, hp⟩ := hp; exact kk x w1 hp)
theorem j_callS4i (C : jC cc own Y rm nL K) {y : MethodName} {cy : ByteArray} {mL ix : Nat} {ret : Option FieldType} {rmy : Room} {v1 v2 v3 v4 : Value} {P : Int32 → va_W → Prop}
    (hM : MJ K.1.2.1 y cy mL ret rmy K.2.2.2.1 Y [v1, v2, v3, v4] ws (jI P)) (hG : GoodIn wG (wsS own ix y (Cond.code y cy mL ret :: wG))) (hown : y.cls = own)
    (hn : (y.cls ≠ "java/lang/invoke/MethodHandle" ∧ y.cls ≠ "java/lang/invoke/VarHandle" ∧ (parseMethodDescriptor y.desc).map (fun d => d.parameters.length) = some 4))
    (hroom : rmy.frames + 1 ≤ rm.frames ∧ 8 + (mL + 11) + rmy.locals ≤ rm.locals) (hcells : k + rmy.cells ≤ rm.cells ∧ n + rmy.slots ≤ rm.slots)
    (hst : (st.map fun v => v.category).sum ≤ 8) (hd : decode cc pc = .ok (.invokestatic ix, 3)) (kk : ∀ (x : Int32) w1, P x w1 → jJ K (k + rmy.cells) (n + rmy.slots) (pc + 3) lo (.int x :: st) w1) : jJ K k n pc lo (v4 :: v3 :: v2 :: v1 :: st) ws :=
  j_callS C (As := [v1, v2, v3, v4]) hM hG hown hn hroom hcells hst hd (fun r w1 hp => by obtain ⟨x, rfl, hp⟩ := hp; exact kk x w1 hp)
theorem j_callV5i (C : jC cc own Y rm nL K) {y : MethodName} {cy : ByteArray} {mL ix : Nat} {ret : Option FieldType} {rmy : Room} {a : Nat} {v1 v2 v3 v4 v5 : Value} {P : Int32 → va_W → Prop}
    (hM : MJ K.1.2.1 y cy mL ret rmy K.2.2.2.1 Y (.ref a :: [v1, v2, v3, v4, v5]) ws (jI P)) (hG : GoodIn wG (wsV own ix y.cls y (Cond.code y cy mL ret :: wG)))
    (hn : (y.cls ≠ "java/lang/invoke/MethodHandle" ∧ y.cls ≠ "java/lang/invoke/VarHandle" ∧ (parseMethodDescriptor y.desc).map (fun d => d.parameters.length) = some 5))
    (ci q0 : Nat) {q : vw_C} {fs : List Value} (hc : vwCl[ci]? = some q) (hq : q.1 = y.cls) (he : ws[q0]? = some (a, .inr (ci, fs)))
    (hroom : rmy.frames + 1 ≤ rm.frames ∧ 8 + (mL + 11) + rmy.locals ≤ rm.locals) (hcells : k + rmy.cells ≤ rm.cells ∧ n + rmy.slots ≤ rm.slots)
    (hst : (st.map fun v => v.category).sum ≤ 8) (hd : decode cc pc = .ok (.invokevirtual ix, 3)) (kk : ∀ (x : Int32) w1, P x w1 → jJ K (k + rmy.cells) (n + rmy.slots) (pc + 3) lo (.int x :: st) w1) : jJ K k n pc lo (v5 :: v4 :: v3 :: v2 :: v1 :: .ref a :: st) ws :=
  j_callV C (As := [v1, v2, v3, v4, v5]) hM hG hn hc hq he hroom hcells hst hd (fun r w1 hp => by obtain ⟨x, rfl, hp⟩ := hp; exact kk x w1 hp)
theorem j_callS5i (C : jC cc own Y rm nL K) {y : MethodName} {cy : ByteArray} {mL ix : Nat} {ret : Option FieldType} {rmy : Room} {v1 v2 v3 v4 v5 : Value} {P : Int32 → va_W → Prop}
    (hM : MJ K.1.2.1 y cy mL ret rmy K.2.2.2.1 Y [v1, v2, v3, v4, v5] ws (jI P)) (hG : GoodIn wG (wsS own ix y (Cond.code y cy mL ret :: wG))) (hown : y.cls = own)
    (hn : (y.cls ≠ "java/lang/invoke/MethodHandle" ∧ y.cls ≠ "java/lang/invoke/VarHandle" ∧ (parseMethodDescriptor y.desc).map (fun d => d.parameters.length) = some 5))
    (hroom : rmy.frames + 1 ≤ rm.frames ∧ 8 + (mL + 11) + rmy.locals ≤ rm.locals) (hcells : k + rmy.cells ≤ rm.cells ∧ n + rmy.slots ≤ rm.slots)
    (hst : (st.map fun v => v.category).sum ≤ 8) (hd : decode cc pc = .ok (.invokestatic ix, 3)) (kk : ∀ (x : Int32) w1, P x w1 → jJ K (k + rmy.cells) (n + rmy.slots) (pc + 3) lo (.int x :: st) w1) : jJ K k n pc lo (v5 :: v4 :: v3 :: v2 :: v1 :: st) ws :=
  j_callS C (As := [v1, v2, v3, v4, v5]) hM hG hown hn hroom hcells hst hd (fun r w1 hp => by obtain ⟨x, rfl, hp⟩ := hp; exact kk x w1 hp)
theorem j_callV0v (C : jC cc own Y rm nL K) {y : MethodName} {cy : ByteArray} {mL ix : Nat} {ret : Option FieldType} {rmy : Room} {a : Nat}  {P : va_W → Prop}
    (hM : MJ K.1.2.1 y cy mL ret rmy K.2.2.2.1 Y (.ref a :: []) ws (jV P)) (hG : GoodIn wG (wsV own ix y.cls y (Cond.code y cy mL ret :: wG)))
    (hn : (y.cls ≠ "java/lang/invoke/MethodHandle" ∧ y.cls ≠ "java/lang/invoke/VarHandle" ∧ (parseMethodDescriptor y.desc).map (fun d => d.parameters.length) = some 0))
    (ci q0 : Nat) {q : vw_C} {fs : List Value} (hc : vwCl[ci]? = some q) (hq : q.1 = y.cls) (he : ws[q0]? = some (a, .inr (ci, fs)))
    (hroom : rmy.frames + 1 ≤ rm.frames ∧ 8 + (mL + 11) + rmy.locals ≤ rm.locals) (hcells : k + rmy.cells ≤ rm.cells ∧ n + rmy.slots ≤ rm.slots)
    (hst : (st.map fun v => v.category).sum ≤ 8) (hd : decode cc pc = .ok (.invokevirtual ix, 3)) (kk : ∀ w1, P w1 → jJ K (k + rmy.cells) (n + rmy.slots) (pc + 3) lo st w1) : jJ K k n pc lo (.ref a :: st) ws :=
  j_callV C (As := []) hM hG hn hc hq he hroom hcells hst hd (fun r w1 hp => by obtain ⟨rfl, hp⟩ := hp; exact kk w1 hp)
theorem j_callS0v (C : jC cc own Y rm nL K) {y : MethodName} {cy : ByteArray} {mL ix : Nat} {ret : Option FieldType} {rmy : Room}  {P : va_W → Prop}
    (hM : MJ K.1.2.1 y cy mL ret rmy K.2.2.2.1 Y [] ws (jV P)) (hG : GoodIn wG (wsS own ix y (Cond.code y cy mL ret :: wG))) (hown : y.cls = own)
    (hn : (y.cls ≠ "java/lang/invoke/MethodHandle" ∧ y.cls ≠ "java/lang/invoke/VarHandle" ∧ (parseMethodDescriptor y.desc).map (fun d => d.parameters.length) = some 0))
    (hroom : rmy.frames + 1 ≤ rm.frames ∧ 8 + (mL + 11) + rmy.locals ≤ rm.locals) (hcells : k + rmy.cells ≤ rm.cells ∧ n + rmy.slots ≤ rm.slots)
    (hst : (st.map fun v => v.category).sum ≤ 8) (hd : decode cc pc = .ok (.invokestatic ix, 3)) (kk : ∀ w1, P w1 → jJ K (k + rmy.cells) (n + rmy.slots) (pc + 3) lo st w1) : jJ K k n pc lo (st) ws :=
  j_callS C (As := []) hM hG hown hn hroom hcells hst hd (fun r w1 hp => by obtain ⟨rfl, hp⟩ := hp; exact kk w1 hp)
theorem j_callV1v (C : jC cc own Y rm nL K) {y : MethodName} {cy : ByteArray} {mL ix : Nat} {ret : Option FieldType} {rmy : Room} {a : Nat} {v1 : Value} {P : va_W → Prop}
    (hM : MJ K.1.2.1 y cy mL ret rmy K.2.2.2.1 Y (.ref a :: [v1]) ws (jV P)) (hG : GoodIn wG (wsV own ix y.cls y (Cond.code y cy mL ret :: wG)))
    (hn : (y.cls ≠ "java/lang/invoke/MethodHandle" ∧ y.cls ≠ "java/lang/invoke/VarHandle" ∧ (parseMethodDescriptor y.desc).map (fun d => d.parameters.length) = some 1))
    (ci q0 : Nat) {q : vw_C} {fs : List Value} (hc : vwCl[ci]? = some q) (hq : q.1 = y.cls) (he : ws[q0]? = some (a, .inr (ci, fs)))
    (hroom : rmy.frames + 1 ≤ rm.frames ∧ 8 + (mL + 11) + rmy.locals ≤ rm.locals) (hcells : k + rmy.cells ≤ rm.cells ∧ n + rmy.slots ≤ rm.slots)
    (hst : (st.map fun v => v.category).sum ≤ 8) (hd : decode cc pc = .ok (.invokevirtual ix, 3)) (kk : ∀ w1, P w1 → jJ K (k + rmy.cells) (n + rmy.slots) (pc + 3) lo st w1) : jJ K k n pc lo (v1 :: .ref a :: st) ws :=
  j_callV C (As := [v1]) hM hG hn hc hq he hroom hcells hst hd (fun r w1 hp => by obtain ⟨rfl, hp⟩ := hp; exact kk w1 hp)
theorem j_callS1v (C : jC cc own Y rm nL K) {y : MethodName} {cy : ByteArray} {mL ix : Nat} {ret : Option FieldType} {rmy : Room} {v1 : Value} {P : va_W → Prop}
    (hM : MJ K.1.2.1 y cy mL ret rmy K.2.2.2.1 Y [v1] ws (jV P)) (hG : GoodIn wG (wsS own ix y (Cond.code y cy mL ret :: wG))) (hown : y.cls = own)
    (hn : (y.cls ≠ "java/lang/invoke/MethodHandle" ∧ y.cls ≠ "java/lang/invoke/VarHandle" ∧ (parseMethodDescriptor y.desc).map (fun d => d.parameters.length) = some 1))
    (hroom : rmy.frames + 1 ≤ rm.frames ∧ 8 + (mL + 11) + rmy.locals ≤ rm.locals) (hcells : k + rmy.cells ≤ rm.cells ∧ n + rmy.slots ≤ rm.slots)
    (hst : (st.map fun v => v.category).sum ≤ 8) (hd : decode cc pc = .ok (.invokestatic ix, 3)) (kk : ∀ w1, P w1 → jJ K (k + rmy.cells) (n + rmy.slots) (pc + 3) lo st w1) : jJ K k n pc lo (v1 :: st) ws :=
  j_callS C (As := [v1]) hM hG hown hn hroom hcells hst hd (fun r w1 hp => by obtain ⟨rfl, hp⟩ := hp; exact kk w1 hp)
theorem j_callV2v (C : jC cc own Y rm nL K) {y : MethodName} {cy : ByteArray} {mL ix : Nat} {ret : Option FieldType} {rmy : Room} {a : Nat} {v1 v2 : Value} {P : va_W → Prop}
    (hM : MJ K.1.2.1 y cy mL ret rmy K.2.2.2.1 Y (.ref a :: [v1, v2]) ws (jV P)) (hG : GoodIn wG (wsV own ix y.cls y (Cond.code y cy mL ret :: wG)))
    (hn : (y.cls ≠ "java/lang/invoke/MethodHandle" ∧ y.cls ≠ "java/lang/invoke/VarHandle" ∧ (parseMethodDescriptor y.desc).map (fun d => d.parameters.length) = some 2))
    (ci q0 : Nat) {q : vw_C} {fs : List Value} (hc : vwCl[ci]? = some q) (hq : q.1 = y.cls) (he : ws[q0]? = some (a, .inr (ci, fs)))
    (hroom : rmy.frames + 1 ≤ rm.frames ∧ 8 + (mL + 11) + rmy.locals ≤ rm.locals) (hcells : k + rmy.cells ≤ rm.cells ∧ n + rmy.slots ≤ rm.slots)
    (hst : (st.map fun v => v.category).sum ≤ 8) (hd : decode cc pc = .ok (.invokevirtual ix, 3)) (kk : ∀ w1, P w1 → jJ K (k + rmy.cells) (n + rmy.slots) (pc + 3) lo st w1) : jJ K k n pc lo (v2 :: v1 :: .ref a :: st) ws :=
  j_callV C (As := [v1, v2]) hM hG hn hc hq he hroom hcells hst hd (fun r w1 hp => by obtain ⟨rfl, hp⟩ := hp; exact kk w1 hp)
theorem j_callS2v (C : jC cc own Y rm nL K) {y : MethodName} {cy : ByteArray} {mL ix : Nat} {ret : Option FieldType} {rmy : Room} {v1 v2 : Value} {P : va_W → Prop}
    (hM : MJ K.1.2.1 y cy mL ret rmy K.2.2.2.1 Y [v1, v2] ws (jV P)) (hG : GoodIn wG (wsS own ix y (Cond.code y cy mL ret :: wG))) (hown : y.cls = own)
    (hn : (y.cls ≠ "java/lang/invoke/MethodHandle" ∧ y.cls ≠ "java/lang/invoke/VarHandle" ∧ (parseMethodDescriptor y.desc).map (fun d => d.parameters.length) = some 2))
    (hroom : rmy.frames + 1 ≤ rm.frames ∧ 8 + (mL + 11) + rmy.locals ≤ rm.locals) (hcells : k + rmy.cells ≤ rm.cells ∧ n + rmy.slots ≤ rm.slots)
    (hst : (st.map fun v => v.category).sum ≤ 8) (hd : decode cc pc = .ok (.invokestatic ix, 3)) (kk : ∀ w1, P w1 → jJ K (k + rmy.cells) (n + rmy.slots) (pc + 3) lo st w1) : jJ K k n pc lo (v2 :: v1 :: st) ws :=
  j_callS C (As := [v1, v2]) hM hG hown hn hroom hcells hst hd (fun r w1 hp => by obtain ⟨rfl, hp⟩ := hp; exact kk w1 hp)
theorem j_callV3v (C : jC cc own Y rm nL K) {y : MethodName} {cy : ByteArray} {mL ix : Nat} {ret : Option FieldType} {rmy : Room} {a : Nat} {v1 v2 v3 : Value} {P : va_W → Prop}
    (hM : MJ K.1.2.1 y cy mL ret rmy K.2.2.2.1 Y (.ref a :: [v1, v2, v3]) ws (jV P)) (hG : GoodIn wG (wsV own ix y.cls y (Cond.code y cy mL ret :: wG)))
    (hn : (y.cls ≠ "java/lang/invoke/MethodHandle" ∧ y.cls ≠ "java/lang/invoke/VarHandle" ∧ (parseMethodDescriptor y.desc).map (fun d => d.parameters.length) = some 3))
    (ci q0 : Nat) {q : vw_C} {fs : List Value} (hc : vwCl[ci]? = some q) (hq : q.1 = y.cls) (he : ws[q0]? = some (a, .inr (ci, fs)))
    (hroom : rmy.frames + 1 ≤ rm.frames ∧ 8 + (mL + 11) + rmy.locals ≤ rm.locals) (hcells : k + rmy.cells ≤ rm.cells ∧ n + rmy.slots ≤ rm.slots)
    (hst : (st.map fun v => v.category).sum ≤ 8) (hd : decode cc pc = .ok (.invokevirtual ix, 3)) (kk : ∀ w1, P w1 → jJ K (k + rmy.cells) (n + rmy.slots) (pc + 3) lo st w1) : jJ K k n pc lo (v3 :: v2 :: v1 :: .ref a :: st) ws :=
  j_callV C (As := [v1, v2, v3]) hM hG hn hc hq he hroom hcells hst hd (fun r w1 hp => by obtain ⟨rfl, hp⟩ := hp; exact kk w1 hp)
theorem j_callS3v (C : jC cc own Y rm nL K) {y : MethodName} {cy : ByteArray} {mL ix : Nat} {ret : Option FieldType} {rmy : Room} {v1 v2 v3 : Value} {P : va_W → Prop}
    (hM : MJ K.1.2.1 y cy mL ret rmy K.2.2.2.1 Y [v1, v2, v3] ws (jV P)) (hG : GoodIn wG (wsS own ix y (Cond.code y cy mL ret :: wG))) (hown : y.cls = own)
    (hn : (y.cls ≠ "java/lang/invoke/MethodHandle" ∧ y.cls ≠ "java/lang/invoke/VarHandle" ∧ (parseMethodDescriptor y.desc).map (fun d => d.parameters.length) = some 3))
    (hroom : rmy.frames + 1 ≤ rm.frames ∧ 8 + (mL + 11) + rmy.locals ≤ rm.locals) (hcells : k + rmy.cells ≤ rm.cells ∧ n + rmy.slots ≤ rm.slots)
    (hst : (st.map fun v => v.category).sum ≤ 8) (hd : decode cc pc = .ok (.invokestatic ix, 3)) (kk : ∀ w1, P w1 → jJ K (k + rmy.cells) (n + rmy.slots) (pc + 3) lo st w1) : jJ K k n pc lo (v3 :: v2 :: v1 :: st) ws :=
  j_callS C (As := [v1, v2, v3]) hM hG hown hn hroom hcells hst hd (fun r w1 hp => by obtain ⟨rfl, hp⟩ := hp; exact kk w1 hp)
theorem j_callV4v (C : jC cc own Y rm nL K) {y : MethodName} {cy : ByteArray} {mL ix : Nat} {ret : Option FieldType} {rmy : Room} {a : Nat} {v1 v2 v3 v4 : Value} {P : va_W → Prop}
    (hM : MJ K.1.2.1 y cy mL ret rmy K.2.2.2.1 Y (.ref a :: [v1, v2, v3, v4]) ws (jV P)) (hG : GoodIn wG (wsV own ix y.cls y (Cond.code y cy mL ret :: wG)))
    (hn : (y.cls ≠ "java/lang/invoke/MethodHandle" ∧ y.cls ≠ "java/lang/invoke/VarHandle" ∧ (parseMethodDescriptor y.desc).map (fun d => d.parameters.length) = some 4))
    (ci q0 : Nat) {q : vw_C} {fs : List Value} (hc : vwCl[ci]? = some q) (hq : q.1 = y.cls) (he : ws[q0]? = some (a, .inr (ci, fs)))
    (hroom : rmy.frames + 1 ≤ rm.frames ∧ 8 + (mL + 11) + rmy.locals ≤ rm.locals) (hcells : k + rmy.cells ≤ rm.cells ∧ n + rmy.slots ≤ rm.slots)
    (hst : (st.map fun v => v.category).sum ≤ 8) (hd : decode cc pc = .ok (.invokevirtual ix, 3)) (kk : ∀ w1, P w1 → jJ K (k + rmy.cells) (n + rmy.slots) (pc + 3) lo st w1) : jJ K k n pc lo (v4 :: v3 :: v2 :: v1 :: .ref a :: st) ws :=
  j_callV C (As := [v1, v2, v3, v4]) hM hG hn hc hq he hroom hcells hst hd (fun r w1 hp => by obtain ⟨rfl, hp⟩ := hp; exact kk w1 hp)
theorem j_callS4v (C : jC cc own Y rm nL K) {y : MethodName} {cy : ByteArray} {mL ix : Nat} {ret : Option FieldType} {rmy : Room} {v1 v2 v3 v4 : Value} {P : va_W → Prop}
    (hM : MJ K.1.2.1 y cy mL ret rmy K.2.2.2.1 Y [v1, v2, v3, v4] ws (jV P)) (hG : GoodIn wG (wsS own ix y (Cond.code y cy mL ret :: wG))) (hown : y.cls = own)
    (hn : (y.cls ≠ "java/lang/invoke/MethodHandle" ∧ y.cls ≠ "java/lang/invoke/VarHandle" ∧ (parseMethodDescriptor y.desc).map (fun d => d.parameters.length) = some 4))
    (hroom : rmy.frames + 1 ≤ rm.frames ∧ 8 + (mL + 11) + rmy.locals ≤ rm.locals) (hcells : k + rmy.cells ≤ rm.cells ∧ n + rmy.slots ≤ rm.slots)
    (hst : (st.map fun v => v.category).sum ≤ 8) (hd : decode cc pc = .ok (.invokestatic ix, 3)) (kk : ∀ w1, P w1 → jJ K (k + rmy.cells) (n + rmy.slots) (pc + 3) lo st w1) : jJ K k n pc lo (v4 :: v3 :: v2 :: v1 :: st) ws :=
  j_callS C (As := [v1, v2, v3, v4]) hM hG hown hn hroom hcells hst hd (fun r w1 hp => by obtain ⟨rfl, hp⟩ := hp; exact kk w1 hp)
theorem j_callV5v (C : jC cc own Y rm nL K) {y : MethodName} {cy : ByteArray} {mL ix : Nat} {ret : Option FieldType} {rmy : Room} {a : Nat} {v1 v2 v3 v4 v5 : Value} {P : va_W → Prop}
    (hM : MJ K.1.2.1 y cy mL ret rmy K.2.2.2.1 Y (.ref a :: [v1, v2, v3, v4, v5]) ws (jV P)) (hG : GoodIn wG (wsV own ix y.cls y (Cond.code y cy mL ret :: wG)))
    (hn : (y.cls ≠ "java/lang/invoke/MethodHandle" ∧ y.cls ≠ "java/lang/invoke/VarHandle" ∧ (parseMethodDescriptor y.desc).map (fun d => d.parameters.length) = some 5))
    (ci q0 : Nat) {q : vw_C} {fs : List Value} (hc : vwCl[ci]? = some q) (hq : q.1 = y.cls) (he : ws[q0]? = some (a, .inr (ci, fs)))
    (hroom : rmy.frames + 1 ≤ rm.frames ∧ 8 + (mL + 11) + rmy.locals ≤ rm.locals) (hcells : k + rmy.cells ≤ rm.cells ∧ n + rmy.slots ≤ rm.slots)
    (hst : (st.map fun v => v.category).sum ≤ 8) (hd : decode cc pc = .ok (.invokevirtual ix, 3)) (kk : ∀ w1, P w1 → jJ K (k + rmy.cells) (n + rmy.slots) (pc + 3) lo st w1) : jJ K k n pc lo (v5 :: v4 :: v3 :: v2 :: v1 :: .ref a :: st) ws :=
  j_callV C (As := [v1, v2, v3, v4, v5]) hM hG hn hc hq he hroom hcells hst hd (fun r w1 hp => by obtain ⟨rfl, hp⟩ := hp; exact kk w1 hp)
theorem j_callS5v (C : jC cc own Y rm nL K) {y : MethodName} {cy : ByteArray} {mL ix : Nat} {ret : Option FieldType} {rmy : Room} {v1 v2 v3 v4 v5 : Value} {P : va_W → Prop}
    (hM : MJ K.1.2.1 y cy mL ret rmy K.2.2.2.1 Y [v1, v2, v3, v4, v5] ws (jV P)) (hG : GoodIn wG (wsS own ix y (Cond.code y cy mL ret :: wG))) (hown : y.cls = own)
    (hn : (y.cls ≠ "java/lang/invoke/MethodHandle" ∧ y.cls ≠ "java/lang/invoke/VarHandle" ∧ (parseMethodDescriptor y.desc).map (fun d => d.parameters.length) = some 5))
    (hroom : rmy.frames + 1 ≤ rm.frames ∧ 8 + (mL + 11) + rmy.locals ≤ rm.locals) (hcells : k + rmy.cells ≤ rm.cells ∧ n + rmy.slots ≤ rm.slots)
    (hst : (st.map fun v => v.category).sum ≤ 8) (hd : decode cc pc = .ok (.invokestatic ix, 3)) (kk : ∀ w1, P w1 → jJ K (k + rmy.cells) (n + rmy.slots) (pc + 3) lo st w1) : jJ K k n pc lo (v5 :: v4 :: v3 :: v2 :: v1 :: st) ws :=
  j_callS C (As := [v1, v2, v3, v4, v5]) hM hG hown hn hroom hcells hst hd (fun r w1 hp => by obtain ⟨rfl, hp⟩ := hp; exact kk w1 hp)
theorem j_callV0a (C : jC cc own Y rm nL K) {y : MethodName} {cy : ByteArray} {mL ix : Nat} {ret : Option FieldType} {rmy : Room} {a : Nat}  {P : Nat → va_W → Prop}
    (hM : MJ K.1.2.1 y cy mL ret rmy K.2.2.2.1 Y (.ref a :: []) ws (jA P)) (hG : GoodIn wG (wsV own ix y.cls y (Cond.code y cy mL ret :: wG)))
    (hn : (y.cls ≠ "java/lang/invoke/MethodHandle" ∧ y.cls ≠ "java/lang/invoke/VarHandle" ∧ (parseMethodDescriptor y.desc).map (fun d => d.parameters.length) = some 0))
    (ci q0 : Nat) {q : vw_C} {fs : List Value} (hc : vwCl[ci]? = some q) (hq : q.1 = y.cls) (he : ws[q0]? = some (a, .inr (ci, fs)))
    (hroom : rmy.frames + 1 ≤ rm.frames ∧ 8 + (mL + 11) + rmy.locals ≤ rm.locals) (hcells : k + rmy.cells ≤ rm.cells ∧ n + rmy.slots ≤ rm.slots)
    (hst : (st.map fun v => v.category).sum ≤ 8) (hd : decode cc pc = .ok (.invokevirtual ix, 3)) (kk : ∀ (x : Nat) w1, P x w1 → jJ K (k + rmy.cells) (n + rmy.slots) (pc + 3) lo (.ref x :: st) w1) : jJ K k n pc lo (.ref a :: st) ws :=
  j_callV C (As := []) hM hG hn hc hq he hroom hcells hst hd (fun r w1 hp => by obtain ⟨x, rfl, hp⟩ := hp; exact kk x w1 hp)
theorem j_callS0a (C : jC cc own Y rm nL K) {y : MethodName} {cy : ByteArray} {mL ix : Nat} {ret : Option FieldType} {rmy : Room}  {P : Nat → va_W → Prop}
    (hM : MJ K.1.2.1 y cy mL ret rmy K.2.2.2.1 Y [] ws (jA P)) (hG : GoodIn wG (wsS own ix y (Cond.code y cy mL ret :: wG))) (hown : y.cls = own)
    (hn : (y.cls ≠ "java/lang/invoke/MethodHandle" ∧ y.cls ≠ "java/lang/invoke/VarHandle" ∧ (parseMethodDescriptor y.desc).map (fun d => d.parameters.length) = some 0))
    (hroom : rmy.frames + 1 ≤ rm.frames ∧ 8 + (mL + 11) + rmy.locals ≤ rm.locals) (hcells : k + rmy.cells ≤ rm.cells ∧ n + rmy.slots ≤ rm.slots)
    (hst : (st.map fun v => v.category).sum ≤ 8) (hd : decode cc pc = .ok (.invokestatic ix, 3)) (kk : ∀ (x : Nat) w1, P x w1 → jJ K (k + rmy.cells) (n + rmy.slots) (pc + 3) lo (.ref x :: st) w1) : jJ K k n pc lo (st) ws :=
  j_callS C (As := []) hM hG hown hn hroom hcells hst hd (fun r w1 hp => by obtain ⟨x, rfl, hp⟩ := hp; exact kk x w1 hp)
theorem j_callV1a (C : jC cc own Y rm nL K) {y : MethodName} {cy : ByteArray} {mL ix : Nat} {ret : Option FieldType} {rmy : Room} {a : Nat} {v1 : Value} {P : Nat → va_W → Prop}
    (hM : MJ K.1.2.1 y cy mL ret rmy K.2.2.2.1 Y (.ref a :: [v1]) ws (jA P)) (hG : GoodIn wG (wsV own ix y.cls y (Cond.code y cy mL ret :: wG)))
    (hn : (y.cls ≠ "java/lang/invoke/MethodHandle" ∧ y.cls ≠ "java/lang/invoke/VarHandle" ∧ (parseMethodDescriptor y.desc).map (fun d => d.parameters.length) = some 1))
    (ci q0 : Nat) {q : vw_C} {fs : List Value} (hc : vwCl[ci]? = some q) (hq : q.1 = y.cls) (he : ws[q0]? = some (a, .inr (ci, fs)))
    (hroom : rmy.frames + 1 ≤ rm.frames ∧ 8 + (mL + 11) + rmy.locals ≤ rm.locals) (hcells : k + rmy.cells ≤ rm.cells ∧ n + rmy.slots ≤ rm.slots)
    (hst : (st.map fun v => v.category).sum ≤ 8) (hd : decode cc pc = .ok (.invokevirtual ix, 3)) (kk : ∀ (x : Nat) w1, P x w1 → jJ K (k + rmy.cells) (n + rmy.slots) (pc + 3) lo (.ref x :: st) w1) : jJ K k n pc lo (v1 :: .ref a :: st) ws :=
  j_callV C (As := [v1]) hM hG hn hc hq he hroom hcells hst hd (fun r w1 hp => by obtain ⟨x, rfl, hp⟩ := hp; exact kk x w1 hp)
theorem j_callS1a (C : jC cc own Y rm nL K) {y : MethodName} {cy : ByteArray} {mL ix : Nat} {ret : Option FieldType} {rmy : Room} {v1 : Value} {P : Nat → va_W → Prop}
    (hM : MJ K.1.2.1 y cy mL ret rmy K.2.2.2.1 Y [v1] ws (jA P)) (hG : GoodIn wG (wsS own ix y (Cond.code y cy mL ret :: wG))) (hown : y.cls = own)
    (hn : (y.cls ≠ "java/lang/invoke/MethodHandle" ∧ y.cls ≠ "java/lang/invoke/VarHandle" ∧ (parseMethodDescriptor y.desc).map (fun d => d.parameters.length) = some 1))
    (hroom : rmy.frames + 1 ≤ rm.frames ∧ 8 + (mL + 11) + rmy.locals ≤ rm.locals) (hcells : k + rmy.cells ≤ rm.cells ∧ n + rmy.slots ≤ rm.slots)
    (hst : (st.map fun v => v.category).sum ≤ 8) (hd : decode cc pc = .ok (.invokestatic ix, 3)) (kk : ∀ (x : Nat) w1, P x w1 → jJ K (k + rmy.cells) (n + rmy.slots) (pc + 3) lo (.ref x :: st) w1) : jJ K k n pc lo (v1 :: st) ws :=
  j_callS C (As := [v1]) hM hG hown hn hroom hcells hst hd (fun r w1 hp => by obtain ⟨x, rfl, hp⟩ := hp; exact kk x w1 hp)
theorem j_callV2a (C : jC cc own Y rm nL K) {y : MethodName} {cy : ByteArray} {mL ix : Nat} {ret : Option FieldType} {rmy : Room} {a : Nat} {v1 v2 : Value} {P : Nat → va_W → Prop}
    (hM : MJ K.1.2.1 y cy mL ret rmy K.2.2.2.1 Y (.ref a :: [v1, v2]) ws (jA P)) (hG : GoodIn wG (wsV own ix y.cls y (Cond.code y cy mL ret :: wG)))
    (hn : (y.cls ≠ "java/lang/invoke/MethodHandle" ∧ y.cls ≠ "java/lang/invoke/VarHandle" ∧ (parseMethodDescriptor y.desc).map (fun d => d.parameters.length) = some 2))
    (ci q0 : Nat) {q : vw_C} {fs : List Value} (hc : vwCl[ci]? = some q) (hq : q.1 = y.cls) (he : ws[q0]? = some (a, .inr (ci, fs)))
    (hroom : rmy.frames + 1 ≤ rm.frames ∧ 8 + (mL + 11) + rmy.locals ≤ rm.locals) (hcells : k + rmy.cells ≤ rm.cells ∧ n + rmy.slots ≤ rm.slots)
    (hst : (st.map fun v => v.category).sum ≤ 8) (hd : decode cc pc = .ok (.invokevirtual ix, 3)) (kk : ∀ (x : Nat) w1, P x w1 → jJ K (k + rmy.cells) (n + rmy.slots) (pc + 3) lo (.ref x :: st) w1) : jJ K k n pc lo (v2 :: v1 :: .ref a :: st) ws :=
  j_callV C (As := [v1, v2]) hM hG hn hc hq he hroom hcells hst hd (fun r w1 hp => by obtain ⟨x, rfl, hp⟩ := hp; exact kk x w1 hp)
theorem j_callS2a (C : jC cc own Y rm nL K) {y : MethodName} {cy : ByteArray} {mL ix : Nat} {ret : Option FieldType} {rmy : Room} {v1 v2 : Value} {P : Nat → va_W → Prop}
    (hM : MJ K.1.2.1 y cy mL ret rmy K.2.2.2.1 Y [v1, v2] ws (jA P)) (hG : GoodIn wG (wsS own ix y (Cond.code y cy mL ret :: wG))) (hown : y.cls = own)
    (hn : (y.cls ≠ "java/lang/invoke/MethodHandle" ∧ y.cls ≠ "java/lang/invoke/VarHandle" ∧ (parseMethodDescriptor y.desc).map (fun d => d.parameters.length) = some 2))
    (hroom : rmy.frames + 1 ≤ rm.frames ∧ 8 + (mL + 11) + rmy.locals ≤ rm.locals) (hcells : k + rmy.cells ≤ rm.cells ∧ n + rmy.slots ≤ rm.slots)
    (hst : (st.map fun v => v.category).sum ≤ 8) (hd : decode cc pc = .ok (.invokestatic ix, 3)) (kk : ∀ (x : Nat) w1, P x w1 → jJ K (k + rmy.cells) (n + rmy.slots) (pc + 3) lo (.ref x :: st) w1) : jJ K k n pc lo (v2 :: v1 :: st) ws :=
  j_callS C (As := [v1, v2]) hM hG hown hn hroom hcells hst hd (fun r w1 hp => by obtain ⟨x, rfl, hp⟩ := hp; exact kk x w1 hp)
theorem j_callV3a (C : jC cc own Y rm nL K) {y : MethodName} {cy : ByteArray} {mL ix : Nat} {ret : Option FieldType} {rmy : Room} {a : Nat} {v1 v2 v3 : Value} {P : Nat → va_W → Prop}
    (hM : MJ K.1.2.1 y cy mL ret rmy K.2.2.2.1 Y (.ref a :: [v1, v2, v3]) ws (jA P)) (hG : GoodIn wG (wsV own ix y.cls y (Cond.code y cy mL ret :: wG)))
    (hn : (y.cls ≠ "java/lang/invoke/MethodHandle" ∧ y.cls ≠ "java/lang/invoke/VarHandle" ∧ (parseMethodDescriptor y.desc).map (fun d => d.parameters.length) = some 3))
    (ci q0 : Nat) {q : vw_C} {fs : List Value} (hc : vwCl[ci]? = some q) (hq : q.1 = y.cls) (he : ws[q0]? = some (a, .inr (ci, fs)))
    (hroom : rmy.frames + 1 ≤ rm.frames ∧ 8 + (mL + 11) + rmy.locals ≤ rm.locals) (hcells : k + rmy.cells ≤ rm.cells ∧ n + rmy.slots ≤ rm.slots)
    (hst : (st.map fun v => v.category).sum ≤ 8) (hd : decode cc pc = .ok (.invokevirtual ix, 3)) (kk : ∀ (x : Nat) w1, P x w1 → jJ K (k + rmy.cells) (n + rmy.slots) (pc + 3) lo (.ref x :: st) w1) : jJ K k n pc lo (v3 :: v2 :: v1 :: .ref a :: st) ws :=
  j_callV C (As := [v1, v2, v3]) hM hG hn hc hq he hroom hcells hst hd (fun r w1 hp => by obtain ⟨x, rfl, hp⟩ := hp; exact kk x w1 hp)
theorem j_callS3a (C : jC cc own Y rm nL K) {y : MethodName} {cy : ByteArray} {mL ix : Nat} {ret : Option FieldType} {rmy : Room} {v1 v2 v3 : Value} {P : Nat → va_W → Prop}
    (hM : MJ K.1.2.1 y cy mL ret rmy K.2.2.2.1 Y [v1, v2, v3] ws (jA P)) (hG : GoodIn wG (wsS own ix y (Cond.code y cy mL ret :: wG))) (hown : y.cls = own)
    (hn : (y.cls ≠ "java/lang/invoke/MethodHandle" ∧ y.cls ≠ "java/lang/invoke/VarHandle" ∧ (parseMethodDescriptor y.desc).map (fun d => d.parameters.length) = some 3))
    (hroom : rmy.frames + 1 ≤ rm.frames ∧ 8 + (mL + 11) + rmy.locals ≤ rm.locals) (hcells : k + rmy.cells ≤ rm.cells ∧ n + rmy.slots ≤ rm.slots)
    (hst : (st.map fun v => v.category).sum ≤ 8) (hd : decode cc pc = .ok (.invokestatic ix, 3)) (kk : ∀ (x : Nat) w1, P x w1 → jJ K (k + rmy.cells) (n + rmy.slots) (pc + 3) lo (.ref x :: st) w1) : jJ K k n pc lo (v3 :: v2 :: v1 :: st) ws :=
  j_callS C (As := [v1, v2, v3]) hM hG hown hn hroom hcells hst hd (fun r w1 hp => by obtain ⟨x, rfl, hp⟩ := hp; exact kk x w1 hp)
theorem j_callV4a (C : jC cc own Y rm nL K) {y : MethodName} {cy : ByteArray} {mL ix : Nat} {ret : Option FieldType} {rmy : Room} {a : Nat} {v1 v2 v3 v4 : Value} {P : Nat → va_W → Prop}
    (hM : MJ K.1.2.1 y cy mL ret rmy K.2.2.2.1 Y (.ref a :: [v1, v2, v3, v4]) ws (jA P)) (hG : GoodIn wG (wsV own ix y.cls y (Cond.code y cy mL ret :: wG)))
    (hn : (y.cls ≠ "java/lang/invoke/MethodHandle" ∧ y.cls ≠ "java/lang/invoke/VarHandle" ∧ (parseMethodDescriptor y.desc).map (fun d => d.parameters.length) = some 4))
    (ci q0 : Nat) {q : vw_C} {fs : List Value} (hc : vwCl[ci]? = some q) (hq : q.1 = y.cls) (he : ws[q0]? = some (a, .inr (ci, fs)))
    (hroom : rmy.frames + 1 ≤ rm.frames ∧ 8 + (mL + 11) + rmy.locals ≤ rm.locals) (hcells : k + rmy.cells ≤ rm.cells ∧ n + rmy.slots ≤ rm.slots)
    (hst : (st.map fun v => v.category).sum ≤ 8) (hd : decode cc pc = .ok (.invokevirtual ix, 3)) (kk : ∀ (x : Nat) w1, P x w1 → jJ K (k + rmy.cells) (n + rmy.slots) (pc + 3) lo (.ref x :: st) w1) : jJ K k n pc lo (v4 :: v3 :: v2 :: v1 :: .ref a :: st) ws :=
  j_callV C (As := [v1, v2, v3, v4]) hM hG hn hc hq he hroom hcells hst hd (fun r w1 hp => by obtain ⟨x, rfl, hp⟩ := hp; exact kk x w1 hp)
theorem j_callS4a (C : jC cc own Y rm nL K) {y : MethodName} {cy : ByteArray} {mL ix : Nat} {ret : Option FieldType} {rmy : Room} {v1 v2 v3 v4 : Value} {P : Nat → va_W → Prop}
    (hM : MJ K.1.2.1 y cy mL ret rmy K.2.2.2.1 Y [v1, v2, v3, v4] ws (jA P)) (hG : GoodIn wG (wsS own ix y (Cond.code y cy mL ret :: wG))) (hown : y.cls = own)
    (hn : (y.cls ≠ "java/lang/invoke/MethodHandle" ∧ y.cls ≠ "java/lang/invoke/VarHandle" ∧ (parseMethodDescriptor y.desc).map (fun d => d.parameters.length) = some 4))
    (hroom : rmy.frames + 1 ≤ rm.frames ∧ 8 + (mL + 11) + rmy.locals ≤ rm.locals) (hcells : k + rmy.cells ≤ rm.cells ∧ n + rmy.slots ≤ rm.slots)
    (hst : (st.map fun v => v.category).sum ≤ 8) (hd : decode cc pc = .ok (.invokestatic ix, 3)) (kk : ∀ (x : Nat) w1, P x w1 → jJ K (k + rmy.cells) (n + rmy.slots) (pc + 3) lo (.ref x :: st) w1) : jJ K k n pc lo (v4 :: v3 :: v2 :: v1 :: st) ws :=
  j_callS C (As := [v1, v2, v3, v4]) hM hG hown hn hroom hcells hst hd (fun r w1 hp => by obtain ⟨x, rfl, hp⟩ := hp; exact kk x w1 hp)
theorem j_callV5a (C : jC cc own Y rm nL K) {y : MethodName} {cy : ByteArray} {mL ix : Nat} {ret : Option FieldType} {rmy : Room} {a : Nat} {v1 v2 v3 v4 v5 : Value} {P : Nat → va_W → Prop}
    (hM : MJ K.1.2.1 y cy mL ret rmy K.2.2.2.1 Y (.ref a :: [v1, v2, v3, v4, v5]) ws (jA P)) (hG : GoodIn wG (wsV own ix y.cls y (Cond.code y cy mL ret :: wG)))
    (hn : (y.cls ≠ "java/lang/invoke/MethodHandle" ∧ y.cls ≠ "java/lang/invoke/VarHandle" ∧ (parseMethodDescriptor y.desc).map (fun d => d.parameters.length) = some 5))
    (ci q0 : Nat) {q : vw_C} {fs : List Value} (hc : vwCl[ci]? = some q) (hq : q.1 = y.cls) (he : ws[q0]? = some (a, .inr (ci, fs)))
    (hroom : rmy.frames + 1 ≤ rm.frames ∧ 8 + (mL + 11) + rmy.locals ≤ rm.locals) (hcells : k + rmy.cells ≤ rm.cells ∧ n + rmy.slots ≤ rm.slots)
    (hst : (st.map fun v => v.category).sum ≤ 8) (hd : decode cc pc = .ok (.invokevirtual ix, 3)) (kk : ∀ (x : Nat) w1, P x w1 → jJ K (k + rmy.cells) (n + rmy.slots) (pc + 3) lo (.ref x :: st) w1) : jJ K k n pc lo (v5 :: v4 :: v3 :: v2 :: v1 :: .ref a :: st) ws :=
  j_callV C (As := [v1, v2, v3, v4, v5]) hM hG hn hc hq he hroom hcells hst hd (fun r w1 hp => by obtain ⟨x, rfl, hp⟩ := hp; exact kk x w1 hp)
theorem j_callS5a (C : jC cc own Y rm nL K) {y : MethodName} {cy : ByteArray} {mL ix : Nat} {ret : Option FieldType} {rmy : Room} {v1 v2 v3 v4 v5 : Value} {P : Nat → va_W → Prop}
    (hM : MJ K.1.2.1 y cy mL ret rmy K.2.2.2.1 Y [v1, v2, v3, v4, v5] ws (jA P)) (hG : GoodIn wG (wsS own ix y (Cond.code y cy mL ret :: wG))) (hown : y.cls = own)
    (hn : (y.cls ≠ "java/lang/invoke/MethodHandle" ∧ y.cls ≠ "java/lang/invoke/VarHandle" ∧ (parseMethodDescriptor y.desc).map (fun d => d.parameters.length) = some 5))
    (hroom : rmy.frames + 1 ≤ rm.frames ∧ 8 + (mL + 11) + rmy.locals ≤ rm.locals) (hcells : k + rmy.cells ≤ rm.cells ∧ n + rmy.slots ≤ rm.slots)
    (hst : (st.map fun v => v.category).sum ≤ 8) (hd : decode cc pc = .ok (.invokestatic ix, 3)) (kk : ∀ (x : Nat) w1, P x w1 → jJ K (k + rmy.cells) (n + rmy.slots) (pc + 3) lo (.ref x :: st) w1) : jJ K k n pc lo (v5 :: v4 :: v3 :: v2 :: v1 :: st) ws :=
  j_callS C (As := [v1, v2, v3, v4, v5]) hM hG hown hn hroom hcells hst hd (fun r w1 hp => by obtain ⟨x, rfl, hp⟩ := hp; exact kk x w1 hp)
end JR
