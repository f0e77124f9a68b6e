section JT
variable {K : jk_T} {cc : ByteArray} {Y : jy_T} {rm : Room} {nL k n pc : Nat} {lo : List (Option Value)} {st : List Value} {ws : va_W}
theorem j_thr1 (C : jC cc RX0 Y rm nL K) (X : jX K) {mc ms : Nat} {Pst : jp_T} {Pex : String → va_W → Prop} (T : jT Y mc ms Pst Pex K) {ik is j : Nat} {text : String} (hk : Cond.classLink RX0 ik "java/lang/IllegalArgumentException" ∈ wG) (hstr : xS[j]? = some (is, text))
    (d0 : decode cc pc = .ok (.new ik, 3)) (d3 : decode cc (pc + 3) = .ok (.dup, 1)) (d4 : decode cc (pc + 4) = .ok (.ldc is, 2)) (d6 : decode cc (pc + 6) = .ok (.invokespecial 50, 3)) (d9 : decode cc (pc + 9) = .ok (.athrow, 1))
    (hf : 5 < rm.frames) (hlo : 82 ≤ rm.locals) (hk1 : k + 1 ≤ rm.cells) (hn1 : n + 6 ≤ rm.slots) (hk2 : k + 1 ≤ mc) (hn2 : n + 6 ≤ ms) (hp : Pex xIAE ws) : jJ K k n pc lo [] ws :=
  j_throw C X T hk wd_in_java_lang_IllegalArgumentException (List.mem_of_getElem? hstr) (fun w h => List.mem_append_left _ h) (by decide) d0 d3 d4 d6 d9 hf (by show 0 + 82 ≤ _; omega) hk1 hn1 hk2 hn2 hp
theorem j_thr2 (C : jC cc RX0 Y rm nL K) (X : jX K) {mc ms : Nat} {Pst : jp_T} {Pex : String → va_W → Prop} (T : jT Y mc ms Pst Pex K) {ik is j : Nat} {text : String} (hk : Cond.classLink RX0 ik "java/lang/IndexOutOfBoundsException" ∈ wG) (hstr : xS[j]? = some (is, text))
    (d0 : decode cc pc = .ok (.new ik, 3)) (d3 : decode cc (pc + 3) = .ok (.dup, 1)) (d4 : decode cc (pc + 4) = .ok (.ldc is, 2)) (d6 : decode cc (pc + 6) = .ok (.invokespecial 68, 3)) (d9 : decode cc (pc + 9) = .ok (.athrow, 1))
    (hf : 5 < rm.frames) (hlo : 82 ≤ rm.locals) (hk1 : k + 1 ≤ rm.cells) (hn1 : n + 6 ≤ rm.slots) (hk2 : k + 1 ≤ mc) (hn2 : n + 6 ≤ ms) (hp : Pex xIOO ws) : jJ K k n pc lo [] ws :=
  j_throw C X T hk wd_in_java_lang_IndexOutOfBoundsException (List.mem_of_getElem? hstr) (fun w h => List.mem_append_right _ (List.mem_append_left _ h)) (by decide) d0 d3 d4 d6 d9 hf (by show 0 + 82 ≤ _; omega) hk1 hn1 hk2 hn2 hp
theorem j_thr3 (C : jC cc RX0 Y rm nL K) (X : jX K) {mc ms : Nat} {Pst : jp_T} {Pex : String → va_W → Prop} (T : jT Y mc ms Pst Pex K) {ik is j : Nat} {text : String} (hk : Cond.classLink RX0 ik "java/lang/IllegalStateException" ∈ wG) (hstr : xS[j]? = some (is, text))
    (d0 : decode cc pc = .ok (.new ik, 3)) (d3 : decode cc (pc + 3) = .ok (.dup, 1)) (d4 : decode cc (pc + 4) = .ok (.ldc is, 2)) (d6 : decode cc (pc + 6) = .ok (.invokespecial 76, 3)) (d9 : decode cc (pc + 9) = .ok (.athrow, 1))
    (hf : 5 < rm.frames) (hlo : 82 ≤ rm.locals) (hk1 : k + 1 ≤ rm.cells) (hn1 : n + 6 ≤ rm.slots) (hk2 : k + 1 ≤ mc) (hn2 : n + 6 ≤ ms) (hp : Pex xISE ws) : jJ K k n pc lo [] ws :=
  j_throw C X T hk wd_in_java_lang_IllegalStateException (List.mem_of_getElem? hstr) (fun w h => List.mem_append_right _ (List.mem_append_right _ h)) (by decide) d0 d3 d4 d6 d9 hf (by show 0 + 82 ≤ _; omega) hk1 hn1 hk2 hn2 hp
end JT
/-- between two numbers -/
def rg (x : Int32) (lo hi : Nat) : Bool := decide ((lo : Int) ≤ x.toInt ∧ x.toInt ≤ hi)
theorem rg_f1 {x : Int32} {lo hi : Nat} (h0 : lo < 2 ^ 31) (h : x < nI lo) : rg x lo hi = false := by
  rw [i32_lt, nI_toInt h0] at h; exact decide_eq_false (by omega)
theorem rg_f2 {x : Int32} {lo hi : Nat} (h0 : hi < 2 ^ 31) (h : nI hi < x) : rg x lo hi = false := by
  rw [i32_lt, nI_toInt h0] at h; exact decide_eq_false (by omega)
theorem rg_f3 {x : Int32} {lo hi : Nat} (h0 : hi < 2 ^ 31) (h : ¬ x ≤ nI hi) : rg x lo hi = false := by
  rw [i32_le, nI_toInt h0] at h; exact decide_eq_false (by omega)
theorem rg_of {x : Int32} {lo hi : Nat} (h0 : hi < 2 ^ 31) (h : rg x lo hi = true) : ∃ j, lo ≤ j ∧ j ≤ hi ∧ x = nI j := by
  have h := of_decide_eq_true h
  refine ⟨x.toInt.toNat, by omega, by omega, i32_eq ?_⟩
  rw [nI_toInt (by omega)]; omega
theorem rg_t {x : Int32} {lo hi : Nat} (h0 : lo < 2 ^ 31) (h1 : hi < 2 ^ 31) (h : ¬ x < nI lo) (h2 : x ≤ nI hi) : rg x lo hi = true := by
  rw [i32_lt, nI_toInt h0] at h
  rw [i32_le, nI_toInt h1] at h2
  exact decide_eq_true ⟨by omega, by omega⟩
theorem i32_nlt {a b : Int32} (h : ¬ a < b) : b ≤ a := by rw [i32_lt] at h; rw [i32_le]; omega
theorem upd_nI {f : Nat → Nat} {j x : Nat} : upd (fun k => nI (f k)) j (nI x) = fun k => nI (updN f j x k) := by
  funext k
  by_cases e : k = j
  · rw [e, pk_us, updN_s]
  · rw [pk_un e, updN_n e]
theorem upd_bi {f : Nat → Bool} {j : Nat} {x : Bool} : upd (fun k => bi (f k)) j (bi x) = fun k => bi (va_up f j x k) := by
  funext k
  by_cases e : k = j
  · rw [e, pk_us, up_s]
  · rw [pk_un e, up_n e]
theorem nI_bi {j : Nat} (h : j ≤ 1) : ∃ c : Bool, nI j = bi c := by
  rcases (show j = 0 ∨ j = 1 by omega) with rfl | rfl
  · exact ⟨false, rfl⟩
  · exact ⟨true, rfl⟩
abbrev rm_X0_pegOf : Room := { frames := 6, cells := 1, slots := 6, locals := 82 }
set_option maxHeartbeats 4000000 in
set_option maxRecDepth 100000 in
theorem ct_X0_pegOf {l : Launch} {D : va_G} {Y : jy_T} {ad : Nat → Nat} {P N a b mv0 : Nat} {ru me : Bool} {cb al : Nat → Bool} {tr : Nat → Nat} {to fa se qu sp : Nat → Int32}{x : Int32} (hc : cfg P N) (ha : a < P ^ N) (hb : b < P ^ N) (hl : l.stackTraces = false) :
    MX l yX0_pegOf cX0_pegOf 2 (some .int) rm_X0_pegOf D Y [.ref (ad 0), .int x] (wA Y ad (nI P) (nI N) (bi ru) (nI a) (nI b) (nI mv0) (bi me) (fun d => nI (P ^ d)) (fun d => bi (cb d)) (fun k => bi (al k)) (fun k => nI (tr k)) to fa se qu sp) (jI (fun r w => ∃ d, x = nI d ∧ d < N ∧ r = nI (dg P a d) ∧ w = (wA Y ad (nI P) (nI N) (bi ru) (nI a) (nI b) (nI mv0) (bi me) (fun d => nI (P ^ d)) (fun d => bi (cb d)) (fun k => bi (al k)) (fun k => nI (tr k)) to fa se qu sp))) (fun E w => E = xIOO ∧ inr x N = false ∧ w = (wA Y ad (nI P) (nI N) (bi ru) (nI a) (nI b) (nI mv0) (bi me) (fun d => nI (P ^ d)) (fun d => bi (cb d)) (fun k => bi (al k)) (fun k => nI (tr k)) to fa se qu sp)) := by
  refine j_enterX hl (by decide) (Nat.le_of_ble_eq_true rfl) (fun v hv => by simp only [List.mem_cons, List.not_mem_nil, or_false] at hv; rcases hv with rfl | rfl <;> rfl) (fun K hl2 hD C R X T => ?_)
  subst hl2; subst hD
  have C : jC cX0_pegOf RX0 Y rm_X0_pegOf 2 K := C
  have R : jR Y (some .int) 1 6 (jI (fun r w => ∃ d, x = nI d ∧ d < N ∧ r = nI (dg P a d) ∧ w = (wA Y ad (nI P) (nI N) (bi ru) (nI a) (nI b) (nI mv0) (bi me) (fun d => nI (P ^ d)) (fun d => bi (cb d)) (fun k => bi (al k)) (fun k => nI (tr k)) to fa se qu sp))) K := R
  have T : jT Y 1 6 (jI (fun r w => ∃ d, x = nI d ∧ d < N ∧ r = nI (dg P a d) ∧ w = (wA Y ad (nI P) (nI N) (bi ru) (nI a) (nI b) (nI mv0) (bi me) (fun d => nI (P ^ d)) (fun d => bi (cb d)) (fun k => bi (al k)) (fun k => nI (tr k)) to fa se qu sp))) (fun E w => E = xIOO ∧ inr x N = false ∧ w = (wA Y ad (nI P) (nI N) (bi ru) (nI a) (nI b) (nI mv0) (bi me) (fun d => nI (P ^ d)) (fun d => bi (cb d)) (fun k => bi (al k)) (fun k => nI (tr k)) to fa se qu sp)) K := T
  refine j_eq (lo' := [some (.ref (ad 0)), some (.int x)]) rfl rfl rfl ?_
  obtain ⟨hP3, hP5, hN1, hN6⟩ := id hc
  have hP0 : 0 < P := by omega
  have hp2 : P ^ N ≤ 15625 := cfg_pw hc (by omega)
  refine j_aload_n C dX0_pegOf_0 rfl ?_
  refine j_iload_n C dX0_pegOf_1 rfl ?_
  refine j_callV1i C (ct_X0_isDisk (by omega)) gw_0_57 nd_X0_isDisk 0 0 rfl rfl rfl ⟨by decide, by decide⟩ ⟨Nat.le_of_ble_eq_true rfl, Nat.le_of_ble_eq_true rfl⟩ (Nat.le_of_ble_eq_true rfl) dX0_pegOf_2 (fun x_1 w_1 hp => ?_)
  obtain ⟨rfl, rfl⟩ := hp
  refine jB_if_ne C 18 dX0_pegOf_5 (by decide) (fun c_5 => ?_) (fun c_5 => ?_)
  · obtain ⟨d, hd, rfl⟩ := inr_of c_5 (by omega)
    refine j_aload_n C dX0_pegOf_18 rfl ?_
    refine j_aload_n C dX0_pegOf_19 rfl ?_
    refine g0_now C dX0_pegOf_20 ?_
    refine j_iload_n C dX0_pegOf_23 rfl ?_
    refine j_callV2i C (ct_X0_pegIn hc (by omega) (by omega)) gw_0_80 nd_X0_pegIn 0 0 rfl rfl rfl ⟨by decide, by decide⟩ ⟨Nat.le_of_ble_eq_true rfl, Nat.le_of_ble_eq_true rfl⟩ (Nat.le_of_ble_eq_true rfl) dX0_pegOf_24 (fun x_1 w_1 hp => ?_)
    obtain ⟨rfl, rfl⟩ := hp
    refine j_widen (Nat.zero_le 1) (Nat.zero_le 6) ?_
    exact j_reti C R dX0_pegOf_27 ⟨d, rfl, hd, rfl, rfl⟩
  · exact j_thr2 C X T wd_cl0_64 (is := 98) (j := 5) rfl dX0_pegOf_8 dX0_pegOf_11 dX0_pegOf_12 dX0_pegOf_14 dX0_pegOf_17 (by decide) (by decide) (by decide) (by decide) (by decide) (by decide) ⟨rfl, c_5, rfl⟩
abbrev rm_X0_top : Room := { frames := 6, cells := 1, slots := 6, locals := 82 }
set_option maxHeartbeats 4000000 in
set_option maxRecDepth 100000 in
theorem ct_X0_top {l : Launch} {D : va_G} {Y : jy_T} {ad : Nat → Nat} {P N a b mv0 : Nat} {ru me : Bool} {cb al : Nat → Bool} {tr : Nat → Nat} {to fa se qu sp : Nat → Int32}{x : Int32} (hc : cfg P N) (ha : a < P ^ N) (hb : b < P ^ N) (hl : l.stackTraces = false) :
    MX l yX0_top cX0_top 2 (some .int) rm_X0_top D Y [.ref (ad 0), .int x] (wA Y ad (nI P) (nI N) (bi ru) (nI a) (nI b) (nI mv0) (bi me) (fun d => nI (P ^ d)) (fun d => bi (cb d)) (fun k => bi (al k)) (fun k => nI (tr k)) to fa se qu sp) (jI (fun r w => ∃ g to1, x = nI g ∧ g < P ∧ r = oI (tp P N a g) ∧ w = (wA Y ad (nI P) (nI N) (bi ru) (nI a) (nI b) (nI mv0) (bi me) (fun d => nI (P ^ d)) (fun d => bi (cb d)) (fun k => bi (al k)) (fun k => nI (tr k)) to1 fa se qu sp))) (fun E w => E = xIOO ∧ inr x P = false ∧ w = (wA Y ad (nI P) (nI N) (bi ru) (nI a) (nI b) (nI mv0) (bi me) (fun d => nI (P ^ d)) (fun d => bi (cb d)) (fun k => bi (al k)) (fun k => nI (tr k)) to fa se qu sp)) := by
  refine j_enterX hl (by decide) (Nat.le_of_ble_eq_true rfl) (fun v hv => by simp only [List.mem_cons, List.not_mem_nil, or_false] at hv; rcases hv with rfl | rfl <;> rfl) (fun K hl2 hD C R X T => ?_)
  subst hl2; subst hD
  have C : jC cX0_top RX0 Y rm_X0_top 2 K := C
  have R : jR Y (some .int) 1 6 (jI (fun r w => ∃ g to1, x = nI g ∧ g < P ∧ r = oI (tp P N a g) ∧ w = (wA Y ad (nI P) (nI N) (bi ru) (nI a) (nI b) (nI mv0) (bi me) (fun d => nI (P ^ d)) (fun d => bi (cb d)) (fun k => bi (al k)) (fun k => nI (tr k)) to1 fa se qu sp))) K := R
  have T : jT Y 1 6 (jI (fun r w => ∃ g to1, x = nI g ∧ g < P ∧ r = oI (tp P N a g) ∧ w = (wA Y ad (nI P) (nI N) (bi ru) (nI a) (nI b) (nI mv0) (bi me) (fun d => nI (P ^ d)) (fun d => bi (cb d)) (fun k => bi (al k)) (fun k => nI (tr k)) to1 fa se qu sp))) (fun E w => E = xIOO ∧ inr x P = false ∧ w = (wA Y ad (nI P) (nI N) (bi ru) (nI a) (nI b) (nI mv0) (bi me) (fun d => nI (P ^ d)) (fun d => bi (cb d)) (fun k => bi (al k)) (fun k => nI (tr k)) to fa se qu sp)) K := T
  refine j_eq (lo' := [some (.ref (ad 0)), some (.int x)]) rfl rfl rfl ?_
  obtain ⟨hP3, hP5, hN1, hN6⟩ := id hc
  have hP0 : 0 < P := by omega
  have hp2 : P ^ N ≤ 15625 := cfg_pw hc (by omega)
  refine j_aload_n C dX0_top_0 rfl ?_
  refine j_iload_n C dX0_top_1 rfl ?_
  refine j_callV1i C (ct_X0_isPeg (by omega)) gw_0_61 nd_X0_isPeg 0 0 rfl rfl rfl ⟨by decide, by decide⟩ ⟨Nat.le_of_ble_eq_true rfl, Nat.le_of_ble_eq_true rfl⟩ (Nat.le_of_ble_eq_true rfl) dX0_top_2 (fun x_1 w_1 hp => ?_)
  obtain ⟨rfl, rfl⟩ := hp
  refine jB_if_ne C 18 dX0_top_5 (by decide) (fun c_5 => ?_) (fun c_5 => ?_)
  · obtain ⟨g, hg, rfl⟩ := inr_of c_5 (by omega)
    refine j_aload_n C dX0_top_18 rfl ?_
    refine j_aload_n C dX0_top_19 rfl ?_
    refine g0_now C dX0_top_20 ?_
    refine j_callV1v C (ct_X0_readTops hc (by omega)) gw_0_120 nd_X0_readTops 0 0 rfl rfl rfl ⟨by decide, by decide⟩ ⟨Nat.le_of_ble_eq_true rfl, Nat.le_of_ble_eq_true rfl⟩ (Nat.le_of_ble_eq_true rfl) dX0_top_23 (fun w_1 hp => ?_)
    obtain ⟨to1, hto, rfl⟩ := hp
    refine j_aload_n C dX0_top_26 rfl ?_
    refine g0_tops C dX0_top_27 ?_
    refine j_iload_n C dX0_top_30 rfl ?_
    refine l0_to C _ rfl (by omega) dX0_top_31 ?_
    refine j_top _ (oI (tp P N a g)) (hto g (by omega)) ?_
    refine j_widen (Nat.zero_le 1) (Nat.zero_le 6) ?_
    exact j_reti C R dX0_top_32 ⟨g, to1, rfl, hg, rfl, rfl⟩
  · exact j_thr2 C X T wd_cl0_64 (is := 91) (j := 3) rfl dX0_top_8 dX0_top_11 dX0_top_12 dX0_top_14 dX0_top_17 (by decide) (by decide) (by decide) (by decide) (by decide) (by decide) ⟨rfl, c_5, rfl⟩
abbrev rm_X0_canMove : Room := { frames := 6, cells := 1, slots := 6, locals := 91 }
set_option maxHeartbeats 4000000 in
set_option maxRecDepth 100000 in
theorem ct_X0_canMove {l : Launch} {D : va_G} {Y : jy_T} {ad : Nat → Nat} {P N a b mv0 : Nat} {ru me : Bool} {cb al : Nat → Bool} {tr : Nat → Nat} {to fa se qu sp : Nat → Int32}{x y : Int32} (hc : cfg P N) (ha : a < P ^ N) (hb : b < P ^ N) (hl : l.stackTraces = false) :
    MX l yX0_canMove cX0_canMove 3 (some .boolean) rm_X0_canMove D Y [.ref (ad 0), .int x, .int y] (wA Y ad (nI P) (nI N) (bi ru) (nI a) (nI b) (nI mv0) (bi me) (fun d => nI (P ^ d)) (fun d => bi (cb d)) (fun k => bi (al k)) (fun k => nI (tr k)) to fa se qu sp) (jI (fun r w => ∃ f t to1, x = nI f ∧ f < P ∧ y = nI t ∧ t < P ∧ r = bi (psB P N ru cb al a f t) ∧ w = (wA Y ad (nI P) (nI N) (bi ru) (nI a) (nI b) (nI mv0) (bi me) (fun d => nI (P ^ d)) (fun d => bi (cb d)) (fun k => bi (al k)) (fun k => nI (tr k)) to1 fa se qu sp))) (fun E w => E = xIOO ∧ (inr x P && inr y P) = false ∧ w = (wA Y ad (nI P) (nI N) (bi ru) (nI a) (nI b) (nI mv0) (bi me) (fun d => nI (P ^ d)) (fun d => bi (cb d)) (fun k => bi (al k)) (fun k => nI (tr k)) to fa se qu sp)) := by
  refine j_enterX hl (by decide) (Nat.le_of_ble_eq_true rfl) (fun v hv => by simp only [List.mem_cons, List.not_mem_nil, or_false] at hv; rcases hv with rfl | rfl | rfl <;> rfl) (fun K hl2 hD C R X T => ?_)
  subst hl2; subst hD
  have C : jC cX0_canMove RX0 Y rm_X0_canMove 3 K := C
  have R : jR Y (some .boolean) 1 6 (jI (fun r w => ∃ f t to1, x = nI f ∧ f < P ∧ y = nI t ∧ t < P ∧ r = bi (psB P N ru cb al a f t) ∧ w = (wA Y ad (nI P) (nI N) (bi ru) (nI a) (nI b) (nI mv0) (bi me) (fun d => nI (P ^ d)) (fun d => bi (cb d)) (fun k => bi (al k)) (fun k => nI (tr k)) to1 fa se qu sp))) K := R
  have T : jT Y 1 6 (jI (fun r w => ∃ f t to1, x = nI f ∧ f < P ∧ y = nI t ∧ t < P ∧ r = bi (psB P N ru cb al a f t) ∧ w = (wA Y ad (nI P) (nI N) (bi ru) (nI a) (nI b) (nI mv0) (bi me) (fun d => nI (P ^ d)) (fun d => bi (cb d)) (fun k => bi (al k)) (fun k => nI (tr k)) to1 fa se qu sp))) (fun E w => E = xIOO ∧ (inr x P && inr y P) = false ∧ w = (wA Y ad (nI P) (nI N) (bi ru) (nI a) (nI b) (nI mv0) (bi me) (fun d => nI (P ^ d)) (fun d => bi (cb d)) (fun k => bi (al k)) (fun k => nI (tr k)) to fa se qu sp)) K := T
  refine j_eq (lo' := [some (.ref (ad 0)), some (.int x), some (.int y)]) rfl rfl rfl ?_
  obtain ⟨hP3, hP5, hN1, hN6⟩ := id hc
  have hP0 : 0 < P := by omega
  have hp2 : P ^ N ≤ 15625 := cfg_pw hc (by omega)
  refine j_aload_n C dX0_canMove_0 rfl ?_
  refine j_iload_n C dX0_canMove_1 rfl ?_
  refine j_callV1i C (ct_X0_isPeg (by omega)) gw_0_61 nd_X0_isPeg 0 0 rfl rfl rfl ⟨by decide, by decide⟩ ⟨Nat.le_of_ble_eq_true rfl, Nat.le_of_ble_eq_true rfl⟩ (Nat.le_of_ble_eq_true rfl) dX0_canMove_2 (fun x_1 w_1 hp => ?_)
  obtain ⟨rfl, rfl⟩ := hp
  refine jB_if_eq C 16 dX0_canMove_5 (by decide) (fun c_5 => ?_) (fun c_5 => ?_)
  · exact j_thr2 C X T wd_cl0_64 (is := 91) (j := 3) rfl dX0_canMove_16 dX0_canMove_19 dX0_canMove_20 dX0_canMove_22 dX0_canMove_25 (by decide) (by decide) (by decide) (by decide) (by decide) (by decide) ⟨rfl, by rw [c_5]; rfl, rfl⟩
  · refine j_aload_n C dX0_canMove_8 rfl ?_
    refine j_iload_n C dX0_canMove_9 rfl ?_
    refine j_callV1i C (ct_X0_isPeg (by omega)) gw_0_61 nd_X0_isPeg 0 0 rfl rfl rfl ⟨by decide, by decide⟩ ⟨Nat.le_of_ble_eq_true rfl, Nat.le_of_ble_eq_true rfl⟩ (Nat.le_of_ble_eq_true rfl) dX0_canMove_10 (fun x_1 w_1 hp => ?_)
    obtain ⟨rfl, rfl⟩ := hp
    refine jB_if_ne C 26 dX0_canMove_13 (by decide) (fun c_13 => ?_) (fun c_13 => ?_)
    · obtain ⟨f, hf, rfl⟩ := inr_of c_5 (by omega)
      obtain ⟨t, ht, rfl⟩ := inr_of c_13 (by omega)
      refine j_aload_n C dX0_canMove_26 rfl ?_
      refine j_iload_n C dX0_canMove_27 rfl ?_
      refine j_iload_n C dX0_canMove_28 rfl ?_
      refine j_callV2i C (ct_X0_isPossible hc ha (by omega) (by omega)) gw_0_105 nd_X0_isPossible 0 0 rfl rfl rfl ⟨by decide, by decide⟩ ⟨Nat.le_of_ble_eq_true rfl, Nat.le_of_ble_eq_true rfl⟩ (Nat.le_of_ble_eq_true rfl) dX0_canMove_29 (fun x_1 w_1 hp => ?_)
      obtain ⟨rfl, to1, hto, rfl⟩ := hp
      refine j_widen (Nat.zero_le 1) (Nat.zero_le 6) ?_
      exact j_retz C R dX0_canMove_32 (bi_nar _) ⟨f, t, to1, rfl, hf, rfl, ht, rfl, rfl⟩
    · exact j_thr2 C X T wd_cl0_64 (is := 91) (j := 3) rfl dX0_canMove_16 dX0_canMove_19 dX0_canMove_20 dX0_canMove_22 dX0_canMove_25 (by decide) (by decide) (by decide) (by decide) (by decide) (by decide) ⟨rfl, by rw [c_13, Bool.and_false], rfl⟩
abbrev rm_X0_begin : Room := { frames := 6, cells := 1, slots := 6, locals := 82 }
set_option maxHeartbeats 4000000 in
set_option maxRecDepth 100000 in
theorem ct_X0_begin {l : Launch} {D : va_G} {Y : jy_T} {ad : Nat → Nat} {P N a b mv0 : Nat} {ru me : Bool} {cb al : Nat → Bool} {tr : Nat → Nat} {to fa se qu sp : Nat → Int32}{x y : Int32} (hl : l.stackTraces = false) :
    MX l yX0_begin cX0_begin 3 (some .int) rm_X0_begin D Y [.ref (ad 0), .int x, .int y] (wA Y ad (nI P) (nI N) (bi ru) (nI a) (nI b) (nI mv0) (bi me) (fun d => nI (P ^ d)) (fun d => bi (cb d)) (fun k => bi (al k)) (fun k => nI (tr k)) to fa se qu sp) (jI (fun r w => ∃ P1 N1, x = nI P1 ∧ y = nI N1 ∧ cfg P1 N1 ∧ r = nI (P1 ^ N1) ∧ w = (wA Y ad (nI P1) (nI N1) (bi false) (nI 0) (nI (P1 ^ N1 - 1)) (nI 0) (bi false) (fun d => nI (P1 ^ d)) (fun d => bi ((fun _ => false) d)) (fun k => bi ((fun _ => true) k)) (fun k => nI (tr k)) to fa se qu sp))) (fun E w => E = xIAE ∧ (rg x 3 5 && rg y 1 6) = false ∧ w = (wA Y ad (nI P) (nI N) (bi ru) (nI a) (nI b) (nI mv0) (bi me) (fun d => nI (P ^ d)) (fun d => bi (cb d)) (fun k => bi (al k)) (fun k => nI (tr k)) to fa se qu sp)) := by
  refine j_enterX hl (by decide) (Nat.le_of_ble_eq_true rfl) (fun v hv => by simp only [List.mem_cons, List.not_mem_nil, or_false] at hv; rcases hv with rfl | rfl | rfl <;> rfl) (fun K hl2 hD C R X T => ?_)
  subst hl2; subst hD
  have C : jC cX0_begin RX0 Y rm_X0_begin 3 K := C
  have R : jR Y (some .int) 1 6 (jI (fun r w => ∃ P1 N1, x = nI P1 ∧ y = nI N1 ∧ cfg P1 N1 ∧ r = nI (P1 ^ N1) ∧ w = (wA Y ad (nI P1) (nI N1) (bi false) (nI 0) (nI (P1 ^ N1 - 1)) (nI 0) (bi false) (fun d => nI (P1 ^ d)) (fun d => bi ((fun _ => false) d)) (fun k => bi ((fun _ => true) k)) (fun k => nI (tr k)) to fa se qu sp))) K := R
  have T : jT Y 1 6 (jI (fun r w => ∃ P1 N1, x = nI P1 ∧ y = nI N1 ∧ cfg P1 N1 ∧ r = nI (P1 ^ N1) ∧ w = (wA Y ad (nI P1) (nI N1) (bi false) (nI 0) (nI (P1 ^ N1 - 1)) (nI 0) (bi false) (fun d => nI (P1 ^ d)) (fun d => bi ((fun _ => false) d)) (fun k => bi ((fun _ => true) k)) (fun k => nI (tr k)) to fa se qu sp))) (fun E w => E = xIAE ∧ (rg x 3 5 && rg y 1 6) = false ∧ w = (wA Y ad (nI P) (nI N) (bi ru) (nI a) (nI b) (nI mv0) (bi me) (fun d => nI (P ^ d)) (fun d => bi (cb d)) (fun k => bi (al k)) (fun k => nI (tr k)) to fa se qu sp)) K := T
  refine j_eq (lo' := [some (.ref (ad 0)), some (.int x), some (.int y)]) rfl rfl rfl ?_
  refine j_iload_n C dX0_begin_0 rfl ?_
  refine j_iconst C (nI 3) dX0_begin_1 (by decide) ?_
  refine j_icmp_lt C 21 dX0_begin_2 (by decide) (fun c_2 => ?_) (fun c_2 => ?_)
  · exact j_thr1 C X T wd_cl0_46 (is := 48) (j := 0) rfl dX0_begin_21 dX0_begin_24 dX0_begin_25 dX0_begin_27 dX0_begin_30 (by decide) (by decide) (by decide) (by decide) (by decide) (by decide) ⟨rfl, by rw [rg_f1 (by omega) c_2]; rfl, rfl⟩
  · refine j_iload_n C dX0_begin_5 rfl ?_
    refine j_iconst C (nI 5) dX0_begin_6 (by decide) ?_
    refine j_icmp_gt C 21 dX0_begin_7 (by decide) (fun c_7 => ?_) (fun c_7 => ?_)
    · exact j_thr1 C X T wd_cl0_46 (is := 48) (j := 0) rfl dX0_begin_21 dX0_begin_24 dX0_begin_25 dX0_begin_27 dX0_begin_30 (by decide) (by decide) (by decide) (by decide) (by decide) (by decide) ⟨rfl, by rw [rg_f2 (by omega) c_7]; rfl, rfl⟩
    · refine j_iload_n C dX0_begin_10 rfl ?_
      refine j_iconst C (nI 1) dX0_begin_11 (by decide) ?_
      refine j_icmp_lt C 21 dX0_begin_12 (by decide) (fun c_12 => ?_) (fun c_12 => ?_)
      · exact j_thr1 C X T wd_cl0_46 (is := 48) (j := 0) rfl dX0_begin_21 dX0_begin_24 dX0_begin_25 dX0_begin_27 dX0_begin_30 (by decide) (by decide) (by decide) (by decide) (by decide) (by decide) ⟨rfl, by rw [rg_f1 (by omega) c_12, Bool.and_false], rfl⟩
      · refine j_iload_n C dX0_begin_15 rfl ?_
        refine j_bipush C (nI 6) dX0_begin_16 (by decide) ?_
        refine j_icmp_le C 31 dX0_begin_18 (by decide) (fun c_18 => ?_) (fun c_18 => ?_)
        · obtain ⟨P1, hp1, hp5, rfl⟩ := rg_of (by omega) (rg_t (lo := 3) (hi := 5) (by omega) (by omega) c_2 (i32_nlt c_7))
          obtain ⟨N1, hn1, hn6, rfl⟩ := rg_of (by omega) (rg_t (lo := 1) (hi := 6) (by omega) (by omega) c_12 c_18)
          have hc1 : cfg P1 N1 := ⟨hp1, hp5, hn1, hn6⟩
          refine j_aload_n C dX0_begin_31 rfl ?_
          refine j_iload_n C dX0_begin_32 rfl ?_
          refine j_iload_n C dX0_begin_33 rfl ?_
          refine j_callV2v C (ct_X0_lay hc1) gw_0_42 nd_X0_lay 0 0 rfl rfl rfl ⟨by decide, by decide⟩ ⟨Nat.le_of_ble_eq_true rfl, Nat.le_of_ble_eq_true rfl⟩ (Nat.le_of_ble_eq_true rfl) dX0_begin_34 (fun w_1 hp => ?_)
          subst hp
          refine j_aload_n C dX0_begin_37 rfl ?_
          refine g0_weight C dX0_begin_38 ?_
          refine j_aload_n C dX0_begin_41 rfl ?_
          refine g0_diskCount C dX0_begin_42 ?_
          refine l0_we C _ rfl (by omega) dX0_begin_45 ?_
          refine j_widen (Nat.zero_le 1) (Nat.zero_le 6) ?_
          exact j_reti C R dX0_begin_46 ⟨P1, N1, rfl, rfl, hc1, rfl, rfl⟩
        · exact j_thr1 C X T wd_cl0_46 (is := 48) (j := 0) rfl dX0_begin_21 dX0_begin_24 dX0_begin_25 dX0_begin_27 dX0_begin_30 (by decide) (by decide) (by decide) (by decide) (by decide) (by decide) ⟨rfl, by rw [rg_f3 (by omega) c_18, Bool.and_false], rfl⟩
abbrev rm_X0_put : Room := { frames := 6, cells := 1, slots := 6, locals := 82 }
set_option maxHeartbeats 4000000 in
set_option maxRecDepth 100000 in
theorem ct_X0_put {l : Launch} {D : va_G} {Y : jy_T} {ad : Nat → Nat} {P N a b mv0 : Nat} {ru me : Bool} {cb al : Nat → Bool} {tr : Nat → Nat} {to fa se qu sp : Nat → Int32}{x y : Int32} (hc : cfg P N) (ha : a < P ^ N) (hb : b < P ^ N) (hm0 : mv0 < 2 ^ 31) (hl : l.stackTraces = false) :
    MX l yX0_put cX0_put 4 (some .int) rm_X0_put D Y [.ref (ad 0), .int x, .int y] (wA Y ad (nI P) (nI N) (bi ru) (nI a) (nI b) (nI mv0) (bi me) (fun d => nI (P ^ d)) (fun d => bi (cb d)) (fun k => bi (al k)) (fun k => nI (tr k)) to fa se qu sp) (jI (fun r w => ∃ d t, x = nI d ∧ d < N ∧ y = nI t ∧ t < P ∧ mv0 = 0 ∧ r = nI (dg P a d) ∧ w = (wA Y ad (nI P) (nI N) (bi ru) (nI (sd P a d t)) (nI b) (nI mv0) (bi me) (fun d => nI (P ^ d)) (fun d => bi (cb d)) (fun k => bi (al k)) (fun k => nI (tr k)) to fa se qu sp))) (fun E w => w = (wA Y ad (nI P) (nI N) (bi ru) (nI a) (nI b) (nI mv0) (bi me) (fun d => nI (P ^ d)) (fun d => bi (cb d)) (fun k => bi (al k)) (fun k => nI (tr k)) to fa se qu sp) ∧ ((E = xIOO ∧ (inr x N && inr y P) = false) ∨ (E = xISE ∧ (inr x N && inr y P) = true ∧ 0 < mv0))) := by
  refine j_enterX hl (by decide) (Nat.le_of_ble_eq_true rfl) (fun v hv => by simp only [List.mem_cons, List.not_mem_nil, or_false] at hv; rcases hv with rfl | rfl | rfl <;> rfl) (fun K hl2 hD C R X T => ?_)
  subst hl2; subst hD
  have C : jC cX0_put RX0 Y rm_X0_put 4 K := C
  have R : jR Y (some .int) 1 6 (jI (fun r w => ∃ d t, x = nI d ∧ d < N ∧ y = nI t ∧ t < P ∧ mv0 = 0 ∧ r = nI (dg P a d) ∧ w = (wA Y ad (nI P) (nI N) (bi ru) (nI (sd P a d t)) (nI b) (nI mv0) (bi me) (fun d => nI (P ^ d)) (fun d => bi (cb d)) (fun k => bi (al k)) (fun k => nI (tr k)) to fa se qu sp))) K := R
  have T : jT Y 1 6 (jI (fun r w => ∃ d t, x = nI d ∧ d < N ∧ y = nI t ∧ t < P ∧ mv0 = 0 ∧ r = nI (dg P a d) ∧ w = (wA Y ad (nI P) (nI N) (bi ru) (nI (sd P a d t)) (nI b) (nI mv0) (bi me) (fun d => nI (P ^ d)) (fun d => bi (cb d)) (fun k => bi (al k)) (fun k => nI (tr k)) to fa se qu sp))) (fun E w => w = (wA Y ad (nI P) (nI N) (bi ru) (nI a) (nI b) (nI mv0) (bi me) (fun d => nI (P ^ d)) (fun d => bi (cb d)) (fun k => bi (al k)) (fun k => nI (tr k)) to fa se qu sp) ∧ ((E = xIOO ∧ (inr x N && inr y P) = false) ∨ (E = xISE ∧ (inr x N && inr y P) = true ∧ 0 < mv0))) K := T
  refine j_eq (lo' := [some (.ref (ad 0)), some (.int x), some (.int y), none]) rfl rfl rfl ?_
  obtain ⟨hP3, hP5, hN1, hN6⟩ := id hc
  have hP0 : 0 < P := by omega
  have hp2 : P ^ N ≤ 15625 := cfg_pw hc (by omega)
  refine j_aload_n C dX0_put_0 rfl ?_
  refine j_iload_n C dX0_put_1 rfl ?_
  refine j_callV1i C (ct_X0_isDisk (by omega)) gw_0_57 nd_X0_isDisk 0 0 rfl rfl rfl ⟨by decide, by decide⟩ ⟨Nat.le_of_ble_eq_true rfl, Nat.le_of_ble_eq_true rfl⟩ (Nat.le_of_ble_eq_true rfl) dX0_put_2 (fun x_1 w_1 hp => ?_)
  obtain ⟨rfl, rfl⟩ := hp
  refine jB_if_eq C 16 dX0_put_5 (by decide) (fun c_5 => ?_) (fun c_5 => ?_)
  · exact j_thr2 C X T wd_cl0_64 (is := 66) (j := 1) rfl dX0_put_16 dX0_put_19 dX0_put_20 dX0_put_22 dX0_put_25 (by decide) (by decide) (by decide) (by decide) (by decide) (by decide) ⟨rfl, Or.inl ⟨rfl, by rw [c_5]; rfl⟩⟩
  · refine j_aload_n C dX0_put_8 rfl ?_
    refine j_iload_n C dX0_put_9 rfl ?_
    refine j_callV1i C (ct_X0_isPeg (by omega)) gw_0_61 nd_X0_isPeg 0 0 rfl rfl rfl ⟨by decide, by decide⟩ ⟨Nat.le_of_ble_eq_true rfl, Nat.le_of_ble_eq_true rfl⟩ (Nat.le_of_ble_eq_true rfl) dX0_put_10 (fun x_1 w_1 hp => ?_)
    obtain ⟨rfl, rfl⟩ := hp
    refine jB_if_ne C 26 dX0_put_13 (by decide) (fun c_13 => ?_) (fun c_13 => ?_)
    · refine j_aload_n C dX0_put_26 rfl ?_
      refine g0_moveCount C dX0_put_27 ?_
      refine j_if_le C 43 dX0_put_30 (by decide) (fun c_30 => ?_) (fun c_30 => ?_)
      · obtain ⟨d, hd, rfl⟩ := inr_of c_5 (by omega)
        obtain ⟨t, ht, rfl⟩ := inr_of c_13 (by omega)
        have hz : mv0 = 0 := by have h : nI mv0 ≤ nI 0 := c_30; rw [nI_leI (by omega) (by omega)] at h; omega
        refine j_aload_n C dX0_put_43 rfl ?_
        refine j_aload_n C dX0_put_44 rfl ?_
        refine g0_now C dX0_put_45 ?_
        refine j_iload_n C dX0_put_48 rfl ?_
        refine j_callV2i C (ct_X0_pegIn hc (by omega) (by omega)) gw_0_80 nd_X0_pegIn 0 0 rfl rfl rfl ⟨by decide, by decide⟩ ⟨Nat.le_of_ble_eq_true rfl, Nat.le_of_ble_eq_true rfl⟩ (Nat.le_of_ble_eq_true rfl) dX0_put_49 (fun x_1 w_1 hp => ?_)
        obtain ⟨rfl, rfl⟩ := hp
        refine j_istore_3 C dX0_put_52 (by decide) ?_
        refine j_aload_n C dX0_put_53 rfl ?_
        refine j_dup C dX0_put_54 rfl ?_
        refine g0_now C dX0_put_55 ?_
        refine j_iload_n C dX0_put_58 rfl ?_
        refine j_iload_n C dX0_put_59 rfl ?_
        refine j_isub C dX0_put_60 ?_
        refine j_top _ (nI t - nI (dg P a d)) rfl ?_
        refine j_aload_n C dX0_put_61 rfl ?_
        refine g0_weight C dX0_put_62 ?_
        refine j_iload_n C dX0_put_65 rfl ?_
        refine l0_we C _ rfl (by omega) dX0_put_66 ?_
        refine j_imul C dX0_put_67 ?_
        refine j_top _ ((nI t - nI (dg P a d)) * nI (P ^ d)) rfl ?_
        refine j_iadd C dX0_put_68 ?_
        refine j_top _ (nI (sd P a d t)) (nI_move dg_le) ?_
        refine p0_now C dX0_put_69 ?_
        refine j_iload_n C dX0_put_72 rfl ?_
        refine j_widen (Nat.zero_le 1) (Nat.zero_le 6) ?_
        exact j_reti C R dX0_put_73 ⟨d, t, rfl, hd, rfl, ht, hz, rfl, rfl⟩
      · exact j_thr3 C X T wd_cl0_72 (is := 74) (j := 2) rfl dX0_put_33 dX0_put_36 dX0_put_37 dX0_put_39 dX0_put_42 (by decide) (by decide) (by decide) (by decide) (by decide) (by decide) ⟨rfl, Or.inr ⟨rfl, by rw [c_5, c_13]; rfl, by have h : ¬ nI mv0 ≤ nI 0 := c_30; rw [nI_leI (by omega) (by omega)] at h; omega⟩⟩
    · exact j_thr2 C X T wd_cl0_64 (is := 66) (j := 1) rfl dX0_put_16 dX0_put_19 dX0_put_20 dX0_put_22 dX0_put_25 (by decide) (by decide) (by decide) (by decide) (by decide) (by decide) ⟨rfl, Or.inl ⟨rfl, by rw [c_13, Bool.and_false]⟩⟩
abbrev rm_X0_aim : Room := { frames := 6, cells := 1, slots := 6, locals := 82 }
set_option maxHeartbeats 4000000 in
set_option maxRecDepth 100000 in
theorem ct_X0_aim {l : Launch} {D : va_G} {Y : jy_T} {ad : Nat → Nat} {P N a b mv0 : Nat} {ru me : Bool} {cb al : Nat → Bool} {tr : Nat → Nat} {to fa se qu sp : Nat → Int32}{x y : Int32} (hc : cfg P N) (ha : a < P ^ N) (hb : b < P ^ N) (hl : l.stackTraces = false) :
    MX l yX0_aim cX0_aim 4 (some .int) rm_X0_aim D Y [.ref (ad 0), .int x, .int y] (wA Y ad (nI P) (nI N) (bi ru) (nI a) (nI b) (nI mv0) (bi me) (fun d => nI (P ^ d)) (fun d => bi (cb d)) (fun k => bi (al k)) (fun k => nI (tr k)) to fa se qu sp) (jI (fun r w => ∃ d t, x = nI d ∧ d < N ∧ y = nI t ∧ t < P ∧ r = nI (dg P b d) ∧ w = (wA Y ad (nI P) (nI N) (bi ru) (nI a) (nI (sd P b d t)) (nI mv0) (bi false) (fun d => nI (P ^ d)) (fun d => bi (cb d)) (fun k => bi (al k)) (fun k => nI (tr k)) to fa se qu sp))) (fun E w => E = xIOO ∧ (inr x N && inr y P) = false ∧ w = (wA Y ad (nI P) (nI N) (bi ru) (nI a) (nI b) (nI mv0) (bi me) (fun d => nI (P ^ d)) (fun d => bi (cb d)) (fun k => bi (al k)) (fun k => nI (tr k)) to fa se qu sp)) := by
  refine j_enterX hl (by decide) (Nat.le_of_ble_eq_true rfl) (fun v hv => by simp only [List.mem_cons, List.not_mem_nil, or_false] at hv; rcases hv with rfl | rfl | rfl <;> rfl) (fun K hl2 hD C R X T => ?_)
  subst hl2; subst hD
  have C : jC cX0_aim RX0 Y rm_X0_aim 4 K := C
  have R : jR Y (some .int) 1 6 (jI (fun r w => ∃ d t, x = nI d ∧ d < N ∧ y = nI t ∧ t < P ∧ r = nI (dg P b d) ∧ w = (wA Y ad (nI P) (nI N) (bi ru) (nI a) (nI (sd P b d t)) (nI mv0) (bi false) (fun d => nI (P ^ d)) (fun d => bi (cb d)) (fun k => bi (al k)) (fun k => nI (tr k)) to fa se qu sp))) K := R
  have T : jT Y 1 6 (jI (fun r w => ∃ d t, x = nI d ∧ d < N ∧ y = nI t ∧ t < P ∧ r = nI (dg P b d) ∧ w = (wA Y ad (nI P) (nI N) (bi ru) (nI a) (nI (sd P b d t)) (nI mv0) (bi false) (fun d => nI (P ^ d)) (fun d => bi (cb d)) (fun k => bi (al k)) (fun k => nI (tr k)) to fa se qu sp))) (fun E w => E = xIOO ∧ (inr x N && inr y P) = false ∧ w = (wA Y ad (nI P) (nI N) (bi ru) (nI a) (nI b) (nI mv0) (bi me) (fun d => nI (P ^ d)) (fun d => bi (cb d)) (fun k => bi (al k)) (fun k => nI (tr k)) to fa se qu sp)) K := T
  refine j_eq (lo' := [some (.ref (ad 0)), some (.int x), some (.int y), none]) rfl rfl rfl ?_
  obtain ⟨hP3, hP5, hN1, hN6⟩ := id hc
  have hP0 : 0 < P := by omega
  have hp2 : P ^ N ≤ 15625 := cfg_pw hc (by omega)
  refine j_aload_n C dX0_aim_0 rfl ?_
  refine j_iload_n C dX0_aim_1 rfl ?_
  refine j_callV1i C (ct_X0_isDisk (by omega)) gw_0_57 nd_X0_isDisk 0 0 rfl rfl rfl ⟨by decide, by decide⟩ ⟨Nat.le_of_ble_eq_true rfl, Nat.le_of_ble_eq_true rfl⟩ (Nat.le_of_ble_eq_true rfl) dX0_aim_2 (fun x_1 w_1 hp => ?_)
  obtain ⟨rfl, rfl⟩ := hp
  refine jB_if_eq C 16 dX0_aim_5 (by decide) (fun c_5 => ?_) (fun c_5 => ?_)
  · exact j_thr2 C X T wd_cl0_64 (is := 66) (j := 1) rfl dX0_aim_16 dX0_aim_19 dX0_aim_20 dX0_aim_22 dX0_aim_25 (by decide) (by decide) (by decide) (by decide) (by decide) (by decide) ⟨rfl, by rw [c_5]; rfl, rfl⟩
  · refine j_aload_n C dX0_aim_8 rfl ?_
    refine j_iload_n C dX0_aim_9 rfl ?_
    refine j_callV1i C (ct_X0_isPeg (by omega)) gw_0_61 nd_X0_isPeg 0 0 rfl rfl rfl ⟨by decide, by decide⟩ ⟨Nat.le_of_ble_eq_true rfl, Nat.le_of_ble_eq_true rfl⟩ (Nat.le_of_ble_eq_true rfl) dX0_aim_10 (fun x_1 w_1 hp => ?_)
    obtain ⟨rfl, rfl⟩ := hp
    refine jB_if_ne C 26 dX0_aim_13 (by decide) (fun c_13 => ?_) (fun c_13 => ?_)
    · obtain ⟨d, hd, rfl⟩ := inr_of c_5 (by omega)
      obtain ⟨t, ht, rfl⟩ := inr_of c_13 (by omega)
      refine j_aload_n C dX0_aim_26 rfl ?_
      refine j_aload_n C dX0_aim_27 rfl ?_
      refine g0_target C dX0_aim_28 ?_
      refine j_iload_n C dX0_aim_31 rfl ?_
      refine j_callV2i C (ct_X0_pegIn hc (by omega) (by omega)) gw_0_80 nd_X0_pegIn 0 0 rfl rfl rfl ⟨by decide, by decide⟩ ⟨Nat.le_of_ble_eq_true rfl, Nat.le_of_ble_eq_true rfl⟩ (Nat.le_of_ble_eq_true rfl) dX0_aim_32 (fun x_1 w_1 hp => ?_)
      obtain ⟨rfl, rfl⟩ := hp
      refine j_istore_3 C dX0_aim_35 (by decide) ?_
      refine j_aload_n C dX0_aim_36 rfl ?_
      refine j_dup C dX0_aim_37 rfl ?_
      refine g0_target C dX0_aim_38 ?_
      refine j_iload_n C dX0_aim_41 rfl ?_
      refine j_iload_n C dX0_aim_42 rfl ?_
      refine j_isub C dX0_aim_43 ?_
      refine j_top _ (nI t - nI (dg P b d)) rfl ?_
      refine j_aload_n C dX0_aim_44 rfl ?_
      refine g0_weight C dX0_aim_45 ?_
      refine j_iload_n C dX0_aim_48 rfl ?_
      refine l0_we C _ rfl (by omega) dX0_aim_49 ?_
      refine j_imul C dX0_aim_50 ?_
      refine j_top _ ((nI t - nI (dg P b d)) * nI (P ^ d)) rfl ?_
      refine j_iadd C dX0_aim_51 ?_
      refine j_top _ (nI (sd P b d t)) (nI_move dg_le) ?_
      refine p0_target C dX0_aim_52 ?_
      refine j_aload_n C dX0_aim_55 rfl ?_
      refine j_iconst C (bi false) dX0_aim_56 (by decide) ?_
      refine p0_measured C dX0_aim_57 ?_
      refine j_iload_n C dX0_aim_60 rfl ?_
      refine j_widen (Nat.zero_le 1) (Nat.zero_le 6) ?_
      exact j_reti C R dX0_aim_61 ⟨d, t, rfl, hd, rfl, ht, rfl, rfl⟩
    · exact j_thr2 C X T wd_cl0_64 (is := 66) (j := 1) rfl dX0_aim_16 dX0_aim_19 dX0_aim_20 dX0_aim_22 dX0_aim_25 (by decide) (by decide) (by decide) (by decide) (by decide) (by decide) ⟨rfl, by rw [c_13, Bool.and_false], rfl⟩
abbrev rm_X0_allow : Room := { frames := 6, cells := 1, slots := 6, locals := 82 }
set_option maxHeartbeats 4000000 in
set_option maxRecDepth 100000 in
theorem ct_X0_allow {l : Launch} {D : va_G} {Y : jy_T} {ad : Nat → Nat} {P N a b mv0 : Nat} {ru me : Bool} {cb al : Nat → Bool} {tr : Nat → Nat} {to fa se qu sp : Nat → Int32}{x y : Int32} {z : Bool} (hc : cfg P N) (ha : a < P ^ N) (hb : b < P ^ N) (hl : l.stackTraces = false) :
    MX l yX0_allow cX0_allow 6 (some .boolean) rm_X0_allow D Y [.ref (ad 0), .int x, .int y, .int (bi z)] (wA Y ad (nI P) (nI N) (bi ru) (nI a) (nI b) (nI mv0) (bi me) (fun d => nI (P ^ d)) (fun d => bi (cb d)) (fun k => bi (al k)) (fun k => nI (tr k)) to fa se qu sp) (jI (fun r w => ∃ f t, x = nI f ∧ f < P ∧ y = nI t ∧ t < P ∧ f ≠ t ∧ r = bi (al (f * 5 + t)) ∧ w = (wA Y ad (nI P) (nI N) (bi ru) (nI a) (nI b) (nI mv0) (bi false) (fun d => nI (P ^ d)) (fun d => bi (cb d)) (fun k => bi (va_up al (f * 5 + t) z k)) (fun k => nI (tr k)) to fa se qu sp))) (fun E w => w = (wA Y ad (nI P) (nI N) (bi ru) (nI a) (nI b) (nI mv0) (bi me) (fun d => nI (P ^ d)) (fun d => bi (cb d)) (fun k => bi (al k)) (fun k => nI (tr k)) to fa se qu sp) ∧ ((E = xIOO ∧ (inr x P && inr y P) = false) ∨ (E = xIAE ∧ (inr x P && inr y P) = true ∧ x = y))) := by
  refine j_enterX hl (by decide) (Nat.le_of_ble_eq_true rfl) (fun v hv => by simp only [List.mem_cons, List.not_mem_nil, or_false] at hv; rcases hv with rfl | rfl | rfl | rfl <;> rfl) (fun K hl2 hD C R X T => ?_)
  subst hl2; subst hD
  have C : jC cX0_allow RX0 Y rm_X0_allow 6 K := C
  have R : jR Y (some .boolean) 1 6 (jI (fun r w => ∃ f t, x = nI f ∧ f < P ∧ y = nI t ∧ t < P ∧ f ≠ t ∧ r = bi (al (f * 5 + t)) ∧ w = (wA Y ad (nI P) (nI N) (bi ru) (nI a) (nI b) (nI mv0) (bi false) (fun d => nI (P ^ d)) (fun d => bi (cb d)) (fun k => bi (va_up al (f * 5 + t) z k)) (fun k => nI (tr k)) to fa se qu sp))) K := R
  have T : jT Y 1 6 (jI (fun r w => ∃ f t, x = nI f ∧ f < P ∧ y = nI t ∧ t < P ∧ f ≠ t ∧ r = bi (al (f * 5 + t)) ∧ w = (wA Y ad (nI P) (nI N) (bi ru) (nI a) (nI b) (nI mv0) (bi false) (fun d => nI (P ^ d)) (fun d => bi (cb d)) (fun k => bi (va_up al (f * 5 + t) z k)) (fun k => nI (tr k)) to fa se qu sp))) (fun E w => w = (wA Y ad (nI P) (nI N) (bi ru) (nI a) (nI b) (nI mv0) (bi me) (fun d => nI (P ^ d)) (fun d => bi (cb d)) (fun k => bi (al k)) (fun k => nI (tr k)) to fa se qu sp) ∧ ((E = xIOO ∧ (inr x P && inr y P) = false) ∨ (E = xIAE ∧ (inr x P && inr y P) = true ∧ x = y))) K := T
  refine j_eq (lo' := [some (.ref (ad 0)), some (.int x), some (.int y), some (.int (bi z)), none, none]) rfl rfl rfl ?_
  obtain ⟨hP3, hP5, hN1, hN6⟩ := id hc
  have hP0 : 0 < P := by omega
  have hp2 : P ^ N ≤ 15625 := cfg_pw hc (by omega)
  refine j_aload_n C dX0_allow_0 rfl ?_
  refine j_iload_n C dX0_allow_1 rfl ?_
  refine j_callV1i C (ct_X0_isPeg (by omega)) gw_0_61 nd_X0_isPeg 0 0 rfl rfl rfl ⟨by decide, by decide⟩ ⟨Nat.le_of_ble_eq_true rfl, Nat.le_of_ble_eq_true rfl⟩ (Nat.le_of_ble_eq_true rfl) dX0_allow_2 (fun x_1 w_1 hp => ?_)
  obtain ⟨rfl, rfl⟩ := hp
  refine jB_if_eq C 16 dX0_allow_5 (by decide) (fun c_5 => ?_) (fun c_5 => ?_)
  · exact j_thr2 C X T wd_cl0_64 (is := 91) (j := 3) rfl dX0_allow_16 dX0_allow_19 dX0_allow_20 dX0_allow_22 dX0_allow_25 (by decide) (by decide) (by decide) (by decide) (by decide) (by decide) ⟨rfl, Or.inl ⟨rfl, by rw [c_5]; rfl⟩⟩
  · refine j_aload_n C dX0_allow_8 rfl ?_
    refine j_iload_n C dX0_allow_9 rfl ?_
    refine j_callV1i C (ct_X0_isPeg (by omega)) gw_0_61 nd_X0_isPeg 0 0 rfl rfl rfl ⟨by decide, by decide⟩ ⟨Nat.le_of_ble_eq_true rfl, Nat.le_of_ble_eq_true rfl⟩ (Nat.le_of_ble_eq_true rfl) dX0_allow_10 (fun x_1 w_1 hp => ?_)
    obtain ⟨rfl, rfl⟩ := hp
    refine jB_if_ne C 26 dX0_allow_13 (by decide) (fun c_13 => ?_) (fun c_13 => ?_)
    · refine j_iload_n C dX0_allow_26 rfl ?_
      refine j_iload_n C dX0_allow_27 rfl ?_
      refine j_icmp_ne C 41 dX0_allow_28 (by decide) (fun c_28 => ?_) (fun c_28 => ?_)
      · obtain ⟨f, hf, rfl⟩ := inr_of c_5 (by omega)
        obtain ⟨t, ht, rfl⟩ := inr_of c_13 (by omega)
        refine j_iload_n C dX0_allow_41 rfl ?_
        refine j_iload_n C dX0_allow_42 rfl ?_
        refine j_callS2i C (ct_X0_pairOf (ad := ad)) gw_0_95 rfl nd_X0_pairOf ⟨by decide, by decide⟩ ⟨Nat.le_of_ble_eq_true rfl, Nat.le_of_ble_eq_true rfl⟩ (Nat.le_of_ble_eq_true rfl) dX0_allow_43 (fun x_1 w_1 hp => ?_)
        obtain ⟨rfl, rfl⟩ := hp
        refine j_istore_4 C dX0_allow_46 (by decide) ?_
        refine j_aload_n C dX0_allow_48 rfl ?_
        refine g0_allowed C dX0_allow_49 ?_
        refine j_iload C dX0_allow_52 rfl ?_
        refine l0_al C _ rfl (by omega) dX0_allow_54 ?_
        refine j_istore_5 C dX0_allow_55 (by decide) ?_
        refine j_aload_n C dX0_allow_57 rfl ?_
        refine g0_allowed C dX0_allow_58 ?_
        refine j_iload C dX0_allow_61 rfl ?_
        refine j_iload_n C dX0_allow_63 rfl ?_
        refine s0_al C _ rfl (by omega) dX0_allow_64 ?_
        refine j_aload_n C dX0_allow_65 rfl ?_
        refine j_iconst C (bi false) dX0_allow_66 (by decide) ?_
        refine p0_measured C dX0_allow_67 ?_
        refine j_iload C dX0_allow_70 rfl ?_
        refine j_widen (Nat.zero_le 1) (Nat.zero_le 6) ?_
        exact j_retz C R dX0_allow_72 (bi_nar _) ⟨f, t, rfl, hf, rfl, ht, fun q => c_28 (by rw [q]), rfl, by rw [upd_bi]⟩
      · exact j_thr1 C X T wd_cl0_46 (is := 93) (j := 4) rfl dX0_allow_31 dX0_allow_34 dX0_allow_35 dX0_allow_37 dX0_allow_40 (by decide) (by decide) (by decide) (by decide) (by decide) (by decide) ⟨rfl, Or.inr ⟨rfl, by rw [c_5, c_13]; rfl, c_28⟩⟩
    · exact j_thr2 C X T wd_cl0_64 (is := 91) (j := 3) rfl dX0_allow_16 dX0_allow_19 dX0_allow_20 dX0_allow_22 dX0_allow_25 (by decide) (by decide) (by decide) (by decide) (by decide) (by decide) ⟨rfl, Or.inl ⟨rfl, by rw [c_13, Bool.and_false]⟩⟩
abbrev rm_X0_setColour : Room := { frames := 6, cells := 1, slots := 6, locals := 82 }
set_option maxHeartbeats 4000000 in
set_option maxRecDepth 100000 in
theorem ct_X0_setColour {l : Launch} {D : va_G} {Y : jy_T} {ad : Nat → Nat} {P N a b mv0 : Nat} {ru me : Bool} {cb al : Nat → Bool} {tr : Nat → Nat} {to fa se qu sp : Nat → Int32}{x y : Int32} (hc : cfg P N) (ha : a < P ^ N) (hb : b < P ^ N) (hl : l.stackTraces = false) :
    MX l yX0_setColour cX0_setColour 4 (some .int) rm_X0_setColour D Y [.ref (ad 0), .int x, .int y] (wA Y ad (nI P) (nI N) (bi ru) (nI a) (nI b) (nI mv0) (bi me) (fun d => nI (P ^ d)) (fun d => bi (cb d)) (fun k => bi (al k)) (fun k => nI (tr k)) to fa se qu sp) (jI (fun r w => ∃ d z, x = nI d ∧ d < N ∧ y = bi z ∧ rg y 0 1 = true ∧ r = bi (cb d) ∧ w = (wA Y ad (nI P) (nI N) (bi ru) (nI a) (nI b) (nI mv0) (bi false) (fun d => nI (P ^ d)) (fun k => bi (va_up cb d z k)) (fun k => bi (al k)) (fun k => nI (tr k)) to fa se qu sp))) (fun E w => w = (wA Y ad (nI P) (nI N) (bi ru) (nI a) (nI b) (nI mv0) (bi me) (fun d => nI (P ^ d)) (fun d => bi (cb d)) (fun k => bi (al k)) (fun k => nI (tr k)) to fa se qu sp) ∧ ((E = xIOO ∧ inr x N = false) ∨ (E = xIAE ∧ inr x N = true ∧ rg y 0 1 = false))) := by
  refine j_enterX hl (by decide) (Nat.le_of_ble_eq_true rfl) (fun v hv => by simp only [List.mem_cons, List.not_mem_nil, or_false] at hv; rcases hv with rfl | rfl | rfl <;> rfl) (fun K hl2 hD C R X T => ?_)
  subst hl2; subst hD
  have C : jC cX0_setColour RX0 Y rm_X0_setColour 4 K := C
  have R : jR Y (some .int) 1 6 (jI (fun r w => ∃ d z, x = nI d ∧ d < N ∧ y = bi z ∧ rg y 0 1 = true ∧ r = bi (cb d) ∧ w = (wA Y ad (nI P) (nI N) (bi ru) (nI a) (nI b) (nI mv0) (bi false) (fun d => nI (P ^ d)) (fun k => bi (va_up cb d z k)) (fun k => bi (al k)) (fun k => nI (tr k)) to fa se qu sp))) K := R
  have T : jT Y 1 6 (jI (fun r w => ∃ d z, x = nI d ∧ d < N ∧ y = bi z ∧ rg y 0 1 = true ∧ r = bi (cb d) ∧ w = (wA Y ad (nI P) (nI N) (bi ru) (nI a) (nI b) (nI mv0) (bi false) (fun d => nI (P ^ d)) (fun k => bi (va_up cb d z k)) (fun k => bi (al k)) (fun k => nI (tr k)) to fa se qu sp))) (fun E w => w = (wA Y ad (nI P) (nI N) (bi ru) (nI a) (nI b) (nI mv0) (bi me) (fun d => nI (P ^ d)) (fun d => bi (cb d)) (fun k => bi (al k)) (fun k => nI (tr k)) to fa se qu sp) ∧ ((E = xIOO ∧ inr x N = false) ∨ (E = xIAE ∧ inr x N = true ∧ rg y 0 1 = false))) K := T
  refine j_eq (lo' := [some (.ref (ad 0)), some (.int x), some (.int y), none]) rfl rfl rfl ?_
  obtain ⟨hP3, hP5, hN1, hN6⟩ := id hc
  have hP0 : 0 < P := by omega
  have hp2 : P ^ N ≤ 15625 := cfg_pw hc (by omega)
  refine j_aload_n C dX0_setColour_0 rfl ?_
  refine j_iload_n C dX0_setColour_1 rfl ?_
  refine j_callV1i C (ct_X0_isDisk (by omega)) gw_0_57 nd_X0_isDisk 0 0 rfl rfl rfl ⟨by decide, by decide⟩ ⟨Nat.le_of_ble_eq_true rfl, Nat.le_of_ble_eq_true rfl⟩ (Nat.le_of_ble_eq_true rfl) dX0_setColour_2 (fun x_1 w_1 hp => ?_)
  obtain ⟨rfl, rfl⟩ := hp
  refine jB_if_ne C 18 dX0_setColour_5 (by decide) (fun c_5 => ?_) (fun c_5 => ?_)
  · refine j_iload_n C dX0_setColour_18 rfl ?_
    refine j_if_lt C 27 dX0_setColour_19 (by decide) (fun c_19 => ?_) (fun c_19 => ?_)
    · exact j_thr1 C X T wd_cl0_46 (is := 100) (j := 6) rfl dX0_setColour_27 dX0_setColour_30 dX0_setColour_31 dX0_setColour_33 dX0_setColour_36 (by decide) (by decide) (by decide) (by decide) (by decide) (by decide) ⟨rfl, Or.inr ⟨rfl, c_5, rg_f1 (by omega) c_19⟩⟩
    · refine j_iload_n C dX0_setColour_22 rfl ?_
      refine j_iconst C (nI 1) dX0_setColour_23 (by decide) ?_
      refine j_icmp_le C 37 dX0_setColour_24 (by decide) (fun c_24 => ?_) (fun c_24 => ?_)
      · obtain ⟨d, hd, rfl⟩ := inr_of c_5 (by omega)
        have hrg := rg_t (x := y) (lo := 0) (hi := 1) (by omega) (by omega) c_19 c_24
        obtain ⟨j, -, hj, ej⟩ := rg_of (by omega) hrg
        obtain ⟨z, hz⟩ := nI_bi hj
        rw [hz] at ej
        subst ej
        refine j_aload_n C dX0_setColour_37 rfl ?_
        refine g0_colour C dX0_setColour_38 ?_
        refine j_iload_n C dX0_setColour_41 rfl ?_
        refine l0_co C _ rfl (by omega) dX0_setColour_42 ?_
        refine j_istore_3 C dX0_setColour_43 (by decide) ?_
        refine j_aload_n C dX0_setColour_44 rfl ?_
        refine g0_colour C dX0_setColour_45 ?_
        refine j_iload_n C dX0_setColour_48 rfl ?_
        refine j_iload_n C dX0_setColour_49 rfl ?_
        refine s0_co C _ rfl (by omega) dX0_setColour_50 ?_
        refine j_aload_n C dX0_setColour_51 rfl ?_
        refine j_iconst C (bi false) dX0_setColour_52 (by decide) ?_
        refine p0_measured C dX0_setColour_53 ?_
        refine j_iload_n C dX0_setColour_56 rfl ?_
        refine j_widen (Nat.zero_le 1) (Nat.zero_le 6) ?_
        exact j_reti C R dX0_setColour_57 ⟨d, z, rfl, hd, rfl, hrg, rfl, by rw [upd_bi]⟩
      · exact j_thr1 C X T wd_cl0_46 (is := 100) (j := 6) rfl dX0_setColour_27 dX0_setColour_30 dX0_setColour_31 dX0_setColour_33 dX0_setColour_36 (by decide) (by decide) (by decide) (by decide) (by decide) (by decide) ⟨rfl, Or.inr ⟨rfl, c_5, rg_f3 (by omega) c_24⟩⟩
  · exact j_thr2 C X T wd_cl0_64 (is := 98) (j := 5) rfl dX0_setColour_8 dX0_setColour_11 dX0_setColour_12 dX0_setColour_14 dX0_setColour_17 (by decide) (by decide) (by decide) (by decide) (by decide) (by decide) ⟨rfl, Or.inl ⟨rfl, c_5⟩⟩
abbrev rm_X0_takeBack : Room := { frames := 6, cells := 1, slots := 6, locals := 82 }
set_option maxHeartbeats 4000000 in
set_option maxRecDepth 100000 in
theorem ct_X0_takeBack {l : Launch} {D : va_G} {Y : jy_T} {ad : Nat → Nat} {P N a b mv0 : Nat} {ru me : Bool} {cb al : Nat → Bool} {tr : Nat → Nat} {to fa se qu sp : Nat → Int32} (hc : cfg P N) (ha : a < P ^ N) (hb : b < P ^ N) (hm0 : mv0 ≤ 500) (hl : l.stackTraces = false) :
    MX l yX0_takeBack cX0_takeBack 1 (some .int) rm_X0_takeBack D Y [.ref (ad 0)] (wA Y ad (nI P) (nI N) (bi ru) (nI a) (nI b) (nI mv0) (bi me) (fun d => nI (P ^ d)) (fun d => bi (cb d)) (fun k => bi (al k)) (fun k => nI (tr k)) to fa se qu sp) (jI (fun r w => 0 < mv0 ∧ r = nI (mv0 - 1) ∧ w = (wA Y ad (nI P) (nI N) (bi ru) (nI (tr (mv0 - 1))) (nI b) (nI (mv0 - 1)) (bi me) (fun d => nI (P ^ d)) (fun d => bi (cb d)) (fun k => bi (al k)) (fun k => nI (tr k)) to fa se qu sp))) (fun E w => E = xISE ∧ mv0 = 0 ∧ w = (wA Y ad (nI P) (nI N) (bi ru) (nI a) (nI b) (nI mv0) (bi me) (fun d => nI (P ^ d)) (fun d => bi (cb d)) (fun k => bi (al k)) (fun k => nI (tr k)) to fa se qu sp)) := by
  refine j_enterX hl (by decide) (Nat.le_of_ble_eq_true rfl) (fun v hv => by rw [List.mem_singleton.mp hv]; rfl) (fun K hl2 hD C R X T => ?_)
  subst hl2; subst hD
  have C : jC cX0_takeBack RX0 Y rm_X0_takeBack 1 K := C
  have R : jR Y (some .int) 1 6 (jI (fun r w => 0 < mv0 ∧ r = nI (mv0 - 1) ∧ w = (wA Y ad (nI P) (nI N) (bi ru) (nI (tr (mv0 - 1))) (nI b) (nI (mv0 - 1)) (bi me) (fun d => nI (P ^ d)) (fun d => bi (cb d)) (fun k => bi (al k)) (fun k => nI (tr k)) to fa se qu sp))) K := R
  have T : jT Y 1 6 (jI (fun r w => 0 < mv0 ∧ r = nI (mv0 - 1) ∧ w = (wA Y ad (nI P) (nI N) (bi ru) (nI (tr (mv0 - 1))) (nI b) (nI (mv0 - 1)) (bi me) (fun d => nI (P ^ d)) (fun d => bi (cb d)) (fun k => bi (al k)) (fun k => nI (tr k)) to fa se qu sp))) (fun E w => E = xISE ∧ mv0 = 0 ∧ w = (wA Y ad (nI P) (nI N) (bi ru) (nI a) (nI b) (nI mv0) (bi me) (fun d => nI (P ^ d)) (fun d => bi (cb d)) (fun k => bi (al k)) (fun k => nI (tr k)) to fa se qu sp)) K := T
  refine j_eq (lo' := [some (.ref (ad 0))]) rfl rfl rfl ?_
  obtain ⟨hP3, hP5, hN1, hN6⟩ := id hc
  have hP0 : 0 < P := by omega
  have hp2 : P ^ N ≤ 15625 := cfg_pw hc (by omega)
  refine j_aload_n C dX0_takeBack_0 rfl ?_
  refine g0_moveCount C dX0_takeBack_1 ?_
  refine j_iconst C (nI 1) dX0_takeBack_4 (by decide) ?_
  refine jN_icmp_ge C 18 (by omega) (by omega) dX0_takeBack_5 (by decide) (fun c_5 => ?_) (fun c_5 => ?_)
  · refine j_aload_n C dX0_takeBack_18 rfl ?_
    refine j_dup C dX0_takeBack_19 rfl ?_
    refine g0_moveCount C dX0_takeBack_20 ?_
    refine j_iconst C (nI 1) dX0_takeBack_23 (by decide) ?_
    refine j_isub C dX0_takeBack_24 ?_
    refine j_top _ (nI (mv0 - 1)) (pk_sub (by omega)) ?_
    refine p0_moveCount C dX0_takeBack_25 ?_
    refine j_aload_n C dX0_takeBack_28 rfl ?_
    refine j_aload_n C dX0_takeBack_29 rfl ?_
    refine g0_trail C dX0_takeBack_30 ?_
    refine j_aload_n C dX0_takeBack_33 rfl ?_
    refine g0_moveCount C dX0_takeBack_34 ?_
    refine l0_tr C _ rfl (by omega) dX0_takeBack_37 ?_
    refine p0_now C dX0_takeBack_38 ?_
    refine j_aload_n C dX0_takeBack_41 rfl ?_
    refine g0_moveCount C dX0_takeBack_42 ?_
    refine j_widen (Nat.zero_le 1) (Nat.zero_le 6) ?_
    exact j_reti C R dX0_takeBack_45 ⟨by omega, rfl, rfl⟩
  · exact j_thr3 C X T wd_cl0_72 (is := 115) (j := 8) rfl dX0_takeBack_8 dX0_takeBack_11 dX0_takeBack_12 dX0_takeBack_14 dX0_takeBack_17 (by decide) (by decide) (by decide) (by decide) (by decide) (by decide) ⟨rfl, by omega, rfl⟩
abbrev rm_X0_move : Room := { frames := 6, cells := 1, slots := 6, locals := 91 }
set_option maxHeartbeats 4000000 in
set_option maxRecDepth 100000 in
theorem ct_X0_move {l : Launch} {D : va_G} {Y : jy_T} {ad : Nat → Nat} {P N a b mv0 : Nat} {ru me : Bool} {cb al : Nat → Bool} {tr : Nat → Nat} {to fa se qu sp : Nat → Int32}{x y : Int32} (hc : cfg P N) (ha : a < P ^ N) (hb : b < P ^ N) (hm0 : mv0 ≤ 500) (hl : l.stackTraces = false) :
    MX l yX0_move cX0_move 4 (some .int) rm_X0_move D Y [.ref (ad 0), .int x, .int y] (wA Y ad (nI P) (nI N) (bi ru) (nI a) (nI b) (nI mv0) (bi me) (fun d => nI (P ^ d)) (fun d => bi (cb d)) (fun k => bi (al k)) (fun k => nI (tr k)) to fa se qu sp) (jI (fun r w => ∃ f t d to1, x = nI f ∧ f < P ∧ y = nI t ∧ t < P ∧ mv0 < 500 ∧ psB P N ru cb al a f t = true ∧ tp P N a f = some d ∧ r = nI d ∧ w = (wA Y ad (nI P) (nI N) (bi ru) (nI (mv P N a f t)) (nI b) (nI (mv0 + 1)) (bi me) (fun d => nI (P ^ d)) (fun d => bi (cb d)) (fun k => bi (al k)) (fun k => nI (updN tr mv0 a k)) to1 fa se qu sp))) (fun E w => (E = xIOO ∧ (inr x P && inr y P) = false ∧ w = (wA Y ad (nI P) (nI N) (bi ru) (nI a) (nI b) (nI mv0) (bi me) (fun d => nI (P ^ d)) (fun d => bi (cb d)) (fun k => bi (al k)) (fun k => nI (tr k)) to fa se qu sp)) ∨ (E = xISE ∧ ∃ f t to1, x = nI f ∧ f < P ∧ y = nI t ∧ t < P ∧ (500 ≤ mv0 ∨ psB P N ru cb al a f t = false) ∧ w = (wA Y ad (nI P) (nI N) (bi ru) (nI a) (nI b) (nI mv0) (bi me) (fun d => nI (P ^ d)) (fun d => bi (cb d)) (fun k => bi (al k)) (fun k => nI (tr k)) to1 fa se qu sp))) := by
  refine j_enterX hl (by decide) (Nat.le_of_ble_eq_true rfl) (fun v hv => by simp only [List.mem_cons, List.not_mem_nil, or_false] at hv; rcases hv with rfl | rfl | rfl <;> rfl) (fun K hl2 hD C R X T => ?_)
  subst hl2; subst hD
  have C : jC cX0_move RX0 Y rm_X0_move 4 K := C
  have R : jR Y (some .int) 1 6 (jI (fun r w => ∃ f t d to1, x = nI f ∧ f < P ∧ y = nI t ∧ t < P ∧ mv0 < 500 ∧ psB P N ru cb al a f t = true ∧ tp P N a f = some d ∧ r = nI d ∧ w = (wA Y ad (nI P) (nI N) (bi ru) (nI (mv P N a f t)) (nI b) (nI (mv0 + 1)) (bi me) (fun d => nI (P ^ d)) (fun d => bi (cb d)) (fun k => bi (al k)) (fun k => nI (updN tr mv0 a k)) to1 fa se qu sp))) K := R
  have T : jT Y 1 6 (jI (fun r w => ∃ f t d to1, x = nI f ∧ f < P ∧ y = nI t ∧ t < P ∧ mv0 < 500 ∧ psB P N ru cb al a f t = true ∧ tp P N a f = some d ∧ r = nI d ∧ w = (wA Y ad (nI P) (nI N) (bi ru) (nI (mv P N a f t)) (nI b) (nI (mv0 + 1)) (bi me) (fun d => nI (P ^ d)) (fun d => bi (cb d)) (fun k => bi (al k)) (fun k => nI (updN tr mv0 a k)) to1 fa se qu sp))) (fun E w => (E = xIOO ∧ (inr x P && inr y P) = false ∧ w = (wA Y ad (nI P) (nI N) (bi ru) (nI a) (nI b) (nI mv0) (bi me) (fun d => nI (P ^ d)) (fun d => bi (cb d)) (fun k => bi (al k)) (fun k => nI (tr k)) to fa se qu sp)) ∨ (E = xISE ∧ ∃ f t to1, x = nI f ∧ f < P ∧ y = nI t ∧ t < P ∧ (500 ≤ mv0 ∨ psB P N ru cb al a f t = false) ∧ w = (wA Y ad (nI P) (nI N) (bi ru) (nI a) (nI b) (nI mv0) (bi me) (fun d => nI (P ^ d)) (fun d => bi (cb d)) (fun k => bi (al k)) (fun k => nI (tr k)) to1 fa se qu sp))) K := T
  refine j_eq (lo' := [some (.ref (ad 0)), some (.int x), some (.int y), none]) rfl rfl rfl ?_
  obtain ⟨hP3, hP5, hN1, hN6⟩ := id hc
  have hP0 : 0 < P := by omega
  have hp2 : P ^ N ≤ 15625 := cfg_pw hc (by omega)
  refine j_aload_n C dX0_move_0 rfl ?_
  refine j_iload_n C dX0_move_1 rfl ?_
  refine j_callV1i C (ct_X0_isPeg (by omega)) gw_0_61 nd_X0_isPeg 0 0 rfl rfl rfl ⟨by decide, by decide⟩ ⟨Nat.le_of_ble_eq_true rfl, Nat.le_of_ble_eq_true rfl⟩ (Nat.le_of_ble_eq_true rfl) dX0_move_2 (fun x_1 w_1 hp => ?_)
  obtain ⟨rfl, rfl⟩ := hp
  refine jB_if_eq C 16 dX0_move_5 (by decide) (fun c_5 => ?_) (fun c_5 => ?_)
  · exact j_thr2 C X T wd_cl0_64 (is := 91) (j := 3) rfl dX0_move_16 dX0_move_19 dX0_move_20 dX0_move_22 dX0_move_25 (by decide) (by decide) (by decide) (by decide) (by decide) (by decide) (Or.inl ⟨rfl, by rw [c_5]; rfl, rfl⟩)
  · refine j_aload_n C dX0_move_8 rfl ?_
    refine j_iload_n C dX0_move_9 rfl ?_
    refine j_callV1i C (ct_X0_isPeg (by omega)) gw_0_61 nd_X0_isPeg 0 0 rfl rfl rfl ⟨by decide, by decide⟩ ⟨Nat.le_of_ble_eq_true rfl, Nat.le_of_ble_eq_true rfl⟩ (Nat.le_of_ble_eq_true rfl) dX0_move_10 (fun x_1 w_1 hp => ?_)
    obtain ⟨rfl, rfl⟩ := hp
    refine jB_if_ne C 26 dX0_move_13 (by decide) (fun c_13 => ?_) (fun c_13 => ?_)
    · obtain ⟨f, hf, rfl⟩ := inr_of c_5 (by omega)
      obtain ⟨t, ht, rfl⟩ := inr_of c_13 (by omega)
      refine j_aload_n C dX0_move_26 rfl ?_
      refine g0_moveCount C dX0_move_27 ?_
      refine j_sipush C (nI 500) dX0_move_30 (by decide) ?_
      refine jN_icmp_ge C 45 (by omega) (by omega) dX0_move_33 (by decide) (fun c_33 => ?_) (fun c_33 => ?_)
      · exact j_thr3 C X T wd_cl0_72 (is := 109) (j := 7) rfl dX0_move_45 dX0_move_48 dX0_move_49 dX0_move_51 dX0_move_54 (by decide) (by decide) (by decide) (by decide) (by decide) (by decide) (Or.inr ⟨rfl, f, t, to, rfl, hf, rfl, ht, Or.inl c_33, rfl⟩)
      · refine j_aload_n C dX0_move_36 rfl ?_
        refine j_iload_n C dX0_move_37 rfl ?_
        refine j_iload_n C dX0_move_38 rfl ?_
        refine j_callV2i C (ct_X0_isPossible hc ha (by omega) (by omega)) gw_0_105 nd_X0_isPossible 0 0 rfl rfl rfl ⟨by decide, by decide⟩ ⟨Nat.le_of_ble_eq_true rfl, Nat.le_of_ble_eq_true rfl⟩ (Nat.le_of_ble_eq_true rfl) dX0_move_39 (fun x_1 w_1 hp => ?_)
        obtain ⟨rfl, to1, hto, rfl⟩ := hp
        refine jB_if_ne C 55 dX0_move_42 (by decide) (fun c_42 => ?_) (fun c_42 => ?_)
        · obtain ⟨-, d, hd, -⟩ := ftB_some (psB_ft c_42)
          refine j_aload_n C dX0_move_55 rfl ?_
          refine g0_tops C dX0_move_56 ?_
          refine j_iload_n C dX0_move_59 rfl ?_
          refine l0_to C _ rfl (by omega) dX0_move_60 ?_
          refine j_top _ (nI d) (by rw [hto f (by omega), hd]; rfl) ?_
          refine j_istore_3 C dX0_move_61 (by decide) ?_
          refine j_aload_n C dX0_move_62 rfl ?_
          refine g0_trail C dX0_move_63 ?_
          refine j_aload_n C dX0_move_66 rfl ?_
          refine g0_moveCount C dX0_move_67 ?_
          refine j_aload_n C dX0_move_70 rfl ?_
          refine g0_now C dX0_move_71 ?_
          refine s0_tr C _ rfl (by omega) dX0_move_74 ?_
          refine j_aload_n C dX0_move_75 rfl ?_
          refine j_dup C dX0_move_76 rfl ?_
          refine g0_moveCount C dX0_move_77 ?_
          refine j_iconst C (nI 1) dX0_move_80 (by decide) ?_
          refine j_iadd C dX0_move_81 ?_
          refine j_top _ _ (nI_add _ _) ?_
          refine p0_moveCount C dX0_move_82 ?_
          refine j_aload_n C dX0_move_85 rfl ?_
          refine j_aload_n C dX0_move_86 rfl ?_
          refine j_aload_n C dX0_move_87 rfl ?_
          refine g0_now C dX0_move_88 ?_
          refine j_iload_n C dX0_move_91 rfl ?_
          refine j_iload_n C dX0_move_92 rfl ?_
          refine j_callV3i C (ct_X0_behindMove (d := d) (by omega) (by omega) (by omega) (by rw [hto f (by omega), hd]; rfl) (tp_lt hd) (tp_le hd)) gw_0_111 nd_X0_behindMove 0 0 rfl rfl rfl ⟨by decide, by decide⟩ ⟨Nat.le_of_ble_eq_true rfl, Nat.le_of_ble_eq_true rfl⟩ (Nat.le_of_ble_eq_true rfl) dX0_move_93 (fun x_1 w_1 hp => ?_)
          obtain ⟨rfl, rfl⟩ := hp
          refine j_top _ (nI (mv P N a f t)) (by rw [mv_some hd]) ?_
          refine p0_now C dX0_move_96 ?_
          refine j_iload_n C dX0_move_99 rfl ?_
          refine j_widen (Nat.zero_le 1) (Nat.zero_le 6) ?_
          exact j_reti C R dX0_move_100 ⟨f, t, d, to1, rfl, hf, rfl, ht, c_33, c_42, hd, rfl, by rw [upd_nI]⟩
        · exact j_thr3 C X T wd_cl0_72 (is := 109) (j := 7) rfl dX0_move_45 dX0_move_48 dX0_move_49 dX0_move_51 dX0_move_54 (by decide) (by decide) (by decide) (by decide) (by decide) (by decide) (Or.inr ⟨rfl, f, t, to1, rfl, hf, rfl, ht, Or.inr c_42, rfl⟩)
    · exact j_thr2 C X T wd_cl0_64 (is := 91) (j := 3) rfl dX0_move_16 dX0_move_19 dX0_move_20 dX0_move_22 dX0_move_25 (by decide) (by decide) (by decide) (by decide) (by decide) (by decide) (Or.inl ⟨rfl, by rw [c_13, Bool.and_false], rfl⟩)
