section JL
variable {K : jk_T} {cc : ByteArray} {own : String} {Y : jy_T} {rm : Room} {nL k n pc : Nat} {lo : List (Option Value)} {st : List Value} {ws : va_W}
theorem j_lconst (C : jC cc own Y rm nL K) {i : Fin 2} (v : Int64) (hd : decode cc pc = .ok (.lconst i, 1)) (hv : Int64.ofNat (i : Nat) = v) (kk : jJ K k n (pc + 1) lo (.long v :: st) ws) : jJ K k n pc lo st ws :=
  fun H locs ls hP hD hS hl => lv_lconst C.1 C.2.1 hd hv (kk H locs ls hP hD hS hl)
theorem j_i2l (C : jC cc own Y rm nL K) {x : Int32} (hd : decode cc pc = .ok (.i2l, 1)) (kk : jJ K k n (pc + 1) lo (.long x.toInt64 :: st) ws) : jJ K k n pc lo (.int x :: st) ws :=
  fun H locs ls hP hD hS hl => lv_i2l C.1 C.2.1 hd rfl (kk H locs ls hP hD hS hl)
theorem j_lcmp (C : jC cc own Y rm nL K) {x y : Int64} (hd : decode cc pc = .ok (.lcmp, 1)) (kk : jJ K k n (pc + 1) lo (.int (lg_cmp x y) :: st) ws) : jJ K k n pc lo (.long y :: .long x :: st) ws :=
  fun H locs ls hP hD hS hl => W.lcmp C.1 C.2.1 hd (kk H locs ls hP hD hS hl)
theorem j_lald (C : jC cc own Y rm nL K) (q0 : Nat) {a N : Nat} {f : Nat → Int64} (ha : ws[q0]? = some (a, .inl (Y.2.2, N, .inr (.inl f)))) {i : Int32} (j : Nat) (hi : i = nI j) (hj : j < N) (hN : N < 2 ^ 31) (hd : decode cc pc = .ok (.laload, 1)) (kk : jJ K k n (pc + 1) lo (.long (f j) :: st) ws) : jJ K k n pc lo (.int i :: .ref a :: st) ws := by
  subst hi
  intro H locs ls hP hD hS hl
  have h := kk H locs ls hP hD hS hl
  rw [← nI_clamp (n := j) (by omega)] at h
  exact va_lald C.1 C.2.1 C.2.2.2.2.1 hP q0 2 ha rfl (vp_in_nI hj hN) hd h
theorem j_last (C : jC cc own Y rm nL K) (q0 : Nat) {a N : Nat} {f : Nat → Int64} (ha : ws[q0]? = some (a, .inl (Y.2.2, N, .inr (.inl f)))) {i : Int32} {x : Int64} (j : Nat) (hi : i = nI j) (hj : j < N) (hN : N < 2 ^ 31) {ws2 : va_W} (hd : decode cc pc = .ok (.lastore, 1)) (hs : ws.set q0 (a, .inl (Y.2.2, N, .inr (.inl (vp_updL f j x)))) = ws2) (kk : jJ K k n (pc + 1) lo st ws2) : jJ K k n pc lo (.long x :: .int i :: .ref a :: st) ws := by
  subst hi
  subst hs
  intro H locs ls hP hD hS hl
  refine va_last C.1 C.2.1 C.2.2.2.2.1 hP hD hS q0 2 ha rfl (vp_in_nI hj hN) hd (fun H1 locs1 hP1 hD1 hS1 => ?_)
  rw [nI_clamp (n := j) (by omega)] at hP1 hD1
  exact kk H1 locs1 ls hP1 hD1 hS1 hl
theorem j_newa_long (C : jC cc own Y rm nL K) (N : Nat) {x : Int32} (hx : x = nI N) (hN : N < 100000) (hk : k + 1 ≤ rm.cells) (hn : n + N ≤ rm.slots) (hd : decode cc pc = .ok (.newarray .long, 2)) (kk : ∀ q : Nat, jJ K (k + 1) (n + N) (pc + 2) lo (.ref q :: st) (ws ++ [(q, .inl (Y.2.2, N, .inr (.inl (fun _ => 0))))])) : jJ K k n pc lo (.int x :: st) ws := by
  subst hx
  intro H locs ls hP hD hS hl
  have hcl : (nI N).toNatClampNeg = N := nI_clamp (by omega)
  refine va_newa (atype := .long) (a0 := (N, .inr (.inl (fun _ => 0)))) (ty := .long) (N' := N) C.1 C.2.1 (C.2.2.2.1 _ wd_ac_long) rfl C.2.2.2.2.1 hP hD hS C.2.2.2.2.2.1 (fun cA => rfl) (nI_pos (by omega)) hcl (by show N * _ ≤ 536870912; simp only [componentBytes]; omega) (by rw [C.2.2.2.2.2.2.2.2.1]; exact hk) (by rw [C.2.2.2.2.2.2.2.2.1]; exact hn) hd (fun q cA H1 hK1 hP1 hD1 hS1 => ?_)
  have e1 := (C.2.2.2.2.1.2 2 _ rfl).2
  have e2 := (hK1.2 3 (cA, .long) rfl).2
  have e3 : cA = Y.2.2 := by
    have e4 : some cA = some Y.2.2 := e2.symm.trans e1
    exact Option.some.inj e4
  subst e3
  exact kk q H1 locs ls hP1 hD1 hS1 hl
theorem j_sld (C : jC cc own Y rm nL K) {b L : Nat} {xs : Nat → Int32} (hX : va_X b L xs K.1.2.2.2.2 K.1.2.2.2.2.heap) (hbl : b < K.1.2.2.2.2.heap.size) (hbA : ¬ K.2.2.1.1 b) {i : Int32} (j : Nat) (hi : i = nI j) (hj : j < L) (hN : L < 2 ^ 31) (hd : decode cc pc = .ok (.iaload, 1)) (kk : jJ K k n (pc + 1) lo (.int (xs j) :: st) ws) : jJ K k n pc lo (.int i :: .ref b :: st) ws := by
  subst hi
  intro H locs ls hP hD hS hl
  have h := kk H locs ls hP hD hS hl
  rw [← nI_clamp (n := j) (by omega)] at h
  exact va_sld C.1 C.2.1 hX hbl hbA hS (vp_in_nI hj hN) hd h
theorem j_slen (C : jC cc own Y rm nL K) {b L : Nat} {xs : Nat → Int32} (hX : va_X b L xs K.1.2.2.2.2 K.1.2.2.2.2.heap) (hbl : b < K.1.2.2.2.2.heap.size) (hbA : ¬ K.2.2.1.1 b) (hd : decode cc pc = .ok (.arraylength, 1)) (kk : jJ K k n (pc + 1) lo (.int (nI L) :: st) ws) : jJ K k n pc lo (.ref b :: st) ws :=
  fun H locs ls hP hD hS hl => va_slen C.1 C.2.1 hX hbl hbA hS hd (kk H locs ls hP hD hS hl)
theorem j_tabIn (C : jC cc own Y rm nL K) {dflt lo9 hi9 : Int} {offs : Array Int} {len : Nat} (x : Nat) {off : Int} (tgt : Nat) (hd : decode cc pc = .ok (.tableswitch dflt lo9 hi9 offs, len)) (h1 : ¬ (x : Int) < lo9) (h2 : ¬ hi9 < (x : Int)) (hx : x < 100) (ho : offs[((x : Int) - lo9).toNat]? = some off) (ht : (pc : Int) + off = (tgt : Int)) (kk : jJ K k n tgt lo st ws) : jJ K k n pc lo (.int (nI x) :: st) ws :=
  fun H locs ls hP hD hS hl => lv_tableIn C.1 C.2.1 hd (by rw [nI_toInt (by omega)]; exact h1) (by rw [nI_toInt (by omega)]; exact h2) (by rw [nI_toInt (by omega)]; exact ho) ht (kk H locs ls hP hD hS hl)
theorem j_tabOut (C : jC cc own Y rm nL K) {dflt lo9 hi9 : Int} {offs : Array Int} {len : Nat} (x : Nat) (tgt : Nat) (hd : decode cc pc = .ok (.tableswitch dflt lo9 hi9 offs, len)) (h : hi9 < (x : Int)) (hx : x < 100) (ht : (pc : Int) + dflt = (tgt : Int)) (kk : jJ K k n tgt lo st ws) : jJ K k n pc lo (.int (nI x) :: st) ws :=
  fun H locs ls hP hD hS hl => lv_tableOut C.1 C.2.1 hd (Or.inr (by rw [nI_toInt (by omega)]; exact h)) ht (kk H locs ls hP hD hS hl)
theorem lg_cmp_self (x : Int64) : lg_cmp x x = 0 := by
  unfold lg_cmp
  simp
end JL
