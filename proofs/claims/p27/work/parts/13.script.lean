section JL
variable {K : jk_T} {cc : ByteArray} {own : String} {Y : jy_T} {rm : Room} {nL k n pc : Nat} {lo : List (Option Value)} {st : List Value} {ws : va_W}
theorem j_sld (C : jC cc own Y rm nL K) {b L : Nat} {xs : Nat → Int32} (hX : va_X b L xs K.1.2.2.2.2 K.1.2.2.2.2.heap) (hbl : b < K.1.2.2.2.2.heap.size) (hbA : ¬ K.2.2.1.1 b) {i : Int32} (j : Nat) (hi : i = nI j) (hj : j < L) (hN : L < 2 ^ 31) (hd : decode cc pc = .ok (.iaload, 1)) (kk : jJ K k n (pc + 1) lo (.int (xs j) :: st) ws) : jJ K k n pc lo (.int i :: .ref b :: st) ws := by
  subst hi
  intro H locs ls hP hD hS hl
  have h := kk H locs ls hP hD hS hl
  rw [← nI_clamp (n := j) (by omega)] at h
  exact va_sld C.1 C.2.1 hX hbl hbA hS (vp_in_nI hj hN) hd h
theorem j_slen (C : jC cc own Y rm nL K) {b L : Nat} {xs : Nat → Int32} (hX : va_X b L xs K.1.2.2.2.2 K.1.2.2.2.2.heap) (hbl : b < K.1.2.2.2.2.heap.size) (hbA : ¬ K.2.2.1.1 b) (hd : decode cc pc = .ok (.arraylength, 1)) (kk : jJ K k n (pc + 1) lo (.int (nI L) :: st) ws) : jJ K k n pc lo (.ref b :: st) ws :=
  fun H locs ls hP hD hS hl => va_slen C.1 C.2.1 hX hbl hbA hS hd (kk H locs ls hP hD hS hl)
theorem j_tabIn (C : jC cc own Y rm nL K) {dflt lo9 hi9 : Int} {offs : Array Int} {len : Nat} (x : Nat) {off : Int} (tgt : Nat) (hd : decode cc pc = .ok (.tableswitch dflt lo9 hi9 offs, len)) (h1 : ¬ (x : Int) < lo9) (h2 : ¬ hi9 < (x : Int)) (hx : x < 100) (ho : offs[((x : Int) - lo9).toNat]? = some off) (ht : (pc : Int) + off = (tgt : Int)) (kk : jJ K k n tgt lo st ws) : jJ K k n pc lo (.int (nI x) :: st) ws :=
  fun H locs ls hP hD hS hl => lv_tableIn C.1 C.2.1 hd (by rw [nI_toInt (by omega)]; exact h1) (by rw [nI_toInt (by omega)]; exact h2) (by rw [nI_toInt (by omega)]; exact ho) ht (kk H locs ls hP hD hS hl)
theorem j_tabOut (C : jC cc own Y rm nL K) {dflt lo9 hi9 : Int} {offs : Array Int} {len : Nat} (x : Nat) (tgt : Nat) (hd : decode cc pc = .ok (.tableswitch dflt lo9 hi9 offs, len)) (h : hi9 < (x : Int)) (hx : x < 100) (ht : (pc : Int) + dflt = (tgt : Int)) (kk : jJ K k n tgt lo st ws) : jJ K k n pc lo (.int (nI x) :: st) ws :=
  fun H locs ls hP hD hS hl => lv_tableOut C.1 C.2.1 hd (Or.inr (by rw [nI_toInt (by omega)]; exact h)) ht (kk H locs ls hP hD hS hl)
end JL
