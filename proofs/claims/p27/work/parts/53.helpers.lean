theorem xW_IAE : Cond.castable "java/lang/IllegalArgumentException" "java/lang/IllegalArgumentException" ∈ xW := by decide +kernel
theorem xW_IOO : Cond.castable "java/lang/IndexOutOfBoundsException" "java/lang/IndexOutOfBoundsException" ∈ xW := by decide +kernel
theorem xW_ISE : Cond.castable "java/lang/IllegalStateException" "java/lang/IllegalStateException" ∈ xW := by decide +kernel
theorem x_ne1 : xISE ≠ xIOO := by decide +kernel
theorem x_ne2 : xIAE ≠ xIOO := by decide +kernel
def loI (x n : Int32) : Int32 := (x &&& 2147483647) - (x &&& 2147483647) / n * n
abbrev rm_L_low : Room := { frames := 0, cells := 0, slots := 0, locals := 0 }
set_option maxHeartbeats 4000000 in
set_option maxRecDepth 100000 in
theorem ct_L_low {l : Launch} {D : va_G} {Y : jy_T} {ad : Nat → Nat} {ws : va_W} {x y : Int32} (hy : ¬ y = 0) :
    MJ l yL_low cL_low 2 (some .int) rm_L_low D Y [.int x, .int y] ws (jI (fun r w => r = loI x y ∧ w = ws)) := by
  refine j_enter (by decide) (Nat.le_of_ble_eq_true rfl) (fun v hv => by simp only [List.mem_cons, List.not_mem_nil, or_false] at hv; rcases hv with rfl | rfl <;> rfl) (fun K hl hD hnm C R => ?_)
  subst hl; subst hD
  have C : jC cL_low RL Y rm_L_low 2 K := C
  have R : jR Y (some .int) 0 0 (jI (fun r w => r = loI x y ∧ w = ws)) K := R
  refine j_eq (lo' := [some (.int x), some (.int y)]) rfl rfl rfl ?_
  refine j_iload_n C dL_low_0 rfl ?_
  refine j_ldc C dL_low_1 wd_kL_7 ?_
  refine j_iand C dL_low_3 ?_
  refine j_iload_n C dL_low_4 rfl ?_
  refine j_irem C dL_low_5 hy ?_
  exact j_reti C R dL_low_6 ⟨rfl, rfl⟩
abbrev rm_L_cell : Room := { frames := 0, cells := 0, slots := 0, locals := 0 }
set_option maxHeartbeats 4000000 in
set_option maxRecDepth 100000 in
theorem ct_L_cell {l : Launch} {D : va_G} {Y : jy_T} {b L j : Nat} {xs : Nat → Int32} (hL : L < 2 ^ 31) (hj : j < 2 ^ 31) :
    MS l yL_cell cL_cell 2 (some .int) rm_L_cell D Y [.ref b, .int (nI j)] b L xs (jI (fun _ w => w = [])) := by
  refine j_enterS (by decide) (Nat.le_of_ble_eq_true rfl) (fun v hv => by simp only [List.mem_cons, List.not_mem_nil, or_false] at hv; rcases hv with rfl | rfl <;> rfl) (fun K hl hD C R hX hbl hbA => ?_)
  subst hl; subst hD
  have C : jC cL_cell RL Y rm_L_cell 2 K := C
  have R : jR Y (some .int) 0 0 (jI (fun _ w => w = [])) K := R
  refine j_eq (lo' := [some (.ref b), some (.int (nI j))]) rfl rfl rfl ?_
  refine j_iload_n C dL_cell_0 rfl ?_
  refine j_aload_n C dL_cell_1 rfl ?_
  refine j_slen C hX hbl hbA dL_cell_2 ?_
  refine jN_icmp_ge C 12 hj hL dL_cell_3 (by decide) (fun c => ?_) (fun c => ?_)
  · refine j_sipush C 7919 dL_cell_12 (by decide) ?_
    refine j_iload_n C dL_cell_15 rfl ?_
    refine j_sipush C 431 dL_cell_16 (by decide) ?_
    refine j_iadd C dL_cell_19 ?_
    refine j_imul C dL_cell_20 ?_
    refine j_iload_n C dL_cell_21 rfl ?_
    refine j_sipush C 1453 dL_cell_22 (by decide) ?_
    refine j_iadd C dL_cell_25 ?_
    refine j_imul C dL_cell_26 ?_
    exact j_reti C R dL_cell_27 rfl
  · refine j_aload_n C dL_cell_6 rfl ?_
    refine j_iload_n C dL_cell_7 rfl ?_
    refine j_sld C hX hbl hbA j rfl c hL dL_cell_8 ?_
    refine j_goto C 27 dL_cell_9 (by decide) ?_
    exact j_reti C R dL_cell_27 rfl
abbrev rm_L_begin : Room := { frames := 7, cells := 1, slots := 6, locals := 104 }
set_option maxHeartbeats 4000000 in
set_option maxRecDepth 100000 in
theorem ct_L_begin {l : Launch} {D : va_G} {Y : jy_T} {ad : Nat → Nat} {x : Int32} {y : Int32} {p n ru nw tg mc me : Int32} {we co al tr to fa se qu sp : Nat → Int32} {P : Int32 → va_W → Prop} {Pex : String → va_W → Prop} (hM : MX l yX0_begin cX0_begin 3 (some .int) rm_X0_begin D Y [.ref (ad 0), .int x, .int y] (wA Y ad p n ru nw tg mc me we co al tr to fa se qu sp) (jI P) Pex) (hE : ∀ E w, Pex E w → E = xIAE) :
    MW l yL_begin cL_begin 4 (some .int) [(0, 6, 7, 14)] rm_L_begin D Y [.ref (ad 0), .int x, .int y] (wA Y ad p n ru nw tg mc me we co al tr to fa se qu sp) (jI (fun r w => (∃ v, r = v ∧ P v w) ∨ (∃ E, r = (-99999) ∧ Pex E w))) := by
  refine j_enterW (by decide) (Nat.le_of_ble_eq_true rfl) (fun v hv => by simp only [List.mem_cons, List.not_mem_nil, or_false] at hv; rcases hv with rfl | rfl | rfl <;> rfl) (fun K hl2 hD C R X tb => ?_)
  subst hl2; subst hD
  have C : jC cL_begin RL Y rm_L_begin 4 K := C
  have R : jR Y (some .int) 1 6 (jI (fun r w => (∃ v, r = v ∧ P v w) ∨ (∃ E, r = (-99999) ∧ Pex E w))) K := R
  refine j_eq (lo' := [some (.ref (ad 0)), some (.int x), some (.int y), none]) rfl rfl rfl ?_
  refine j_aload_n C dL_begin_0 rfl ?_
  refine j_iload_n C dL_begin_1 rfl ?_
  refine j_iload_n C dL_begin_2 rfl ?_
  refine j_callVX (wr := []) (st := []) C X [.int x, .int y] [0, 1, 2, 3, 4, 5, 6, 7, 8, 9] [] hM rfl rfl rfl rfl (by decide) gw_L_8 nd_X0_begin 0 0 rfl rfl rfl ⟨by decide, by decide⟩ ⟨Nat.le_of_ble_eq_true rfl, Nat.le_of_ble_eq_true rfl⟩ (Nat.le_of_ble_eq_true rfl) dL_begin_3 rfl (fun r w1 hp => ?_) (fun E w1 hp => ?_)
  · obtain ⟨v, rfl, hp⟩ := hp
    refine j_eq (st' := [.int v]) (ws2 := w1) rfl rfl rfl ?_
    exact j_reti C R dL_begin_6 (Or.inl ⟨v, rfl, hp⟩)
  · have e := hE E w1 hp
    subst e
    refine j_catch C tb [] (0, 6, 7, 14) [] rfl (fun z hz => absurd hz List.not_mem_nil) ⟨by decide, by decide⟩ (by decide) wd_clL_14 (X.2.2.1 _ xW_IAE) (fun q => ?_)
    refine j_eq (ws2 := w1) rfl rfl rfl ?_
    refine j_astore_3 C dL_begin_7 (by decide) ?_
    refine j_ldc C dL_begin_8 wd_kL_16 ?_
    exact j_reti C R dL_begin_10 (Or.inr ⟨_, rfl, hp⟩)
abbrev rm_L_put : Room := { frames := 7, cells := 1, slots := 6, locals := 105 }
set_option maxHeartbeats 4000000 in
set_option maxRecDepth 100000 in
theorem ct_L_put {l : Launch} {D : va_G} {Y : jy_T} {ad : Nat → Nat} {x : Int32} {y : Int32} {p n ru nw tg mc me : Int32} {we co al tr to fa se qu sp : Nat → Int32} {P : Int32 → va_W → Prop} {Pex : String → va_W → Prop} (hM : MX l yX0_put cX0_put 4 (some .int) rm_X0_put D Y [.ref (ad 0), .int x, .int y] (wA Y ad p n ru nw tg mc me we co al tr to fa se qu sp) (jI P) Pex) (hE : ∀ E w, Pex E w → E = xIOO ∨ E = xISE) :
    MW l yL_put cL_put 4 (some .int) [(0, 6, 7, 20), (0, 6, 11, 22)] rm_L_put D Y [.ref (ad 0), .int x, .int y] (wA Y ad p n ru nw tg mc me we co al tr to fa se qu sp) (jI (fun r w => (∃ v, r = v ∧ P v w) ∨ (∃ E, r = (-99999) ∧ Pex E w))) := by
  refine j_enterW (by decide) (Nat.le_of_ble_eq_true rfl) (fun v hv => by simp only [List.mem_cons, List.not_mem_nil, or_false] at hv; rcases hv with rfl | rfl | rfl <;> rfl) (fun K hl2 hD C R X tb => ?_)
  subst hl2; subst hD
  have C : jC cL_put RL Y rm_L_put 4 K := C
  have R : jR Y (some .int) 1 6 (jI (fun r w => (∃ v, r = v ∧ P v w) ∨ (∃ E, r = (-99999) ∧ Pex E w))) K := R
  refine j_eq (lo' := [some (.ref (ad 0)), some (.int x), some (.int y), none]) rfl rfl rfl ?_
  refine j_aload_n C dL_put_0 rfl ?_
  refine j_iload_n C dL_put_1 rfl ?_
  refine j_iload_n C dL_put_2 rfl ?_
  refine j_callVX (wr := []) (st := []) C X [.int x, .int y] [0, 1, 2, 3, 4, 5, 6, 7, 8, 9] [] hM rfl rfl rfl rfl (by decide) gw_L_17 nd_X0_put 0 0 rfl rfl rfl ⟨by decide, by decide⟩ ⟨Nat.le_of_ble_eq_true rfl, Nat.le_of_ble_eq_true rfl⟩ (Nat.le_of_ble_eq_true rfl) dL_put_3 rfl (fun r w1 hp => ?_) (fun E w1 hp => ?_)
  · obtain ⟨v, rfl, hp⟩ := hp
    refine j_eq (st' := [.int v]) (ws2 := w1) rfl rfl rfl ?_
    exact j_reti C R dL_put_6 (Or.inl ⟨v, rfl, hp⟩)
  · rcases hE E w1 hp with rfl | rfl
    · refine j_catch C tb [] (0, 6, 7, 20) [(0, 6, 11, 22)] rfl (fun z hz => absurd hz List.not_mem_nil) ⟨by decide, by decide⟩ (by decide) wd_clL_20 (X.2.2.1 _ xW_IOO) (fun q => ?_)
      refine j_eq (ws2 := w1) rfl rfl rfl ?_
      refine j_astore_3 C dL_put_7 (by decide) ?_
      refine j_ldc C dL_put_8 wd_kL_16 ?_
      exact j_reti C R dL_put_10 (Or.inr ⟨_, rfl, hp⟩)
    · refine j_catch C tb [(0, 6, 7, 20)] (0, 6, 11, 22) [] rfl (fun z hz => by rw [List.mem_singleton.mp hz]; exact ⟨by decide, _, wd_clL_20, X.2.2.2.2 _ (List.mem_of_getElem? (i := 3) rfl)⟩) ⟨by decide, by decide⟩ (by decide) wd_clL_22 (X.2.2.1 _ xW_ISE) (fun q => ?_)
      refine j_eq (ws2 := w1) rfl rfl rfl ?_
      refine j_astore_3 C dL_put_11 (by decide) ?_
      refine j_ldc C dL_put_12 wd_kL_16 ?_
      exact j_reti C R dL_put_14 (Or.inr ⟨_, rfl, hp⟩)
abbrev rm_L_aim : Room := { frames := 7, cells := 1, slots := 6, locals := 105 }
set_option maxHeartbeats 4000000 in
set_option maxRecDepth 100000 in
theorem ct_L_aim {l : Launch} {D : va_G} {Y : jy_T} {ad : Nat → Nat} {x : Int32} {y : Int32} {p n ru nw tg mc me : Int32} {we co al tr to fa se qu sp : Nat → Int32} {P : Int32 → va_W → Prop} {Pex : String → va_W → Prop} (hM : MX l yX0_aim cX0_aim 4 (some .int) rm_X0_aim D Y [.ref (ad 0), .int x, .int y] (wA Y ad p n ru nw tg mc me we co al tr to fa se qu sp) (jI P) Pex) (hE : ∀ E w, Pex E w → E = xIOO) :
    MW l yL_aim cL_aim 4 (some .int) [(0, 6, 7, 20)] rm_L_aim D Y [.ref (ad 0), .int x, .int y] (wA Y ad p n ru nw tg mc me we co al tr to fa se qu sp) (jI (fun r w => (∃ v, r = v ∧ P v w) ∨ (∃ E, r = (-99999) ∧ Pex E w))) := by
  refine j_enterW (by decide) (Nat.le_of_ble_eq_true rfl) (fun v hv => by simp only [List.mem_cons, List.not_mem_nil, or_false] at hv; rcases hv with rfl | rfl | rfl <;> rfl) (fun K hl2 hD C R X tb => ?_)
  subst hl2; subst hD
  have C : jC cL_aim RL Y rm_L_aim 4 K := C
  have R : jR Y (some .int) 1 6 (jI (fun r w => (∃ v, r = v ∧ P v w) ∨ (∃ E, r = (-99999) ∧ Pex E w))) K := R
  refine j_eq (lo' := [some (.ref (ad 0)), some (.int x), some (.int y), none]) rfl rfl rfl ?_
  refine j_aload_n C dL_aim_0 rfl ?_
  refine j_iload_n C dL_aim_1 rfl ?_
  refine j_iload_n C dL_aim_2 rfl ?_
  refine j_callVX (wr := []) (st := []) C X [.int x, .int y] [0, 1, 2, 3, 4, 5, 6, 7, 8, 9] [] hM rfl rfl rfl rfl (by decide) gw_L_24 nd_X0_aim 0 0 rfl rfl rfl ⟨by decide, by decide⟩ ⟨Nat.le_of_ble_eq_true rfl, Nat.le_of_ble_eq_true rfl⟩ (Nat.le_of_ble_eq_true rfl) dL_aim_3 rfl (fun r w1 hp => ?_) (fun E w1 hp => ?_)
  · obtain ⟨v, rfl, hp⟩ := hp
    refine j_eq (st' := [.int v]) (ws2 := w1) rfl rfl rfl ?_
    exact j_reti C R dL_aim_6 (Or.inl ⟨v, rfl, hp⟩)
  · have e := hE E w1 hp
    subst e
    refine j_catch C tb [] (0, 6, 7, 20) [] rfl (fun z hz => absurd hz List.not_mem_nil) ⟨by decide, by decide⟩ (by decide) wd_clL_20 (X.2.2.1 _ xW_IOO) (fun q => ?_)
    refine j_eq (ws2 := w1) rfl rfl rfl ?_
    refine j_astore_3 C dL_aim_7 (by decide) ?_
    refine j_ldc C dL_aim_8 wd_kL_16 ?_
    exact j_reti C R dL_aim_10 (Or.inr ⟨_, rfl, hp⟩)
abbrev rm_L_allow : Room := { frames := 7, cells := 1, slots := 6, locals := 107 }
set_option maxHeartbeats 4000000 in
set_option maxRecDepth 100000 in
theorem ct_L_allow {l : Launch} {D : va_G} {Y : jy_T} {ad : Nat → Nat} {x : Int32} {y : Int32} {z : Bool} {p n ru nw tg mc me : Int32} {we co al tr to fa se qu sp : Nat → Int32} {P : Int32 → va_W → Prop} {Pex : String → va_W → Prop} (hM : MX l yX0_allow cX0_allow 6 (some .boolean) rm_X0_allow D Y [.ref (ad 0), .int x, .int y, .int (bi z)] (wA Y ad p n ru nw tg mc me we co al tr to fa se qu sp) (jI P) Pex) (hE : ∀ E w, Pex E w → E = xIOO ∨ E = xIAE) :
    MW l yL_allow cL_allow 5 (some .int) [(0, 15, 16, 20), (0, 15, 21, 14)] rm_L_allow D Y [.ref (ad 0), .int x, .int y, .int (bi z)] (wA Y ad p n ru nw tg mc me we co al tr to fa se qu sp) (jI (fun r w => (∃ v, r = (if v = 0 then nI 0 else nI 1) ∧ P v w) ∨ (∃ E, r = (-99999) ∧ Pex E w))) := by
  refine j_enterW (by decide) (Nat.le_of_ble_eq_true rfl) (fun v hv => by simp only [List.mem_cons, List.not_mem_nil, or_false] at hv; rcases hv with rfl | rfl | rfl | rfl <;> rfl) (fun K hl2 hD C R X tb => ?_)
  subst hl2; subst hD
  have C : jC cL_allow RL Y rm_L_allow 5 K := C
  have R : jR Y (some .int) 1 6 (jI (fun r w => (∃ v, r = (if v = 0 then nI 0 else nI 1) ∧ P v w) ∨ (∃ E, r = (-99999) ∧ Pex E w))) K := R
  refine j_eq (lo' := [some (.ref (ad 0)), some (.int x), some (.int y), some (.int (bi z)), none]) rfl rfl rfl ?_
  refine j_aload_n C dL_allow_0 rfl ?_
  refine j_iload_n C dL_allow_1 rfl ?_
  refine j_iload_n C dL_allow_2 rfl ?_
  refine j_iload_n C dL_allow_3 rfl ?_
  refine j_callVX (wr := []) (st := []) C X [.int x, .int y, .int (bi z)] [0, 1, 2, 3, 4, 5, 6, 7, 8, 9] [] hM rfl rfl rfl rfl (by decide) gw_L_27 nd_X0_allow 0 0 rfl rfl rfl ⟨by decide, by decide⟩ ⟨Nat.le_of_ble_eq_true rfl, Nat.le_of_ble_eq_true rfl⟩ (Nat.le_of_ble_eq_true rfl) dL_allow_4 rfl (fun r w1 hp => ?_) (fun E w1 hp => ?_)
  · obtain ⟨v, rfl, hp⟩ := hp
    refine j_eq (st' := [.int v]) (ws2 := w1) rfl rfl rfl ?_
    refine j_if_eq C 14 dL_allow_7 (by decide) (fun c => ?_) (fun c => ?_)
    · refine j_iconst C (nI 0) dL_allow_14 (by decide) ?_
      exact j_reti C R dL_allow_15 (Or.inl ⟨v, by rw [if_pos c], hp⟩)
    · refine j_iconst C (nI 1) dL_allow_10 (by decide) ?_
      refine j_goto C 15 dL_allow_11 (by decide) ?_
      exact j_reti C R dL_allow_15 (Or.inl ⟨v, by rw [if_neg c], hp⟩)
  · rcases hE E w1 hp with rfl | rfl
    · refine j_catch C tb [] (0, 15, 16, 20) [(0, 15, 21, 14)] rfl (fun z hz => absurd hz List.not_mem_nil) ⟨by decide, by decide⟩ (by decide) wd_clL_20 (X.2.2.1 _ xW_IOO) (fun q => ?_)
      refine j_eq (ws2 := w1) rfl rfl rfl ?_
      refine j_astore_4 C dL_allow_16 (by decide) ?_
      refine j_ldc C dL_allow_18 wd_kL_16 ?_
      exact j_reti C R dL_allow_20 (Or.inr ⟨_, rfl, hp⟩)
    · refine j_catch C tb [(0, 15, 16, 20)] (0, 15, 21, 14) [] rfl (fun z hz => by rw [List.mem_singleton.mp hz]; exact ⟨by decide, _, wd_clL_20, X.2.2.2.2 _ (List.mem_of_getElem? (i := 1) rfl)⟩) ⟨by decide, by decide⟩ (by decide) wd_clL_14 (X.2.2.1 _ xW_IAE) (fun q => ?_)
      refine j_eq (ws2 := w1) rfl rfl rfl ?_
      refine j_astore_4 C dL_allow_21 (by decide) ?_
      refine j_ldc C dL_allow_23 wd_kL_16 ?_
      exact j_reti C R dL_allow_25 (Or.inr ⟨_, rfl, hp⟩)
abbrev rm_L_setColour : Room := { frames := 7, cells := 1, slots := 6, locals := 105 }
set_option maxHeartbeats 4000000 in
set_option maxRecDepth 100000 in
theorem ct_L_setColour {l : Launch} {D : va_G} {Y : jy_T} {ad : Nat → Nat} {x : Int32} {y : Int32} {p n ru nw tg mc me : Int32} {we co al tr to fa se qu sp : Nat → Int32} {P : Int32 → va_W → Prop} {Pex : String → va_W → Prop} (hM : MX l yX0_setColour cX0_setColour 4 (some .int) rm_X0_setColour D Y [.ref (ad 0), .int x, .int y] (wA Y ad p n ru nw tg mc me we co al tr to fa se qu sp) (jI P) Pex) (hE : ∀ E w, Pex E w → E = xIOO ∨ E = xIAE) :
    MW l yL_setColour cL_setColour 4 (some .int) [(0, 6, 7, 20), (0, 6, 11, 14)] rm_L_setColour D Y [.ref (ad 0), .int x, .int y] (wA Y ad p n ru nw tg mc me we co al tr to fa se qu sp) (jI (fun r w => (∃ v, r = v ∧ P v w) ∨ (∃ E, r = (-99999) ∧ Pex E w))) := by
  refine j_enterW (by decide) (Nat.le_of_ble_eq_true rfl) (fun v hv => by simp only [List.mem_cons, List.not_mem_nil, or_false] at hv; rcases hv with rfl | rfl | rfl <;> rfl) (fun K hl2 hD C R X tb => ?_)
  subst hl2; subst hD
  have C : jC cL_setColour RL Y rm_L_setColour 4 K := C
  have R : jR Y (some .int) 1 6 (jI (fun r w => (∃ v, r = v ∧ P v w) ∨ (∃ E, r = (-99999) ∧ Pex E w))) K := R
  refine j_eq (lo' := [some (.ref (ad 0)), some (.int x), some (.int y), none]) rfl rfl rfl ?_
  refine j_aload_n C dL_setColour_0 rfl ?_
  refine j_iload_n C dL_setColour_1 rfl ?_
  refine j_iload_n C dL_setColour_2 rfl ?_
  refine j_callVX (wr := []) (st := []) C X [.int x, .int y] [0, 1, 2, 3, 4, 5, 6, 7, 8, 9] [] hM rfl rfl rfl rfl (by decide) gw_L_31 nd_X0_setColour 0 0 rfl rfl rfl ⟨by decide, by decide⟩ ⟨Nat.le_of_ble_eq_true rfl, Nat.le_of_ble_eq_true rfl⟩ (Nat.le_of_ble_eq_true rfl) dL_setColour_3 rfl (fun r w1 hp => ?_) (fun E w1 hp => ?_)
  · obtain ⟨v, rfl, hp⟩ := hp
    refine j_eq (st' := [.int v]) (ws2 := w1) rfl rfl rfl ?_
    exact j_reti C R dL_setColour_6 (Or.inl ⟨v, rfl, hp⟩)
  · rcases hE E w1 hp with rfl | rfl
    · refine j_catch C tb [] (0, 6, 7, 20) [(0, 6, 11, 14)] rfl (fun z hz => absurd hz List.not_mem_nil) ⟨by decide, by decide⟩ (by decide) wd_clL_20 (X.2.2.1 _ xW_IOO) (fun q => ?_)
      refine j_eq (ws2 := w1) rfl rfl rfl ?_
      refine j_astore_3 C dL_setColour_7 (by decide) ?_
      refine j_ldc C dL_setColour_8 wd_kL_16 ?_
      exact j_reti C R dL_setColour_10 (Or.inr ⟨_, rfl, hp⟩)
    · refine j_catch C tb [(0, 6, 7, 20)] (0, 6, 11, 14) [] rfl (fun z hz => by rw [List.mem_singleton.mp hz]; exact ⟨by decide, _, wd_clL_20, X.2.2.2.2 _ (List.mem_of_getElem? (i := 1) rfl)⟩) ⟨by decide, by decide⟩ (by decide) wd_clL_14 (X.2.2.1 _ xW_IAE) (fun q => ?_)
      refine j_eq (ws2 := w1) rfl rfl rfl ?_
      refine j_astore_3 C dL_setColour_11 (by decide) ?_
      refine j_ldc C dL_setColour_12 wd_kL_16 ?_
      exact j_reti C R dL_setColour_14 (Or.inr ⟨_, rfl, hp⟩)
abbrev rm_L_move : Room := { frames := 7, cells := 1, slots := 6, locals := 114 }
set_option maxHeartbeats 4000000 in
set_option maxRecDepth 100000 in
theorem ct_L_move {l : Launch} {D : va_G} {Y : jy_T} {ad : Nat → Nat} {x : Int32} {y : Int32} {p n ru nw tg mc me : Int32} {we co al tr to fa se qu sp : Nat → Int32} {P : Int32 → va_W → Prop} {Pex : String → va_W → Prop} (hM : MX l yX0_move cX0_move 4 (some .int) rm_X0_move D Y [.ref (ad 0), .int x, .int y] (wA Y ad p n ru nw tg mc me we co al tr to fa se qu sp) (jI P) Pex) (hE : ∀ E w, Pex E w → E = xIOO ∨ E = xISE) :
    MW l yL_move cL_move 4 (some .int) [(0, 6, 7, 20), (0, 6, 11, 22)] rm_L_move D Y [.ref (ad 0), .int x, .int y] (wA Y ad p n ru nw tg mc me we co al tr to fa se qu sp) (jI (fun r w => (∃ v, r = v ∧ P v w) ∨ (∃ E, r = (-99999) ∧ Pex E w))) := by
  refine j_enterW (by decide) (Nat.le_of_ble_eq_true rfl) (fun v hv => by simp only [List.mem_cons, List.not_mem_nil, or_false] at hv; rcases hv with rfl | rfl | rfl <;> rfl) (fun K hl2 hD C R X tb => ?_)
  subst hl2; subst hD
  have C : jC cL_move RL Y rm_L_move 4 K := C
  have R : jR Y (some .int) 1 6 (jI (fun r w => (∃ v, r = v ∧ P v w) ∨ (∃ E, r = (-99999) ∧ Pex E w))) K := R
  refine j_eq (lo' := [some (.ref (ad 0)), some (.int x), some (.int y), none]) rfl rfl rfl ?_
  refine j_aload_n C dL_move_0 rfl ?_
  refine j_iload_n C dL_move_1 rfl ?_
  refine j_iload_n C dL_move_2 rfl ?_
  refine j_callVX (wr := []) (st := []) C X [.int x, .int y] [0, 1, 2, 3, 4, 5, 6, 7, 8, 9] [] hM rfl rfl rfl rfl (by decide) gw_L_34 nd_X0_move 0 0 rfl rfl rfl ⟨by decide, by decide⟩ ⟨Nat.le_of_ble_eq_true rfl, Nat.le_of_ble_eq_true rfl⟩ (Nat.le_of_ble_eq_true rfl) dL_move_3 rfl (fun r w1 hp => ?_) (fun E w1 hp => ?_)
  · obtain ⟨v, rfl, hp⟩ := hp
    refine j_eq (st' := [.int v]) (ws2 := w1) rfl rfl rfl ?_
    exact j_reti C R dL_move_6 (Or.inl ⟨v, rfl, hp⟩)
  · rcases hE E w1 hp with rfl | rfl
    · refine j_catch C tb [] (0, 6, 7, 20) [(0, 6, 11, 22)] rfl (fun z hz => absurd hz List.not_mem_nil) ⟨by decide, by decide⟩ (by decide) wd_clL_20 (X.2.2.1 _ xW_IOO) (fun q => ?_)
      refine j_eq (ws2 := w1) rfl rfl rfl ?_
      refine j_astore_3 C dL_move_7 (by decide) ?_
      refine j_ldc C dL_move_8 wd_kL_16 ?_
      exact j_reti C R dL_move_10 (Or.inr ⟨_, rfl, hp⟩)
    · refine j_catch C tb [(0, 6, 7, 20)] (0, 6, 11, 22) [] rfl (fun z hz => by rw [List.mem_singleton.mp hz]; exact ⟨by decide, _, wd_clL_20, X.2.2.2.2 _ (List.mem_of_getElem? (i := 3) rfl)⟩) ⟨by decide, by decide⟩ (by decide) wd_clL_22 (X.2.2.1 _ xW_ISE) (fun q => ?_)
      refine j_eq (ws2 := w1) rfl rfl rfl ?_
      refine j_astore_3 C dL_move_11 (by decide) ?_
      refine j_ldc C dL_move_12 wd_kL_16 ?_
      exact j_reti C R dL_move_14 (Or.inr ⟨_, rfl, hp⟩)
abbrev rm_L_takeBack : Room := { frames := 7, cells := 1, slots := 6, locals := 102 }
set_option maxHeartbeats 4000000 in
set_option maxRecDepth 100000 in
theorem ct_L_takeBack {l : Launch} {D : va_G} {Y : jy_T} {ad : Nat → Nat}  {p n ru nw tg mc me : Int32} {we co al tr to fa se qu sp : Nat → Int32} {P : Int32 → va_W → Prop} {Pex : String → va_W → Prop} (hM : MX l yX0_takeBack cX0_takeBack 1 (some .int) rm_X0_takeBack D Y [.ref (ad 0)] (wA Y ad p n ru nw tg mc me we co al tr to fa se qu sp) (jI P) Pex) (hE : ∀ E w, Pex E w → E = xISE) :
    MW l yL_takeBack cL_takeBack 2 (some .int) [(0, 4, 5, 22)] rm_L_takeBack D Y [.ref (ad 0)] (wA Y ad p n ru nw tg mc me we co al tr to fa se qu sp) (jI (fun r w => (∃ v, r = v ∧ P v w) ∨ (∃ E, r = (-99999) ∧ Pex E w))) := by
  refine j_enterW (by decide) (Nat.le_of_ble_eq_true rfl) (fun v hv => by rw [List.mem_singleton.mp hv]; rfl) (fun K hl2 hD C R X tb => ?_)
  subst hl2; subst hD
  have C : jC cL_takeBack RL Y rm_L_takeBack 2 K := C
  have R : jR Y (some .int) 1 6 (jI (fun r w => (∃ v, r = v ∧ P v w) ∨ (∃ E, r = (-99999) ∧ Pex E w))) K := R
  refine j_eq (lo' := [some (.ref (ad 0)), none]) rfl rfl rfl ?_
  refine j_aload_n C dL_takeBack_0 rfl ?_
  refine j_callVX (wr := []) (st := []) C X [] [0, 1, 2, 3, 4, 5, 6, 7, 8, 9] [] hM rfl rfl rfl rfl (by decide) gw_L_37 nd_X0_takeBack 0 0 rfl rfl rfl ⟨by decide, by decide⟩ ⟨Nat.le_of_ble_eq_true rfl, Nat.le_of_ble_eq_true rfl⟩ (Nat.le_of_ble_eq_true rfl) dL_takeBack_1 rfl (fun r w1 hp => ?_) (fun E w1 hp => ?_)
  · obtain ⟨v, rfl, hp⟩ := hp
    refine j_eq (st' := [.int v]) (ws2 := w1) rfl rfl rfl ?_
    exact j_reti C R dL_takeBack_4 (Or.inl ⟨v, rfl, hp⟩)
  · have e := hE E w1 hp
    subst e
    refine j_catch C tb [] (0, 4, 5, 22) [] rfl (fun z hz => absurd hz List.not_mem_nil) ⟨by decide, by decide⟩ (by decide) wd_clL_22 (X.2.2.1 _ xW_ISE) (fun q => ?_)
    refine j_eq (ws2 := w1) rfl rfl rfl ?_
    refine j_astore_1 C dL_takeBack_5 (by decide) ?_
    refine j_ldc C dL_takeBack_6 wd_kL_16 ?_
    exact j_reti C R dL_takeBack_8 (Or.inr ⟨_, rfl, hp⟩)
abbrev rm_L_wayByDisks : Room := { frames := 7, cells := 1, slots := 6, locals := 108 }
set_option maxHeartbeats 4000000 in
set_option maxRecDepth 100000 in
theorem ct_L_wayByDisks {l : Launch} {D : va_G} {Y : jy_T} {ad : Nat → Nat}  {p n ru nw tg mc me : Int32} {we co al tr to fa se qu sp : Nat → Int32} {P : Int32 → va_W → Prop} {Pex : String → va_W → Prop} (hM : MX l yX0_wayByDisks cX0_wayByDisks 7 (some .int) rm_X0_wayByDisks D Y [.ref (ad 0)] (wA Y ad p n ru nw tg mc me we co al tr to fa se qu sp) (jI P) Pex) (hE : ∀ E w, Pex E w → E = xISE) :
    MW l yL_wayByDisks cL_wayByDisks 2 (some .int) [(0, 4, 5, 22)] rm_L_wayByDisks D Y [.ref (ad 0)] (wA Y ad p n ru nw tg mc me we co al tr to fa se qu sp) (jI (fun r w => (∃ v, r = v ∧ P v w) ∨ (∃ E, r = (-1) ∧ Pex E w))) := by
  refine j_enterW (by decide) (Nat.le_of_ble_eq_true rfl) (fun v hv => by rw [List.mem_singleton.mp hv]; rfl) (fun K hl2 hD C R X tb => ?_)
  subst hl2; subst hD
  have C : jC cL_wayByDisks RL Y rm_L_wayByDisks 2 K := C
  have R : jR Y (some .int) 1 6 (jI (fun r w => (∃ v, r = v ∧ P v w) ∨ (∃ E, r = (-1) ∧ Pex E w))) K := R
  refine j_eq (lo' := [some (.ref (ad 0)), none]) rfl rfl rfl ?_
  refine j_aload_n C dL_wayByDisks_0 rfl ?_
  refine j_callVX (wr := []) (st := []) C X [] [0, 1, 2, 3, 4, 5, 6, 7, 8, 9] [] hM rfl rfl rfl rfl (by decide) gw_L_44 nd_X0_wayByDisks 0 0 rfl rfl rfl ⟨by decide, by decide⟩ ⟨Nat.le_of_ble_eq_true rfl, Nat.le_of_ble_eq_true rfl⟩ (Nat.le_of_ble_eq_true rfl) dL_wayByDisks_1 rfl (fun r w1 hp => ?_) (fun E w1 hp => ?_)
  · obtain ⟨v, rfl, hp⟩ := hp
    refine j_eq (st' := [.int v]) (ws2 := w1) rfl rfl rfl ?_
    exact j_reti C R dL_wayByDisks_4 (Or.inl ⟨v, rfl, hp⟩)
  · have e := hE E w1 hp
    subst e
    refine j_catch C tb [] (0, 4, 5, 22) [] rfl (fun z hz => absurd hz List.not_mem_nil) ⟨by decide, by decide⟩ (by decide) wd_clL_22 (X.2.2.1 _ xW_ISE) (fun q => ?_)
    refine j_eq (ws2 := w1) rfl rfl rfl ?_
    refine j_astore_1 C dL_wayByDisks_5 (by decide) ?_
    refine j_iconst C (-1) dL_wayByDisks_6 (by decide) ?_
    exact j_reti C R dL_wayByDisks_7 (Or.inr ⟨_, rfl, hp⟩)
abbrev rm_L_lost : Room := { frames := 7, cells := 1, slots := 6, locals := 144 }
set_option maxHeartbeats 4000000 in
set_option maxRecDepth 100000 in
theorem ct_L_lost {l : Launch} {D : va_G} {Y : jy_T} {ad : Nat → Nat}  {p n ru nw tg mc me : Int32} {we co al tr to fa se qu sp : Nat → Int32} {P : Int32 → va_W → Prop} {Pex : String → va_W → Prop} (hM : MX l yX0_lost cX0_lost 3 (some .int) rm_X0_lost D Y [.ref (ad 0)] (wA Y ad p n ru nw tg mc me we co al tr to fa se qu sp) (jI P) Pex) (hE : ∀ E w, Pex E w → E = xISE) :
    MW l yL_lost cL_lost 2 (some .int) [(0, 4, 5, 22)] rm_L_lost D Y [.ref (ad 0)] (wA Y ad p n ru nw tg mc me we co al tr to fa se qu sp) (jI (fun r w => (∃ v, r = v ∧ P v w) ∨ (∃ E, r = (-99999) ∧ Pex E w))) := by
  refine j_enterW (by decide) (Nat.le_of_ble_eq_true rfl) (fun v hv => by rw [List.mem_singleton.mp hv]; rfl) (fun K hl2 hD C R X tb => ?_)
  subst hl2; subst hD
  have C : jC cL_lost RL Y rm_L_lost 2 K := C
  have R : jR Y (some .int) 1 6 (jI (fun r w => (∃ v, r = v ∧ P v w) ∨ (∃ E, r = (-99999) ∧ Pex E w))) K := R
  refine j_eq (lo' := [some (.ref (ad 0)), none]) rfl rfl rfl ?_
  refine j_aload_n C dL_lost_0 rfl ?_
  refine j_callVX (wr := []) (st := []) C X [] [0, 1, 2, 3, 4, 5, 6, 7, 8, 9] [] hM rfl rfl rfl rfl (by decide) gw_L_41 nd_X0_lost 0 0 rfl rfl rfl ⟨by decide, by decide⟩ ⟨Nat.le_of_ble_eq_true rfl, Nat.le_of_ble_eq_true rfl⟩ (Nat.le_of_ble_eq_true rfl) dL_lost_1 rfl (fun r w1 hp => ?_) (fun E w1 hp => ?_)
  · obtain ⟨v, rfl, hp⟩ := hp
    refine j_eq (st' := [.int v]) (ws2 := w1) rfl rfl rfl ?_
    exact j_reti C R dL_lost_4 (Or.inl ⟨v, rfl, hp⟩)
  · have e := hE E w1 hp
    subst e
    refine j_catch C tb [] (0, 4, 5, 22) [] rfl (fun z hz => absurd hz List.not_mem_nil) ⟨by decide, by decide⟩ (by decide) wd_clL_22 (X.2.2.1 _ xW_ISE) (fun q => ?_)
    refine j_eq (ws2 := w1) rfl rfl rfl ?_
    refine j_astore_1 C dL_lost_5 (by decide) ?_
    refine j_ldc C dL_lost_6 wd_kL_16 ?_
    exact j_reti C R dL_lost_8 (Or.inr ⟨_, rfl, hp⟩)
