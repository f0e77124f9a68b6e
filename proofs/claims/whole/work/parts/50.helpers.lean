theorem xW_IAE : Cond.castable "java/lang/IllegalArgumentException" "java/lang/IllegalArgumentException" ∈ xW := by decide +kernel
theorem xW_IOO : Cond.castable "java/lang/IndexOutOfBoundsException" "java/lang/IndexOutOfBoundsException" ∈ xW := by decide +kernel
theorem xW_ISE : Cond.castable "java/lang/IllegalStateException" "java/lang/IllegalStateException" ∈ xW := by decide +kernel
theorem x_ne1 : xISE ≠ xIOO := by decide +kernel
theorem x_ne2 : xIAE ≠ xIOO := by decide +kernel
/-- the row that the law's own methods put an answer into -/
abbrev oC (Y : jy_T) (ho : Nat) (lo : Nat → Int64) : Nat × va_E := (ho, .inl (Y.2.2, 1, .inr (.inl lo)))
def i2b (v : Int32) : Int64 := if v = 0 then 0 else 1
abbrev rm_L_begin : Room := { frames := 7, cells := 1, slots := 6, locals := 104 }
set_option maxHeartbeats 4000000 in
set_option maxRecDepth 100000 in
theorem ct_L_begin {l : Launch} {D : va_G} {Y : jy_T} {ad : Nat → Nat} {ho : Nat} {lo0 : Nat → Int64} {x : Int32} {y : Int32} {p n ru nw tg mc me : Int32} {we co al tr to fa se qu sp : Nat → Int32} {P : Int32 → va_W → Prop} {Pex : String → va_W → Prop} (hM : MX l yX0_begin cX0_begin 3 (some .int) rm_X0_begin D Y [.ref (ad 0), .int x, .int y] (wA Y ad p n ru nw tg mc me we co al tr to fa se qu sp) (jI P) Pex) (hE : ∀ E w, Pex E w → E = xIAE) :
    MW l yL_begin cL_begin 5 (some .int) [(0, 10, 13, 13)] rm_L_begin D Y [.ref (ad 0), .int x, .int y, .ref ho] (oC Y ho lo0 :: (wA Y ad p n ru nw tg mc me we co al tr to fa se qu sp)) (jI (fun r w => (∃ v w1, r = nI 0 ∧ P v w1 ∧ w = oC Y ho (vp_updL lo0 0 v.toInt64) :: w1) ∨ (∃ E w1, r = nI 1 ∧ Pex E w1 ∧ w = oC Y ho lo0 :: w1))) := by
  refine j_enterW (by decide) (Nat.le_of_ble_eq_true rfl) (fun v hv => by simp only [List.mem_cons, List.not_mem_nil, or_false] at hv; rcases hv with rfl | rfl | rfl | rfl <;> rfl) (fun K hl2 hD C R X tb => ?_)
  subst hl2; subst hD
  have C : jC cL_begin RL Y rm_L_begin 5 K := C
  have R : jR Y (some .int) 1 6 (jI (fun r w => (∃ v w1, r = nI 0 ∧ P v w1 ∧ w = oC Y ho (vp_updL lo0 0 v.toInt64) :: w1) ∨ (∃ E w1, r = nI 1 ∧ Pex E w1 ∧ w = oC Y ho lo0 :: w1))) K := R
  refine j_eq (lo' := [some (.ref (ad 0)), some (.int x), some (.int y), some (.ref ho), none]) rfl rfl rfl ?_
  refine j_aload_n C dL_begin_0 rfl ?_
  refine j_iconst C (nI 0) dL_begin_1 (by decide) ?_
  refine j_aload_n C dL_begin_2 rfl ?_
  refine j_iload_n C dL_begin_3 rfl ?_
  refine j_iload_n C dL_begin_4 rfl ?_
  refine j_callVX (wr := [oC Y ho lo0]) (st := [.int (nI 0), .ref ho]) C X [.int x, .int y] [1, 2, 3, 4, 5, 6, 7, 8, 9, 10] [0] hM rfl rfl rfl rfl (by decide) gw_L_7 nd_X0_begin 0 0 rfl rfl rfl ⟨by decide, by decide⟩ ⟨Nat.le_of_ble_eq_true rfl, Nat.le_of_ble_eq_true rfl⟩ (Nat.le_of_ble_eq_true rfl) dL_begin_5 rfl (fun r w1 hp => ?_) (fun E w1 hp => ?_)
  · obtain ⟨v, rfl, hp⟩ := hp
    refine j_eq (st' := [.int v, .int (nI 0), .ref ho]) rfl rfl rfl ?_
    refine j_i2l C dL_begin_8 ?_
    refine j_last C 0 rfl 0 rfl (by decide) (by decide) dL_begin_9 rfl ?_
    refine j_goto C 17 dL_begin_10 (by decide) ?_
    refine j_iconst C (nI 0) dL_begin_17 (by decide) ?_
    exact j_reti C R dL_begin_18 (Or.inl ⟨v, w1, rfl, hp, rfl⟩)
  · have e := hE E w1 hp
    subst e
    refine j_catch C tb [] (0, 10, 13, 13) [] rfl (fun z hz => absurd hz List.not_mem_nil) ⟨by decide, by decide⟩ (by decide) wd_clL_13 (X.2.2.1 _ xW_IAE) (fun q => ?_)
    refine j_astore_4 C dL_begin_13 (by decide) ?_
    refine j_iconst C (nI 1) dL_begin_15 (by decide) ?_
    exact j_reti C R dL_begin_16 (Or.inr ⟨_, w1, rfl, hp, rfl⟩)
abbrev rm_L_put : Room := { frames := 7, cells := 1, slots := 6, locals := 105 }
set_option maxHeartbeats 4000000 in
set_option maxRecDepth 100000 in
theorem ct_L_put {l : Launch} {D : va_G} {Y : jy_T} {ad : Nat → Nat} {ho : Nat} {lo0 : Nat → Int64} {x : Int32} {y : Int32} {p n ru nw tg mc me : Int32} {we co al tr to fa se qu sp : Nat → Int32} {P : Int32 → va_W → Prop} {Pex : String → va_W → Prop} (hM : MX l yX0_put cX0_put 4 (some .int) rm_X0_put D Y [.ref (ad 0), .int x, .int y] (wA Y ad p n ru nw tg mc me we co al tr to fa se qu sp) (jI P) Pex) (hE : ∀ E w, Pex E w → E = xIOO ∨ E = xISE) :
    MW l yL_put cL_put 5 (some .int) [(0, 10, 13, 18), (0, 10, 17, 20)] rm_L_put D Y [.ref (ad 0), .int x, .int y, .ref ho] (oC Y ho lo0 :: (wA Y ad p n ru nw tg mc me we co al tr to fa se qu sp)) (jI (fun r w => (∃ v w1, r = nI 0 ∧ P v w1 ∧ w = oC Y ho (vp_updL lo0 0 v.toInt64) :: w1) ∨ (∃ E w1, r = nI (if E = xIOO then 1 else 2) ∧ Pex E w1 ∧ w = oC Y ho lo0 :: w1))) := by
  refine j_enterW (by decide) (Nat.le_of_ble_eq_true rfl) (fun v hv => by simp only [List.mem_cons, List.not_mem_nil, or_false] at hv; rcases hv with rfl | rfl | rfl | rfl <;> rfl) (fun K hl2 hD C R X tb => ?_)
  subst hl2; subst hD
  have C : jC cL_put RL Y rm_L_put 5 K := C
  have R : jR Y (some .int) 1 6 (jI (fun r w => (∃ v w1, r = nI 0 ∧ P v w1 ∧ w = oC Y ho (vp_updL lo0 0 v.toInt64) :: w1) ∨ (∃ E w1, r = nI (if E = xIOO then 1 else 2) ∧ Pex E w1 ∧ w = oC Y ho lo0 :: w1))) K := R
  refine j_eq (lo' := [some (.ref (ad 0)), some (.int x), some (.int y), some (.ref ho), none]) rfl rfl rfl ?_
  refine j_aload_n C dL_put_0 rfl ?_
  refine j_iconst C (nI 0) dL_put_1 (by decide) ?_
  refine j_aload_n C dL_put_2 rfl ?_
  refine j_iload_n C dL_put_3 rfl ?_
  refine j_iload_n C dL_put_4 rfl ?_
  refine j_callVX (wr := [oC Y ho lo0]) (st := [.int (nI 0), .ref ho]) C X [.int x, .int y] [1, 2, 3, 4, 5, 6, 7, 8, 9, 10] [0] hM rfl rfl rfl rfl (by decide) gw_L_15 nd_X0_put 0 0 rfl rfl rfl ⟨by decide, by decide⟩ ⟨Nat.le_of_ble_eq_true rfl, Nat.le_of_ble_eq_true rfl⟩ (Nat.le_of_ble_eq_true rfl) dL_put_5 rfl (fun r w1 hp => ?_) (fun E w1 hp => ?_)
  · obtain ⟨v, rfl, hp⟩ := hp
    refine j_eq (st' := [.int v, .int (nI 0), .ref ho]) rfl rfl rfl ?_
    refine j_i2l C dL_put_8 ?_
    refine j_last C 0 rfl 0 rfl (by decide) (by decide) dL_put_9 rfl ?_
    refine j_goto C 21 dL_put_10 (by decide) ?_
    refine j_iconst C (nI 0) dL_put_21 (by decide) ?_
    exact j_reti C R dL_put_22 (Or.inl ⟨v, w1, rfl, hp, rfl⟩)
  · rcases hE E w1 hp with rfl | rfl
    · refine j_catch C tb [] (0, 10, 13, 18) [(0, 10, 17, 20)] rfl (fun z hz => absurd hz List.not_mem_nil) ⟨by decide, by decide⟩ (by decide) wd_clL_18 (X.2.2.1 _ xW_IOO) (fun q => ?_)
      refine j_astore_4 C dL_put_13 (by decide) ?_
      refine j_iconst C (nI 1) dL_put_15 (by decide) ?_
      exact j_reti C R dL_put_16 (Or.inr ⟨_, w1, by rw [if_pos rfl], hp, rfl⟩)
    · refine j_catch C tb [(0, 10, 13, 18)] (0, 10, 17, 20) [] rfl (fun z hz => by rw [List.mem_singleton.mp hz]; exact ⟨by decide, _, wd_clL_18, X.2.2.2.2 _ (List.mem_of_getElem? (i := 3) rfl)⟩) ⟨by decide, by decide⟩ (by decide) wd_clL_20 (X.2.2.1 _ xW_ISE) (fun q => ?_)
      refine j_astore_4 C dL_put_17 (by decide) ?_
      refine j_iconst C (nI 2) dL_put_19 (by decide) ?_
      exact j_reti C R dL_put_20 (Or.inr ⟨_, w1, by rw [if_neg x_ne1], hp, rfl⟩)
abbrev rm_L_aim : Room := { frames := 7, cells := 1, slots := 6, locals := 105 }
set_option maxHeartbeats 4000000 in
set_option maxRecDepth 100000 in
theorem ct_L_aim {l : Launch} {D : va_G} {Y : jy_T} {ad : Nat → Nat} {ho : Nat} {lo0 : Nat → Int64} {x : Int32} {y : Int32} {p n ru nw tg mc me : Int32} {we co al tr to fa se qu sp : Nat → Int32} {P : Int32 → va_W → Prop} {Pex : String → va_W → Prop} (hM : MX l yX0_aim cX0_aim 4 (some .int) rm_X0_aim D Y [.ref (ad 0), .int x, .int y] (wA Y ad p n ru nw tg mc me we co al tr to fa se qu sp) (jI P) Pex) (hE : ∀ E w, Pex E w → E = xIOO) :
    MW l yL_aim cL_aim 5 (some .int) [(0, 10, 13, 18)] rm_L_aim D Y [.ref (ad 0), .int x, .int y, .ref ho] (oC Y ho lo0 :: (wA Y ad p n ru nw tg mc me we co al tr to fa se qu sp)) (jI (fun r w => (∃ v w1, r = nI 0 ∧ P v w1 ∧ w = oC Y ho (vp_updL lo0 0 v.toInt64) :: w1) ∨ (∃ E w1, r = nI 1 ∧ Pex E w1 ∧ w = oC Y ho lo0 :: w1))) := by
  refine j_enterW (by decide) (Nat.le_of_ble_eq_true rfl) (fun v hv => by simp only [List.mem_cons, List.not_mem_nil, or_false] at hv; rcases hv with rfl | rfl | rfl | rfl <;> rfl) (fun K hl2 hD C R X tb => ?_)
  subst hl2; subst hD
  have C : jC cL_aim RL Y rm_L_aim 5 K := C
  have R : jR Y (some .int) 1 6 (jI (fun r w => (∃ v w1, r = nI 0 ∧ P v w1 ∧ w = oC Y ho (vp_updL lo0 0 v.toInt64) :: w1) ∨ (∃ E w1, r = nI 1 ∧ Pex E w1 ∧ w = oC Y ho lo0 :: w1))) K := R
  refine j_eq (lo' := [some (.ref (ad 0)), some (.int x), some (.int y), some (.ref ho), none]) rfl rfl rfl ?_
  refine j_aload_n C dL_aim_0 rfl ?_
  refine j_iconst C (nI 0) dL_aim_1 (by decide) ?_
  refine j_aload_n C dL_aim_2 rfl ?_
  refine j_iload_n C dL_aim_3 rfl ?_
  refine j_iload_n C dL_aim_4 rfl ?_
  refine j_callVX (wr := [oC Y ho lo0]) (st := [.int (nI 0), .ref ho]) C X [.int x, .int y] [1, 2, 3, 4, 5, 6, 7, 8, 9, 10] [0] hM rfl rfl rfl rfl (by decide) gw_L_22 nd_X0_aim 0 0 rfl rfl rfl ⟨by decide, by decide⟩ ⟨Nat.le_of_ble_eq_true rfl, Nat.le_of_ble_eq_true rfl⟩ (Nat.le_of_ble_eq_true rfl) dL_aim_5 rfl (fun r w1 hp => ?_) (fun E w1 hp => ?_)
  · obtain ⟨v, rfl, hp⟩ := hp
    refine j_eq (st' := [.int v, .int (nI 0), .ref ho]) rfl rfl rfl ?_
    refine j_i2l C dL_aim_8 ?_
    refine j_last C 0 rfl 0 rfl (by decide) (by decide) dL_aim_9 rfl ?_
    refine j_goto C 17 dL_aim_10 (by decide) ?_
    refine j_iconst C (nI 0) dL_aim_17 (by decide) ?_
    exact j_reti C R dL_aim_18 (Or.inl ⟨v, w1, rfl, hp, rfl⟩)
  · have e := hE E w1 hp
    subst e
    refine j_catch C tb [] (0, 10, 13, 18) [] rfl (fun z hz => absurd hz List.not_mem_nil) ⟨by decide, by decide⟩ (by decide) wd_clL_18 (X.2.2.1 _ xW_IOO) (fun q => ?_)
    refine j_astore_4 C dL_aim_13 (by decide) ?_
    refine j_iconst C (nI 1) dL_aim_15 (by decide) ?_
    exact j_reti C R dL_aim_16 (Or.inr ⟨_, w1, rfl, hp, rfl⟩)
abbrev rm_L_allow : Room := { frames := 7, cells := 1, slots := 6, locals := 107 }
set_option maxHeartbeats 4000000 in
set_option maxRecDepth 100000 in
theorem ct_L_allow {l : Launch} {D : va_G} {Y : jy_T} {ad : Nat → Nat} {ho : Nat} {lo0 : Nat → Int64} {x : Int32} {y : Int32} {z : Bool} {p n ru nw tg mc me : Int32} {we co al tr to fa se qu sp : Nat → Int32} {P : Int32 → va_W → Prop} {Pex : String → va_W → Prop} (hM : MX l yX0_allow cX0_allow 6 (some .boolean) rm_X0_allow D Y [.ref (ad 0), .int x, .int y, .int (bi z)] (wA Y ad p n ru nw tg mc me we co al tr to fa se qu sp) (jI P) Pex) (hE : ∀ E w, Pex E w → E = xIOO ∨ E = xIAE) :
    MW l yL_allow cL_allow 6 (some .int) [(0, 19, 22, 18), (0, 19, 26, 13)] rm_L_allow D Y [.ref (ad 0), .int x, .int y, .int (bi z), .ref ho] (oC Y ho lo0 :: (wA Y ad p n ru nw tg mc me we co al tr to fa se qu sp)) (jI (fun r w => (∃ v w1, r = nI 0 ∧ P v w1 ∧ w = oC Y ho (vp_updL lo0 0 (i2b v)) :: w1) ∨ (∃ E w1, r = nI (if E = xIOO then 1 else 2) ∧ Pex E w1 ∧ w = oC Y ho lo0 :: w1))) := by
  refine j_enterW (by decide) (Nat.le_of_ble_eq_true rfl) (fun v hv => by simp only [List.mem_cons, List.not_mem_nil, or_false] at hv; rcases hv with rfl | rfl | rfl | rfl | rfl <;> rfl) (fun K hl2 hD C R X tb => ?_)
  subst hl2; subst hD
  have C : jC cL_allow RL Y rm_L_allow 6 K := C
  have R : jR Y (some .int) 1 6 (jI (fun r w => (∃ v w1, r = nI 0 ∧ P v w1 ∧ w = oC Y ho (vp_updL lo0 0 (i2b v)) :: w1) ∨ (∃ E w1, r = nI (if E = xIOO then 1 else 2) ∧ Pex E w1 ∧ w = oC Y ho lo0 :: w1))) K := R
  refine j_eq (lo' := [some (.ref (ad 0)), some (.int x), some (.int y), some (.int (bi z)), some (.ref ho), none]) rfl rfl rfl ?_
  refine j_aload C dL_allow_0 rfl ?_
  refine j_iconst C (nI 0) dL_allow_2 (by decide) ?_
  refine j_aload_n C dL_allow_3 rfl ?_
  refine j_iload_n C dL_allow_4 rfl ?_
  refine j_iload_n C dL_allow_5 rfl ?_
  refine j_iload_n C dL_allow_6 rfl ?_
  refine j_callVX (wr := [oC Y ho lo0]) (st := [.int (nI 0), .ref ho]) C X [.int x, .int y, .int (bi z)] [1, 2, 3, 4, 5, 6, 7, 8, 9, 10] [0] hM rfl rfl rfl rfl (by decide) gw_L_25 nd_X0_allow 0 0 rfl rfl rfl ⟨by decide, by decide⟩ ⟨Nat.le_of_ble_eq_true rfl, Nat.le_of_ble_eq_true rfl⟩ (Nat.le_of_ble_eq_true rfl) dL_allow_7 rfl (fun r w1 hp => ?_) (fun E w1 hp => ?_)
  · obtain ⟨v, rfl, hp⟩ := hp
    refine j_eq (st' := [.int v, .int (nI 0), .ref ho]) rfl rfl rfl ?_
    refine j_if_eq C 17 dL_allow_10 (by decide) (fun c => ?_) (fun c => ?_)
    · refine j_lconst C 0 dL_allow_17 rfl ?_
      refine j_last C 0 rfl 0 rfl (by decide) (by decide) dL_allow_18 rfl ?_
      refine j_goto C 30 dL_allow_19 (by decide) ?_
      refine j_iconst C (nI 0) dL_allow_30 (by decide) ?_
      exact j_reti C R dL_allow_31 (Or.inl ⟨v, w1, rfl, hp, by unfold i2b; rw [if_pos c]; rfl⟩)
    · refine j_lconst C 1 dL_allow_13 rfl ?_
      refine j_goto C 18 dL_allow_14 (by decide) ?_
      refine j_last C 0 rfl 0 rfl (by decide) (by decide) dL_allow_18 rfl ?_
      refine j_goto C 30 dL_allow_19 (by decide) ?_
      refine j_iconst C (nI 0) dL_allow_30 (by decide) ?_
      exact j_reti C R dL_allow_31 (Or.inl ⟨v, w1, rfl, hp, by unfold i2b; rw [if_neg c]; rfl⟩)
  · rcases hE E w1 hp with rfl | rfl
    · refine j_catch C tb [] (0, 19, 22, 18) [(0, 19, 26, 13)] rfl (fun z hz => absurd hz List.not_mem_nil) ⟨by decide, by decide⟩ (by decide) wd_clL_18 (X.2.2.1 _ xW_IOO) (fun q => ?_)
      refine j_astore_5 C dL_allow_22 (by decide) ?_
      refine j_iconst C (nI 1) dL_allow_24 (by decide) ?_
      exact j_reti C R dL_allow_25 (Or.inr ⟨_, w1, by rw [if_pos rfl], hp, rfl⟩)
    · refine j_catch C tb [(0, 19, 22, 18)] (0, 19, 26, 13) [] rfl (fun z hz => by rw [List.mem_singleton.mp hz]; exact ⟨by decide, _, wd_clL_18, X.2.2.2.2 _ (List.mem_of_getElem? (i := 1) rfl)⟩) ⟨by decide, by decide⟩ (by decide) wd_clL_13 (X.2.2.1 _ xW_IAE) (fun q => ?_)
      refine j_astore_5 C dL_allow_26 (by decide) ?_
      refine j_iconst C (nI 2) dL_allow_28 (by decide) ?_
      exact j_reti C R dL_allow_29 (Or.inr ⟨_, w1, by rw [if_neg x_ne2], hp, rfl⟩)
abbrev rm_L_setColour : Room := { frames := 7, cells := 1, slots := 6, locals := 105 }
set_option maxHeartbeats 4000000 in
set_option maxRecDepth 100000 in
theorem ct_L_setColour {l : Launch} {D : va_G} {Y : jy_T} {ad : Nat → Nat} {ho : Nat} {lo0 : Nat → Int64} {x : Int32} {y : Int32} {p n ru nw tg mc me : Int32} {we co al tr to fa se qu sp : Nat → Int32} {P : Int32 → va_W → Prop} {Pex : String → va_W → Prop} (hM : MX l yX0_setColour cX0_setColour 4 (some .int) rm_X0_setColour D Y [.ref (ad 0), .int x, .int y] (wA Y ad p n ru nw tg mc me we co al tr to fa se qu sp) (jI P) Pex) (hE : ∀ E w, Pex E w → E = xIOO ∨ E = xIAE) :
    MW l yL_setColour cL_setColour 5 (some .int) [(0, 10, 13, 18), (0, 10, 17, 13)] rm_L_setColour D Y [.ref (ad 0), .int x, .int y, .ref ho] (oC Y ho lo0 :: (wA Y ad p n ru nw tg mc me we co al tr to fa se qu sp)) (jI (fun r w => (∃ v w1, r = nI 0 ∧ P v w1 ∧ w = oC Y ho (vp_updL lo0 0 v.toInt64) :: w1) ∨ (∃ E w1, r = nI (if E = xIOO then 1 else 2) ∧ Pex E w1 ∧ w = oC Y ho lo0 :: w1))) := by
  refine j_enterW (by decide) (Nat.le_of_ble_eq_true rfl) (fun v hv => by simp only [List.mem_cons, List.not_mem_nil, or_false] at hv; rcases hv with rfl | rfl | rfl | rfl <;> rfl) (fun K hl2 hD C R X tb => ?_)
  subst hl2; subst hD
  have C : jC cL_setColour RL Y rm_L_setColour 5 K := C
  have R : jR Y (some .int) 1 6 (jI (fun r w => (∃ v w1, r = nI 0 ∧ P v w1 ∧ w = oC Y ho (vp_updL lo0 0 v.toInt64) :: w1) ∨ (∃ E w1, r = nI (if E = xIOO then 1 else 2) ∧ Pex E w1 ∧ w = oC Y ho lo0 :: w1))) K := R
  refine j_eq (lo' := [some (.ref (ad 0)), some (.int x), some (.int y), some (.ref ho), none]) rfl rfl rfl ?_
  refine j_aload_n C dL_setColour_0 rfl ?_
  refine j_iconst C (nI 0) dL_setColour_1 (by decide) ?_
  refine j_aload_n C dL_setColour_2 rfl ?_
  refine j_iload_n C dL_setColour_3 rfl ?_
  refine j_iload_n C dL_setColour_4 rfl ?_
  refine j_callVX (wr := [oC Y ho lo0]) (st := [.int (nI 0), .ref ho]) C X [.int x, .int y] [1, 2, 3, 4, 5, 6, 7, 8, 9, 10] [0] hM rfl rfl rfl rfl (by decide) gw_L_29 nd_X0_setColour 0 0 rfl rfl rfl ⟨by decide, by decide⟩ ⟨Nat.le_of_ble_eq_true rfl, Nat.le_of_ble_eq_true rfl⟩ (Nat.le_of_ble_eq_true rfl) dL_setColour_5 rfl (fun r w1 hp => ?_) (fun E w1 hp => ?_)
  · obtain ⟨v, rfl, hp⟩ := hp
    refine j_eq (st' := [.int v, .int (nI 0), .ref ho]) rfl rfl rfl ?_
    refine j_i2l C dL_setColour_8 ?_
    refine j_last C 0 rfl 0 rfl (by decide) (by decide) dL_setColour_9 rfl ?_
    refine j_goto C 21 dL_setColour_10 (by decide) ?_
    refine j_iconst C (nI 0) dL_setColour_21 (by decide) ?_
    exact j_reti C R dL_setColour_22 (Or.inl ⟨v, w1, rfl, hp, rfl⟩)
  · rcases hE E w1 hp with rfl | rfl
    · refine j_catch C tb [] (0, 10, 13, 18) [(0, 10, 17, 13)] rfl (fun z hz => absurd hz List.not_mem_nil) ⟨by decide, by decide⟩ (by decide) wd_clL_18 (X.2.2.1 _ xW_IOO) (fun q => ?_)
      refine j_astore_4 C dL_setColour_13 (by decide) ?_
      refine j_iconst C (nI 1) dL_setColour_15 (by decide) ?_
      exact j_reti C R dL_setColour_16 (Or.inr ⟨_, w1, by rw [if_pos rfl], hp, rfl⟩)
    · refine j_catch C tb [(0, 10, 13, 18)] (0, 10, 17, 13) [] rfl (fun z hz => by rw [List.mem_singleton.mp hz]; exact ⟨by decide, _, wd_clL_18, X.2.2.2.2 _ (List.mem_of_getElem? (i := 1) rfl)⟩) ⟨by decide, by decide⟩ (by decide) wd_clL_13 (X.2.2.1 _ xW_IAE) (fun q => ?_)
      refine j_astore_4 C dL_setColour_17 (by decide) ?_
      refine j_iconst C (nI 2) dL_setColour_19 (by decide) ?_
      exact j_reti C R dL_setColour_20 (Or.inr ⟨_, w1, by rw [if_neg x_ne2], hp, rfl⟩)
abbrev rm_L_move : Room := { frames := 7, cells := 1, slots := 6, locals := 114 }
set_option maxHeartbeats 4000000 in
set_option maxRecDepth 100000 in
theorem ct_L_move {l : Launch} {D : va_G} {Y : jy_T} {ad : Nat → Nat} {ho : Nat} {lo0 : Nat → Int64} {x : Int32} {y : Int32} {p n ru nw tg mc me : Int32} {we co al tr to fa se qu sp : Nat → Int32} {P : Int32 → va_W → Prop} {Pex : String → va_W → Prop} (hM : MX l yX0_move cX0_move 4 (some .int) rm_X0_move D Y [.ref (ad 0), .int x, .int y] (wA Y ad p n ru nw tg mc me we co al tr to fa se qu sp) (jI P) Pex) (hE : ∀ E w, Pex E w → E = xIOO ∨ E = xISE) :
    MW l yL_move cL_move 5 (some .int) [(0, 10, 13, 18), (0, 10, 17, 20)] rm_L_move D Y [.ref (ad 0), .int x, .int y, .ref ho] (oC Y ho lo0 :: (wA Y ad p n ru nw tg mc me we co al tr to fa se qu sp)) (jI (fun r w => (∃ v w1, r = nI 0 ∧ P v w1 ∧ w = oC Y ho (vp_updL lo0 0 v.toInt64) :: w1) ∨ (∃ E w1, r = nI (if E = xIOO then 1 else 2) ∧ Pex E w1 ∧ w = oC Y ho lo0 :: w1))) := by
  refine j_enterW (by decide) (Nat.le_of_ble_eq_true rfl) (fun v hv => by simp only [List.mem_cons, List.not_mem_nil, or_false] at hv; rcases hv with rfl | rfl | rfl | rfl <;> rfl) (fun K hl2 hD C R X tb => ?_)
  subst hl2; subst hD
  have C : jC cL_move RL Y rm_L_move 5 K := C
  have R : jR Y (some .int) 1 6 (jI (fun r w => (∃ v w1, r = nI 0 ∧ P v w1 ∧ w = oC Y ho (vp_updL lo0 0 v.toInt64) :: w1) ∨ (∃ E w1, r = nI (if E = xIOO then 1 else 2) ∧ Pex E w1 ∧ w = oC Y ho lo0 :: w1))) K := R
  refine j_eq (lo' := [some (.ref (ad 0)), some (.int x), some (.int y), some (.ref ho), none]) rfl rfl rfl ?_
  refine j_aload_n C dL_move_0 rfl ?_
  refine j_iconst C (nI 0) dL_move_1 (by decide) ?_
  refine j_aload_n C dL_move_2 rfl ?_
  refine j_iload_n C dL_move_3 rfl ?_
  refine j_iload_n C dL_move_4 rfl ?_
  refine j_callVX (wr := [oC Y ho lo0]) (st := [.int (nI 0), .ref ho]) C X [.int x, .int y] [1, 2, 3, 4, 5, 6, 7, 8, 9, 10] [0] hM rfl rfl rfl rfl (by decide) gw_L_32 nd_X0_move 0 0 rfl rfl rfl ⟨by decide, by decide⟩ ⟨Nat.le_of_ble_eq_true rfl, Nat.le_of_ble_eq_true rfl⟩ (Nat.le_of_ble_eq_true rfl) dL_move_5 rfl (fun r w1 hp => ?_) (fun E w1 hp => ?_)
  · obtain ⟨v, rfl, hp⟩ := hp
    refine j_eq (st' := [.int v, .int (nI 0), .ref ho]) rfl rfl rfl ?_
    refine j_i2l C dL_move_8 ?_
    refine j_last C 0 rfl 0 rfl (by decide) (by decide) dL_move_9 rfl ?_
    refine j_goto C 21 dL_move_10 (by decide) ?_
    refine j_iconst C (nI 0) dL_move_21 (by decide) ?_
    exact j_reti C R dL_move_22 (Or.inl ⟨v, w1, rfl, hp, rfl⟩)
  · rcases hE E w1 hp with rfl | rfl
    · refine j_catch C tb [] (0, 10, 13, 18) [(0, 10, 17, 20)] rfl (fun z hz => absurd hz List.not_mem_nil) ⟨by decide, by decide⟩ (by decide) wd_clL_18 (X.2.2.1 _ xW_IOO) (fun q => ?_)
      refine j_astore_4 C dL_move_13 (by decide) ?_
      refine j_iconst C (nI 1) dL_move_15 (by decide) ?_
      exact j_reti C R dL_move_16 (Or.inr ⟨_, w1, by rw [if_pos rfl], hp, rfl⟩)
    · refine j_catch C tb [(0, 10, 13, 18)] (0, 10, 17, 20) [] rfl (fun z hz => by rw [List.mem_singleton.mp hz]; exact ⟨by decide, _, wd_clL_18, X.2.2.2.2 _ (List.mem_of_getElem? (i := 3) rfl)⟩) ⟨by decide, by decide⟩ (by decide) wd_clL_20 (X.2.2.1 _ xW_ISE) (fun q => ?_)
      refine j_astore_4 C dL_move_17 (by decide) ?_
      refine j_iconst C (nI 2) dL_move_19 (by decide) ?_
      exact j_reti C R dL_move_20 (Or.inr ⟨_, w1, by rw [if_neg x_ne1], hp, rfl⟩)
abbrev rm_L_takeBack : Room := { frames := 7, cells := 1, slots := 6, locals := 102 }
set_option maxHeartbeats 4000000 in
set_option maxRecDepth 100000 in
theorem ct_L_takeBack {l : Launch} {D : va_G} {Y : jy_T} {ad : Nat → Nat} {ho : Nat} {lo0 : Nat → Int64}  {p n ru nw tg mc me : Int32} {we co al tr to fa se qu sp : Nat → Int32} {P : Int32 → va_W → Prop} {Pex : String → va_W → Prop} (hM : MX l yX0_takeBack cX0_takeBack 1 (some .int) rm_X0_takeBack D Y [.ref (ad 0)] (wA Y ad p n ru nw tg mc me we co al tr to fa se qu sp) (jI P) Pex) (hE : ∀ E w, Pex E w → E = xISE) :
    MW l yL_takeBack cL_takeBack 3 (some .int) [(0, 8, 11, 20)] rm_L_takeBack D Y [.ref (ad 0), .ref ho] (oC Y ho lo0 :: (wA Y ad p n ru nw tg mc me we co al tr to fa se qu sp)) (jI (fun r w => (∃ v w1, r = nI 0 ∧ P v w1 ∧ w = oC Y ho (vp_updL lo0 0 v.toInt64) :: w1) ∨ (∃ E w1, r = nI 1 ∧ Pex E w1 ∧ w = oC Y ho lo0 :: w1))) := by
  refine j_enterW (by decide) (Nat.le_of_ble_eq_true rfl) (fun v hv => by simp only [List.mem_cons, List.not_mem_nil, or_false] at hv; rcases hv with rfl | rfl <;> rfl) (fun K hl2 hD C R X tb => ?_)
  subst hl2; subst hD
  have C : jC cL_takeBack RL Y rm_L_takeBack 3 K := C
  have R : jR Y (some .int) 1 6 (jI (fun r w => (∃ v w1, r = nI 0 ∧ P v w1 ∧ w = oC Y ho (vp_updL lo0 0 v.toInt64) :: w1) ∨ (∃ E w1, r = nI 1 ∧ Pex E w1 ∧ w = oC Y ho lo0 :: w1))) K := R
  refine j_eq (lo' := [some (.ref (ad 0)), some (.ref ho), none]) rfl rfl rfl ?_
  refine j_aload_n C dL_takeBack_0 rfl ?_
  refine j_iconst C (nI 0) dL_takeBack_1 (by decide) ?_
  refine j_aload_n C dL_takeBack_2 rfl ?_
  refine j_callVX (wr := [oC Y ho lo0]) (st := [.int (nI 0), .ref ho]) C X [] [1, 2, 3, 4, 5, 6, 7, 8, 9, 10] [0] hM rfl rfl rfl rfl (by decide) gw_L_35 nd_X0_takeBack 0 0 rfl rfl rfl ⟨by decide, by decide⟩ ⟨Nat.le_of_ble_eq_true rfl, Nat.le_of_ble_eq_true rfl⟩ (Nat.le_of_ble_eq_true rfl) dL_takeBack_3 rfl (fun r w1 hp => ?_) (fun E w1 hp => ?_)
  · obtain ⟨v, rfl, hp⟩ := hp
    refine j_eq (st' := [.int v, .int (nI 0), .ref ho]) rfl rfl rfl ?_
    refine j_i2l C dL_takeBack_6 ?_
    refine j_last C 0 rfl 0 rfl (by decide) (by decide) dL_takeBack_7 rfl ?_
    refine j_goto C 14 dL_takeBack_8 (by decide) ?_
    refine j_iconst C (nI 0) dL_takeBack_14 (by decide) ?_
    exact j_reti C R dL_takeBack_15 (Or.inl ⟨v, w1, rfl, hp, rfl⟩)
  · have e := hE E w1 hp
    subst e
    refine j_catch C tb [] (0, 8, 11, 20) [] rfl (fun z hz => absurd hz List.not_mem_nil) ⟨by decide, by decide⟩ (by decide) wd_clL_20 (X.2.2.1 _ xW_ISE) (fun q => ?_)
    refine j_astore_2 C dL_takeBack_11 (by decide) ?_
    refine j_iconst C (nI 1) dL_takeBack_12 (by decide) ?_
    exact j_reti C R dL_takeBack_13 (Or.inr ⟨_, w1, rfl, hp, rfl⟩)
abbrev rm_L_pegOf : Room := { frames := 7, cells := 1, slots := 6, locals := 103 }
set_option maxHeartbeats 4000000 in
set_option maxRecDepth 100000 in
theorem ct_L_pegOf {l : Launch} {D : va_G} {Y : jy_T} {ad : Nat → Nat} {ho : Nat} {lo0 : Nat → Int64} {x : Int32} {p n ru nw tg mc me : Int32} {we co al tr to fa se qu sp : Nat → Int32} {P : Int32 → va_W → Prop} {Pex : String → va_W → Prop} (hM : MX l yX0_pegOf cX0_pegOf 2 (some .int) rm_X0_pegOf D Y [.ref (ad 0), .int x] (wA Y ad p n ru nw tg mc me we co al tr to fa se qu sp) (jI P) Pex) (hE : ∀ E w, Pex E w → E = xIOO) :
    MW l yL_pegOf cL_pegOf 4 (some .int) [(0, 9, 12, 18)] rm_L_pegOf D Y [.ref (ad 0), .int x, .ref ho] (oC Y ho lo0 :: (wA Y ad p n ru nw tg mc me we co al tr to fa se qu sp)) (jI (fun r w => (∃ v w1, r = nI 0 ∧ P v w1 ∧ w = oC Y ho (vp_updL lo0 0 v.toInt64) :: w1) ∨ (∃ E w1, r = nI 1 ∧ Pex E w1 ∧ w = oC Y ho lo0 :: w1))) := by
  refine j_enterW (by decide) (Nat.le_of_ble_eq_true rfl) (fun v hv => by simp only [List.mem_cons, List.not_mem_nil, or_false] at hv; rcases hv with rfl | rfl | rfl <;> rfl) (fun K hl2 hD C R X tb => ?_)
  subst hl2; subst hD
  have C : jC cL_pegOf RL Y rm_L_pegOf 4 K := C
  have R : jR Y (some .int) 1 6 (jI (fun r w => (∃ v w1, r = nI 0 ∧ P v w1 ∧ w = oC Y ho (vp_updL lo0 0 v.toInt64) :: w1) ∨ (∃ E w1, r = nI 1 ∧ Pex E w1 ∧ w = oC Y ho lo0 :: w1))) K := R
  refine j_eq (lo' := [some (.ref (ad 0)), some (.int x), some (.ref ho), none]) rfl rfl rfl ?_
  refine j_aload_n C dL_pegOf_0 rfl ?_
  refine j_iconst C (nI 0) dL_pegOf_1 (by decide) ?_
  refine j_aload_n C dL_pegOf_2 rfl ?_
  refine j_iload_n C dL_pegOf_3 rfl ?_
  refine j_callVX (wr := [oC Y ho lo0]) (st := [.int (nI 0), .ref ho]) C X [.int x] [1, 2, 3, 4, 5, 6, 7, 8, 9, 10] [0] hM rfl rfl rfl rfl (by decide) gw_L_39 nd_X0_pegOf 0 0 rfl rfl rfl ⟨by decide, by decide⟩ ⟨Nat.le_of_ble_eq_true rfl, Nat.le_of_ble_eq_true rfl⟩ (Nat.le_of_ble_eq_true rfl) dL_pegOf_4 rfl (fun r w1 hp => ?_) (fun E w1 hp => ?_)
  · obtain ⟨v, rfl, hp⟩ := hp
    refine j_eq (st' := [.int v, .int (nI 0), .ref ho]) rfl rfl rfl ?_
    refine j_i2l C dL_pegOf_7 ?_
    refine j_last C 0 rfl 0 rfl (by decide) (by decide) dL_pegOf_8 rfl ?_
    refine j_goto C 15 dL_pegOf_9 (by decide) ?_
    refine j_iconst C (nI 0) dL_pegOf_15 (by decide) ?_
    exact j_reti C R dL_pegOf_16 (Or.inl ⟨v, w1, rfl, hp, rfl⟩)
  · have e := hE E w1 hp
    subst e
    refine j_catch C tb [] (0, 9, 12, 18) [] rfl (fun z hz => absurd hz List.not_mem_nil) ⟨by decide, by decide⟩ (by decide) wd_clL_18 (X.2.2.1 _ xW_IOO) (fun q => ?_)
    refine j_astore_3 C dL_pegOf_12 (by decide) ?_
    refine j_iconst C (nI 1) dL_pegOf_13 (by decide) ?_
    exact j_reti C R dL_pegOf_14 (Or.inr ⟨_, w1, rfl, hp, rfl⟩)
abbrev rm_L_top : Room := { frames := 7, cells := 1, slots := 6, locals := 103 }
set_option maxHeartbeats 4000000 in
set_option maxRecDepth 100000 in
theorem ct_L_top {l : Launch} {D : va_G} {Y : jy_T} {ad : Nat → Nat} {ho : Nat} {lo0 : Nat → Int64} {x : Int32} {p n ru nw tg mc me : Int32} {we co al tr to fa se qu sp : Nat → Int32} {P : Int32 → va_W → Prop} {Pex : String → va_W → Prop} (hM : MX l yX0_top cX0_top 2 (some .int) rm_X0_top D Y [.ref (ad 0), .int x] (wA Y ad p n ru nw tg mc me we co al tr to fa se qu sp) (jI P) Pex) (hE : ∀ E w, Pex E w → E = xIOO) :
    MW l yL_top cL_top 4 (some .int) [(0, 9, 12, 18)] rm_L_top D Y [.ref (ad 0), .int x, .ref ho] (oC Y ho lo0 :: (wA Y ad p n ru nw tg mc me we co al tr to fa se qu sp)) (jI (fun r w => (∃ v w1, r = nI 0 ∧ P v w1 ∧ w = oC Y ho (vp_updL lo0 0 v.toInt64) :: w1) ∨ (∃ E w1, r = nI 1 ∧ Pex E w1 ∧ w = oC Y ho lo0 :: w1))) := by
  refine j_enterW (by decide) (Nat.le_of_ble_eq_true rfl) (fun v hv => by simp only [List.mem_cons, List.not_mem_nil, or_false] at hv; rcases hv with rfl | rfl | rfl <;> rfl) (fun K hl2 hD C R X tb => ?_)
  subst hl2; subst hD
  have C : jC cL_top RL Y rm_L_top 4 K := C
  have R : jR Y (some .int) 1 6 (jI (fun r w => (∃ v w1, r = nI 0 ∧ P v w1 ∧ w = oC Y ho (vp_updL lo0 0 v.toInt64) :: w1) ∨ (∃ E w1, r = nI 1 ∧ Pex E w1 ∧ w = oC Y ho lo0 :: w1))) K := R
  refine j_eq (lo' := [some (.ref (ad 0)), some (.int x), some (.ref ho), none]) rfl rfl rfl ?_
  refine j_aload_n C dL_top_0 rfl ?_
  refine j_iconst C (nI 0) dL_top_1 (by decide) ?_
  refine j_aload_n C dL_top_2 rfl ?_
  refine j_iload_n C dL_top_3 rfl ?_
  refine j_callVX (wr := [oC Y ho lo0]) (st := [.int (nI 0), .ref ho]) C X [.int x] [1, 2, 3, 4, 5, 6, 7, 8, 9, 10] [0] hM rfl rfl rfl rfl (by decide) gw_L_43 nd_X0_top 0 0 rfl rfl rfl ⟨by decide, by decide⟩ ⟨Nat.le_of_ble_eq_true rfl, Nat.le_of_ble_eq_true rfl⟩ (Nat.le_of_ble_eq_true rfl) dL_top_4 rfl (fun r w1 hp => ?_) (fun E w1 hp => ?_)
  · obtain ⟨v, rfl, hp⟩ := hp
    refine j_eq (st' := [.int v, .int (nI 0), .ref ho]) rfl rfl rfl ?_
    refine j_i2l C dL_top_7 ?_
    refine j_last C 0 rfl 0 rfl (by decide) (by decide) dL_top_8 rfl ?_
    refine j_goto C 15 dL_top_9 (by decide) ?_
    refine j_iconst C (nI 0) dL_top_15 (by decide) ?_
    exact j_reti C R dL_top_16 (Or.inl ⟨v, w1, rfl, hp, rfl⟩)
  · have e := hE E w1 hp
    subst e
    refine j_catch C tb [] (0, 9, 12, 18) [] rfl (fun z hz => absurd hz List.not_mem_nil) ⟨by decide, by decide⟩ (by decide) wd_clL_18 (X.2.2.1 _ xW_IOO) (fun q => ?_)
    refine j_astore_3 C dL_top_12 (by decide) ?_
    refine j_iconst C (nI 1) dL_top_13 (by decide) ?_
    exact j_reti C R dL_top_14 (Or.inr ⟨_, w1, rfl, hp, rfl⟩)
abbrev rm_L_canMove : Room := { frames := 7, cells := 1, slots := 6, locals := 113 }
set_option maxHeartbeats 4000000 in
set_option maxRecDepth 100000 in
theorem ct_L_canMove {l : Launch} {D : va_G} {Y : jy_T} {ad : Nat → Nat} {ho : Nat} {lo0 : Nat → Int64} {x : Int32} {y : Int32} {p n ru nw tg mc me : Int32} {we co al tr to fa se qu sp : Nat → Int32} {P : Int32 → va_W → Prop} {Pex : String → va_W → Prop} (hM : MX l yX0_canMove cX0_canMove 3 (some .boolean) rm_X0_canMove D Y [.ref (ad 0), .int x, .int y] (wA Y ad p n ru nw tg mc me we co al tr to fa se qu sp) (jI P) Pex) (hE : ∀ E w, Pex E w → E = xIOO) :
    MW l yL_canMove cL_canMove 5 (some .int) [(0, 17, 20, 18)] rm_L_canMove D Y [.ref (ad 0), .int x, .int y, .ref ho] (oC Y ho lo0 :: (wA Y ad p n ru nw tg mc me we co al tr to fa se qu sp)) (jI (fun r w => (∃ v w1, r = nI 0 ∧ P v w1 ∧ w = oC Y ho (vp_updL lo0 0 (i2b v)) :: w1) ∨ (∃ E w1, r = nI 1 ∧ Pex E w1 ∧ w = oC Y ho lo0 :: w1))) := by
  refine j_enterW (by decide) (Nat.le_of_ble_eq_true rfl) (fun v hv => by simp only [List.mem_cons, List.not_mem_nil, or_false] at hv; rcases hv with rfl | rfl | rfl | rfl <;> rfl) (fun K hl2 hD C R X tb => ?_)
  subst hl2; subst hD
  have C : jC cL_canMove RL Y rm_L_canMove 5 K := C
  have R : jR Y (some .int) 1 6 (jI (fun r w => (∃ v w1, r = nI 0 ∧ P v w1 ∧ w = oC Y ho (vp_updL lo0 0 (i2b v)) :: w1) ∨ (∃ E w1, r = nI 1 ∧ Pex E w1 ∧ w = oC Y ho lo0 :: w1))) K := R
  refine j_eq (lo' := [some (.ref (ad 0)), some (.int x), some (.int y), some (.ref ho), none]) rfl rfl rfl ?_
  refine j_aload_n C dL_canMove_0 rfl ?_
  refine j_iconst C (nI 0) dL_canMove_1 (by decide) ?_
  refine j_aload_n C dL_canMove_2 rfl ?_
  refine j_iload_n C dL_canMove_3 rfl ?_
  refine j_iload_n C dL_canMove_4 rfl ?_
  refine j_callVX (wr := [oC Y ho lo0]) (st := [.int (nI 0), .ref ho]) C X [.int x, .int y] [1, 2, 3, 4, 5, 6, 7, 8, 9, 10] [0] hM rfl rfl rfl rfl (by decide) gw_L_46 nd_X0_canMove 0 0 rfl rfl rfl ⟨by decide, by decide⟩ ⟨Nat.le_of_ble_eq_true rfl, Nat.le_of_ble_eq_true rfl⟩ (Nat.le_of_ble_eq_true rfl) dL_canMove_5 rfl (fun r w1 hp => ?_) (fun E w1 hp => ?_)
  · obtain ⟨v, rfl, hp⟩ := hp
    refine j_eq (st' := [.int v, .int (nI 0), .ref ho]) rfl rfl rfl ?_
    refine j_if_eq C 15 dL_canMove_8 (by decide) (fun c => ?_) (fun c => ?_)
    · refine j_lconst C 0 dL_canMove_15 rfl ?_
      refine j_last C 0 rfl 0 rfl (by decide) (by decide) dL_canMove_16 rfl ?_
      refine j_goto C 24 dL_canMove_17 (by decide) ?_
      refine j_iconst C (nI 0) dL_canMove_24 (by decide) ?_
      exact j_reti C R dL_canMove_25 (Or.inl ⟨v, w1, rfl, hp, by unfold i2b; rw [if_pos c]; rfl⟩)
    · refine j_lconst C 1 dL_canMove_11 rfl ?_
      refine j_goto C 16 dL_canMove_12 (by decide) ?_
      refine j_last C 0 rfl 0 rfl (by decide) (by decide) dL_canMove_16 rfl ?_
      refine j_goto C 24 dL_canMove_17 (by decide) ?_
      refine j_iconst C (nI 0) dL_canMove_24 (by decide) ?_
      exact j_reti C R dL_canMove_25 (Or.inl ⟨v, w1, rfl, hp, by unfold i2b; rw [if_neg c]; rfl⟩)
  · have e := hE E w1 hp
    subst e
    refine j_catch C tb [] (0, 17, 20, 18) [] rfl (fun z hz => absurd hz List.not_mem_nil) ⟨by decide, by decide⟩ (by decide) wd_clL_18 (X.2.2.1 _ xW_IOO) (fun q => ?_)
    refine j_astore_4 C dL_canMove_20 (by decide) ?_
    refine j_iconst C (nI 1) dL_canMove_22 (by decide) ?_
    exact j_reti C R dL_canMove_23 (Or.inr ⟨_, w1, rfl, hp, rfl⟩)
abbrev rm_L_wayByDisks : Room := { frames := 7, cells := 1, slots := 6, locals := 108 }
set_option maxHeartbeats 4000000 in
set_option maxRecDepth 100000 in
theorem ct_L_wayByDisks {l : Launch} {D : va_G} {Y : jy_T} {ad : Nat → Nat} {ho : Nat} {lo0 : Nat → Int64}  {p n ru nw tg mc me : Int32} {we co al tr to fa se qu sp : Nat → Int32} {P : Int32 → va_W → Prop} {Pex : String → va_W → Prop} (hM : MX l yX0_wayByDisks cX0_wayByDisks 7 (some .int) rm_X0_wayByDisks D Y [.ref (ad 0)] (wA Y ad p n ru nw tg mc me we co al tr to fa se qu sp) (jI P) Pex) (hE : ∀ E w, Pex E w → E = xISE) :
    MW l yL_wayByDisks cL_wayByDisks 3 (some .int) [(0, 8, 11, 20)] rm_L_wayByDisks D Y [.ref (ad 0), .ref ho] (oC Y ho lo0 :: (wA Y ad p n ru nw tg mc me we co al tr to fa se qu sp)) (jI (fun r w => (∃ v w1, r = nI 0 ∧ P v w1 ∧ w = oC Y ho (vp_updL lo0 0 v.toInt64) :: w1) ∨ (∃ E w1, r = nI 1 ∧ Pex E w1 ∧ w = oC Y ho lo0 :: w1))) := by
  refine j_enterW (by decide) (Nat.le_of_ble_eq_true rfl) (fun v hv => by simp only [List.mem_cons, List.not_mem_nil, or_false] at hv; rcases hv with rfl | rfl <;> rfl) (fun K hl2 hD C R X tb => ?_)
  subst hl2; subst hD
  have C : jC cL_wayByDisks RL Y rm_L_wayByDisks 3 K := C
  have R : jR Y (some .int) 1 6 (jI (fun r w => (∃ v w1, r = nI 0 ∧ P v w1 ∧ w = oC Y ho (vp_updL lo0 0 v.toInt64) :: w1) ∨ (∃ E w1, r = nI 1 ∧ Pex E w1 ∧ w = oC Y ho lo0 :: w1))) K := R
  refine j_eq (lo' := [some (.ref (ad 0)), some (.ref ho), none]) rfl rfl rfl ?_
  refine j_aload_n C dL_wayByDisks_0 rfl ?_
  refine j_iconst C (nI 0) dL_wayByDisks_1 (by decide) ?_
  refine j_aload_n C dL_wayByDisks_2 rfl ?_
  refine j_callVX (wr := [oC Y ho lo0]) (st := [.int (nI 0), .ref ho]) C X [] [1, 2, 3, 4, 5, 6, 7, 8, 9, 10] [0] hM rfl rfl rfl rfl (by decide) gw_L_50 nd_X0_wayByDisks 0 0 rfl rfl rfl ⟨by decide, by decide⟩ ⟨Nat.le_of_ble_eq_true rfl, Nat.le_of_ble_eq_true rfl⟩ (Nat.le_of_ble_eq_true rfl) dL_wayByDisks_3 rfl (fun r w1 hp => ?_) (fun E w1 hp => ?_)
  · obtain ⟨v, rfl, hp⟩ := hp
    refine j_eq (st' := [.int v, .int (nI 0), .ref ho]) rfl rfl rfl ?_
    refine j_i2l C dL_wayByDisks_6 ?_
    refine j_last C 0 rfl 0 rfl (by decide) (by decide) dL_wayByDisks_7 rfl ?_
    refine j_goto C 14 dL_wayByDisks_8 (by decide) ?_
    refine j_iconst C (nI 0) dL_wayByDisks_14 (by decide) ?_
    exact j_reti C R dL_wayByDisks_15 (Or.inl ⟨v, w1, rfl, hp, rfl⟩)
  · have e := hE E w1 hp
    subst e
    refine j_catch C tb [] (0, 8, 11, 20) [] rfl (fun z hz => absurd hz List.not_mem_nil) ⟨by decide, by decide⟩ (by decide) wd_clL_20 (X.2.2.1 _ xW_ISE) (fun q => ?_)
    refine j_astore_2 C dL_wayByDisks_11 (by decide) ?_
    refine j_iconst C (nI 1) dL_wayByDisks_12 (by decide) ?_
    exact j_reti C R dL_wayByDisks_13 (Or.inr ⟨_, w1, rfl, hp, rfl⟩)
abbrev rm_L_lost : Room := { frames := 7, cells := 1, slots := 6, locals := 144 }
set_option maxHeartbeats 4000000 in
set_option maxRecDepth 100000 in
theorem ct_L_lost {l : Launch} {D : va_G} {Y : jy_T} {ad : Nat → Nat} {ho : Nat} {lo0 : Nat → Int64}  {p n ru nw tg mc me : Int32} {we co al tr to fa se qu sp : Nat → Int32} {P : Int32 → va_W → Prop} {Pex : String → va_W → Prop} (hM : MX l yX0_lost cX0_lost 3 (some .int) rm_X0_lost D Y [.ref (ad 0)] (wA Y ad p n ru nw tg mc me we co al tr to fa se qu sp) (jI P) Pex) (hE : ∀ E w, Pex E w → E = xISE) :
    MW l yL_lost cL_lost 3 (some .int) [(0, 8, 11, 20)] rm_L_lost D Y [.ref (ad 0), .ref ho] (oC Y ho lo0 :: (wA Y ad p n ru nw tg mc me we co al tr to fa se qu sp)) (jI (fun r w => (∃ v w1, r = nI 0 ∧ P v w1 ∧ w = oC Y ho (vp_updL lo0 0 v.toInt64) :: w1) ∨ (∃ E w1, r = nI 1 ∧ Pex E w1 ∧ w = oC Y ho lo0 :: w1))) := by
  refine j_enterW (by decide) (Nat.le_of_ble_eq_true rfl) (fun v hv => by simp only [List.mem_cons, List.not_mem_nil, or_false] at hv; rcases hv with rfl | rfl <;> rfl) (fun K hl2 hD C R X tb => ?_)
  subst hl2; subst hD
  have C : jC cL_lost RL Y rm_L_lost 3 K := C
  have R : jR Y (some .int) 1 6 (jI (fun r w => (∃ v w1, r = nI 0 ∧ P v w1 ∧ w = oC Y ho (vp_updL lo0 0 v.toInt64) :: w1) ∨ (∃ E w1, r = nI 1 ∧ Pex E w1 ∧ w = oC Y ho lo0 :: w1))) K := R
  refine j_eq (lo' := [some (.ref (ad 0)), some (.ref ho), none]) rfl rfl rfl ?_
  refine j_aload_n C dL_lost_0 rfl ?_
  refine j_iconst C (nI 0) dL_lost_1 (by decide) ?_
  refine j_aload_n C dL_lost_2 rfl ?_
  refine j_callVX (wr := [oC Y ho lo0]) (st := [.int (nI 0), .ref ho]) C X [] [1, 2, 3, 4, 5, 6, 7, 8, 9, 10] [0] hM rfl rfl rfl rfl (by decide) gw_L_53 nd_X0_lost 0 0 rfl rfl rfl ⟨by decide, by decide⟩ ⟨Nat.le_of_ble_eq_true rfl, Nat.le_of_ble_eq_true rfl⟩ (Nat.le_of_ble_eq_true rfl) dL_lost_3 rfl (fun r w1 hp => ?_) (fun E w1 hp => ?_)
  · obtain ⟨v, rfl, hp⟩ := hp
    refine j_eq (st' := [.int v, .int (nI 0), .ref ho]) rfl rfl rfl ?_
    refine j_i2l C dL_lost_6 ?_
    refine j_last C 0 rfl 0 rfl (by decide) (by decide) dL_lost_7 rfl ?_
    refine j_goto C 14 dL_lost_8 (by decide) ?_
    refine j_iconst C (nI 0) dL_lost_14 (by decide) ?_
    exact j_reti C R dL_lost_15 (Or.inl ⟨v, w1, rfl, hp, rfl⟩)
  · have e := hE E w1 hp
    subst e
    refine j_catch C tb [] (0, 8, 11, 20) [] rfl (fun z hz => absurd hz List.not_mem_nil) ⟨by decide, by decide⟩ (by decide) wd_clL_20 (X.2.2.1 _ xW_ISE) (fun q => ?_)
    refine j_astore_2 C dL_lost_11 (by decide) ?_
    refine j_iconst C (nI 1) dL_lost_12 (by decide) ?_
    exact j_reti C R dL_lost_13 (Or.inr ⟨_, w1, rfl, hp, rfl⟩)
abbrev rm_L_splits : Room := { frames := 7, cells := 1, slots := 6, locals := 104 }
set_option maxHeartbeats 4000000 in
set_option maxRecDepth 100000 in
theorem ct_L_splits {l : Launch} {D : va_G} {Y : jy_T} {ad : Nat → Nat} {ho : Nat} {lo0 : Nat → Int64} {x : Int32} {y : Int32} {p n ru nw tg mc me : Int32} {we co al tr to fa se qu sp : Nat → Int32} {P : Int32 → va_W → Prop} {Pex : String → va_W → Prop} (hM : MX l yX0_splits cX0_splits 3 (some .int) rm_X0_splits D Y [.ref (ad 0), .int x, .int y] (wA Y ad p n ru nw tg mc me we co al tr to fa se qu sp) (jI P) Pex) (hE : ∀ E w, Pex E w → E = xIAE) :
    MW l yL_splits cL_splits 5 (some .int) [(0, 10, 13, 13)] rm_L_splits D Y [.ref (ad 0), .int x, .int y, .ref ho] (oC Y ho lo0 :: (wA Y ad p n ru nw tg mc me we co al tr to fa se qu sp)) (jI (fun r w => (∃ v w1, r = nI 0 ∧ P v w1 ∧ w = oC Y ho (vp_updL lo0 0 v.toInt64) :: w1) ∨ (∃ E w1, r = nI 1 ∧ Pex E w1 ∧ w = oC Y ho lo0 :: w1))) := by
  refine j_enterW (by decide) (Nat.le_of_ble_eq_true rfl) (fun v hv => by simp only [List.mem_cons, List.not_mem_nil, or_false] at hv; rcases hv with rfl | rfl | rfl | rfl <;> rfl) (fun K hl2 hD C R X tb => ?_)
  subst hl2; subst hD
  have C : jC cL_splits RL Y rm_L_splits 5 K := C
  have R : jR Y (some .int) 1 6 (jI (fun r w => (∃ v w1, r = nI 0 ∧ P v w1 ∧ w = oC Y ho (vp_updL lo0 0 v.toInt64) :: w1) ∨ (∃ E w1, r = nI 1 ∧ Pex E w1 ∧ w = oC Y ho lo0 :: w1))) K := R
  refine j_eq (lo' := [some (.ref (ad 0)), some (.int x), some (.int y), some (.ref ho), none]) rfl rfl rfl ?_
  refine j_aload_n C dL_splits_0 rfl ?_
  refine j_iconst C (nI 0) dL_splits_1 (by decide) ?_
  refine j_aload_n C dL_splits_2 rfl ?_
  refine j_iload_n C dL_splits_3 rfl ?_
  refine j_iload_n C dL_splits_4 rfl ?_
  refine j_callVX (wr := [oC Y ho lo0]) (st := [.int (nI 0), .ref ho]) C X [.int x, .int y] [1, 2, 3, 4, 5, 6, 7, 8, 9, 10] [0] hM rfl rfl rfl rfl (by decide) gw_L_56 nd_X0_splits 0 0 rfl rfl rfl ⟨by decide, by decide⟩ ⟨Nat.le_of_ble_eq_true rfl, Nat.le_of_ble_eq_true rfl⟩ (Nat.le_of_ble_eq_true rfl) dL_splits_5 rfl (fun r w1 hp => ?_) (fun E w1 hp => ?_)
  · obtain ⟨v, rfl, hp⟩ := hp
    refine j_eq (st' := [.int v, .int (nI 0), .ref ho]) rfl rfl rfl ?_
    refine j_i2l C dL_splits_8 ?_
    refine j_last C 0 rfl 0 rfl (by decide) (by decide) dL_splits_9 rfl ?_
    refine j_goto C 17 dL_splits_10 (by decide) ?_
    refine j_iconst C (nI 0) dL_splits_17 (by decide) ?_
    exact j_reti C R dL_splits_18 (Or.inl ⟨v, w1, rfl, hp, rfl⟩)
  · have e := hE E w1 hp
    subst e
    refine j_catch C tb [] (0, 10, 13, 13) [] rfl (fun z hz => absurd hz List.not_mem_nil) ⟨by decide, by decide⟩ (by decide) wd_clL_13 (X.2.2.1 _ xW_IAE) (fun q => ?_)
    refine j_astore_4 C dL_splits_13 (by decide) ?_
    refine j_iconst C (nI 1) dL_splits_15 (by decide) ?_
    exact j_reti C R dL_splits_16 (Or.inr ⟨_, w1, rfl, hp, rfl⟩)
