abbrev rm_X0_init : Room := { frames := 3, cells := 9, slots := 47481, locals := 68 }
set_option maxHeartbeats 4000000 in
set_option maxRecDepth 100000 in
theorem ct_X0_init {l : Launch} {D : va_G} {Y : jy_T} {h0 : Nat} :
    MJ l yX0_init cX0_init 1 none rm_X0_init D Y [.ref h0] [(h0, .inr (0, [.int 0, .int 0, .int 0, .null, .null, .null, .int 0, .int 0, .null, .int 0, .null, .null, .int 0, .null, .null, .null]))] (jV (fun w => ∃ ad : Nat → Nat, ad 0 = h0 ∧ w = (wA Y ad (nI 3) (nI 3) (bi false) (nI 0) (nI (3 ^ 3 - 1)) (nI 0) (bi false) (fun d => nI (3 ^ d)) (fun d => bi ((fun _ => false) d)) (fun k => bi ((fun _ => true) k)) (fun k => nI ((fun _ => 0) k)) (fun _ => 0) (fun _ => 0) (fun _ => 0) (fun _ => 0) (fun i => nI (spT i))))) := by
  refine j_enter (by decide) (Nat.le_of_ble_eq_true rfl) (fun v hv => by rw [List.mem_singleton.mp hv]; rfl) (fun K hl hD hnm C R => ?_)
  subst hl; subst hD
  have C : jC cX0_init RX0 Y rm_X0_init 1 K := C
  have R : jR Y none 9 47481 (jV (fun w => ∃ ad : Nat → Nat, ad 0 = h0 ∧ w = (wA Y ad (nI 3) (nI 3) (bi false) (nI 0) (nI (3 ^ 3 - 1)) (nI 0) (bi false) (fun d => nI (3 ^ d)) (fun d => bi ((fun _ => false) d)) (fun k => bi ((fun _ => true) k)) (fun k => nI ((fun _ => 0) k)) (fun _ => 0) (fun _ => 0) (fun _ => 0) (fun _ => 0) (fun i => nI (spT i))))) K := R
  refine j_eq (lo' := [some (.ref h0)]) rfl rfl rfl ?_
  refine j_aload_n C dX0_init_0 rfl ?_
  refine j_objInit C wd_mo0_1 dX0_init_1 rfl (Nat.le_of_ble_eq_true rfl) (Nat.le_of_ble_eq_true rfl) ?_
  refine j_aload_n C dX0_init_4 rfl ?_
  refine j_bipush C (nI 7) dX0_init_5 (by decide) ?_
  refine j_newa_int C 7 rfl (by decide) (Nat.le_of_ble_eq_true rfl) (Nat.le_of_ble_eq_true rfl) dX0_init_7 (fun q1 => ?_)
  refine j_eq (ws2 := [(h0, .inr (0, [.int 0, .int 0, .int 0, .null, .null, .null, .int 0, .int 0, .null, .int 0, .null, .null, .int 0, .null, .null, .null])), (q1, .inl (Y.1, 7, .inl (fun _ => 0)))]) rfl rfl rfl ?_
  refine j_putF (fs := [.int 0, .int 0, .int 0, .null, .null, .null, .int 0, .int 0, .null, .int 0, .null, .null, .int 0, .null, .null, .null]) (ws2 := [(h0, .inr (0, [.int 0, .int 0, .int 0, .ref q1, .null, .null, .int 0, .int 0, .null, .int 0, .null, .null, .int 0, .null, .null, .null])), (q1, .inl (Y.1, 7, .inl (fun _ => 0)))]) C hnm wG_X0 tyX0 tyX0_ok nmX0 0 rfl rfl 3 (by decide) wd_fl0_9 rfl rfl rfl rfl rfl (Nat.le_of_ble_eq_true rfl) dX0_init_9 rfl ?_
  refine j_aload_n C dX0_init_12 rfl ?_
  refine j_bipush C (nI 6) dX0_init_13 (by decide) ?_
  refine j_newa_int C 6 rfl (by decide) (Nat.le_of_ble_eq_true rfl) (Nat.le_of_ble_eq_true rfl) dX0_init_15 (fun q2 => ?_)
  refine j_eq (ws2 := [(h0, .inr (0, [.int 0, .int 0, .int 0, .ref q1, .null, .null, .int 0, .int 0, .null, .int 0, .null, .null, .int 0, .null, .null, .null])), (q1, .inl (Y.1, 7, .inl (fun _ => 0))), (q2, .inl (Y.1, 6, .inl (fun _ => 0)))]) rfl rfl rfl ?_
  refine j_putF (fs := [.int 0, .int 0, .int 0, .ref q1, .null, .null, .int 0, .int 0, .null, .int 0, .null, .null, .int 0, .null, .null, .null]) (ws2 := [(h0, .inr (0, [.int 0, .int 0, .int 0, .ref q1, .ref q2, .null, .int 0, .int 0, .null, .int 0, .null, .null, .int 0, .null, .null, .null])), (q1, .inl (Y.1, 7, .inl (fun _ => 0))), (q2, .inl (Y.1, 6, .inl (fun _ => 0)))]) C hnm wG_X0 tyX0 tyX0_ok nmX0 0 rfl rfl 4 (by decide) wd_fl0_13 rfl rfl rfl rfl rfl (Nat.le_of_ble_eq_true rfl) dX0_init_17 rfl ?_
  refine j_aload_n C dX0_init_20 rfl ?_
  refine j_bipush C (nI 25) dX0_init_21 (by decide) ?_
  refine j_newa_boolean C 25 rfl (by decide) (Nat.le_of_ble_eq_true rfl) (Nat.le_of_ble_eq_true rfl) dX0_init_23 (fun q3 => ?_)
  refine j_eq (ws2 := [(h0, .inr (0, [.int 0, .int 0, .int 0, .ref q1, .ref q2, .null, .int 0, .int 0, .null, .int 0, .null, .null, .int 0, .null, .null, .null])), (q1, .inl (Y.1, 7, .inl (fun _ => 0))), (q2, .inl (Y.1, 6, .inl (fun _ => 0))), (q3, .inl (Y.2.1, 25, .inl (fun _ => 0)))]) rfl rfl rfl ?_
  refine j_putF (fs := [.int 0, .int 0, .int 0, .ref q1, .ref q2, .null, .int 0, .int 0, .null, .int 0, .null, .null, .int 0, .null, .null, .null]) (ws2 := [(h0, .inr (0, [.int 0, .int 0, .int 0, .ref q1, .ref q2, .ref q3, .int 0, .int 0, .null, .int 0, .null, .null, .int 0, .null, .null, .null])), (q1, .inl (Y.1, 7, .inl (fun _ => 0))), (q2, .inl (Y.1, 6, .inl (fun _ => 0))), (q3, .inl (Y.2.1, 25, .inl (fun _ => 0)))]) C hnm wG_X0 tyX0 tyX0_ok nmX0 0 rfl rfl 5 (by decide) wd_fl0_16 rfl rfl rfl rfl rfl (Nat.le_of_ble_eq_true rfl) dX0_init_25 rfl ?_
  refine j_aload_n C dX0_init_28 rfl ?_
  refine j_sipush C (nI 500) dX0_init_29 (by decide) ?_
  refine j_newa_int C 500 rfl (by decide) (Nat.le_of_ble_eq_true rfl) (Nat.le_of_ble_eq_true rfl) dX0_init_32 (fun q4 => ?_)
  refine j_eq (ws2 := [(h0, .inr (0, [.int 0, .int 0, .int 0, .ref q1, .ref q2, .ref q3, .int 0, .int 0, .null, .int 0, .null, .null, .int 0, .null, .null, .null])), (q1, .inl (Y.1, 7, .inl (fun _ => 0))), (q2, .inl (Y.1, 6, .inl (fun _ => 0))), (q3, .inl (Y.2.1, 25, .inl (fun _ => 0))), (q4, .inl (Y.1, 500, .inl (fun _ => 0)))]) rfl rfl rfl ?_
  refine j_putF (fs := [.int 0, .int 0, .int 0, .ref q1, .ref q2, .ref q3, .int 0, .int 0, .null, .int 0, .null, .null, .int 0, .null, .null, .null]) (ws2 := [(h0, .inr (0, [.int 0, .int 0, .int 0, .ref q1, .ref q2, .ref q3, .int 0, .int 0, .ref q4, .int 0, .null, .null, .int 0, .null, .null, .null])), (q1, .inl (Y.1, 7, .inl (fun _ => 0))), (q2, .inl (Y.1, 6, .inl (fun _ => 0))), (q3, .inl (Y.2.1, 25, .inl (fun _ => 0))), (q4, .inl (Y.1, 500, .inl (fun _ => 0)))]) C hnm wG_X0 tyX0 tyX0_ok nmX0 0 rfl rfl 8 (by decide) wd_fl0_20 rfl rfl rfl rfl rfl (Nat.le_of_ble_eq_true rfl) dX0_init_34 rfl ?_
  refine j_aload_n C dX0_init_37 rfl ?_
  refine j_iconst C (nI 5) dX0_init_38 (by decide) ?_
  refine j_newa_int C 5 rfl (by decide) (Nat.le_of_ble_eq_true rfl) (Nat.le_of_ble_eq_true rfl) dX0_init_39 (fun q5 => ?_)
  refine j_eq (ws2 := [(h0, .inr (0, [.int 0, .int 0, .int 0, .ref q1, .ref q2, .ref q3, .int 0, .int 0, .ref q4, .int 0, .null, .null, .int 0, .null, .null, .null])), (q1, .inl (Y.1, 7, .inl (fun _ => 0))), (q2, .inl (Y.1, 6, .inl (fun _ => 0))), (q3, .inl (Y.2.1, 25, .inl (fun _ => 0))), (q4, .inl (Y.1, 500, .inl (fun _ => 0))), (q5, .inl (Y.1, 5, .inl (fun _ => 0)))]) rfl rfl rfl ?_
  refine j_putF (fs := [.int 0, .int 0, .int 0, .ref q1, .ref q2, .ref q3, .int 0, .int 0, .ref q4, .int 0, .null, .null, .int 0, .null, .null, .null]) (ws2 := [(h0, .inr (0, [.int 0, .int 0, .int 0, .ref q1, .ref q2, .ref q3, .int 0, .int 0, .ref q4, .int 0, .ref q5, .null, .int 0, .null, .null, .null])), (q1, .inl (Y.1, 7, .inl (fun _ => 0))), (q2, .inl (Y.1, 6, .inl (fun _ => 0))), (q3, .inl (Y.2.1, 25, .inl (fun _ => 0))), (q4, .inl (Y.1, 500, .inl (fun _ => 0))), (q5, .inl (Y.1, 5, .inl (fun _ => 0)))]) C hnm wG_X0 tyX0 tyX0_ok nmX0 0 rfl rfl 10 (by decide) wd_fl0_23 rfl rfl rfl rfl rfl (Nat.le_of_ble_eq_true rfl) dX0_init_41 rfl ?_
  refine j_aload_n C dX0_init_44 rfl ?_
  refine j_sipush C (nI 15625) dX0_init_45 (by decide) ?_
  refine j_newa_int C 15625 rfl (by decide) (Nat.le_of_ble_eq_true rfl) (Nat.le_of_ble_eq_true rfl) dX0_init_48 (fun q6 => ?_)
  refine j_eq (ws2 := [(h0, .inr (0, [.int 0, .int 0, .int 0, .ref q1, .ref q2, .ref q3, .int 0, .int 0, .ref q4, .int 0, .ref q5, .null, .int 0, .null, .null, .null])), (q1, .inl (Y.1, 7, .inl (fun _ => 0))), (q2, .inl (Y.1, 6, .inl (fun _ => 0))), (q3, .inl (Y.2.1, 25, .inl (fun _ => 0))), (q4, .inl (Y.1, 500, .inl (fun _ => 0))), (q5, .inl (Y.1, 5, .inl (fun _ => 0))), (q6, .inl (Y.1, 15625, .inl (fun _ => 0)))]) rfl rfl rfl ?_
  refine j_putF (fs := [.int 0, .int 0, .int 0, .ref q1, .ref q2, .ref q3, .int 0, .int 0, .ref q4, .int 0, .ref q5, .null, .int 0, .null, .null, .null]) (ws2 := [(h0, .inr (0, [.int 0, .int 0, .int 0, .ref q1, .ref q2, .ref q3, .int 0, .int 0, .ref q4, .int 0, .ref q5, .ref q6, .int 0, .null, .null, .null])), (q1, .inl (Y.1, 7, .inl (fun _ => 0))), (q2, .inl (Y.1, 6, .inl (fun _ => 0))), (q3, .inl (Y.2.1, 25, .inl (fun _ => 0))), (q4, .inl (Y.1, 500, .inl (fun _ => 0))), (q5, .inl (Y.1, 5, .inl (fun _ => 0))), (q6, .inl (Y.1, 15625, .inl (fun _ => 0)))]) C hnm wG_X0 tyX0 tyX0_ok nmX0 0 rfl rfl 11 (by decide) wd_fl0_26 rfl rfl rfl rfl rfl (Nat.le_of_ble_eq_true rfl) dX0_init_50 rfl ?_
  refine j_aload_n C dX0_init_53 rfl ?_
  refine j_sipush C (nI 15625) dX0_init_54 (by decide) ?_
  refine j_newa_int C 15625 rfl (by decide) (Nat.le_of_ble_eq_true rfl) (Nat.le_of_ble_eq_true rfl) dX0_init_57 (fun q7 => ?_)
  refine j_eq (ws2 := [(h0, .inr (0, [.int 0, .int 0, .int 0, .ref q1, .ref q2, .ref q3, .int 0, .int 0, .ref q4, .int 0, .ref q5, .ref q6, .int 0, .null, .null, .null])), (q1, .inl (Y.1, 7, .inl (fun _ => 0))), (q2, .inl (Y.1, 6, .inl (fun _ => 0))), (q3, .inl (Y.2.1, 25, .inl (fun _ => 0))), (q4, .inl (Y.1, 500, .inl (fun _ => 0))), (q5, .inl (Y.1, 5, .inl (fun _ => 0))), (q6, .inl (Y.1, 15625, .inl (fun _ => 0))), (q7, .inl (Y.1, 15625, .inl (fun _ => 0)))]) rfl rfl rfl ?_
  refine j_putF (fs := [.int 0, .int 0, .int 0, .ref q1, .ref q2, .ref q3, .int 0, .int 0, .ref q4, .int 0, .ref q5, .ref q6, .int 0, .null, .null, .null]) (ws2 := [(h0, .inr (0, [.int 0, .int 0, .int 0, .ref q1, .ref q2, .ref q3, .int 0, .int 0, .ref q4, .int 0, .ref q5, .ref q6, .int 0, .ref q7, .null, .null])), (q1, .inl (Y.1, 7, .inl (fun _ => 0))), (q2, .inl (Y.1, 6, .inl (fun _ => 0))), (q3, .inl (Y.2.1, 25, .inl (fun _ => 0))), (q4, .inl (Y.1, 500, .inl (fun _ => 0))), (q5, .inl (Y.1, 5, .inl (fun _ => 0))), (q6, .inl (Y.1, 15625, .inl (fun _ => 0))), (q7, .inl (Y.1, 15625, .inl (fun _ => 0)))]) C hnm wG_X0 tyX0 tyX0_ok nmX0 0 rfl rfl 13 (by decide) wd_fl0_29 rfl rfl rfl rfl rfl (Nat.le_of_ble_eq_true rfl) dX0_init_59 rfl ?_
  refine j_aload_n C dX0_init_62 rfl ?_
  refine j_sipush C (nI 15625) dX0_init_63 (by decide) ?_
  refine j_newa_int C 15625 rfl (by decide) (Nat.le_of_ble_eq_true rfl) (Nat.le_of_ble_eq_true rfl) dX0_init_66 (fun q8 => ?_)
  refine j_eq (ws2 := [(h0, .inr (0, [.int 0, .int 0, .int 0, .ref q1, .ref q2, .ref q3, .int 0, .int 0, .ref q4, .int 0, .ref q5, .ref q6, .int 0, .ref q7, .null, .null])), (q1, .inl (Y.1, 7, .inl (fun _ => 0))), (q2, .inl (Y.1, 6, .inl (fun _ => 0))), (q3, .inl (Y.2.1, 25, .inl (fun _ => 0))), (q4, .inl (Y.1, 500, .inl (fun _ => 0))), (q5, .inl (Y.1, 5, .inl (fun _ => 0))), (q6, .inl (Y.1, 15625, .inl (fun _ => 0))), (q7, .inl (Y.1, 15625, .inl (fun _ => 0))), (q8, .inl (Y.1, 15625, .inl (fun _ => 0)))]) rfl rfl rfl ?_
  refine j_putF (fs := [.int 0, .int 0, .int 0, .ref q1, .ref q2, .ref q3, .int 0, .int 0, .ref q4, .int 0, .ref q5, .ref q6, .int 0, .ref q7, .null, .null]) (ws2 := [(h0, .inr (0, [.int 0, .int 0, .int 0, .ref q1, .ref q2, .ref q3, .int 0, .int 0, .ref q4, .int 0, .ref q5, .ref q6, .int 0, .ref q7, .ref q8, .null])), (q1, .inl (Y.1, 7, .inl (fun _ => 0))), (q2, .inl (Y.1, 6, .inl (fun _ => 0))), (q3, .inl (Y.2.1, 25, .inl (fun _ => 0))), (q4, .inl (Y.1, 500, .inl (fun _ => 0))), (q5, .inl (Y.1, 5, .inl (fun _ => 0))), (q6, .inl (Y.1, 15625, .inl (fun _ => 0))), (q7, .inl (Y.1, 15625, .inl (fun _ => 0))), (q8, .inl (Y.1, 15625, .inl (fun _ => 0)))]) C hnm wG_X0 tyX0 tyX0_ok nmX0 0 rfl rfl 14 (by decide) wd_fl0_32 rfl rfl rfl rfl rfl (Nat.le_of_ble_eq_true rfl) dX0_init_68 rfl ?_
  refine j_aload_n C dX0_init_71 rfl ?_
  refine j_callSF (wr := [(h0, .inr (0, [.int 0, .int 0, .int 0, .ref q1, .ref q2, .ref q3, .int 0, .int 0, .ref q4, .int 0, .ref q5, .ref q6, .int 0, .ref q7, .ref q8, .null])), (q1, .inl (Y.1, 7, .inl (fun _ => 0))), (q2, .inl (Y.1, 6, .inl (fun _ => 0))), (q3, .inl (Y.2.1, 25, .inl (fun _ => 0))), (q4, .inl (Y.1, 500, .inl (fun _ => 0))), (q5, .inl (Y.1, 5, .inl (fun _ => 0))), (q6, .inl (Y.1, 15625, .inl (fun _ => 0))), (q7, .inl (Y.1, 15625, .inl (fun _ => 0))), (q8, .inl (Y.1, 15625, .inl (fun _ => 0)))]) (st := [.ref h0]) C [] [] [0, 1, 2, 3, 4, 5, 6, 7, 8] (ct_X0_splitTable (ad := fun _ => 0)) rfl rfl rfl rfl (by decide) gw_0_35 rfl nd_X0_splitTable ⟨by decide, by decide⟩ ⟨Nat.le_of_ble_eq_true rfl, Nat.le_of_ble_eq_true rfl⟩ (Nat.le_of_ble_eq_true rfl) dX0_init_72 rfl (fun r w1 hp => ?_)
  obtain ⟨q9, rfl, tb, htb, rfl⟩ := hp
  refine j_eq (st' := [.ref q9, .ref h0]) (ws2 := [(h0, .inr (0, [.int 0, .int 0, .int 0, .ref q1, .ref q2, .ref q3, .int 0, .int 0, .ref q4, .int 0, .ref q5, .ref q6, .int 0, .ref q7, .ref q8, .null])), (q1, .inl (Y.1, 7, .inl (fun _ => 0))), (q2, .inl (Y.1, 6, .inl (fun _ => 0))), (q3, .inl (Y.2.1, 25, .inl (fun _ => 0))), (q4, .inl (Y.1, 500, .inl (fun _ => 0))), (q5, .inl (Y.1, 5, .inl (fun _ => 0))), (q6, .inl (Y.1, 15625, .inl (fun _ => 0))), (q7, .inl (Y.1, 15625, .inl (fun _ => 0))), (q8, .inl (Y.1, 15625, .inl (fun _ => 0))), (q9, .inl (Y.1, 63, .inl tb))]) rfl rfl rfl ?_
  refine j_putF (fs := [.int 0, .int 0, .int 0, .ref q1, .ref q2, .ref q3, .int 0, .int 0, .ref q4, .int 0, .ref q5, .ref q6, .int 0, .ref q7, .ref q8, .null]) (ws2 := [(h0, .inr (0, [.int 0, .int 0, .int 0, .ref q1, .ref q2, .ref q3, .int 0, .int 0, .ref q4, .int 0, .ref q5, .ref q6, .int 0, .ref q7, .ref q8, .ref q9])), (q1, .inl (Y.1, 7, .inl (fun _ => 0))), (q2, .inl (Y.1, 6, .inl (fun _ => 0))), (q3, .inl (Y.2.1, 25, .inl (fun _ => 0))), (q4, .inl (Y.1, 500, .inl (fun _ => 0))), (q5, .inl (Y.1, 5, .inl (fun _ => 0))), (q6, .inl (Y.1, 15625, .inl (fun _ => 0))), (q7, .inl (Y.1, 15625, .inl (fun _ => 0))), (q8, .inl (Y.1, 15625, .inl (fun _ => 0))), (q9, .inl (Y.1, 63, .inl tb))]) C hnm wG_X0 tyX0 tyX0_ok nmX0 0 rfl rfl 15 (by decide) wd_fl0_39 rfl rfl rfl rfl rfl (Nat.le_of_ble_eq_true rfl) dX0_init_75 rfl ?_
  obtain ⟨ad, e0, e1, e2, e3, e4, e5, e6, e7, e8, e9⟩ : ∃ ad : Nat → Nat, ad 0 = h0 ∧ ad 1 = q1 ∧ ad 2 = q2 ∧ ad 3 = q3 ∧ ad 4 = q4 ∧ ad 5 = q5 ∧ ad 6 = q6 ∧ ad 7 = q7 ∧ ad 8 = q8 ∧ ad 9 = q9 := ⟨fun k => [h0, q1, q2, q3, q4, q5, q6, q7, q8, q9].getD k 0, rfl, rfl, rfl, rfl, rfl, rfl, rfl, rfl, rfl, rfl⟩
  subst e0
  subst e1
  subst e2
  subst e3
  subst e4
  subst e5
  subst e6
  subst e7
  subst e8
  subst e9
  refine j_eq (lo' := [some (.ref (ad 0))]) (ws2 := wA Y ad 0 0 0 0 0 0 0 (fun _ => 0) (fun _ => 0) (fun _ => 0) (fun _ => 0) (fun _ => 0) (fun _ => 0) (fun _ => 0) (fun _ => 0) tb) rfl rfl rfl ?_
  refine e0_sp (fun i => nI (spT i)) (fun i hi => htb i hi) ?_
  refine e0_tr (fun k => nI ((fun _ => 0) k)) (fun k hk => rfl) ?_
  refine j_aload_n C dX0_init_78 rfl ?_
  refine j_iconst C (nI 3) dX0_init_79 (by decide) ?_
  refine j_iconst C (nI 3) dX0_init_80 (by decide) ?_
  refine j_callV2v C (ct_X0_lay (P := 3) (N := 3) ⟨by omega, by omega, by omega, by omega⟩) gw_0_42 nd_X0_lay 0 0 rfl rfl rfl ⟨by decide, by decide⟩ ⟨Nat.le_of_ble_eq_true rfl, Nat.le_of_ble_eq_true rfl⟩ (Nat.le_of_ble_eq_true rfl) dX0_init_81 (fun w_1 hp => ?_)
  subst hp
  exact j_retv C R dX0_init_84 ⟨ad, rfl, rfl⟩
