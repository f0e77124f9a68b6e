/-- the last place below d where f is g -/
def abo (f : Nat → Nat) (g : Nat) : Nat → Option Nat
  | 0 => none
  | d + 1 => if f d = g then some d else abo f g d
/-- what the model checks on the peg g, up to the place d -/
def ckp (f : Nat → Nat) (cb : Nat → Bool) (g : Nat) : Nat → Bool
  | 0 => true
  | d + 1 => if f d = g then (ckp f cb g d && (match abo f g d with | none => true | some j => cb j != cb d)) else ckp f cb g d
theorem abo_some {f : Nat → Nat} {g : Nat} : ∀ {d j : Nat}, abo f g d = some j → j < d ∧ f j = g ∧ ∀ q, j < q → q < d → f q ≠ g
  | 0, _, h => by cases h
  | d + 1, j, h => by
    rw [abo] at h
    split at h
    · rename_i e
      cases h
      exact ⟨by omega, e, fun q a b => by omega⟩
    · rename_i e
      obtain ⟨h1, h2, h3⟩ := abo_some h
      refine ⟨by omega, h2, fun q a b => ?_⟩
      by_cases w : q = d
      · rw [w]; exact e
      · exact h3 q a (by omega)
theorem abo_eq {f : Nat → Nat} {g : Nat} : ∀ {d j : Nat}, j < d → f j = g → (∀ q, j < q → q < d → f q ≠ g) → abo f g d = some j
  | 0, _, h, _, _ => by omega
  | d + 1, j, h, h2, h3 => by
    rw [abo]
    by_cases w : j = d
    · subst w; rw [if_pos h2]
    · rw [if_neg (h3 d (by omega) (by omega)), abo_eq (by omega) h2 (fun q a b => h3 q a (by omega))]
theorem ckp_iff {f : Nat → Nat} {cb : Nat → Bool} {g : Nat} : ∀ {d : Nat}, ckp f cb g d = true ↔ ∀ i, i < d → f i = g → ∀ j, abo f g i = some j → cb j ≠ cb i
  | 0 => ⟨fun _ i h => by omega, fun _ => rfl⟩
  | d + 1 => by
    rw [ckp]
    by_cases e : f d = g
    · rw [if_pos e, Bool.and_eq_true, ckp_iff]
      refine ⟨fun ⟨h1, h2⟩ i hi hf j hj => ?_, fun h => ⟨fun i hi hf j hj => h i (by omega) hf j hj, ?_⟩⟩
      · by_cases w : i = d
        · subst w
          rw [hj] at h2
          exact bne_iff_ne.mp h2
        · exact h1 i (by omega) hf j hj
      · cases hab : abo f g d with
        | none => rfl
        | some j => exact bne_iff_ne.mpr (h d (by omega) e j hab)
    · rw [if_neg e, ckp_iff]
      refine ⟨fun h i hi hf j hj => ?_, fun h i hi hf j hj => h i (by omega) hf j hj⟩
      by_cases w : i = d
      · subst w; exact absurd hf e
      · exact h i (by omega) hf j hj
theorem lawF_ck {f : Nat → Nat} {cb : Nat → Bool} {N P : Nat} (hf : ∀ d, d < N → f d < P) : lawF N true cb f = true ↔ ∀ g, g < P → ckp f cb g N = true := by
  unfold lawF
  rw [alB_iff]
  refine ⟨fun h g hg => ckp_iff.mpr (fun i hi hfi j hj => ?_), fun h d _ hd => ?_⟩
  · obtain ⟨h1, h2, h3⟩ := abo_some hj
    have h4 := h j (Nat.zero_le _) (by omega)
    have h5 : frm f (f j) (j + 1) N = some i := frm_eq (by omega) hi (by rw [h2]; exact hfi) (fun q a b => by rw [h2]; exact h3 q (by omega) b)
    rw [h5] at h4
    unfold mlo at h4
    simpa using h4
  · unfold mlo
    cases e : frm f (f d) (d + 1) N with
    | none => rfl
    | some j =>
      obtain ⟨h1, h2, h3, h4⟩ := frm_some e
      have h5 := ckp_iff.mp (h (f d) (hf d hd)) j h2 h3 d (abo_eq (by omega) rfl (fun q a b => h4 q (by omega) b))
      simpa using h5
theorem lawF_off {f : Nat → Nat} {cb : Nat → Bool} {N : Nat} : lawF N false cb f = true := by
  unfold lawF
  rw [alB_iff]
  intro d _ _
  rfl
theorem lawF_cong {f f2 : Nat → Nat} {ru : Bool} {cb : Nat → Bool} {N : Nat} (h : ∀ d, d < N → f d = f2 d) : lawF N ru cb f = lawF N ru cb f2 := by
  have e : ∀ d, d < N → mlo ru cb d (frm f (f d) (d + 1) N) = mlo ru cb d (frm f2 (f2 d) (d + 1) N) := fun d hd => by rw [h d hd, frm_cong (fun q a b => h q b)]
  have hiff : lawF N ru cb f = true ↔ lawF N ru cb f2 = true := by
    unfold lawF
    rw [alB_iff, alB_iff]
    exact ⟨fun g d a b => by rw [← e d b]; exact g d a b, fun g d a b => by rw [e d b]; exact g d a b⟩
  cases h1 : lawF N ru cb f <;> cases h2 : lawF N ru cb f2 <;> simp_all
def allG (q : Nat → Bool) (g : Nat) : Bool := alB q 0 g
theorem allG_s {q : Nat → Bool} {g : Nat} : allG q (g + 1) = (allG q g && q g) := by
  have h : allG q (g + 1) = true ↔ (allG q g && q g) = true := by
    unfold allG
    rw [Bool.and_eq_true, alB_iff, alB_iff]
    refine ⟨fun h => ⟨fun d a b => h d a (by omega), h g (Nat.zero_le _) (by omega)⟩, fun h d a b => ?_⟩
    by_cases e : d = g
    · rw [e]; exact h.2
    · exact h.1 d a (by omega)
  cases h1 : allG q (g + 1) <;> cases h2 : (allG q g && q g) <;> simp_all
theorem fine_of {N P g : Nat} (ru : Bool) {cb : Nat → Bool} {f : Nat → Nat} (h0 : ru = false → allG (fun g => ckp f cb g N) g = true) (hf : ∀ d, d < N → f d < P) (hP : P ≤ g) (hg : g ≤ P) : bi (allG (fun g => ckp f cb g N) g) = bi (lawF N ru cb f) := by
  cases ru with
  | false => rw [h0 rfl, lawF_off]
  | true =>
    rw [bi_inj]
    have e : g = P := by omega
    subst e
    have h : allG (fun g => ckp f cb g N) g = true ↔ lawF N true cb f = true := by
      rw [lawF_ck hf]
      unfold allG
      rw [alB_iff]
      exact ⟨fun h q hq => h q (Nat.zero_le _) hq, fun h q _ hq => h q hq⟩
    cases h1 : allG (fun g => ckp f cb g N) g <;> cases h2 : lawF N true cb f <;> simp_all
abbrev rm_X1_isFine : Room := { frames := 0, cells := 0, slots := 0, locals := 0 }
set_option maxHeartbeats 4000000 in
set_option maxRecDepth 100000 in
theorem ct_X1_isFine {l : Launch} {D : va_G} {Y : jy_T} {ad : Nat → Nat} {P N : Nat} {ru : Bool} {cb : Nat → Bool} {f : Nat → Nat} {th mc s0 qd : Int32} {nw gl ba fr tt lk fa qu nb : Nat → Int32} (hc : cfg P N) (hlk : ∀ d, d < N → lk d = nI (f d)) (hf : ∀ d, d < N → f d < P) :
    MJ l yX1_isFine cX1_isFine 5 (some .boolean) rm_X1_isFine D Y [.ref (ad 0)] (wM Y ad th (nI P) (nI N) (bi ru) mc s0 qd nw gl (fun d => bi (cb d)) ba fr tt lk fa qu nb) (jI (fun r w => r = bi (lawF N ru cb f) ∧ w = (wM Y ad th (nI P) (nI N) (bi ru) mc s0 qd nw gl (fun d => bi (cb d)) ba fr tt lk fa qu nb))) := by
  refine j_enter (by decide) (Nat.le_of_ble_eq_true rfl) (fun v hv => by rw [List.mem_singleton.mp hv]; rfl) (fun K hl hD hnm C R => ?_)
  subst hl; subst hD
  have C : jC cX1_isFine RX1 Y rm_X1_isFine 5 K := C
  have R : jR Y (some .boolean) 0 0 (jI (fun r w => r = bi (lawF N ru cb f) ∧ w = (wM Y ad th (nI P) (nI N) (bi ru) mc s0 qd nw gl (fun d => bi (cb d)) ba fr tt lk fa qu nb))) K := R
  refine j_eq (lo' := [some (.ref (ad 0)), none, none, none, none]) rfl rfl rfl ?_
  obtain ⟨hP3, hP5, hN1, hN6⟩ := id hc
  have hL : ∀ (m g : Nat) (l3 l4 : Option Value), P < g + m → g ≤ P → (ru = false → allG (fun g => ckp f cb g N) g = true) → jJ K 0 0 4 [some (.ref (ad 0)), some (.int (bi (allG (fun g => ckp f cb g N) g))), some (.int (nI (g))), l3, l4] [] (wM Y ad th (nI P) (nI N) (bi ru) mc s0 qd nw gl (fun d => bi (cb d)) ba fr tt lk fa qu nb) := by
    intro m
    induction m with
    | zero => intro g l3 l4 h1 h2; omega
    | succ m ih =>
      intro g l3 l4 h1 hg hru
      refine j_iload_n C dX1_isFine_4 rfl ?_
      refine j_aload_n C dX1_isFine_5 rfl ?_
      refine g1_pegs C dX1_isFine_6 ?_
      refine jN_icmp_ge C 90 (by omega) (by omega) dX1_isFine_9 (by decide) (fun c_9 => ?_) (fun c_9 => ?_)
      · refine j_iload_n C dX1_isFine_90 rfl ?_
        exact j_retz C R dX1_isFine_91 (bi_nar _) ⟨by rw [fine_of ru hru hf c_9 hg], rfl⟩
      · refine j_aload_n C dX1_isFine_12 rfl ?_
        refine g1_rule C dX1_isFine_13 ?_
        refine jB_if_eq C 90 dX1_isFine_16 (by decide) (fun c_16 => ?_) (fun c_16 => ?_)
        · refine j_iload_n C dX1_isFine_90 rfl ?_
          exact j_retz C R dX1_isFine_91 (bi_nar _) ⟨by rw [hru c_16, c_16, lawF_off], rfl⟩
        · refine j_iconst C (-1) dX1_isFine_19 (by decide) ?_
          refine j_istore_3 C dX1_isFine_20 (by decide) ?_
          refine j_iconst C (nI 0) dX1_isFine_21 (by decide) ?_
          refine j_istore_4 C dX1_isFine_22 (by decide) ?_
          have hru2 := c_16
          have hI : ∀ (m2 d : Nat), N < d + m2 → d ≤ N → jJ K 0 0 24 [some (.ref (ad 0)), some (.int (bi (allG (fun g => ckp f cb g N) g && ckp f cb g d))), some (.int (nI (g))), some (.int (oI (abo f g d))), some (.int (nI d))] [] (wM Y ad th (nI P) (nI N) (bi ru) mc s0 qd nw gl (fun d => bi (cb d)) ba fr tt lk fa qu nb) := by
            intro m2
            induction m2 with
            | zero => intro d h3 h4; omega
            | succ m2 ih2 =>
              intro d h3 h4
              have hJ : ∀ v : Bool, v = (ckp f cb g d && (match abo f g d with | none => true | some j => cb j != cb d)) → f d = g → d < N → ∀ l1 l3 : Option Value, jJ K 0 0 74 [some (.ref (ad 0)), l1, some (.int (nI g)), l3, some (.int (nI d))] [.int (bi (allG (fun g => ckp f cb g N) g && v))] (wM Y ad th (nI P) (nI N) (bi ru) mc s0 qd nw gl (fun d => bi (cb d)) ba fr tt lk fa qu nb) := by
                intro v hv hfd hdN l1 l3
                refine j_istore_1 C dX1_isFine_74 (by decide) ?_
                refine j_iload C dX1_isFine_75 rfl ?_
                refine j_istore_3 C dX1_isFine_77 (by decide) ?_
                refine j_iinc_4 C _ (nI_p1 _) dX1_isFine_78 ?_
                refine j_goto C 24 dX1_isFine_81 (by decide) ?_
                exact j_eq (by rw [hv, ckp, if_pos hfd, abo, if_pos hfd]; rfl) rfl rfl (ih2 (d + 1) (by omega) (by omega))
              refine j_iload C dX1_isFine_24 rfl ?_
              refine j_aload_n C dX1_isFine_26 rfl ?_
              refine g1_disks C dX1_isFine_27 ?_
              refine jN_icmp_ge C 84 (by omega) (by omega) dX1_isFine_30 (by decide) (fun c_30 => ?_) (fun c_30 => ?_)
              · refine j_iinc_2 C _ (nI_p1 _) dX1_isFine_84 ?_
                refine j_goto C 4 dX1_isFine_87 (by decide) ?_
                refine j_eq (lo' := [some (.ref (ad 0)), some (.int (bi (allG (fun g => ckp f cb g N) (g + 1)))), some (.int (nI (g + 1))), _, _]) (by rw [show d = N by omega, allG_s]) rfl rfl ?_
                exact ih (g + 1) _ _ (by omega) (by omega) (fun q => by rw [hru2] at q; cases q)
              · refine j_aload_n C dX1_isFine_33 rfl ?_
                refine g1_look C dX1_isFine_34 ?_
                refine j_iload C dX1_isFine_37 rfl ?_
                refine l1_lk C _ rfl (by omega) dX1_isFine_39 ?_
                refine j_top _ (nI (f d)) (hlk d (by omega)) ?_
                refine j_iload_n C dX1_isFine_40 rfl ?_
                refine jN_icmp_ne C 78 (by have := hf d (by omega); omega) (by omega) dX1_isFine_41 (by decide) (fun c_41 => ?_) (fun c_41 => ?_)
                · refine j_iinc_4 C _ (nI_p1 _) dX1_isFine_78 ?_
                  refine j_goto C 24 dX1_isFine_81 (by decide) ?_
                  exact j_eq (by rw [ckp, if_neg c_41, abo, if_neg c_41]) rfl rfl (ih2 (d + 1) (by omega) (by omega))
                · refine j_iload_n C dX1_isFine_44 rfl ?_
                  refine jB_if_eq C 73 dX1_isFine_45 (by decide) (fun c_45 => ?_) (fun c_45 => ?_)
                  · refine j_iconst C (nI 0) dX1_isFine_73 (by decide) ?_
                    exact j_eq (st' := [.int (bi (allG (fun g => ckp f cb g N) g && (ckp f cb g d && (match abo f g d with | none => true | some j => cb j != cb d))))]) rfl (by rw [← Bool.and_assoc, c_45]; rfl) rfl (hJ _ rfl c_41 c_30 _ _)
                  · refine j_iload_n C dX1_isFine_48 rfl ?_
                    refine j_iconst C (-1) dX1_isFine_49 (by decide) ?_
                    refine j_icmp_eq C 69 dX1_isFine_50 (by decide) (fun c_50 => ?_) (fun c_50 => ?_)
                    · refine j_iconst C (nI 1) dX1_isFine_69 (by decide) ?_
                      refine j_goto C 74 dX1_isFine_70 (by decide) ?_
                      exact j_eq (st' := [.int (bi (allG (fun g => ckp f cb g N) g && (ckp f cb g d && (match abo f g d with | none => true | some j => cb j != cb d))))]) rfl (by rw [← Bool.and_assoc, c_45, (oI_m1 (fun j h => by have := (abo_some h).1; omega)).mp c_50]; rfl) rfl (hJ _ rfl c_41 c_30 _ _)
                    · rcases hab : abo f g d with _ | j
                      · rw [hab] at c_50; exact absurd rfl c_50
                      have hjd := (abo_some hab).1
                      refine j_eq (lo' := [some (.ref (ad 0)), some (.int (bi (allG (fun g => ckp f cb g N) g && ckp f cb g d))), some (.int (nI (g))), some (.int (nI j)), some (.int (nI d))]) rfl rfl rfl ?_
                      refine j_aload_n C dX1_isFine_53 rfl ?_
                      refine g1_colours C dX1_isFine_54 ?_
                      refine j_iload_n C dX1_isFine_57 rfl ?_
                      refine l1_co C _ rfl (by omega) dX1_isFine_58 ?_
                      refine j_aload_n C dX1_isFine_59 rfl ?_
                      refine g1_colours C dX1_isFine_60 ?_
                      refine j_iload C dX1_isFine_63 rfl ?_
                      refine l1_co C _ rfl (by omega) dX1_isFine_65 ?_
                      refine j_icmp_eq C 73 dX1_isFine_66 (by decide) (fun c_66 => ?_) (fun c_66 => ?_)
                      · refine j_iconst C (nI 0) dX1_isFine_73 (by decide) ?_
                        exact j_eq (st' := [.int (bi (allG (fun g => ckp f cb g N) g && (ckp f cb g d && (match abo f g d with | none => true | some j => cb j != cb d))))]) rfl (by rw [← Bool.and_assoc, c_45, hab]; have h := bi_inj.mp c_66; simp [h]; rfl) rfl (hJ _ rfl c_41 c_30 _ _)
                      · refine j_iconst C (nI 1) dX1_isFine_69 (by decide) ?_
                        refine j_goto C 74 dX1_isFine_70 (by decide) ?_
                        exact j_eq (st' := [.int (bi (allG (fun g => ckp f cb g N) g && (ckp f cb g d && (match abo f g d with | none => true | some j => cb j != cb d))))]) rfl (by rw [← Bool.and_assoc, c_45, hab]; have h : ¬ cb j = cb d := fun q => c_66 (bi_inj.mpr q); show _ = [Value.int (bi (true && (cb j != cb d)))]; rw [show (cb j != cb d) = true from bne_iff_ne.mpr h]; rfl) rfl (hJ _ rfl c_41 c_30 _ _)
          exact j_eq (by rw [show ckp f cb g 0 = true from rfl, Bool.and_true]; rfl) rfl rfl (hI (N + 1) 0 (by omega) (by omega))
  refine j_iconst C (bi true) dX1_isFine_0 (by decide) ?_
  refine j_istore_1 C dX1_isFine_1 (by decide) ?_
  refine j_iconst C (nI 0) dX1_isFine_2 (by decide) ?_
  refine j_istore_2 C dX1_isFine_3 (by decide) ?_
  exact hL (P + 1) 0 _ _ (by omega) (by omega) (fun _ => rfl)
