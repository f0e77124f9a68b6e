/-! what ways, the told move and moves lost keep to -/
theorem srD_is {M P : Nat} {nb : nb_T} {o : Nat} {law : Bool} {ds : Nat → Option Nat} (h : srD M P nb o law ds) {y w : Nat} (e : ds y = some w) : law = true ∧ isDs (eg P nb) o ds := by
  rcases h.2 with q | ⟨-, q⟩
  · exact q
  · rw [q] at e; cases e
section WY
variable {P N a b : Nat} {ru : Bool} {cb al : Nat → Bool} {ds : Nat → Option Nat}
theorem srD_law (hP : 0 < P) (hb : b < P ^ N) (h : srD (P ^ N) P (nbC P N ru cb al true) b (lawB P N ru cb b) ds) {w : Nat} (e : ds a = some w) : a < P ^ N ∧ lawB P N ru cb a = true := by
  obtain ⟨hl, hD⟩ := srD_is h e
  exact (pth_cong (L := fun q => q < P ^ N ∧ lawB P N ru cb q = true) (F := fun _ _ => True) ⟨hb, hl⟩ (fun u v hu huv => by
    obtain ⟨a1, a2, -⟩ := eg_bw hP hu.1 hu.2 huv
    exact ⟨trivial, a1, a2⟩) (hD.1 a w e)).2
theorem srD_0 (h : srD (P ^ N) P (nbC P N ru cb al true) b (lawB P N ru cb b) ds) (e : ds a = some 0) : a = b := by
  obtain ⟨-, hD⟩ := srD_is h e
  exact (hD.1 a 0 e).symm
theorem srD_next (hP : 0 < P) (hb : b < P ^ N) (h : srD (P ^ N) P (nbC P N ru cb al true) b (lawB P N ru cb b) ds) {k : Nat} (e : ds a = some (k + 1)) : ∃ f t, f < P ∧ t < P ∧ psB P N ru cb al a f t = true ∧ ds (mv P N a f t) = some k := by
  obtain ⟨-, hD⟩ := srD_is h e
  obtain ⟨z, hz, hza⟩ := hD.1 a (k + 1) e
  obtain ⟨d, h1, h2⟩ := hD.2 k z hz
  obtain ⟨z1, z2⟩ := srD_law hP hb h h1
  obtain ⟨-, -, f, t, hf, ht, hps, rfl⟩ := eg_bw hP z1 z2 hza
  obtain ⟨d2, h3, h4⟩ := hD.2 (d + 1) a ⟨_, hD.1 _ d h1, hza⟩
  rw [e] at h3; cases h3
  exact ⟨f, t, hf, ht, hps, by rw [h1, show d = k by omega]⟩
theorem srD_le (hP : 0 < P) (hb : b < P ^ N) (h : srD (P ^ N) P (nbC P N ru cb al true) b (lawB P N ru cb b) ds) {w u f t : Nat} (hf : f < P) (ht : t < P) (e : ds a = some w) (hps : psB P N ru cb al a f t = true) (e2 : ds (mv P N a f t) = some u) : w ≤ u + 1 := by
  obtain ⟨-, hD⟩ := srD_is h e
  obtain ⟨z1, z2⟩ := srD_law hP hb h e
  obtain ⟨d, h3, h4⟩ := hD.2 (u + 1) a ⟨_, hD.1 _ u e2, eg_bw2 hP z1 z2 hf ht hps⟩
  rw [e] at h3; cases h3
  exact h4
end WY
theorem oI_neg {o : Option Nat} (h : ∀ j, o = some j → j < 2 ^ 31) : oI o < 0 ↔ o = none := by
  cases o with
  | none => exact ⟨fun _ => rfl, fun _ => by decide⟩
  | some j => exact ⟨fun q => absurd q (nI_nlt0 (h j rfl)), fun q => by cases q⟩
theorem oI_pos {o : Option Nat} (h : ∀ j, o = some j → j < 2 ^ 31) : oI o ≤ 0 ↔ ¬ ∃ k, o = some (k + 1) := by
  cases o with
  | none => exact ⟨fun _ z => (by obtain ⟨k, q⟩ := z; cases q), fun _ => by decide⟩
  | some j =>
    have hj := h j rfl
    show nI j ≤ 0 ↔ _
    rw [show (0 : Int32) = nI 0 from rfl, nI_leI hj (by omega)]
    refine ⟨fun q ⟨k, e⟩ => by cases e; omega, fun q => ?_⟩
    by_cases e : j = 0
    · omega
    · exact absurd ⟨j - 1, by rw [Nat.sub_add_cancel (by omega)]⟩ q
theorem oI_z {o : Option Nat} (h : ∀ j, o = some j → j < 2 ^ 31) : oI o = 0 ↔ o = some 0 := oI_nI h (by decide)
/-- the told move, where there is one -/
theorem nxC_is {P N a b w : Nat} {ru : Bool} {cb al : Nat → Bool} {ds : Nat → Option Nat} (hP : 0 < P) (hb : b < P ^ N) (h : srD (P ^ N) P (nbC P N ru cb al true) b (lawB P N ru cb b) ds) (e : ds a = some (w + 1)) :
    ∃ j, j < P * P ∧ nxC P N ru cb al ds a = nI (10 * (j / P) + j % P) ∧ (psB P N ru cb al a (j / P) (j % P) = true ∧ ds (mv P N a (j / P) (j % P)) = some w) ∧ ∀ i, i < j → ¬ (psB P N ru cb al a (i / P) (i % P) = true ∧ ds (mv P N a (i / P) (i % P)) = some w) := by
  have e1 : nxC P N ru cb al ds a = nxV P (fun f t => psB P N ru cb al a f t && decide (ds (mv P N a f t) = some w)) := by unfold nxC; rw [e]
  rw [e1]
  unfold nxV
  have hQ : ∀ i, nxF P (fun f t => psB P N ru cb al a f t && decide (ds (mv P N a f t) = some w)) i = 1 ↔ (psB P N ru cb al a (i / P) (i % P) = true ∧ ds (mv P N a (i / P) (i % P)) = some w) := fun i => by
    have hB : (psB P N ru cb al a (i / P) (i % P) && decide (ds (mv P N a (i / P) (i % P)) = some w)) = true ↔ (psB P N ru cb al a (i / P) (i % P) = true ∧ ds (mv P N a (i / P) (i % P)) = some w) := by rw [Bool.and_eq_true, decide_eq_true_iff]
    unfold nxF
    split
    · rename_i q; exact ⟨fun _ => hB.mp q, fun _ => rfl⟩
    · rename_i q; exact ⟨fun z => (by omega), fun z => absurd (hB.mpr z) q⟩
  obtain ⟨f, t, hf, ht, hps, hm⟩ := srD_next hP hb h e
  cases r : frm (nxF P (fun f t => psB P N ru cb al a f t && decide (ds (mv P N a f t) = some w))) 1 0 (P * P) with
  | none =>
    refine absurd ((hQ (f * P + t)).mpr ?_) (frm_none.mp r (f * P + t) (Nat.zero_le _) (pr_lt hf ht))
    rw [pr_div ht, pr_mod ht]
    exact ⟨hps, hm⟩
  | some j =>
    obtain ⟨-, h2, h3, h4⟩ := frm_some r
    exact ⟨j, h2, rfl, (hQ j).mp h3, fun i hi q => h4 i (Nat.zero_le _) hi ((hQ i).mpr q)⟩
section WT
variable {P N a b : Nat} {ru : Bool} {cb al : Nat → Bool} {ds : Nat → Option Nat}
theorem nxC_no (h : ¬ ∃ k, ds a = some (k + 1)) : nxC P N ru cb al ds a = -1 := by
  unfold nxC
  cases e : ds a with
  | none => rfl
  | some d =>
    cases d with
    | zero => rfl
    | succ d => exact absurd ⟨d, e⟩ h
theorem cd_lt {P j : Nat} (hP5 : P ≤ 5) (hP : 0 < P) (hj : j < P * P) : j / P < 5 ∧ j % P < 5 ∧ j = j / P * P + j % P := by
  have h1 : j / P < P := Nat.div_lt_of_lt_mul hj
  have h2 := Nat.mod_lt j hP
  have h3 := Nat.div_add_mod j P
  rw [Nat.mul_comm] at h3
  omega
theorem nxC_neg (hP : 0 < P) (hP5 : P ≤ 5) (hb : b < P ^ N) (h : srD (P ^ N) P (nbC P N ru cb al true) b (lawB P N ru cb b) ds) : nxC P N ru cb al ds a < 0 ↔ ¬ ∃ k, ds a = some (k + 1) := by
  constructor
  · rintro q ⟨w, e⟩
    obtain ⟨j, h1, h2, -⟩ := nxC_is hP hb h e
    rw [h2] at q
    have := cd_lt hP5 hP h1
    exact nI_nlt0 (by omega) q
  · intro q
    rw [nxC_no q]; decide
theorem told_1 (hP : 0 < P) (hP5 : P ≤ 5) (hb : b < P ^ N) (h : srD (P ^ N) P (nbC P N ru cb al true) b (lawB P N ru cb b) ds) {k : Nat} (hk : k < P * P) (e : nI (10 * (k / P) + k % P) = nxC P N ru cb al ds a) : oI (ds (mv P N a (k / P) (k % P))) = oI (ds a) - nI 1 := by
  have c1 := cd_lt hP5 hP hk
  by_cases w : ∃ w, ds a = some (w + 1)
  · obtain ⟨w, e1⟩ := w
    obtain ⟨j, h1, h2, h3, -⟩ := nxC_is hP hb h e1
    have c2 := cd_lt hP5 hP h1
    rw [h2] at e
    have e2 := (nI_eq (by omega) (by omega)).mp e
    rw [show k / P = j / P by omega, show k % P = j % P by omega, h3.2, e1]
    exact (nI_pr w).symm
  · rw [nxC_no w] at e
    have e3 : (nI (10 * (k / P) + k % P)).toInt = (-1 : Int32).toInt := by rw [e]
    rw [nI_toInt (by omega), show (-1 : Int32).toInt = -1 by decide] at e3
    omega
theorem told_2 (hP : 0 < P) (hP5 : P ≤ 5) (hPN : P ^ N ≤ 15625) (hb : b < P ^ N) (h : srD (P ^ N) P (nbC P N ru cb al true) b (lawB P N ru cb b) ds) {k : Nat} (hk : k < P * P) (hps : psB P N ru cb al a (k / P) (k % P) = true) (e : ¬ nxC P N ru cb al ds a ≤ nI (10 * (k / P) + k % P)) (hn : ¬ nxC P N ru cb al ds a < 0) : ¬ oI (ds (mv P N a (k / P) (k % P))) = oI (ds a) - nI 1 := by
  intro q
  have c1 := cd_lt hP5 hP hk
  by_cases w : ∃ w, ds a = some (w + 1)
  · obtain ⟨w, e1⟩ := w
    obtain ⟨j, h1, h2, -, h4⟩ := nxC_is hP hb h e1
    have c2 := cd_lt hP5 hP h1
    rw [h2, nI_leI (by omega) (by omega)] at e
    have hkj : k < j := by
      by_cases z : k / P < j / P
      · have : (k / P + 1) * P ≤ j / P * P := Nat.mul_le_mul_right _ z
        rw [Nat.succ_mul] at this
        have := Nat.mod_lt k hP
        omega
      · rw [c1.2.2, c2.2.2, show k / P = j / P by omega]; omega
    rw [e1] at q
    have hw := (h.1 a _ e1).2
    rw [show oI (some (w + 1)) - nI 1 = nI w from nI_pr w, oI_nI (srD_lt h hPN _) (by omega)] at q
    exact h4 k hkj ⟨hps, q⟩
  · exact hn ((nxC_neg hP hP5 hb h).mpr w)
theorem told_3 (hP : 0 < P) (hPN : P ^ N ≤ 15625) (hb : b < P ^ N) (h : srD (P ^ N) P (nbC P N ru cb al true) b (lawB P N ru cb b) ds) {f t : Nat} (hf : f < P) (ht : t < P) (hps : psB P N ru cb al a f t = true) (hw : ¬ oI (ds a) < 0) (hu : ¬ oI (ds (mv P N a f t)) < 0) : ¬ oI (ds (mv P N a f t)) < oI (ds a) - nI 1 := by
  rw [oI_neg (srD_lt h hPN _)] at hw hu
  cases e : ds a with
  | none => exact absurd e hw
  | some w =>
    cases e2 : ds (mv P N a f t) with
    | none => exact absurd e2 hu
    | some u =>
      have h1 := srD_le hP hb h hf ht e hps e2
      have b1 := (h.1 _ _ e).2
      have b2 := (h.1 _ _ e2).2
      show ¬ nI u < nI w - nI 1
      cases w with
      | zero =>
        rw [show nI 0 - nI 1 = -1 by decide, i32_lt, nI_toInt (by omega), show (-1 : Int32).toInt = -1 by decide]
        omega
      | succ w => rw [nI_pr, nI_ltI (by omega) (by omega)]; omega
end WT
theorem lost_eq (m : Nat) (W B S : Int32) : nI (m + 1) + B - S = nI m + W - S + nI 1 + B - W := by
  rw [← nI_add]
  generalize nI m = M
  generalize nI 1 = O
  grind
theorem srF_pos {M P : Nat} {nb : nb_T} {o : Nat} {law : Bool} {fo : Nat} {ds : Nat → Option Nat} (h : srF M P nb o law fo ds) : (law = true ∧ 0 < fo ∧ fo ≤ M) ∨ (law = false ∧ fo = 0) := by
  rcases h with ⟨h1, q, I⟩ | ⟨h1, h2, -⟩
  · exact Or.inl ⟨h1, I.1.2, bf_le I⟩
  · exact Or.inr ⟨h1, h2⟩
theorem srF_one {M P : Nat} {nb : nb_T} {o : Nat} {law : Bool} {fo fo2 : Nat} {ds ds2 : Nat → Option Nat} (h : srF M P nb o law fo ds) (h2 : srF M P nb o law fo2 ds2) : fo = fo2 := by
  rcases h with ⟨h1, q, I⟩ | ⟨h1, e1, -⟩ <;> rcases h2 with ⟨h3, q2, I2⟩ | ⟨h3, e2, -⟩
  · have e := isDs_one (bf_end I) (bf_end I2)
    exact Nat.le_antisymm (bf_cnt I I2 (fun y hy => by rw [← e]; exact hy)) (bf_cnt I2 I (fun y hy => by rw [e]; exact hy))
  · rw [h1] at h3; cases h3
  · rw [h1] at h3; cases h3
  · rw [e1, e2]
