/-! the moves and the ways of both sides -/
theorem tp_free {P N x f t d q : Nat} (h : ftB f t (tp P N x f) (tp P N x t) = true) (hd : tp P N x f = some d) (hq : q < d) : dg P x q ≠ f ∧ dg P x q ≠ t := by
  obtain ⟨h1, d2, h2, h3⟩ := ftB_some h
  rw [hd] at h2; cases h2
  obtain ⟨-, hdN, -, hmin⟩ := frm_some hd
  refine ⟨hmin q (Nat.zero_le _) hq, fun e => ?_⟩
  cases ht : tp P N x t with
  | none => exact frm_none.mp ht q (Nat.zero_le _) (by omega) e
  | some e2 =>
    have h4 := h3 e2 ht
    exact (frm_some ht).2.2.2 q (Nat.zero_le _) (by omega) e
theorem mv_sd {P N x f t d : Nat} (hd : tp P N x f = some d) : mv P N x f t = sd P x d t := by unfold mv; rw [hd]
/-- behind a move the disk that was moved is on top -/
theorem tp_mv {P N x f t d : Nat} (hP : 0 < P) (hx : x < P ^ N) (ht : t < P) (h : ftB f t (tp P N x f) (tp P N x t) = true) (hd : tp P N x f = some d) : tp P N (mv P N x f t) t = some d := by
  have hdN := tp_lt hd
  rw [mv_sd hd]
  refine frm_eq (Nat.zero_le _) hdN (dg_sdS hP hx hdN ht) (fun q _ hq => ?_)
  rw [dg_sdN hP hx hdN ht (by omega) (by omega)]
  exact (tp_free h hd hq).2
theorem frm_from {f : Nat → Nat} {g i N : Nat} : ∀ {k : Nat}, i + k ≤ N → (∀ q, i ≤ q → q < i + k → f q ≠ g) → frm f g i N = frm f g (i + k) N
  | 0, _, _ => rfl
  | k + 1, h, h2 => by
    rw [frm_from (k := k) (by omega) (fun q a b => h2 q a (by omega)), frm_step (by omega) (h2 (i + k) (by omega) (by omega))]; rfl
/-- what is on the other peg behind a move -/
theorem tp_mvf {P N x f t d : Nat} (hP : 0 < P) (hx : x < P ^ N) (ht : t < P) (h : ftB f t (tp P N x f) (tp P N x t) = true) (hd : tp P N x f = some d) : tp P N (mv P N x f t) f = frm (dg P x) f (d + 1) N := by
  have hdN := tp_lt hd
  have hft := (ftB_some h).1
  rw [mv_sd hd]
  unfold tp
  rw [frm_from (i := 0) (k := d + 1) (by omega) (fun q _ hq => ?_), Nat.zero_add]
  · exact frm_cong (fun q a b => dg_sdN hP hx hdN ht b (by omega))
  · by_cases e : q = d
    · rw [e, dg_sdS hP hx hdN ht]; exact fun z => hft z.symm
    · rw [dg_sdN hP hx hdN ht (by omega) e]
      exact (tp_free h hd (by omega)).1
theorem tp_t {P N x f t d : Nat} (h : ftB f t (tp P N x f) (tp P N x t) = true) (hd : tp P N x f = some d) : tp P N x t = frm (dg P x) t (d + 1) N := by
  have hdN := tp_lt hd
  have hft := (ftB_some h).1
  show frm (dg P x) t 0 N = _
  rw [frm_from (i := 0) (k := d + 1) (by omega) (fun q _ hq => ?_), Nat.zero_add]
  by_cases e : q = d
  · rw [e, tp_dg hd]; exact hft
  · exact (tp_free h hd (by omega)).2
/-- the move back -/
theorem ft_back {P N x f t d : Nat} (hP : 0 < P) (hx : x < P ^ N) (ht : t < P) (h : ftB f t (tp P N x f) (tp P N x t) = true) (hd : tp P N x f = some d) : ftB t f (tp P N (mv P N x f t) t) (tp P N (mv P N x f t) f) = true := by
  have hft := (ftB_some h).1
  rw [tp_mv hP hx ht h hd, tp_mvf hP hx ht h hd]
  unfold ftB
  rw [Bool.and_eq_true]
  refine ⟨decide_eq_true (fun z => hft z.symm), ?_⟩
  cases e : frm (dg P x) f (d + 1) N with
  | none => rfl
  | some e2 => exact decide_eq_true (by have := (frm_some e).1; omega)
theorem mv_back {P N x f t d : Nat} (hP : 0 < P) (hx : x < P ^ N) (hf : f < P) (ht : t < P) (h : ftB f t (tp P N x f) (tp P N x t) = true) (hd : tp P N x f = some d) : mv P N (mv P N x f t) t f = x := by
  have hdN := tp_lt hd
  rw [mv_sd (tp_mv hP hx ht h hd), mv_sd hd]
  have hy := sd_lt hP hx hdN ht
  refine dg_inj (sd_lt hP hy hdN hf) hx (fun j hj => ?_)
  rw [dg_sd hP hy hdN hf hj]
  by_cases e : j = d
  · rw [if_pos e, e, tp_dg hd]
  · rw [if_neg e, dg_sdN hP hx hdN ht hj e]
/-- a lawful arrangement stays lawful by a move just where the disk may lie on the one below it -/
theorem law_mv {P N x f t d : Nat} {ru : Bool} {cb : Nat → Bool} (hP : 0 < P) (hx : x < P ^ N) (ht : t < P) (h : ftB f t (tp P N x f) (tp P N x t) = true) (hd : tp P N x f = some d) (hl : lawB P N ru cb x = true) : lawB P N ru cb (mv P N x f t) = mlo ru cb d (tp P N x t) := by
  have hdN := tp_lt hd
  have hft := (ftB_some h).1
  have key : ∀ i, i < N → mlo ru cb i (frm (dg P (mv P N x f t)) (dg P (mv P N x f t) i) (i + 1) N) = if i = d then mlo ru cb d (tp P N x t) else mlo ru cb i (frm (dg P x) (dg P x i) (i + 1) N) := by
    intro i hi
    rw [mv_sd hd]
    by_cases e : i = d
    · subst e
      rw [if_pos rfl, dg_sdS hP hx hdN ht, tp_t h hd]
      congr 1
      exact frm_cong (fun q a b => dg_sdN hP hx hdN ht b (by omega))
    · rw [if_neg e, dg_sdN hP hx hdN ht hi e]
      congr 1
      by_cases w : d < i
      · exact frm_cong (fun q a b => dg_sdN hP hx hdN ht b (by omega))
      · have hfr := tp_free h hd (show i < d by omega)
        cases hz : frm (dg P x) (dg P x i) (i + 1) N with
        | none =>
          rw [frm_none] at hz ⊢
          intro q a b
          by_cases e2 : q = d
          · rw [e2, dg_sdS hP hx hdN ht]; exact fun z => hfr.2 z.symm
          · rw [dg_sdN hP hx hdN ht b e2]; exact hz q a b
        | some j =>
          obtain ⟨z1, z2, z3, z4⟩ := frm_some hz
          have hjd : j ≠ d := fun z => by rw [z, tp_dg hd] at z3; exact hfr.1 z3.symm
          refine frm_eq z1 z2 (by rw [dg_sdN hP hx hdN ht z2 hjd]; exact z3) (fun q a b => ?_)
          by_cases e2 : q = d
          · rw [e2, dg_sdS hP hx hdN ht]; exact fun z => hfr.2 z.symm
          · rw [dg_sdN hP hx hdN ht (by omega) e2]; exact z4 q a b
  have h1 := alB_iff.mp (show alB _ 0 N = true from hl)
  have hiff : lawB P N ru cb (mv P N x f t) = true ↔ mlo ru cb d (tp P N x t) = true := by
    show alB _ 0 N = true ↔ _
    rw [alB_iff]
    refine ⟨fun g => ?_, fun g i _ hi => ?_⟩
    · have := g d (Nat.zero_le _) hdN
      rw [key d hdN, if_pos rfl] at this
      exact this
    · rw [key i hi]
      split
      · exact g
      · exact h1 i (Nat.zero_le _) hi
  cases a : lawB P N ru cb (mv P N x f t) <;> cases b : mlo ru cb d (tp P N x t) <;> simp_all
theorem egC {P N x y : Nat} {ru bw : Bool} {cb al : Nat → Bool} : eg P (nbC P N ru cb al bw) x y ↔ ∃ f t, f < P ∧ t < P ∧ stB P N ru cb al x f t bw = true ∧ y = mv P N x f t := by
  constructor
  · rintro ⟨f, t, hf, ht, h⟩
    unfold nbC at h
    split at h
    · rename_i q
      cases h
      exact ⟨f, t, hf, ht, q, rfl⟩
    · cases h
  · rintro ⟨f, t, hf, ht, h, rfl⟩
    exact ⟨f, t, hf, ht, by unfold nbC; rw [if_pos h]⟩
theorem psB_iff {P N x f t : Nat} {ru : Bool} {cb al : Nat → Bool} : psB P N ru cb al x f t = true ↔ ftB f t (tp P N x f) (tp P N x t) = true ∧ al (f * 5 + t) = true ∧ lawB P N ru cb (mv P N x f t) = true := by
  unfold psB; rw [Bool.and_eq_true, Bool.and_eq_true, and_assoc]
theorem stB_iff {P N x f t d : Nat} {ru bw : Bool} {cb al : Nat → Bool} (hd : tp P N x f = some d) : stB P N ru cb al x f t bw = true ↔ ftB f t (tp P N x f) (tp P N x t) = true ∧ al (if bw then t * 5 + f else f * 5 + t) = true ∧ mlo ru cb d (tp P N x t) = true := by
  unfold stB; rw [Bool.and_eq_true, Bool.and_eq_true, and_assoc, hd]
/-- from a lawful arrangement, forward -/
theorem eg_fw {P N x y : Nat} {ru : Bool} {cb al : Nat → Bool} (hP : 0 < P) (hx : x < P ^ N) (hl : lawB P N ru cb x = true) : eg P (nbC P N ru cb al false) x y ↔ ∃ f t, f < P ∧ t < P ∧ psB P N ru cb al x f t = true ∧ y = mv P N x f t := by
  rw [egC]
  constructor
  · rintro ⟨f, t, hf, ht, h, rfl⟩
    have h1 := stB_ft h
    obtain ⟨-, d, hd, -⟩ := ftB_some h1
    obtain ⟨-, h2, h3⟩ := (stB_iff hd).mp h
    exact ⟨f, t, hf, ht, psB_iff.mpr ⟨h1, h2, by rw [law_mv hP hx ht h1 hd hl]; exact h3⟩, rfl⟩
  · rintro ⟨f, t, hf, ht, h, rfl⟩
    obtain ⟨h1, h2, h3⟩ := psB_iff.mp h
    obtain ⟨-, d, hd, -⟩ := ftB_some h1
    exact ⟨f, t, hf, ht, (stB_iff hd).mpr ⟨h1, h2, by rw [← law_mv hP hx ht h1 hd hl]; exact h3⟩, rfl⟩
/-- .. and backward -/
theorem eg_bw {P N x y : Nat} {ru : Bool} {cb al : Nat → Bool} (hP : 0 < P) (hy : y < P ^ N) (hl : lawB P N ru cb y = true) (h : eg P (nbC P N ru cb al true) y x) : x < P ^ N ∧ lawB P N ru cb x = true ∧ ∃ f t, f < P ∧ t < P ∧ psB P N ru cb al x f t = true ∧ y = mv P N x f t := by
  rw [egC] at h
  obtain ⟨f, t, hf, ht, h, rfl⟩ := h
  have h1 := stB_ft h
  obtain ⟨-, d, hd, -⟩ := ftB_some h1
  obtain ⟨-, h2, h3⟩ := (stB_iff hd).mp h
  refine ⟨mv_lt hP hy ht, by rw [law_mv hP hy ht h1 hd hl]; exact h3, t, f, ht, hf, psB_iff.mpr ⟨ft_back hP hy ht h1 hd, h2, by rw [mv_back hP hy hf ht h1 hd]; exact hl⟩, (mv_back hP hy hf ht h1 hd).symm⟩
theorem eg_bw2 {P N x : Nat} {ru : Bool} {cb al : Nat → Bool} (hP : 0 < P) (hx : x < P ^ N) (hl : lawB P N ru cb x = true) {f t : Nat} (hf : f < P) (ht : t < P) (h : psB P N ru cb al x f t = true) : eg P (nbC P N ru cb al true) (mv P N x f t) x := by
  obtain ⟨h1, h2, h3⟩ := psB_iff.mp h
  obtain ⟨-, d, hd, -⟩ := ftB_some h1
  rw [egC]
  refine ⟨t, f, ht, hf, (stB_iff (tp_mv hP hx ht h1 hd)).mpr ⟨ft_back hP hx ht h1 hd, h2, ?_⟩, (mv_back hP hx hf ht h1 hd).symm⟩
  have h4 := law_mv (ru := ru) (cb := cb) hP (mv_lt hP hx ht) hf (ft_back hP hx ht h1 hd) (tp_mv hP hx ht h1 hd) h3
  rw [mv_back hP hx hf ht h1 hd] at h4
  rw [← h4]; exact hl
theorem bf_cnt {M P P2 : Nat} {nb nb2 : nb_T} {o o2 h h2 fo fo2 : Nat} {ds ds2 : Nat → Option Nat} {q q2 : Nat → Nat} (I : bfI M P nb o h fo ds q) (I2 : bfI M P2 nb2 o2 h2 fo2 ds2 q2) (hd : ∀ y, ds y ≠ none → ds2 y ≠ none) : fo ≤ fo2 := by
  have hx : ∀ i, ∃ j, i < fo → (j < fo2 ∧ q2 j = q i) := fun i => by
    by_cases hi : i < fo
    · obtain ⟨d, h1, -⟩ := I.2.2.1 i hi
      obtain ⟨j, hj, e⟩ := I2.2.2.2.1 (q i) (hd _ (by rw [h1]; simp))
      exact ⟨j, fun _ => ⟨hj, e⟩⟩
    · exact ⟨0, fun z => absurd z hi⟩
  refine holes fo2 fo (fun i => Classical.choose (hx i)) (fun i hi => (Classical.choose_spec (hx i) hi).1) (fun i j a b e => ?_)
  have e1 := (Classical.choose_spec (hx i) (by omega)).2
  have e2 := (Classical.choose_spec (hx j) b).2
  have e3 : Classical.choose (hx i) = Classical.choose (hx j) := e
  rw [e3, e2] at e1
  exact I.2.2.2.2.1 i j a b e1.symm
theorem lgd_cong {f f2 g g2 : Nat → Nat} : ∀ {N : Nat}, (∀ d, d < N → f d = f2 d) → (∀ d, d < N → g d = g2 d) → lgd f g N = lgd f2 g2 N
  | 0, _, _ => rfl
  | n + 1, h1, h2 => by
    rw [lgd, lgd, h1 n (by omega), h2 n (by omega), lgd_cong (fun d hd => h1 d (by omega)) (fun d hd => h2 d (by omega))]
theorem lgd_lt {f g : Nat → Nat} : ∀ {N L : Nat}, lgd f g N = some L → L < N
  | 0, _, h => by cases h
  | n + 1, L, h => by
    rw [lgd] at h
    split at h
    · have := lgd_lt h; omega
    · cases h; omega
theorem wbV_cong {f f2 g g2 : Nat → Nat} {N : Nat} (h1 : ∀ d, d < N → f d = f2 d) (h2 : ∀ d, d < N → g d = g2 d) : wbV f g N = wbV f2 g2 N := by
  unfold wbV
  rw [lgd_cong h1 h2]
  cases e : lgd f2 g2 N with
  | none => rfl
  | some L =>
    have hL := lgd_lt e
    have e1 : wbT f g L = wbT f2 g2 L := by
      unfold wbT
      rw [h1 L hL, h2 L hL, gth_cong (fun d hd => h1 d (by omega)), gth_cong (f := g) (fun d hd => h2 d (by omega))]
    have e2 : wbO f g L = wbO f2 g2 L := by
      unfold wbO
      rw [h1 L hL, h2 L hL, gth_cong (fun d hd => h1 d (by omega)), gth_cong (f := g) (fun d hd => h2 d (by omega))]
    show (if wbT f g L < wbO f g L then _ else _) = _
    rw [e1, e2]
