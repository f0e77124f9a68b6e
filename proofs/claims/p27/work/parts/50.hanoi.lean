/-! three free pegs: disk by disk is the search's way -/
def onP (f : Nat → Nat) (m r : Nat) : Prop := ∀ j, j < m → f j = r
/-- f2 is f behind a move of the disk d, among N, to the peg q; r is the third peg, where all smaller ones are -/
def mvd (N : Nat) (f f2 : Nat → Nat) (d q r : Nat) : Prop := f d + q + r = 3 ∧ f d ≠ q ∧ f d ≠ r ∧ q ≠ r ∧ onP f d r ∧ f2 d = q ∧ ∀ j, j < N → j ≠ d → f2 j = f j
theorem gth_on0 {f : Nat → Nat} {r : Nat} : ∀ {m : Nat}, onP f m r → gth f m r = 0
  | 0, _ => rfl
  | m + 1, h => by rw [gth, if_pos (h m (by omega))]; exact gth_on0 (fun j hj => h j (by omega))
theorem gth_on1 {f : Nat → Nat} {r : Nat} (hr : r < 3) : ∀ {m g : Nat}, onP f m r → g < 3 → g ≠ r → gth f m g + 1 = 2 ^ m
  | 0, _, _, _, _ => rfl
  | m + 1, g, h, hg, hne => by
    have e := h m (by omega)
    rw [gth, if_neg (by rw [e]; exact fun z => hne z.symm), e]
    have := gth_on1 hr (m := m) (g := 3 - r - g) (fun j hj => h j (by omega)) (by omega) (by omega)
    rw [Nat.pow_succ]; omega
theorem gth_zero {f : Nat → Nat} {u : Nat} : ∀ {m : Nat}, gth f m u = 0 → onP f m u
  | 0, _ => fun j hj => absurd hj (Nat.not_lt_zero j)
  | m + 1, h => by
    rw [gth] at h
    by_cases e : f m = u
    · rw [if_pos e] at h
      intro j hj
      by_cases q : j = m
      · rw [q]; exact e
      · exact gth_zero h j (by omega)
    · rw [if_neg e] at h
      have := Nat.pow_pos (n := m) (show 0 < 2 by decide)
      omega
theorem mvd_on {N d q r : Nat} {f f2 : Nat → Nat} (h : mvd N f f2 d q r) (hd : d < N) : onP f2 d r := fun j hj => by
  rw [h.2.2.2.2.2.2 j (by omega) (by omega)]; exact h.2.2.2.2.1 j hj
theorem gth_lip {N d q r : Nat} {f f2 : Nat → Nat} (h : mvd N f f2 d q r) : ∀ {m g : Nat}, m ≤ N → g < 3 → (∀ j, j < m → f j < 3) → gth f m g ≤ gth f2 m g + 1 ∧ gth f2 m g ≤ gth f m g + 1
  | 0, _, _, _, _ => ⟨Nat.zero_le _, Nat.zero_le _⟩
  | m + 1, g, hm, hg, h3 => by
    obtain ⟨h1, hpq, hpr, hqr, hon, hfd, hoth⟩ := id h
    by_cases hmd : m < d
    · rw [gth_cong (f := f2) (f2 := f) (fun j hj => hoth j (by omega) (by omega))]
      omega
    · by_cases e : m = d
      · subst e
        have hon2 := mvd_on h (show m < N by omega)
        have hr3 : r < 3 := by omega
        rw [gth, gth, hfd]
        rcases (show g = f m ∨ g = q ∨ g = r by omega) with e | e | e
        · subst e
          rw [if_pos rfl, if_neg (fun z => hpq z.symm), show 3 - q - f m = r by omega, gth_on0 hon2]
          have := gth_on1 hr3 hon (show f m < 3 by omega) hpr
          omega
        · subst e
          rw [if_neg hpq, if_pos rfl, show 3 - f m - g = r by omega, gth_on0 hon]
          have := gth_on1 hr3 hon2 hg hqr
          omega
        · subst e
          rw [if_neg hpr, if_neg hqr, show 3 - f m - g = q by omega, show 3 - q - g = f m by omega]
          have := gth_on1 hr3 hon (show q < 3 by omega) hqr
          have := gth_on1 hr3 hon2 (show f m < 3 by omega) hpr
          omega
      · have hfm := hoth m (by omega) e
        have h3m := h3 m (by omega)
        rw [gth, gth, hfm]
        have i1 := gth_lip h (m := m) (g := g) (by omega) hg (fun j hj => h3 j (by omega))
        by_cases w : f m = g
        · rw [if_pos w, if_pos w]; exact i1
        · have i2 := gth_lip h (m := m) (g := 3 - f m - g) (by omega) (by omega) (fun j hj => h3 j (by omega))
          rw [if_neg w, if_neg w]; omega
theorem wbV_same {f g : Nat → Nat} {n : Nat} (h : f n = g n) : wbV f g (n + 1) = wbV f g n := by
  unfold wbV; rw [lgd, if_pos h]
theorem wbV_diff {f g : Nat → Nat} {n : Nat} (h : f n ≠ g n) : wbV f g (n + 1) = if wbT f g n < wbO f g n then wbT f g n else wbO f g n := by
  unfold wbV; rw [lgd, if_neg h]
theorem wb_on {f g : Nat → Nat} {r : Nat} (hr : r < 3) : ∀ {m : Nat}, onP f m r → (∀ j, j < m → g j < 3) → wbV f g m = gth g m r
  | 0, _, _ => rfl
  | m + 1, h, h3 => by
    have e := h m (by omega)
    have ho : onP f m r := fun j hj => h j (by omega)
    have hg := h3 m (by omega)
    by_cases q : f m = g m
    · rw [wbV_same q, wb_on hr ho (fun j hj => h3 j (by omega)), gth, if_pos (by rw [← q]; exact e)]
    · have hne : g m ≠ r := fun z => q (by rw [z]; exact e)
      rw [wbV_diff q, gth, if_neg hne]
      unfold wbT wbO
      rw [e, show 3 - g m - r = 3 - r - g m by omega]
      have h1 := gth_on1 hr ho hg hne
      have h2 := gth_on1 hr ho (g := 3 - r - g m) (by omega) (by omega)
      have h4 := gth_lt (f := g) (m := m) (g := 3 - r - g m)
      split <;> omega
theorem wb_top {f g : Nat → Nat} {r n : Nat} (hr : r < 3) (ho : onP f n r) (hf : f n < 3) (hg : g n < 3) (h1 : f n ≠ g n) (h2 : f n ≠ r) (h3 : g n ≠ r) : wbV f g (n + 1) = gth g n r + 1 := by
  rw [wbV_diff h1]
  unfold wbT wbO
  rw [show 3 - f n - g n = r by omega, gth_on0 ho]
  have := gth_on1 hr ho hg h3
  have := gth_lt (f := g) (m := n) (g := r)
  split <;> omega
theorem wb_lip {d q r : Nat} {f f2 g : Nat → Nat} : ∀ {N : Nat}, mvd N f f2 d q r → d < N → (∀ j, j < N → f j < 3) → (∀ j, j < N → g j < 3) → wbV f g N ≤ wbV f2 g N + 1 ∧ wbV f2 g N ≤ wbV f g N + 1
  | 0, _, h, _, _ => absurd h (Nat.not_lt_zero d)
  | N + 1, h, hd, h3, g3 => by
    obtain ⟨h1, hpq, hpr, hqr, hon, hfd, hoth⟩ := id h
    have hg := g3 N (by omega)
    have hf := h3 N (by omega)
    by_cases e : d = N
    · subst e
      have hon2 := mvd_on h hd
      have hr3 : r < 3 := by omega
      rcases (show g d = f d ∨ g d = q ∨ g d = r by omega) with e | e | e
      · rw [wbV_same e.symm, wb_on hr3 hon (fun j hj => g3 j (by omega)), wb_top hr3 hon2 (by omega) hg (by omega) (by omega) (by omega)]
        omega
      · rw [wbV_same (f := f2) (by omega), wb_on hr3 hon2 (fun j hj => g3 j (by omega)), wb_top hr3 hon (by omega) hg (by omega) (by omega) (by omega)]
        omega
      · rw [wbV_diff (by omega), wbV_diff (f := f2) (by omega)]
        unfold wbT wbO
        rw [hfd, e, show 3 - f d - r = q by omega, show 3 - q - r = f d by omega, gth_on0 hon, gth_on0 hon2]
        have := gth_on1 hr3 hon (show q < 3 by omega) hqr
        have := gth_on1 hr3 hon2 (show f d < 3 by omega) hpr
        split <;> split <;> omega
    · have hN := hoth N (by omega) (fun z => e z.symm)
      have h' : mvd N f f2 d q r := ⟨h1, hpq, hpr, hqr, hon, hfd, fun j hj => hoth j (by omega)⟩
      by_cases w : f N = g N
      · rw [wbV_same w, wbV_same (f := f2) (by omega)]
        exact wb_lip h' (by omega) (fun j hj => h3 j (by omega)) (fun j hj => g3 j (by omega))
      · rw [wbV_diff w, wbV_diff (f := f2) (by omega)]
        unfold wbT wbO
        rw [hN]
        have i1 := gth_lip h' (m := N) (g := 3 - f N - g N) (Nat.le_refl _) (by omega) (fun j hj => h3 j (by omega))
        have i2 := gth_lip h' (m := N) (g := g N) (Nat.le_refl _) hg (fun j hj => h3 j (by omega))
        split <;> split <;> omega
/-- a disk that can be moved: no smaller one on its peg or on q -/
def frD (f : Nat → Nat) (d q r : Nat) : Prop := f d + q + r = 3 ∧ f d ≠ q ∧ f d ≠ r ∧ q ≠ r ∧ onP f d r
theorem updN_on {f : Nat → Nat} {m d q r : Nat} (h : onP f m r) (hd : m ≤ d) : onP (updN f d q) m r := fun j hj => by rw [updN_n (by omega)]; exact h j hj
theorem gth_down {f : Nat → Nat} : ∀ {m t : Nat}, (∀ j, j < m → f j < 3) → t < 3 → 0 < gth f m t → ∃ d q r, d < m ∧ frD f d q r ∧ gth (updN f d q) m t + 1 ≤ gth f m t
  | 0, _, _, _, h => absurd h (Nat.lt_irrefl 0)
  | m + 1, t, h3, ht, h => by
    have hm := h3 m (by omega)
    by_cases e : f m = t
    · rw [gth, if_pos e] at h
      obtain ⟨d, q, r, hd, hf, hl⟩ := gth_down (fun j hj => h3 j (by omega)) ht h
      refine ⟨d, q, r, by omega, hf, ?_⟩
      rw [gth, gth, updN_n (by omega), if_pos e, if_pos e]; exact hl
    · by_cases z : gth f m (3 - f m - t) = 0
      · have ho := gth_zero z
        refine ⟨m, t, 3 - f m - t, by omega, ⟨by omega, e, by omega, by omega, ho⟩, ?_⟩
        rw [gth, gth, updN_s, if_pos rfl, if_neg e, z]
        have := gth_on1 (r := 3 - f m - t) (by omega) (updN_on (d := m) (q := t) ho (Nat.le_refl _)) ht (by omega)
        omega
      · obtain ⟨d, q, r, hd, hf, hl⟩ := gth_down (m := m) (t := 3 - f m - t) (fun j hj => h3 j (by omega)) (by omega) (by omega)
        refine ⟨d, q, r, by omega, hf, ?_⟩
        rw [gth, gth, updN_n (by omega), if_neg e, if_neg e]; omega
theorem wb_down {f g : Nat → Nat} : ∀ {N : Nat}, (∀ j, j < N → f j < 3) → (∀ j, j < N → g j < 3) → (∃ j, j < N ∧ f j ≠ g j) → ∃ d q r, d < N ∧ frD f d q r ∧ wbV (updN f d q) g N + 1 ≤ wbV f g N
  | 0, _, _, h => by obtain ⟨j, hj, -⟩ := h; exact absurd hj (Nat.not_lt_zero j)
  | N + 1, h3, g3, h => by
    have hf := h3 N (by omega)
    have hg := g3 N (by omega)
    by_cases e : f N = g N
    · obtain ⟨j, hj, hne⟩ := h
      have hjN : j ≠ N := fun z => hne (by rw [z]; exact e)
      obtain ⟨d, q, r, hd, hfr, hl⟩ := wb_down (N := N) (fun j hj => h3 j (by omega)) (fun j hj => g3 j (by omega)) ⟨j, by omega, hne⟩
      refine ⟨d, q, r, by omega, hfr, ?_⟩
      rw [wbV_same e, wbV_same (f := updN f d q) (by rw [updN_n (by omega)]; exact e)]; exact hl
    · have hk : ∀ t, t < 3 → 0 < gth f N t → ∃ d q r, d < N ∧ frD f d q r ∧ gth (updN f d q) N t + 1 ≤ gth f N t := fun t ht hp => gth_down (fun j hj => h3 j (by omega)) ht hp
      rw [wbV_diff e]
      by_cases w : wbT f g N < wbO f g N
      · rw [if_pos w]
        by_cases z : gth f N (g N) = 0
        · have ho := gth_zero z
          refine ⟨N, 3 - f N - g N, g N, by omega, ⟨by omega, by omega, e, by omega, ho⟩, ?_⟩
          rw [wbV_diff (by rw [updN_s]; omega)]
          have h1 := gth_on1 hg (updN_on (d := N) (q := 3 - f N - g N) ho (Nat.le_refl _)) hf e
          have h2 : wbO (updN f N (3 - f N - g N)) g N + 1 ≤ wbT f g N := by
            unfold wbO wbT
            rw [updN_s, show 3 - (3 - f N - g N) - g N = f N by omega]; omega
          split <;> omega
        · obtain ⟨d, q, r, hd, hfr, hl⟩ := hk (g N) hg (by omega)
          refine ⟨d, q, r, by omega, hfr, ?_⟩
          rw [wbV_diff (by rw [updN_n (by omega)]; exact e)]
          have h2 : wbT (updN f d q) g N + 1 ≤ wbT f g N := by
            unfold wbT
            rw [updN_n (j := N) (by omega)]; omega
          split <;> omega
      · rw [if_neg w]
        by_cases z : gth f N (3 - f N - g N) = 0
        · have ho := gth_zero z
          refine ⟨N, g N, 3 - f N - g N, by omega, ⟨by omega, e, by omega, by omega, ho⟩, ?_⟩
          rw [wbV_same (by rw [updN_s]), wb_on (by omega) (updN_on (d := N) (q := g N) ho (Nat.le_refl _)) (fun j hj => g3 j (by omega))]
          unfold wbO; omega
        · obtain ⟨d, q, r, hd, hfr, hl⟩ := hk (3 - f N - g N) (by omega) (by omega)
          refine ⟨d, q, r, by omega, hfr, ?_⟩
          rw [wbV_diff (by rw [updN_n (by omega)]; exact e)]
          have h2 : wbO (updN f d q) g N + 1 ≤ wbO f g N := by
            unfold wbO
            rw [updN_n (j := N) (by omega)]; omega
          split <;> omega
theorem wbV_refl {f g : Nat → Nat} : ∀ {N : Nat}, (∀ j, j < N → f j = g j) → wbV f g N = 0
  | 0, _ => rfl
  | N + 1, h => by rw [wbV_same (h N (by omega))]; exact wbV_refl (fun j hj => h j (by omega))
theorem lawB_f {P N a : Nat} {cb : Nat → Bool} : lawB P N false cb a = true := alB_iff.mpr (fun d _ _ => rfl)
/-- the search's way is the number told disk by disk -/
theorem wb_way {N a b : Nat} {cb al : Nat → Bool} {ds : Nat → Option Nat} (ha : a < 3 ^ N) (hb : b < 3 ^ N) (hal : alB al 0 25 = true) (h : srD (3 ^ N) 3 (nbC 3 N false cb al true) b (lawB 3 N false cb b) ds) : ds a = some (wbV (dg 3 a) (dg 3 b) N) := by
  have h3 : ∀ x : Nat, ∀ j, j < N → dg 3 x j < 3 := fun x j _ => dg_lt (by decide)
  have hD : isDs (eg 3 (nbC 3 N false cb al true)) b ds := by
    rcases h.2 with ⟨-, q⟩ | ⟨q, -⟩
    · exact q
    · rw [lawB_f] at q; cases q
  have low : ∀ k y, pth (eg 3 (nbC 3 N false cb al true)) k b y → y < 3 ^ N ∧ wbV (dg 3 y) (dg 3 b) N ≤ k := by
    intro k
    induction k with
    | zero => intro y hy; cases hy; exact ⟨hb, by rw [wbV_refl (fun _ _ => rfl)]; exact Nat.le_refl _⟩
    | succ k ih =>
      rintro y ⟨z, hz, hzy⟩
      obtain ⟨hz1, hz2⟩ := ih z hz
      obtain ⟨hy, -, f, t, hf, ht, hps, e⟩ := eg_bw (by decide) hz1 lawB_f hzy
      obtain ⟨h1, -, -⟩ := psB_iff.mp hps
      obtain ⟨hne, d, hd, -⟩ := ftB_some h1
      have hdN := tp_lt hd
      have hdf := tp_dg hd
      subst e
      rw [mv_sd hd] at hz2
      have hm : mvd N (dg 3 y) (dg 3 (sd 3 y d t)) d t (3 - f - t) := by
        refine ⟨by omega, by omega, by omega, by omega, fun j hj => ?_, dg_sdS (by decide) hy hdN ht, fun j hj hjd => dg_sdN (by decide) hy hdN ht hj hjd⟩
        have := tp_free h1 hd hj
        have := h3 y j (by omega)
        omega
      have := wb_lip (g := dg 3 b) hm hdN (h3 y) (h3 b)
      exact ⟨hy, by omega⟩
  have up : ∀ n y, y < 3 ^ N → wbV (dg 3 y) (dg 3 b) N ≤ n → ∃ k, k ≤ n ∧ pth (eg 3 (nbC 3 N false cb al true)) k b y := by
    intro n
    induction n with
    | zero =>
      intro y hy hn
      by_cases e : y = b
      · exact ⟨0, Nat.le_refl _, e.symm⟩
      · have hex : ∃ j, j < N ∧ dg 3 y j ≠ dg 3 b j := by
          by_cases w : ∃ j, j < N ∧ dg 3 y j ≠ dg 3 b j
          · exact w
          · exact absurd (dg_inj hy hb (fun d hd => by
              by_cases q : dg 3 y d = dg 3 b d
              · exact q
              · exact absurd ⟨d, hd, q⟩ w)) e
        obtain ⟨d, q, r, -, -, hl⟩ := wb_down (h3 y) (h3 b) hex
        omega
    | succ n ih =>
      intro y hy hn
      by_cases e : y = b
      · exact ⟨0, Nat.zero_le _, e.symm⟩
      · have hex : ∃ j, j < N ∧ dg 3 y j ≠ dg 3 b j := by
          by_cases w : ∃ j, j < N ∧ dg 3 y j ≠ dg 3 b j
          · exact w
          · exact absurd (dg_inj hy hb (fun d hd => by
              by_cases q : dg 3 y d = dg 3 b d
              · exact q
              · exact absurd ⟨d, hd, q⟩ w)) e
        obtain ⟨d, q, r, hd, ⟨f1, f2, f4, f5, f6⟩, hl⟩ := wb_down (h3 y) (h3 b) hex
        have hq : q < 3 := by omega
        have hy2 := sd_lt (P := 3) (by decide) hy hd hq
        have hcg : wbV (dg 3 (sd 3 y d q)) (dg 3 b) N = wbV (updN (dg 3 y) d q) (dg 3 b) N := wbV_cong (fun j hj => by
          rw [dg_sd (by decide) hy hd hq hj]; rfl) (fun _ _ => rfl)
        obtain ⟨k, hk, hp⟩ := ih (sd 3 y d q) hy2 (by omega)
        have ht1 : tp 3 N y (dg 3 y d) = some d := frm_eq (Nat.zero_le _) hd rfl (fun j _ hj => by rw [f6 j hj]; omega)
        have hft : ftB (dg 3 y d) q (tp 3 N y (dg 3 y d)) (tp 3 N y q) = true := by
          unfold ftB
          rw [ht1, Bool.and_eq_true]
          refine ⟨decide_eq_true f2, ?_⟩
          cases e2 : tp 3 N y q with
          | none => rfl
          | some e3 =>
            have e4 := tp_dg e2
            refine decide_eq_true ?_
            rcases Nat.lt_trichotomy d e3 with w | w | w
            · exact w
            · rw [← w] at e4; exact absurd e4 f2
            · rw [f6 e3 w] at e4; omega
        have hps : psB 3 N false cb al y (dg 3 y d) q = true := psB_iff.mpr ⟨hft, alB_iff.mp hal _ (Nat.zero_le _) (by have := h3 y d hd; omega), lawB_f⟩
        have hE := eg_bw2 (P := 3) (by decide) hy lawB_f (h3 y d hd) hq hps
        rw [mv_sd ht1] at hE
        exact ⟨k + 1, by omega, _, hp, hE⟩
  obtain ⟨k, hk, hp⟩ := up _ a ha (Nat.le_refl _)
  obtain ⟨e, h1, h2⟩ := hD.2 k a hp
  have h4 := (low e a (hD.1 a e h1)).2
  rw [h1, show e = wbV (dg 3 a) (dg 3 b) N by omega]
