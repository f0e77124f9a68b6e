theorem up_s {α : Type} {f : Nat → α} {k : Nat} {x : α} : va_up f k x k = x := if_pos rfl
theorem up_n {α : Type} {f : Nat → α} {k j : Nat} {x : α} (h : j ≠ k) : va_up f k x j = f j := if_neg h
/-- no more than m different numbers lie below m -/
theorem holes : ∀ (m n : Nat) (f : Nat → Nat), (∀ i, i < n → f i < m) → (∀ i j, i < j → j < n → f i ≠ f j) → n ≤ m
  | 0, n, f, h1, _ => by
    rcases Nat.eq_zero_or_pos n with e | e
    · omega
    · have := h1 0 e; omega
  | m + 1, n, f, h1, h2 => by
    rcases Nat.eq_zero_or_pos n with e | e
    · omega
    · by_cases hm : ∃ i, i < n ∧ f i = m
      · obtain ⟨i, hi, hfi⟩ := hm
        have h := holes m (n - 1) (fun j => if j = i then f (n - 1) else f j) (fun j hj => by
          show (if j = i then f (n - 1) else f j) < m
          split
          · rename_i q
            have a1 := h1 (n - 1) (by omega)
            have a2 : f (n - 1) ≠ m := fun z => by
              rcases Nat.lt_trichotomy i (n - 1) with w | w | w
              · exact h2 i (n - 1) w (by omega) (hfi.trans z.symm)
              · omega
              · omega
            omega
          · rename_i q
            have a1 := h1 j (by omega)
            have a2 : f j ≠ m := fun z => by
              rcases Nat.lt_trichotomy i j with w | w | w
              · exact h2 i j w (by omega) (hfi.trans z.symm)
              · exact q w.symm
              · exact h2 j i w hi (z.trans hfi.symm)
            omega) (fun a b hab hb => by
          show (if a = i then f (n - 1) else f a) ≠ (if b = i then f (n - 1) else f b)
          split <;> split
          · omega
          · exact fun z => h2 b (n - 1) (by omega) (by omega) z.symm
          · exact fun z => h2 a (n - 1) (by omega) (by omega) z
          · exact h2 a b hab (by omega))
        omega
      · have h := holes m n f (fun i hi => by
          have a1 := h1 i hi
          have a2 : f i ≠ m := fun z => hm ⟨i, hi, z⟩
          omega) h2
        omega
/-! a search over numbers: nb x f t is the neighbour of x by the pair f, t -/
abbrev nb_T : Type := Nat → Nat → Nat → Option Nat
def eg (P : Nat) (nb : nb_T) (x y : Nat) : Prop := ∃ f t, f < P ∧ t < P ∧ nb x f t = some y
def pth (E : Nat → Nat → Prop) : Nat → Nat → Nat → Prop
  | 0, x, y => x = y
  | k + 1, x, y => ∃ z, pth E k x z ∧ E z y
def bfI (M P : Nat) (nb : nb_T) (o h fo : Nat) (ds : Nat → Option Nat) (q : Nat → Nat) : Prop :=
  (h ≤ fo ∧ 0 < fo) ∧ (∀ i, i < fo → q i < M) ∧ (∀ i, i < fo → ∃ d, ds (q i) = some d ∧ d ≤ i ∧ pth (eg P nb) d o (q i)) ∧ (∀ y, ds y ≠ none → ∃ i, i < fo ∧ q i = y) ∧ (∀ i j, i < j → j < fo → q i ≠ q j) ∧
  (∀ i j d e, i ≤ j → j < fo → ds (q i) = some d → ds (q j) = some e → d ≤ e) ∧ (∀ i j d e, i < fo → h ≤ j → j < fo → ds (q i) = some d → ds (q j) = some e → d ≤ e + 1) ∧
  (∀ i, i < h → ∀ y d, eg P nb (q i) y → ds (q i) = some d → ∃ e, ds y = some e ∧ e ≤ d + 1) ∧ ds o = some 0
def bfX (M P : Nat) (nb : nb_T) (o h fo : Nat) (ds : Nat → Option Nat) (q : Nat → Nat) (x dx F T : Nat) : Prop :=
  bfI M P nb o h fo ds q ∧ h < fo ∧ q h = x ∧ ds x = some dx ∧ ∀ f t y, (f < F ∨ (f = F ∧ t < T)) → t < P → nb x f t = some y → ∃ e, ds y = some e ∧ e ≤ dx + 1
theorem bf_le {M P : Nat} {nb : nb_T} {o h fo : Nat} {ds : Nat → Option Nat} {q : Nat → Nat} (I : bfI M P nb o h fo ds q) : fo ≤ M := holes M fo q I.2.1 I.2.2.2.2.1
theorem bf_start {M P : Nat} {nb : nb_T} {o : Nat} {q : Nat → Nat} (ho : o < M) (hq : q 0 = o) : bfI M P nb o 0 1 (va_up (fun _ => none) o (some 0)) q := by
  have e0 : ∀ i, i < 1 → q i = o := fun i hi => by rw [show i = 0 by omega]; exact hq
  refine ⟨⟨by omega, by omega⟩, fun i hi => by rw [e0 i hi]; exact ho, fun i hi => ⟨0, by rw [e0 i hi, up_s], by omega, by rw [e0 i hi]; rfl⟩, fun y hy => ⟨0, by omega, ?_⟩, fun i j a b => by omega, fun i j d e a b h1 h2 => ?_, fun i j d e a b c h1 h2 => ?_, fun i hi => by omega, up_s⟩
  · rw [hq]
    by_cases z : y = o
    · exact z.symm
    · exact absurd (up_n z) hy
  · rw [e0 i (by omega), up_s] at h1
    cases h1; omega
  · rw [e0 i (by omega), up_s] at h1
    cases h1; omega
theorem bf_enter {M P : Nat} {nb : nb_T} {o h fo : Nat} {ds : Nat → Option Nat} {q : Nat → Nat} (I : bfI M P nb o h fo ds q) (hh : h < fo) : ∃ dx, dx ≤ h ∧ bfX M P nb o h fo ds q (q h) dx 0 0 := by
  obtain ⟨d, h1, h2, h3⟩ := I.2.2.1 h hh
  exact ⟨d, h2, I, hh, rfl, h1, fun f t y a => by omega⟩
theorem bf_keep {M P : Nat} {nb : nb_T} {o h fo : Nat} {ds : Nat → Option Nat} {q : Nat → Nat} {x dx F T : Nat} (I : bfX M P nb o h fo ds q x dx F T) (hk : ∀ y, nb x F T = some y → ds y ≠ none) : bfX M P nb o h fo ds q x dx F (T + 1) := by
  obtain ⟨I0, hh, hx, hd, hc⟩ := I
  refine ⟨I0, hh, hx, hd, fun f t y a b c => ?_⟩
  by_cases e : f = F ∧ t = T
  · obtain ⟨rfl, rfl⟩ := e
    have hn := hk y c
    obtain ⟨i, hi, hqi⟩ := I0.2.2.2.1 y hn
    obtain ⟨d, h1, -, -⟩ := I0.2.2.1 i hi
    rw [hqi] at h1
    exact ⟨d, h1, I0.2.2.2.2.2.2.1 i h d dx hi (Nat.le_refl _) hh (by rw [hqi]; exact h1) (by rw [hx]; exact hd)⟩
  · exact hc f t y (by omega) b c
theorem bf_room {M P : Nat} {nb : nb_T} {o h fo : Nat} {ds : Nat → Option Nat} {q : Nat → Nat} {y : Nat} (I : bfI M P nb o h fo ds q) (hy : y < M) (hn : ds y = none) : fo < M := by
  have hq : ∀ i, i < fo → q i ≠ y := fun i hi z => by
    obtain ⟨d, h1, -⟩ := I.2.2.1 i hi
    rw [z, hn] at h1; cases h1
  refine holes M (fo + 1) (va_up q fo y) (fun i hi => ?_) (fun i j a b => ?_)
  · by_cases e : i = fo
    · rw [e, up_s]; exact hy
    · rw [up_n e]; exact I.2.1 i (by omega)
  · by_cases e : j = fo
    · rw [e, up_s, up_n (by omega)]; exact hq i (by omega)
    · rw [up_n e, up_n (by omega)]; exact I.2.2.2.2.1 i j a (by omega)
theorem bf_add {M P : Nat} {nb : nb_T} {o h fo : Nat} {ds : Nat → Option Nat} {q : Nat → Nat} {x dx F T y : Nat} (I : bfX M P nb o h fo ds q x dx F T) (hF : F < P) (hT : T < P) (hy : nb x F T = some y) (hm : y < M) (hn : ds y = none) :
    bfX M P nb o h (fo + 1) (va_up ds y (some (dx + 1))) (va_up q fo y) x dx F (T + 1) := by
  obtain ⟨I0, hh, hx, hd, hc⟩ := I
  obtain ⟨⟨J0, J0'⟩, J1, J2, J3, J4, J5, J6, J7, J8⟩ := id I0
  have hqy : ∀ i, i < fo → q i ≠ y := fun i hi z => by
    obtain ⟨d, h1, -⟩ := J2 i hi
    rw [z, hn] at h1; cases h1
  have hxy : x ≠ y := fun z => by rw [z, hn] at hd; cases hd
  have hoy : o ≠ y := fun z => by rw [z, hn] at J8; cases J8
  have Q : ∀ i, i < fo → va_up q fo y i = q i := fun i hi => up_n (by omega)
  have D : ∀ i, i < fo → va_up ds y (some (dx + 1)) (q i) = ds (q i) := fun i hi => up_n (hqy i hi)
  have hdh : ds (q h) = some dx := by rw [hx]; exact hd
  have hdx : dx ≤ h := by
    obtain ⟨d, h1, h2, -⟩ := J2 h hh
    rw [hdh] at h1; cases h1; exact h2
  have hpx : pth (eg P nb) dx o x := by
    obtain ⟨d, h1, -, h3⟩ := J2 h hh
    rw [hdh] at h1; cases h1; rw [← hx]; exact h3
  have keep : ∀ z e, ds z = some e → va_up ds y (some (dx + 1)) z = some e := fun z e hz => by
    rw [up_n (fun w => by rw [w, hn] at hz; cases hz)]; exact hz
  refine ⟨⟨⟨by omega, by omega⟩, fun i hi => ?_, fun i hi => ?_, fun z hz => ?_, fun i j a b => ?_, fun i j d e a b h1 h2 => ?_, fun i j d e a b c h1 h2 => ?_, fun i hi z d he h1 => ?_, ?_⟩, by omega, ?_, ?_, fun f t z a b c => ?_⟩
  · by_cases e : i = fo
    · rw [e, up_s]; exact hm
    · rw [Q i (by omega)]; exact J1 i (by omega)
  · by_cases e : i = fo
    · rw [e, up_s]
      exact ⟨dx + 1, up_s, by omega, ⟨x, hpx, F, T, hF, hT, hy⟩⟩
    · rw [Q i (by omega), D i (by omega)]; exact J2 i (by omega)
  · by_cases e : z = y
    · exact ⟨fo, by omega, by rw [up_s, e]⟩
    · rw [up_n e] at hz
      obtain ⟨i, hi, h1⟩ := J3 z hz
      exact ⟨i, by omega, by rw [Q i hi]; exact h1⟩
  · by_cases e : j = fo
    · rw [e, up_s, Q i (by omega)]; exact hqy i (by omega)
    · rw [Q j (by omega), Q i (by omega)]; exact J4 i j a (by omega)
  · by_cases ej : j = fo
    · rw [ej, up_s, up_s] at h2
      cases h2
      by_cases ei : i = fo
      · rw [ei, up_s, up_s] at h1; cases h1; exact Nat.le_refl _
      · rw [Q i (by omega), D i (by omega)] at h1
        exact J6 i h d dx (by omega) (Nat.le_refl _) hh h1 hdh
    · rw [Q j (by omega), D j (by omega)] at h2
      rw [Q i (by omega), D i (by omega)] at h1
      exact J5 i j d e a (by omega) h1 h2
  · have he : dx ≤ e := by
      by_cases ej : j = fo
      · rw [ej, up_s, up_s] at h2; cases h2; omega
      · rw [Q j (by omega), D j (by omega)] at h2
        exact J5 h j dx e b (by omega) hdh h2
    by_cases ei : i = fo
    · rw [ei, up_s, up_s] at h1; cases h1; omega
    · rw [Q i (by omega), D i (by omega)] at h1
      have := J6 i h d dx (by omega) (Nat.le_refl _) hh h1 hdh
      omega
  · rw [Q i (by omega)] at he h1
    rw [D i (by omega)] at h1
    obtain ⟨e, h2, h3⟩ := J7 i hi z d he h1
    exact ⟨e, keep z e h2, h3⟩
  · rw [up_n hoy]; exact J8
  · rw [Q h hh]; exact hx
  · rw [up_n hxy]; exact hd
  · by_cases e : f = F ∧ t = T
    · obtain ⟨rfl, rfl⟩ := e
      rw [hy] at c; cases c
      exact ⟨dx + 1, up_s, Nat.le_refl _⟩
    · obtain ⟨e2, h2, h3⟩ := hc f t z (by omega) b c
      exact ⟨e2, keep z e2 h2, h3⟩
theorem bf_row {M P : Nat} {nb : nb_T} {o h fo : Nat} {ds : Nat → Option Nat} {q : Nat → Nat} {x dx F T : Nat} (I : bfX M P nb o h fo ds q x dx F T) (hT : P ≤ T) : bfX M P nb o h fo ds q x dx (F + 1) 0 := by
  obtain ⟨I0, hh, hx, hd, hc⟩ := I
  exact ⟨I0, hh, hx, hd, fun f t y a b c => hc f t y (by omega) b c⟩
theorem bf_next {M P : Nat} {nb : nb_T} {o h fo : Nat} {ds : Nat → Option Nat} {q : Nat → Nat} {x dx F : Nat} (I : bfX M P nb o h fo ds q x dx F 0) (hF : P ≤ F) : bfI M P nb o (h + 1) fo ds q := by
  obtain ⟨⟨J0, J1, J2, J3, J4, J5, J6, J7, J8⟩, hh, hx, hd, hc⟩ := I
  refine ⟨⟨hh, J0.2⟩, J1, J2, J3, J4, J5, fun i j d e a b c h1 h2 => J6 i j d e a (by omega) c h1 h2, fun i hi y d he h1 => ?_, J8⟩
  by_cases e : i = h
  · subst e
    rw [hx, hd] at h1; cases h1
    obtain ⟨f, t, hf, ht, hn⟩ := he
    rw [hx] at hn
    exact hc f t y (by omega) ht hn
  · exact J7 i (by omega) y d he h1
/-- what a search tells: the least number of steps -/
def isDs (E : Nat → Nat → Prop) (o : Nat) (ds : Nat → Option Nat) : Prop := (∀ y d, ds y = some d → pth E d o y) ∧ ∀ k y, pth E k o y → ∃ d, ds y = some d ∧ d ≤ k
theorem bf_end {M P : Nat} {nb : nb_T} {o fo : Nat} {ds : Nat → Option Nat} {q : Nat → Nat} (I : bfI M P nb o fo fo ds q) : isDs (eg P nb) o ds := by
  obtain ⟨J0, J1, J2, J3, J4, J5, J6, J7, J8⟩ := I
  refine ⟨fun y d h => ?_, fun k => ?_⟩
  · obtain ⟨i, hi, rfl⟩ := J3 y (by rw [h]; simp)
    obtain ⟨e, h1, -, h3⟩ := J2 i hi
    rw [h] at h1; cases h1; exact h3
  · induction k with
    | zero => intro y h; cases h; exact ⟨0, J8, Nat.le_refl _⟩
    | succ k ih =>
      rintro y ⟨z, hz, hzy⟩
      obtain ⟨d, h1, h2⟩ := ih z hz
      obtain ⟨i, hi, rfl⟩ := J3 z (by rw [h1]; simp)
      obtain ⟨e, h3, h4⟩ := J7 i hi y d hzy h1
      exact ⟨e, h3, by omega⟩
theorem isDs_one {E : Nat → Nat → Prop} {o : Nat} {ds ds2 : Nat → Option Nat} (h : isDs E o ds) (h2 : isDs E o ds2) (y : Nat) : ds y = ds2 y := by
  cases e : ds y with
  | none =>
    cases e2 : ds2 y with
    | none => rfl
    | some d =>
      obtain ⟨d', h3, -⟩ := h.2 d y (h2.1 y d e2)
      rw [e] at h3; cases h3
  | some d =>
    obtain ⟨d2, h3, h4⟩ := h2.2 d y (h.1 y d e)
    obtain ⟨d3, h5, h6⟩ := h.2 d2 y (h2.1 y d2 h3)
    rw [e] at h5; cases h5
    rw [h3, show d2 = d by omega]
theorem pth_rev {E : Nat → Nat → Prop} : ∀ {k x y : Nat}, pth E k x y → pth (fun a b => E b a) k y x := by
  have front : ∀ {F : Nat → Nat → Prop} {k x y z : Nat}, F x y → pth F k y z → pth F (k + 1) x z := by
    intro F k
    induction k with
    | zero => intro x y z h h2; cases h2; exact ⟨x, rfl, h⟩
    | succ k ih =>
      rintro x y z h ⟨w, h2, h3⟩
      exact ⟨w, ih h h2, h3⟩
  intro k
  induction k with
  | zero => intro x y h; exact h.symm
  | succ k ih =>
    rintro x y ⟨z, h1, h2⟩
    exact front (F := fun a b => E b a) h2 (ih h1)
theorem pth_cong {E F : Nat → Nat → Prop} {L : Nat → Prop} {o : Nat} (ho : L o) (h : ∀ x y, L x → E x y → F x y ∧ L y) : ∀ {k y : Nat}, pth E k o y → pth F k o y ∧ L y
  | 0, y, e => by cases e; exact ⟨rfl, ho⟩
  | k + 1, y, e => by
    obtain ⟨z, h1, h2⟩ := e
    obtain ⟨h3, h4⟩ := pth_cong ho h h1
    obtain ⟨h5, h6⟩ := h z y h4 h2
    exact ⟨⟨z, h3, h5⟩, h6⟩
