theorem mn_1 {e m : Nat} (he : 0 < e) (he3 : e < 3) (hm : m - 1 < 21) : 2 * spT (e * 21 + 1) + spT ((e - 1) * 21 + (m - 1)) = mnX (spG e m) (2 - 1) := by
  have h1 : spT (e * 21 + (0 + 1)) < 1048576 := sp_lt _ (by omega)
  have h2 : spT ((e - 1) * 21 + (m - (0 + 1))) < 1048576 := sp_lt _ (by omega)
  show _ = mnX (spG e m) 1
  rw [mnX, mnX, if_pos (by unfold spG; omega)]; rfl
abbrev rm_X1_splits : Room := { frames := 1, cells := 0, slots := 0, locals := 22 }
set_option maxHeartbeats 4000000 in
set_option maxRecDepth 100000 in
theorem ct_X1_splits {l : Launch} {D : va_G} {Y : jy_T} {ad : Nat → Nat} {P N a b mv0 : Nat} {ru : Bool} {cb ba : Nat → Bool} {nf gf fr tt : Nat → Nat} {th s0 qd : Int32} {lk fa qu nb : Nat → Int32} {x y : Int32} :
    MJ l yX1_splits cX1_splits 8 (some .int) rm_X1_splits D Y [.ref (ad 0), .int x, .int y] (wM Y ad th (nI P) (nI N) (bi ru) (nI mv0) s0 qd (fun d => nI (nf d)) (fun d => nI (gf d)) (fun d => bi (cb d)) (fun k => bi (ba k)) (fun k => nI (fr k)) (fun k => nI (tt k)) lk fa qu nb) (jI (fun r w => (∃ d q nb1, x = nI d ∧ d ≤ 20 ∧ y = nI q ∧ 3 ≤ q ∧ q ≤ 5 ∧ r = nI (spT ((q - 3) * 21 + d)) ∧ w = (wM Y ad (nI 0) (nI P) (nI N) (bi ru) (nI mv0) s0 qd (fun d => nI (nf d)) (fun d => nI (gf d)) (fun d => bi (cb d)) (fun k => bi (ba k)) (fun k => nI (fr k)) (fun k => nI (tt k)) lk fa qu nb1)) ∨ ((rg x 0 20 && rg y 3 5) = false ∧ w = (wM Y ad (nI 1) (nI P) (nI N) (bi ru) (nI mv0) s0 qd (fun d => nI (nf d)) (fun d => nI (gf d)) (fun d => bi (cb d)) (fun k => bi (ba k)) (fun k => nI (fr k)) (fun k => nI (tt k)) lk fa qu nb)))) := by
  refine j_enter (by decide) (Nat.le_of_ble_eq_true rfl) (fun v hv => by simp only [List.mem_cons, List.not_mem_nil, or_false] at hv; rcases hv with rfl | rfl | rfl <;> rfl) (fun K hl hD hnm C R => ?_)
  subst hl; subst hD
  have C : jC cX1_splits RX1 Y rm_X1_splits 8 K := C
  have R : jR Y (some .int) 0 0 (jI (fun r w => (∃ d q nb1, x = nI d ∧ d ≤ 20 ∧ y = nI q ∧ 3 ≤ q ∧ q ≤ 5 ∧ r = nI (spT ((q - 3) * 21 + d)) ∧ w = (wM Y ad (nI 0) (nI P) (nI N) (bi ru) (nI mv0) s0 qd (fun d => nI (nf d)) (fun d => nI (gf d)) (fun d => bi (cb d)) (fun k => bi (ba k)) (fun k => nI (fr k)) (fun k => nI (tt k)) lk fa qu nb1)) ∨ ((rg x 0 20 && rg y 3 5) = false ∧ w = (wM Y ad (nI 1) (nI P) (nI N) (bi ru) (nI mv0) s0 qd (fun d => nI (nf d)) (fun d => nI (gf d)) (fun d => bi (cb d)) (fun k => bi (ba k)) (fun k => nI (fr k)) (fun k => nI (tt k)) lk fa qu nb)))) K := R
  refine j_eq (lo' := [some (.ref (ad 0)), some (.int x), some (.int y), none, none, none, none, none]) rfl rfl rfl ?_
  have hQ : ∀ (dd qq : Nat), x = nI dd → y = nI qq → dd ≤ 20 → 3 ≤ qq → qq ≤ 5 → ∀ (f q : Nat) (nb : Nat → Int32) (l4 l5 l6 l7 : Option Value), 6 < q + f → 4 ≤ q → q ≤ 6 → (∀ i, i < (q - 3) * 21 → nb i = nI (spT i)) → jJ K 0 0 60 [some (.ref (ad 0)), some (.int (nI dd)), some (.int (nI qq)), some (.int (nI (q))), l4, l5, l6, l7] [] (wM Y ad (nI 0) (nI P) (nI N) (bi ru) (nI mv0) s0 qd (fun d => nI (nf d)) (fun d => nI (gf d)) (fun d => bi (cb d)) (fun k => bi (ba k)) (fun k => nI (fr k)) (fun k => nI (tt k)) lk fa qu nb) := by
    intro dd qq hx hy hdd hq3 hq5 f
    subst hx; subst hy
    induction f with
    | zero => intro q nb l4 l5 l6 l7 h1 h2 h3 hnb
              exact absurd h1 (by omega)
    | succ f ih =>
      intro q nb l4 l5 l6 l7 h1 h2 h3 hnb
      refine j_iload_n C dX1_splits_60 rfl ?_
      refine j_iconst C (nI 5) dX1_splits_61 (by decide) ?_
      refine jN_icmp_gt C 237 (by omega) (by omega) dX1_splits_62 (by decide) (fun c_62 => ?_) (fun c_62 => ?_)
      · refine j_aload_n C dX1_splits_237 rfl ?_
        refine g1_numbers C dX1_splits_238 ?_
        refine j_bipush C (nI 21) dX1_splits_241 (by decide) ?_
        refine j_iload_n C dX1_splits_243 rfl ?_
        refine j_iconst C (nI 3) dX1_splits_244 (by decide) ?_
        refine j_isub C dX1_splits_245 ?_
        refine j_top _ (nI (qq - 3)) (pk_sub (by omega)) ?_
        refine j_imul C dX1_splits_246 ?_
        refine j_top _ _ (pk_mul _ _) ?_
        refine j_iload_n C dX1_splits_247 rfl ?_
        refine j_iadd C dX1_splits_248 ?_
        refine j_top _ _ (nI_add _ _) ?_
        refine l1_nb C ((qq - 3) * 21 + dd) (by rw [Nat.mul_comm]) (by omega) dX1_splits_249 ?_
        refine j_top _ (nI (spT ((qq - 3) * 21 + dd))) (hnb _ (by omega)) ?_
        exact j_reti C R dX1_splits_250 (Or.inl ⟨dd, qq, nb, rfl, hdd, rfl, hq3, hq5, rfl, rfl⟩)
      · refine j_bipush C (nI 21) dX1_splits_65 (by decide) ?_
        refine j_iload_n C dX1_splits_67 rfl ?_
        refine j_iconst C (nI 3) dX1_splits_68 (by decide) ?_
        refine j_isub C dX1_splits_69 ?_
        refine j_top _ (nI (q - 3)) (pk_sub (by omega)) ?_
        refine j_imul C dX1_splits_70 ?_
        refine j_top _ _ (pk_mul _ _) ?_
        refine j_istore_4 C dX1_splits_71 (by decide) ?_
        refine j_aload_n C dX1_splits_73 rfl ?_
        refine g1_numbers C dX1_splits_74 ?_
        refine j_iload C dX1_splits_77 rfl ?_
        refine j_iconst C (nI 0) dX1_splits_79 (by decide) ?_
        refine s1_nb C ((q - 3) * 21) (by rw [Nat.mul_comm]) (by omega) dX1_splits_80 ?_
        refine j_aload_n C dX1_splits_81 rfl ?_
        refine g1_numbers C dX1_splits_82 ?_
        refine j_iload C dX1_splits_85 rfl ?_
        refine j_iconst C (nI 1) dX1_splits_87 (by decide) ?_
        refine j_iadd C dX1_splits_88 ?_
        refine j_top _ _ (nI_add _ _) ?_
        refine j_iconst C (nI 1) dX1_splits_89 (by decide) ?_
        refine s1_nb C ((q - 3) * 21 + 1) (by rw [Nat.mul_comm]) (by omega) dX1_splits_90 ?_
        refine j_iconst C (nI 2) dX1_splits_91 (by decide) ?_
        refine j_istore_5 C dX1_splits_92 (by decide) ?_
        have hM : ∀ (f2 m : Nat) (nb : Nat → Int32) (l6 l7 : Option Value), 21 < m + f2 → 2 ≤ m → m ≤ 21 → (∀ i, i < (q - 3) * 21 + m → nb i = nI (spT i)) → jJ K 0 0 94 [some (.ref (ad 0)), some (.int (nI dd)), some (.int (nI qq)), some (.int (nI (q))), some (.int (nI (21 * (q - 3)))), some (.int (nI (m))), l6, l7] [] (wM Y ad (nI 0) (nI P) (nI N) (bi ru) (nI mv0) s0 qd (fun d => nI (nf d)) (fun d => nI (gf d)) (fun d => bi (cb d)) (fun k => bi (ba k)) (fun k => nI (fr k)) (fun k => nI (tt k)) lk fa qu nb) := by
          intro f2
          induction f2 with
          | zero => intro m nb l6 l7 h4 h5 h6; omega
          | succ f2 ih2 =>
            intro m nb l6 l7 h4 h5 h6 hnb
            refine j_iload C dX1_splits_94 rfl ?_
            refine j_bipush C (nI 20) dX1_splits_96 (by decide) ?_
            refine jN_icmp_gt C 231 (by omega) (by omega) dX1_splits_98 (by decide) (fun c_98 => ?_) (fun c_98 => ?_)
            · refine j_iinc_3 C _ (nI_p1 _) dX1_splits_231 ?_
              refine j_goto C 60 dX1_splits_234 (by decide) ?_
              exact ih (q + 1) nb _ _ _ _ (by omega) (by omega) (by omega) (fun i hi => hnb i (by omega))
            · refine j_aload_n C dX1_splits_101 rfl ?_
              refine g1_numbers C dX1_splits_102 ?_
              refine j_iload C dX1_splits_105 rfl ?_
              refine j_iload C dX1_splits_107 rfl ?_
              refine j_iadd C dX1_splits_109 ?_
              refine j_top _ _ (nI_add _ _) ?_
              refine j_iconst C (nI 2) dX1_splits_110 (by decide) ?_
              refine j_aload_n C dX1_splits_111 rfl ?_
              refine g1_numbers C dX1_splits_112 ?_
              refine j_iload C dX1_splits_115 rfl ?_
              refine j_iconst C (nI 1) dX1_splits_117 (by decide) ?_
              refine j_iadd C dX1_splits_118 ?_
              refine j_top _ _ (nI_add _ _) ?_
              refine l1_nb C ((q - 3) * 21 + 1) (by rw [Nat.mul_comm]) (by omega) dX1_splits_119 ?_
              refine j_top _ (nI (spT ((q - 3) * 21 + 1))) (hnb _ (by omega)) ?_
              refine j_imul C dX1_splits_120 ?_
              refine j_top _ _ (pk_mul _ _) ?_
              refine j_aload_n C dX1_splits_121 rfl ?_
              refine g1_numbers C dX1_splits_122 ?_
              refine j_iload C dX1_splits_125 rfl ?_
              refine j_bipush C (nI 21) dX1_splits_127 (by decide) ?_
              refine j_isub C dX1_splits_129 ?_
              refine j_top _ (nI (21 * (q - 3) - 21)) (pk_sub (by omega)) ?_
              refine j_iload C dX1_splits_130 rfl ?_
              refine j_iadd C dX1_splits_132 ?_
              refine j_top _ _ (nI_add _ _) ?_
              refine j_iconst C (nI 1) dX1_splits_133 (by decide) ?_
              refine j_isub C dX1_splits_134 ?_
              refine j_top _ (nI (21 * (q - 3) - 21 + m - 1)) (pk_sub (by omega)) ?_
              refine l1_nb C ((q - 3 - 1) * 21 + (m - 1)) (congrArg nI (by omega)) (by omega) dX1_splits_135 ?_
              refine j_top _ (nI (spT ((q - 3 - 1) * 21 + (m - 1)))) (hnb _ (by omega)) ?_
              refine j_iadd C dX1_splits_136 ?_
              refine j_top _ _ (nI_add _ _) ?_
              refine s1_nb C ((q - 3) * 21 + m) (by rw [Nat.mul_comm]) (by omega) dX1_splits_137 ?_
              refine j_iconst C (nI 2) dX1_splits_138 (by decide) ?_
              refine j_istore_6 C dX1_splits_139 (by decide) ?_
              have hK : ∀ (f3 k : Nat) (nb : Nat → Int32) (l7 : Option Value), m < k + f3 → 2 ≤ k → k ≤ m → (∀ i, i < (q - 3) * 21 + m → nb i = nI (spT i)) → nb ((q - 3) * 21 + m) = nI (mnX (spG (q - 3) m) (k - 1)) →
                  jJ K 0 0 141 [some (.ref (ad 0)), some (.int (nI dd)), some (.int (nI qq)), some (.int (nI (q))), some (.int (nI (21 * (q - 3)))), some (.int (nI (m))), some (.int (nI (k))), l7] [] (wM Y ad (nI 0) (nI P) (nI N) (bi ru) (nI mv0) s0 qd (fun d => nI (nf d)) (fun d => nI (gf d)) (fun d => bi (cb d)) (fun k => bi (ba k)) (fun k => nI (fr k)) (fun k => nI (tt k)) lk fa qu nb) := by
                intro f3
                induction f3 with
                | zero => intro k nb l7 h7 h8 h9; omega
                | succ f3 ih3 =>
                  intro k nb l7 h7 h8 h9 hnb hcur
                  refine j_iload C dX1_splits_141 rfl ?_
                  refine j_iload C dX1_splits_143 rfl ?_
                  refine jN_icmp_ge C 225 (by omega) (by omega) dX1_splits_145 (by decide) (fun c_145 => ?_) (fun c_145 => ?_)
                  · refine j_iinc_5 C _ (nI_p1 _) dX1_splits_225 ?_
                    refine j_goto C 94 dX1_splits_228 (by decide) ?_
                    exact ih2 (m + 1) nb _ _ (by omega) (by omega) (by omega) (fun i hi => by
                      by_cases e : i = (q - 3) * 21 + m
                      · rw [e, hcur, show k - 1 = m - 1 by omega, sp_2 (q - 3) (by omega) m (by omega) (by omega) (by omega)]
                      · exact hnb i (by omega))
                  · refine j_iconst C (nI 2) dX1_splits_148 (by decide) ?_
                    refine j_aload_n C dX1_splits_149 rfl ?_
                    refine g1_numbers C dX1_splits_150 ?_
                    refine j_iload C dX1_splits_153 rfl ?_
                    refine j_iload C dX1_splits_155 rfl ?_
                    refine j_iadd C dX1_splits_157 ?_
                    refine j_top _ _ (nI_add _ _) ?_
                    refine l1_nb C ((q - 3) * 21 + k) (by rw [Nat.mul_comm]) (by omega) dX1_splits_158 ?_
                    refine j_top _ (nI (spT ((q - 3) * 21 + k))) (hnb _ (by omega)) ?_
                    refine j_imul C dX1_splits_159 ?_
                    refine j_top _ _ (pk_mul _ _) ?_
                    refine j_aload_n C dX1_splits_160 rfl ?_
                    refine g1_numbers C dX1_splits_161 ?_
                    refine j_iload C dX1_splits_164 rfl ?_
                    refine j_bipush C (nI 21) dX1_splits_166 (by decide) ?_
                    refine j_isub C dX1_splits_168 ?_
                    refine j_top _ (nI (21 * (q - 3) - 21)) (pk_sub (by omega)) ?_
                    refine j_iload C dX1_splits_169 rfl ?_
                    refine j_iadd C dX1_splits_171 ?_
                    refine j_top _ _ (nI_add _ _) ?_
                    refine j_iload C dX1_splits_172 rfl ?_
                    refine j_isub C dX1_splits_174 ?_
                    refine j_top _ (nI (21 * (q - 3) - 21 + m - k)) (pk_sub (by omega)) ?_
                    refine l1_nb C ((q - 3 - 1) * 21 + (m - k)) (congrArg nI (by omega)) (by omega) dX1_splits_175 ?_
                    refine j_top _ (nI (spT ((q - 3 - 1) * 21 + (m - k)))) (hnb _ (by omega)) ?_
                    refine j_iadd C dX1_splits_176 ?_
                    refine j_top _ _ (nI_add _ _) ?_
                    have hs1 := sp_lt ((q - 3) * 21 + k) (by omega)
                    have hs2 := sp_lt ((q - 3 - 1) * 21 + (m - k)) (by omega)
                    have hs3 := mnX_le (g := spG (q - 3) m) (j := k - 1)
                    have hst1 : mnX (spG (q - 3) m) (k + 1 - 1) = if 2 * spT ((q - 3) * 21 + k) + spT ((q - 3 - 1) * 21 + (m - k)) < mnX (spG (q - 3) m) (k - 1) then 2 * spT ((q - 3) * 21 + k) + spT ((q - 3 - 1) * 21 + (m - k)) else mnX (spG (q - 3) m) (k - 1) := by
                      obtain ⟨k, rfl⟩ : ∃ k1, k = k1 + 1 := ⟨k - 1, by omega⟩
                      rw [show k + 1 + 1 - 1 = k + 1 by omega, show k + 1 - 1 = k by omega, mnX]; rfl
                    refine j_istore_7 C dX1_splits_177 (by decide) ?_
                    refine j_aload_n C dX1_splits_179 rfl ?_
                    refine g1_numbers C dX1_splits_180 ?_
                    refine j_iload C dX1_splits_183 rfl ?_
                    refine j_iload C dX1_splits_185 rfl ?_
                    refine j_iadd C dX1_splits_187 ?_
                    refine j_top _ _ (nI_add _ _) ?_
                    refine j_iload C dX1_splits_188 rfl ?_
                    refine j_aload_n C dX1_splits_190 rfl ?_
                    refine g1_numbers C dX1_splits_191 ?_
                    refine j_iload C dX1_splits_194 rfl ?_
                    refine j_iload C dX1_splits_196 rfl ?_
                    refine j_iadd C dX1_splits_198 ?_
                    refine j_top _ _ (nI_add _ _) ?_
                    refine l1_nb C ((q - 3) * 21 + m) (by rw [Nat.mul_comm]) (by omega) dX1_splits_199 ?_
                    refine j_top _ (nI (mnX (spG (q - 3) m) (k - 1))) hcur ?_
                    refine jN_icmp_ge C 208 (by omega) (by omega) dX1_splits_200 (by decide) (fun c_200 => ?_) (fun c_200 => ?_)
                    · refine j_aload_n C dX1_splits_208 rfl ?_
                      refine g1_numbers C dX1_splits_209 ?_
                      refine j_iload C dX1_splits_212 rfl ?_
                      refine j_iload C dX1_splits_214 rfl ?_
                      refine j_iadd C dX1_splits_216 ?_
                      refine j_top _ _ (nI_add _ _) ?_
                      refine l1_nb C ((q - 3) * 21 + m) (by rw [Nat.mul_comm]) (by omega) dX1_splits_217 ?_
                      refine j_top _ (nI (mnX (spG (q - 3) m) (k - 1))) hcur ?_
                      refine s1_nb C ((q - 3) * 21 + m) (by rw [Nat.mul_comm]) (by omega) dX1_splits_218 ?_
                      refine j_iinc_6 C _ (nI_p1 _) dX1_splits_219 ?_
                      refine j_goto C 141 dX1_splits_222 (by decide) ?_
                      exact ih3 (k + 1) _ _ (by omega) (by omega) (by omega) (fun i hi => by rw [pk_un (by omega)]; exact hnb i hi) (by rw [pk_us, hst1, if_neg (Nat.not_lt.mpr c_200)])
                    · refine j_iload C dX1_splits_203 rfl ?_
                      refine j_goto C 218 dX1_splits_205 (by decide) ?_
                      refine s1_nb C ((q - 3) * 21 + m) (by rw [Nat.mul_comm]) (by omega) dX1_splits_218 ?_
                      refine j_iinc_6 C _ (nI_p1 _) dX1_splits_219 ?_
                      refine j_goto C 141 dX1_splits_222 (by decide) ?_
                      exact ih3 (k + 1) _ _ (by omega) (by omega) (by omega) (fun i hi => by rw [pk_un (by omega)]; exact hnb i hi) (by rw [pk_us, hst1, if_pos c_200])
              exact hK m 2 _ _ (by omega) (by omega) (by omega) (fun i hi => by rw [pk_un (by omega)]; exact hnb i hi) (by rw [pk_us]; exact congrArg nI (mn_1 (by omega) (by omega) (by omega)))
        exact hM 20 2 _ _ _ (by omega) (by omega) (by omega) (fun i hi => by
          by_cases e : i = (q - 3) * 21 + 1
          · rw [e, pk_us, sp_1 (q - 3) (by omega) 1 (by omega) (by omega)]
          · rw [pk_un e]
            by_cases e2 : i = (q - 3) * 21
            · rw [e2, pk_us, ← Nat.add_zero ((q - 3) * 21), sp_1 (q - 3) (by omega) 0 (by omega) (by omega)]
            · rw [pk_un e2]; exact hnb i (by omega))
  have h1 : ∀ (dd qq : Nat), x = nI dd → y = nI qq → dd ≤ 20 → 3 ≤ qq → qq ≤ 5 → ∀ (f m : Nat) (nb : Nat → Int32), 21 < m + f → m ≤ 21 → (∀ i, i < m → nb i = nI (spT i)) → jJ K 0 0 35 [some (.ref (ad 0)), some (.int (nI dd)), some (.int (nI qq)), some (.int (nI (m))), none, none, none, none] [] (wM Y ad (nI 0) (nI P) (nI N) (bi ru) (nI mv0) s0 qd (fun d => nI (nf d)) (fun d => nI (gf d)) (fun d => bi (cb d)) (fun k => bi (ba k)) (fun k => nI (fr k)) (fun k => nI (tt k)) lk fa qu nb) := by
    intro dd qq hx hy hdd hq3 hq5 f
    induction f with
    | zero => intro m nb h1 h2; omega
    | succ f ih =>
      intro m nb h1 h2 hnb
      refine j_iload_n C dX1_splits_35 rfl ?_
      refine j_bipush C (nI 20) dX1_splits_36 (by decide) ?_
      refine jN_icmp_gt C 58 (by omega) (by omega) dX1_splits_38 (by decide) (fun c_38 => ?_) (fun c_38 => ?_)
      · refine j_iconst C (nI 4) dX1_splits_58 (by decide) ?_
        refine j_istore_3 C dX1_splits_59 (by decide) ?_
        exact hQ dd qq hx hy hdd hq3 hq5 3 4 nb _ _ _ _ (by omega) (by omega) (by omega) (fun i hi => hnb i (by omega))
      · refine j_aload_n C dX1_splits_41 rfl ?_
        refine g1_numbers C dX1_splits_42 ?_
        refine j_iload_n C dX1_splits_45 rfl ?_
        refine j_iconst C (nI 1) dX1_splits_46 (by decide) ?_
        refine j_iload_n C dX1_splits_47 rfl ?_
        refine j_ishl C dX1_splits_48 ?_
        refine j_top _ (nI (2 ^ m)) (shl1 m (by omega)) ?_
        refine j_iconst C (nI 1) dX1_splits_49 (by decide) ?_
        refine j_isub C dX1_splits_50 ?_
        refine j_top _ (nI (2 ^ m - 1)) (pk_sub Nat.one_le_two_pow) ?_
        refine s1_nb C _ rfl (by omega) dX1_splits_51 ?_
        refine j_iinc_3 C _ (nI_p1 _) dX1_splits_52 ?_
        refine j_goto C 35 dX1_splits_55 (by decide) ?_
        exact ih (m + 1) _ (by omega) (by omega) (fun i hi => by
          by_cases e : i = m
          · rw [e, pk_us, sp_0 m (by omega)]
          · rw [pk_un e]; exact hnb i (by omega))
  refine j_aload_n C dX1_splits_0 rfl ?_
  refine j_iload_n C dX1_splits_1 rfl ?_
  refine j_iconst C (nI 0) dX1_splits_2 (by decide) ?_
  refine j_bipush C (nI 20) dX1_splits_3 (by decide) ?_
  refine j_callS3i C (ct_X1_in (ad := ad) (by omega) (by omega)) gw_1_55 rfl nd_X1_in ⟨by decide, by decide⟩ ⟨Nat.le_of_ble_eq_true rfl, Nat.le_of_ble_eq_true rfl⟩ (Nat.le_of_ble_eq_true rfl) dX1_splits_5 (fun x_1 w_1 hp => ?_)
  obtain ⟨rfl, rfl⟩ := hp
  refine jB_if_eq C 24 dX1_splits_8 (by decide) (fun c_8 => ?_) (fun c_8 => ?_)
  · refine j_iconst C (nI 1) dX1_splits_24 (by decide) ?_
    refine j_callV1i C (ct_X1_goesWell (by omega)) gw_1_66 nd_X1_goesWell 1 0 rfl rfl rfl ⟨by decide, by decide⟩ ⟨Nat.le_of_ble_eq_true rfl, Nat.le_of_ble_eq_true rfl⟩ (Nat.le_of_ble_eq_true rfl) dX1_splits_25 (fun x_1 w_1 hp => ?_)
    obtain ⟨rfl, rfl⟩ := hp
    refine jB_if_ne C 33 dX1_splits_28 (by decide) (fun c_28 => ?_) (fun c_28 => ?_)
    · exact absurd c_28 (by decide)
    · refine j_iconst C (nI 0) dX1_splits_31 (by decide) ?_
      exact j_reti C R dX1_splits_32 (Or.inr ⟨by rw [c_8]; rfl, rfl⟩)
  · refine j_iload_n C dX1_splits_11 rfl ?_
    refine j_iconst C (nI 3) dX1_splits_12 (by decide) ?_
    refine j_iconst C (nI 5) dX1_splits_13 (by decide) ?_
    refine j_callS3i C (ct_X1_in (ad := ad) (by omega) (by omega)) gw_1_55 rfl nd_X1_in ⟨by decide, by decide⟩ ⟨Nat.le_of_ble_eq_true rfl, Nat.le_of_ble_eq_true rfl⟩ (Nat.le_of_ble_eq_true rfl) dX1_splits_14 (fun x_1 w_1 hp => ?_)
    obtain ⟨rfl, rfl⟩ := hp
    refine jB_if_eq C 24 dX1_splits_17 (by decide) (fun c_17 => ?_) (fun c_17 => ?_)
    · refine j_iconst C (nI 1) dX1_splits_24 (by decide) ?_
      refine j_callV1i C (ct_X1_goesWell (by omega)) gw_1_66 nd_X1_goesWell 1 0 rfl rfl rfl ⟨by decide, by decide⟩ ⟨Nat.le_of_ble_eq_true rfl, Nat.le_of_ble_eq_true rfl⟩ (Nat.le_of_ble_eq_true rfl) dX1_splits_25 (fun x_1 w_1 hp => ?_)
      obtain ⟨rfl, rfl⟩ := hp
      refine jB_if_ne C 33 dX1_splits_28 (by decide) (fun c_28 => ?_) (fun c_28 => ?_)
      · exact absurd c_28 (by decide)
      · refine j_iconst C (nI 0) dX1_splits_31 (by decide) ?_
        exact j_reti C R dX1_splits_32 (Or.inr ⟨by rw [c_17, Bool.and_false], rfl⟩)
    · refine j_iconst C (nI 0) dX1_splits_20 (by decide) ?_
      refine j_goto C 25 dX1_splits_21 (by decide) ?_
      refine j_callV1i C (ct_X1_goesWell (by omega)) gw_1_66 nd_X1_goesWell 1 0 rfl rfl rfl ⟨by decide, by decide⟩ ⟨Nat.le_of_ble_eq_true rfl, Nat.le_of_ble_eq_true rfl⟩ (Nat.le_of_ble_eq_true rfl) dX1_splits_25 (fun x_1 w_1 hp => ?_)
      obtain ⟨rfl, rfl⟩ := hp
      refine jB_if_ne C 33 dX1_splits_28 (by decide) (fun c_28 => ?_) (fun c_28 => ?_)
      · refine j_iconst C (nI 0) dX1_splits_33 (by decide) ?_
        refine j_istore_3 C dX1_splits_34 (by decide) ?_
        obtain ⟨dd, -, hdd, hx⟩ := rg_of (by omega) c_8
        obtain ⟨qq, hq3, hq5, hy⟩ := rg_of (by omega) c_17
        refine j_eq (lo' := [some (.ref (ad 0)), some (.int (nI dd)), some (.int (nI qq)), some (.int (nI (0))), none, none, none, none]) (by rw [hx, hy]) rfl rfl ?_
        exact h1 dd qq hx hy hdd hq3 hq5 22 0 nb (by omega) (by omega) (fun i hi => by omega)
      · exact absurd c_28 (by decide)
