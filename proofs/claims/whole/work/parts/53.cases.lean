theorem lw_cmp {lo : Nat → Int64} {v r : Int32} (h : v = r) : lg_cmp (vp_updL lo 0 (Int32.toInt64 v) 0) (Int32.toInt64 r) = 0 := by subst h; exact lg_cmp_self _
theorem lw_cmpB {lo : Nat → Int64} {v r : Int32} (h : v = r) : lg_cmp (vp_updL lo 0 (i2b v) 0) (i2b r) = 0 := by subst h; exact lg_cmp_self _
set_option maxHeartbeats 4000000 in
set_option maxRecDepth 100000 in
theorem lc_begin {K : jk_T} {Y : jy_T} {ad ad2 : Nat → Nat} {ho b L i k n : Nat} {xs : Nat → Int32} (h : lwK K Y b L xs i k n) (nx : lwN K Y ad ad2 ho b i k n) {ws : va_W} (S : lwS Y ad ad2 ho ws) {l5 l6 : Option Value} : jJ K k n 148 (lwL ad ad2 ho b i l5 l6) [] ws := by
  obtain ⟨C, X, hfl, hX, hbl, hbA, hL, hi, hk, hn⟩ := h
  obtain ⟨lo0, P, N, a, b0, mv0, st0, ru, me, cb, al, ba, tr, nf, gf, fr, tt, to, fa, se, qu, th, qd, lk, fa2, qu2, nb, I, rfl⟩ := S
  obtain ⟨hc, ha, hb, hm0, hme, hba, hnf, hgf, htr, hst, hH⟩ := id I
  have hN6 : N ≤ 6 := hc.2.2.2
  have hP5 : P ≤ 5 := hc.2.1
  have hP3 : 3 ≤ P := hc.1
  have hP0 : 0 < P := by omega
  refine j_eq rfl rfl (show _ = (oC Y ho lo0 :: (lwA Y ad P N a b0 mv0 ru me cb al tr to fa se qu)) ++ (lwM Y ad2 P N mv0 st0 ru cb ba nf gf fr tt th qd lk fa2 qu2 nb) from rfl) ?_
  refine j_aload_n C dL_law_148 rfl ?_
  refine j_aload_n C dL_law_149 rfl ?_
  refine j_iload C dL_law_150 rfl ?_
  refine j_iconst C (nI 1) dL_law_152 (by decide) ?_
  refine j_iadd C dL_law_153 ?_
  refine j_sld C hX hbl hbA (i + 1) (nI_add _ _) (by omega) (by omega) dL_law_154 ?_
  refine j_aload_n C dL_law_155 rfl ?_
  refine j_iload C dL_law_156 rfl ?_
  refine j_iconst C (nI 2) dL_law_158 (by decide) ?_
  refine j_iadd C dL_law_159 ?_
  refine j_sld C hX hbl hbA (i + 2) (nI_add _ _) (by omega) (by omega) dL_law_160 ?_
  refine j_aload_n C dL_law_161 rfl ?_
  refine j_callSW (wr := (lwM Y ad2 P N mv0 st0 ru cb ba nf gf fr tt th qd lk fa2 qu2 nb)) (st := []) C X [.ref (ad 0), .int (xs (i + 1)), .int (xs (i + 2)), .ref ho] [0, 1, 2, 3, 4, 5, 6, 7, 8, 9, 10] [11, 12, 13, 14, 15, 16, 17, 18, 19, 20, 21] (ct_L_begin (lo0 := lo0) (ho := ho) (ct_X0_begin hfl (ad := ad) (P := P) (N := N) (a := a) (b := b0) (mv0 := mv0) (ru := ru) (me := me) (cb := cb) (al := al) (tr := tr) (to := to) (fa := fa) (se := se) (qu := qu) (sp := fun i => nI (spT i))) (fun E w q => q.1)) rfl rfl rfl rfl (by decide) gw_L_63 nd_L_begin ⟨by decide, by decide⟩ ⟨hk, hn⟩ (Nat.le_of_ble_eq_true rfl) dL_law_162 rfl (fun r w hp => ?_)
  obtain ⟨r5, rfl, hp⟩ := hp
  rcases hp with ⟨v, w1, rfl, hp, rfl⟩ | ⟨E, w1, rfl, hp, rfl⟩
  · rcases hp with ⟨P1, N1, ex, ey, hc1, rfl, rfl⟩
    · refine j_top _ (nI 0) (rfl) ?_
      refine j_istore_5 C dL_law_165 (by decide) ?_
      refine j_aload_n C dL_law_167 rfl ?_
      refine j_aload_n C dL_law_168 rfl ?_
      refine j_iload C dL_law_169 rfl ?_
      refine j_iconst C (nI 1) dL_law_171 (by decide) ?_
      refine j_iadd C dL_law_172 ?_
      refine j_sld C hX hbl hbA (i + 1) (nI_add _ _) (by omega) (by omega) dL_law_173 ?_
      refine j_aload_n C dL_law_174 rfl ?_
      refine j_iload C dL_law_175 rfl ?_
      refine j_iconst C (nI 2) dL_law_177 (by decide) ?_
      refine j_iadd C dL_law_178 ?_
      refine j_sld C hX hbl hbA (i + 2) (nI_add _ _) (by omega) (by omega) dL_law_179 ?_
      refine j_callVF (wr := (oC Y ho (vp_updL lo0 0 (Int32.toInt64 (nI (P1 ^ N1)))) :: (lwA Y ad P1 N1 0 (P1 ^ N1 - 1) 0 false false (fun _ => false) (fun _ => true) tr to fa se qu))) (st := []) C [.int (xs (i + 1)), .int (xs (i + 2))] [0, 1, 2, 3, 4, 5, 6, 7, 8, 9, 10] [11, 12, 13, 14, 15, 16, 17, 18, 19, 20, 21] (ct_X1_begin (s0 := nI st0) (ad := ad2) (P := P) (N := N) (a := a) (b := b0) (mv0 := mv0) (ru := ru) (cb := cb) (ba := ba) (nf := nf) (gf := gf) (fr := fr) (tt := tt) (th := th) (qd := qd) (lk := lk) (fa := fa2) (qu := qu2) (nb := nb)) rfl rfl rfl rfl (by decide) gw_L_68 nd_X1_begin 1 0 rfl rfl rfl ⟨by decide, by decide⟩ ⟨hk, hn⟩ (Nat.le_of_ble_eq_true rfl) dL_law_180 rfl (fun r w hp2 => ?_)
      obtain ⟨r6, rfl, hp2⟩ := hp2
      rcases hp2 with ⟨P12, N12, ex2, ey2, hc2, rfl, rfl⟩ | ⟨hf, _⟩
      · have e1 : P1 = P12 := nI_e (n := 10) ex2 ex (by have := hc2.2.1; omega) (by have := hc1.2.1; omega) (by decide); subst e1
        have e2 : N1 = N12 := nI_e (n := 10) ey2 ey (by have := hc2.2.2.2; omega) (by have := hc1.2.2.2; omega) (by decide); subst e2
        refine j_istore_6 C dL_law_183 (by decide) ?_
        refine j_aload_n C dL_law_185 rfl ?_
        refine j_callVF (wr := (oC Y ho (vp_updL lo0 0 (Int32.toInt64 (nI (P1 ^ N1)))) :: (lwA Y ad P1 N1 0 (P1 ^ N1 - 1) 0 false false (fun _ => false) (fun _ => true) tr to fa se qu))) (st := []) C [] [11, 12, 13, 14, 15, 16, 17, 18, 19, 20, 21] [0, 1, 2, 3, 4, 5, 6, 7, 8, 9, 10] (ct_X1_thrown (ad := ad2) (th := (nI 0)) (p := nI P1) (n := nI N1) (ru := bi false) (mc := nI 0) (s0 := nI st0) (qd := qd) (nw := fun jj => nI ((fun _ => 0) jj)) (gl := fun jj => nI ((fun _ => P1 - 1) jj)) (co := fun jj => bi ((fun _ => false) jj)) (ba := fun jj => bi ((fun _ => false) jj)) (fr := fun jj => nI (fr jj)) (tt := fun jj => nI (tt jj)) (lk := lk) (fa := fa2) (qu := qu2) (nb := nb)) rfl rfl rfl rfl (by decide) gw_L_69 nd_X1_thrown 1 0 rfl rfl rfl ⟨by decide, by decide⟩ ⟨hk, hn⟩ (Nat.le_of_ble_eq_true rfl) dL_law_186 rfl (fun r w hp3 => ?_)
        obtain ⟨r7, rfl, rfl, rfl⟩ := hp3
        refine j_iload C dL_law_189 rfl ?_
        refine j_icmp_eq C 196 dL_law_191 (by decide) (fun _ => ?_) (fun c => absurd rfl c)
        refine j_iload C dL_law_196 rfl ?_
        refine j_if_ne C 213 dL_law_198 (by decide) (fun c => absurd rfl c) (fun _ => ?_)
        refine j_aload_n C dL_law_201 rfl ?_
        refine j_iconst C (nI 0) dL_law_202 (by decide) ?_
        refine j_lald C 0 rfl 0 rfl (by decide) (by decide) dL_law_203 ?_
        refine j_iload C dL_law_204 rfl ?_
        refine j_i2l C dL_law_206 ?_
        refine j_lcmp C dL_law_207 ?_
        refine j_top _ 0 (lw_cmp (rfl)) ?_
        refine j_if_eq C 213 dL_law_208 (by decide) (fun _ => ?_) (fun c => absurd rfl c)
        refine j_goto C 1149 dL_law_213 (by decide) ?_
        exact nx _ _ _ (lwS_of (INV_fresh hc1))
      · exact absurd (bg_t ex ey hc1) (by rw [hf]; decide)
  · rcases hp with ⟨rfl, hf, rfl⟩
    · refine j_top _ (nI 1) (rfl) ?_
      refine j_istore_5 C dL_law_165 (by decide) ?_
      refine j_aload_n C dL_law_167 rfl ?_
      refine j_aload_n C dL_law_168 rfl ?_
      refine j_iload C dL_law_169 rfl ?_
      refine j_iconst C (nI 1) dL_law_171 (by decide) ?_
      refine j_iadd C dL_law_172 ?_
      refine j_sld C hX hbl hbA (i + 1) (nI_add _ _) (by omega) (by omega) dL_law_173 ?_
      refine j_aload_n C dL_law_174 rfl ?_
      refine j_iload C dL_law_175 rfl ?_
      refine j_iconst C (nI 2) dL_law_177 (by decide) ?_
      refine j_iadd C dL_law_178 ?_
      refine j_sld C hX hbl hbA (i + 2) (nI_add _ _) (by omega) (by omega) dL_law_179 ?_
      refine j_callVF (wr := (oC Y ho lo0 :: (lwA Y ad P N a b0 mv0 ru me cb al tr to fa se qu))) (st := []) C [.int (xs (i + 1)), .int (xs (i + 2))] [0, 1, 2, 3, 4, 5, 6, 7, 8, 9, 10] [11, 12, 13, 14, 15, 16, 17, 18, 19, 20, 21] (ct_X1_begin (s0 := nI st0) (ad := ad2) (P := P) (N := N) (a := a) (b := b0) (mv0 := mv0) (ru := ru) (cb := cb) (ba := ba) (nf := nf) (gf := gf) (fr := fr) (tt := tt) (th := th) (qd := qd) (lk := lk) (fa := fa2) (qu := qu2) (nb := nb)) rfl rfl rfl rfl (by decide) gw_L_68 nd_X1_begin 1 0 rfl rfl rfl ⟨by decide, by decide⟩ ⟨hk, hn⟩ (Nat.le_of_ble_eq_true rfl) dL_law_180 rfl (fun r w hp2 => ?_)
      obtain ⟨r6, rfl, hp2⟩ := hp2
      rcases hp2 with ⟨P12, N12, ex2, ey2, hc2, _, _⟩ | ⟨_, rfl⟩
      · exact absurd (bg_t ex2 ey2 hc2) (by rw [hf]; decide)
      · refine j_istore_6 C dL_law_183 (by decide) ?_
        refine j_aload_n C dL_law_185 rfl ?_
        refine j_callVF (wr := (oC Y ho lo0 :: (lwA Y ad P N a b0 mv0 ru me cb al tr to fa se qu))) (st := []) C [] [11, 12, 13, 14, 15, 16, 17, 18, 19, 20, 21] [0, 1, 2, 3, 4, 5, 6, 7, 8, 9, 10] (ct_X1_thrown (ad := ad2) (th := (nI 1)) (p := nI P) (n := nI N) (ru := bi ru) (mc := nI mv0) (s0 := nI st0) (qd := qd) (nw := fun jj => nI (nf jj)) (gl := fun jj => nI (gf jj)) (co := fun jj => bi (cb jj)) (ba := fun jj => bi (ba jj)) (fr := fun jj => nI (fr jj)) (tt := fun jj => nI (tt jj)) (lk := lk) (fa := fa2) (qu := qu2) (nb := nb)) rfl rfl rfl rfl (by decide) gw_L_69 nd_X1_thrown 1 0 rfl rfl rfl ⟨by decide, by decide⟩ ⟨hk, hn⟩ (Nat.le_of_ble_eq_true rfl) dL_law_186 rfl (fun r w hp3 => ?_)
        obtain ⟨r7, rfl, rfl, rfl⟩ := hp3
        refine j_iload C dL_law_189 rfl ?_
        refine j_icmp_eq C 196 dL_law_191 (by decide) (fun _ => ?_) (fun c => absurd rfl c)
        refine j_iload C dL_law_196 rfl ?_
        refine j_if_ne C 213 dL_law_198 (by decide) (fun _ => ?_) (fun c => absurd c (by decide))
        refine j_goto C 1149 dL_law_213 (by decide) ?_
        exact nx _ _ _ (lwS_of (I))
set_option maxHeartbeats 4000000 in
set_option maxRecDepth 100000 in
theorem lc_put {K : jk_T} {Y : jy_T} {ad ad2 : Nat → Nat} {ho b L i k n : Nat} {xs : Nat → Int32} (h : lwK K Y b L xs i k n) (nx : lwN K Y ad ad2 ho b i k n) {ws : va_W} (S : lwS Y ad ad2 ho ws) {l5 l6 : Option Value} : jJ K k n 216 (lwL ad ad2 ho b i l5 l6) [] ws := by
  obtain ⟨C, X, hfl, hX, hbl, hbA, hL, hi, hk, hn⟩ := h
  obtain ⟨lo0, P, N, a, b0, mv0, st0, ru, me, cb, al, ba, tr, nf, gf, fr, tt, to, fa, se, qu, th, qd, lk, fa2, qu2, nb, I, rfl⟩ := S
  obtain ⟨hc, ha, hb, hm0, hme, hba, hnf, hgf, htr, hst, hH⟩ := id I
  have hN6 : N ≤ 6 := hc.2.2.2
  have hP5 : P ≤ 5 := hc.2.1
  have hP3 : 3 ≤ P := hc.1
  have hP0 : 0 < P := by omega
  refine j_eq rfl rfl (show _ = (oC Y ho lo0 :: (lwA Y ad P N a b0 mv0 ru me cb al tr to fa se qu)) ++ (lwM Y ad2 P N mv0 st0 ru cb ba nf gf fr tt th qd lk fa2 qu2 nb) from rfl) ?_
  refine j_aload_n C dL_law_216 rfl ?_
  refine j_aload_n C dL_law_217 rfl ?_
  refine j_iload C dL_law_218 rfl ?_
  refine j_iconst C (nI 1) dL_law_220 (by decide) ?_
  refine j_iadd C dL_law_221 ?_
  refine j_sld C hX hbl hbA (i + 1) (nI_add _ _) (by omega) (by omega) dL_law_222 ?_
  refine j_aload_n C dL_law_223 rfl ?_
  refine j_iload C dL_law_224 rfl ?_
  refine j_iconst C (nI 2) dL_law_226 (by decide) ?_
  refine j_iadd C dL_law_227 ?_
  refine j_sld C hX hbl hbA (i + 2) (nI_add _ _) (by omega) (by omega) dL_law_228 ?_
  refine j_aload_n C dL_law_229 rfl ?_
  refine j_callSW (wr := (lwM Y ad2 P N mv0 st0 ru cb ba nf gf fr tt th qd lk fa2 qu2 nb)) (st := []) C X [.ref (ad 0), .int (xs (i + 1)), .int (xs (i + 2)), .ref ho] [0, 1, 2, 3, 4, 5, 6, 7, 8, 9, 10] [11, 12, 13, 14, 15, 16, 17, 18, 19, 20, 21] (ct_L_put (lo0 := lo0) (ho := ho) (ct_X0_put hc ha hb (by omega) hfl (ad := ad) (P := P) (N := N) (a := a) (b := b0) (mv0 := mv0) (ru := ru) (me := me) (cb := cb) (al := al) (tr := tr) (to := to) (fa := fa) (se := se) (qu := qu) (sp := fun i => nI (spT i))) (fun E w q => q.2.elim (fun q => Or.inl q.1) (fun q => Or.inr q.1))) rfl rfl rfl rfl (by decide) gw_L_72 nd_L_put ⟨by decide, by decide⟩ ⟨hk, hn⟩ (Nat.le_of_ble_eq_true rfl) dL_law_230 rfl (fun r w hp => ?_)
  obtain ⟨r5, rfl, hp⟩ := hp
  rcases hp with ⟨v, w1, rfl, hp, rfl⟩ | ⟨E, w1, rfl, hp, rfl⟩
  · rcases hp with ⟨d, t, ex, hd, ey, ht, hz, rfl, rfl⟩
    · refine j_top _ (nI 0) (rfl) ?_
      refine j_istore_5 C dL_law_233 (by decide) ?_
      refine j_aload_n C dL_law_235 rfl ?_
      refine j_aload_n C dL_law_236 rfl ?_
      refine j_iload C dL_law_237 rfl ?_
      refine j_iconst C (nI 1) dL_law_239 (by decide) ?_
      refine j_iadd C dL_law_240 ?_
      refine j_sld C hX hbl hbA (i + 1) (nI_add _ _) (by omega) (by omega) dL_law_241 ?_
      refine j_aload_n C dL_law_242 rfl ?_
      refine j_iload C dL_law_243 rfl ?_
      refine j_iconst C (nI 2) dL_law_245 (by decide) ?_
      refine j_iadd C dL_law_246 ?_
      refine j_sld C hX hbl hbA (i + 2) (nI_add _ _) (by omega) (by omega) dL_law_247 ?_
      refine j_callVF (wr := (oC Y ho (vp_updL lo0 0 (Int32.toInt64 (nI (dg P a d)))) :: (lwA Y ad P N (sd P a d t) b0 mv0 ru me cb al tr to fa se qu))) (st := []) C [.int (xs (i + 1)), .int (xs (i + 2))] [0, 1, 2, 3, 4, 5, 6, 7, 8, 9, 10] [11, 12, 13, 14, 15, 16, 17, 18, 19, 20, 21] (ct_X1_put hc (by omega) (s0 := nI st0) (ad := ad2) (P := P) (N := N) (a := a) (b := b0) (mv0 := mv0) (ru := ru) (cb := cb) (ba := ba) (nf := nf) (gf := gf) (fr := fr) (tt := tt) (th := th) (qd := qd) (lk := lk) (fa := fa2) (qu := qu2) (nb := nb)) rfl rfl rfl rfl (by decide) gw_L_74 nd_X1_put 1 0 rfl rfl rfl ⟨by decide, by decide⟩ ⟨hk, hn⟩ (Nat.le_of_ble_eq_true rfl) dL_law_248 rfl (fun r w hp2 => ?_)
      obtain ⟨r6, rfl, hp2⟩ := hp2
      rcases hp2 with ⟨d2, t2, ex2, hd2, ey2, ht2, _, rfl, rfl⟩ | ⟨hf, _⟩ | ⟨_, hp0, _⟩
      · have e_d : d = d2 := nI_e (n := N) ex2 ex hd2 hd (by omega); subst e_d
        have e_t : t = t2 := nI_e (n := P) ey2 ey ht2 ht (by omega); subst e_t
        refine j_istore_6 C dL_law_251 (by decide) ?_
        refine j_aload_n C dL_law_253 rfl ?_
        refine j_callVF (wr := (oC Y ho (vp_updL lo0 0 (Int32.toInt64 (nI (dg P a d)))) :: (lwA Y ad P N (sd P a d t) b0 mv0 ru me cb al tr to fa se qu))) (st := []) C [] [11, 12, 13, 14, 15, 16, 17, 18, 19, 20, 21] [0, 1, 2, 3, 4, 5, 6, 7, 8, 9, 10] (ct_X1_thrown (ad := ad2) (th := (nI 0)) (p := nI P) (n := nI N) (ru := bi ru) (mc := nI mv0) (s0 := nI st0) (qd := qd) (nw := fun jj => nI ((updN nf d t) jj)) (gl := fun jj => nI (gf jj)) (co := fun jj => bi (cb jj)) (ba := fun jj => bi (ba jj)) (fr := fun jj => nI (fr jj)) (tt := fun jj => nI (tt jj)) (lk := lk) (fa := fa2) (qu := qu2) (nb := nb)) rfl rfl rfl rfl (by decide) gw_L_69 nd_X1_thrown 1 0 rfl rfl rfl ⟨by decide, by decide⟩ ⟨hk, hn⟩ (Nat.le_of_ble_eq_true rfl) dL_law_254 rfl (fun r w hp3 => ?_)
        obtain ⟨r7, rfl, rfl, rfl⟩ := hp3
        refine j_iload C dL_law_257 rfl ?_
        refine j_icmp_eq C 264 dL_law_259 (by decide) (fun _ => ?_) (fun c => absurd rfl c)
        refine j_iload C dL_law_264 rfl ?_
        refine j_if_ne C 281 dL_law_266 (by decide) (fun c => absurd rfl c) (fun _ => ?_)
        refine j_aload_n C dL_law_269 rfl ?_
        refine j_iconst C (nI 0) dL_law_270 (by decide) ?_
        refine j_lald C 0 rfl 0 rfl (by decide) (by decide) dL_law_271 ?_
        refine j_iload C dL_law_272 rfl ?_
        refine j_i2l C dL_law_274 ?_
        refine j_lcmp C dL_law_275 ?_
        refine j_top _ 0 (lw_cmp (by rw [hnf d hd])) ?_
        refine j_if_eq C 281 dL_law_276 (by decide) (fun _ => ?_) (fun c => absurd rfl c)
        refine j_goto C 1149 dL_law_281 (by decide) ?_
        exact nx _ _ _ (lwS_of (INV_put I hd ht hz))
      · exact absurd (in_2 ex hd ey ht (by omega) (by omega)) (by rw [hf]; decide)
      · omega
  · rcases hp with ⟨rfl, ⟨rfl, hf⟩ | ⟨rfl, ht0, hp0⟩⟩
    · refine j_top _ (nI 1) (by rw [if_pos rfl]) ?_
      refine j_istore_5 C dL_law_233 (by decide) ?_
      refine j_aload_n C dL_law_235 rfl ?_
      refine j_aload_n C dL_law_236 rfl ?_
      refine j_iload C dL_law_237 rfl ?_
      refine j_iconst C (nI 1) dL_law_239 (by decide) ?_
      refine j_iadd C dL_law_240 ?_
      refine j_sld C hX hbl hbA (i + 1) (nI_add _ _) (by omega) (by omega) dL_law_241 ?_
      refine j_aload_n C dL_law_242 rfl ?_
      refine j_iload C dL_law_243 rfl ?_
      refine j_iconst C (nI 2) dL_law_245 (by decide) ?_
      refine j_iadd C dL_law_246 ?_
      refine j_sld C hX hbl hbA (i + 2) (nI_add _ _) (by omega) (by omega) dL_law_247 ?_
      refine j_callVF (wr := (oC Y ho lo0 :: (lwA Y ad P N a b0 mv0 ru me cb al tr to fa se qu))) (st := []) C [.int (xs (i + 1)), .int (xs (i + 2))] [0, 1, 2, 3, 4, 5, 6, 7, 8, 9, 10] [11, 12, 13, 14, 15, 16, 17, 18, 19, 20, 21] (ct_X1_put hc (by omega) (s0 := nI st0) (ad := ad2) (P := P) (N := N) (a := a) (b := b0) (mv0 := mv0) (ru := ru) (cb := cb) (ba := ba) (nf := nf) (gf := gf) (fr := fr) (tt := tt) (th := th) (qd := qd) (lk := lk) (fa := fa2) (qu := qu2) (nb := nb)) rfl rfl rfl rfl (by decide) gw_L_74 nd_X1_put 1 0 rfl rfl rfl ⟨by decide, by decide⟩ ⟨hk, hn⟩ (Nat.le_of_ble_eq_true rfl) dL_law_248 rfl (fun r w hp2 => ?_)
      obtain ⟨r6, rfl, hp2⟩ := hp2
      rcases hp2 with ⟨d2, t2, ex2, hd2, ey2, ht2, _, _, _⟩ | ⟨_, rfl⟩ | ⟨h3, _, _⟩
      · exact absurd (in_2 ex2 hd2 ey2 ht2 (by omega) (by omega)) (by rw [hf]; decide)
      · refine j_istore_6 C dL_law_251 (by decide) ?_
        refine j_aload_n C dL_law_253 rfl ?_
        refine j_callVF (wr := (oC Y ho lo0 :: (lwA Y ad P N a b0 mv0 ru me cb al tr to fa se qu))) (st := []) C [] [11, 12, 13, 14, 15, 16, 17, 18, 19, 20, 21] [0, 1, 2, 3, 4, 5, 6, 7, 8, 9, 10] (ct_X1_thrown (ad := ad2) (th := (nI 1)) (p := nI P) (n := nI N) (ru := bi ru) (mc := nI mv0) (s0 := nI st0) (qd := qd) (nw := fun jj => nI (nf jj)) (gl := fun jj => nI (gf jj)) (co := fun jj => bi (cb jj)) (ba := fun jj => bi (ba jj)) (fr := fun jj => nI (fr jj)) (tt := fun jj => nI (tt jj)) (lk := lk) (fa := fa2) (qu := qu2) (nb := nb)) rfl rfl rfl rfl (by decide) gw_L_69 nd_X1_thrown 1 0 rfl rfl rfl ⟨by decide, by decide⟩ ⟨hk, hn⟩ (Nat.le_of_ble_eq_true rfl) dL_law_254 rfl (fun r w hp3 => ?_)
        obtain ⟨r7, rfl, rfl, rfl⟩ := hp3
        refine j_iload C dL_law_257 rfl ?_
        refine j_icmp_eq C 264 dL_law_259 (by decide) (fun _ => ?_) (fun c => absurd rfl c)
        refine j_iload C dL_law_264 rfl ?_
        refine j_if_ne C 281 dL_law_266 (by decide) (fun _ => ?_) (fun c => absurd c (by decide))
        refine j_goto C 1149 dL_law_281 (by decide) ?_
        exact nx _ _ _ (lwS_of (I))
      · exact absurd (hf.symm.trans h3) (by decide)
    · refine j_top _ (nI 2) (by rw [if_neg (by decide +kernel)]) ?_
      refine j_istore_5 C dL_law_233 (by decide) ?_
      refine j_aload_n C dL_law_235 rfl ?_
      refine j_aload_n C dL_law_236 rfl ?_
      refine j_iload C dL_law_237 rfl ?_
      refine j_iconst C (nI 1) dL_law_239 (by decide) ?_
      refine j_iadd C dL_law_240 ?_
      refine j_sld C hX hbl hbA (i + 1) (nI_add _ _) (by omega) (by omega) dL_law_241 ?_
      refine j_aload_n C dL_law_242 rfl ?_
      refine j_iload C dL_law_243 rfl ?_
      refine j_iconst C (nI 2) dL_law_245 (by decide) ?_
      refine j_iadd C dL_law_246 ?_
      refine j_sld C hX hbl hbA (i + 2) (nI_add _ _) (by omega) (by omega) dL_law_247 ?_
      refine j_callVF (wr := (oC Y ho lo0 :: (lwA Y ad P N a b0 mv0 ru me cb al tr to fa se qu))) (st := []) C [.int (xs (i + 1)), .int (xs (i + 2))] [0, 1, 2, 3, 4, 5, 6, 7, 8, 9, 10] [11, 12, 13, 14, 15, 16, 17, 18, 19, 20, 21] (ct_X1_put hc (by omega) (s0 := nI st0) (ad := ad2) (P := P) (N := N) (a := a) (b := b0) (mv0 := mv0) (ru := ru) (cb := cb) (ba := ba) (nf := nf) (gf := gf) (fr := fr) (tt := tt) (th := th) (qd := qd) (lk := lk) (fa := fa2) (qu := qu2) (nb := nb)) rfl rfl rfl rfl (by decide) gw_L_74 nd_X1_put 1 0 rfl rfl rfl ⟨by decide, by decide⟩ ⟨hk, hn⟩ (Nat.le_of_ble_eq_true rfl) dL_law_248 rfl (fun r w hp2 => ?_)
      obtain ⟨r6, rfl, hp2⟩ := hp2
      rcases hp2 with ⟨d2, t2, ex2, hd2, ey2, ht2, _, _, _⟩ | ⟨hf, _⟩ | ⟨_, _, rfl⟩
      · omega
      · exact absurd (hf.symm.trans ht0) (by decide)
      · refine j_istore_6 C dL_law_251 (by decide) ?_
        refine j_aload_n C dL_law_253 rfl ?_
        refine j_callVF (wr := (oC Y ho lo0 :: (lwA Y ad P N a b0 mv0 ru me cb al tr to fa se qu))) (st := []) C [] [11, 12, 13, 14, 15, 16, 17, 18, 19, 20, 21] [0, 1, 2, 3, 4, 5, 6, 7, 8, 9, 10] (ct_X1_thrown (ad := ad2) (th := (nI 2)) (p := nI P) (n := nI N) (ru := bi ru) (mc := nI mv0) (s0 := nI st0) (qd := qd) (nw := fun jj => nI (nf jj)) (gl := fun jj => nI (gf jj)) (co := fun jj => bi (cb jj)) (ba := fun jj => bi (ba jj)) (fr := fun jj => nI (fr jj)) (tt := fun jj => nI (tt jj)) (lk := lk) (fa := fa2) (qu := qu2) (nb := nb)) rfl rfl rfl rfl (by decide) gw_L_69 nd_X1_thrown 1 0 rfl rfl rfl ⟨by decide, by decide⟩ ⟨hk, hn⟩ (Nat.le_of_ble_eq_true rfl) dL_law_254 rfl (fun r w hp3 => ?_)
        obtain ⟨r7, rfl, rfl, rfl⟩ := hp3
        refine j_iload C dL_law_257 rfl ?_
        refine j_icmp_eq C 264 dL_law_259 (by decide) (fun _ => ?_) (fun c => absurd rfl c)
        refine j_iload C dL_law_264 rfl ?_
        refine j_if_ne C 281 dL_law_266 (by decide) (fun _ => ?_) (fun c => absurd c (by decide))
        refine j_goto C 1149 dL_law_281 (by decide) ?_
        exact nx _ _ _ (lwS_of (I))
set_option maxHeartbeats 4000000 in
set_option maxRecDepth 100000 in
theorem lc_aim {K : jk_T} {Y : jy_T} {ad ad2 : Nat → Nat} {ho b L i k n : Nat} {xs : Nat → Int32} (h : lwK K Y b L xs i k n) (nx : lwN K Y ad ad2 ho b i k n) {ws : va_W} (S : lwS Y ad ad2 ho ws) {l5 l6 : Option Value} : jJ K k n 284 (lwL ad ad2 ho b i l5 l6) [] ws := by
  obtain ⟨C, X, hfl, hX, hbl, hbA, hL, hi, hk, hn⟩ := h
  obtain ⟨lo0, P, N, a, b0, mv0, st0, ru, me, cb, al, ba, tr, nf, gf, fr, tt, to, fa, se, qu, th, qd, lk, fa2, qu2, nb, I, rfl⟩ := S
  obtain ⟨hc, ha, hb, hm0, hme, hba, hnf, hgf, htr, hst, hH⟩ := id I
  have hN6 : N ≤ 6 := hc.2.2.2
  have hP5 : P ≤ 5 := hc.2.1
  have hP3 : 3 ≤ P := hc.1
  have hP0 : 0 < P := by omega
  refine j_eq rfl rfl (show _ = (oC Y ho lo0 :: (lwA Y ad P N a b0 mv0 ru me cb al tr to fa se qu)) ++ (lwM Y ad2 P N mv0 st0 ru cb ba nf gf fr tt th qd lk fa2 qu2 nb) from rfl) ?_
  refine j_aload_n C dL_law_284 rfl ?_
  refine j_aload_n C dL_law_285 rfl ?_
  refine j_iload C dL_law_286 rfl ?_
  refine j_iconst C (nI 1) dL_law_288 (by decide) ?_
  refine j_iadd C dL_law_289 ?_
  refine j_sld C hX hbl hbA (i + 1) (nI_add _ _) (by omega) (by omega) dL_law_290 ?_
  refine j_aload_n C dL_law_291 rfl ?_
  refine j_iload C dL_law_292 rfl ?_
  refine j_iconst C (nI 2) dL_law_294 (by decide) ?_
  refine j_iadd C dL_law_295 ?_
  refine j_sld C hX hbl hbA (i + 2) (nI_add _ _) (by omega) (by omega) dL_law_296 ?_
  refine j_aload_n C dL_law_297 rfl ?_
  refine j_callSW (wr := (lwM Y ad2 P N mv0 st0 ru cb ba nf gf fr tt th qd lk fa2 qu2 nb)) (st := []) C X [.ref (ad 0), .int (xs (i + 1)), .int (xs (i + 2)), .ref ho] [0, 1, 2, 3, 4, 5, 6, 7, 8, 9, 10] [11, 12, 13, 14, 15, 16, 17, 18, 19, 20, 21] (ct_L_aim (lo0 := lo0) (ho := ho) (ct_X0_aim hc ha hb hfl (ad := ad) (P := P) (N := N) (a := a) (b := b0) (mv0 := mv0) (ru := ru) (me := me) (cb := cb) (al := al) (tr := tr) (to := to) (fa := fa) (se := se) (qu := qu) (sp := fun i => nI (spT i))) (fun E w q => q.1)) rfl rfl rfl rfl (by decide) gw_L_75 nd_L_aim ⟨by decide, by decide⟩ ⟨hk, hn⟩ (Nat.le_of_ble_eq_true rfl) dL_law_298 rfl (fun r w hp => ?_)
  obtain ⟨r5, rfl, hp⟩ := hp
  rcases hp with ⟨v, w1, rfl, hp, rfl⟩ | ⟨E, w1, rfl, hp, rfl⟩
  · rcases hp with ⟨d, t, ex, hd, ey, ht, rfl, rfl⟩
    · refine j_top _ (nI 0) (rfl) ?_
      refine j_istore_5 C dL_law_301 (by decide) ?_
      refine j_aload_n C dL_law_303 rfl ?_
      refine j_aload_n C dL_law_304 rfl ?_
      refine j_iload C dL_law_305 rfl ?_
      refine j_iconst C (nI 1) dL_law_307 (by decide) ?_
      refine j_iadd C dL_law_308 ?_
      refine j_sld C hX hbl hbA (i + 1) (nI_add _ _) (by omega) (by omega) dL_law_309 ?_
      refine j_aload_n C dL_law_310 rfl ?_
      refine j_iload C dL_law_311 rfl ?_
      refine j_iconst C (nI 2) dL_law_313 (by decide) ?_
      refine j_iadd C dL_law_314 ?_
      refine j_sld C hX hbl hbA (i + 2) (nI_add _ _) (by omega) (by omega) dL_law_315 ?_
      refine j_callVF (wr := (oC Y ho (vp_updL lo0 0 (Int32.toInt64 (nI (dg P b0 d)))) :: (lwA Y ad P N a (sd P b0 d t) mv0 ru false cb al tr to fa se qu))) (st := []) C [.int (xs (i + 1)), .int (xs (i + 2))] [0, 1, 2, 3, 4, 5, 6, 7, 8, 9, 10] [11, 12, 13, 14, 15, 16, 17, 18, 19, 20, 21] (ct_X1_aim hc (s0 := nI st0) (ad := ad2) (P := P) (N := N) (a := a) (b := b0) (mv0 := mv0) (ru := ru) (cb := cb) (ba := ba) (nf := nf) (gf := gf) (fr := fr) (tt := tt) (th := th) (qd := qd) (lk := lk) (fa := fa2) (qu := qu2) (nb := nb)) rfl rfl rfl rfl (by decide) gw_L_77 nd_X1_aim 1 0 rfl rfl rfl ⟨by decide, by decide⟩ ⟨hk, hn⟩ (Nat.le_of_ble_eq_true rfl) dL_law_316 rfl (fun r w hp2 => ?_)
      obtain ⟨r6, rfl, hp2⟩ := hp2
      rcases hp2 with ⟨d2, t2, ex2, hd2, ey2, ht2, rfl, rfl⟩ | ⟨hf, _⟩
      · have e_d : d = d2 := nI_e (n := N) ex2 ex hd2 hd (by omega); subst e_d
        have e_t : t = t2 := nI_e (n := P) ey2 ey ht2 ht (by omega); subst e_t
        refine j_istore_6 C dL_law_319 (by decide) ?_
        refine j_aload_n C dL_law_321 rfl ?_
        refine j_callVF (wr := (oC Y ho (vp_updL lo0 0 (Int32.toInt64 (nI (dg P b0 d)))) :: (lwA Y ad P N a (sd P b0 d t) mv0 ru false cb al tr to fa se qu))) (st := []) C [] [11, 12, 13, 14, 15, 16, 17, 18, 19, 20, 21] [0, 1, 2, 3, 4, 5, 6, 7, 8, 9, 10] (ct_X1_thrown (ad := ad2) (th := (nI 0)) (p := nI P) (n := nI N) (ru := bi ru) (mc := nI mv0) (s0 := nI st0) (qd := qd) (nw := fun jj => nI (nf jj)) (gl := fun jj => nI ((updN gf d t) jj)) (co := fun jj => bi (cb jj)) (ba := fun jj => bi (ba jj)) (fr := fun jj => nI (fr jj)) (tt := fun jj => nI (tt jj)) (lk := lk) (fa := fa2) (qu := qu2) (nb := nb)) rfl rfl rfl rfl (by decide) gw_L_69 nd_X1_thrown 1 0 rfl rfl rfl ⟨by decide, by decide⟩ ⟨hk, hn⟩ (Nat.le_of_ble_eq_true rfl) dL_law_322 rfl (fun r w hp3 => ?_)
        obtain ⟨r7, rfl, rfl, rfl⟩ := hp3
        refine j_iload C dL_law_325 rfl ?_
        refine j_icmp_eq C 332 dL_law_327 (by decide) (fun _ => ?_) (fun c => absurd rfl c)
        refine j_iload C dL_law_332 rfl ?_
        refine j_if_ne C 349 dL_law_334 (by decide) (fun c => absurd rfl c) (fun _ => ?_)
        refine j_aload_n C dL_law_337 rfl ?_
        refine j_iconst C (nI 0) dL_law_338 (by decide) ?_
        refine j_lald C 0 rfl 0 rfl (by decide) (by decide) dL_law_339 ?_
        refine j_iload C dL_law_340 rfl ?_
        refine j_i2l C dL_law_342 ?_
        refine j_lcmp C dL_law_343 ?_
        refine j_top _ 0 (lw_cmp (by rw [hgf d hd])) ?_
        refine j_if_eq C 349 dL_law_344 (by decide) (fun _ => ?_) (fun c => absurd rfl c)
        refine j_goto C 1149 dL_law_349 (by decide) ?_
        exact nx _ _ _ (lwS_of (INV_aim I hd ht))
      · exact absurd (in_2 ex hd ey ht (by omega) (by omega)) (by rw [hf]; decide)
  · rcases hp with ⟨rfl, hf, rfl⟩
    · refine j_top _ (nI 1) (rfl) ?_
      refine j_istore_5 C dL_law_301 (by decide) ?_
      refine j_aload_n C dL_law_303 rfl ?_
      refine j_aload_n C dL_law_304 rfl ?_
      refine j_iload C dL_law_305 rfl ?_
      refine j_iconst C (nI 1) dL_law_307 (by decide) ?_
      refine j_iadd C dL_law_308 ?_
      refine j_sld C hX hbl hbA (i + 1) (nI_add _ _) (by omega) (by omega) dL_law_309 ?_
      refine j_aload_n C dL_law_310 rfl ?_
      refine j_iload C dL_law_311 rfl ?_
      refine j_iconst C (nI 2) dL_law_313 (by decide) ?_
      refine j_iadd C dL_law_314 ?_
      refine j_sld C hX hbl hbA (i + 2) (nI_add _ _) (by omega) (by omega) dL_law_315 ?_
      refine j_callVF (wr := (oC Y ho lo0 :: (lwA Y ad P N a b0 mv0 ru me cb al tr to fa se qu))) (st := []) C [.int (xs (i + 1)), .int (xs (i + 2))] [0, 1, 2, 3, 4, 5, 6, 7, 8, 9, 10] [11, 12, 13, 14, 15, 16, 17, 18, 19, 20, 21] (ct_X1_aim hc (s0 := nI st0) (ad := ad2) (P := P) (N := N) (a := a) (b := b0) (mv0 := mv0) (ru := ru) (cb := cb) (ba := ba) (nf := nf) (gf := gf) (fr := fr) (tt := tt) (th := th) (qd := qd) (lk := lk) (fa := fa2) (qu := qu2) (nb := nb)) rfl rfl rfl rfl (by decide) gw_L_77 nd_X1_aim 1 0 rfl rfl rfl ⟨by decide, by decide⟩ ⟨hk, hn⟩ (Nat.le_of_ble_eq_true rfl) dL_law_316 rfl (fun r w hp2 => ?_)
      obtain ⟨r6, rfl, hp2⟩ := hp2
      rcases hp2 with ⟨d2, t2, ex2, hd2, ey2, ht2, _, _⟩ | ⟨_, rfl⟩
      · exact absurd (in_2 ex2 hd2 ey2 ht2 (by omega) (by omega)) (by rw [hf]; decide)
      · refine j_istore_6 C dL_law_319 (by decide) ?_
        refine j_aload_n C dL_law_321 rfl ?_
        refine j_callVF (wr := (oC Y ho lo0 :: (lwA Y ad P N a b0 mv0 ru me cb al tr to fa se qu))) (st := []) C [] [11, 12, 13, 14, 15, 16, 17, 18, 19, 20, 21] [0, 1, 2, 3, 4, 5, 6, 7, 8, 9, 10] (ct_X1_thrown (ad := ad2) (th := (nI 1)) (p := nI P) (n := nI N) (ru := bi ru) (mc := nI mv0) (s0 := nI st0) (qd := qd) (nw := fun jj => nI (nf jj)) (gl := fun jj => nI (gf jj)) (co := fun jj => bi (cb jj)) (ba := fun jj => bi (ba jj)) (fr := fun jj => nI (fr jj)) (tt := fun jj => nI (tt jj)) (lk := lk) (fa := fa2) (qu := qu2) (nb := nb)) rfl rfl rfl rfl (by decide) gw_L_69 nd_X1_thrown 1 0 rfl rfl rfl ⟨by decide, by decide⟩ ⟨hk, hn⟩ (Nat.le_of_ble_eq_true rfl) dL_law_322 rfl (fun r w hp3 => ?_)
        obtain ⟨r7, rfl, rfl, rfl⟩ := hp3
        refine j_iload C dL_law_325 rfl ?_
        refine j_icmp_eq C 332 dL_law_327 (by decide) (fun _ => ?_) (fun c => absurd rfl c)
        refine j_iload C dL_law_332 rfl ?_
        refine j_if_ne C 349 dL_law_334 (by decide) (fun _ => ?_) (fun c => absurd c (by decide))
        refine j_goto C 1149 dL_law_349 (by decide) ?_
        exact nx _ _ _ (lwS_of (I))
set_option maxHeartbeats 4000000 in
set_option maxRecDepth 100000 in
theorem lc_allow {K : jk_T} {Y : jy_T} {ad ad2 : Nat → Nat} {ho b L i k n : Nat} {xs : Nat → Int32} (h : lwK K Y b L xs i k n) (nx : lwN K Y ad ad2 ho b i k n) {ws : va_W} (S : lwS Y ad ad2 ho ws) {l5 l6 : Option Value} : jJ K k n 352 (lwL ad ad2 ho b i l5 l6) [] ws := by
  obtain ⟨C, X, hfl, hX, hbl, hbA, hL, hi, hk, hn⟩ := h
  obtain ⟨lo0, P, N, a, b0, mv0, st0, ru, me, cb, al, ba, tr, nf, gf, fr, tt, to, fa, se, qu, th, qd, lk, fa2, qu2, nb, I, rfl⟩ := S
  obtain ⟨hc, ha, hb, hm0, hme, hba, hnf, hgf, htr, hst, hH⟩ := id I
  have hN6 : N ≤ 6 := hc.2.2.2
  have hP5 : P ≤ 5 := hc.2.1
  have hP3 : 3 ≤ P := hc.1
  have hP0 : 0 < P := by omega
  refine j_eq rfl rfl (show _ = (oC Y ho lo0 :: (lwA Y ad P N a b0 mv0 ru me cb al tr to fa se qu)) ++ (lwM Y ad2 P N mv0 st0 ru cb ba nf gf fr tt th qd lk fa2 qu2 nb) from rfl) ?_
  refine j_aload_n C dL_law_352 rfl ?_
  refine j_aload_n C dL_law_353 rfl ?_
  refine j_iload C dL_law_354 rfl ?_
  refine j_iconst C (nI 1) dL_law_356 (by decide) ?_
  refine j_iadd C dL_law_357 ?_
  refine j_sld C hX hbl hbA (i + 1) (nI_add _ _) (by omega) (by omega) dL_law_358 ?_
  refine j_aload_n C dL_law_359 rfl ?_
  refine j_iload C dL_law_360 rfl ?_
  refine j_iconst C (nI 2) dL_law_362 (by decide) ?_
  refine j_iadd C dL_law_363 ?_
  refine j_sld C hX hbl hbA (i + 2) (nI_add _ _) (by omega) (by omega) dL_law_364 ?_
  refine j_aload_n C dL_law_365 rfl ?_
  refine j_iload C dL_law_366 rfl ?_
  refine j_iconst C (nI 3) dL_law_368 (by decide) ?_
  refine j_iadd C dL_law_369 ?_
  refine j_sld C hX hbl hbA (i + 3) (nI_add _ _) (by omega) (by omega) dL_law_370 ?_
  refine j_bz C dL_law_371 dL_law_374 dL_law_375 dL_law_378 ?_
  refine j_aload_n C dL_law_379 rfl ?_
  refine j_callSW (wr := (lwM Y ad2 P N mv0 st0 ru cb ba nf gf fr tt th qd lk fa2 qu2 nb)) (st := []) C X [.ref (ad 0), .int (xs (i + 1)), .int (xs (i + 2)), .int (bi (xs (i + 3) != 0)), .ref ho] [0, 1, 2, 3, 4, 5, 6, 7, 8, 9, 10] [11, 12, 13, 14, 15, 16, 17, 18, 19, 20, 21] (ct_L_allow (lo0 := lo0) (ho := ho) (ct_X0_allow hc ha hb hfl (ad := ad) (P := P) (N := N) (a := a) (b := b0) (mv0 := mv0) (ru := ru) (me := me) (cb := cb) (al := al) (tr := tr) (to := to) (fa := fa) (se := se) (qu := qu) (sp := fun i => nI (spT i))) (fun E w q => q.2.elim (fun q => Or.inl q.1) (fun q => Or.inr q.1))) rfl rfl rfl rfl (by decide) gw_L_78 nd_L_allow ⟨by decide, by decide⟩ ⟨hk, hn⟩ (Nat.le_of_ble_eq_true rfl) dL_law_380 rfl (fun r w hp => ?_)
  obtain ⟨r5, rfl, hp⟩ := hp
  rcases hp with ⟨v, w1, rfl, hp, rfl⟩ | ⟨E, w1, rfl, hp, rfl⟩
  · rcases hp with ⟨f, t, ex, hf0, ey, ht, hne, rfl, rfl⟩
    · refine j_top _ (nI 0) (rfl) ?_
      refine j_istore_5 C dL_law_383 (by decide) ?_
      refine j_aload_n C dL_law_385 rfl ?_
      refine j_aload_n C dL_law_386 rfl ?_
      refine j_iload C dL_law_387 rfl ?_
      refine j_iconst C (nI 1) dL_law_389 (by decide) ?_
      refine j_iadd C dL_law_390 ?_
      refine j_sld C hX hbl hbA (i + 1) (nI_add _ _) (by omega) (by omega) dL_law_391 ?_
      refine j_aload_n C dL_law_392 rfl ?_
      refine j_iload C dL_law_393 rfl ?_
      refine j_iconst C (nI 2) dL_law_395 (by decide) ?_
      refine j_iadd C dL_law_396 ?_
      refine j_sld C hX hbl hbA (i + 2) (nI_add _ _) (by omega) (by omega) dL_law_397 ?_
      refine j_aload_n C dL_law_398 rfl ?_
      refine j_iload C dL_law_399 rfl ?_
      refine j_iconst C (nI 3) dL_law_401 (by decide) ?_
      refine j_iadd C dL_law_402 ?_
      refine j_sld C hX hbl hbA (i + 3) (nI_add _ _) (by omega) (by omega) dL_law_403 ?_
      refine j_bz C dL_law_404 dL_law_407 dL_law_408 dL_law_411 ?_
      refine j_callVF (wr := (oC Y ho (vp_updL lo0 0 (i2b (bi (al (f * 5 + t))))) :: (lwA Y ad P N a b0 mv0 ru false cb (va_up al (f * 5 + t) (xs (i + 3) != 0)) tr to fa se qu))) (st := []) C [.int (xs (i + 1)), .int (xs (i + 2)), .int (bi (xs (i + 3) != 0))] [0, 1, 2, 3, 4, 5, 6, 7, 8, 9, 10] [11, 12, 13, 14, 15, 16, 17, 18, 19, 20, 21] (ct_X1_allow hc (s0 := nI st0) (ad := ad2) (P := P) (N := N) (a := a) (b := b0) (mv0 := mv0) (ru := ru) (cb := cb) (ba := ba) (nf := nf) (gf := gf) (fr := fr) (tt := tt) (th := th) (qd := qd) (lk := lk) (fa := fa2) (qu := qu2) (nb := nb)) rfl rfl rfl rfl (by decide) gw_L_81 nd_X1_allow 1 0 rfl rfl rfl ⟨by decide, by decide⟩ ⟨hk, hn⟩ (Nat.le_of_ble_eq_true rfl) dL_law_412 rfl (fun r w hp2 => ?_)
      obtain ⟨r6, rfl, hp2⟩ := hp2
      rcases hp2 with ⟨f2, t2, ex2, hf2, ey2, ht2, _, rfl, rfl⟩ | ⟨hf, _⟩ | ⟨_, hxy, _⟩
      · have e_f : f = f2 := nI_e (n := P) ex2 ex hf2 hf0 (by omega); subst e_f
        have e_t : t = t2 := nI_e (n := P) ey2 ey ht2 ht (by omega); subst e_t
        refine j_istore_6 C dL_law_415 (by decide) ?_
        refine j_aload_n C dL_law_417 rfl ?_
        refine j_callVF (wr := (oC Y ho (vp_updL lo0 0 (i2b (bi (al (f * 5 + t))))) :: (lwA Y ad P N a b0 mv0 ru false cb (va_up al (f * 5 + t) (xs (i + 3) != 0)) tr to fa se qu))) (st := []) C [] [11, 12, 13, 14, 15, 16, 17, 18, 19, 20, 21] [0, 1, 2, 3, 4, 5, 6, 7, 8, 9, 10] (ct_X1_thrown (ad := ad2) (th := (nI 0)) (p := nI P) (n := nI N) (ru := bi ru) (mc := nI mv0) (s0 := nI st0) (qd := qd) (nw := fun jj => nI (nf jj)) (gl := fun jj => nI (gf jj)) (co := fun jj => bi (cb jj)) (ba := fun jj => bi ((va_up ba (f * 5 + t) (!(xs (i + 3) != 0))) jj)) (fr := fun jj => nI (fr jj)) (tt := fun jj => nI (tt jj)) (lk := lk) (fa := fa2) (qu := qu2) (nb := nb)) rfl rfl rfl rfl (by decide) gw_L_69 nd_X1_thrown 1 0 rfl rfl rfl ⟨by decide, by decide⟩ ⟨hk, hn⟩ (Nat.le_of_ble_eq_true rfl) dL_law_418 rfl (fun r w hp3 => ?_)
        obtain ⟨r7, rfl, rfl, rfl⟩ := hp3
        refine j_iload C dL_law_421 rfl ?_
        refine j_icmp_eq C 428 dL_law_423 (by decide) (fun _ => ?_) (fun c => absurd rfl c)
        refine j_iload C dL_law_428 rfl ?_
        refine j_if_ne C 452 dL_law_430 (by decide) (fun c => absurd rfl c) (fun _ => ?_)
        refine j_aload_n C dL_law_433 rfl ?_
        refine j_iconst C (nI 0) dL_law_434 (by decide) ?_
        refine j_lald C 0 rfl 0 rfl (by decide) (by decide) dL_law_435 ?_
        refine j_iload C dL_law_436 rfl ?_
        refine j_bl C dL_law_438 dL_law_441 dL_law_442 dL_law_445 ?_
        refine j_lcmp C dL_law_446 ?_
        refine j_top _ 0 (lw_cmpB (by rw [hba, Bool.not_not])) ?_
        refine j_if_eq C 452 dL_law_447 (by decide) (fun _ => ?_) (fun c => absurd rfl c)
        refine j_goto C 1149 dL_law_452 (by decide) ?_
        exact nx _ _ _ (lwS_of (INV_allow I))
      · exact absurd (in_2 ex hf0 ey ht (by omega) (by omega)) (by rw [hf]; decide)
      · exact absurd (nI_e (n := P) ey (hxy.symm.trans ex) ht hf0 (by omega)) hne
  · rcases hp with ⟨rfl, ⟨rfl, hf⟩ | ⟨rfl, ht0, hxy⟩⟩
    · refine j_top _ (nI 1) (by rw [if_pos rfl]) ?_
      refine j_istore_5 C dL_law_383 (by decide) ?_
      refine j_aload_n C dL_law_385 rfl ?_
      refine j_aload_n C dL_law_386 rfl ?_
      refine j_iload C dL_law_387 rfl ?_
      refine j_iconst C (nI 1) dL_law_389 (by decide) ?_
      refine j_iadd C dL_law_390 ?_
      refine j_sld C hX hbl hbA (i + 1) (nI_add _ _) (by omega) (by omega) dL_law_391 ?_
      refine j_aload_n C dL_law_392 rfl ?_
      refine j_iload C dL_law_393 rfl ?_
      refine j_iconst C (nI 2) dL_law_395 (by decide) ?_
      refine j_iadd C dL_law_396 ?_
      refine j_sld C hX hbl hbA (i + 2) (nI_add _ _) (by omega) (by omega) dL_law_397 ?_
      refine j_aload_n C dL_law_398 rfl ?_
      refine j_iload C dL_law_399 rfl ?_
      refine j_iconst C (nI 3) dL_law_401 (by decide) ?_
      refine j_iadd C dL_law_402 ?_
      refine j_sld C hX hbl hbA (i + 3) (nI_add _ _) (by omega) (by omega) dL_law_403 ?_
      refine j_bz C dL_law_404 dL_law_407 dL_law_408 dL_law_411 ?_
      refine j_callVF (wr := (oC Y ho lo0 :: (lwA Y ad P N a b0 mv0 ru me cb al tr to fa se qu))) (st := []) C [.int (xs (i + 1)), .int (xs (i + 2)), .int (bi (xs (i + 3) != 0))] [0, 1, 2, 3, 4, 5, 6, 7, 8, 9, 10] [11, 12, 13, 14, 15, 16, 17, 18, 19, 20, 21] (ct_X1_allow hc (s0 := nI st0) (ad := ad2) (P := P) (N := N) (a := a) (b := b0) (mv0 := mv0) (ru := ru) (cb := cb) (ba := ba) (nf := nf) (gf := gf) (fr := fr) (tt := tt) (th := th) (qd := qd) (lk := lk) (fa := fa2) (qu := qu2) (nb := nb)) rfl rfl rfl rfl (by decide) gw_L_81 nd_X1_allow 1 0 rfl rfl rfl ⟨by decide, by decide⟩ ⟨hk, hn⟩ (Nat.le_of_ble_eq_true rfl) dL_law_412 rfl (fun r w hp2 => ?_)
      obtain ⟨r6, rfl, hp2⟩ := hp2
      rcases hp2 with ⟨d2, t2, ex2, hd2, ey2, ht2, _, _, _⟩ | ⟨_, rfl⟩ | ⟨h3, _, _⟩
      · exact absurd (in_2 ex2 hd2 ey2 ht2 (by omega) (by omega)) (by rw [hf]; decide)
      · refine j_istore_6 C dL_law_415 (by decide) ?_
        refine j_aload_n C dL_law_417 rfl ?_
        refine j_callVF (wr := (oC Y ho lo0 :: (lwA Y ad P N a b0 mv0 ru me cb al tr to fa se qu))) (st := []) C [] [11, 12, 13, 14, 15, 16, 17, 18, 19, 20, 21] [0, 1, 2, 3, 4, 5, 6, 7, 8, 9, 10] (ct_X1_thrown (ad := ad2) (th := (nI 1)) (p := nI P) (n := nI N) (ru := bi ru) (mc := nI mv0) (s0 := nI st0) (qd := qd) (nw := fun jj => nI (nf jj)) (gl := fun jj => nI (gf jj)) (co := fun jj => bi (cb jj)) (ba := fun jj => bi (ba jj)) (fr := fun jj => nI (fr jj)) (tt := fun jj => nI (tt jj)) (lk := lk) (fa := fa2) (qu := qu2) (nb := nb)) rfl rfl rfl rfl (by decide) gw_L_69 nd_X1_thrown 1 0 rfl rfl rfl ⟨by decide, by decide⟩ ⟨hk, hn⟩ (Nat.le_of_ble_eq_true rfl) dL_law_418 rfl (fun r w hp3 => ?_)
        obtain ⟨r7, rfl, rfl, rfl⟩ := hp3
        refine j_iload C dL_law_421 rfl ?_
        refine j_icmp_eq C 428 dL_law_423 (by decide) (fun _ => ?_) (fun c => absurd rfl c)
        refine j_iload C dL_law_428 rfl ?_
        refine j_if_ne C 452 dL_law_430 (by decide) (fun _ => ?_) (fun c => absurd c (by decide))
        refine j_goto C 1149 dL_law_452 (by decide) ?_
        exact nx _ _ _ (lwS_of (I))
      · exact absurd (hf.symm.trans h3) (by decide)
    · refine j_top _ (nI 2) (by rw [if_neg (by decide +kernel)]) ?_
      refine j_istore_5 C dL_law_383 (by decide) ?_
      refine j_aload_n C dL_law_385 rfl ?_
      refine j_aload_n C dL_law_386 rfl ?_
      refine j_iload C dL_law_387 rfl ?_
      refine j_iconst C (nI 1) dL_law_389 (by decide) ?_
      refine j_iadd C dL_law_390 ?_
      refine j_sld C hX hbl hbA (i + 1) (nI_add _ _) (by omega) (by omega) dL_law_391 ?_
      refine j_aload_n C dL_law_392 rfl ?_
      refine j_iload C dL_law_393 rfl ?_
      refine j_iconst C (nI 2) dL_law_395 (by decide) ?_
      refine j_iadd C dL_law_396 ?_
      refine j_sld C hX hbl hbA (i + 2) (nI_add _ _) (by omega) (by omega) dL_law_397 ?_
      refine j_aload_n C dL_law_398 rfl ?_
      refine j_iload C dL_law_399 rfl ?_
      refine j_iconst C (nI 3) dL_law_401 (by decide) ?_
      refine j_iadd C dL_law_402 ?_
      refine j_sld C hX hbl hbA (i + 3) (nI_add _ _) (by omega) (by omega) dL_law_403 ?_
      refine j_bz C dL_law_404 dL_law_407 dL_law_408 dL_law_411 ?_
      refine j_callVF (wr := (oC Y ho lo0 :: (lwA Y ad P N a b0 mv0 ru me cb al tr to fa se qu))) (st := []) C [.int (xs (i + 1)), .int (xs (i + 2)), .int (bi (xs (i + 3) != 0))] [0, 1, 2, 3, 4, 5, 6, 7, 8, 9, 10] [11, 12, 13, 14, 15, 16, 17, 18, 19, 20, 21] (ct_X1_allow hc (s0 := nI st0) (ad := ad2) (P := P) (N := N) (a := a) (b := b0) (mv0 := mv0) (ru := ru) (cb := cb) (ba := ba) (nf := nf) (gf := gf) (fr := fr) (tt := tt) (th := th) (qd := qd) (lk := lk) (fa := fa2) (qu := qu2) (nb := nb)) rfl rfl rfl rfl (by decide) gw_L_81 nd_X1_allow 1 0 rfl rfl rfl ⟨by decide, by decide⟩ ⟨hk, hn⟩ (Nat.le_of_ble_eq_true rfl) dL_law_412 rfl (fun r w hp2 => ?_)
      obtain ⟨r6, rfl, hp2⟩ := hp2
      rcases hp2 with ⟨f2, t2, ex2, hf2, ey2, ht2, hne, _, _⟩ | ⟨hf, _⟩ | ⟨_, _, rfl⟩
      · exact absurd (nI_e (n := P) ey2 (hxy.symm.trans ex2) ht2 hf2 (by omega)) hne
      · exact absurd (hf.symm.trans ht0) (by decide)
      · refine j_istore_6 C dL_law_415 (by decide) ?_
        refine j_aload_n C dL_law_417 rfl ?_
        refine j_callVF (wr := (oC Y ho lo0 :: (lwA Y ad P N a b0 mv0 ru me cb al tr to fa se qu))) (st := []) C [] [11, 12, 13, 14, 15, 16, 17, 18, 19, 20, 21] [0, 1, 2, 3, 4, 5, 6, 7, 8, 9, 10] (ct_X1_thrown (ad := ad2) (th := (nI 2)) (p := nI P) (n := nI N) (ru := bi ru) (mc := nI mv0) (s0 := nI st0) (qd := qd) (nw := fun jj => nI (nf jj)) (gl := fun jj => nI (gf jj)) (co := fun jj => bi (cb jj)) (ba := fun jj => bi (ba jj)) (fr := fun jj => nI (fr jj)) (tt := fun jj => nI (tt jj)) (lk := lk) (fa := fa2) (qu := qu2) (nb := nb)) rfl rfl rfl rfl (by decide) gw_L_69 nd_X1_thrown 1 0 rfl rfl rfl ⟨by decide, by decide⟩ ⟨hk, hn⟩ (Nat.le_of_ble_eq_true rfl) dL_law_418 rfl (fun r w hp3 => ?_)
        obtain ⟨r7, rfl, rfl, rfl⟩ := hp3
        refine j_iload C dL_law_421 rfl ?_
        refine j_icmp_eq C 428 dL_law_423 (by decide) (fun _ => ?_) (fun c => absurd rfl c)
        refine j_iload C dL_law_428 rfl ?_
        refine j_if_ne C 452 dL_law_430 (by decide) (fun _ => ?_) (fun c => absurd c (by decide))
        refine j_goto C 1149 dL_law_452 (by decide) ?_
        exact nx _ _ _ (lwS_of (I))
set_option maxHeartbeats 4000000 in
set_option maxRecDepth 100000 in
theorem lc_setColour {K : jk_T} {Y : jy_T} {ad ad2 : Nat → Nat} {ho b L i k n : Nat} {xs : Nat → Int32} (h : lwK K Y b L xs i k n) (nx : lwN K Y ad ad2 ho b i k n) {ws : va_W} (S : lwS Y ad ad2 ho ws) {l5 l6 : Option Value} : jJ K k n 455 (lwL ad ad2 ho b i l5 l6) [] ws := by
  obtain ⟨C, X, hfl, hX, hbl, hbA, hL, hi, hk, hn⟩ := h
  obtain ⟨lo0, P, N, a, b0, mv0, st0, ru, me, cb, al, ba, tr, nf, gf, fr, tt, to, fa, se, qu, th, qd, lk, fa2, qu2, nb, I, rfl⟩ := S
  obtain ⟨hc, ha, hb, hm0, hme, hba, hnf, hgf, htr, hst, hH⟩ := id I
  have hN6 : N ≤ 6 := hc.2.2.2
  have hP5 : P ≤ 5 := hc.2.1
  have hP3 : 3 ≤ P := hc.1
  have hP0 : 0 < P := by omega
  refine j_eq rfl rfl (show _ = (oC Y ho lo0 :: (lwA Y ad P N a b0 mv0 ru me cb al tr to fa se qu)) ++ (lwM Y ad2 P N mv0 st0 ru cb ba nf gf fr tt th qd lk fa2 qu2 nb) from rfl) ?_
  refine j_aload_n C dL_law_455 rfl ?_
  refine j_aload_n C dL_law_456 rfl ?_
  refine j_iload C dL_law_457 rfl ?_
  refine j_iconst C (nI 1) dL_law_459 (by decide) ?_
  refine j_iadd C dL_law_460 ?_
  refine j_sld C hX hbl hbA (i + 1) (nI_add _ _) (by omega) (by omega) dL_law_461 ?_
  refine j_aload_n C dL_law_462 rfl ?_
  refine j_iload C dL_law_463 rfl ?_
  refine j_iconst C (nI 2) dL_law_465 (by decide) ?_
  refine j_iadd C dL_law_466 ?_
  refine j_sld C hX hbl hbA (i + 2) (nI_add _ _) (by omega) (by omega) dL_law_467 ?_
  refine j_aload_n C dL_law_468 rfl ?_
  refine j_callSW (wr := (lwM Y ad2 P N mv0 st0 ru cb ba nf gf fr tt th qd lk fa2 qu2 nb)) (st := []) C X [.ref (ad 0), .int (xs (i + 1)), .int (xs (i + 2)), .ref ho] [0, 1, 2, 3, 4, 5, 6, 7, 8, 9, 10] [11, 12, 13, 14, 15, 16, 17, 18, 19, 20, 21] (ct_L_setColour (lo0 := lo0) (ho := ho) (ct_X0_setColour hc ha hb hfl (ad := ad) (P := P) (N := N) (a := a) (b := b0) (mv0 := mv0) (ru := ru) (me := me) (cb := cb) (al := al) (tr := tr) (to := to) (fa := fa) (se := se) (qu := qu) (sp := fun i => nI (spT i))) (fun E w q => q.2.elim (fun q => Or.inl q.1) (fun q => Or.inr q.1))) rfl rfl rfl rfl (by decide) gw_L_82 nd_L_setColour ⟨by decide, by decide⟩ ⟨hk, hn⟩ (Nat.le_of_ble_eq_true rfl) dL_law_469 rfl (fun r w hp => ?_)
  obtain ⟨r5, rfl, hp⟩ := hp
  rcases hp with ⟨v, w1, rfl, hp, rfl⟩ | ⟨E, w1, rfl, hp, rfl⟩
  · rcases hp with ⟨d, z, ex, hd, ey, hr, rfl, rfl⟩
    · refine j_top _ (nI 0) (rfl) ?_
      refine j_istore_5 C dL_law_472 (by decide) ?_
      refine j_aload_n C dL_law_474 rfl ?_
      refine j_aload_n C dL_law_475 rfl ?_
      refine j_iload C dL_law_476 rfl ?_
      refine j_iconst C (nI 1) dL_law_478 (by decide) ?_
      refine j_iadd C dL_law_479 ?_
      refine j_sld C hX hbl hbA (i + 1) (nI_add _ _) (by omega) (by omega) dL_law_480 ?_
      refine j_aload_n C dL_law_481 rfl ?_
      refine j_iload C dL_law_482 rfl ?_
      refine j_iconst C (nI 2) dL_law_484 (by decide) ?_
      refine j_iadd C dL_law_485 ?_
      refine j_sld C hX hbl hbA (i + 2) (nI_add _ _) (by omega) (by omega) dL_law_486 ?_
      refine j_callVF (wr := (oC Y ho (vp_updL lo0 0 (Int32.toInt64 (bi (cb d)))) :: (lwA Y ad P N a b0 mv0 ru false (va_up cb d z) al tr to fa se qu))) (st := []) C [.int (xs (i + 1)), .int (xs (i + 2))] [0, 1, 2, 3, 4, 5, 6, 7, 8, 9, 10] [11, 12, 13, 14, 15, 16, 17, 18, 19, 20, 21] (ct_X1_setColour hc (s0 := nI st0) (ad := ad2) (P := P) (N := N) (a := a) (b := b0) (mv0 := mv0) (ru := ru) (cb := cb) (ba := ba) (nf := nf) (gf := gf) (fr := fr) (tt := tt) (th := th) (qd := qd) (lk := lk) (fa := fa2) (qu := qu2) (nb := nb)) rfl rfl rfl rfl (by decide) gw_L_84 nd_X1_setColour 1 0 rfl rfl rfl ⟨by decide, by decide⟩ ⟨hk, hn⟩ (Nat.le_of_ble_eq_true rfl) dL_law_487 rfl (fun r w hp2 => ?_)
      obtain ⟨r6, rfl, hp2⟩ := hp2
      rcases hp2 with ⟨d2, z2, ex2, hd2, ey2, rfl, rfl⟩ | ⟨hf, _⟩ | ⟨_, hr2, _⟩
      · have e_d : d = d2 := nI_e (n := N) ex2 ex hd2 hd (by omega); subst e_d
        have e2 : z = z2 := bi_inj.mp (ey.symm.trans ey2); subst e2
        refine j_istore_6 C dL_law_490 (by decide) ?_
        refine j_aload_n C dL_law_492 rfl ?_
        refine j_callVF (wr := (oC Y ho (vp_updL lo0 0 (Int32.toInt64 (bi (cb d)))) :: (lwA Y ad P N a b0 mv0 ru false (va_up cb d z) al tr to fa se qu))) (st := []) C [] [11, 12, 13, 14, 15, 16, 17, 18, 19, 20, 21] [0, 1, 2, 3, 4, 5, 6, 7, 8, 9, 10] (ct_X1_thrown (ad := ad2) (th := (nI 0)) (p := nI P) (n := nI N) (ru := bi ru) (mc := nI mv0) (s0 := nI st0) (qd := qd) (nw := fun jj => nI (nf jj)) (gl := fun jj => nI (gf jj)) (co := fun jj => bi ((va_up cb d z) jj)) (ba := fun jj => bi (ba jj)) (fr := fun jj => nI (fr jj)) (tt := fun jj => nI (tt jj)) (lk := lk) (fa := fa2) (qu := qu2) (nb := nb)) rfl rfl rfl rfl (by decide) gw_L_69 nd_X1_thrown 1 0 rfl rfl rfl ⟨by decide, by decide⟩ ⟨hk, hn⟩ (Nat.le_of_ble_eq_true rfl) dL_law_493 rfl (fun r w hp3 => ?_)
        obtain ⟨r7, rfl, rfl, rfl⟩ := hp3
        refine j_iload C dL_law_496 rfl ?_
        refine j_icmp_eq C 503 dL_law_498 (by decide) (fun _ => ?_) (fun c => absurd rfl c)
        refine j_iload C dL_law_503 rfl ?_
        refine j_if_ne C 520 dL_law_505 (by decide) (fun c => absurd rfl c) (fun _ => ?_)
        refine j_aload_n C dL_law_508 rfl ?_
        refine j_iconst C (nI 0) dL_law_509 (by decide) ?_
        refine j_lald C 0 rfl 0 rfl (by decide) (by decide) dL_law_510 ?_
        refine j_iload C dL_law_511 rfl ?_
        refine j_i2l C dL_law_513 ?_
        refine j_lcmp C dL_law_514 ?_
        refine j_top _ 0 (lw_cmp (rfl)) ?_
        refine j_if_eq C 520 dL_law_515 (by decide) (fun _ => ?_) (fun c => absurd rfl c)
        refine j_goto C 1149 dL_law_520 (by decide) ?_
        exact nx _ _ _ (lwS_of (INV_rule I))
      · exact absurd (in_t ex hd (by omega)) (by rw [hf]; decide)
      · exact absurd (hr2.symm.trans hr) (by decide)
  · rcases hp with ⟨rfl, ⟨rfl, hf⟩ | ⟨rfl, ht0, hr⟩⟩
    · refine j_top _ (nI 1) (by rw [if_pos rfl]) ?_
      refine j_istore_5 C dL_law_472 (by decide) ?_
      refine j_aload_n C dL_law_474 rfl ?_
      refine j_aload_n C dL_law_475 rfl ?_
      refine j_iload C dL_law_476 rfl ?_
      refine j_iconst C (nI 1) dL_law_478 (by decide) ?_
      refine j_iadd C dL_law_479 ?_
      refine j_sld C hX hbl hbA (i + 1) (nI_add _ _) (by omega) (by omega) dL_law_480 ?_
      refine j_aload_n C dL_law_481 rfl ?_
      refine j_iload C dL_law_482 rfl ?_
      refine j_iconst C (nI 2) dL_law_484 (by decide) ?_
      refine j_iadd C dL_law_485 ?_
      refine j_sld C hX hbl hbA (i + 2) (nI_add _ _) (by omega) (by omega) dL_law_486 ?_
      refine j_callVF (wr := (oC Y ho lo0 :: (lwA Y ad P N a b0 mv0 ru me cb al tr to fa se qu))) (st := []) C [.int (xs (i + 1)), .int (xs (i + 2))] [0, 1, 2, 3, 4, 5, 6, 7, 8, 9, 10] [11, 12, 13, 14, 15, 16, 17, 18, 19, 20, 21] (ct_X1_setColour hc (s0 := nI st0) (ad := ad2) (P := P) (N := N) (a := a) (b := b0) (mv0 := mv0) (ru := ru) (cb := cb) (ba := ba) (nf := nf) (gf := gf) (fr := fr) (tt := tt) (th := th) (qd := qd) (lk := lk) (fa := fa2) (qu := qu2) (nb := nb)) rfl rfl rfl rfl (by decide) gw_L_84 nd_X1_setColour 1 0 rfl rfl rfl ⟨by decide, by decide⟩ ⟨hk, hn⟩ (Nat.le_of_ble_eq_true rfl) dL_law_487 rfl (fun r w hp2 => ?_)
      obtain ⟨r6, rfl, hp2⟩ := hp2
      rcases hp2 with ⟨d2, z2, ex2, hd2, _⟩ | ⟨_, rfl⟩ | ⟨h3, _, _⟩
      · exact absurd (in_t ex2 hd2 (by omega)) (by rw [hf]; decide)
      · refine j_istore_6 C dL_law_490 (by decide) ?_
        refine j_aload_n C dL_law_492 rfl ?_
        refine j_callVF (wr := (oC Y ho lo0 :: (lwA Y ad P N a b0 mv0 ru me cb al tr to fa se qu))) (st := []) C [] [11, 12, 13, 14, 15, 16, 17, 18, 19, 20, 21] [0, 1, 2, 3, 4, 5, 6, 7, 8, 9, 10] (ct_X1_thrown (ad := ad2) (th := (nI 1)) (p := nI P) (n := nI N) (ru := bi ru) (mc := nI mv0) (s0 := nI st0) (qd := qd) (nw := fun jj => nI (nf jj)) (gl := fun jj => nI (gf jj)) (co := fun jj => bi (cb jj)) (ba := fun jj => bi (ba jj)) (fr := fun jj => nI (fr jj)) (tt := fun jj => nI (tt jj)) (lk := lk) (fa := fa2) (qu := qu2) (nb := nb)) rfl rfl rfl rfl (by decide) gw_L_69 nd_X1_thrown 1 0 rfl rfl rfl ⟨by decide, by decide⟩ ⟨hk, hn⟩ (Nat.le_of_ble_eq_true rfl) dL_law_493 rfl (fun r w hp3 => ?_)
        obtain ⟨r7, rfl, rfl, rfl⟩ := hp3
        refine j_iload C dL_law_496 rfl ?_
        refine j_icmp_eq C 503 dL_law_498 (by decide) (fun _ => ?_) (fun c => absurd rfl c)
        refine j_iload C dL_law_503 rfl ?_
        refine j_if_ne C 520 dL_law_505 (by decide) (fun _ => ?_) (fun c => absurd c (by decide))
        refine j_goto C 1149 dL_law_520 (by decide) ?_
        exact nx _ _ _ (lwS_of (I))
      · exact absurd (hf.symm.trans h3) (by decide)
    · refine j_top _ (nI 2) (by rw [if_neg (by decide +kernel)]) ?_
      refine j_istore_5 C dL_law_472 (by decide) ?_
      refine j_aload_n C dL_law_474 rfl ?_
      refine j_aload_n C dL_law_475 rfl ?_
      refine j_iload C dL_law_476 rfl ?_
      refine j_iconst C (nI 1) dL_law_478 (by decide) ?_
      refine j_iadd C dL_law_479 ?_
      refine j_sld C hX hbl hbA (i + 1) (nI_add _ _) (by omega) (by omega) dL_law_480 ?_
      refine j_aload_n C dL_law_481 rfl ?_
      refine j_iload C dL_law_482 rfl ?_
      refine j_iconst C (nI 2) dL_law_484 (by decide) ?_
      refine j_iadd C dL_law_485 ?_
      refine j_sld C hX hbl hbA (i + 2) (nI_add _ _) (by omega) (by omega) dL_law_486 ?_
      refine j_callVF (wr := (oC Y ho lo0 :: (lwA Y ad P N a b0 mv0 ru me cb al tr to fa se qu))) (st := []) C [.int (xs (i + 1)), .int (xs (i + 2))] [0, 1, 2, 3, 4, 5, 6, 7, 8, 9, 10] [11, 12, 13, 14, 15, 16, 17, 18, 19, 20, 21] (ct_X1_setColour hc (s0 := nI st0) (ad := ad2) (P := P) (N := N) (a := a) (b := b0) (mv0 := mv0) (ru := ru) (cb := cb) (ba := ba) (nf := nf) (gf := gf) (fr := fr) (tt := tt) (th := th) (qd := qd) (lk := lk) (fa := fa2) (qu := qu2) (nb := nb)) rfl rfl rfl rfl (by decide) gw_L_84 nd_X1_setColour 1 0 rfl rfl rfl ⟨by decide, by decide⟩ ⟨hk, hn⟩ (Nat.le_of_ble_eq_true rfl) dL_law_487 rfl (fun r w hp2 => ?_)
      obtain ⟨r6, rfl, hp2⟩ := hp2
      rcases hp2 with ⟨d2, z2, ex2, hd2, ey2, _, _⟩ | ⟨hf, _⟩ | ⟨_, _, rfl⟩
      · rw [ey2] at hr
        exact absurd hr (by cases z2 <;> decide)
      · exact absurd (hf.symm.trans ht0) (by decide)
      · refine j_istore_6 C dL_law_490 (by decide) ?_
        refine j_aload_n C dL_law_492 rfl ?_
        refine j_callVF (wr := (oC Y ho lo0 :: (lwA Y ad P N a b0 mv0 ru me cb al tr to fa se qu))) (st := []) C [] [11, 12, 13, 14, 15, 16, 17, 18, 19, 20, 21] [0, 1, 2, 3, 4, 5, 6, 7, 8, 9, 10] (ct_X1_thrown (ad := ad2) (th := (nI 2)) (p := nI P) (n := nI N) (ru := bi ru) (mc := nI mv0) (s0 := nI st0) (qd := qd) (nw := fun jj => nI (nf jj)) (gl := fun jj => nI (gf jj)) (co := fun jj => bi (cb jj)) (ba := fun jj => bi (ba jj)) (fr := fun jj => nI (fr jj)) (tt := fun jj => nI (tt jj)) (lk := lk) (fa := fa2) (qu := qu2) (nb := nb)) rfl rfl rfl rfl (by decide) gw_L_69 nd_X1_thrown 1 0 rfl rfl rfl ⟨by decide, by decide⟩ ⟨hk, hn⟩ (Nat.le_of_ble_eq_true rfl) dL_law_493 rfl (fun r w hp3 => ?_)
        obtain ⟨r7, rfl, rfl, rfl⟩ := hp3
        refine j_iload C dL_law_496 rfl ?_
        refine j_icmp_eq C 503 dL_law_498 (by decide) (fun _ => ?_) (fun c => absurd rfl c)
        refine j_iload C dL_law_503 rfl ?_
        refine j_if_ne C 520 dL_law_505 (by decide) (fun _ => ?_) (fun c => absurd c (by decide))
        refine j_goto C 1149 dL_law_520 (by decide) ?_
        exact nx _ _ _ (lwS_of (I))
set_option maxHeartbeats 4000000 in
set_option maxRecDepth 100000 in
theorem lc_setRule {K : jk_T} {Y : jy_T} {ad ad2 : Nat → Nat} {ho b L i k n : Nat} {xs : Nat → Int32} (h : lwK K Y b L xs i k n) (nx : lwN K Y ad ad2 ho b i k n) {ws : va_W} (S : lwS Y ad ad2 ho ws) {l5 l6 : Option Value} : jJ K k n 523 (lwL ad ad2 ho b i l5 l6) [] ws := by
  obtain ⟨C, X, hfl, hX, hbl, hbA, hL, hi, hk, hn⟩ := h
  obtain ⟨lo0, P, N, a, b0, mv0, st0, ru, me, cb, al, ba, tr, nf, gf, fr, tt, to, fa, se, qu, th, qd, lk, fa2, qu2, nb, I, rfl⟩ := S
  obtain ⟨hc, ha, hb, hm0, hme, hba, hnf, hgf, htr, hst, hH⟩ := id I
  have hN6 : N ≤ 6 := hc.2.2.2
  have hP5 : P ≤ 5 := hc.2.1
  have hP3 : 3 ≤ P := hc.1
  have hP0 : 0 < P := by omega
  refine j_eq rfl rfl (show _ = (oC Y ho lo0 :: (lwA Y ad P N a b0 mv0 ru me cb al tr to fa se qu)) ++ (lwM Y ad2 P N mv0 st0 ru cb ba nf gf fr tt th qd lk fa2 qu2 nb) from rfl) ?_
  refine j_aload_n C dL_law_523 rfl ?_
  refine j_aload_n C dL_law_524 rfl ?_
  refine j_iload C dL_law_525 rfl ?_
  refine j_iconst C (nI 1) dL_law_527 (by decide) ?_
  refine j_iadd C dL_law_528 ?_
  refine j_sld C hX hbl hbA (i + 1) (nI_add _ _) (by omega) (by omega) dL_law_529 ?_
  refine j_bz C dL_law_530 dL_law_533 dL_law_534 dL_law_537 ?_
  refine j_callVF (wr := oC Y ho lo0 :: (lwM Y ad2 P N mv0 st0 ru cb ba nf gf fr tt th qd lk fa2 qu2 nb)) (st := []) C [.int (bi (xs (i + 1) != 0))] [1, 2, 3, 4, 5, 6, 7, 8, 9, 10] [0, 11, 12, 13, 14, 15, 16, 17, 18, 19, 20, 21] (ct_X0_setRule  (ad := ad) (ru := ru) (me := me) (on := (xs (i + 1) != 0)) (p := nI P) (n := nI N) (nw := nI a) (tg := nI b0) (mc := nI mv0) (we := fun d => nI (P ^ d)) (co := fun d => bi (cb d)) (al := fun k => bi (al k)) (tr := fun k => nI (tr k)) (to := to) (fa := fa) (se := se) (qu := qu) (sp := fun i => nI (spT i))) rfl rfl rfl rfl (by decide) gw_L_85 nd_X0_setRule 0 0 rfl rfl rfl ⟨by decide, by decide⟩ ⟨by show k + 0 ≤ 601024; omega, by show n + 0 ≤ 7293034; omega⟩ (Nat.le_of_ble_eq_true rfl) dL_law_538 rfl (fun r w hp => ?_)
  obtain ⟨r5, rfl, hp⟩ := hp
  obtain ⟨rfl, rfl⟩ := hp
  refine j_aload_n C dL_law_541 rfl ?_
  refine j_aload_n C dL_law_542 rfl ?_
  refine j_iload C dL_law_543 rfl ?_
  refine j_iconst C (nI 1) dL_law_545 (by decide) ?_
  refine j_iadd C dL_law_546 ?_
  refine j_sld C hX hbl hbA (i + 1) (nI_add _ _) (by omega) (by omega) dL_law_547 ?_
  refine j_bz C dL_law_548 dL_law_551 dL_law_552 dL_law_555 ?_
  refine j_callVF (wr := oC Y ho lo0 :: (lwA Y ad P N a b0 mv0 (xs (i + 1) != 0) false cb al tr to fa se qu)) (st := [_]) C [.int (bi (xs (i + 1) != 0))] [1, 2, 3, 4, 5, 6, 7, 8, 9, 10, 11] [0, 12, 13, 14, 15, 16, 17, 18, 19, 20, 21] (ct_X1_setRule  (s0 := nI st0) (ad := ad2) (P := P) (N := N) (a := a) (b := b0) (mv0 := mv0) (ru := ru) (cb := cb) (ba := ba) (nf := nf) (gf := gf) (fr := fr) (tt := tt) (th := th) (qd := qd) (lk := lk) (fa := fa2) (qu := qu2) (nb := nb) (on := (xs (i + 1) != 0))) rfl rfl rfl rfl (by decide) gw_L_89 nd_X1_setRule 1 0 rfl rfl rfl ⟨by decide, by decide⟩ ⟨by show k + 0 + 0 ≤ 601024; omega, by show n + 0 + 0 ≤ 7293034; omega⟩ (Nat.le_of_ble_eq_true rfl) dL_law_556 rfl (fun r w hp => ?_)
  obtain ⟨r6, rfl, hp⟩ := hp
  obtain ⟨rfl, rfl⟩ := hp
  refine j_icmp_eq C 1149 dL_law_559 (by decide) (fun _ => ?_) (fun c => absurd (rfl) c)
  refine j_widen (Nat.le_succ k) (Nat.le_add_right n 6) ?_
  exact nx _ _ _ (lwS_of (INV_rule I))
set_option maxHeartbeats 4000000 in
set_option maxRecDepth 100000 in
theorem lc_move {K : jk_T} {Y : jy_T} {ad ad2 : Nat → Nat} {ho b L i k n : Nat} {xs : Nat → Int32} (h : lwK K Y b L xs i k n) (nx : lwN K Y ad ad2 ho b i k n) {ws : va_W} (S : lwS Y ad ad2 ho ws) {l5 l6 : Option Value} : jJ K k n 564 (lwL ad ad2 ho b i l5 l6) [] ws := by
  obtain ⟨C, X, hfl, hX, hbl, hbA, hL, hi, hk, hn⟩ := h
  obtain ⟨lo0, P, N, a, b0, mv0, st0, ru, me, cb, al, ba, tr, nf, gf, fr, tt, to, fa, se, qu, th, qd, lk, fa2, qu2, nb, I, rfl⟩ := S
  obtain ⟨hc, ha, hb, hm0, hme, hba, hnf, hgf, htr, hst, hH⟩ := id I
  have hN6 : N ≤ 6 := hc.2.2.2
  have hP5 : P ≤ 5 := hc.2.1
  have hP3 : 3 ≤ P := hc.1
  have hP0 : 0 < P := by omega
  refine j_eq rfl rfl (show _ = (oC Y ho lo0 :: (lwA Y ad P N a b0 mv0 ru me cb al tr to fa se qu)) ++ (lwM Y ad2 P N mv0 st0 ru cb ba nf gf fr tt th qd lk fa2 qu2 nb) from rfl) ?_
  refine j_aload_n C dL_law_564 rfl ?_
  refine j_aload_n C dL_law_565 rfl ?_
  refine j_iload C dL_law_566 rfl ?_
  refine j_iconst C (nI 1) dL_law_568 (by decide) ?_
  refine j_iadd C dL_law_569 ?_
  refine j_sld C hX hbl hbA (i + 1) (nI_add _ _) (by omega) (by omega) dL_law_570 ?_
  refine j_aload_n C dL_law_571 rfl ?_
  refine j_iload C dL_law_572 rfl ?_
  refine j_iconst C (nI 2) dL_law_574 (by decide) ?_
  refine j_iadd C dL_law_575 ?_
  refine j_sld C hX hbl hbA (i + 2) (nI_add _ _) (by omega) (by omega) dL_law_576 ?_
  refine j_aload_n C dL_law_577 rfl ?_
  refine j_callSW (wr := (lwM Y ad2 P N mv0 st0 ru cb ba nf gf fr tt th qd lk fa2 qu2 nb)) (st := []) C X [.ref (ad 0), .int (xs (i + 1)), .int (xs (i + 2)), .ref ho] [0, 1, 2, 3, 4, 5, 6, 7, 8, 9, 10] [11, 12, 13, 14, 15, 16, 17, 18, 19, 20, 21] (ct_L_move (lo0 := lo0) (ho := ho) (ct_X0_move hc ha hb hm0 hfl (ad := ad) (P := P) (N := N) (a := a) (b := b0) (mv0 := mv0) (ru := ru) (me := me) (cb := cb) (al := al) (tr := tr) (to := to) (fa := fa) (se := se) (qu := qu) (sp := fun i => nI (spT i))) (fun E w q => q.elim (fun q => Or.inl q.1) (fun q => Or.inr q.1))) rfl rfl rfl rfl (by decide) gw_L_90 nd_L_move ⟨by decide, by decide⟩ ⟨hk, hn⟩ (Nat.le_of_ble_eq_true rfl) dL_law_578 rfl (fun r w hp => ?_)
  obtain ⟨r5, rfl, hp⟩ := hp
  rcases hp with ⟨v, w1, rfl, hp, rfl⟩ | ⟨E, w1, rfl, hp, rfl⟩
  · rcases hp with ⟨f, t, d, to1, ex, hf0, ey, ht, hlt, hps, hd, rfl, rfl⟩
    · refine j_top _ (nI 0) (rfl) ?_
      refine j_istore_5 C dL_law_581 (by decide) ?_
      refine j_aload_n C dL_law_583 rfl ?_
      refine j_aload_n C dL_law_584 rfl ?_
      refine j_iload C dL_law_585 rfl ?_
      refine j_iconst C (nI 1) dL_law_587 (by decide) ?_
      refine j_iadd C dL_law_588 ?_
      refine j_sld C hX hbl hbA (i + 1) (nI_add _ _) (by omega) (by omega) dL_law_589 ?_
      refine j_aload_n C dL_law_590 rfl ?_
      refine j_iload C dL_law_591 rfl ?_
      refine j_iconst C (nI 2) dL_law_593 (by decide) ?_
      refine j_iadd C dL_law_594 ?_
      refine j_sld C hX hbl hbA (i + 2) (nI_add _ _) (by omega) (by omega) dL_law_595 ?_
      refine j_callVF (wr := (oC Y ho (vp_updL lo0 0 (Int32.toInt64 (nI d))) :: (lwA Y ad P N (mv P N a f t) b0 (mv0 + 1) ru me cb al (updN tr mv0 a) to1 fa se qu))) (st := []) C [.int (xs (i + 1)), .int (xs (i + 2))] [0, 1, 2, 3, 4, 5, 6, 7, 8, 9, 10] [11, 12, 13, 14, 15, 16, 17, 18, 19, 20, 21] (ct_X1_move hc ha hb hnf hgf hm0 (s0 := nI st0) (ad := ad2) (P := P) (N := N) (a := a) (b := b0) (mv0 := mv0) (ru := ru) (cb := cb) (ba := ba) (nf := nf) (gf := gf) (fr := fr) (tt := tt) (th := th) (qd := qd) (lk := lk) (fa := fa2) (qu := qu2) (nb := nb)) rfl rfl rfl rfl (by decide) gw_L_92 nd_X1_move 1 0 rfl rfl rfl ⟨by decide, by decide⟩ ⟨hk, hn⟩ (Nat.le_of_ble_eq_true rfl) dL_law_596 rfl (fun r w hp2 => ?_)
      obtain ⟨r6, rfl, hp2⟩ := hp2
      rcases hp2 with ⟨f2, t2, d2, lk1, ex2, hf2, ey2, ht2, hne, _, hd2, rfl, hw⟩ | ⟨hf, _⟩ | ⟨f2, t2, lk1, ex2, hf2, ey2, ht2, hor, _⟩
      · have e_f : f = f2 := nI_e (n := P) ex2 ex hf2 hf0 (by omega); subst e_f
        have e_t : t = t2 := nI_e (n := P) ey2 ey ht2 ht (by omega); subst e_t
        have e2 : d = d2 := Option.some.inj (hd.symm.trans hd2); subst e2
        rw [show (if mv0 = 0 then nI a else nI st0) = nI (if mv0 = 0 then a else st0) from by split <;> rfl] at hw
        subst hw
        refine j_istore_6 C dL_law_599 (by decide) ?_
        refine j_aload_n C dL_law_601 rfl ?_
        refine j_callVF (wr := (oC Y ho (vp_updL lo0 0 (Int32.toInt64 (nI d))) :: (lwA Y ad P N (mv P N a f t) b0 (mv0 + 1) ru me cb al (updN tr mv0 a) to1 fa se qu))) (st := []) C [] [11, 12, 13, 14, 15, 16, 17, 18, 19, 20, 21] [0, 1, 2, 3, 4, 5, 6, 7, 8, 9, 10] (ct_X1_thrown (ad := ad2) (th := (nI 0)) (p := nI P) (n := nI N) (ru := bi ru) (mc := nI (mv0 + 1)) (s0 := nI (if mv0 = 0 then a else st0)) (qd := qd) (nw := fun jj => nI ((updN nf d t) jj)) (gl := fun jj => nI (gf jj)) (co := fun jj => bi (cb jj)) (ba := fun jj => bi (ba jj)) (fr := fun jj => nI ((updN fr mv0 f) jj)) (tt := fun jj => nI ((updN tt mv0 t) jj)) (lk := lk1) (fa := fa2) (qu := qu2) (nb := nb)) rfl rfl rfl rfl (by decide) gw_L_69 nd_X1_thrown 1 0 rfl rfl rfl ⟨by decide, by decide⟩ ⟨hk, hn⟩ (Nat.le_of_ble_eq_true rfl) dL_law_602 rfl (fun r w hp3 => ?_)
        obtain ⟨r7, rfl, rfl, rfl⟩ := hp3
        refine j_iload C dL_law_605 rfl ?_
        refine j_icmp_eq C 612 dL_law_607 (by decide) (fun _ => ?_) (fun c => absurd rfl c)
        refine j_iload C dL_law_612 rfl ?_
        refine j_if_ne C 629 dL_law_614 (by decide) (fun c => absurd rfl c) (fun _ => ?_)
        refine j_aload_n C dL_law_617 rfl ?_
        refine j_iconst C (nI 0) dL_law_618 (by decide) ?_
        refine j_lald C 0 rfl 0 rfl (by decide) (by decide) dL_law_619 ?_
        refine j_iload C dL_law_620 rfl ?_
        refine j_i2l C dL_law_622 ?_
        refine j_lcmp C dL_law_623 ?_
        refine j_top _ 0 (lw_cmp (rfl)) ?_
        refine j_if_eq C 629 dL_law_624 (by decide) (fun _ => ?_) (fun c => absurd rfl c)
        refine j_goto C 1149 dL_law_629 (by decide) ?_
        exact nx _ _ _ (lwS_of (INV_move I hf0 ht hlt hps hd))
      · exact absurd (in_2 ex hf0 ey ht (by omega) (by omega)) (by rw [hf]; decide)
      · have e_f : f = f2 := nI_e (n := P) ex2 ex hf2 hf0 (by omega); subst e_f
        have e_t : t = t2 := nI_e (n := P) ey2 ey ht2 ht (by omega); subst e_t
        rw [lw_al hba] at hor
        exact hor.elim (fun q => absurd hlt (by omega)) (fun q => absurd (q.symm.trans hps) (by decide))
  · rcases hp with ⟨rfl, hf, rfl⟩ | ⟨rfl, f, t, to1, ex, hf0, ey, ht, hor, rfl⟩
    · refine j_top _ (nI 1) (by rw [if_pos rfl]) ?_
      refine j_istore_5 C dL_law_581 (by decide) ?_
      refine j_aload_n C dL_law_583 rfl ?_
      refine j_aload_n C dL_law_584 rfl ?_
      refine j_iload C dL_law_585 rfl ?_
      refine j_iconst C (nI 1) dL_law_587 (by decide) ?_
      refine j_iadd C dL_law_588 ?_
      refine j_sld C hX hbl hbA (i + 1) (nI_add _ _) (by omega) (by omega) dL_law_589 ?_
      refine j_aload_n C dL_law_590 rfl ?_
      refine j_iload C dL_law_591 rfl ?_
      refine j_iconst C (nI 2) dL_law_593 (by decide) ?_
      refine j_iadd C dL_law_594 ?_
      refine j_sld C hX hbl hbA (i + 2) (nI_add _ _) (by omega) (by omega) dL_law_595 ?_
      refine j_callVF (wr := (oC Y ho lo0 :: (lwA Y ad P N a b0 mv0 ru me cb al tr to fa se qu))) (st := []) C [.int (xs (i + 1)), .int (xs (i + 2))] [0, 1, 2, 3, 4, 5, 6, 7, 8, 9, 10] [11, 12, 13, 14, 15, 16, 17, 18, 19, 20, 21] (ct_X1_move hc ha hb hnf hgf hm0 (s0 := nI st0) (ad := ad2) (P := P) (N := N) (a := a) (b := b0) (mv0 := mv0) (ru := ru) (cb := cb) (ba := ba) (nf := nf) (gf := gf) (fr := fr) (tt := tt) (th := th) (qd := qd) (lk := lk) (fa := fa2) (qu := qu2) (nb := nb)) rfl rfl rfl rfl (by decide) gw_L_92 nd_X1_move 1 0 rfl rfl rfl ⟨by decide, by decide⟩ ⟨hk, hn⟩ (Nat.le_of_ble_eq_true rfl) dL_law_596 rfl (fun r w hp2 => ?_)
      obtain ⟨r6, rfl, hp2⟩ := hp2
      rcases hp2 with ⟨f2, t2, d2, lk1, ex2, hf2, ey2, ht2, _⟩ | ⟨_, rfl⟩ | ⟨f2, t2, lk1, ex2, hf2, ey2, ht2, _⟩
      · exact absurd (in_2 ex2 hf2 ey2 ht2 (by omega) (by omega)) (by rw [hf]; decide)
      · refine j_istore_6 C dL_law_599 (by decide) ?_
        refine j_aload_n C dL_law_601 rfl ?_
        refine j_callVF (wr := (oC Y ho lo0 :: (lwA Y ad P N a b0 mv0 ru me cb al tr to fa se qu))) (st := []) C [] [11, 12, 13, 14, 15, 16, 17, 18, 19, 20, 21] [0, 1, 2, 3, 4, 5, 6, 7, 8, 9, 10] (ct_X1_thrown (ad := ad2) (th := (nI 1)) (p := nI P) (n := nI N) (ru := bi ru) (mc := nI mv0) (s0 := nI st0) (qd := qd) (nw := fun jj => nI (nf jj)) (gl := fun jj => nI (gf jj)) (co := fun jj => bi (cb jj)) (ba := fun jj => bi (ba jj)) (fr := fun jj => nI (fr jj)) (tt := fun jj => nI (tt jj)) (lk := lk) (fa := fa2) (qu := qu2) (nb := nb)) rfl rfl rfl rfl (by decide) gw_L_69 nd_X1_thrown 1 0 rfl rfl rfl ⟨by decide, by decide⟩ ⟨hk, hn⟩ (Nat.le_of_ble_eq_true rfl) dL_law_602 rfl (fun r w hp3 => ?_)
        obtain ⟨r7, rfl, rfl, rfl⟩ := hp3
        refine j_iload C dL_law_605 rfl ?_
        refine j_icmp_eq C 612 dL_law_607 (by decide) (fun _ => ?_) (fun c => absurd rfl c)
        refine j_iload C dL_law_612 rfl ?_
        refine j_if_ne C 629 dL_law_614 (by decide) (fun _ => ?_) (fun c => absurd c (by decide))
        refine j_goto C 1149 dL_law_629 (by decide) ?_
        exact nx _ _ _ (lwS_of (I))
      · exact absurd (in_2 ex2 hf2 ey2 ht2 (by omega) (by omega)) (by rw [hf]; decide)
    · refine j_top _ (nI 2) (by rw [if_neg (by decide +kernel)]) ?_
      refine j_istore_5 C dL_law_581 (by decide) ?_
      refine j_aload_n C dL_law_583 rfl ?_
      refine j_aload_n C dL_law_584 rfl ?_
      refine j_iload C dL_law_585 rfl ?_
      refine j_iconst C (nI 1) dL_law_587 (by decide) ?_
      refine j_iadd C dL_law_588 ?_
      refine j_sld C hX hbl hbA (i + 1) (nI_add _ _) (by omega) (by omega) dL_law_589 ?_
      refine j_aload_n C dL_law_590 rfl ?_
      refine j_iload C dL_law_591 rfl ?_
      refine j_iconst C (nI 2) dL_law_593 (by decide) ?_
      refine j_iadd C dL_law_594 ?_
      refine j_sld C hX hbl hbA (i + 2) (nI_add _ _) (by omega) (by omega) dL_law_595 ?_
      refine j_callVF (wr := (oC Y ho lo0 :: (lwA Y ad P N a b0 mv0 ru me cb al tr to1 fa se qu))) (st := []) C [.int (xs (i + 1)), .int (xs (i + 2))] [0, 1, 2, 3, 4, 5, 6, 7, 8, 9, 10] [11, 12, 13, 14, 15, 16, 17, 18, 19, 20, 21] (ct_X1_move hc ha hb hnf hgf hm0 (s0 := nI st0) (ad := ad2) (P := P) (N := N) (a := a) (b := b0) (mv0 := mv0) (ru := ru) (cb := cb) (ba := ba) (nf := nf) (gf := gf) (fr := fr) (tt := tt) (th := th) (qd := qd) (lk := lk) (fa := fa2) (qu := qu2) (nb := nb)) rfl rfl rfl rfl (by decide) gw_L_92 nd_X1_move 1 0 rfl rfl rfl ⟨by decide, by decide⟩ ⟨hk, hn⟩ (Nat.le_of_ble_eq_true rfl) dL_law_596 rfl (fun r w hp2 => ?_)
      obtain ⟨r6, rfl, hp2⟩ := hp2
      rcases hp2 with ⟨f2, t2, d2, lk1, ex2, hf2, ey2, ht2, hne, hps, _⟩ | ⟨hf, _⟩ | ⟨f2, t2, lk1, ex2, hf2, ey2, ht2, _, rfl⟩
      · have e_f : f = f2 := nI_e (n := P) ex2 ex hf2 hf0 (by omega); subst e_f
        have e_t : t = t2 := nI_e (n := P) ey2 ey ht2 ht (by omega); subst e_t
        rw [lw_al hba] at hps
        exact hor.elim (fun q => absurd hne (by omega)) (fun q => absurd (q.symm.trans hps) (by decide))
      · exact absurd (in_2 ex hf0 ey ht (by omega) (by omega)) (by rw [hf]; decide)
      · refine j_istore_6 C dL_law_599 (by decide) ?_
        refine j_aload_n C dL_law_601 rfl ?_
        refine j_callVF (wr := (oC Y ho lo0 :: (lwA Y ad P N a b0 mv0 ru me cb al tr to1 fa se qu))) (st := []) C [] [11, 12, 13, 14, 15, 16, 17, 18, 19, 20, 21] [0, 1, 2, 3, 4, 5, 6, 7, 8, 9, 10] (ct_X1_thrown (ad := ad2) (th := (nI 2)) (p := nI P) (n := nI N) (ru := bi ru) (mc := nI mv0) (s0 := nI st0) (qd := qd) (nw := fun jj => nI (nf jj)) (gl := fun jj => nI (gf jj)) (co := fun jj => bi (cb jj)) (ba := fun jj => bi (ba jj)) (fr := fun jj => nI (fr jj)) (tt := fun jj => nI (tt jj)) (lk := lk1) (fa := fa2) (qu := qu2) (nb := nb)) rfl rfl rfl rfl (by decide) gw_L_69 nd_X1_thrown 1 0 rfl rfl rfl ⟨by decide, by decide⟩ ⟨hk, hn⟩ (Nat.le_of_ble_eq_true rfl) dL_law_602 rfl (fun r w hp3 => ?_)
        obtain ⟨r7, rfl, rfl, rfl⟩ := hp3
        refine j_iload C dL_law_605 rfl ?_
        refine j_icmp_eq C 612 dL_law_607 (by decide) (fun _ => ?_) (fun c => absurd rfl c)
        refine j_iload C dL_law_612 rfl ?_
        refine j_if_ne C 629 dL_law_614 (by decide) (fun _ => ?_) (fun c => absurd c (by decide))
        refine j_goto C 1149 dL_law_629 (by decide) ?_
        exact nx _ _ _ (lwS_of (I))
set_option maxHeartbeats 4000000 in
set_option maxRecDepth 100000 in
theorem lc_takeBack {K : jk_T} {Y : jy_T} {ad ad2 : Nat → Nat} {ho b L i k n : Nat} {xs : Nat → Int32} (h : lwK K Y b L xs i k n) (nx : lwN K Y ad ad2 ho b i k n) {ws : va_W} (S : lwS Y ad ad2 ho ws) {l5 l6 : Option Value} : jJ K k n 632 (lwL ad ad2 ho b i l5 l6) [] ws := by
  obtain ⟨C, X, hfl, hX, hbl, hbA, hL, hi, hk, hn⟩ := h
  obtain ⟨lo0, P, N, a, b0, mv0, st0, ru, me, cb, al, ba, tr, nf, gf, fr, tt, to, fa, se, qu, th, qd, lk, fa2, qu2, nb, I, rfl⟩ := S
  obtain ⟨hc, ha, hb, hm0, hme, hba, hnf, hgf, htr, hst, hH⟩ := id I
  have hN6 : N ≤ 6 := hc.2.2.2
  have hP5 : P ≤ 5 := hc.2.1
  have hP3 : 3 ≤ P := hc.1
  have hP0 : 0 < P := by omega
  refine j_eq rfl rfl (show _ = (oC Y ho lo0 :: (lwA Y ad P N a b0 mv0 ru me cb al tr to fa se qu)) ++ (lwM Y ad2 P N mv0 st0 ru cb ba nf gf fr tt th qd lk fa2 qu2 nb) from rfl) ?_
  obtain ⟨dd, hdd, htd, hbk⟩ := lw_dd hH
  refine j_aload_n C dL_law_632 rfl ?_
  refine j_aload_n C dL_law_633 rfl ?_
  refine j_callSW (wr := (lwM Y ad2 P N mv0 st0 ru cb ba nf gf fr tt th qd lk fa2 qu2 nb)) (st := []) C X [.ref (ad 0), .ref ho] [0, 1, 2, 3, 4, 5, 6, 7, 8, 9, 10] [11, 12, 13, 14, 15, 16, 17, 18, 19, 20, 21] (ct_L_takeBack (lo0 := lo0) (ho := ho) (ct_X0_takeBack hc ha hb hm0 hfl (ad := ad) (P := P) (N := N) (a := a) (b := b0) (mv0 := mv0) (ru := ru) (me := me) (cb := cb) (al := al) (tr := tr) (to := to) (fa := fa) (se := se) (qu := qu) (sp := fun i => nI (spT i))) (fun E w q => q.1)) rfl rfl rfl rfl (by decide) gw_L_93 nd_L_takeBack ⟨by decide, by decide⟩ ⟨hk, hn⟩ (Nat.le_of_ble_eq_true rfl) dL_law_634 rfl (fun r w hp => ?_)
  obtain ⟨r5, rfl, hp⟩ := hp
  rcases hp with ⟨v, w1, rfl, hp, rfl⟩ | ⟨E, w1, rfl, hp, rfl⟩
  · rcases hp with ⟨hp0, rfl, rfl⟩
    · refine j_top _ (nI 0) (rfl) ?_
      refine j_istore_5 C dL_law_637 (by decide) ?_
      refine j_aload_n C dL_law_639 rfl ?_
      refine j_callVF (wr := (oC Y ho (vp_updL lo0 0 (Int32.toInt64 (nI (mv0 - 1)))) :: (lwA Y ad P N (tr (mv0 - 1)) b0 (mv0 - 1) ru me cb al tr to fa se qu))) (st := []) C [] [0, 1, 2, 3, 4, 5, 6, 7, 8, 9, 10] [11, 12, 13, 14, 15, 16, 17, 18, 19, 20, 21] (ct_X1_takeBack hc ha hb hnf hgf hm0 hdd htd (s0 := nI st0) (ad := ad2) (P := P) (N := N) (a := a) (b := b0) (mv0 := mv0) (ru := ru) (cb := cb) (ba := ba) (nf := nf) (gf := gf) (fr := fr) (tt := tt) (th := th) (qd := qd) (lk := lk) (fa := fa2) (qu := qu2) (nb := nb)) rfl rfl rfl rfl (by decide) gw_L_96 nd_X1_takeBack 1 0 rfl rfl rfl ⟨by decide, by decide⟩ ⟨hk, hn⟩ (Nat.le_of_ble_eq_true rfl) dL_law_640 rfl (fun r w hp2 => ?_)
      obtain ⟨r6, rfl, hp2⟩ := hp2
      rcases hp2 with ⟨_, lk1, rfl, rfl⟩ | ⟨hz, _⟩
      · refine j_istore_6 C dL_law_643 (by decide) ?_
        refine j_aload_n C dL_law_645 rfl ?_
        refine j_callVF (wr := (oC Y ho (vp_updL lo0 0 (Int32.toInt64 (nI (mv0 - 1)))) :: (lwA Y ad P N (tr (mv0 - 1)) b0 (mv0 - 1) ru me cb al tr to fa se qu))) (st := []) C [] [11, 12, 13, 14, 15, 16, 17, 18, 19, 20, 21] [0, 1, 2, 3, 4, 5, 6, 7, 8, 9, 10] (ct_X1_thrown (ad := ad2) (th := (nI 0)) (p := nI P) (n := nI N) (ru := bi ru) (mc := nI (mv0 - 1)) (s0 := nI st0) (qd := qd) (nw := fun jj => nI ((updN nf dd (fr (mv0 - 1))) jj)) (gl := fun jj => nI (gf jj)) (co := fun jj => bi (cb jj)) (ba := fun jj => bi (ba jj)) (fr := fun jj => nI (fr jj)) (tt := fun jj => nI (tt jj)) (lk := lk1) (fa := fa2) (qu := qu2) (nb := nb)) rfl rfl rfl rfl (by decide) gw_L_69 nd_X1_thrown 1 0 rfl rfl rfl ⟨by decide, by decide⟩ ⟨hk, hn⟩ (Nat.le_of_ble_eq_true rfl) dL_law_646 rfl (fun r w hp3 => ?_)
        obtain ⟨r7, rfl, rfl, rfl⟩ := hp3
        refine j_iload C dL_law_649 rfl ?_
        refine j_icmp_eq C 656 dL_law_651 (by decide) (fun _ => ?_) (fun c => absurd rfl c)
        refine j_iload C dL_law_656 rfl ?_
        refine j_if_ne C 673 dL_law_658 (by decide) (fun c => absurd rfl c) (fun _ => ?_)
        refine j_aload_n C dL_law_661 rfl ?_
        refine j_iconst C (nI 0) dL_law_662 (by decide) ?_
        refine j_lald C 0 rfl 0 rfl (by decide) (by decide) dL_law_663 ?_
        refine j_iload C dL_law_664 rfl ?_
        refine j_i2l C dL_law_666 ?_
        refine j_lcmp C dL_law_667 ?_
        refine j_top _ 0 (lw_cmp (rfl)) ?_
        refine j_if_eq C 673 dL_law_668 (by decide) (fun _ => ?_) (fun c => absurd rfl c)
        refine j_goto C 1149 dL_law_673 (by decide) ?_
        exact nx _ _ _ (lwS_of (INV_back I hp0 (hbk hp0)))
      · omega
  · rcases hp with ⟨rfl, hz, rfl⟩
    · refine j_top _ (nI 1) (rfl) ?_
      refine j_istore_5 C dL_law_637 (by decide) ?_
      refine j_aload_n C dL_law_639 rfl ?_
      refine j_callVF (wr := (oC Y ho lo0 :: (lwA Y ad P N a b0 mv0 ru me cb al tr to fa se qu))) (st := []) C [] [0, 1, 2, 3, 4, 5, 6, 7, 8, 9, 10] [11, 12, 13, 14, 15, 16, 17, 18, 19, 20, 21] (ct_X1_takeBack hc ha hb hnf hgf hm0 hdd htd (s0 := nI st0) (ad := ad2) (P := P) (N := N) (a := a) (b := b0) (mv0 := mv0) (ru := ru) (cb := cb) (ba := ba) (nf := nf) (gf := gf) (fr := fr) (tt := tt) (th := th) (qd := qd) (lk := lk) (fa := fa2) (qu := qu2) (nb := nb)) rfl rfl rfl rfl (by decide) gw_L_96 nd_X1_takeBack 1 0 rfl rfl rfl ⟨by decide, by decide⟩ ⟨hk, hn⟩ (Nat.le_of_ble_eq_true rfl) dL_law_640 rfl (fun r w hp2 => ?_)
      obtain ⟨r6, rfl, hp2⟩ := hp2
      rcases hp2 with ⟨hp0, _⟩ | ⟨_, rfl⟩
      · omega
      · refine j_istore_6 C dL_law_643 (by decide) ?_
        refine j_aload_n C dL_law_645 rfl ?_
        refine j_callVF (wr := (oC Y ho lo0 :: (lwA Y ad P N a b0 mv0 ru me cb al tr to fa se qu))) (st := []) C [] [11, 12, 13, 14, 15, 16, 17, 18, 19, 20, 21] [0, 1, 2, 3, 4, 5, 6, 7, 8, 9, 10] (ct_X1_thrown (ad := ad2) (th := (nI 1)) (p := nI P) (n := nI N) (ru := bi ru) (mc := nI mv0) (s0 := nI st0) (qd := qd) (nw := fun jj => nI (nf jj)) (gl := fun jj => nI (gf jj)) (co := fun jj => bi (cb jj)) (ba := fun jj => bi (ba jj)) (fr := fun jj => nI (fr jj)) (tt := fun jj => nI (tt jj)) (lk := lk) (fa := fa2) (qu := qu2) (nb := nb)) rfl rfl rfl rfl (by decide) gw_L_69 nd_X1_thrown 1 0 rfl rfl rfl ⟨by decide, by decide⟩ ⟨hk, hn⟩ (Nat.le_of_ble_eq_true rfl) dL_law_646 rfl (fun r w hp3 => ?_)
        obtain ⟨r7, rfl, rfl, rfl⟩ := hp3
        refine j_iload C dL_law_649 rfl ?_
        refine j_icmp_eq C 656 dL_law_651 (by decide) (fun _ => ?_) (fun c => absurd rfl c)
        refine j_iload C dL_law_656 rfl ?_
        refine j_if_ne C 673 dL_law_658 (by decide) (fun _ => ?_) (fun c => absurd c (by decide))
        refine j_goto C 1149 dL_law_673 (by decide) ?_
        exact nx _ _ _ (lwS_of (I))
set_option maxHeartbeats 4000000 in
set_option maxRecDepth 100000 in
theorem lc_layStart {K : jk_T} {Y : jy_T} {ad ad2 : Nat → Nat} {ho b L i k n : Nat} {xs : Nat → Int32} (h : lwK K Y b L xs i k n) (nx : lwN K Y ad ad2 ho b i k n) {ws : va_W} (S : lwS Y ad ad2 ho ws) {l5 l6 : Option Value} : jJ K k n 676 (lwL ad ad2 ho b i l5 l6) [] ws := by
  obtain ⟨C, X, hfl, hX, hbl, hbA, hL, hi, hk, hn⟩ := h
  obtain ⟨lo0, P, N, a, b0, mv0, st0, ru, me, cb, al, ba, tr, nf, gf, fr, tt, to, fa, se, qu, th, qd, lk, fa2, qu2, nb, I, rfl⟩ := S
  obtain ⟨hc, ha, hb, hm0, hme, hba, hnf, hgf, htr, hst, hH⟩ := id I
  have hN6 : N ≤ 6 := hc.2.2.2
  have hP5 : P ≤ 5 := hc.2.1
  have hP3 : 3 ≤ P := hc.1
  have hP0 : 0 < P := by omega
  refine j_eq rfl rfl (show _ = (oC Y ho lo0 :: (lwA Y ad P N a b0 mv0 ru me cb al tr to fa se qu)) ++ (lwM Y ad2 P N mv0 st0 ru cb ba nf gf fr tt th qd lk fa2 qu2 nb) from rfl) ?_
  refine j_aload_n C dL_law_676 rfl ?_
  refine j_callVF (wr := oC Y ho lo0 :: (lwM Y ad2 P N mv0 st0 ru cb ba nf gf fr tt th qd lk fa2 qu2 nb)) (st := []) C [] [1, 2, 3, 4, 5, 6, 7, 8, 9, 10] [0, 11, 12, 13, 14, 15, 16, 17, 18, 19, 20, 21] (ct_X0_layStart  (ad := ad) (p := nI P) (n := nI N) (ru := bi ru) (nw := nI a) (tg := nI b0) (mc := nI mv0) (me := bi me) (we := fun d => nI (P ^ d)) (co := fun d => bi (cb d)) (al := fun k => bi (al k)) (tr := fun k => nI (tr k)) (to := to) (fa := fa) (se := se) (qu := qu) (sp := fun i => nI (spT i))) rfl rfl rfl rfl (by decide) gw_L_97 nd_X0_layStart 0 0 rfl rfl rfl ⟨by decide, by decide⟩ ⟨by show k + 0 ≤ 601024; omega, by show n + 0 ≤ 7293034; omega⟩ (Nat.le_of_ble_eq_true rfl) dL_law_677 rfl (fun r w hp => ?_)
  obtain ⟨r5, rfl, hp⟩ := hp
  obtain ⟨rfl, rfl⟩ := hp
  refine j_aload_n C dL_law_680 rfl ?_
  refine j_callVF (wr := oC Y ho lo0 :: (lwA Y ad P N a b0 0 ru me cb al tr to fa se qu)) (st := [_]) C [] [1, 2, 3, 4, 5, 6, 7, 8, 9, 10, 11] [0, 12, 13, 14, 15, 16, 17, 18, 19, 20, 21] (ct_X1_layStart  (s0 := nI st0) (ad := ad2) (P := P) (N := N) (a := a) (b := b0) (mv0 := mv0) (ru := ru) (cb := cb) (ba := ba) (nf := nf) (gf := gf) (fr := fr) (tt := tt) (th := th) (qd := qd) (lk := lk) (fa := fa2) (qu := qu2) (nb := nb) ) rfl rfl rfl rfl (by decide) gw_L_100 nd_X1_layStart 1 0 rfl rfl rfl ⟨by decide, by decide⟩ ⟨by show k + 0 + 0 ≤ 601024; omega, by show n + 0 + 0 ≤ 7293034; omega⟩ (Nat.le_of_ble_eq_true rfl) dL_law_681 rfl (fun r w hp => ?_)
  obtain ⟨r6, rfl, hp⟩ := hp
  obtain ⟨rfl, rfl⟩ := hp
  refine j_icmp_eq C 1149 dL_law_684 (by decide) (fun _ => ?_) (fun c => absurd (rfl) c)
  refine j_widen (Nat.le_succ k) (Nat.le_add_right n 6) ?_
  exact nx _ _ _ (lwS_of (INV_lay I))
set_option maxHeartbeats 4000000 in
set_option maxRecDepth 100000 in
theorem lc_pegs {K : jk_T} {Y : jy_T} {ad ad2 : Nat → Nat} {ho b L i k n : Nat} {xs : Nat → Int32} (h : lwK K Y b L xs i k n) (nx : lwN K Y ad ad2 ho b i k n) {ws : va_W} (S : lwS Y ad ad2 ho ws) {l5 l6 : Option Value} : jJ K k n 689 (lwL ad ad2 ho b i l5 l6) [] ws := by
  obtain ⟨C, X, hfl, hX, hbl, hbA, hL, hi, hk, hn⟩ := h
  obtain ⟨lo0, P, N, a, b0, mv0, st0, ru, me, cb, al, ba, tr, nf, gf, fr, tt, to, fa, se, qu, th, qd, lk, fa2, qu2, nb, I, rfl⟩ := S
  obtain ⟨hc, ha, hb, hm0, hme, hba, hnf, hgf, htr, hst, hH⟩ := id I
  have hN6 : N ≤ 6 := hc.2.2.2
  have hP5 : P ≤ 5 := hc.2.1
  have hP3 : 3 ≤ P := hc.1
  have hP0 : 0 < P := by omega
  refine j_eq rfl rfl (show _ = (oC Y ho lo0 :: (lwA Y ad P N a b0 mv0 ru me cb al tr to fa se qu)) ++ (lwM Y ad2 P N mv0 st0 ru cb ba nf gf fr tt th qd lk fa2 qu2 nb) from rfl) ?_
  refine j_aload_n C dL_law_689 rfl ?_
  refine j_callVF (wr := oC Y ho lo0 :: (lwM Y ad2 P N mv0 st0 ru cb ba nf gf fr tt th qd lk fa2 qu2 nb)) (st := []) C [] [1, 2, 3, 4, 5, 6, 7, 8, 9, 10] [0, 11, 12, 13, 14, 15, 16, 17, 18, 19, 20, 21] (ct_X0_pegs  (ad := ad) (p := nI P) (n := nI N) (ru := bi ru) (nw := nI a) (tg := nI b0) (mc := nI mv0) (me := bi me) (we := fun d => nI (P ^ d)) (co := fun d => bi (cb d)) (al := fun k => bi (al k)) (tr := fun k => nI (tr k)) (to := to) (fa := fa) (se := se) (qu := qu) (sp := fun i => nI (spT i))) rfl rfl rfl rfl (by decide) gw_L_101 nd_X0_pegs 0 0 rfl rfl rfl ⟨by decide, by decide⟩ ⟨by show k + 0 ≤ 601024; omega, by show n + 0 ≤ 7293034; omega⟩ (Nat.le_of_ble_eq_true rfl) dL_law_690 rfl (fun r w hp => ?_)
  obtain ⟨r5, rfl, hp⟩ := hp
  obtain ⟨rfl, rfl⟩ := hp
  refine j_aload_n C dL_law_693 rfl ?_
  refine j_callVF (wr := oC Y ho lo0 :: (lwA Y ad P N a b0 mv0 ru me cb al tr to fa se qu)) (st := [_]) C [] [1, 2, 3, 4, 5, 6, 7, 8, 9, 10, 11] [0, 12, 13, 14, 15, 16, 17, 18, 19, 20, 21] (ct_X1_pegs  (s0 := nI st0) (ad := ad2) (P := P) (N := N) (a := a) (b := b0) (mv0 := mv0) (ru := ru) (cb := cb) (ba := ba) (nf := nf) (gf := gf) (fr := fr) (tt := tt) (th := th) (qd := qd) (lk := lk) (fa := fa2) (qu := qu2) (nb := nb) ) rfl rfl rfl rfl (by decide) gw_L_104 nd_X1_pegs 1 0 rfl rfl rfl ⟨by decide, by decide⟩ ⟨by show k + 0 + 0 ≤ 601024; omega, by show n + 0 + 0 ≤ 7293034; omega⟩ (Nat.le_of_ble_eq_true rfl) dL_law_694 rfl (fun r w hp => ?_)
  obtain ⟨r6, rfl, hp⟩ := hp
  obtain ⟨rfl, rfl⟩ := hp
  refine j_icmp_eq C 1149 dL_law_697 (by decide) (fun _ => ?_) (fun c => absurd (rfl) c)
  refine j_widen (Nat.le_succ k) (Nat.le_add_right n 6) ?_
  exact nx _ _ _ (lwS_of (I))
set_option maxHeartbeats 4000000 in
set_option maxRecDepth 100000 in
theorem lc_disks {K : jk_T} {Y : jy_T} {ad ad2 : Nat → Nat} {ho b L i k n : Nat} {xs : Nat → Int32} (h : lwK K Y b L xs i k n) (nx : lwN K Y ad ad2 ho b i k n) {ws : va_W} (S : lwS Y ad ad2 ho ws) {l5 l6 : Option Value} : jJ K k n 702 (lwL ad ad2 ho b i l5 l6) [] ws := by
  obtain ⟨C, X, hfl, hX, hbl, hbA, hL, hi, hk, hn⟩ := h
  obtain ⟨lo0, P, N, a, b0, mv0, st0, ru, me, cb, al, ba, tr, nf, gf, fr, tt, to, fa, se, qu, th, qd, lk, fa2, qu2, nb, I, rfl⟩ := S
  obtain ⟨hc, ha, hb, hm0, hme, hba, hnf, hgf, htr, hst, hH⟩ := id I
  have hN6 : N ≤ 6 := hc.2.2.2
  have hP5 : P ≤ 5 := hc.2.1
  have hP3 : 3 ≤ P := hc.1
  have hP0 : 0 < P := by omega
  refine j_eq rfl rfl (show _ = (oC Y ho lo0 :: (lwA Y ad P N a b0 mv0 ru me cb al tr to fa se qu)) ++ (lwM Y ad2 P N mv0 st0 ru cb ba nf gf fr tt th qd lk fa2 qu2 nb) from rfl) ?_
  refine j_aload_n C dL_law_702 rfl ?_
  refine j_callVF (wr := oC Y ho lo0 :: (lwM Y ad2 P N mv0 st0 ru cb ba nf gf fr tt th qd lk fa2 qu2 nb)) (st := []) C [] [1, 2, 3, 4, 5, 6, 7, 8, 9, 10] [0, 11, 12, 13, 14, 15, 16, 17, 18, 19, 20, 21] (ct_X0_disks  (ad := ad) (p := nI P) (n := nI N) (ru := bi ru) (nw := nI a) (tg := nI b0) (mc := nI mv0) (me := bi me) (we := fun d => nI (P ^ d)) (co := fun d => bi (cb d)) (al := fun k => bi (al k)) (tr := fun k => nI (tr k)) (to := to) (fa := fa) (se := se) (qu := qu) (sp := fun i => nI (spT i))) rfl rfl rfl rfl (by decide) gw_L_105 nd_X0_disks 0 0 rfl rfl rfl ⟨by decide, by decide⟩ ⟨by show k + 0 ≤ 601024; omega, by show n + 0 ≤ 7293034; omega⟩ (Nat.le_of_ble_eq_true rfl) dL_law_703 rfl (fun r w hp => ?_)
  obtain ⟨r5, rfl, hp⟩ := hp
  obtain ⟨rfl, rfl⟩ := hp
  refine j_aload_n C dL_law_706 rfl ?_
  refine j_callVF (wr := oC Y ho lo0 :: (lwA Y ad P N a b0 mv0 ru me cb al tr to fa se qu)) (st := [_]) C [] [1, 2, 3, 4, 5, 6, 7, 8, 9, 10, 11] [0, 12, 13, 14, 15, 16, 17, 18, 19, 20, 21] (ct_X1_disks  (s0 := nI st0) (ad := ad2) (P := P) (N := N) (a := a) (b := b0) (mv0 := mv0) (ru := ru) (cb := cb) (ba := ba) (nf := nf) (gf := gf) (fr := fr) (tt := tt) (th := th) (qd := qd) (lk := lk) (fa := fa2) (qu := qu2) (nb := nb) ) rfl rfl rfl rfl (by decide) gw_L_108 nd_X1_disks 1 0 rfl rfl rfl ⟨by decide, by decide⟩ ⟨by show k + 0 + 0 ≤ 601024; omega, by show n + 0 + 0 ≤ 7293034; omega⟩ (Nat.le_of_ble_eq_true rfl) dL_law_707 rfl (fun r w hp => ?_)
  obtain ⟨r6, rfl, hp⟩ := hp
  obtain ⟨rfl, rfl⟩ := hp
  refine j_icmp_eq C 1149 dL_law_710 (by decide) (fun _ => ?_) (fun c => absurd (rfl) c)
  refine j_widen (Nat.le_succ k) (Nat.le_add_right n 6) ?_
  exact nx _ _ _ (lwS_of (I))
set_option maxHeartbeats 4000000 in
set_option maxRecDepth 100000 in
theorem lc_moves {K : jk_T} {Y : jy_T} {ad ad2 : Nat → Nat} {ho b L i k n : Nat} {xs : Nat → Int32} (h : lwK K Y b L xs i k n) (nx : lwN K Y ad ad2 ho b i k n) {ws : va_W} (S : lwS Y ad ad2 ho ws) {l5 l6 : Option Value} : jJ K k n 715 (lwL ad ad2 ho b i l5 l6) [] ws := by
  obtain ⟨C, X, hfl, hX, hbl, hbA, hL, hi, hk, hn⟩ := h
  obtain ⟨lo0, P, N, a, b0, mv0, st0, ru, me, cb, al, ba, tr, nf, gf, fr, tt, to, fa, se, qu, th, qd, lk, fa2, qu2, nb, I, rfl⟩ := S
  obtain ⟨hc, ha, hb, hm0, hme, hba, hnf, hgf, htr, hst, hH⟩ := id I
  have hN6 : N ≤ 6 := hc.2.2.2
  have hP5 : P ≤ 5 := hc.2.1
  have hP3 : 3 ≤ P := hc.1
  have hP0 : 0 < P := by omega
  refine j_eq rfl rfl (show _ = (oC Y ho lo0 :: (lwA Y ad P N a b0 mv0 ru me cb al tr to fa se qu)) ++ (lwM Y ad2 P N mv0 st0 ru cb ba nf gf fr tt th qd lk fa2 qu2 nb) from rfl) ?_
  refine j_aload_n C dL_law_715 rfl ?_
  refine j_callVF (wr := oC Y ho lo0 :: (lwM Y ad2 P N mv0 st0 ru cb ba nf gf fr tt th qd lk fa2 qu2 nb)) (st := []) C [] [1, 2, 3, 4, 5, 6, 7, 8, 9, 10] [0, 11, 12, 13, 14, 15, 16, 17, 18, 19, 20, 21] (ct_X0_moves  (ad := ad) (p := nI P) (n := nI N) (ru := bi ru) (nw := nI a) (tg := nI b0) (mc := nI mv0) (me := bi me) (we := fun d => nI (P ^ d)) (co := fun d => bi (cb d)) (al := fun k => bi (al k)) (tr := fun k => nI (tr k)) (to := to) (fa := fa) (se := se) (qu := qu) (sp := fun i => nI (spT i))) rfl rfl rfl rfl (by decide) gw_L_109 nd_X0_moves 0 0 rfl rfl rfl ⟨by decide, by decide⟩ ⟨by show k + 0 ≤ 601024; omega, by show n + 0 ≤ 7293034; omega⟩ (Nat.le_of_ble_eq_true rfl) dL_law_716 rfl (fun r w hp => ?_)
  obtain ⟨r5, rfl, hp⟩ := hp
  obtain ⟨rfl, rfl⟩ := hp
  refine j_aload_n C dL_law_719 rfl ?_
  refine j_callVF (wr := oC Y ho lo0 :: (lwA Y ad P N a b0 mv0 ru me cb al tr to fa se qu)) (st := [_]) C [] [1, 2, 3, 4, 5, 6, 7, 8, 9, 10, 11] [0, 12, 13, 14, 15, 16, 17, 18, 19, 20, 21] (ct_X1_moves  (s0 := nI st0) (ad := ad2) (P := P) (N := N) (a := a) (b := b0) (mv0 := mv0) (ru := ru) (cb := cb) (ba := ba) (nf := nf) (gf := gf) (fr := fr) (tt := tt) (th := th) (qd := qd) (lk := lk) (fa := fa2) (qu := qu2) (nb := nb) ) rfl rfl rfl rfl (by decide) gw_L_112 nd_X1_moves 1 0 rfl rfl rfl ⟨by decide, by decide⟩ ⟨by show k + 0 + 0 ≤ 601024; omega, by show n + 0 + 0 ≤ 7293034; omega⟩ (Nat.le_of_ble_eq_true rfl) dL_law_720 rfl (fun r w hp => ?_)
  obtain ⟨r6, rfl, hp⟩ := hp
  obtain ⟨rfl, rfl⟩ := hp
  refine j_icmp_eq C 1149 dL_law_723 (by decide) (fun _ => ?_) (fun c => absurd (rfl) c)
  refine j_widen (Nat.le_succ k) (Nat.le_add_right n 6) ?_
  exact nx _ _ _ (lwS_of (I))
set_option maxHeartbeats 4000000 in
set_option maxRecDepth 100000 in
theorem lc_pegOf {K : jk_T} {Y : jy_T} {ad ad2 : Nat → Nat} {ho b L i k n : Nat} {xs : Nat → Int32} (h : lwK K Y b L xs i k n) (nx : lwN K Y ad ad2 ho b i k n) {ws : va_W} (S : lwS Y ad ad2 ho ws) {l5 l6 : Option Value} : jJ K k n 728 (lwL ad ad2 ho b i l5 l6) [] ws := by
  obtain ⟨C, X, hfl, hX, hbl, hbA, hL, hi, hk, hn⟩ := h
  obtain ⟨lo0, P, N, a, b0, mv0, st0, ru, me, cb, al, ba, tr, nf, gf, fr, tt, to, fa, se, qu, th, qd, lk, fa2, qu2, nb, I, rfl⟩ := S
  obtain ⟨hc, ha, hb, hm0, hme, hba, hnf, hgf, htr, hst, hH⟩ := id I
  have hN6 : N ≤ 6 := hc.2.2.2
  have hP5 : P ≤ 5 := hc.2.1
  have hP3 : 3 ≤ P := hc.1
  have hP0 : 0 < P := by omega
  refine j_eq rfl rfl (show _ = (oC Y ho lo0 :: (lwA Y ad P N a b0 mv0 ru me cb al tr to fa se qu)) ++ (lwM Y ad2 P N mv0 st0 ru cb ba nf gf fr tt th qd lk fa2 qu2 nb) from rfl) ?_
  refine j_aload_n C dL_law_728 rfl ?_
  refine j_aload_n C dL_law_729 rfl ?_
  refine j_iload C dL_law_730 rfl ?_
  refine j_iconst C (nI 1) dL_law_732 (by decide) ?_
  refine j_iadd C dL_law_733 ?_
  refine j_sld C hX hbl hbA (i + 1) (nI_add _ _) (by omega) (by omega) dL_law_734 ?_
  refine j_aload_n C dL_law_735 rfl ?_
  refine j_callSW (wr := (lwM Y ad2 P N mv0 st0 ru cb ba nf gf fr tt th qd lk fa2 qu2 nb)) (st := []) C X [.ref (ad 0), .int (xs (i + 1)), .ref ho] [0, 1, 2, 3, 4, 5, 6, 7, 8, 9, 10] [11, 12, 13, 14, 15, 16, 17, 18, 19, 20, 21] (ct_L_pegOf (lo0 := lo0) (ho := ho) (ct_X0_pegOf hc ha hb hfl (ad := ad) (P := P) (N := N) (a := a) (b := b0) (mv0 := mv0) (ru := ru) (me := me) (cb := cb) (al := al) (tr := tr) (to := to) (fa := fa) (se := se) (qu := qu) (sp := fun i => nI (spT i))) (fun E w q => q.1)) rfl rfl rfl rfl (by decide) gw_L_113 nd_L_pegOf ⟨by decide, by decide⟩ ⟨hk, hn⟩ (Nat.le_of_ble_eq_true rfl) dL_law_736 rfl (fun r w hp => ?_)
  obtain ⟨r5, rfl, hp⟩ := hp
  rcases hp with ⟨v, w1, rfl, hp, rfl⟩ | ⟨E, w1, rfl, hp, rfl⟩
  · rcases hp with ⟨d, ex, hd, rfl, rfl⟩
    · refine j_top _ (nI 0) (rfl) ?_
      refine j_istore_5 C dL_law_739 (by decide) ?_
      refine j_aload_n C dL_law_741 rfl ?_
      refine j_aload_n C dL_law_742 rfl ?_
      refine j_iload C dL_law_743 rfl ?_
      refine j_iconst C (nI 1) dL_law_745 (by decide) ?_
      refine j_iadd C dL_law_746 ?_
      refine j_sld C hX hbl hbA (i + 1) (nI_add _ _) (by omega) (by omega) dL_law_747 ?_
      refine j_callVF (wr := (oC Y ho (vp_updL lo0 0 (Int32.toInt64 (nI (dg P a d)))) :: (lwA Y ad P N a b0 mv0 ru me cb al tr to fa se qu))) (st := []) C [.int (xs (i + 1))] [0, 1, 2, 3, 4, 5, 6, 7, 8, 9, 10] [11, 12, 13, 14, 15, 16, 17, 18, 19, 20, 21] (ct_X1_pegOf hc (s0 := nI st0) (ad := ad2) (P := P) (N := N) (a := a) (b := b0) (mv0 := mv0) (ru := ru) (cb := cb) (ba := ba) (nf := nf) (gf := gf) (fr := fr) (tt := tt) (th := th) (qd := qd) (lk := lk) (fa := fa2) (qu := qu2) (nb := nb)) rfl rfl rfl rfl (by decide) gw_L_116 nd_X1_pegOf 1 0 rfl rfl rfl ⟨by decide, by decide⟩ ⟨hk, hn⟩ (Nat.le_of_ble_eq_true rfl) dL_law_748 rfl (fun r w hp2 => ?_)
      obtain ⟨r6, rfl, hp2⟩ := hp2
      rcases hp2 with ⟨d2, ex2, hd2, rfl, rfl⟩ | ⟨hf, _⟩
      · have e_d : d = d2 := nI_e (n := N) ex2 ex hd2 hd (by omega); subst e_d
        refine j_istore_6 C dL_law_751 (by decide) ?_
        refine j_aload_n C dL_law_753 rfl ?_
        refine j_callVF (wr := (oC Y ho (vp_updL lo0 0 (Int32.toInt64 (nI (dg P a d)))) :: (lwA Y ad P N a b0 mv0 ru me cb al tr to fa se qu))) (st := []) C [] [11, 12, 13, 14, 15, 16, 17, 18, 19, 20, 21] [0, 1, 2, 3, 4, 5, 6, 7, 8, 9, 10] (ct_X1_thrown (ad := ad2) (th := (nI 0)) (p := nI P) (n := nI N) (ru := bi ru) (mc := nI mv0) (s0 := nI st0) (qd := qd) (nw := fun jj => nI (nf jj)) (gl := fun jj => nI (gf jj)) (co := fun jj => bi (cb jj)) (ba := fun jj => bi (ba jj)) (fr := fun jj => nI (fr jj)) (tt := fun jj => nI (tt jj)) (lk := lk) (fa := fa2) (qu := qu2) (nb := nb)) rfl rfl rfl rfl (by decide) gw_L_69 nd_X1_thrown 1 0 rfl rfl rfl ⟨by decide, by decide⟩ ⟨hk, hn⟩ (Nat.le_of_ble_eq_true rfl) dL_law_754 rfl (fun r w hp3 => ?_)
        obtain ⟨r7, rfl, rfl, rfl⟩ := hp3
        refine j_iload C dL_law_757 rfl ?_
        refine j_icmp_eq C 764 dL_law_759 (by decide) (fun _ => ?_) (fun c => absurd rfl c)
        refine j_iload C dL_law_764 rfl ?_
        refine j_if_ne C 781 dL_law_766 (by decide) (fun c => absurd rfl c) (fun _ => ?_)
        refine j_aload_n C dL_law_769 rfl ?_
        refine j_iconst C (nI 0) dL_law_770 (by decide) ?_
        refine j_lald C 0 rfl 0 rfl (by decide) (by decide) dL_law_771 ?_
        refine j_iload C dL_law_772 rfl ?_
        refine j_i2l C dL_law_774 ?_
        refine j_lcmp C dL_law_775 ?_
        refine j_top _ 0 (lw_cmp (by rw [hnf d hd])) ?_
        refine j_if_eq C 781 dL_law_776 (by decide) (fun _ => ?_) (fun c => absurd rfl c)
        refine j_goto C 1149 dL_law_781 (by decide) ?_
        exact nx _ _ _ (lwS_of (I))
      · exact absurd (in_t ex hd (by omega)) (by rw [hf]; decide)
  · rcases hp with ⟨rfl, hf, rfl⟩
    · refine j_top _ (nI 1) (rfl) ?_
      refine j_istore_5 C dL_law_739 (by decide) ?_
      refine j_aload_n C dL_law_741 rfl ?_
      refine j_aload_n C dL_law_742 rfl ?_
      refine j_iload C dL_law_743 rfl ?_
      refine j_iconst C (nI 1) dL_law_745 (by decide) ?_
      refine j_iadd C dL_law_746 ?_
      refine j_sld C hX hbl hbA (i + 1) (nI_add _ _) (by omega) (by omega) dL_law_747 ?_
      refine j_callVF (wr := (oC Y ho lo0 :: (lwA Y ad P N a b0 mv0 ru me cb al tr to fa se qu))) (st := []) C [.int (xs (i + 1))] [0, 1, 2, 3, 4, 5, 6, 7, 8, 9, 10] [11, 12, 13, 14, 15, 16, 17, 18, 19, 20, 21] (ct_X1_pegOf hc (s0 := nI st0) (ad := ad2) (P := P) (N := N) (a := a) (b := b0) (mv0 := mv0) (ru := ru) (cb := cb) (ba := ba) (nf := nf) (gf := gf) (fr := fr) (tt := tt) (th := th) (qd := qd) (lk := lk) (fa := fa2) (qu := qu2) (nb := nb)) rfl rfl rfl rfl (by decide) gw_L_116 nd_X1_pegOf 1 0 rfl rfl rfl ⟨by decide, by decide⟩ ⟨hk, hn⟩ (Nat.le_of_ble_eq_true rfl) dL_law_748 rfl (fun r w hp2 => ?_)
      obtain ⟨r6, rfl, hp2⟩ := hp2
      rcases hp2 with ⟨d2, ex2, hd2, _⟩ | ⟨_, rfl⟩
      · exact absurd (in_t ex2 hd2 (by omega)) (by rw [hf]; decide)
      · refine j_istore_6 C dL_law_751 (by decide) ?_
        refine j_aload_n C dL_law_753 rfl ?_
        refine j_callVF (wr := (oC Y ho lo0 :: (lwA Y ad P N a b0 mv0 ru me cb al tr to fa se qu))) (st := []) C [] [11, 12, 13, 14, 15, 16, 17, 18, 19, 20, 21] [0, 1, 2, 3, 4, 5, 6, 7, 8, 9, 10] (ct_X1_thrown (ad := ad2) (th := (nI 1)) (p := nI P) (n := nI N) (ru := bi ru) (mc := nI mv0) (s0 := nI st0) (qd := qd) (nw := fun jj => nI (nf jj)) (gl := fun jj => nI (gf jj)) (co := fun jj => bi (cb jj)) (ba := fun jj => bi (ba jj)) (fr := fun jj => nI (fr jj)) (tt := fun jj => nI (tt jj)) (lk := lk) (fa := fa2) (qu := qu2) (nb := nb)) rfl rfl rfl rfl (by decide) gw_L_69 nd_X1_thrown 1 0 rfl rfl rfl ⟨by decide, by decide⟩ ⟨hk, hn⟩ (Nat.le_of_ble_eq_true rfl) dL_law_754 rfl (fun r w hp3 => ?_)
        obtain ⟨r7, rfl, rfl, rfl⟩ := hp3
        refine j_iload C dL_law_757 rfl ?_
        refine j_icmp_eq C 764 dL_law_759 (by decide) (fun _ => ?_) (fun c => absurd rfl c)
        refine j_iload C dL_law_764 rfl ?_
        refine j_if_ne C 781 dL_law_766 (by decide) (fun _ => ?_) (fun c => absurd c (by decide))
        refine j_goto C 1149 dL_law_781 (by decide) ?_
        exact nx _ _ _ (lwS_of (I))
set_option maxHeartbeats 4000000 in
set_option maxRecDepth 100000 in
theorem lc_top {K : jk_T} {Y : jy_T} {ad ad2 : Nat → Nat} {ho b L i k n : Nat} {xs : Nat → Int32} (h : lwK K Y b L xs i k n) (nx : lwN K Y ad ad2 ho b i k n) {ws : va_W} (S : lwS Y ad ad2 ho ws) {l5 l6 : Option Value} : jJ K k n 784 (lwL ad ad2 ho b i l5 l6) [] ws := by
  obtain ⟨C, X, hfl, hX, hbl, hbA, hL, hi, hk, hn⟩ := h
  obtain ⟨lo0, P, N, a, b0, mv0, st0, ru, me, cb, al, ba, tr, nf, gf, fr, tt, to, fa, se, qu, th, qd, lk, fa2, qu2, nb, I, rfl⟩ := S
  obtain ⟨hc, ha, hb, hm0, hme, hba, hnf, hgf, htr, hst, hH⟩ := id I
  have hN6 : N ≤ 6 := hc.2.2.2
  have hP5 : P ≤ 5 := hc.2.1
  have hP3 : 3 ≤ P := hc.1
  have hP0 : 0 < P := by omega
  refine j_eq rfl rfl (show _ = (oC Y ho lo0 :: (lwA Y ad P N a b0 mv0 ru me cb al tr to fa se qu)) ++ (lwM Y ad2 P N mv0 st0 ru cb ba nf gf fr tt th qd lk fa2 qu2 nb) from rfl) ?_
  refine j_aload_n C dL_law_784 rfl ?_
  refine j_aload_n C dL_law_785 rfl ?_
  refine j_iload C dL_law_786 rfl ?_
  refine j_iconst C (nI 1) dL_law_788 (by decide) ?_
  refine j_iadd C dL_law_789 ?_
  refine j_sld C hX hbl hbA (i + 1) (nI_add _ _) (by omega) (by omega) dL_law_790 ?_
  refine j_aload_n C dL_law_791 rfl ?_
  refine j_callSW (wr := (lwM Y ad2 P N mv0 st0 ru cb ba nf gf fr tt th qd lk fa2 qu2 nb)) (st := []) C X [.ref (ad 0), .int (xs (i + 1)), .ref ho] [0, 1, 2, 3, 4, 5, 6, 7, 8, 9, 10] [11, 12, 13, 14, 15, 16, 17, 18, 19, 20, 21] (ct_L_top (lo0 := lo0) (ho := ho) (ct_X0_top hc ha hb hfl (ad := ad) (P := P) (N := N) (a := a) (b := b0) (mv0 := mv0) (ru := ru) (me := me) (cb := cb) (al := al) (tr := tr) (to := to) (fa := fa) (se := se) (qu := qu) (sp := fun i => nI (spT i))) (fun E w q => q.1)) rfl rfl rfl rfl (by decide) gw_L_117 nd_L_top ⟨by decide, by decide⟩ ⟨hk, hn⟩ (Nat.le_of_ble_eq_true rfl) dL_law_792 rfl (fun r w hp => ?_)
  obtain ⟨r5, rfl, hp⟩ := hp
  rcases hp with ⟨v, w1, rfl, hp, rfl⟩ | ⟨E, w1, rfl, hp, rfl⟩
  · rcases hp with ⟨g, to1, ex, hd, rfl, rfl⟩
    · refine j_top _ (nI 0) (rfl) ?_
      refine j_istore_5 C dL_law_795 (by decide) ?_
      refine j_aload_n C dL_law_797 rfl ?_
      refine j_aload_n C dL_law_798 rfl ?_
      refine j_iload C dL_law_799 rfl ?_
      refine j_iconst C (nI 1) dL_law_801 (by decide) ?_
      refine j_iadd C dL_law_802 ?_
      refine j_sld C hX hbl hbA (i + 1) (nI_add _ _) (by omega) (by omega) dL_law_803 ?_
      refine j_callVF (wr := (oC Y ho (vp_updL lo0 0 (Int32.toInt64 (oI (tp P N a g)))) :: (lwA Y ad P N a b0 mv0 ru me cb al tr to1 fa se qu))) (st := []) C [.int (xs (i + 1))] [0, 1, 2, 3, 4, 5, 6, 7, 8, 9, 10] [11, 12, 13, 14, 15, 16, 17, 18, 19, 20, 21] (ct_X1_top hc ha hb hnf hgf (s0 := nI st0) (ad := ad2) (P := P) (N := N) (a := a) (b := b0) (mv0 := mv0) (ru := ru) (cb := cb) (ba := ba) (nf := nf) (gf := gf) (fr := fr) (tt := tt) (th := th) (qd := qd) (lk := lk) (fa := fa2) (qu := qu2) (nb := nb)) rfl rfl rfl rfl (by decide) gw_L_119 nd_X1_top 1 0 rfl rfl rfl ⟨by decide, by decide⟩ ⟨hk, hn⟩ (Nat.le_of_ble_eq_true rfl) dL_law_804 rfl (fun r w hp2 => ?_)
      obtain ⟨r6, rfl, hp2⟩ := hp2
      rcases hp2 with ⟨g2, lk1, ex2, hd2, rfl, rfl⟩ | ⟨hf, _⟩
      · have e_g : g = g2 := nI_e (n := P) ex2 ex hd2 hd (by omega); subst e_g
        refine j_istore_6 C dL_law_807 (by decide) ?_
        refine j_aload_n C dL_law_809 rfl ?_
        refine j_callVF (wr := (oC Y ho (vp_updL lo0 0 (Int32.toInt64 (oI (tp P N a g)))) :: (lwA Y ad P N a b0 mv0 ru me cb al tr to1 fa se qu))) (st := []) C [] [11, 12, 13, 14, 15, 16, 17, 18, 19, 20, 21] [0, 1, 2, 3, 4, 5, 6, 7, 8, 9, 10] (ct_X1_thrown (ad := ad2) (th := (nI 0)) (p := nI P) (n := nI N) (ru := bi ru) (mc := nI mv0) (s0 := nI st0) (qd := qd) (nw := fun jj => nI (nf jj)) (gl := fun jj => nI (gf jj)) (co := fun jj => bi (cb jj)) (ba := fun jj => bi (ba jj)) (fr := fun jj => nI (fr jj)) (tt := fun jj => nI (tt jj)) (lk := lk1) (fa := fa2) (qu := qu2) (nb := nb)) rfl rfl rfl rfl (by decide) gw_L_69 nd_X1_thrown 1 0 rfl rfl rfl ⟨by decide, by decide⟩ ⟨hk, hn⟩ (Nat.le_of_ble_eq_true rfl) dL_law_810 rfl (fun r w hp3 => ?_)
        obtain ⟨r7, rfl, rfl, rfl⟩ := hp3
        refine j_iload C dL_law_813 rfl ?_
        refine j_icmp_eq C 820 dL_law_815 (by decide) (fun _ => ?_) (fun c => absurd rfl c)
        refine j_iload C dL_law_820 rfl ?_
        refine j_if_ne C 837 dL_law_822 (by decide) (fun c => absurd rfl c) (fun _ => ?_)
        refine j_aload_n C dL_law_825 rfl ?_
        refine j_iconst C (nI 0) dL_law_826 (by decide) ?_
        refine j_lald C 0 rfl 0 rfl (by decide) (by decide) dL_law_827 ?_
        refine j_iload C dL_law_828 rfl ?_
        refine j_i2l C dL_law_830 ?_
        refine j_lcmp C dL_law_831 ?_
        refine j_top _ 0 (lw_cmp (rfl)) ?_
        refine j_if_eq C 837 dL_law_832 (by decide) (fun _ => ?_) (fun c => absurd rfl c)
        refine j_goto C 1149 dL_law_837 (by decide) ?_
        exact nx _ _ _ (lwS_of (I))
      · exact absurd (in_t ex hd (by omega)) (by rw [hf]; decide)
  · rcases hp with ⟨rfl, hf, rfl⟩
    · refine j_top _ (nI 1) (rfl) ?_
      refine j_istore_5 C dL_law_795 (by decide) ?_
      refine j_aload_n C dL_law_797 rfl ?_
      refine j_aload_n C dL_law_798 rfl ?_
      refine j_iload C dL_law_799 rfl ?_
      refine j_iconst C (nI 1) dL_law_801 (by decide) ?_
      refine j_iadd C dL_law_802 ?_
      refine j_sld C hX hbl hbA (i + 1) (nI_add _ _) (by omega) (by omega) dL_law_803 ?_
      refine j_callVF (wr := (oC Y ho lo0 :: (lwA Y ad P N a b0 mv0 ru me cb al tr to fa se qu))) (st := []) C [.int (xs (i + 1))] [0, 1, 2, 3, 4, 5, 6, 7, 8, 9, 10] [11, 12, 13, 14, 15, 16, 17, 18, 19, 20, 21] (ct_X1_top hc ha hb hnf hgf (s0 := nI st0) (ad := ad2) (P := P) (N := N) (a := a) (b := b0) (mv0 := mv0) (ru := ru) (cb := cb) (ba := ba) (nf := nf) (gf := gf) (fr := fr) (tt := tt) (th := th) (qd := qd) (lk := lk) (fa := fa2) (qu := qu2) (nb := nb)) rfl rfl rfl rfl (by decide) gw_L_119 nd_X1_top 1 0 rfl rfl rfl ⟨by decide, by decide⟩ ⟨hk, hn⟩ (Nat.le_of_ble_eq_true rfl) dL_law_804 rfl (fun r w hp2 => ?_)
      obtain ⟨r6, rfl, hp2⟩ := hp2
      rcases hp2 with ⟨g2, lk1, ex2, hd2, _⟩ | ⟨_, rfl⟩
      · exact absurd (in_t ex2 hd2 (by omega)) (by rw [hf]; decide)
      · refine j_istore_6 C dL_law_807 (by decide) ?_
        refine j_aload_n C dL_law_809 rfl ?_
        refine j_callVF (wr := (oC Y ho lo0 :: (lwA Y ad P N a b0 mv0 ru me cb al tr to fa se qu))) (st := []) C [] [11, 12, 13, 14, 15, 16, 17, 18, 19, 20, 21] [0, 1, 2, 3, 4, 5, 6, 7, 8, 9, 10] (ct_X1_thrown (ad := ad2) (th := (nI 1)) (p := nI P) (n := nI N) (ru := bi ru) (mc := nI mv0) (s0 := nI st0) (qd := qd) (nw := fun jj => nI (nf jj)) (gl := fun jj => nI (gf jj)) (co := fun jj => bi (cb jj)) (ba := fun jj => bi (ba jj)) (fr := fun jj => nI (fr jj)) (tt := fun jj => nI (tt jj)) (lk := lk) (fa := fa2) (qu := qu2) (nb := nb)) rfl rfl rfl rfl (by decide) gw_L_69 nd_X1_thrown 1 0 rfl rfl rfl ⟨by decide, by decide⟩ ⟨hk, hn⟩ (Nat.le_of_ble_eq_true rfl) dL_law_810 rfl (fun r w hp3 => ?_)
        obtain ⟨r7, rfl, rfl, rfl⟩ := hp3
        refine j_iload C dL_law_813 rfl ?_
        refine j_icmp_eq C 820 dL_law_815 (by decide) (fun _ => ?_) (fun c => absurd rfl c)
        refine j_iload C dL_law_820 rfl ?_
        refine j_if_ne C 837 dL_law_822 (by decide) (fun _ => ?_) (fun c => absurd c (by decide))
        refine j_goto C 1149 dL_law_837 (by decide) ?_
        exact nx _ _ _ (lwS_of (I))
set_option maxHeartbeats 4000000 in
set_option maxRecDepth 100000 in
theorem lc_arrangement {K : jk_T} {Y : jy_T} {ad ad2 : Nat → Nat} {ho b L i k n : Nat} {xs : Nat → Int32} (h : lwK K Y b L xs i k n) (nx : lwN K Y ad ad2 ho b i k n) {ws : va_W} (S : lwS Y ad ad2 ho ws) {l5 l6 : Option Value} : jJ K k n 840 (lwL ad ad2 ho b i l5 l6) [] ws := by
  obtain ⟨C, X, hfl, hX, hbl, hbA, hL, hi, hk, hn⟩ := h
  obtain ⟨lo0, P, N, a, b0, mv0, st0, ru, me, cb, al, ba, tr, nf, gf, fr, tt, to, fa, se, qu, th, qd, lk, fa2, qu2, nb, I, rfl⟩ := S
  obtain ⟨hc, ha, hb, hm0, hme, hba, hnf, hgf, htr, hst, hH⟩ := id I
  have hN6 : N ≤ 6 := hc.2.2.2
  have hP5 : P ≤ 5 := hc.2.1
  have hP3 : 3 ≤ P := hc.1
  have hP0 : 0 < P := by omega
  refine j_eq rfl rfl (show _ = (oC Y ho lo0 :: (lwA Y ad P N a b0 mv0 ru me cb al tr to fa se qu)) ++ (lwM Y ad2 P N mv0 st0 ru cb ba nf gf fr tt th qd lk fa2 qu2 nb) from rfl) ?_
  refine j_aload_n C dL_law_840 rfl ?_
  refine j_callVF (wr := oC Y ho lo0 :: (lwM Y ad2 P N mv0 st0 ru cb ba nf gf fr tt th qd lk fa2 qu2 nb)) (st := []) C [] [1, 2, 3, 4, 5, 6, 7, 8, 9, 10] [0, 11, 12, 13, 14, 15, 16, 17, 18, 19, 20, 21] (ct_X0_arrangement  (ad := ad) (p := nI P) (n := nI N) (ru := bi ru) (nw := nI a) (tg := nI b0) (mc := nI mv0) (me := bi me) (we := fun d => nI (P ^ d)) (co := fun d => bi (cb d)) (al := fun k => bi (al k)) (tr := fun k => nI (tr k)) (to := to) (fa := fa) (se := se) (qu := qu) (sp := fun i => nI (spT i))) rfl rfl rfl rfl (by decide) gw_L_120 nd_X0_arrangement 0 0 rfl rfl rfl ⟨by decide, by decide⟩ ⟨by show k + 0 ≤ 601024; omega, by show n + 0 ≤ 7293034; omega⟩ (Nat.le_of_ble_eq_true rfl) dL_law_841 rfl (fun r w hp => ?_)
  obtain ⟨r5, rfl, hp⟩ := hp
  obtain ⟨rfl, rfl⟩ := hp
  refine j_aload_n C dL_law_844 rfl ?_
  refine j_callVF (wr := oC Y ho lo0 :: (lwA Y ad P N a b0 mv0 ru me cb al tr to fa se qu)) (st := [_]) C [] [1, 2, 3, 4, 5, 6, 7, 8, 9, 10, 11] [0, 12, 13, 14, 15, 16, 17, 18, 19, 20, 21] (ct_X1_arrangement hc ha hb hnf hgf (s0 := nI st0) (ad := ad2) (P := P) (N := N) (a := a) (b := b0) (mv0 := mv0) (ru := ru) (cb := cb) (ba := ba) (nf := nf) (gf := gf) (fr := fr) (tt := tt) (th := th) (qd := qd) (lk := lk) (fa := fa2) (qu := qu2) (nb := nb) ) rfl rfl rfl rfl (by decide) gw_L_123 nd_X1_arrangement 1 0 rfl rfl rfl ⟨by decide, by decide⟩ ⟨by show k + 0 + 0 ≤ 601024; omega, by show n + 0 + 0 ≤ 7293034; omega⟩ (Nat.le_of_ble_eq_true rfl) dL_law_845 rfl (fun r w hp => ?_)
  obtain ⟨r6, rfl, hp⟩ := hp
  obtain ⟨rfl, rfl⟩ := hp
  refine j_icmp_eq C 1149 dL_law_848 (by decide) (fun _ => ?_) (fun c => absurd (rfl) c)
  refine j_widen (Nat.le_succ k) (Nat.le_add_right n 6) ?_
  exact nx _ _ _ (lwS_of (I))
set_option maxHeartbeats 4000000 in
set_option maxRecDepth 100000 in
theorem lc_goal {K : jk_T} {Y : jy_T} {ad ad2 : Nat → Nat} {ho b L i k n : Nat} {xs : Nat → Int32} (h : lwK K Y b L xs i k n) (nx : lwN K Y ad ad2 ho b i k n) {ws : va_W} (S : lwS Y ad ad2 ho ws) {l5 l6 : Option Value} : jJ K k n 853 (lwL ad ad2 ho b i l5 l6) [] ws := by
  obtain ⟨C, X, hfl, hX, hbl, hbA, hL, hi, hk, hn⟩ := h
  obtain ⟨lo0, P, N, a, b0, mv0, st0, ru, me, cb, al, ba, tr, nf, gf, fr, tt, to, fa, se, qu, th, qd, lk, fa2, qu2, nb, I, rfl⟩ := S
  obtain ⟨hc, ha, hb, hm0, hme, hba, hnf, hgf, htr, hst, hH⟩ := id I
  have hN6 : N ≤ 6 := hc.2.2.2
  have hP5 : P ≤ 5 := hc.2.1
  have hP3 : 3 ≤ P := hc.1
  have hP0 : 0 < P := by omega
  refine j_eq rfl rfl (show _ = (oC Y ho lo0 :: (lwA Y ad P N a b0 mv0 ru me cb al tr to fa se qu)) ++ (lwM Y ad2 P N mv0 st0 ru cb ba nf gf fr tt th qd lk fa2 qu2 nb) from rfl) ?_
  refine j_aload_n C dL_law_853 rfl ?_
  refine j_callVF (wr := oC Y ho lo0 :: (lwM Y ad2 P N mv0 st0 ru cb ba nf gf fr tt th qd lk fa2 qu2 nb)) (st := []) C [] [1, 2, 3, 4, 5, 6, 7, 8, 9, 10] [0, 11, 12, 13, 14, 15, 16, 17, 18, 19, 20, 21] (ct_X0_goal  (ad := ad) (p := nI P) (n := nI N) (ru := bi ru) (nw := nI a) (tg := nI b0) (mc := nI mv0) (me := bi me) (we := fun d => nI (P ^ d)) (co := fun d => bi (cb d)) (al := fun k => bi (al k)) (tr := fun k => nI (tr k)) (to := to) (fa := fa) (se := se) (qu := qu) (sp := fun i => nI (spT i))) rfl rfl rfl rfl (by decide) gw_L_124 nd_X0_goal 0 0 rfl rfl rfl ⟨by decide, by decide⟩ ⟨by show k + 0 ≤ 601024; omega, by show n + 0 ≤ 7293034; omega⟩ (Nat.le_of_ble_eq_true rfl) dL_law_854 rfl (fun r w hp => ?_)
  obtain ⟨r5, rfl, hp⟩ := hp
  obtain ⟨rfl, rfl⟩ := hp
  refine j_aload_n C dL_law_857 rfl ?_
  refine j_callVF (wr := oC Y ho lo0 :: (lwA Y ad P N a b0 mv0 ru me cb al tr to fa se qu)) (st := [_]) C [] [1, 2, 3, 4, 5, 6, 7, 8, 9, 10, 11] [0, 12, 13, 14, 15, 16, 17, 18, 19, 20, 21] (ct_X1_goal hc ha hb hnf hgf (s0 := nI st0) (ad := ad2) (P := P) (N := N) (a := a) (b := b0) (mv0 := mv0) (ru := ru) (cb := cb) (ba := ba) (nf := nf) (gf := gf) (fr := fr) (tt := tt) (th := th) (qd := qd) (lk := lk) (fa := fa2) (qu := qu2) (nb := nb) ) rfl rfl rfl rfl (by decide) gw_L_127 nd_X1_goal 1 0 rfl rfl rfl ⟨by decide, by decide⟩ ⟨by show k + 0 + 0 ≤ 601024; omega, by show n + 0 + 0 ≤ 7293034; omega⟩ (Nat.le_of_ble_eq_true rfl) dL_law_858 rfl (fun r w hp => ?_)
  obtain ⟨r6, rfl, hp⟩ := hp
  obtain ⟨rfl, rfl⟩ := hp
  refine j_icmp_eq C 1149 dL_law_861 (by decide) (fun _ => ?_) (fun c => absurd (rfl) c)
  refine j_widen (Nat.le_succ k) (Nat.le_add_right n 6) ?_
  exact nx _ _ _ (lwS_of (I))
set_option maxHeartbeats 4000000 in
set_option maxRecDepth 100000 in
theorem lc_isLawful {K : jk_T} {Y : jy_T} {ad ad2 : Nat → Nat} {ho b L i k n : Nat} {xs : Nat → Int32} (h : lwK K Y b L xs i k n) (nx : lwN K Y ad ad2 ho b i k n) {ws : va_W} (S : lwS Y ad ad2 ho ws) {l5 l6 : Option Value} : jJ K k n 866 (lwL ad ad2 ho b i l5 l6) [] ws := by
  obtain ⟨C, X, hfl, hX, hbl, hbA, hL, hi, hk, hn⟩ := h
  obtain ⟨lo0, P, N, a, b0, mv0, st0, ru, me, cb, al, ba, tr, nf, gf, fr, tt, to, fa, se, qu, th, qd, lk, fa2, qu2, nb, I, rfl⟩ := S
  obtain ⟨hc, ha, hb, hm0, hme, hba, hnf, hgf, htr, hst, hH⟩ := id I
  have hN6 : N ≤ 6 := hc.2.2.2
  have hP5 : P ≤ 5 := hc.2.1
  have hP3 : 3 ≤ P := hc.1
  have hP0 : 0 < P := by omega
  refine j_eq rfl rfl (show _ = (oC Y ho lo0 :: (lwA Y ad P N a b0 mv0 ru me cb al tr to fa se qu)) ++ (lwM Y ad2 P N mv0 st0 ru cb ba nf gf fr tt th qd lk fa2 qu2 nb) from rfl) ?_
  refine j_aload_n C dL_law_866 rfl ?_
  refine j_callVF (wr := oC Y ho lo0 :: (lwM Y ad2 P N mv0 st0 ru cb ba nf gf fr tt th qd lk fa2 qu2 nb)) (st := []) C [] [1, 2, 3, 4, 5, 6, 7, 8, 9, 10] [0, 11, 12, 13, 14, 15, 16, 17, 18, 19, 20, 21] (ct_X0_isLawful hc ha (ad := ad) (P := P) (N := N) (a := a) (ru := ru) (cb := cb) (to := to) (fa := fa) (se := se) (qu := qu) (sp := fun i => nI (spT i)) (mc := nI mv0) (me := bi me) (tg := nI b0) (al := fun k => bi (al k)) (tr := fun k => nI (tr k))) rfl rfl rfl rfl (by decide) gw_L_128 nd_X0_isLawful 0 0 rfl rfl rfl ⟨by decide, by decide⟩ ⟨by show k + 0 ≤ 601024; omega, by show n + 0 ≤ 7293034; omega⟩ (Nat.le_of_ble_eq_true rfl) dL_law_867 rfl (fun r w hp => ?_)
  obtain ⟨r5, rfl, hp⟩ := hp
  obtain ⟨rfl, rfl⟩ := hp
  refine j_aload_n C dL_law_870 rfl ?_
  refine j_callVF (wr := oC Y ho lo0 :: (lwA Y ad P N a b0 mv0 ru me cb al tr to fa se qu)) (st := [_]) C [] [1, 2, 3, 4, 5, 6, 7, 8, 9, 10, 11] [0, 12, 13, 14, 15, 16, 17, 18, 19, 20, 21] (ct_X1_isLawful hc ha hb hnf hgf (s0 := nI st0) (ad := ad2) (P := P) (N := N) (a := a) (b := b0) (mv0 := mv0) (ru := ru) (cb := cb) (ba := ba) (nf := nf) (gf := gf) (fr := fr) (tt := tt) (th := th) (qd := qd) (lk := lk) (fa := fa2) (qu := qu2) (nb := nb) ) rfl rfl rfl rfl (by decide) gw_L_132 nd_X1_isLawful 1 0 rfl rfl rfl ⟨by decide, by decide⟩ ⟨by show k + 0 + 0 ≤ 601024; omega, by show n + 0 + 0 ≤ 7293034; omega⟩ (Nat.le_of_ble_eq_true rfl) dL_law_871 rfl (fun r w hp => ?_)
  obtain ⟨r6, rfl, hp⟩ := hp
  obtain ⟨lk1, rfl, rfl⟩ := hp
  refine j_icmp_eq C 1149 dL_law_874 (by decide) (fun _ => ?_) (fun c => absurd (rfl) c)
  refine j_widen (Nat.le_succ k) (Nat.le_add_right n 6) ?_
  exact nx _ _ _ (lwS_of (I))
set_option maxHeartbeats 4000000 in
set_option maxRecDepth 100000 in
theorem lc_canMove {K : jk_T} {Y : jy_T} {ad ad2 : Nat → Nat} {ho b L i k n : Nat} {xs : Nat → Int32} (h : lwK K Y b L xs i k n) (nx : lwN K Y ad ad2 ho b i k n) {ws : va_W} (S : lwS Y ad ad2 ho ws) {l5 l6 : Option Value} : jJ K k n 879 (lwL ad ad2 ho b i l5 l6) [] ws := by
  obtain ⟨C, X, hfl, hX, hbl, hbA, hL, hi, hk, hn⟩ := h
  obtain ⟨lo0, P, N, a, b0, mv0, st0, ru, me, cb, al, ba, tr, nf, gf, fr, tt, to, fa, se, qu, th, qd, lk, fa2, qu2, nb, I, rfl⟩ := S
  obtain ⟨hc, ha, hb, hm0, hme, hba, hnf, hgf, htr, hst, hH⟩ := id I
  have hN6 : N ≤ 6 := hc.2.2.2
  have hP5 : P ≤ 5 := hc.2.1
  have hP3 : 3 ≤ P := hc.1
  have hP0 : 0 < P := by omega
  refine j_eq rfl rfl (show _ = (oC Y ho lo0 :: (lwA Y ad P N a b0 mv0 ru me cb al tr to fa se qu)) ++ (lwM Y ad2 P N mv0 st0 ru cb ba nf gf fr tt th qd lk fa2 qu2 nb) from rfl) ?_
  refine j_aload_n C dL_law_879 rfl ?_
  refine j_aload_n C dL_law_880 rfl ?_
  refine j_iload C dL_law_881 rfl ?_
  refine j_iconst C (nI 1) dL_law_883 (by decide) ?_
  refine j_iadd C dL_law_884 ?_
  refine j_sld C hX hbl hbA (i + 1) (nI_add _ _) (by omega) (by omega) dL_law_885 ?_
  refine j_aload_n C dL_law_886 rfl ?_
  refine j_iload C dL_law_887 rfl ?_
  refine j_iconst C (nI 2) dL_law_889 (by decide) ?_
  refine j_iadd C dL_law_890 ?_
  refine j_sld C hX hbl hbA (i + 2) (nI_add _ _) (by omega) (by omega) dL_law_891 ?_
  refine j_aload_n C dL_law_892 rfl ?_
  refine j_callSW (wr := (lwM Y ad2 P N mv0 st0 ru cb ba nf gf fr tt th qd lk fa2 qu2 nb)) (st := []) C X [.ref (ad 0), .int (xs (i + 1)), .int (xs (i + 2)), .ref ho] [0, 1, 2, 3, 4, 5, 6, 7, 8, 9, 10] [11, 12, 13, 14, 15, 16, 17, 18, 19, 20, 21] (ct_L_canMove (lo0 := lo0) (ho := ho) (ct_X0_canMove hc ha hb hfl (ad := ad) (P := P) (N := N) (a := a) (b := b0) (mv0 := mv0) (ru := ru) (me := me) (cb := cb) (al := al) (tr := tr) (to := to) (fa := fa) (se := se) (qu := qu) (sp := fun i => nI (spT i))) (fun E w q => q.1)) rfl rfl rfl rfl (by decide) gw_L_133 nd_L_canMove ⟨by decide, by decide⟩ ⟨hk, hn⟩ (Nat.le_of_ble_eq_true rfl) dL_law_893 rfl (fun r w hp => ?_)
  obtain ⟨r5, rfl, hp⟩ := hp
  rcases hp with ⟨v, w1, rfl, hp, rfl⟩ | ⟨E, w1, rfl, hp, rfl⟩
  · rcases hp with ⟨f, t, to1, ex, hf0, ey, ht, rfl, rfl⟩
    · refine j_top _ (nI 0) (rfl) ?_
      refine j_istore_5 C dL_law_896 (by decide) ?_
      refine j_aload_n C dL_law_898 rfl ?_
      refine j_aload_n C dL_law_899 rfl ?_
      refine j_iload C dL_law_900 rfl ?_
      refine j_iconst C (nI 1) dL_law_902 (by decide) ?_
      refine j_iadd C dL_law_903 ?_
      refine j_sld C hX hbl hbA (i + 1) (nI_add _ _) (by omega) (by omega) dL_law_904 ?_
      refine j_aload_n C dL_law_905 rfl ?_
      refine j_iload C dL_law_906 rfl ?_
      refine j_iconst C (nI 2) dL_law_908 (by decide) ?_
      refine j_iadd C dL_law_909 ?_
      refine j_sld C hX hbl hbA (i + 2) (nI_add _ _) (by omega) (by omega) dL_law_910 ?_
      refine j_callVF (wr := (oC Y ho (vp_updL lo0 0 (i2b (bi (psB P N ru cb al a f t)))) :: (lwA Y ad P N a b0 mv0 ru me cb al tr to1 fa se qu))) (st := []) C [.int (xs (i + 1)), .int (xs (i + 2))] [0, 1, 2, 3, 4, 5, 6, 7, 8, 9, 10] [11, 12, 13, 14, 15, 16, 17, 18, 19, 20, 21] (ct_X1_canMove hc ha hb hnf hgf (s0 := nI st0) (ad := ad2) (P := P) (N := N) (a := a) (b := b0) (mv0 := mv0) (ru := ru) (cb := cb) (ba := ba) (nf := nf) (gf := gf) (fr := fr) (tt := tt) (th := th) (qd := qd) (lk := lk) (fa := fa2) (qu := qu2) (nb := nb)) rfl rfl rfl rfl (by decide) gw_L_135 nd_X1_canMove 1 0 rfl rfl rfl ⟨by decide, by decide⟩ ⟨hk, hn⟩ (Nat.le_of_ble_eq_true rfl) dL_law_911 rfl (fun r w hp2 => ?_)
      obtain ⟨r6, rfl, hp2⟩ := hp2
      rcases hp2 with ⟨f2, t2, lk1, ex2, hf2, ey2, ht2, rfl, rfl⟩ | ⟨hf, _⟩
      · have e_f : f = f2 := nI_e (n := P) ex2 ex hf2 hf0 (by omega); subst e_f
        have e_t : t = t2 := nI_e (n := P) ey2 ey ht2 ht (by omega); subst e_t
        refine j_istore_6 C dL_law_914 (by decide) ?_
        refine j_aload_n C dL_law_916 rfl ?_
        refine j_callVF (wr := (oC Y ho (vp_updL lo0 0 (i2b (bi (psB P N ru cb al a f t)))) :: (lwA Y ad P N a b0 mv0 ru me cb al tr to1 fa se qu))) (st := []) C [] [11, 12, 13, 14, 15, 16, 17, 18, 19, 20, 21] [0, 1, 2, 3, 4, 5, 6, 7, 8, 9, 10] (ct_X1_thrown (ad := ad2) (th := (nI 0)) (p := nI P) (n := nI N) (ru := bi ru) (mc := nI mv0) (s0 := nI st0) (qd := qd) (nw := fun jj => nI (nf jj)) (gl := fun jj => nI (gf jj)) (co := fun jj => bi (cb jj)) (ba := fun jj => bi (ba jj)) (fr := fun jj => nI (fr jj)) (tt := fun jj => nI (tt jj)) (lk := lk1) (fa := fa2) (qu := qu2) (nb := nb)) rfl rfl rfl rfl (by decide) gw_L_69 nd_X1_thrown 1 0 rfl rfl rfl ⟨by decide, by decide⟩ ⟨hk, hn⟩ (Nat.le_of_ble_eq_true rfl) dL_law_917 rfl (fun r w hp3 => ?_)
        obtain ⟨r7, rfl, rfl, rfl⟩ := hp3
        refine j_iload C dL_law_920 rfl ?_
        refine j_icmp_eq C 927 dL_law_922 (by decide) (fun _ => ?_) (fun c => absurd rfl c)
        refine j_iload C dL_law_927 rfl ?_
        refine j_if_ne C 951 dL_law_929 (by decide) (fun c => absurd rfl c) (fun _ => ?_)
        refine j_aload_n C dL_law_932 rfl ?_
        refine j_iconst C (nI 0) dL_law_933 (by decide) ?_
        refine j_lald C 0 rfl 0 rfl (by decide) (by decide) dL_law_934 ?_
        refine j_iload C dL_law_935 rfl ?_
        refine j_bl C dL_law_937 dL_law_940 dL_law_941 dL_law_944 ?_
        refine j_lcmp C dL_law_945 ?_
        refine j_top _ 0 (lw_cmpB (by rw [lw_nb hba])) ?_
        refine j_if_eq C 951 dL_law_946 (by decide) (fun _ => ?_) (fun c => absurd rfl c)
        refine j_goto C 1149 dL_law_951 (by decide) ?_
        exact nx _ _ _ (lwS_of (I))
      · exact absurd (in_2 ex hf0 ey ht (by omega) (by omega)) (by rw [hf]; decide)
  · rcases hp with ⟨rfl, hf, rfl⟩
    · refine j_top _ (nI 1) (rfl) ?_
      refine j_istore_5 C dL_law_896 (by decide) ?_
      refine j_aload_n C dL_law_898 rfl ?_
      refine j_aload_n C dL_law_899 rfl ?_
      refine j_iload C dL_law_900 rfl ?_
      refine j_iconst C (nI 1) dL_law_902 (by decide) ?_
      refine j_iadd C dL_law_903 ?_
      refine j_sld C hX hbl hbA (i + 1) (nI_add _ _) (by omega) (by omega) dL_law_904 ?_
      refine j_aload_n C dL_law_905 rfl ?_
      refine j_iload C dL_law_906 rfl ?_
      refine j_iconst C (nI 2) dL_law_908 (by decide) ?_
      refine j_iadd C dL_law_909 ?_
      refine j_sld C hX hbl hbA (i + 2) (nI_add _ _) (by omega) (by omega) dL_law_910 ?_
      refine j_callVF (wr := (oC Y ho lo0 :: (lwA Y ad P N a b0 mv0 ru me cb al tr to fa se qu))) (st := []) C [.int (xs (i + 1)), .int (xs (i + 2))] [0, 1, 2, 3, 4, 5, 6, 7, 8, 9, 10] [11, 12, 13, 14, 15, 16, 17, 18, 19, 20, 21] (ct_X1_canMove hc ha hb hnf hgf (s0 := nI st0) (ad := ad2) (P := P) (N := N) (a := a) (b := b0) (mv0 := mv0) (ru := ru) (cb := cb) (ba := ba) (nf := nf) (gf := gf) (fr := fr) (tt := tt) (th := th) (qd := qd) (lk := lk) (fa := fa2) (qu := qu2) (nb := nb)) rfl rfl rfl rfl (by decide) gw_L_135 nd_X1_canMove 1 0 rfl rfl rfl ⟨by decide, by decide⟩ ⟨hk, hn⟩ (Nat.le_of_ble_eq_true rfl) dL_law_911 rfl (fun r w hp2 => ?_)
      obtain ⟨r6, rfl, hp2⟩ := hp2
      rcases hp2 with ⟨f2, t2, lk1, ex2, hf2, ey2, ht2, _⟩ | ⟨_, rfl, rfl⟩
      · exact absurd (in_2 ex2 hf2 ey2 ht2 (by omega) (by omega)) (by rw [hf]; decide)
      · refine j_istore_6 C dL_law_914 (by decide) ?_
        refine j_aload_n C dL_law_916 rfl ?_
        refine j_callVF (wr := (oC Y ho lo0 :: (lwA Y ad P N a b0 mv0 ru me cb al tr to fa se qu))) (st := []) C [] [11, 12, 13, 14, 15, 16, 17, 18, 19, 20, 21] [0, 1, 2, 3, 4, 5, 6, 7, 8, 9, 10] (ct_X1_thrown (ad := ad2) (th := (nI 1)) (p := nI P) (n := nI N) (ru := bi ru) (mc := nI mv0) (s0 := nI st0) (qd := qd) (nw := fun jj => nI (nf jj)) (gl := fun jj => nI (gf jj)) (co := fun jj => bi (cb jj)) (ba := fun jj => bi (ba jj)) (fr := fun jj => nI (fr jj)) (tt := fun jj => nI (tt jj)) (lk := lk) (fa := fa2) (qu := qu2) (nb := nb)) rfl rfl rfl rfl (by decide) gw_L_69 nd_X1_thrown 1 0 rfl rfl rfl ⟨by decide, by decide⟩ ⟨hk, hn⟩ (Nat.le_of_ble_eq_true rfl) dL_law_917 rfl (fun r w hp3 => ?_)
        obtain ⟨r7, rfl, rfl, rfl⟩ := hp3
        refine j_iload C dL_law_920 rfl ?_
        refine j_icmp_eq C 927 dL_law_922 (by decide) (fun _ => ?_) (fun c => absurd rfl c)
        refine j_iload C dL_law_927 rfl ?_
        refine j_if_ne C 951 dL_law_929 (by decide) (fun _ => ?_) (fun c => absurd c (by decide))
        refine j_goto C 1149 dL_law_951 (by decide) ?_
        exact nx _ _ _ (lwS_of (I))
set_option maxHeartbeats 4000000 in
set_option maxRecDepth 100000 in
theorem lc_way {K : jk_T} {Y : jy_T} {ad ad2 : Nat → Nat} {ho b L i k n : Nat} {xs : Nat → Int32} (h : lwK K Y b L xs i k n) (nx : lwN K Y ad ad2 ho b i k n) {ws : va_W} (S : lwS Y ad ad2 ho ws) {l5 l6 : Option Value} : jJ K k n 954 (lwL ad ad2 ho b i l5 l6) [] ws := by
  obtain ⟨C, X, hfl, hX, hbl, hbA, hL, hi, hk, hn⟩ := h
  obtain ⟨lo0, P, N, a, b0, mv0, st0, ru, me, cb, al, ba, tr, nf, gf, fr, tt, to, fa, se, qu, th, qd, lk, fa2, qu2, nb, I, rfl⟩ := S
  obtain ⟨hc, ha, hb, hm0, hme, hba, hnf, hgf, htr, hst, hH⟩ := id I
  have hN6 : N ≤ 6 := hc.2.2.2
  have hP5 : P ≤ 5 := hc.2.1
  have hP3 : 3 ≤ P := hc.1
  have hP0 : 0 < P := by omega
  refine j_eq rfl rfl (show _ = (oC Y ho lo0 :: (lwA Y ad P N a b0 mv0 ru me cb al tr to fa se qu)) ++ (lwM Y ad2 P N mv0 st0 ru cb ba nf gf fr tt th qd lk fa2 qu2 nb) from rfl) ?_
  refine j_aload_n C dL_law_954 rfl ?_
  refine j_callVF (wr := oC Y ho lo0 :: (lwM Y ad2 P N mv0 st0 ru cb ba nf gf fr tt th qd lk fa2 qu2 nb)) (st := []) C [] [1, 2, 3, 4, 5, 6, 7, 8, 9, 10] [0, 11, 12, 13, 14, 15, 16, 17, 18, 19, 20, 21] (ct_X0_way hc ha hb hme (ad := ad) (P := P) (N := N) (a := a) (ru := ru) (cb := cb) (to := to) (fa := fa) (se := se) (qu := qu) (sp := fun i => nI (spT i)) (mc := nI mv0) (b := b0) (me := me) (al := al) (tr := fun k => nI (tr k))) rfl rfl rfl rfl (by decide) gw_L_136 nd_X0_way 0 0 rfl rfl rfl ⟨by decide, by decide⟩ ⟨by show k + 0 ≤ 601024; omega, by show n + 0 ≤ 7293034; omega⟩ (Nat.le_of_ble_eq_true rfl) dL_law_955 rfl (fun r w hp => ?_)
  obtain ⟨r5, rfl, hp⟩ := hp
  obtain ⟨ds1, fa1, qu1, to1, rfl, hsr, hst1, rfl⟩ := hp
  refine j_aload_n C dL_law_958 rfl ?_
  refine j_callVF (wr := oC Y ho lo0 :: (lwA Y ad P N a b0 mv0 ru true cb al tr to1 fa1 se qu1)) (st := [_]) C [] [1, 2, 3, 4, 5, 6, 7, 8, 9, 10, 11] [0, 12, 13, 14, 15, 16, 17, 18, 19, 20, 21] (ct_X1_way hc ha hb hnf hgf (s0 := nI st0) (ad := ad2) (P := P) (N := N) (a := a) (b := b0) (mv0 := mv0) (ru := ru) (cb := cb) (ba := ba) (nf := nf) (gf := gf) (fr := fr) (tt := tt) (th := th) (qd := qd) (lk := lk) (fa := fa2) (qu := qu2) (nb := nb) ) rfl rfl rfl rfl (by decide) gw_L_139 nd_X1_way 1 0 rfl rfl rfl ⟨by decide, by decide⟩ ⟨by show k + 0 + 0 ≤ 601024; omega, by show n + 0 + 0 ≤ 7293034; omega⟩ (Nat.le_of_ble_eq_true rfl) dL_law_959 rfl (fun r w hp => ?_)
  obtain ⟨r6, rfl, hp⟩ := hp
  obtain ⟨fo1, d1, s1, qu3, lk1, rfl, hs1, rfl⟩ := hp
  refine j_icmp_eq C 1149 dL_law_962 (by decide) (fun _ => ?_) (fun c => absurd (by rw [way_eq hP0 hba hb ha hsr (srF_D hs1)]) c)
  refine j_widen (Nat.le_succ k) (Nat.le_add_right n 6) ?_
  exact nx _ _ _ (lwS_of (INV_far I ⟨ds1, hsr, hst1⟩))
set_option maxHeartbeats 4000000 in
set_option maxRecDepth 100000 in
theorem lc_wayByDisks {K : jk_T} {Y : jy_T} {ad ad2 : Nat → Nat} {ho b L i k n : Nat} {xs : Nat → Int32} (h : lwK K Y b L xs i k n) (nx : lwN K Y ad ad2 ho b i k n) {ws : va_W} (S : lwS Y ad ad2 ho ws) {l5 l6 : Option Value} : jJ K k n 967 (lwL ad ad2 ho b i l5 l6) [] ws := by
  obtain ⟨C, X, hfl, hX, hbl, hbA, hL, hi, hk, hn⟩ := h
  obtain ⟨lo0, P, N, a, b0, mv0, st0, ru, me, cb, al, ba, tr, nf, gf, fr, tt, to, fa, se, qu, th, qd, lk, fa2, qu2, nb, I, rfl⟩ := S
  obtain ⟨hc, ha, hb, hm0, hme, hba, hnf, hgf, htr, hst, hH⟩ := id I
  have hN6 : N ≤ 6 := hc.2.2.2
  have hP5 : P ≤ 5 := hc.2.1
  have hP3 : 3 ≤ P := hc.1
  have hP0 : 0 < P := by omega
  refine j_eq rfl rfl (show _ = (oC Y ho lo0 :: (lwA Y ad P N a b0 mv0 ru me cb al tr to fa se qu)) ++ (lwM Y ad2 P N mv0 st0 ru cb ba nf gf fr tt th qd lk fa2 qu2 nb) from rfl) ?_
  refine j_aload_n C dL_law_967 rfl ?_
  refine j_aload_n C dL_law_968 rfl ?_
  refine j_callSW (wr := (lwM Y ad2 P N mv0 st0 ru cb ba nf gf fr tt th qd lk fa2 qu2 nb)) (st := []) C X [.ref (ad 0), .ref ho] [0, 1, 2, 3, 4, 5, 6, 7, 8, 9, 10] [11, 12, 13, 14, 15, 16, 17, 18, 19, 20, 21] (ct_L_wayByDisks (lo0 := lo0) (ho := ho) (ct_X0_wayByDisks hc ha hb hfl (ad := ad) (P := P) (N := N) (a := a) (b := b0) (mv0 := mv0) (ru := ru) (me := me) (cb := cb) (al := al) (tr := tr) (to := to) (fa := fa) (se := se) (qu := qu) (sp := fun i => nI (spT i))) (fun E w q => q.1)) rfl rfl rfl rfl (by decide) gw_L_140 nd_L_wayByDisks ⟨by decide, by decide⟩ ⟨hk, hn⟩ (Nat.le_of_ble_eq_true rfl) dL_law_969 rfl (fun r w hp => ?_)
  obtain ⟨r5, rfl, hp⟩ := hp
  rcases hp with ⟨v, w1, rfl, hp, rfl⟩ | ⟨E, w1, rfl, hp, rfl⟩
  · rcases hp with ⟨h3, hru, hal, rfl, rfl⟩
    · refine j_top _ (nI 0) (rfl) ?_
      refine j_istore_5 C dL_law_972 (by decide) ?_
      refine j_aload_n C dL_law_974 rfl ?_
      refine j_callVF (wr := (oC Y ho (vp_updL lo0 0 (Int32.toInt64 (nI (wbV (dg 3 a) (dg 3 b0) N)))) :: (lwA Y ad P N a b0 mv0 ru me cb al tr to fa se qu))) (st := []) C [] [0, 1, 2, 3, 4, 5, 6, 7, 8, 9, 10] [11, 12, 13, 14, 15, 16, 17, 18, 19, 20, 21] (ct_X1_wayByDisks hc ha hb hnf hgf (s0 := nI st0) (ad := ad2) (P := P) (N := N) (a := a) (b := b0) (mv0 := mv0) (ru := ru) (cb := cb) (ba := ba) (nf := nf) (gf := gf) (fr := fr) (tt := tt) (th := th) (qd := qd) (lk := lk) (fa := fa2) (qu := qu2) (nb := nb)) rfl rfl rfl rfl (by decide) gw_L_142 nd_X1_wayByDisks 1 0 rfl rfl rfl ⟨by decide, by decide⟩ ⟨hk, hn⟩ (Nat.le_of_ble_eq_true rfl) dL_law_975 rfl (fun r w hp2 => ?_)
      obtain ⟨r6, rfl, hp2⟩ := hp2
      rcases hp2 with ⟨_, _, _, rfl, rfl⟩ | ⟨hn2, _⟩
      · refine j_istore_6 C dL_law_978 (by decide) ?_
        refine j_aload_n C dL_law_980 rfl ?_
        refine j_callVF (wr := (oC Y ho (vp_updL lo0 0 (Int32.toInt64 (nI (wbV (dg 3 a) (dg 3 b0) N)))) :: (lwA Y ad P N a b0 mv0 ru me cb al tr to fa se qu))) (st := []) C [] [11, 12, 13, 14, 15, 16, 17, 18, 19, 20, 21] [0, 1, 2, 3, 4, 5, 6, 7, 8, 9, 10] (ct_X1_thrown (ad := ad2) (th := (nI 0)) (p := nI P) (n := nI N) (ru := bi ru) (mc := nI mv0) (s0 := nI st0) (qd := qd) (nw := fun jj => nI (nf jj)) (gl := fun jj => nI (gf jj)) (co := fun jj => bi (cb jj)) (ba := fun jj => bi (ba jj)) (fr := fun jj => nI (fr jj)) (tt := fun jj => nI (tt jj)) (lk := lk) (fa := fa2) (qu := qu2) (nb := nb)) rfl rfl rfl rfl (by decide) gw_L_69 nd_X1_thrown 1 0 rfl rfl rfl ⟨by decide, by decide⟩ ⟨hk, hn⟩ (Nat.le_of_ble_eq_true rfl) dL_law_981 rfl (fun r w hp3 => ?_)
        obtain ⟨r7, rfl, rfl, rfl⟩ := hp3
        refine j_iload C dL_law_984 rfl ?_
        refine j_icmp_eq C 991 dL_law_986 (by decide) (fun _ => ?_) (fun c => absurd rfl c)
        refine j_iload C dL_law_991 rfl ?_
        refine j_if_ne C 1008 dL_law_993 (by decide) (fun c => absurd rfl c) (fun _ => ?_)
        refine j_aload_n C dL_law_996 rfl ?_
        refine j_iconst C (nI 0) dL_law_997 (by decide) ?_
        refine j_lald C 0 rfl 0 rfl (by decide) (by decide) dL_law_998 ?_
        refine j_iload C dL_law_999 rfl ?_
        refine j_i2l C dL_law_1001 ?_
        refine j_lcmp C dL_law_1002 ?_
        refine j_top _ 0 (lw_cmp (by rw [wbV_cong (f2 := nf) (g2 := gf) (fun d hd => by rw [hnf d hd, h3]) (fun d hd => by rw [hgf d hd, h3])])) ?_
        refine j_if_eq C 1008 dL_law_1003 (by decide) (fun _ => ?_) (fun c => absurd rfl c)
        refine j_goto C 1149 dL_law_1008 (by decide) ?_
        exact nx _ _ _ (lwS_of (I))
      · exact absurd ⟨h3, hru, by rw [lw_al hba]; exact hal⟩ hn2
  · rcases hp with ⟨rfl, hn2, rfl⟩
    · refine j_top _ (nI 1) (rfl) ?_
      refine j_istore_5 C dL_law_972 (by decide) ?_
      refine j_aload_n C dL_law_974 rfl ?_
      refine j_callVF (wr := (oC Y ho lo0 :: (lwA Y ad P N a b0 mv0 ru me cb al tr to fa se qu))) (st := []) C [] [0, 1, 2, 3, 4, 5, 6, 7, 8, 9, 10] [11, 12, 13, 14, 15, 16, 17, 18, 19, 20, 21] (ct_X1_wayByDisks hc ha hb hnf hgf (s0 := nI st0) (ad := ad2) (P := P) (N := N) (a := a) (b := b0) (mv0 := mv0) (ru := ru) (cb := cb) (ba := ba) (nf := nf) (gf := gf) (fr := fr) (tt := tt) (th := th) (qd := qd) (lk := lk) (fa := fa2) (qu := qu2) (nb := nb)) rfl rfl rfl rfl (by decide) gw_L_142 nd_X1_wayByDisks 1 0 rfl rfl rfl ⟨by decide, by decide⟩ ⟨hk, hn⟩ (Nat.le_of_ble_eq_true rfl) dL_law_975 rfl (fun r w hp2 => ?_)
      obtain ⟨r6, rfl, hp2⟩ := hp2
      rcases hp2 with ⟨h1, h2, h3, _⟩ | ⟨_, rfl⟩
      · exact absurd ⟨h1, h2, by rw [← lw_al hba]; exact h3⟩ hn2
      · refine j_istore_6 C dL_law_978 (by decide) ?_
        refine j_aload_n C dL_law_980 rfl ?_
        refine j_callVF (wr := (oC Y ho lo0 :: (lwA Y ad P N a b0 mv0 ru me cb al tr to fa se qu))) (st := []) C [] [11, 12, 13, 14, 15, 16, 17, 18, 19, 20, 21] [0, 1, 2, 3, 4, 5, 6, 7, 8, 9, 10] (ct_X1_thrown (ad := ad2) (th := (nI 1)) (p := nI P) (n := nI N) (ru := bi ru) (mc := nI mv0) (s0 := nI st0) (qd := qd) (nw := fun jj => nI (nf jj)) (gl := fun jj => nI (gf jj)) (co := fun jj => bi (cb jj)) (ba := fun jj => bi (ba jj)) (fr := fun jj => nI (fr jj)) (tt := fun jj => nI (tt jj)) (lk := lk) (fa := fa2) (qu := qu2) (nb := nb)) rfl rfl rfl rfl (by decide) gw_L_69 nd_X1_thrown 1 0 rfl rfl rfl ⟨by decide, by decide⟩ ⟨hk, hn⟩ (Nat.le_of_ble_eq_true rfl) dL_law_981 rfl (fun r w hp3 => ?_)
        obtain ⟨r7, rfl, rfl, rfl⟩ := hp3
        refine j_iload C dL_law_984 rfl ?_
        refine j_icmp_eq C 991 dL_law_986 (by decide) (fun _ => ?_) (fun c => absurd rfl c)
        refine j_iload C dL_law_991 rfl ?_
        refine j_if_ne C 1008 dL_law_993 (by decide) (fun _ => ?_) (fun c => absurd c (by decide))
        refine j_goto C 1149 dL_law_1008 (by decide) ?_
        exact nx _ _ _ (lwS_of (I))
set_option maxHeartbeats 4000000 in
set_option maxRecDepth 100000 in
theorem lc_lost {K : jk_T} {Y : jy_T} {ad ad2 : Nat → Nat} {ho b L i k n : Nat} {xs : Nat → Int32} (h : lwK K Y b L xs i k n) (nx : lwN K Y ad ad2 ho b i k n) {ws : va_W} (S : lwS Y ad ad2 ho ws) {l5 l6 : Option Value} : jJ K k n 1011 (lwL ad ad2 ho b i l5 l6) [] ws := by
  obtain ⟨C, X, hfl, hX, hbl, hbA, hL, hi, hk, hn⟩ := h
  obtain ⟨lo0, P, N, a, b0, mv0, st0, ru, me, cb, al, ba, tr, nf, gf, fr, tt, to, fa, se, qu, th, qd, lk, fa2, qu2, nb, I, rfl⟩ := S
  obtain ⟨hc, ha, hb, hm0, hme, hba, hnf, hgf, htr, hst, hH⟩ := id I
  have hN6 : N ≤ 6 := hc.2.2.2
  have hP5 : P ≤ 5 := hc.2.1
  have hP3 : 3 ≤ P := hc.1
  have hP0 : 0 < P := by omega
  refine j_eq rfl rfl (show _ = (oC Y ho lo0 :: (lwA Y ad P N a b0 mv0 ru me cb al tr to fa se qu)) ++ (lwM Y ad2 P N mv0 st0 ru cb ba nf gf fr tt th qd lk fa2 qu2 nb) from rfl) ?_
  have hsa : stA mv0 tr a < P ^ N := by unfold stA; split; exact htr 0 (by assumption); exact ha
  refine j_aload_n C dL_law_1011 rfl ?_
  refine j_aload_n C dL_law_1012 rfl ?_
  refine j_callSW (wr := (lwM Y ad2 P N mv0 st0 ru cb ba nf gf fr tt th qd lk fa2 qu2 nb)) (st := []) C X [.ref (ad 0), .ref ho] [0, 1, 2, 3, 4, 5, 6, 7, 8, 9, 10] [11, 12, 13, 14, 15, 16, 17, 18, 19, 20, 21] (ct_L_lost (lo0 := lo0) (ho := ho) (ct_X0_lost hc ha hb hme hm0 htr hfl (ad := ad) (P := P) (N := N) (a := a) (b := b0) (mv0 := mv0) (ru := ru) (me := me) (cb := cb) (al := al) (tr := tr) (to := to) (fa := fa) (se := se) (qu := qu) (sp := fun i => nI (spT i))) (fun E w q => q.1)) rfl rfl rfl rfl (by decide) gw_L_143 nd_L_lost ⟨by decide, by decide⟩ ⟨hk, hn⟩ (Nat.le_of_ble_eq_true rfl) dL_law_1013 rfl (fun r w hp => ?_)
  obtain ⟨r5, rfl, hp⟩ := hp
  rcases hp with ⟨v, w1, rfl, hp, rfl⟩ | ⟨E, w1, rfl, hp, rfl⟩
  · rcases hp with ⟨ds1, fa1, qu1, to1, hsr, hst1, g1, g2, rfl, rfl⟩
    · refine j_top _ (nI 0) (rfl) ?_
      refine j_istore_5 C dL_law_1016 (by decide) ?_
      refine j_aload_n C dL_law_1018 rfl ?_
      refine j_callVF (wr := (oC Y ho (vp_updL lo0 0 (Int32.toInt64 (nI mv0 + oI (ds1 a) - oI (ds1 (stA mv0 tr a))))) :: (lwA Y ad P N a b0 mv0 ru true cb al tr to1 fa1 se qu1))) (st := []) C [] [0, 1, 2, 3, 4, 5, 6, 7, 8, 9, 10] [11, 12, 13, 14, 15, 16, 17, 18, 19, 20, 21] (ct_X1_lost hc ha hb hnf hgf hm0 (fun q => by rw [hst q]; exact htr 0 q) (st0 := st0) (ad := ad2) (P := P) (N := N) (a := a) (b := b0) (mv0 := mv0) (ru := ru) (cb := cb) (ba := ba) (nf := nf) (gf := gf) (fr := fr) (tt := tt) (th := th) (qd := qd) (lk := lk) (fa := fa2) (qu := qu2) (nb := nb)) rfl rfl rfl rfl (by decide) gw_L_145 nd_X1_lost 1 0 rfl rfl rfl ⟨by decide, by decide⟩ ⟨hk, hn⟩ (Nat.le_of_ble_eq_true rfl) dL_law_1019 rfl (fun r w hp2 => ?_)
      obtain ⟨r6, rfl, hp2⟩ := hp2
      rcases hp2 with ⟨foa, fob, d1, d2, fo1, s1, qu3, lk1, hs1, hs2, ⟨h1, h2, rfl, rfl⟩ | ⟨h12, rfl⟩⟩
      · have e1 : d1 b0 = ds1 a := way_eq hP0 hba hb ha hsr (srF_D hs1)
        have e2 : d2 b0 = ds1 (stA mv0 tr a) := by rw [lw_st hst] at hs2; exact way_eq hP0 hba hb hsa hsr (srF_D hs2)
        refine j_istore_6 C dL_law_1022 (by decide) ?_
        refine j_aload_n C dL_law_1024 rfl ?_
        refine j_callVF (wr := (oC Y ho (vp_updL lo0 0 (Int32.toInt64 (nI mv0 + oI (ds1 a) - oI (ds1 (stA mv0 tr a))))) :: (lwA Y ad P N a b0 mv0 ru true cb al tr to1 fa1 se qu1))) (st := []) C [] [11, 12, 13, 14, 15, 16, 17, 18, 19, 20, 21] [0, 1, 2, 3, 4, 5, 6, 7, 8, 9, 10] (ct_X1_thrown (ad := ad2) (th := (nI 0)) (p := nI P) (n := nI N) (ru := bi ru) (mc := nI mv0) (s0 := nI st0) (qd := (nI fo1)) (nw := fun jj => nI (nf jj)) (gl := fun jj => nI (gf jj)) (co := fun jj => bi (cb jj)) (ba := fun jj => bi (ba jj)) (fr := fun jj => nI (fr jj)) (tt := fun jj => nI (tt jj)) (lk := lk1) (fa := s1) (qu := qu3) (nb := nb)) rfl rfl rfl rfl (by decide) gw_L_69 nd_X1_thrown 1 0 rfl rfl rfl ⟨by decide, by decide⟩ ⟨hk, hn⟩ (Nat.le_of_ble_eq_true rfl) dL_law_1025 rfl (fun r w hp3 => ?_)
        obtain ⟨r7, rfl, rfl, rfl⟩ := hp3
        refine j_iload C dL_law_1028 rfl ?_
        refine j_icmp_eq C 1035 dL_law_1030 (by decide) (fun _ => ?_) (fun c => absurd rfl c)
        refine j_iload C dL_law_1035 rfl ?_
        refine j_if_ne C 1052 dL_law_1037 (by decide) (fun c => absurd rfl c) (fun _ => ?_)
        refine j_aload_n C dL_law_1040 rfl ?_
        refine j_iconst C (nI 0) dL_law_1041 (by decide) ?_
        refine j_lald C 0 rfl 0 rfl (by decide) (by decide) dL_law_1042 ?_
        refine j_iload C dL_law_1043 rfl ?_
        refine j_i2l C dL_law_1045 ?_
        refine j_lcmp C dL_law_1046 ?_
        refine j_top _ 0 (lw_cmp (by rw [e1, e2])) ?_
        refine j_if_eq C 1052 dL_law_1047 (by decide) (fun _ => ?_) (fun c => absurd rfl c)
        refine j_goto C 1149 dL_law_1052 (by decide) ?_
        exact nx _ _ _ (lwS_of (INV_far I ⟨ds1, hsr, hst1⟩))
      · have e1 : d1 b0 = ds1 a := way_eq hP0 hba hb ha hsr (srF_D hs1)
        have e2 : d2 b0 = ds1 (stA mv0 tr a) := by rw [lw_st hst] at hs2; exact way_eq hP0 hba hb hsa hsr (srF_D hs2)
        rw [e1, e2] at h12
        exact absurd h12 (by simp [g1, g2])
  · rcases hp with ⟨rfl, ds1, fa1, qu1, to1, hsr, hst1, g12, rfl⟩
    · refine j_top _ (nI 1) (rfl) ?_
      refine j_istore_5 C dL_law_1016 (by decide) ?_
      refine j_aload_n C dL_law_1018 rfl ?_
      refine j_callVF (wr := (oC Y ho lo0 :: (lwA Y ad P N a b0 mv0 ru true cb al tr to1 fa1 se qu1))) (st := []) C [] [0, 1, 2, 3, 4, 5, 6, 7, 8, 9, 10] [11, 12, 13, 14, 15, 16, 17, 18, 19, 20, 21] (ct_X1_lost hc ha hb hnf hgf hm0 (fun q => by rw [hst q]; exact htr 0 q) (st0 := st0) (ad := ad2) (P := P) (N := N) (a := a) (b := b0) (mv0 := mv0) (ru := ru) (cb := cb) (ba := ba) (nf := nf) (gf := gf) (fr := fr) (tt := tt) (th := th) (qd := qd) (lk := lk) (fa := fa2) (qu := qu2) (nb := nb)) rfl rfl rfl rfl (by decide) gw_L_145 nd_X1_lost 1 0 rfl rfl rfl ⟨by decide, by decide⟩ ⟨hk, hn⟩ (Nat.le_of_ble_eq_true rfl) dL_law_1019 rfl (fun r w hp2 => ?_)
      obtain ⟨r6, rfl, hp2⟩ := hp2
      rcases hp2 with ⟨foa, fob, d1, d2, fo1, s1, qu3, lk1, hs1, hs2, ⟨h1, h2, rfl, rfl⟩ | ⟨h12, rfl⟩⟩
      · have e1 : d1 b0 = ds1 a := way_eq hP0 hba hb ha hsr (srF_D hs1)
        have e2 : d2 b0 = ds1 (stA mv0 tr a) := by rw [lw_st hst] at hs2; exact way_eq hP0 hba hb hsa hsr (srF_D hs2)
        rw [e1] at h1
        rw [e2] at h2
        exact absurd g12 (by simp [h1, h2])
      · refine j_istore_6 C dL_law_1022 (by decide) ?_
        refine j_aload_n C dL_law_1024 rfl ?_
        refine j_callVF (wr := (oC Y ho lo0 :: (lwA Y ad P N a b0 mv0 ru true cb al tr to1 fa1 se qu1))) (st := []) C [] [11, 12, 13, 14, 15, 16, 17, 18, 19, 20, 21] [0, 1, 2, 3, 4, 5, 6, 7, 8, 9, 10] (ct_X1_thrown (ad := ad2) (th := (nI 1)) (p := nI P) (n := nI N) (ru := bi ru) (mc := nI mv0) (s0 := nI st0) (qd := (nI fo1)) (nw := fun jj => nI (nf jj)) (gl := fun jj => nI (gf jj)) (co := fun jj => bi (cb jj)) (ba := fun jj => bi (ba jj)) (fr := fun jj => nI (fr jj)) (tt := fun jj => nI (tt jj)) (lk := lk1) (fa := s1) (qu := qu3) (nb := nb)) rfl rfl rfl rfl (by decide) gw_L_69 nd_X1_thrown 1 0 rfl rfl rfl ⟨by decide, by decide⟩ ⟨hk, hn⟩ (Nat.le_of_ble_eq_true rfl) dL_law_1025 rfl (fun r w hp3 => ?_)
        obtain ⟨r7, rfl, rfl, rfl⟩ := hp3
        refine j_iload C dL_law_1028 rfl ?_
        refine j_icmp_eq C 1035 dL_law_1030 (by decide) (fun _ => ?_) (fun c => absurd rfl c)
        refine j_iload C dL_law_1035 rfl ?_
        refine j_if_ne C 1052 dL_law_1037 (by decide) (fun _ => ?_) (fun c => absurd c (by decide))
        refine j_goto C 1149 dL_law_1052 (by decide) ?_
        exact nx _ _ _ (lwS_of (INV_far I ⟨ds1, hsr, hst1⟩))
set_option maxHeartbeats 4000000 in
set_option maxRecDepth 100000 in
theorem lc_next {K : jk_T} {Y : jy_T} {ad ad2 : Nat → Nat} {ho b L i k n : Nat} {xs : Nat → Int32} (h : lwK K Y b L xs i k n) (nx : lwN K Y ad ad2 ho b i k n) {ws : va_W} (S : lwS Y ad ad2 ho ws) {l5 l6 : Option Value} : jJ K k n 1055 (lwL ad ad2 ho b i l5 l6) [] ws := by
  obtain ⟨C, X, hfl, hX, hbl, hbA, hL, hi, hk, hn⟩ := h
  obtain ⟨lo0, P, N, a, b0, mv0, st0, ru, me, cb, al, ba, tr, nf, gf, fr, tt, to, fa, se, qu, th, qd, lk, fa2, qu2, nb, I, rfl⟩ := S
  obtain ⟨hc, ha, hb, hm0, hme, hba, hnf, hgf, htr, hst, hH⟩ := id I
  have hN6 : N ≤ 6 := hc.2.2.2
  have hP5 : P ≤ 5 := hc.2.1
  have hP3 : 3 ≤ P := hc.1
  have hP0 : 0 < P := by omega
  refine j_eq rfl rfl (show _ = (oC Y ho lo0 :: (lwA Y ad P N a b0 mv0 ru me cb al tr to fa se qu)) ++ (lwM Y ad2 P N mv0 st0 ru cb ba nf gf fr tt th qd lk fa2 qu2 nb) from rfl) ?_
  refine j_aload_n C dL_law_1055 rfl ?_
  refine j_callVF (wr := oC Y ho lo0 :: (lwM Y ad2 P N mv0 st0 ru cb ba nf gf fr tt th qd lk fa2 qu2 nb)) (st := []) C [] [1, 2, 3, 4, 5, 6, 7, 8, 9, 10] [0, 11, 12, 13, 14, 15, 16, 17, 18, 19, 20, 21] (ct_X0_next hc ha hb hme (ad := ad) (P := P) (N := N) (a := a) (ru := ru) (cb := cb) (to := to) (fa := fa) (se := se) (qu := qu) (sp := fun i => nI (spT i)) (mc := nI mv0) (b := b0) (me := me) (al := al) (tr := fun k => nI (tr k))) rfl rfl rfl rfl (by decide) gw_L_146 nd_X0_next 0 0 rfl rfl rfl ⟨by decide, by decide⟩ ⟨by show k + 0 ≤ 601024; omega, by show n + 0 ≤ 7293034; omega⟩ (Nat.le_of_ble_eq_true rfl) dL_law_1056 rfl (fun r w hp => ?_)
  obtain ⟨r5, rfl, hp⟩ := hp
  obtain ⟨ds1, fa1, qu1, to1, rfl, hsr, hst1, rfl⟩ := hp
  refine j_aload_n C dL_law_1059 rfl ?_
  refine j_callVF (wr := oC Y ho lo0 :: (lwA Y ad P N a b0 mv0 ru true cb al tr to1 fa1 se qu1)) (st := [_]) C [] [1, 2, 3, 4, 5, 6, 7, 8, 9, 10, 11] [0, 12, 13, 14, 15, 16, 17, 18, 19, 20, 21] (ct_X1_next hc ha hb hnf hgf (Wy := ds1) (fun y hy ds h => way_eq hP0 hba hb hy hsr h) (fun y d hyd => srD_lt hsr (cfg_pw hc hN6) y d hyd) (s0 := nI st0) (ad := ad2) (P := P) (N := N) (a := a) (b := b0) (mv0 := mv0) (ru := ru) (cb := cb) (ba := ba) (nf := nf) (gf := gf) (fr := fr) (tt := tt) (th := th) (qd := qd) (lk := lk) (fa := fa2) (qu := qu2) (nb := nb) ) rfl rfl rfl rfl (by decide) gw_L_149 nd_X1_next 1 0 rfl rfl rfl ⟨by decide, by decide⟩ ⟨by show k + 0 + 0 ≤ 601024; omega, by show n + 0 + 0 ≤ 7293034; omega⟩ (Nat.le_of_ble_eq_true rfl) dL_law_1060 rfl (fun r w hp => ?_)
  obtain ⟨r6, rfl, hp⟩ := hp
  obtain ⟨fa3, qu3, qd1, lk1, rfl, rfl⟩ := hp
  refine j_icmp_eq C 1149 dL_law_1063 (by decide) (fun _ => ?_) (fun c => absurd ((nx_eq hba ds1).symm) c)
  refine j_widen (Nat.le_succ k) (Nat.le_add_right n 6) ?_
  exact nx _ _ _ (lwS_of (INV_far I ⟨ds1, hsr, hst1⟩))
set_option maxHeartbeats 4000000 in
set_option maxRecDepth 100000 in
theorem lc_reachable {K : jk_T} {Y : jy_T} {ad ad2 : Nat → Nat} {ho b L i k n : Nat} {xs : Nat → Int32} (h : lwK K Y b L xs i k n) (nx : lwN K Y ad ad2 ho b i k n) {ws : va_W} (S : lwS Y ad ad2 ho ws) {l5 l6 : Option Value} : jJ K k n 1068 (lwL ad ad2 ho b i l5 l6) [] ws := by
  obtain ⟨C, X, hfl, hX, hbl, hbA, hL, hi, hk, hn⟩ := h
  obtain ⟨lo0, P, N, a, b0, mv0, st0, ru, me, cb, al, ba, tr, nf, gf, fr, tt, to, fa, se, qu, th, qd, lk, fa2, qu2, nb, I, rfl⟩ := S
  obtain ⟨hc, ha, hb, hm0, hme, hba, hnf, hgf, htr, hst, hH⟩ := id I
  have hN6 : N ≤ 6 := hc.2.2.2
  have hP5 : P ≤ 5 := hc.2.1
  have hP3 : 3 ≤ P := hc.1
  have hP0 : 0 < P := by omega
  refine j_eq rfl rfl (show _ = (oC Y ho lo0 :: (lwA Y ad P N a b0 mv0 ru me cb al tr to fa se qu)) ++ (lwM Y ad2 P N mv0 st0 ru cb ba nf gf fr tt th qd lk fa2 qu2 nb) from rfl) ?_
  refine j_aload_n C dL_law_1068 rfl ?_
  refine j_callVF (wr := oC Y ho lo0 :: (lwM Y ad2 P N mv0 st0 ru cb ba nf gf fr tt th qd lk fa2 qu2 nb)) (st := []) C [] [1, 2, 3, 4, 5, 6, 7, 8, 9, 10] [0, 11, 12, 13, 14, 15, 16, 17, 18, 19, 20, 21] (ct_X0_reachable hc ha (ad := ad) (P := P) (N := N) (a := a) (ru := ru) (cb := cb) (to := to) (fa := fa) (se := se) (qu := qu) (sp := fun i => nI (spT i)) (mc := nI mv0) (al := al) (me := bi me) (tg := nI b0) (tr := fun k => nI (tr k))) rfl rfl rfl rfl (by decide) gw_L_150 nd_X0_reachable 0 0 rfl rfl rfl ⟨by decide, by decide⟩ ⟨by show k + 0 ≤ 601024; omega, by show n + 0 ≤ 7293034; omega⟩ (Nat.le_of_ble_eq_true rfl) dL_law_1069 rfl (fun r w hp => ?_)
  obtain ⟨r5, rfl, hp⟩ := hp
  obtain ⟨fo1, ds1, s1, qu1, to1, rfl, hs1, rfl⟩ := hp
  refine j_aload_n C dL_law_1072 rfl ?_
  refine j_callVF (wr := oC Y ho lo0 :: (lwA Y ad P N a b0 mv0 ru me cb al tr to1 fa s1 qu1)) (st := [_]) C [] [1, 2, 3, 4, 5, 6, 7, 8, 9, 10, 11] [0, 12, 13, 14, 15, 16, 17, 18, 19, 20, 21] (ct_X1_reachable hc ha hb hnf hgf (s0 := nI st0) (ad := ad2) (P := P) (N := N) (a := a) (b := b0) (mv0 := mv0) (ru := ru) (cb := cb) (ba := ba) (nf := nf) (gf := gf) (fr := fr) (tt := tt) (th := th) (qd := qd) (lk := lk) (fa := fa2) (qu := qu2) (nb := nb) ) rfl rfl rfl rfl (by decide) gw_L_153 nd_X1_reachable 1 0 rfl rfl rfl ⟨by decide, by decide⟩ ⟨by show k + 0 + 0 ≤ 601024; omega, by show n + 0 + 0 ≤ 7293034; omega⟩ (Nat.le_of_ble_eq_true rfl) dL_law_1073 rfl (fun r w hp => ?_)
  obtain ⟨r6, rfl, hp⟩ := hp
  obtain ⟨fo2, ds2, s2, qu3, lk1, rfl, hs2, rfl⟩ := hp
  refine j_icmp_eq C 1149 dL_law_1076 (by decide) (fun _ => ?_) (fun c => absurd (by rw [cnt_eq hP0 hba ha hs1 hs2]) c)
  refine j_widen (Nat.le_succ k) (Nat.le_add_right n 6) ?_
  exact nx _ _ _ (lwS_of (I))
set_option maxHeartbeats 4000000 in
set_option maxRecDepth 100000 in
theorem lc_splits {K : jk_T} {Y : jy_T} {ad ad2 : Nat → Nat} {ho b L i k n : Nat} {xs : Nat → Int32} (h : lwK K Y b L xs i k n) (nx : lwN K Y ad ad2 ho b i k n) {ws : va_W} (S : lwS Y ad ad2 ho ws) {l5 l6 : Option Value} : jJ K k n 1081 (lwL ad ad2 ho b i l5 l6) [] ws := by
  obtain ⟨C, X, hfl, hX, hbl, hbA, hL, hi, hk, hn⟩ := h
  obtain ⟨lo0, P, N, a, b0, mv0, st0, ru, me, cb, al, ba, tr, nf, gf, fr, tt, to, fa, se, qu, th, qd, lk, fa2, qu2, nb, I, rfl⟩ := S
  obtain ⟨hc, ha, hb, hm0, hme, hba, hnf, hgf, htr, hst, hH⟩ := id I
  have hN6 : N ≤ 6 := hc.2.2.2
  have hP5 : P ≤ 5 := hc.2.1
  have hP3 : 3 ≤ P := hc.1
  have hP0 : 0 < P := by omega
  refine j_eq rfl rfl (show _ = (oC Y ho lo0 :: (lwA Y ad P N a b0 mv0 ru me cb al tr to fa se qu)) ++ (lwM Y ad2 P N mv0 st0 ru cb ba nf gf fr tt th qd lk fa2 qu2 nb) from rfl) ?_
  refine j_aload_n C dL_law_1081 rfl ?_
  refine j_aload_n C dL_law_1082 rfl ?_
  refine j_iload C dL_law_1083 rfl ?_
  refine j_iconst C (nI 1) dL_law_1085 (by decide) ?_
  refine j_iadd C dL_law_1086 ?_
  refine j_sld C hX hbl hbA (i + 1) (nI_add _ _) (by omega) (by omega) dL_law_1087 ?_
  refine j_aload_n C dL_law_1088 rfl ?_
  refine j_iload C dL_law_1089 rfl ?_
  refine j_iconst C (nI 2) dL_law_1091 (by decide) ?_
  refine j_iadd C dL_law_1092 ?_
  refine j_sld C hX hbl hbA (i + 2) (nI_add _ _) (by omega) (by omega) dL_law_1093 ?_
  refine j_aload_n C dL_law_1094 rfl ?_
  refine j_callSW (wr := (lwM Y ad2 P N mv0 st0 ru cb ba nf gf fr tt th qd lk fa2 qu2 nb)) (st := []) C X [.ref (ad 0), .int (xs (i + 1)), .int (xs (i + 2)), .ref ho] [0, 1, 2, 3, 4, 5, 6, 7, 8, 9, 10] [11, 12, 13, 14, 15, 16, 17, 18, 19, 20, 21] (ct_L_splits (lo0 := lo0) (ho := ho) (ct_X0_splits hfl (ad := ad) (p := nI P) (n := nI N) (ru := bi ru) (nw := nI a) (tg := nI b0) (mc := nI mv0) (me := bi me) (we := fun d => nI (P ^ d)) (co := fun d => bi (cb d)) (al := fun k => bi (al k)) (tr := fun k => nI (tr k)) (to := to) (fa := fa) (se := se) (qu := qu)) (fun E w q => q.1)) rfl rfl rfl rfl (by decide) gw_L_154 nd_L_splits ⟨by decide, by decide⟩ ⟨hk, hn⟩ (Nat.le_of_ble_eq_true rfl) dL_law_1095 rfl (fun r w hp => ?_)
  obtain ⟨r5, rfl, hp⟩ := hp
  rcases hp with ⟨v, w1, rfl, hp, rfl⟩ | ⟨E, w1, rfl, hp, rfl⟩
  · rcases hp with ⟨d, q, ex, hd, ey, hq1, hq2, rfl, rfl⟩
    · refine j_top _ (nI 0) (rfl) ?_
      refine j_istore_5 C dL_law_1098 (by decide) ?_
      refine j_aload_n C dL_law_1100 rfl ?_
      refine j_aload_n C dL_law_1101 rfl ?_
      refine j_iload C dL_law_1102 rfl ?_
      refine j_iconst C (nI 1) dL_law_1104 (by decide) ?_
      refine j_iadd C dL_law_1105 ?_
      refine j_sld C hX hbl hbA (i + 1) (nI_add _ _) (by omega) (by omega) dL_law_1106 ?_
      refine j_aload_n C dL_law_1107 rfl ?_
      refine j_iload C dL_law_1108 rfl ?_
      refine j_iconst C (nI 2) dL_law_1110 (by decide) ?_
      refine j_iadd C dL_law_1111 ?_
      refine j_sld C hX hbl hbA (i + 2) (nI_add _ _) (by omega) (by omega) dL_law_1112 ?_
      refine j_callVF (wr := (oC Y ho (vp_updL lo0 0 (Int32.toInt64 (nI (spT ((q - 3) * 21 + d))))) :: (lwA Y ad P N a b0 mv0 ru me cb al tr to fa se qu))) (st := []) C [.int (xs (i + 1)), .int (xs (i + 2))] [0, 1, 2, 3, 4, 5, 6, 7, 8, 9, 10] [11, 12, 13, 14, 15, 16, 17, 18, 19, 20, 21] (ct_X1_splits (s0 := nI st0) (ad := ad2) (P := P) (N := N) (a := a) (b := b0) (mv0 := mv0) (ru := ru) (cb := cb) (ba := ba) (nf := nf) (gf := gf) (fr := fr) (tt := tt) (th := th) (qd := qd) (lk := lk) (fa := fa2) (qu := qu2) (nb := nb)) rfl rfl rfl rfl (by decide) gw_L_156 nd_X1_splits 1 0 rfl rfl rfl ⟨by decide, by decide⟩ ⟨hk, hn⟩ (Nat.le_of_ble_eq_true rfl) dL_law_1113 rfl (fun r w hp2 => ?_)
      obtain ⟨r6, rfl, hp2⟩ := hp2
      rcases hp2 with ⟨d2, q2, nb1, ex2, hd2, ey2, hq3, hq4, rfl, rfl⟩ | ⟨hf, _⟩
      · have e1 : d = d2 := nI_e (n := 100) ex2 ex (by omega) (by omega) (by decide); subst e1
        have e2 : q = q2 := nI_e (n := 100) ey2 ey (by omega) (by omega) (by decide); subst e2
        refine j_istore_6 C dL_law_1116 (by decide) ?_
        refine j_aload_n C dL_law_1118 rfl ?_
        refine j_callVF (wr := (oC Y ho (vp_updL lo0 0 (Int32.toInt64 (nI (spT ((q - 3) * 21 + d))))) :: (lwA Y ad P N a b0 mv0 ru me cb al tr to fa se qu))) (st := []) C [] [11, 12, 13, 14, 15, 16, 17, 18, 19, 20, 21] [0, 1, 2, 3, 4, 5, 6, 7, 8, 9, 10] (ct_X1_thrown (ad := ad2) (th := (nI 0)) (p := nI P) (n := nI N) (ru := bi ru) (mc := nI mv0) (s0 := nI st0) (qd := qd) (nw := fun jj => nI (nf jj)) (gl := fun jj => nI (gf jj)) (co := fun jj => bi (cb jj)) (ba := fun jj => bi (ba jj)) (fr := fun jj => nI (fr jj)) (tt := fun jj => nI (tt jj)) (lk := lk) (fa := fa2) (qu := qu2) (nb := nb1)) rfl rfl rfl rfl (by decide) gw_L_69 nd_X1_thrown 1 0 rfl rfl rfl ⟨by decide, by decide⟩ ⟨hk, hn⟩ (Nat.le_of_ble_eq_true rfl) dL_law_1119 rfl (fun r w hp3 => ?_)
        obtain ⟨r7, rfl, rfl, rfl⟩ := hp3
        refine j_iload C dL_law_1122 rfl ?_
        refine j_icmp_eq C 1129 dL_law_1124 (by decide) (fun _ => ?_) (fun c => absurd rfl c)
        refine j_iload C dL_law_1129 rfl ?_
        refine j_if_ne C 1146 dL_law_1131 (by decide) (fun c => absurd rfl c) (fun _ => ?_)
        refine j_aload_n C dL_law_1134 rfl ?_
        refine j_iconst C (nI 0) dL_law_1135 (by decide) ?_
        refine j_lald C 0 rfl 0 rfl (by decide) (by decide) dL_law_1136 ?_
        refine j_iload C dL_law_1137 rfl ?_
        refine j_i2l C dL_law_1139 ?_
        refine j_lcmp C dL_law_1140 ?_
        refine j_top _ 0 (lw_cmp (rfl)) ?_
        refine j_if_eq C 1146 dL_law_1141 (by decide) (fun _ => ?_) (fun c => absurd rfl c)
        refine j_goto C 1149 dL_law_1146 (by decide) ?_
        exact nx _ _ _ (lwS_of (I))
      · exact absurd (sp_t ex ey hd hq1 hq2) (by rw [hf]; decide)
  · rcases hp with ⟨rfl, hf, rfl⟩
    · refine j_top _ (nI 1) (rfl) ?_
      refine j_istore_5 C dL_law_1098 (by decide) ?_
      refine j_aload_n C dL_law_1100 rfl ?_
      refine j_aload_n C dL_law_1101 rfl ?_
      refine j_iload C dL_law_1102 rfl ?_
      refine j_iconst C (nI 1) dL_law_1104 (by decide) ?_
      refine j_iadd C dL_law_1105 ?_
      refine j_sld C hX hbl hbA (i + 1) (nI_add _ _) (by omega) (by omega) dL_law_1106 ?_
      refine j_aload_n C dL_law_1107 rfl ?_
      refine j_iload C dL_law_1108 rfl ?_
      refine j_iconst C (nI 2) dL_law_1110 (by decide) ?_
      refine j_iadd C dL_law_1111 ?_
      refine j_sld C hX hbl hbA (i + 2) (nI_add _ _) (by omega) (by omega) dL_law_1112 ?_
      refine j_callVF (wr := (oC Y ho lo0 :: (lwA Y ad P N a b0 mv0 ru me cb al tr to fa se qu))) (st := []) C [.int (xs (i + 1)), .int (xs (i + 2))] [0, 1, 2, 3, 4, 5, 6, 7, 8, 9, 10] [11, 12, 13, 14, 15, 16, 17, 18, 19, 20, 21] (ct_X1_splits (s0 := nI st0) (ad := ad2) (P := P) (N := N) (a := a) (b := b0) (mv0 := mv0) (ru := ru) (cb := cb) (ba := ba) (nf := nf) (gf := gf) (fr := fr) (tt := tt) (th := th) (qd := qd) (lk := lk) (fa := fa2) (qu := qu2) (nb := nb)) rfl rfl rfl rfl (by decide) gw_L_156 nd_X1_splits 1 0 rfl rfl rfl ⟨by decide, by decide⟩ ⟨hk, hn⟩ (Nat.le_of_ble_eq_true rfl) dL_law_1113 rfl (fun r w hp2 => ?_)
      obtain ⟨r6, rfl, hp2⟩ := hp2
      rcases hp2 with ⟨d2, q2, nb1, ex2, hd2, ey2, hq3, hq4, _⟩ | ⟨_, rfl⟩
      · exact absurd (sp_t ex2 ey2 hd2 hq3 hq4) (by rw [hf]; decide)
      · refine j_istore_6 C dL_law_1116 (by decide) ?_
        refine j_aload_n C dL_law_1118 rfl ?_
        refine j_callVF (wr := (oC Y ho lo0 :: (lwA Y ad P N a b0 mv0 ru me cb al tr to fa se qu))) (st := []) C [] [11, 12, 13, 14, 15, 16, 17, 18, 19, 20, 21] [0, 1, 2, 3, 4, 5, 6, 7, 8, 9, 10] (ct_X1_thrown (ad := ad2) (th := (nI 1)) (p := nI P) (n := nI N) (ru := bi ru) (mc := nI mv0) (s0 := nI st0) (qd := qd) (nw := fun jj => nI (nf jj)) (gl := fun jj => nI (gf jj)) (co := fun jj => bi (cb jj)) (ba := fun jj => bi (ba jj)) (fr := fun jj => nI (fr jj)) (tt := fun jj => nI (tt jj)) (lk := lk) (fa := fa2) (qu := qu2) (nb := nb)) rfl rfl rfl rfl (by decide) gw_L_69 nd_X1_thrown 1 0 rfl rfl rfl ⟨by decide, by decide⟩ ⟨hk, hn⟩ (Nat.le_of_ble_eq_true rfl) dL_law_1119 rfl (fun r w hp3 => ?_)
        obtain ⟨r7, rfl, rfl, rfl⟩ := hp3
        refine j_iload C dL_law_1122 rfl ?_
        refine j_icmp_eq C 1129 dL_law_1124 (by decide) (fun _ => ?_) (fun c => absurd rfl c)
        refine j_iload C dL_law_1129 rfl ?_
        refine j_if_ne C 1146 dL_law_1131 (by decide) (fun _ => ?_) (fun c => absurd c (by decide))
        refine j_goto C 1149 dL_law_1146 (by decide) ?_
        exact nx _ _ _ (lwS_of (I))
