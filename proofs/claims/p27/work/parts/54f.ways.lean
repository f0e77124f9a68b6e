/-! ways: the told move goes one nearer, no move goes nearer by more; moves lost -/
def sNx (s : sT) (ds : Nat → Option Nat) : Int32 := nxC (sP s) (sN s) (sRu s) (sCb s) (sAl s) ds (sA s)
theorem wb_WY {s : sT} {ds : Nat → Option Nat} (G : GD s) (hd : WY s ds) (h3 : sP s = 3) (hr : sRu s = false) (hal : alB (sAl s) 0 25 = true) : ds (sA s) = some (wbV (dg 3 (sA s)) (dg 3 (sB s)) (sN s)) := by
  obtain ⟨P, N, a, b, m, ru, cb, al, tr⟩ := s
  have h3 : P = 3 := h3
  have hr : ru = false := hr
  subst h3; subst hr
  exact wb_way G.2.1 G.2.2.1 hal hd
section WW
variable {s : sT} {ds : Nat → Option Nat}
theorem WY.lt (G : GD s) (hd : WY s ds) (y : Nat) : ∀ j, ds y = some j → j < 2 ^ 31 := srD_lt hd G.M y
theorem ww_next (G : GD s) (hd : WY s ds) : bi (decide (¬ oI (ds (sA s)) ≤ 0)) = bi (decide (¬ sNx s ds < 0)) := by
  have h : (¬ oI (ds (sA s)) ≤ 0) ↔ (¬ sNx s ds < 0) := by
    unfold sNx
    rw [oI_pos (WY.lt G hd _), nxC_neg G.P0 G.P5 G.2.2.1 hd]
  rw [decide_eq_decide.mpr h]
theorem ww_0 (G : GD s) (hd : WY s ds) (h : oI (ds (sA s)) = 0) : nI (sA s) = nI (sB s) := by
  rw [oI_z (WY.lt G hd _)] at h
  rw [srD_0 hd h]
theorem ww_law (G : GD s) (hd : WY s ds) (h : ¬ oI (ds (sA s)) < 0) : sLw s = true := by
  rw [oI_neg (WY.lt G hd _)] at h
  cases e : ds (sA s) with
  | none => exact absurd e h
  | some w => exact (srD_law G.P0 G.2.2.1 hd e).2
theorem ww_nn (G : GD s) (hd : WY s ds) (h : ds (sA s) ≠ none) : ¬ oI (ds (sA s)) < 0 := by
  rw [oI_neg (WY.lt G hd _)]; exact h
theorem ww_rc (G : GD s) {fo : Nat} (h : RC s fo) : bi (decide (nI fo = 0)) = bi (!sLw s) := by
  obtain ⟨d, h⟩ := h
  have hM := G.M
  rcases srF_pos h with ⟨h1, h2, h3⟩ | ⟨h1, h2⟩
  · have e : sLw s = true := h1
    rw [e, decide_eq_false]; rfl
    rw [show (0 : Int32) = nI 0 from rfl, nI_eq (by omega) (by omega)]; omega
  · have e : sLw s = false := h1
    rw [e, h2]; rfl
end WW
abbrev rm_L_areWaysSo : Room := { frames := 8, cells := 120, slots := 720, locals := 165 }
set_option maxHeartbeats 4000000 in
set_option maxRecDepth 100000 in
theorem ways_loop {K : jk_T} {Y : jy_T} {ad : Nat → Nat} {s : sT} (C : jC cL_areWaysSo RL Y rm_L_areWaysSo 13 K) (X : jX K) (G : GD s) (hl : K.1.2.1.stackTraces = false) {ds : Nat → Option Nat} (hd : WY s ds) (hm : sM s < 500) {l4 : Option Value} {vl : Int32} (hlo : vl = -99999 ∨ (ds (sA s) ≠ none ∧ vl = nI (sM s) + (oI (ds (sA s))) - (oI (ds (stA (sM s) (sTr s) (sA s))))))
    (kx : ∀ (k n : Nat) (l6 l7 l8 l9 l10 l11 l12 : Option Value) (w : va_W), k ≤ 120 → n ≤ 720 → Bw Y ad s w → jJ K k n 350 [some (.ref (ad 0)), some (.int (oI (ds (sA s)))), some (.int (sNx s ds)), some (.int vl), l4, some (.int (nI 1)), l6, l7, l8, l9, l10, l11, l12] [] w) :
    ∀ (f e k n : Nat) (l8 l9 l10 l11 l12 : Option Value) (w : va_W), sP s * sP s ≤ e + f → e ≤ sP s * sP s → k + 4 * f ≤ 120 → n + 24 * f ≤ 720 → Bw Y ad s w → jJ K k n 147 [some (.ref (ad 0)), some (.int (oI (ds (sA s)))), some (.int (sNx s ds)), some (.int vl), l4, some (.int (nI 1)), some (.int (nI (sP s))), some (.int (nI e)), l8, l9, l10, l11, l12] [] w := by
  have hP0 := G.P0
  have hP5 := G.P5
  have hPP : sP s * sP s ≤ 25 := Nat.mul_le_mul hP5 hP5
  intro f
  induction f with
  | zero =>
    intro e k n l8 l9 l10 l11 l12 w hf he hk hn hB
    refine j_iload C dL_areWaysSo_147 rfl ?_
    refine j_iload C dL_areWaysSo_149 rfl ?_
    refine j_iload C dL_areWaysSo_151 rfl ?_
    refine j_imul C dL_areWaysSo_153 ?_
    refine j_top _ (nI (sP s * sP s)) (pk_mul _ _) ?_
    refine jN_icmp_ge C 350 (by omega) (by omega) dL_areWaysSo_154 (by decide) (fun _ => ?_) (fun c => ?_)
    · exact kx k n _ _ _ _ _ _ _ w (by omega) (by omega) hB
    · omega
  | succ f ih =>
    intro e k n l8 l9 l10 l11 l12 w hf he hk hn hB
    refine j_iload C dL_areWaysSo_147 rfl ?_
    refine j_iload C dL_areWaysSo_149 rfl ?_
    refine j_iload C dL_areWaysSo_151 rfl ?_
    refine j_imul C dL_areWaysSo_153 ?_
    refine j_top _ (nI (sP s * sP s)) (pk_mul _ _) ?_
    refine jN_icmp_ge C 350 (by omega) (by omega) dL_areWaysSo_154 (by decide) (fun _ => ?_) (fun c => ?_)
    · exact kx k n _ _ _ _ _ _ _ w (by omega) (by omega) hB
    · have cd := cd_lt hP5 hP0 c
      have hf9 : e / sP s < sP s := Nat.div_lt_of_lt_mul c
      have ht9 : e % sP s < sP s := Nat.mod_lt e hP0
      have t344 : ∀ (k1 n1 : Nat) (l8 l9 l10 l11 l12 : Option Value) (w : va_W), k1 ≤ k + 4 → n1 ≤ n + 24 → Bw Y ad s w → jJ K k1 n1 344 [some (.ref (ad 0)), some (.int (oI (ds (sA s)))), some (.int (sNx s ds)), some (.int vl), l4, some (.int (nI 1)), some (.int (nI (sP s))), some (.int (nI e)), l8, l9, l10, l11, l12] [] w := by
        intro k1 n1 l8 l9 l10 l11 l12 w hk1 hn1 hB
        refine j_iinc_7 C (nI (e + 1)) (nI_p1 e) dL_areWaysSo_344 ?_
        refine j_goto C 147 dL_areWaysSo_347 (by decide) ?_
        exact ih (e + 1) k1 n1 _ _ _ _ _ w (by omega) (by omega) (by omega) (by omega) hB
      obtain ⟨tr, me, to, fa, se, qu, H, rfl⟩ := hB
      refine j_aload_n C dL_areWaysSo_157 rfl ?_
      refine j_iload C dL_areWaysSo_158 rfl ?_
      refine j_iload C dL_areWaysSo_160 rfl ?_
      refine j_idiv C dL_areWaysSo_162 (ne_p hP0 (by omega)) ?_
      refine j_top _ (nI (e / sP s)) (pk_div (by omega) hP0 (by omega)) ?_
      refine j_iload C dL_areWaysSo_163 rfl ?_
      refine j_iload C dL_areWaysSo_165 rfl ?_
      refine j_irem C dL_areWaysSo_167 (ne_p hP0 (by omega)) ?_
      refine j_top _ (nI (e % sP s)) (pk_rem (by omega) hP0 (by omega)) ?_
      refine j_callVZ (wr := []) (st := []) C X [.int (nI (e / sP s)), .int (nI (e % sP s))] [0, 1, 2, 3, 4, 5, 6, 7, 8, 9] [] (bz_canMove G H hl hf9 ht9) rfl rfl rfl rfl (by decide) gw_L_104 nd_X0_canMove 0 0 rfl rfl rfl ⟨by decide, by decide⟩ ⟨(show k + 1 ≤ 120 by omega), (show n + 6 ≤ 720 by omega)⟩ (Nat.le_of_ble_eq_true rfl) dL_areWaysSo_168 rfl (fun r w168 hp => ?_)
      obtain ⟨v168, rfl, hp⟩ := hp
      refine j_eq (st' := [.int v168]) (ws2 := w168) rfl rfl rfl ?_
      obtain ⟨rfl, tr168, me168, to168, fa168, se168, qu168, H168, rfl⟩ := hp
      refine jB_if_eq C 344 dL_areWaysSo_171 (by decide) (fun _ => t344 _ _ _ _ _ _ _ _ (show k + 1 ≤ k + 4 by omega) (show n + 6 ≤ n + 24 by omega) (Bw.of H168)) (fun hps => ?_)
      refine j_aload_n C dL_areWaysSo_174 rfl ?_
      refine j_iload C dL_areWaysSo_175 rfl ?_
      refine j_iload C dL_areWaysSo_177 rfl ?_
      refine j_idiv C dL_areWaysSo_179 (ne_p hP0 (by omega)) ?_
      refine j_top _ (nI (e / sP s)) (pk_div (by omega) hP0 (by omega)) ?_
      refine j_iload C dL_areWaysSo_180 rfl ?_
      refine j_iload C dL_areWaysSo_182 rfl ?_
      refine j_irem C dL_areWaysSo_184 (ne_p hP0 (by omega)) ?_
      refine j_top _ (nI (e % sP s)) (pk_rem (by omega) hP0 (by omega)) ?_
      refine j_callVZ (wr := []) (st := []) C X [.int (nI (e / sP s)), .int (nI (e % sP s))] [0, 1, 2, 3, 4, 5, 6, 7, 8, 9] [] (bz_move G H168 hl hf9 ht9 hm hps) rfl rfl rfl rfl (by decide) gw_L_34 nd_X0_move 0 0 rfl rfl rfl ⟨by decide, by decide⟩ ⟨(show k + 1 + 1 ≤ 120 by omega), (show n + 6 + 6 ≤ 720 by omega)⟩ (Nat.le_of_ble_eq_true rfl) dL_areWaysSo_185 rfl (fun r w185 hp => ?_)
      obtain ⟨v185, rfl, hp⟩ := hp
      refine j_eq (st' := [.int v185]) (ws2 := w185) rfl rfl rfl ?_
      obtain ⟨⟨d, hd6, rfl⟩, tr185, me185, to185, fa185, se185, qu185, H185, rfl⟩ := hp
      refine j_istore_8 C dL_areWaysSo_188 (by decide) ?_
      have G2 := G.mv (f := e / sP s) ht9 hm
      refine j_aload_n C dL_areWaysSo_190 rfl ?_
      refine j_callVZ (wr := []) (st := []) C X [] [0, 1, 2, 3, 4, 5, 6, 7, 8, 9] [] (bz_way G2 H185) rfl rfl rfl rfl (by decide) gw_L_91 nd_X0_way 0 0 rfl rfl rfl ⟨by decide, by decide⟩ ⟨(show k + 1 + 1 + 0 ≤ 120 by omega), (show n + 6 + 6 + 0 ≤ 720 by omega)⟩ (Nat.le_of_ble_eq_true rfl) dL_areWaysSo_191 rfl (fun r w191 hp => ?_)
      obtain ⟨v191, rfl, hp⟩ := hp
      refine j_eq (st' := [.int v191]) (ws2 := w191) rfl rfl rfl ?_
      obtain ⟨ds2, hd2, rfl, tr191, me191, to191, fa191, se191, qu191, H191, rfl⟩ := hp
      have hd2 : WY s ds2 := hd2
      have e2 : ds = ds2 := funext (srD_one hd hd2)
      subst e2
      refine j_istore_9 C dL_areWaysSo_194 (by decide) ?_
      refine j_aload_n C dL_areWaysSo_196 rfl ?_
      refine j_callSW (wr := []) (st := []) C X [.ref (ad 0)] [0, 1, 2, 3, 4, 5, 6, 7, 8, 9] [] (bz_lost G2 H191 hl) rfl rfl rfl rfl (by decide) gw_L_111 nd_L_lost ⟨by decide, by decide⟩ ⟨(show k + 1 + 1 + 0 + 1 ≤ 120 by omega), (show n + 6 + 6 + 0 + 6 ≤ 720 by omega)⟩ (Nat.le_of_ble_eq_true rfl) dL_areWaysSo_197 rfl (fun r w197 hp => ?_)
      obtain ⟨v197, rfl, hp⟩ := hp
      refine j_eq (st' := [.int v197]) (ws2 := w197) rfl rfl rfl ?_
      obtain ⟨hlb, tr197, me197, to197, fa197, se197, qu197, H197, rfl⟩ := hp
      have hlb : v197 = -99999 ∨ v197 = nI (sM s + 1) + (oI (ds (sA (sMv s (e / sP s) (e % sP s))))) - (oI (ds (stA (sM s) (sTr s) (sA s)))) := by
        rcases hlb with h | ⟨ds3, hd3, -, h⟩
        · exact Or.inl h
        · have hd3 : WY s ds3 := hd3
          have e3 : ds = ds3 := funext (srD_one hd hd3)
          subst e3
          rw [stA_mv] at h
          exact Or.inr h
      refine j_istore_10 C dL_areWaysSo_200 (by decide) ?_
      refine j_bipush C (nI 10) dL_areWaysSo_202 (by decide) ?_
      refine j_iload C dL_areWaysSo_204 rfl ?_
      refine j_iload C dL_areWaysSo_206 rfl ?_
      refine j_idiv C dL_areWaysSo_208 (ne_p hP0 (by omega)) ?_
      refine j_top _ (nI (e / sP s)) (pk_div (by omega) hP0 (by omega)) ?_
      refine j_imul C dL_areWaysSo_209 ?_
      refine j_top _ (nI (10 * (e / sP s))) (pk_mul _ _) ?_
      refine j_iload C dL_areWaysSo_210 rfl ?_
      refine j_iload C dL_areWaysSo_212 rfl ?_
      refine j_irem C dL_areWaysSo_214 (ne_p hP0 (by omega)) ?_
      refine j_top _ (nI (e % sP s)) (pk_rem (by omega) hP0 (by omega)) ?_
      refine j_iadd C dL_areWaysSo_215 ?_
      refine j_top _ (nI (10 * (e / sP s) + e % sP s)) (nI_add _ _) ?_
      refine j_istore_11 C dL_areWaysSo_216 (by decide) ?_
      have t305 : jJ K (k + 1 + 1 + 0 + 1) (n + 6 + 6 + 0 + 6) 305 [some (.ref (ad 0)), some (.int (oI (ds (sA s)))), some (.int (sNx s ds)), some (.int vl), l4, some (.int (nI 1)), some (.int (nI (sP s))), some (.int (nI e)), some (.int (nI d)), some (.int (oI (ds (sA (sMv s (e / sP s) (e % sP s)))))), some (.int v197), some (.int (nI (10 * (e / sP s) + e % sP s))), l12] [] (bw Y ad (sMv s (e / sP s) (e % sP s)) tr197 me197 to197 fa197 se197 qu197) := by
        refine j_iconst C (nI 1) dL_areWaysSo_305 (by decide) ?_
        refine j_goto C 310 dL_areWaysSo_306 (by decide) ?_
        refine j_istore_5 C dL_areWaysSo_310 (by decide) ?_
        refine j_aload_n C dL_areWaysSo_312 rfl ?_
        refine j_callVZ (wr := []) (st := []) C X [] [0, 1, 2, 3, 4, 5, 6, 7, 8, 9] [] (bz_takeBack G2 H197 hl (Nat.succ_pos _)) rfl rfl rfl rfl (by decide) gw_L_37 nd_X0_takeBack 0 0 rfl rfl rfl ⟨by decide, by decide⟩ ⟨(show k + 1 + 1 + 0 + 1 + 1 ≤ 120 by omega), (show n + 6 + 6 + 0 + 6 + 6 ≤ 720 by omega)⟩ (Nat.le_of_ble_eq_true rfl) dL_areWaysSo_313 rfl (fun r w313 hp => ?_)
        obtain ⟨v313, rfl, hp⟩ := hp
        refine j_eq (st' := [.int v313]) (ws2 := w313) rfl rfl rfl ?_
        obtain ⟨rfl, hB⟩ := hp
        have hB := Bw.back hB
        obtain ⟨tr313, me313, to313, fa313, se313, qu313, H313, rfl⟩ := hB
        refine j_top _ (nI (sM s)) (by show nI (sM s + 1 - 1) = nI (sM s); rw [Nat.add_sub_cancel]) ?_
        refine j_istore_12 C dL_areWaysSo_316 (by decide) ?_
        refine j_iload C dL_areWaysSo_318 rfl ?_
        refine j_if_eq C 341 dL_areWaysSo_320 (by decide) (fun z => absurd z (by decide)) (fun _ => ?_)
        refine j_iload C dL_areWaysSo_323 rfl ?_
        refine j_if_lt C 341 dL_areWaysSo_325 (by decide) (fun z => absurd z (nI_nlt0 (by omega))) (fun _ => ?_)
        refine j_iload C dL_areWaysSo_328 rfl ?_
        refine j_aload_n C dL_areWaysSo_330 rfl ?_
        refine j_callVZ (wr := []) (st := [.int (nI (sM s))]) C X [] [0, 1, 2, 3, 4, 5, 6, 7, 8, 9] [] (bz_moves) rfl rfl rfl rfl (by decide) gw_L_82 nd_X0_moves 0 0 rfl rfl rfl ⟨by decide, by decide⟩ ⟨(show k + 1 + 1 + 0 + 1 + 1 + 0 ≤ 120 by omega), (show n + 6 + 6 + 0 + 6 + 6 + 0 ≤ 720 by omega)⟩ (Nat.le_of_ble_eq_true rfl) dL_areWaysSo_331 rfl (fun r w331 hp => ?_)
        obtain ⟨v331, rfl, hp⟩ := hp
        refine j_eq (st' := [.int v331, .int (nI (sM s))]) (ws2 := w331) rfl rfl rfl ?_
        obtain ⟨rfl, rfl⟩ := hp
        refine j_icmp_ne C 341 dL_areWaysSo_334 (by decide) (fun z => absurd rfl z) (fun _ => ?_)
        refine j_iconst C (nI 1) dL_areWaysSo_337 (by decide) ?_
        refine j_goto C 342 dL_areWaysSo_338 (by decide) ?_
        refine j_istore_5 C dL_areWaysSo_342 (by decide) ?_
        exact t344 _ _ _ _ _ _ _ _ (show k + 1 + 1 + 0 + 1 + 1 + 0 ≤ k + 4 by omega) (show n + 6 + 6 + 0 + 6 + 6 + 0 ≤ n + 24 by omega) (Bw.of H313)
      have t279 : jJ K (k + 1 + 1 + 0 + 1) (n + 6 + 6 + 0 + 6) 279 [some (.ref (ad 0)), some (.int (oI (ds (sA s)))), some (.int (sNx s ds)), some (.int vl), l4, some (.int (nI 1)), some (.int (nI (sP s))), some (.int (nI e)), some (.int (nI d)), some (.int (oI (ds (sA (sMv s (e / sP s) (e % sP s)))))), some (.int v197), some (.int (nI (10 * (e / sP s) + e % sP s))), l12] [] (bw Y ad (sMv s (e / sP s) (e % sP s)) tr197 me197 to197 fa197 se197 qu197) := by
        refine j_iload_n C dL_areWaysSo_279 rfl ?_
        refine j_ldc C dL_areWaysSo_280 wd_kL_16 ?_
        refine j_icmp_eq C 305 dL_areWaysSo_282 (by decide) (fun _ => t305) (fun z1 => ?_)
        refine j_iload C dL_areWaysSo_285 rfl ?_
        refine j_ldc C dL_areWaysSo_287 wd_kL_16 ?_
        refine j_icmp_eq C 305 dL_areWaysSo_289 (by decide) (fun _ => t305) (fun z2 => ?_)
        refine j_iload C dL_areWaysSo_292 rfl ?_
        refine j_iload_n C dL_areWaysSo_294 rfl ?_
        refine j_iconst C (nI 1) dL_areWaysSo_295 (by decide) ?_
        refine j_iadd C dL_areWaysSo_296 ?_
        refine j_iload C dL_areWaysSo_297 rfl ?_
        refine j_iadd C dL_areWaysSo_299 ?_
        refine j_iload_n C dL_areWaysSo_300 rfl ?_
        refine j_isub C dL_areWaysSo_301 ?_
        refine j_icmp_ne C 309 dL_areWaysSo_302 (by decide) (fun z => absurd ?_ z) (fun _ => t305)
        have q1 := (hlo.resolve_left z1).2
        have q2 := hlb.resolve_left z2
        rw [q1, q2]
        exact lost_eq _ _ _ _
      have t261 : jJ K (k + 1 + 1 + 0 + 1) (n + 6 + 6 + 0 + 6) 261 [some (.ref (ad 0)), some (.int (oI (ds (sA s)))), some (.int (sNx s ds)), some (.int vl), l4, some (.int (nI 1)), some (.int (nI (sP s))), some (.int (nI e)), some (.int (nI d)), some (.int (oI (ds (sA (sMv s (e / sP s) (e % sP s)))))), some (.int v197), some (.int (nI (10 * (e / sP s) + e % sP s))), l12] [] (bw Y ad (sMv s (e / sP s) (e % sP s)) tr197 me197 to197 fa197 se197 qu197) := by
        refine j_iload C dL_areWaysSo_261 rfl ?_
        refine j_iload_n C dL_areWaysSo_263 rfl ?_
        refine j_icmp_ge C 279 dL_areWaysSo_264 (by decide) (fun _ => t279) (fun z1 => ?_)
        refine j_iload_n C dL_areWaysSo_267 rfl ?_
        refine j_if_lt C 279 dL_areWaysSo_268 (by decide) (fun _ => t279) (fun z2 => ?_)
        refine j_iload C dL_areWaysSo_271 rfl ?_
        refine j_iload_n C dL_areWaysSo_273 rfl ?_
        refine j_iconst C (nI 1) dL_areWaysSo_274 (by decide) ?_
        refine j_isub C dL_areWaysSo_275 ?_
        exact j_icmp_eq C 309 dL_areWaysSo_276 (by decide) (fun z => absurd z (told_2 hP0 hP5 G.M G.2.2.1 hd c hps z1 z2)) (fun _ => t279)
      have t247 : jJ K (k + 1 + 1 + 0 + 1) (n + 6 + 6 + 0 + 6) 247 [some (.ref (ad 0)), some (.int (oI (ds (sA s)))), some (.int (sNx s ds)), some (.int vl), l4, some (.int (nI 1)), some (.int (nI (sP s))), some (.int (nI e)), some (.int (nI d)), some (.int (oI (ds (sA (sMv s (e / sP s) (e % sP s)))))), some (.int v197), some (.int (nI (10 * (e / sP s) + e % sP s))), l12] [] (bw Y ad (sMv s (e / sP s) (e % sP s)) tr197 me197 to197 fa197 se197 qu197) := by
        refine j_iload C dL_areWaysSo_247 rfl ?_
        refine j_iload_n C dL_areWaysSo_249 rfl ?_
        refine j_icmp_ne C 261 dL_areWaysSo_250 (by decide) (fun _ => t261) (fun z1 => ?_)
        refine j_iload C dL_areWaysSo_253 rfl ?_
        refine j_iload_n C dL_areWaysSo_255 rfl ?_
        refine j_iconst C (nI 1) dL_areWaysSo_256 (by decide) ?_
        refine j_isub C dL_areWaysSo_257 ?_
        exact j_icmp_ne C 309 dL_areWaysSo_258 (by decide) (fun z => absurd (told_1 hP0 hP5 G.2.2.1 hd c z1) z) (fun _ => t261)
      refine j_iload C dL_areWaysSo_218 rfl ?_
      refine j_if_eq C 309 dL_areWaysSo_220 (by decide) (fun z => absurd z (by decide)) (fun _ => ?_)
      refine j_iload_n C dL_areWaysSo_223 rfl ?_
      refine j_if_lt C 247 dL_areWaysSo_224 (by decide) (fun _ => t247) (fun z1 => ?_)
      refine j_aload_n C dL_areWaysSo_227 rfl ?_
      refine j_callVZ (wr := []) (st := []) C X [] [0, 1, 2, 3, 4, 5, 6, 7, 8, 9] [] (bz_isLawful G2) rfl rfl rfl rfl (by decide) gw_L_115 nd_X0_isLawful 0 0 rfl rfl rfl ⟨by decide, by decide⟩ ⟨(show k + 1 + 1 + 0 + 1 + 0 ≤ 120 by omega), (show n + 6 + 6 + 0 + 6 + 0 ≤ 720 by omega)⟩ (Nat.le_of_ble_eq_true rfl) dL_areWaysSo_228 rfl (fun r w228 hp => ?_)
      obtain ⟨v228, rfl, hp⟩ := hp
      refine j_eq (st' := [.int v228]) (ws2 := w228) rfl rfl rfl ?_
      obtain ⟨rfl, rfl⟩ := hp
      refine jB_if_eq C 247 dL_areWaysSo_231 (by decide) (fun _ => t247) (fun _ => ?_)
      refine j_iload C dL_areWaysSo_234 rfl ?_
      refine j_if_lt C 247 dL_areWaysSo_236 (by decide) (fun _ => t247) (fun z2 => ?_)
      refine j_iload C dL_areWaysSo_239 rfl ?_
      refine j_iload_n C dL_areWaysSo_241 rfl ?_
      refine j_iconst C (nI 1) dL_areWaysSo_242 (by decide) ?_
      refine j_isub C dL_areWaysSo_243 ?_
      exact j_icmp_lt C 309 dL_areWaysSo_244 (by decide) (fun z => absurd z (told_3 hP0 G.M G.2.2.1 hd hf9 ht9 hps z1 z2)) (fun _ => t247)
set_option maxHeartbeats 4000000 in
set_option maxRecDepth 100000 in
theorem ct_L_areWaysSo {l : Launch} {D : va_G} {Y : jy_T} {ad : Nat → Nat} {s : sT} {tr : Nat → Nat} {me : Bool} {to fa se qu : Nat → Int32} (G : GD s) (H : Hd s tr me fa) (hl : l.stackTraces = false) :
    MZ l yL_areWaysSo cL_areWaysSo 13 (some .boolean) rm_L_areWaysSo D Y [.ref (ad 0)] (bw Y ad s tr me to fa se qu) (jI (fun r w => r = nI 1 ∧ Bw Y ad s w)) := by
  refine j_enterZ (by decide) (Nat.le_of_ble_eq_true rfl) (fun v hv => by rw [List.mem_singleton.mp hv]; rfl) (fun K hl2 hD C R X => ?_)
  subst hl2; subst hD
  have C : jC cL_areWaysSo RL Y rm_L_areWaysSo 13 K := C
  have R : jR Y (some .boolean) 120 720 (jI (fun r w => r = nI 1 ∧ Bw Y ad s w)) K := R
  refine j_eq (lo' := [some (.ref (ad 0)), none, none, none, none, none, none, none, none, none, none, none, none]) rfl rfl rfl ?_
  have hP0 := G.P0
  have hP5 := G.P5
  have hPP : sP s * sP s ≤ 25 := Nat.mul_le_mul hP5 hP5
  refine j_aload_n C dL_areWaysSo_0 rfl ?_
  refine j_callVZ (wr := []) (st := []) C X [] [0, 1, 2, 3, 4, 5, 6, 7, 8, 9] [] (bz_way G H) rfl rfl rfl rfl (by decide) gw_L_91 nd_X0_way 0 0 rfl rfl rfl ⟨by decide, by decide⟩ ⟨(show 0 + 0 ≤ 120 by omega), (show 0 + 0 ≤ 720 by omega)⟩ (Nat.le_of_ble_eq_true rfl) dL_areWaysSo_1 rfl (fun r w1 hp => ?_)
  obtain ⟨v1, rfl, hp⟩ := hp
  refine j_eq (st' := [.int v1]) (ws2 := w1) rfl rfl rfl ?_
  obtain ⟨ds, hd, rfl, tr1, me1, to1, fa1, se1, qu1, H1, rfl⟩ := hp
  refine j_istore_1 C dL_areWaysSo_4 (by decide) ?_
  refine j_aload_n C dL_areWaysSo_5 rfl ?_
  refine j_callVZ (wr := []) (st := []) C X [] [0, 1, 2, 3, 4, 5, 6, 7, 8, 9] [] (bz_next G H1) rfl rfl rfl rfl (by decide) gw_L_108 nd_X0_next 0 0 rfl rfl rfl ⟨by decide, by decide⟩ ⟨(show 0 + 0 + 0 ≤ 120 by omega), (show 0 + 0 + 0 ≤ 720 by omega)⟩ (Nat.le_of_ble_eq_true rfl) dL_areWaysSo_6 rfl (fun r w6 hp => ?_)
  obtain ⟨v6, rfl, hp⟩ := hp
  refine j_eq (st' := [.int v6]) (ws2 := w6) rfl rfl rfl ?_
  obtain ⟨ds2, hd2, rfl, tr6, me6, to6, fa6, se6, qu6, H6, rfl⟩ := hp
  have e2 : ds = ds2 := funext (srD_one hd hd2)
  subst e2
  refine j_istore_2 C dL_areWaysSo_9 (by decide) ?_
  refine j_aload_n C dL_areWaysSo_10 rfl ?_
  refine j_callSW (wr := []) (st := []) C X [.ref (ad 0)] [0, 1, 2, 3, 4, 5, 6, 7, 8, 9] [] (bz_lost G H6 hl) rfl rfl rfl rfl (by decide) gw_L_111 nd_L_lost ⟨by decide, by decide⟩ ⟨(show 0 + 0 + 0 + 1 ≤ 120 by omega), (show 0 + 0 + 0 + 6 ≤ 720 by omega)⟩ (Nat.le_of_ble_eq_true rfl) dL_areWaysSo_11 rfl (fun r w11 hp => ?_)
  obtain ⟨v11, rfl, hp⟩ := hp
  refine j_eq (st' := [.int v11]) (ws2 := w11) rfl rfl rfl ?_
  obtain ⟨hlo, tr11, me11, to11, fa11, se11, qu11, H11, rfl⟩ := hp
  have hlo : v11 = -99999 ∨ (ds (sA s) ≠ none ∧ v11 = nI (sM s) + (oI (ds (sA s))) - (oI (ds (stA (sM s) (sTr s) (sA s))))) := by
    rcases hlo with h | ⟨ds3, hd3, h1, h⟩
    · exact Or.inl h
    · have e3 : ds = ds3 := funext (srD_one hd hd3)
      subst e3
      exact Or.inr ⟨h1, h⟩
  refine j_istore_3 C dL_areWaysSo_14 (by decide) ?_
  refine j_aload_n C dL_areWaysSo_15 rfl ?_
  refine j_callSW (wr := []) (st := []) C X [.ref (ad 0)] [0, 1, 2, 3, 4, 5, 6, 7, 8, 9] [] (bz_wayByDisks G hl) rfl rfl rfl rfl (by decide) gw_L_113 nd_L_wayByDisks ⟨by decide, by decide⟩ ⟨(show 0 + 0 + 0 + 1 + 1 ≤ 120 by omega), (show 0 + 0 + 0 + 6 + 6 ≤ 720 by omega)⟩ (Nat.le_of_ble_eq_true rfl) dL_areWaysSo_16 rfl (fun r w16 hp => ?_)
  obtain ⟨v16, rfl, hp⟩ := hp
  refine j_eq (st' := [.int v16]) (ws2 := w16) rfl rfl rfl ?_
  obtain ⟨hbd, rfl⟩ := hp
  have hbd : v16 = -1 ∨ v16 = (oI (ds (sA s))) := by
    rcases hbd with h | ⟨h1, h2, h3, h⟩
    · exact Or.inl h
    · rw [wb_WY G hd h1 h2 h3]
      exact Or.inr h
  refine j_istore_4 C dL_areWaysSo_19 (by decide) ?_
  have t350 : ∀ (k n : Nat) (l6 l7 l8 l9 l10 l11 l12 : Option Value) (w : va_W), k ≤ 120 → n ≤ 720 → Bw Y ad s w → jJ K k n 350 [some (.ref (ad 0)), some (.int (oI (ds (sA s)))), some (.int (sNx s ds)), some (.int v11), some (.int v16), some (.int (nI 1)), l6, l7, l8, l9, l10, l11, l12] [] w := by
    intro k n l6 l7 l8 l9 l10 l11 l12 w hk hn hB
    obtain ⟨tr, me, to, fa, se, qu, H, rfl⟩ := hB
    refine j_iload C dL_areWaysSo_350 rfl ?_
    refine j_if_eq C 367 dL_areWaysSo_352 (by decide) (fun z => absurd z (by decide)) (fun _ => ?_)
    refine j_aload_n C dL_areWaysSo_355 rfl ?_
    refine j_callVZ (wr := []) (st := []) C X [] [0, 1, 2, 3, 4, 5, 6, 7, 8, 9] [] (bz_way G H) rfl rfl rfl rfl (by decide) gw_L_91 nd_X0_way 0 0 rfl rfl rfl ⟨by decide, by decide⟩ ⟨(show k + 0 ≤ 120 by omega), (show n + 0 ≤ 720 by omega)⟩ (Nat.le_of_ble_eq_true rfl) dL_areWaysSo_356 rfl (fun r w356 hp => ?_)
    obtain ⟨v356, rfl, hp⟩ := hp
    refine j_eq (st' := [.int v356]) (ws2 := w356) rfl rfl rfl ?_
    obtain ⟨ds3, hd3, rfl, tr356, me356, to356, fa356, se356, qu356, H356, rfl⟩ := hp
    have e3 : ds = ds3 := funext (srD_one hd hd3)
    subst e3
    refine j_iload_n C dL_areWaysSo_359 rfl ?_
    refine j_icmp_ne C 367 dL_areWaysSo_360 (by decide) (fun z => absurd rfl z) (fun _ => ?_)
    refine j_iconst C (nI 1) dL_areWaysSo_363 (by decide) ?_
    refine j_goto C 368 dL_areWaysSo_364 (by decide) ?_
    refine j_widen hk hn ?_
    exact j_retz C R dL_areWaysSo_368 rfl ⟨rfl, Bw.of H356⟩
  have t116 : ∀ w, Bw Y ad s w → jJ K (0 + 0 + 0 + 1 + 1) (0 + 0 + 0 + 6 + 6) 116 [some (.ref (ad 0)), some (.int (oI (ds (sA s)))), some (.int (sNx s ds)), some (.int v11), some (.int v16), none, none, none, none, none, none, none, none] [] w := by
    intro w hB
    obtain ⟨tr, me, to, fa, se, qu, H, rfl⟩ := hB
    refine j_iconst C (nI 1) dL_areWaysSo_116 (by decide) ?_
    refine j_goto C 121 dL_areWaysSo_117 (by decide) ?_
    refine j_istore_5 C dL_areWaysSo_121 (by decide) ?_
    refine j_iload C dL_areWaysSo_123 rfl ?_
    refine j_if_eq C 350 dL_areWaysSo_125 (by decide) (fun z => absurd z (by decide)) (fun _ => ?_)
    refine j_aload_n C dL_areWaysSo_128 rfl ?_
    refine j_callVZ (wr := []) (st := []) C X [] [0, 1, 2, 3, 4, 5, 6, 7, 8, 9] [] (bz_moves) rfl rfl rfl rfl (by decide) gw_L_82 nd_X0_moves 0 0 rfl rfl rfl ⟨by decide, by decide⟩ ⟨(show 0 + 0 + 0 + 1 + 1 + 0 ≤ 120 by omega), (show 0 + 0 + 0 + 6 + 6 + 0 ≤ 720 by omega)⟩ (Nat.le_of_ble_eq_true rfl) dL_areWaysSo_129 rfl (fun r w129 hp => ?_)
    obtain ⟨v129, rfl, hp⟩ := hp
    refine j_eq (st' := [.int v129]) (ws2 := w129) rfl rfl rfl ?_
    obtain ⟨rfl, rfl⟩ := hp
    refine j_sipush C (nI 500) dL_areWaysSo_132 (by decide) ?_
    refine jN_icmp_ge C 350 (by have := G.2.2.2.1; omega) (by omega) dL_areWaysSo_135 (by decide) (fun _ => t350 _ _ _ _ _ _ _ _ _ _ (show 0 + 0 + 0 + 1 + 1 + 0 ≤ 120 by omega) (show 0 + 0 + 0 + 6 + 6 + 0 ≤ 720 by omega) (Bw.of H)) (fun hm => ?_)
    refine j_aload_n C dL_areWaysSo_138 rfl ?_
    refine j_callVZ (wr := []) (st := []) C X [] [0, 1, 2, 3, 4, 5, 6, 7, 8, 9] [] (bz_pegs) rfl rfl rfl rfl (by decide) gw_L_52 nd_X0_pegs 0 0 rfl rfl rfl ⟨by decide, by decide⟩ ⟨(show 0 + 0 + 0 + 1 + 1 + 0 + 0 ≤ 120 by omega), (show 0 + 0 + 0 + 6 + 6 + 0 + 0 ≤ 720 by omega)⟩ (Nat.le_of_ble_eq_true rfl) dL_areWaysSo_139 rfl (fun r w139 hp => ?_)
    obtain ⟨v139, rfl, hp⟩ := hp
    refine j_eq (st' := [.int v139]) (ws2 := w139) rfl rfl rfl ?_
    obtain ⟨rfl, rfl⟩ := hp
    refine j_istore_6 C dL_areWaysSo_142 (by decide) ?_
    refine j_iconst C (nI 0) dL_areWaysSo_144 (by decide) ?_
    refine j_istore_7 C dL_areWaysSo_145 (by decide) ?_
    exact ways_loop C X G hl hd hm hlo (fun k n l6 l7 l8 l9 l10 l11 l12 w hk hn hB => t350 k n l6 l7 l8 l9 l10 l11 l12 w hk hn hB) (sP s * sP s) 0 (0 + 0 + 0 + 1 + 1 + 0 + 0) (0 + 0 + 0 + 6 + 6 + 0 + 0) _ _ _ _ _ _ (by omega) (by omega) (by omega) (by omega) (Bw.of H)
  have t79 : jJ K (0 + 0 + 0 + 1 + 1) (0 + 0 + 0 + 6 + 6) 79 [some (.ref (ad 0)), some (.int (oI (ds (sA s)))), some (.int (sNx s ds)), some (.int v11), some (.int v16), none, none, none, none, none, none, none, none] [] (bw Y ad s tr11 me11 to11 fa11 se11 qu11) := by
    refine j_aload_n C dL_areWaysSo_79 rfl ?_
    refine j_callVZ (wr := []) (st := []) C X [] [0, 1, 2, 3, 4, 5, 6, 7, 8, 9] [] (bz_reachable G H11) rfl rfl rfl rfl (by decide) gw_L_94 nd_X0_reachable 0 0 rfl rfl rfl ⟨by decide, by decide⟩ ⟨(show 0 + 0 + 0 + 1 + 1 + 0 ≤ 120 by omega), (show 0 + 0 + 0 + 6 + 6 + 0 ≤ 720 by omega)⟩ (Nat.le_of_ble_eq_true rfl) dL_areWaysSo_80 rfl (fun r w80 hp => ?_)
    obtain ⟨v80, rfl, hp⟩ := hp
    refine j_eq (st' := [.int v80]) (ws2 := w80) rfl rfl rfl ?_
    obtain ⟨fo, hfo, rfl, tr80, me80, to80, fa80, se80, qu80, H80, rfl⟩ := hp
    refine j_bN C (decide (nI fo = 0)) (fun c => decide_eq_true c) (fun c => decide_eq_false c) dL_areWaysSo_83 dL_areWaysSo_86 dL_areWaysSo_87 dL_areWaysSo_90 ?_
    refine j_aload_n C dL_areWaysSo_91 rfl ?_
    refine j_callVZ (wr := []) (st := [.int (bi (decide (nI fo = 0)))]) C X [] [0, 1, 2, 3, 4, 5, 6, 7, 8, 9] [] (bz_isLawful G) rfl rfl rfl rfl (by decide) gw_L_115 nd_X0_isLawful 0 0 rfl rfl rfl ⟨by decide, by decide⟩ ⟨(show 0 + 0 + 0 + 1 + 1 + 0 + 0 ≤ 120 by omega), (show 0 + 0 + 0 + 6 + 6 + 0 + 0 ≤ 720 by omega)⟩ (Nat.le_of_ble_eq_true rfl) dL_areWaysSo_92 rfl (fun r w92 hp => ?_)
    obtain ⟨v92, rfl, hp⟩ := hp
    refine j_eq (st' := [.int v92, .int (bi (decide (nI fo = 0)))]) (ws2 := w92) rfl rfl rfl ?_
    obtain ⟨rfl, rfl⟩ := hp
    refine j_bN C (!sLw s) (fun c => by rw [(bi_0 _).mp c]; rfl) (fun c => by rw [(bi_n0 _).mp c]; rfl) dL_areWaysSo_95 dL_areWaysSo_98 dL_areWaysSo_99 dL_areWaysSo_102 ?_
    refine j_icmp_ne C 120 dL_areWaysSo_103 (by decide) (fun z => absurd (ww_rc G hfo) z) (fun _ => ?_)
    refine j_iload_n C dL_areWaysSo_106 rfl ?_
    refine j_ldc C dL_areWaysSo_107 wd_kL_16 ?_
    refine j_icmp_eq C 116 dL_areWaysSo_109 (by decide) (fun _ => t116 _ (Bw.of H80)) (fun z1 => ?_)
    refine j_iload_n C dL_areWaysSo_112 rfl ?_
    exact j_if_lt C 120 dL_areWaysSo_113 (by decide) (fun z => absurd z (ww_nn G hd (hlo.resolve_left z1).1)) (fun _ => t116 _ (Bw.of H80))
  have t68 : jJ K (0 + 0 + 0 + 1 + 1) (0 + 0 + 0 + 6 + 6) 68 [some (.ref (ad 0)), some (.int (oI (ds (sA s)))), some (.int (sNx s ds)), some (.int v11), some (.int v16), none, none, none, none, none, none, none, none] [] (bw Y ad s tr11 me11 to11 fa11 se11 qu11) := by
    refine j_iload C dL_areWaysSo_68 rfl ?_
    refine j_if_lt C 79 dL_areWaysSo_70 (by decide) (fun _ => t79) (fun z1 => ?_)
    refine j_iload C dL_areWaysSo_73 rfl ?_
    refine j_iload_n C dL_areWaysSo_75 rfl ?_
    refine j_icmp_ne C 120 dL_areWaysSo_76 (by decide) (fun z => absurd ?_ z) (fun _ => t79)
    rcases hbd with h | h
    · rw [h] at z1; exact absurd (by decide) z1
    · exact h
  have t57 : jJ K (0 + 0 + 0 + 1 + 1) (0 + 0 + 0 + 6 + 6) 57 [some (.ref (ad 0)), some (.int (oI (ds (sA s)))), some (.int (sNx s ds)), some (.int v11), some (.int v16), none, none, none, none, none, none, none, none] [] (bw Y ad s tr11 me11 to11 fa11 se11 qu11) := by
    refine j_iload_n C dL_areWaysSo_57 rfl ?_
    refine j_if_lt C 68 dL_areWaysSo_58 (by decide) (fun _ => t68) (fun z1 => ?_)
    refine j_aload_n C dL_areWaysSo_61 rfl ?_
    refine j_callVZ (wr := []) (st := []) C X [] [0, 1, 2, 3, 4, 5, 6, 7, 8, 9] [] (bz_isLawful G) rfl rfl rfl rfl (by decide) gw_L_115 nd_X0_isLawful 0 0 rfl rfl rfl ⟨by decide, by decide⟩ ⟨(show 0 + 0 + 0 + 1 + 1 + 0 ≤ 120 by omega), (show 0 + 0 + 0 + 6 + 6 + 0 ≤ 720 by omega)⟩ (Nat.le_of_ble_eq_true rfl) dL_areWaysSo_62 rfl (fun r w62 hp => ?_)
    obtain ⟨v62, rfl, hp⟩ := hp
    refine j_eq (st' := [.int v62]) (ws2 := w62) rfl rfl rfl ?_
    obtain ⟨rfl, rfl⟩ := hp
    exact jB_if_eq C 120 dL_areWaysSo_65 (by decide) (fun z => absurd (ww_law G hd z1) (by rw [z]; decide)) (fun _ => t68)
  refine j_iload_n C dL_areWaysSo_21 rfl ?_
  refine j_bLe C  dL_areWaysSo_22 dL_areWaysSo_25 dL_areWaysSo_26 dL_areWaysSo_29 ?_
  refine j_iload_n C dL_areWaysSo_30 rfl ?_
  refine j_bLt C  dL_areWaysSo_31 dL_areWaysSo_34 dL_areWaysSo_35 dL_areWaysSo_38 ?_
  refine j_icmp_ne C 120 dL_areWaysSo_39 (by decide) (fun z => absurd (ww_next G hd) z) (fun _ => ?_)
  refine j_iload_n C dL_areWaysSo_42 rfl ?_
  refine j_if_ne C 57 dL_areWaysSo_43 (by decide) (fun _ => t57) (fun z0 => ?_)
  refine j_aload_n C dL_areWaysSo_46 rfl ?_
  refine j_callVZ (wr := []) (st := []) C X [] [0, 1, 2, 3, 4, 5, 6, 7, 8, 9] [] (bz_arrangement) rfl rfl rfl rfl (by decide) gw_L_85 nd_X0_arrangement 0 0 rfl rfl rfl ⟨by decide, by decide⟩ ⟨(show 0 + 0 + 0 + 1 + 1 + 0 ≤ 120 by omega), (show 0 + 0 + 0 + 6 + 6 + 0 ≤ 720 by omega)⟩ (Nat.le_of_ble_eq_true rfl) dL_areWaysSo_47 rfl (fun r w47 hp => ?_)
  obtain ⟨v47, rfl, hp⟩ := hp
  refine j_eq (st' := [.int v47]) (ws2 := w47) rfl rfl rfl ?_
  obtain ⟨rfl, rfl⟩ := hp
  refine j_aload_n C dL_areWaysSo_50 rfl ?_
  refine j_callVZ (wr := []) (st := [.int (nI (sA s))]) C X [] [0, 1, 2, 3, 4, 5, 6, 7, 8, 9] [] (bz_goal) rfl rfl rfl rfl (by decide) gw_L_88 nd_X0_goal 0 0 rfl rfl rfl ⟨by decide, by decide⟩ ⟨(show 0 + 0 + 0 + 1 + 1 + 0 + 0 ≤ 120 by omega), (show 0 + 0 + 0 + 6 + 6 + 0 + 0 ≤ 720 by omega)⟩ (Nat.le_of_ble_eq_true rfl) dL_areWaysSo_51 rfl (fun r w51 hp => ?_)
  obtain ⟨v51, rfl, hp⟩ := hp
  refine j_eq (st' := [.int v51, .int (nI (sA s))]) (ws2 := w51) rfl rfl rfl ?_
  obtain ⟨rfl, rfl⟩ := hp
  exact j_icmp_ne C 120 dL_areWaysSo_54 (by decide) (fun z => absurd (ww_0 G hd z0) z) (fun _ => t57)
