section LawBlocks
variable {p : Program} {l : Launch} {e : Env} {s : State} {m : MethodId} {args : Array Value} {below : List Frame} {meth : Method} {c : Code} {H : Heap} {locs : List Loc} {cells slots : Nat} {Q : State → Prop}
variable {g : k_g} {ad : k_AD} {b L i : Nat} {xs : Nat → Int32} {ls : Array Slot} {t : k_T}
/-- change: the class and the model, one behind the other, say the same -/
def pr_change (l : Launch) (g : k_g) (ad : k_AD) (t : k_T) (z1 z2 : Int32) : Prop := ∃ (k : Nat) (post : Int32 → k_T × k_AD → Prop), vx_Met l yL_change wsL_change rm_L_change (va_Pc [.ref (ad 0 0), .int z1, .int z2, .ref (ad 24 0)] (k_I g (k_ct g ad t) ad)) (va_Qi (S := k_T × k_AD) post (fun u U => k_H g u.2 u.1 U.heap) (k_A g)) (fun _ _ _ => False) 3 18 (k_A g) ∧ k < 2 ^ 31 ∧ ∀ r t1 ad1, post r (t1, ad1) → r = nI k ∧ (ad1 0 0 = ad 0 0 ∧ ad1 9 0 = ad 9 0 ∧ ad1 24 0 = ad 24 0) ∧ ∃ (post2 : Int32 → k_T → Prop), Met l yX5_change wsX5_change rm_X5_change (va_Pc [.ref (ad1 9 0), .int z1, .int z2] (k_I g (k_ct g ad1 t1) ad1)) (va_Qi post2 (fun w U => k_H g ad1 w U.heap) (k_A g)) 0 0 (k_A g) ∧ ∀ rv w, post2 rv w → m_l w = k ∧ (k = 0 → l_o w 0 = rv.toInt64) ∧ k_J w
set_option maxRecDepth 100000 in
set_option maxHeartbeats 4000000 in
theorem lw_b_change (C : lw_C p l s m args c g b L xs) (hi : i + 3 < L) (hc : cells + 20 ≤ 601024) (hs : slots + 200 ≤ 7293034) (hS : va_S (k_A g) s.heap H locs) (hW : k_H g ad t H) (hl : lv_has ls 7 (lw_lv ad b i)) (hp : pr_change l g ad t (xs (i + 1)) (xs (i + 2))) (kk : lw_K p l e s m args below meth c g b i cells slots Q) : W p l e room_1 s m args below meth c H locs cells slots Q (F0 m 140 ls []) := by
  obtain ⟨hx, hb, hml, hown, hts, hX, hbl, hlt, hK, hZ, hg, hL⟩ := id C
  have hN : g.2.2 ≤ s.heap.size := by omega
  obtain ⟨k, post, hM, hk, hP⟩ := hp
  refine lv_aload_n hx hb dL_law_140 rfl (lv_at hl 1 rfl) ?_
  refine lw_opnd C hS hl 0 4 rfl rfl 1 (by omega) (by decide) dL_law_141 dL_law_142 dL_law_144 dL_law_145 dL_law_146 ?_
  refine lw_opnd C hS hl 0 4 rfl rfl 2 (by omega) (by decide) dL_law_147 dL_law_148 dL_law_150 dL_law_151 dL_law_152 ?_
  refine lv_aload_n hx hb dL_law_153 rfl (lv_at hl 3 rfl) ?_
  refine k_ciA (lw_va (vx_runSX (As := [.ref (ad 0 0), .int (xs (i + 1)), .int (xs (i + 2)), .ref (ad 24 0)]) (rest := []) ⟨hx, hb, hml, hown, hts⟩ hM (vx_cwSW 4 hts gL_law_L_change rfl rfl rfl (by decide +kernel) ⟨Nat.le_of_ble_eq_true rfl, Nat.le_of_ble_eq_true rfl⟩) ⟨k_blind, fun U hU hw => ⟨rfl, k_I.of hK hZ hN hS hW hU hw⟩⟩ rfl rfl hl.1 rfl (lv_room (Nat.le_of_ble_eq_true rfl)) dL_law_154 ⟨lw_cl (k := 0) hc (by decide), lw_sl (k := 0) hs (by decide)⟩)) hS (fun r u H locs hpo hW hS => ?_)
  obtain ⟨t1, ad1⟩ := u
  obtain ⟨rfl, ⟨a0, a9, a24⟩, post2, hM2, hP2⟩ := hP r t1 ad1 hpo
  have hW : k_H g ad1 t1 H := hW
  have hl := lw_lv_to a0 a9 a24 hl
  refine lv_istore (lv' := (5, .int (nI k)) :: lw_lv ad1 b i) hx hb dL_law_157 hl (by decide) rfl (fun ls hl => ?_)
  refine lv_aload_n hx hb dL_law_159 rfl (lv_at hl 3 rfl) ?_
  refine lw_opnd C hS hl 1 5 rfl rfl 1 (by omega) (by decide) dL_law_160 dL_law_161 dL_law_163 dL_law_164 dL_law_165 ?_
  refine lw_opnd C hS hl 1 5 rfl rfl 2 (by omega) (by decide) dL_law_166 dL_law_167 dL_law_169 dL_law_170 dL_law_171 ?_
  refine k_ci (va_runV (As := [.int (xs (i + 1)), .int (xs (i + 2))]) (rest := []) ⟨hx, hb, hml, hown, hts⟩ hM2 (cwV 2 hts gL_law_X5_change rfl rfl rfl (by decide +kernel) ⟨Nat.le_of_ble_eq_true rfl, Nat.le_of_ble_eq_true rfl⟩) ⟨k_blind, k_recv hK hW (kc_9 g ad1 t1) rfl, fun U hU hw => ⟨rfl, k_I.of hK hZ hN hS hW hU hw⟩⟩ rfl rfl hl.1 rfl (lv_room (Nat.le_of_ble_eq_true rfl)) dL_law_172 ⟨lw_cl (mc := 0) hc (by decide), lw_sl (ms := 0) hs (by decide)⟩) hS (fun rv w H locs hpo2 hW hS => ?_)
  obtain ⟨hm, ho, hJ⟩ := hP2 rv w hpo2
  refine W.widen (k := cells + 20) (n := slots + 200) (by omega) (by omega) ?_
  exact lw_tail C hc hs hS hW hk hl hm ho dL_law_175 dL_law_177 dL_law_178 dL_law_181 dL_law_183 dL_law_188 dL_law_190 dL_law_193 dL_law_194 dL_law_195 dL_law_196 dL_law_198 dL_law_199 dL_law_200 dL_law_205 (by decide) (fun H locs ls hW hS hl => kk _ _ _ _ _ hW hJ hS hl)
/-- pass: the class and the model, one behind the other, say the same -/
def pr_pass (l : Launch) (g : k_g) (ad : k_AD) (t : k_T) (z1 : Int32) : Prop := ∃ (k : Nat) (post : Int32 → k_T × k_AD → Prop), vx_Met l yL_pass wsL_pass rm_L_pass (va_Pc [.ref (ad 0 0), .int z1, .ref (ad 24 0)] (k_I g (k_ct g ad t) ad)) (va_Qi (S := k_T × k_AD) post (fun u U => k_H g u.2 u.1 U.heap) (k_A g)) (fun _ _ _ => False) 2 12 (k_A g) ∧ k < 2 ^ 31 ∧ ∀ r t1 ad1, post r (t1, ad1) → r = nI k ∧ (ad1 0 0 = ad 0 0 ∧ ad1 9 0 = ad 9 0 ∧ ad1 24 0 = ad 24 0) ∧ ∃ (post2 : Int32 → k_T → Prop), Met l yX5_pass wsX5_pass rm_X5_pass (va_Pc [.ref (ad1 9 0), .int z1] (k_I g (k_ct g ad1 t1) ad1)) (va_Qi post2 (fun w U => k_H g ad1 w U.heap) (k_A g)) 0 0 (k_A g) ∧ ∀ rv w, post2 rv w → m_l w = k ∧ (k = 0 → l_o w 0 = rv.toInt64) ∧ k_J w
set_option maxRecDepth 100000 in
set_option maxHeartbeats 4000000 in
theorem lw_b_pass (C : lw_C p l s m args c g b L xs) (hi : i + 3 < L) (hc : cells + 20 ≤ 601024) (hs : slots + 200 ≤ 7293034) (hS : va_S (k_A g) s.heap H locs) (hW : k_H g ad t H) (hl : lv_has ls 7 (lw_lv ad b i)) (hp : pr_pass l g ad t (xs (i + 1))) (kk : lw_K p l e s m args below meth c g b i cells slots Q) : W p l e room_1 s m args below meth c H locs cells slots Q (F0 m 208 ls []) := by
  obtain ⟨hx, hb, hml, hown, hts, hX, hbl, hlt, hK, hZ, hg, hL⟩ := id C
  have hN : g.2.2 ≤ s.heap.size := by omega
  obtain ⟨k, post, hM, hk, hP⟩ := hp
  refine lv_aload_n hx hb dL_law_208 rfl (lv_at hl 1 rfl) ?_
  refine lw_opnd C hS hl 0 4 rfl rfl 1 (by omega) (by decide) dL_law_209 dL_law_210 dL_law_212 dL_law_213 dL_law_214 ?_
  refine lv_aload_n hx hb dL_law_215 rfl (lv_at hl 3 rfl) ?_
  refine k_ciA (lw_va (vx_runSX (As := [.ref (ad 0 0), .int (xs (i + 1)), .ref (ad 24 0)]) (rest := []) ⟨hx, hb, hml, hown, hts⟩ hM (vx_cwSW 3 hts gL_law_L_pass rfl rfl rfl (by decide +kernel) ⟨Nat.le_of_ble_eq_true rfl, Nat.le_of_ble_eq_true rfl⟩) ⟨k_blind, fun U hU hw => ⟨rfl, k_I.of hK hZ hN hS hW hU hw⟩⟩ rfl rfl hl.1 rfl (lv_room (Nat.le_of_ble_eq_true rfl)) dL_law_216 ⟨lw_cl (k := 0) hc (by decide), lw_sl (k := 0) hs (by decide)⟩)) hS (fun r u H locs hpo hW hS => ?_)
  obtain ⟨t1, ad1⟩ := u
  obtain ⟨rfl, ⟨a0, a9, a24⟩, post2, hM2, hP2⟩ := hP r t1 ad1 hpo
  have hW : k_H g ad1 t1 H := hW
  have hl := lw_lv_to a0 a9 a24 hl
  refine lv_istore (lv' := (5, .int (nI k)) :: lw_lv ad1 b i) hx hb dL_law_219 hl (by decide) rfl (fun ls hl => ?_)
  refine lv_aload_n hx hb dL_law_221 rfl (lv_at hl 3 rfl) ?_
  refine lw_opnd C hS hl 1 5 rfl rfl 1 (by omega) (by decide) dL_law_222 dL_law_223 dL_law_225 dL_law_226 dL_law_227 ?_
  refine k_ci (va_runV (As := [.int (xs (i + 1))]) (rest := []) ⟨hx, hb, hml, hown, hts⟩ hM2 (cwV 1 hts gL_law_X5_pass rfl rfl rfl (by decide +kernel) ⟨Nat.le_of_ble_eq_true rfl, Nat.le_of_ble_eq_true rfl⟩) ⟨k_blind, k_recv hK hW (kc_9 g ad1 t1) rfl, fun U hU hw => ⟨rfl, k_I.of hK hZ hN hS hW hU hw⟩⟩ rfl rfl hl.1 rfl (lv_room (Nat.le_of_ble_eq_true rfl)) dL_law_228 ⟨lw_cl (mc := 0) hc (by decide), lw_sl (ms := 0) hs (by decide)⟩) hS (fun rv w H locs hpo2 hW hS => ?_)
  obtain ⟨hm, ho, hJ⟩ := hP2 rv w hpo2
  refine W.widen (k := cells + 20) (n := slots + 200) (by omega) (by omega) ?_
  exact lw_tail C hc hs hS hW hk hl hm ho dL_law_231 dL_law_233 dL_law_234 dL_law_237 dL_law_239 dL_law_244 dL_law_246 dL_law_249 dL_law_250 dL_law_251 dL_law_252 dL_law_254 dL_law_255 dL_law_256 dL_law_261 (by decide) (fun H locs ls hW hS hl => kk _ _ _ _ _ hW hJ hS hl)
/-- full: the class and the model, one behind the other, say the same -/
def pr_full (l : Launch) (g : k_g) (ad : k_AD) (t : k_T) : Prop := ∃ (k : Nat) (post : Int32 → k_T × k_AD → Prop), vx_Met l yL_full wsL_full rm_L_full (va_Pc [.ref (ad 0 0), .ref (ad 24 0)] (k_I g (k_ct g ad t) ad)) (va_Qi (S := k_T × k_AD) post (fun u U => k_H g u.2 u.1 U.heap) (k_A g)) (fun _ _ _ => False) 3 27 (k_A g) ∧ k < 2 ^ 31 ∧ ∀ r t1 ad1, post r (t1, ad1) → r = nI k ∧ (ad1 0 0 = ad 0 0 ∧ ad1 9 0 = ad 9 0 ∧ ad1 24 0 = ad 24 0) ∧ ∃ (post2 : Int32 → k_T → Prop), Met l yX5_full wsX5_full rm_X5_full (va_Pc [.ref (ad1 9 0)] (k_I g (k_ct g ad1 t1) ad1)) (va_Qi post2 (fun w U => k_H g ad1 w U.heap) (k_A g)) 0 0 (k_A g) ∧ ∀ rv w, post2 rv w → m_l w = k ∧ (k = 0 → l_o w 0 = rv.toInt64) ∧ k_J w
set_option maxRecDepth 100000 in
set_option maxHeartbeats 4000000 in
theorem lw_b_full (C : lw_C p l s m args c g b L xs) (hi : i + 3 < L) (hc : cells + 20 ≤ 601024) (hs : slots + 200 ≤ 7293034) (hS : va_S (k_A g) s.heap H locs) (hW : k_H g ad t H) (hl : lv_has ls 7 (lw_lv ad b i)) (hp : pr_full l g ad t) (kk : lw_K p l e s m args below meth c g b i cells slots Q) : W p l e room_1 s m args below meth c H locs cells slots Q (F0 m 264 ls []) := by
  obtain ⟨hx, hb, hml, hown, hts, hX, hbl, hlt, hK, hZ, hg, hL⟩ := id C
  have hN : g.2.2 ≤ s.heap.size := by omega
  obtain ⟨k, post, hM, hk, hP⟩ := hp
  refine lv_aload_n hx hb dL_law_264 rfl (lv_at hl 1 rfl) ?_
  refine lv_aload_n hx hb dL_law_265 rfl (lv_at hl 3 rfl) ?_
  refine k_ciA (lw_va (vx_runSX (As := [.ref (ad 0 0), .ref (ad 24 0)]) (rest := []) ⟨hx, hb, hml, hown, hts⟩ hM (vx_cwSW 2 hts gL_law_L_full rfl rfl rfl (by decide +kernel) ⟨Nat.le_of_ble_eq_true rfl, Nat.le_of_ble_eq_true rfl⟩) ⟨k_blind, fun U hU hw => ⟨rfl, k_I.of hK hZ hN hS hW hU hw⟩⟩ rfl rfl hl.1 rfl (lv_room (Nat.le_of_ble_eq_true rfl)) dL_law_266 ⟨lw_cl (k := 0) hc (by decide), lw_sl (k := 0) hs (by decide)⟩)) hS (fun r u H locs hpo hW hS => ?_)
  obtain ⟨t1, ad1⟩ := u
  obtain ⟨rfl, ⟨a0, a9, a24⟩, post2, hM2, hP2⟩ := hP r t1 ad1 hpo
  have hW : k_H g ad1 t1 H := hW
  have hl := lw_lv_to a0 a9 a24 hl
  refine lv_istore (lv' := (5, .int (nI k)) :: lw_lv ad1 b i) hx hb dL_law_269 hl (by decide) rfl (fun ls hl => ?_)
  refine lv_aload_n hx hb dL_law_271 rfl (lv_at hl 3 rfl) ?_
  refine k_ci (va_runV (As := []) (rest := []) ⟨hx, hb, hml, hown, hts⟩ hM2 (cwV 0 hts gL_law_X5_full rfl rfl rfl (by decide +kernel) ⟨Nat.le_of_ble_eq_true rfl, Nat.le_of_ble_eq_true rfl⟩) ⟨k_blind, k_recv hK hW (kc_9 g ad1 t1) rfl, fun U hU hw => ⟨rfl, k_I.of hK hZ hN hS hW hU hw⟩⟩ rfl rfl hl.1 rfl (lv_room (Nat.le_of_ble_eq_true rfl)) dL_law_272 ⟨lw_cl (mc := 0) hc (by decide), lw_sl (ms := 0) hs (by decide)⟩) hS (fun rv w H locs hpo2 hW hS => ?_)
  obtain ⟨hm, ho, hJ⟩ := hP2 rv w hpo2
  refine W.widen (k := cells + 20) (n := slots + 200) (by omega) (by omega) ?_
  exact lw_tail C hc hs hS hW hk hl hm ho dL_law_275 dL_law_277 dL_law_278 dL_law_281 dL_law_283 dL_law_288 dL_law_290 dL_law_293 dL_law_294 dL_law_295 dL_law_296 dL_law_298 dL_law_299 dL_law_300 dL_law_305 (by decide) (fun H locs ls hW hS hl => kk _ _ _ _ _ hW hJ hS hl)
/-- increment: the class and the model, one behind the other, say the same -/
def pr_increment (l : Launch) (g : k_g) (ad : k_AD) (t : k_T) : Prop := ∃ (k : Nat) (post : Int32 → k_T × k_AD → Prop), vx_Met l yL_increment wsL_increment rm_L_increment (va_Pc [.ref (ad 0 0), .ref (ad 24 0)] (k_I g (k_ct g ad t) ad)) (va_Qi (S := k_T × k_AD) post (fun u U => k_H g u.2 u.1 U.heap) (k_A g)) (fun _ _ _ => False) 3 27 (k_A g) ∧ k < 2 ^ 31 ∧ ∀ r t1 ad1, post r (t1, ad1) → r = nI k ∧ (ad1 0 0 = ad 0 0 ∧ ad1 9 0 = ad 9 0 ∧ ad1 24 0 = ad 24 0) ∧ ∃ (post2 : Int32 → k_T → Prop), Met l yX5_increment wsX5_increment rm_X5_increment (va_Pc [.ref (ad1 9 0)] (k_I g (k_ct g ad1 t1) ad1)) (va_Qi post2 (fun w U => k_H g ad1 w U.heap) (k_A g)) 0 0 (k_A g) ∧ ∀ rv w, post2 rv w → m_l w = k ∧ (k = 0 → l_o w 0 = rv.toInt64) ∧ k_J w
set_option maxRecDepth 100000 in
set_option maxHeartbeats 4000000 in
theorem lw_b_increment (C : lw_C p l s m args c g b L xs) (hi : i + 3 < L) (hc : cells + 20 ≤ 601024) (hs : slots + 200 ≤ 7293034) (hS : va_S (k_A g) s.heap H locs) (hW : k_H g ad t H) (hl : lv_has ls 7 (lw_lv ad b i)) (hp : pr_increment l g ad t) (kk : lw_K p l e s m args below meth c g b i cells slots Q) : W p l e room_1 s m args below meth c H locs cells slots Q (F0 m 308 ls []) := by
  obtain ⟨hx, hb, hml, hown, hts, hX, hbl, hlt, hK, hZ, hg, hL⟩ := id C
  have hN : g.2.2 ≤ s.heap.size := by omega
  obtain ⟨k, post, hM, hk, hP⟩ := hp
  refine lv_aload_n hx hb dL_law_308 rfl (lv_at hl 1 rfl) ?_
  refine lv_aload_n hx hb dL_law_309 rfl (lv_at hl 3 rfl) ?_
  refine k_ciA (lw_va (vx_runSX (As := [.ref (ad 0 0), .ref (ad 24 0)]) (rest := []) ⟨hx, hb, hml, hown, hts⟩ hM (vx_cwSW 2 hts gL_law_L_increment rfl rfl rfl (by decide +kernel) ⟨Nat.le_of_ble_eq_true rfl, Nat.le_of_ble_eq_true rfl⟩) ⟨k_blind, fun U hU hw => ⟨rfl, k_I.of hK hZ hN hS hW hU hw⟩⟩ rfl rfl hl.1 rfl (lv_room (Nat.le_of_ble_eq_true rfl)) dL_law_310 ⟨lw_cl (k := 0) hc (by decide), lw_sl (k := 0) hs (by decide)⟩)) hS (fun r u H locs hpo hW hS => ?_)
  obtain ⟨t1, ad1⟩ := u
  obtain ⟨rfl, ⟨a0, a9, a24⟩, post2, hM2, hP2⟩ := hP r t1 ad1 hpo
  have hW : k_H g ad1 t1 H := hW
  have hl := lw_lv_to a0 a9 a24 hl
  refine lv_istore (lv' := (5, .int (nI k)) :: lw_lv ad1 b i) hx hb dL_law_313 hl (by decide) rfl (fun ls hl => ?_)
  refine lv_aload_n hx hb dL_law_315 rfl (lv_at hl 3 rfl) ?_
  refine k_ci (va_runV (As := []) (rest := []) ⟨hx, hb, hml, hown, hts⟩ hM2 (cwV 0 hts gL_law_X5_increment rfl rfl rfl (by decide +kernel) ⟨Nat.le_of_ble_eq_true rfl, Nat.le_of_ble_eq_true rfl⟩) ⟨k_blind, k_recv hK hW (kc_9 g ad1 t1) rfl, fun U hU hw => ⟨rfl, k_I.of hK hZ hN hS hW hU hw⟩⟩ rfl rfl hl.1 rfl (lv_room (Nat.le_of_ble_eq_true rfl)) dL_law_316 ⟨lw_cl (mc := 0) hc (by decide), lw_sl (ms := 0) hs (by decide)⟩) hS (fun rv w H locs hpo2 hW hS => ?_)
  obtain ⟨hm, ho, hJ⟩ := hP2 rv w hpo2
  refine W.widen (k := cells + 20) (n := slots + 200) (by omega) (by omega) ?_
  exact lw_tail C hc hs hS hW hk hl hm ho dL_law_319 dL_law_321 dL_law_322 dL_law_325 dL_law_327 dL_law_332 dL_law_334 dL_law_337 dL_law_338 dL_law_339 dL_law_340 dL_law_342 dL_law_343 dL_law_344 dL_law_349 (by decide) (fun H locs ls hW hS hl => kk _ _ _ _ _ hW hJ hS hl)
/-- damage: the class and the model, one behind the other, say the same -/
def pr_damage (l : Launch) (g : k_g) (ad : k_AD) (t : k_T) (z1 : Int32) : Prop := ∃ (k : Nat) (post : Int32 → k_T × k_AD → Prop), vx_Met l yL_damage wsL_damage rm_L_damage (va_Pc [.ref (ad 0 0), .int z1, .ref (ad 24 0)] (k_I g (k_ct g ad t) ad)) (va_Qi (S := k_T × k_AD) post (fun u U => k_H g u.2 u.1 U.heap) (k_A g)) (fun _ _ _ => False) 1 6 (k_A g) ∧ k < 2 ^ 31 ∧ ∀ r t1 ad1, post r (t1, ad1) → r = nI k ∧ (ad1 0 0 = ad 0 0 ∧ ad1 9 0 = ad 9 0 ∧ ad1 24 0 = ad 24 0) ∧ ∃ (post2 : Int32 → k_T → Prop), Met l yX5_damage wsX5_damage rm_X5_damage (va_Pc [.ref (ad1 9 0), .int z1] (k_I g (k_ct g ad1 t1) ad1)) (va_Qi post2 (fun w U => k_H g ad1 w U.heap) (k_A g)) 0 0 (k_A g) ∧ ∀ rv w, post2 rv w → m_l w = k ∧ (k = 0 → l_o w 0 = rv.toInt64) ∧ k_J w
set_option maxRecDepth 100000 in
set_option maxHeartbeats 4000000 in
theorem lw_b_damage (C : lw_C p l s m args c g b L xs) (hi : i + 3 < L) (hc : cells + 20 ≤ 601024) (hs : slots + 200 ≤ 7293034) (hS : va_S (k_A g) s.heap H locs) (hW : k_H g ad t H) (hl : lv_has ls 7 (lw_lv ad b i)) (hp : pr_damage l g ad t (xs (i + 1))) (kk : lw_K p l e s m args below meth c g b i cells slots Q) : W p l e room_1 s m args below meth c H locs cells slots Q (F0 m 352 ls []) := by
  obtain ⟨hx, hb, hml, hown, hts, hX, hbl, hlt, hK, hZ, hg, hL⟩ := id C
  have hN : g.2.2 ≤ s.heap.size := by omega
  obtain ⟨k, post, hM, hk, hP⟩ := hp
  refine lv_aload_n hx hb dL_law_352 rfl (lv_at hl 1 rfl) ?_
  refine lw_opnd C hS hl 0 4 rfl rfl 1 (by omega) (by decide) dL_law_353 dL_law_354 dL_law_356 dL_law_357 dL_law_358 ?_
  refine lv_aload_n hx hb dL_law_359 rfl (lv_at hl 3 rfl) ?_
  refine k_ciA (lw_va (vx_runSX (As := [.ref (ad 0 0), .int (xs (i + 1)), .ref (ad 24 0)]) (rest := []) ⟨hx, hb, hml, hown, hts⟩ hM (vx_cwSW 3 hts gL_law_L_damage rfl rfl rfl (by decide +kernel) ⟨Nat.le_of_ble_eq_true rfl, Nat.le_of_ble_eq_true rfl⟩) ⟨k_blind, fun U hU hw => ⟨rfl, k_I.of hK hZ hN hS hW hU hw⟩⟩ rfl rfl hl.1 rfl (lv_room (Nat.le_of_ble_eq_true rfl)) dL_law_360 ⟨lw_cl (k := 0) hc (by decide), lw_sl (k := 0) hs (by decide)⟩)) hS (fun r u H locs hpo hW hS => ?_)
  obtain ⟨t1, ad1⟩ := u
  obtain ⟨rfl, ⟨a0, a9, a24⟩, post2, hM2, hP2⟩ := hP r t1 ad1 hpo
  have hW : k_H g ad1 t1 H := hW
  have hl := lw_lv_to a0 a9 a24 hl
  refine lv_istore (lv' := (5, .int (nI k)) :: lw_lv ad1 b i) hx hb dL_law_363 hl (by decide) rfl (fun ls hl => ?_)
  refine lv_aload_n hx hb dL_law_365 rfl (lv_at hl 3 rfl) ?_
  refine lw_opnd C hS hl 1 5 rfl rfl 1 (by omega) (by decide) dL_law_366 dL_law_367 dL_law_369 dL_law_370 dL_law_371 ?_
  refine k_ci (va_runV (As := [.int (xs (i + 1))]) (rest := []) ⟨hx, hb, hml, hown, hts⟩ hM2 (cwV 1 hts gL_law_X5_damage rfl rfl rfl (by decide +kernel) ⟨Nat.le_of_ble_eq_true rfl, Nat.le_of_ble_eq_true rfl⟩) ⟨k_blind, k_recv hK hW (kc_9 g ad1 t1) rfl, fun U hU hw => ⟨rfl, k_I.of hK hZ hN hS hW hU hw⟩⟩ rfl rfl hl.1 rfl (lv_room (Nat.le_of_ble_eq_true rfl)) dL_law_372 ⟨lw_cl (mc := 0) hc (by decide), lw_sl (ms := 0) hs (by decide)⟩) hS (fun rv w H locs hpo2 hW hS => ?_)
  obtain ⟨hm, ho, hJ⟩ := hP2 rv w hpo2
  refine W.widen (k := cells + 20) (n := slots + 200) (by omega) (by omega) ?_
  exact lw_tail C hc hs hS hW hk hl hm ho dL_law_375 dL_law_377 dL_law_378 dL_law_381 dL_law_383 dL_law_388 dL_law_390 dL_law_393 dL_law_394 dL_law_395 dL_law_396 dL_law_398 dL_law_399 dL_law_400 dL_law_405 (by decide) (fun H locs ls hW hS hl => kk _ _ _ _ _ hW hJ hS hl)
/-- drill: the class and the model, one behind the other, say the same -/
def pr_drill (l : Launch) (g : k_g) (ad : k_AD) (t : k_T) (z1 : Int32) : Prop := ∃ (k : Nat) (post : Int32 → k_T × k_AD → Prop), vx_Met l yL_drill wsL_drill rm_L_drill (va_Pc [.ref (ad 0 0), .int z1, .ref (ad 24 0)] (k_I g (k_ct g ad t) ad)) (va_Qi (S := k_T × k_AD) post (fun u U => k_H g u.2 u.1 U.heap) (k_A g)) (fun _ _ _ => False) 1 6 (k_A g) ∧ k < 2 ^ 31 ∧ ∀ r t1 ad1, post r (t1, ad1) → r = nI k ∧ (ad1 0 0 = ad 0 0 ∧ ad1 9 0 = ad 9 0 ∧ ad1 24 0 = ad 24 0) ∧ ∃ (post2 : Int32 → k_T → Prop), Met l yX5_drill wsX5_drill rm_X5_drill (va_Pc [.ref (ad1 9 0), .int z1] (k_I g (k_ct g ad1 t1) ad1)) (va_Qi post2 (fun w U => k_H g ad1 w U.heap) (k_A g)) 0 0 (k_A g) ∧ ∀ rv w, post2 rv w → m_l w = k ∧ (k = 0 → l_o w 0 = rv.toInt64) ∧ k_J w
set_option maxRecDepth 100000 in
set_option maxHeartbeats 4000000 in
theorem lw_b_drill (C : lw_C p l s m args c g b L xs) (hi : i + 3 < L) (hc : cells + 20 ≤ 601024) (hs : slots + 200 ≤ 7293034) (hS : va_S (k_A g) s.heap H locs) (hW : k_H g ad t H) (hl : lv_has ls 7 (lw_lv ad b i)) (hp : pr_drill l g ad t (xs (i + 1))) (kk : lw_K p l e s m args below meth c g b i cells slots Q) : W p l e room_1 s m args below meth c H locs cells slots Q (F0 m 408 ls []) := by
  obtain ⟨hx, hb, hml, hown, hts, hX, hbl, hlt, hK, hZ, hg, hL⟩ := id C
  have hN : g.2.2 ≤ s.heap.size := by omega
  obtain ⟨k, post, hM, hk, hP⟩ := hp
  refine lv_aload_n hx hb dL_law_408 rfl (lv_at hl 1 rfl) ?_
  refine lw_opnd C hS hl 0 4 rfl rfl 1 (by omega) (by decide) dL_law_409 dL_law_410 dL_law_412 dL_law_413 dL_law_414 ?_
  refine lv_aload_n hx hb dL_law_415 rfl (lv_at hl 3 rfl) ?_
  refine k_ciA (lw_va (vx_runSX (As := [.ref (ad 0 0), .int (xs (i + 1)), .ref (ad 24 0)]) (rest := []) ⟨hx, hb, hml, hown, hts⟩ hM (vx_cwSW 3 hts gL_law_L_drill rfl rfl rfl (by decide +kernel) ⟨Nat.le_of_ble_eq_true rfl, Nat.le_of_ble_eq_true rfl⟩) ⟨k_blind, fun U hU hw => ⟨rfl, k_I.of hK hZ hN hS hW hU hw⟩⟩ rfl rfl hl.1 rfl (lv_room (Nat.le_of_ble_eq_true rfl)) dL_law_416 ⟨lw_cl (k := 0) hc (by decide), lw_sl (k := 0) hs (by decide)⟩)) hS (fun r u H locs hpo hW hS => ?_)
  obtain ⟨t1, ad1⟩ := u
  obtain ⟨rfl, ⟨a0, a9, a24⟩, post2, hM2, hP2⟩ := hP r t1 ad1 hpo
  have hW : k_H g ad1 t1 H := hW
  have hl := lw_lv_to a0 a9 a24 hl
  refine lv_istore (lv' := (5, .int (nI k)) :: lw_lv ad1 b i) hx hb dL_law_419 hl (by decide) rfl (fun ls hl => ?_)
  refine lv_aload_n hx hb dL_law_421 rfl (lv_at hl 3 rfl) ?_
  refine lw_opnd C hS hl 1 5 rfl rfl 1 (by omega) (by decide) dL_law_422 dL_law_423 dL_law_425 dL_law_426 dL_law_427 ?_
  refine k_ci (va_runV (As := [.int (xs (i + 1))]) (rest := []) ⟨hx, hb, hml, hown, hts⟩ hM2 (cwV 1 hts gL_law_X5_drill rfl rfl rfl (by decide +kernel) ⟨Nat.le_of_ble_eq_true rfl, Nat.le_of_ble_eq_true rfl⟩) ⟨k_blind, k_recv hK hW (kc_9 g ad1 t1) rfl, fun U hU hw => ⟨rfl, k_I.of hK hZ hN hS hW hU hw⟩⟩ rfl rfl hl.1 rfl (lv_room (Nat.le_of_ble_eq_true rfl)) dL_law_428 ⟨lw_cl (mc := 0) hc (by decide), lw_sl (ms := 0) hs (by decide)⟩) hS (fun rv w H locs hpo2 hW hS => ?_)
  obtain ⟨hm, ho, hJ⟩ := hP2 rv w hpo2
  refine W.widen (k := cells + 20) (n := slots + 200) (by omega) (by omega) ?_
  exact lw_tail C hc hs hS hW hk hl hm ho dL_law_431 dL_law_433 dL_law_434 dL_law_437 dL_law_439 dL_law_444 dL_law_446 dL_law_449 dL_law_450 dL_law_451 dL_law_452 dL_law_454 dL_law_455 dL_law_456 dL_law_461 (by decide) (fun H locs ls hW hS hl => kk _ _ _ _ _ hW hJ hS hl)
/-- setRules: the class and the model, one behind the other, say the same -/
def pr_setRules (l : Launch) (g : k_g) (ad : k_AD) (t : k_T) (z1 z2 z3 : Int32) : Prop := ∃ (k : Nat) (post : Int32 → k_T × k_AD → Prop), vx_Met l yL_setRules wsL_setRules rm_L_setRules (va_Pc [.ref (ad 0 0), .int z1, .int z2, .int z3, .ref (ad 24 0)] (k_I g (k_ct g ad t) ad)) (va_Qi (S := k_T × k_AD) post (fun u U => k_H g u.2 u.1 U.heap) (k_A g)) (fun _ _ _ => False) 3 18 (k_A g) ∧ k < 2 ^ 31 ∧ ∀ r t1 ad1, post r (t1, ad1) → r = nI k ∧ (ad1 0 0 = ad 0 0 ∧ ad1 9 0 = ad 9 0 ∧ ad1 24 0 = ad 24 0) ∧ ∃ (post2 : Int32 → k_T → Prop), Met l yX5_setRules wsX5_setRules rm_X5_setRules (va_Pc [.ref (ad1 9 0), .int z1, .int z2, .int z3] (k_I g (k_ct g ad1 t1) ad1)) (va_Qi post2 (fun w U => k_H g ad1 w U.heap) (k_A g)) 0 0 (k_A g) ∧ ∀ rv w, post2 rv w → m_l w = k ∧ (k = 0 → l_o w 0 = rv.toInt64) ∧ k_J w
set_option maxRecDepth 100000 in
set_option maxHeartbeats 4000000 in
theorem lw_b_setRules (C : lw_C p l s m args c g b L xs) (hi : i + 3 < L) (hc : cells + 20 ≤ 601024) (hs : slots + 200 ≤ 7293034) (hS : va_S (k_A g) s.heap H locs) (hW : k_H g ad t H) (hl : lv_has ls 7 (lw_lv ad b i)) (hp : pr_setRules l g ad t (xs (i + 1)) (xs (i + 2)) (xs (i + 3))) (kk : lw_K p l e s m args below meth c g b i cells slots Q) : W p l e room_1 s m args below meth c H locs cells slots Q (F0 m 464 ls []) := by
  obtain ⟨hx, hb, hml, hown, hts, hX, hbl, hlt, hK, hZ, hg, hL⟩ := id C
  have hN : g.2.2 ≤ s.heap.size := by omega
  obtain ⟨k, post, hM, hk, hP⟩ := hp
  refine lv_aload_n hx hb dL_law_464 rfl (lv_at hl 1 rfl) ?_
  refine lw_opnd C hS hl 0 4 rfl rfl 1 (by omega) (by decide) dL_law_465 dL_law_466 dL_law_468 dL_law_469 dL_law_470 ?_
  refine lw_opnd C hS hl 0 4 rfl rfl 2 (by omega) (by decide) dL_law_471 dL_law_472 dL_law_474 dL_law_475 dL_law_476 ?_
  refine lw_opnd C hS hl 0 4 rfl rfl 3 (by omega) (by decide) dL_law_477 dL_law_478 dL_law_480 dL_law_481 dL_law_482 ?_
  refine lv_aload_n hx hb dL_law_483 rfl (lv_at hl 3 rfl) ?_
  refine k_ciA (lw_va (vx_runSX (As := [.ref (ad 0 0), .int (xs (i + 1)), .int (xs (i + 2)), .int (xs (i + 3)), .ref (ad 24 0)]) (rest := []) ⟨hx, hb, hml, hown, hts⟩ hM (vx_cwSW 5 hts gL_law_L_setRules rfl rfl rfl (by decide +kernel) ⟨Nat.le_of_ble_eq_true rfl, Nat.le_of_ble_eq_true rfl⟩) ⟨k_blind, fun U hU hw => ⟨rfl, k_I.of hK hZ hN hS hW hU hw⟩⟩ rfl rfl hl.1 rfl (lv_room (Nat.le_of_ble_eq_true rfl)) dL_law_484 ⟨lw_cl (k := 0) hc (by decide), lw_sl (k := 0) hs (by decide)⟩)) hS (fun r u H locs hpo hW hS => ?_)
  obtain ⟨t1, ad1⟩ := u
  obtain ⟨rfl, ⟨a0, a9, a24⟩, post2, hM2, hP2⟩ := hP r t1 ad1 hpo
  have hW : k_H g ad1 t1 H := hW
  have hl := lw_lv_to a0 a9 a24 hl
  refine lv_istore (lv' := (5, .int (nI k)) :: lw_lv ad1 b i) hx hb dL_law_487 hl (by decide) rfl (fun ls hl => ?_)
  refine lv_aload_n hx hb dL_law_489 rfl (lv_at hl 3 rfl) ?_
  refine lw_opnd C hS hl 1 5 rfl rfl 1 (by omega) (by decide) dL_law_490 dL_law_491 dL_law_493 dL_law_494 dL_law_495 ?_
  refine lw_opnd C hS hl 1 5 rfl rfl 2 (by omega) (by decide) dL_law_496 dL_law_497 dL_law_499 dL_law_500 dL_law_501 ?_
  refine lw_opnd C hS hl 1 5 rfl rfl 3 (by omega) (by decide) dL_law_502 dL_law_503 dL_law_505 dL_law_506 dL_law_507 ?_
  refine k_ci (va_runV (As := [.int (xs (i + 1)), .int (xs (i + 2)), .int (xs (i + 3))]) (rest := []) ⟨hx, hb, hml, hown, hts⟩ hM2 (cwV 3 hts gL_law_X5_setRules rfl rfl rfl (by decide +kernel) ⟨Nat.le_of_ble_eq_true rfl, Nat.le_of_ble_eq_true rfl⟩) ⟨k_blind, k_recv hK hW (kc_9 g ad1 t1) rfl, fun U hU hw => ⟨rfl, k_I.of hK hZ hN hS hW hU hw⟩⟩ rfl rfl hl.1 rfl (lv_room (Nat.le_of_ble_eq_true rfl)) dL_law_508 ⟨lw_cl (mc := 0) hc (by decide), lw_sl (ms := 0) hs (by decide)⟩) hS (fun rv w H locs hpo2 hW hS => ?_)
  obtain ⟨hm, ho, hJ⟩ := hP2 rv w hpo2
  refine W.widen (k := cells + 20) (n := slots + 200) (by omega) (by omega) ?_
  exact lw_tail C hc hs hS hW hk hl hm ho dL_law_511 dL_law_513 dL_law_514 dL_law_517 dL_law_519 dL_law_524 dL_law_526 dL_law_529 dL_law_530 dL_law_531 dL_law_532 dL_law_534 dL_law_535 dL_law_536 dL_law_541 (by decide) (fun H locs ls hW hS hl => kk _ _ _ _ _ hW hJ hS hl)
/-- thin: the class and the model, one behind the other, say the same -/
def pr_thin (l : Launch) (g : k_g) (ad : k_AD) (t : k_T) : Prop := ∃ post : Int32 → k_T → Prop, Met l yX4_thin wsX4_thin rm_X4_thin (va_Pc [.ref (ad 0 0)] (k_I g (k_ct g ad t) ad)) (va_Qi post (fun u U => k_H g ad u U.heap) (k_A g)) 0 0 (k_A g) ∧ ∀ r t1, post r t1 → ∃ post2 : Int32 → k_T → Prop, Met l yX5_thin wsX5_thin rm_X5_thin (va_Pc [.ref (ad 9 0)] (k_I g (k_ct g ad t1) ad)) (va_Qi post2 (fun u U => k_H g ad u U.heap) (k_A g)) 0 0 (k_A g) ∧ ∀ rv w, post2 rv w → r = rv ∧ k_J w
set_option maxRecDepth 100000 in
set_option maxHeartbeats 4000000 in
theorem lw_b_thin (C : lw_C p l s m args c g b L xs) (hi : i + 3 < L) (hc : cells + 20 ≤ 601024) (hs : slots + 200 ≤ 7293034) (hS : va_S (k_A g) s.heap H locs) (hW : k_H g ad t H) (hl : lv_has ls 7 (lw_lv ad b i)) (hp : pr_thin l g ad t) (kk : lw_K p l e s m args below meth c g b i cells slots Q) : W p l e room_1 s m args below meth c H locs cells slots Q (F0 m 544 ls []) := by
  obtain ⟨hx, hb, hml, hown, hts, hX, hbl, hlt, hK, hZ, hg, hL⟩ := id C
  have hN : g.2.2 ≤ s.heap.size := by omega
  obtain ⟨post, hM, hP⟩ := hp
  refine lv_aload_n hx hb dL_law_544 rfl (lv_at hl 1 rfl) ?_
  refine k_ci (va_runV (As := []) (rest := []) ⟨hx, hb, hml, hown, hts⟩ hM (cwV 0 hts gL_law_X4_thin rfl rfl rfl (by decide +kernel) ⟨Nat.le_of_ble_eq_true rfl, Nat.le_of_ble_eq_true rfl⟩) ⟨k_blind, k_recv hK hW (kc_0 g ad t) rfl, fun U hU hw => ⟨rfl, k_I.of hK hZ hN hS hW hU hw⟩⟩ rfl rfl hl.1 rfl (lv_room (Nat.le_of_ble_eq_true rfl)) dL_law_545 ⟨lw_cl (k := 0) (mc := 0) hc (by decide), lw_sl (k := 0) (ms := 0) hs (by decide)⟩) hS (fun r t1 H locs hpo hW hS => ?_)
  obtain ⟨post2, hM2, hP2⟩ := hP r t1 hpo
  refine lv_aload_n hx hb dL_law_548 rfl (lv_at hl 2 rfl) ?_
  refine k_ci (va_runV (As := []) (rest := [.int r]) ⟨hx, hb, hml, hown, hts⟩ hM2 (cwV 0 hts gL_law_X5_thin rfl rfl rfl (by decide +kernel) ⟨Nat.le_of_ble_eq_true rfl, Nat.le_of_ble_eq_true rfl⟩) ⟨k_blind, k_recv hK hW (kc_9 g ad t1) rfl, fun U hU hw => ⟨rfl, k_I.of hK hZ hN hS hW hU hw⟩⟩ rfl rfl hl.1 rfl (lv_room (Nat.le_of_ble_eq_true rfl)) dL_law_549 ⟨lw_cl (k := 0) (mc := 0) hc (by decide), lw_sl (k := 0) (ms := 0) hs (by decide)⟩) hS (fun rv w H locs hpo2 hW hS => ?_)
  obtain ⟨he, hJ⟩ := hP2 rv w hpo2
  refine W.widen (k := cells + 20) (n := slots + 200) (by omega) (by omega) ?_
  exact lv_icmp_eq (tgt := 1269) hx hb dL_law_552 (by decide) (fun _ => kk _ _ _ _ _ hW hJ hS hl) (fun h => absurd he h)
/-- day: the class and the model, one behind the other, say the same -/
def pr_day (l : Launch) (g : k_g) (ad : k_AD) (t : k_T) : Prop := ∃ post : Int32 → k_T → Prop, Met l yX4_day wsX4_day rm_X4_day (va_Pc [.ref (ad 0 0)] (k_I g (k_ct g ad t) ad)) (va_Qi post (fun u U => k_H g ad u U.heap) (k_A g)) 0 0 (k_A g) ∧ ∀ r t1, post r t1 → ∃ post2 : Int32 → k_T → Prop, Met l yX5_day wsX5_day rm_X5_day (va_Pc [.ref (ad 9 0)] (k_I g (k_ct g ad t1) ad)) (va_Qi post2 (fun u U => k_H g ad u U.heap) (k_A g)) 0 0 (k_A g) ∧ ∀ rv w, post2 rv w → r = rv ∧ k_J w
set_option maxRecDepth 100000 in
set_option maxHeartbeats 4000000 in
theorem lw_b_day (C : lw_C p l s m args c g b L xs) (hi : i + 3 < L) (hc : cells + 20 ≤ 601024) (hs : slots + 200 ≤ 7293034) (hS : va_S (k_A g) s.heap H locs) (hW : k_H g ad t H) (hl : lv_has ls 7 (lw_lv ad b i)) (hp : pr_day l g ad t) (kk : lw_K p l e s m args below meth c g b i cells slots Q) : W p l e room_1 s m args below meth c H locs cells slots Q (F0 m 557 ls []) := by
  obtain ⟨hx, hb, hml, hown, hts, hX, hbl, hlt, hK, hZ, hg, hL⟩ := id C
  have hN : g.2.2 ≤ s.heap.size := by omega
  obtain ⟨post, hM, hP⟩ := hp
  refine lv_aload_n hx hb dL_law_557 rfl (lv_at hl 1 rfl) ?_
  refine k_ci (va_runV (As := []) (rest := []) ⟨hx, hb, hml, hown, hts⟩ hM (cwV 0 hts gL_law_X4_day rfl rfl rfl (by decide +kernel) ⟨Nat.le_of_ble_eq_true rfl, Nat.le_of_ble_eq_true rfl⟩) ⟨k_blind, k_recv hK hW (kc_0 g ad t) rfl, fun U hU hw => ⟨rfl, k_I.of hK hZ hN hS hW hU hw⟩⟩ rfl rfl hl.1 rfl (lv_room (Nat.le_of_ble_eq_true rfl)) dL_law_558 ⟨lw_cl (k := 0) (mc := 0) hc (by decide), lw_sl (k := 0) (ms := 0) hs (by decide)⟩) hS (fun r t1 H locs hpo hW hS => ?_)
  obtain ⟨post2, hM2, hP2⟩ := hP r t1 hpo
  refine lv_aload_n hx hb dL_law_561 rfl (lv_at hl 2 rfl) ?_
  refine k_ci (va_runV (As := []) (rest := [.int r]) ⟨hx, hb, hml, hown, hts⟩ hM2 (cwV 0 hts gL_law_X5_day rfl rfl rfl (by decide +kernel) ⟨Nat.le_of_ble_eq_true rfl, Nat.le_of_ble_eq_true rfl⟩) ⟨k_blind, k_recv hK hW (kc_9 g ad t1) rfl, fun U hU hw => ⟨rfl, k_I.of hK hZ hN hS hW hU hw⟩⟩ rfl rfl hl.1 rfl (lv_room (Nat.le_of_ble_eq_true rfl)) dL_law_562 ⟨lw_cl (k := 0) (mc := 0) hc (by decide), lw_sl (k := 0) (ms := 0) hs (by decide)⟩) hS (fun rv w H locs hpo2 hW hS => ?_)
  obtain ⟨he, hJ⟩ := hP2 rv w hpo2
  refine W.widen (k := cells + 20) (n := slots + 200) (by omega) (by omega) ?_
  exact lv_icmp_eq (tgt := 1269) hx hb dL_law_565 (by decide) (fun _ => kk _ _ _ _ _ hW hJ hS hl) (fun h => absurd he h)
/-- copies: the class and the model, one behind the other, say the same -/
def pr_copies (l : Launch) (g : k_g) (ad : k_AD) (t : k_T) : Prop := ∃ post : Int32 → k_T → Prop, Met l yX4_copies wsX4_copies rm_X4_copies (va_Pc [.ref (ad 0 0)] (k_I g (k_ct g ad t) ad)) (va_Qi post (fun u U => k_H g ad u U.heap) (k_A g)) 0 0 (k_A g) ∧ ∀ r t1, post r t1 → ∃ post2 : Int32 → k_T → Prop, Met l yX5_copies wsX5_copies rm_X5_copies (va_Pc [.ref (ad 9 0)] (k_I g (k_ct g ad t1) ad)) (va_Qi post2 (fun u U => k_H g ad u U.heap) (k_A g)) 0 0 (k_A g) ∧ ∀ rv w, post2 rv w → r = rv ∧ k_J w
set_option maxRecDepth 100000 in
set_option maxHeartbeats 4000000 in
theorem lw_b_copies (C : lw_C p l s m args c g b L xs) (hi : i + 3 < L) (hc : cells + 20 ≤ 601024) (hs : slots + 200 ≤ 7293034) (hS : va_S (k_A g) s.heap H locs) (hW : k_H g ad t H) (hl : lv_has ls 7 (lw_lv ad b i)) (hp : pr_copies l g ad t) (kk : lw_K p l e s m args below meth c g b i cells slots Q) : W p l e room_1 s m args below meth c H locs cells slots Q (F0 m 570 ls []) := by
  obtain ⟨hx, hb, hml, hown, hts, hX, hbl, hlt, hK, hZ, hg, hL⟩ := id C
  have hN : g.2.2 ≤ s.heap.size := by omega
  obtain ⟨post, hM, hP⟩ := hp
  refine lv_aload_n hx hb dL_law_570 rfl (lv_at hl 1 rfl) ?_
  refine k_ci (va_runV (As := []) (rest := []) ⟨hx, hb, hml, hown, hts⟩ hM (cwV 0 hts gL_law_X4_copies rfl rfl rfl (by decide +kernel) ⟨Nat.le_of_ble_eq_true rfl, Nat.le_of_ble_eq_true rfl⟩) ⟨k_blind, k_recv hK hW (kc_0 g ad t) rfl, fun U hU hw => ⟨rfl, k_I.of hK hZ hN hS hW hU hw⟩⟩ rfl rfl hl.1 rfl (lv_room (Nat.le_of_ble_eq_true rfl)) dL_law_571 ⟨lw_cl (k := 0) (mc := 0) hc (by decide), lw_sl (k := 0) (ms := 0) hs (by decide)⟩) hS (fun r t1 H locs hpo hW hS => ?_)
  obtain ⟨post2, hM2, hP2⟩ := hP r t1 hpo
  refine lv_aload_n hx hb dL_law_574 rfl (lv_at hl 2 rfl) ?_
  refine k_ci (va_runV (As := []) (rest := [.int r]) ⟨hx, hb, hml, hown, hts⟩ hM2 (cwV 0 hts gL_law_X5_copies rfl rfl rfl (by decide +kernel) ⟨Nat.le_of_ble_eq_true rfl, Nat.le_of_ble_eq_true rfl⟩) ⟨k_blind, k_recv hK hW (kc_9 g ad t1) rfl, fun U hU hw => ⟨rfl, k_I.of hK hZ hN hS hW hU hw⟩⟩ rfl rfl hl.1 rfl (lv_room (Nat.le_of_ble_eq_true rfl)) dL_law_575 ⟨lw_cl (k := 0) (mc := 0) hc (by decide), lw_sl (k := 0) (ms := 0) hs (by decide)⟩) hS (fun rv w H locs hpo2 hW hS => ?_)
  obtain ⟨he, hJ⟩ := hP2 rv w hpo2
  refine W.widen (k := cells + 20) (n := slots + 200) (by omega) (by omega) ?_
  exact lv_icmp_eq (tgt := 1269) hx hb dL_law_578 (by decide) (fun _ => kk _ _ _ _ _ hW hJ hS hl) (fun h => absurd he h)
/-- space: the class and the model, one behind the other, say the same -/
def pr_space (l : Launch) (g : k_g) (ad : k_AD) (t : k_T) : Prop := ∃ post : Int32 → k_T → Prop, Met l yX4_space wsX4_space rm_X4_space (va_Pc [.ref (ad 0 0)] (k_I g (k_ct g ad t) ad)) (va_Qi post (fun u U => k_H g ad u U.heap) (k_A g)) 0 0 (k_A g) ∧ ∀ r t1, post r t1 → ∃ post2 : Int32 → k_T → Prop, Met l yX5_space wsX5_space rm_X5_space (va_Pc [.ref (ad 9 0)] (k_I g (k_ct g ad t1) ad)) (va_Qi post2 (fun u U => k_H g ad u U.heap) (k_A g)) 0 0 (k_A g) ∧ ∀ rv w, post2 rv w → r = rv ∧ k_J w
set_option maxRecDepth 100000 in
set_option maxHeartbeats 4000000 in
theorem lw_b_space (C : lw_C p l s m args c g b L xs) (hi : i + 3 < L) (hc : cells + 20 ≤ 601024) (hs : slots + 200 ≤ 7293034) (hS : va_S (k_A g) s.heap H locs) (hW : k_H g ad t H) (hl : lv_has ls 7 (lw_lv ad b i)) (hp : pr_space l g ad t) (kk : lw_K p l e s m args below meth c g b i cells slots Q) : W p l e room_1 s m args below meth c H locs cells slots Q (F0 m 583 ls []) := by
  obtain ⟨hx, hb, hml, hown, hts, hX, hbl, hlt, hK, hZ, hg, hL⟩ := id C
  have hN : g.2.2 ≤ s.heap.size := by omega
  obtain ⟨post, hM, hP⟩ := hp
  refine lv_aload_n hx hb dL_law_583 rfl (lv_at hl 1 rfl) ?_
  refine k_ci (va_runV (As := []) (rest := []) ⟨hx, hb, hml, hown, hts⟩ hM (cwV 0 hts gL_law_X4_space rfl rfl rfl (by decide +kernel) ⟨Nat.le_of_ble_eq_true rfl, Nat.le_of_ble_eq_true rfl⟩) ⟨k_blind, k_recv hK hW (kc_0 g ad t) rfl, fun U hU hw => ⟨rfl, k_I.of hK hZ hN hS hW hU hw⟩⟩ rfl rfl hl.1 rfl (lv_room (Nat.le_of_ble_eq_true rfl)) dL_law_584 ⟨lw_cl (k := 0) (mc := 0) hc (by decide), lw_sl (k := 0) (ms := 0) hs (by decide)⟩) hS (fun r t1 H locs hpo hW hS => ?_)
  obtain ⟨post2, hM2, hP2⟩ := hP r t1 hpo
  refine lv_aload_n hx hb dL_law_587 rfl (lv_at hl 2 rfl) ?_
  refine k_ci (va_runV (As := []) (rest := [.int r]) ⟨hx, hb, hml, hown, hts⟩ hM2 (cwV 0 hts gL_law_X5_space rfl rfl rfl (by decide +kernel) ⟨Nat.le_of_ble_eq_true rfl, Nat.le_of_ble_eq_true rfl⟩) ⟨k_blind, k_recv hK hW (kc_9 g ad t1) rfl, fun U hU hw => ⟨rfl, k_I.of hK hZ hN hS hW hU hw⟩⟩ rfl rfl hl.1 rfl (lv_room (Nat.le_of_ble_eq_true rfl)) dL_law_588 ⟨lw_cl (k := 0) (mc := 0) hc (by decide), lw_sl (k := 0) (ms := 0) hs (by decide)⟩) hS (fun rv w H locs hpo2 hW hS => ?_)
  obtain ⟨he, hJ⟩ := hP2 rv w hpo2
  refine W.widen (k := cells + 20) (n := slots + 200) (by omega) (by omega) ?_
  exact lv_icmp_eq (tgt := 1269) hx hb dL_law_591 (by decide) (fun _ => kk _ _ _ _ _ hW hJ hS hl) (fun h => absurd he h)
/-- dayOf: the class and the model, one behind the other, say the same -/
def pr_dayOf (l : Launch) (g : k_g) (ad : k_AD) (t : k_T) (z1 : Int32) : Prop := ∃ (k : Nat) (post : Int32 → k_T × k_AD → Prop), vx_Met l yL_dayOf wsL_dayOf rm_L_dayOf (va_Pc [.ref (ad 0 0), .int z1, .ref (ad 24 0)] (k_I g (k_ct g ad t) ad)) (va_Qi (S := k_T × k_AD) post (fun u U => k_H g u.2 u.1 U.heap) (k_A g)) (fun _ _ _ => False) 1 6 (k_A g) ∧ k < 2 ^ 31 ∧ ∀ r t1 ad1, post r (t1, ad1) → r = nI k ∧ (ad1 0 0 = ad 0 0 ∧ ad1 9 0 = ad 9 0 ∧ ad1 24 0 = ad 24 0) ∧ ∃ (post2 : Int32 → k_T → Prop), Met l yX5_dayOf wsX5_dayOf rm_X5_dayOf (va_Pc [.ref (ad1 9 0), .int z1] (k_I g (k_ct g ad1 t1) ad1)) (va_Qi post2 (fun w U => k_H g ad1 w U.heap) (k_A g)) 0 0 (k_A g) ∧ ∀ rv w, post2 rv w → m_l w = k ∧ (k = 0 → l_o w 0 = rv.toInt64) ∧ k_J w
set_option maxRecDepth 100000 in
set_option maxHeartbeats 4000000 in
theorem lw_b_dayOf (C : lw_C p l s m args c g b L xs) (hi : i + 3 < L) (hc : cells + 20 ≤ 601024) (hs : slots + 200 ≤ 7293034) (hS : va_S (k_A g) s.heap H locs) (hW : k_H g ad t H) (hl : lv_has ls 7 (lw_lv ad b i)) (hp : pr_dayOf l g ad t (xs (i + 1))) (kk : lw_K p l e s m args below meth c g b i cells slots Q) : W p l e room_1 s m args below meth c H locs cells slots Q (F0 m 596 ls []) := by
  obtain ⟨hx, hb, hml, hown, hts, hX, hbl, hlt, hK, hZ, hg, hL⟩ := id C
  have hN : g.2.2 ≤ s.heap.size := by omega
  obtain ⟨k, post, hM, hk, hP⟩ := hp
  refine lv_aload_n hx hb dL_law_596 rfl (lv_at hl 1 rfl) ?_
  refine lw_opnd C hS hl 0 4 rfl rfl 1 (by omega) (by decide) dL_law_597 dL_law_598 dL_law_600 dL_law_601 dL_law_602 ?_
  refine lv_aload_n hx hb dL_law_603 rfl (lv_at hl 3 rfl) ?_
  refine k_ciA (lw_va (vx_runSX (As := [.ref (ad 0 0), .int (xs (i + 1)), .ref (ad 24 0)]) (rest := []) ⟨hx, hb, hml, hown, hts⟩ hM (vx_cwSW 3 hts gL_law_L_dayOf rfl rfl rfl (by decide +kernel) ⟨Nat.le_of_ble_eq_true rfl, Nat.le_of_ble_eq_true rfl⟩) ⟨k_blind, fun U hU hw => ⟨rfl, k_I.of hK hZ hN hS hW hU hw⟩⟩ rfl rfl hl.1 rfl (lv_room (Nat.le_of_ble_eq_true rfl)) dL_law_604 ⟨lw_cl (k := 0) hc (by decide), lw_sl (k := 0) hs (by decide)⟩)) hS (fun r u H locs hpo hW hS => ?_)
  obtain ⟨t1, ad1⟩ := u
  obtain ⟨rfl, ⟨a0, a9, a24⟩, post2, hM2, hP2⟩ := hP r t1 ad1 hpo
  have hW : k_H g ad1 t1 H := hW
  have hl := lw_lv_to a0 a9 a24 hl
  refine lv_istore (lv' := (5, .int (nI k)) :: lw_lv ad1 b i) hx hb dL_law_607 hl (by decide) rfl (fun ls hl => ?_)
  refine lv_aload_n hx hb dL_law_609 rfl (lv_at hl 3 rfl) ?_
  refine lw_opnd C hS hl 1 5 rfl rfl 1 (by omega) (by decide) dL_law_610 dL_law_611 dL_law_613 dL_law_614 dL_law_615 ?_
  refine k_ci (va_runV (As := [.int (xs (i + 1))]) (rest := []) ⟨hx, hb, hml, hown, hts⟩ hM2 (cwV 1 hts gL_law_X5_dayOf rfl rfl rfl (by decide +kernel) ⟨Nat.le_of_ble_eq_true rfl, Nat.le_of_ble_eq_true rfl⟩) ⟨k_blind, k_recv hK hW (kc_9 g ad1 t1) rfl, fun U hU hw => ⟨rfl, k_I.of hK hZ hN hS hW hU hw⟩⟩ rfl rfl hl.1 rfl (lv_room (Nat.le_of_ble_eq_true rfl)) dL_law_616 ⟨lw_cl (mc := 0) hc (by decide), lw_sl (ms := 0) hs (by decide)⟩) hS (fun rv w H locs hpo2 hW hS => ?_)
  obtain ⟨hm, ho, hJ⟩ := hP2 rv w hpo2
  refine W.widen (k := cells + 20) (n := slots + 200) (by omega) (by omega) ?_
  exact lw_tail C hc hs hS hW hk hl hm ho dL_law_619 dL_law_621 dL_law_622 dL_law_625 dL_law_627 dL_law_632 dL_law_634 dL_law_637 dL_law_638 dL_law_639 dL_law_640 dL_law_642 dL_law_643 dL_law_644 dL_law_649 (by decide) (fun H locs ls hW hS hl => kk _ _ _ _ _ hW hJ hS hl)
/-- baseOf: the class and the model, one behind the other, say the same -/
def pr_baseOf (l : Launch) (g : k_g) (ad : k_AD) (t : k_T) (z1 : Int32) : Prop := ∃ (k : Nat) (post : Int32 → k_T × k_AD → Prop), vx_Met l yL_baseOf wsL_baseOf rm_L_baseOf (va_Pc [.ref (ad 0 0), .int z1, .ref (ad 24 0)] (k_I g (k_ct g ad t) ad)) (va_Qi (S := k_T × k_AD) post (fun u U => k_H g u.2 u.1 U.heap) (k_A g)) (fun _ _ _ => False) 1 6 (k_A g) ∧ k < 2 ^ 31 ∧ ∀ r t1 ad1, post r (t1, ad1) → r = nI k ∧ (ad1 0 0 = ad 0 0 ∧ ad1 9 0 = ad 9 0 ∧ ad1 24 0 = ad 24 0) ∧ ∃ (post2 : Int32 → k_T → Prop), Met l yX5_baseOf wsX5_baseOf rm_X5_baseOf (va_Pc [.ref (ad1 9 0), .int z1] (k_I g (k_ct g ad1 t1) ad1)) (va_Qi post2 (fun w U => k_H g ad1 w U.heap) (k_A g)) 0 0 (k_A g) ∧ ∀ rv w, post2 rv w → m_l w = k ∧ (k = 0 → l_o w 0 = rv.toInt64) ∧ k_J w
set_option maxRecDepth 100000 in
set_option maxHeartbeats 4000000 in
theorem lw_b_baseOf (C : lw_C p l s m args c g b L xs) (hi : i + 3 < L) (hc : cells + 20 ≤ 601024) (hs : slots + 200 ≤ 7293034) (hS : va_S (k_A g) s.heap H locs) (hW : k_H g ad t H) (hl : lv_has ls 7 (lw_lv ad b i)) (hp : pr_baseOf l g ad t (xs (i + 1))) (kk : lw_K p l e s m args below meth c g b i cells slots Q) : W p l e room_1 s m args below meth c H locs cells slots Q (F0 m 652 ls []) := by
  obtain ⟨hx, hb, hml, hown, hts, hX, hbl, hlt, hK, hZ, hg, hL⟩ := id C
  have hN : g.2.2 ≤ s.heap.size := by omega
  obtain ⟨k, post, hM, hk, hP⟩ := hp
  refine lv_aload_n hx hb dL_law_652 rfl (lv_at hl 1 rfl) ?_
  refine lw_opnd C hS hl 0 4 rfl rfl 1 (by omega) (by decide) dL_law_653 dL_law_654 dL_law_656 dL_law_657 dL_law_658 ?_
  refine lv_aload_n hx hb dL_law_659 rfl (lv_at hl 3 rfl) ?_
  refine k_ciA (lw_va (vx_runSX (As := [.ref (ad 0 0), .int (xs (i + 1)), .ref (ad 24 0)]) (rest := []) ⟨hx, hb, hml, hown, hts⟩ hM (vx_cwSW 3 hts gL_law_L_baseOf rfl rfl rfl (by decide +kernel) ⟨Nat.le_of_ble_eq_true rfl, Nat.le_of_ble_eq_true rfl⟩) ⟨k_blind, fun U hU hw => ⟨rfl, k_I.of hK hZ hN hS hW hU hw⟩⟩ rfl rfl hl.1 rfl (lv_room (Nat.le_of_ble_eq_true rfl)) dL_law_660 ⟨lw_cl (k := 0) hc (by decide), lw_sl (k := 0) hs (by decide)⟩)) hS (fun r u H locs hpo hW hS => ?_)
  obtain ⟨t1, ad1⟩ := u
  obtain ⟨rfl, ⟨a0, a9, a24⟩, post2, hM2, hP2⟩ := hP r t1 ad1 hpo
  have hW : k_H g ad1 t1 H := hW
  have hl := lw_lv_to a0 a9 a24 hl
  refine lv_istore (lv' := (5, .int (nI k)) :: lw_lv ad1 b i) hx hb dL_law_663 hl (by decide) rfl (fun ls hl => ?_)
  refine lv_aload_n hx hb dL_law_665 rfl (lv_at hl 3 rfl) ?_
  refine lw_opnd C hS hl 1 5 rfl rfl 1 (by omega) (by decide) dL_law_666 dL_law_667 dL_law_669 dL_law_670 dL_law_671 ?_
  refine k_ci (va_runV (As := [.int (xs (i + 1))]) (rest := []) ⟨hx, hb, hml, hown, hts⟩ hM2 (cwV 1 hts gL_law_X5_baseOf rfl rfl rfl (by decide +kernel) ⟨Nat.le_of_ble_eq_true rfl, Nat.le_of_ble_eq_true rfl⟩) ⟨k_blind, k_recv hK hW (kc_9 g ad1 t1) rfl, fun U hU hw => ⟨rfl, k_I.of hK hZ hN hS hW hU hw⟩⟩ rfl rfl hl.1 rfl (lv_room (Nat.le_of_ble_eq_true rfl)) dL_law_672 ⟨lw_cl (mc := 0) hc (by decide), lw_sl (ms := 0) hs (by decide)⟩) hS (fun rv w H locs hpo2 hW hS => ?_)
  obtain ⟨hm, ho, hJ⟩ := hP2 rv w hpo2
  refine W.widen (k := cells + 20) (n := slots + 200) (by omega) (by omega) ?_
  exact lw_tail C hc hs hS hW hk hl hm ho dL_law_675 dL_law_677 dL_law_678 dL_law_681 dL_law_683 dL_law_688 dL_law_690 dL_law_693 dL_law_694 dL_law_695 dL_law_696 dL_law_698 dL_law_699 dL_law_700 dL_law_705 (by decide) (fun H locs ls hW hS hl => kk _ _ _ _ _ hW hJ hS hl)
/-- keeps: the class and the model, one behind the other, say the same -/
def pr_keeps (l : Launch) (g : k_g) (ad : k_AD) (t : k_T) (z1 : Int32) : Prop := ∃ (k : Nat) (post : Int32 → k_T × k_AD → Prop), vx_Met l yL_keeps wsL_keeps rm_L_keeps (va_Pc [.ref (ad 0 0), .int z1, .ref (ad 24 0)] (k_I g (k_ct g ad t) ad)) (va_Qi (S := k_T × k_AD) post (fun u U => k_H g u.2 u.1 U.heap) (k_A g)) (fun _ _ _ => False) 1 6 (k_A g) ∧ k < 2 ^ 31 ∧ ∀ r t1 ad1, post r (t1, ad1) → r = nI k ∧ (ad1 0 0 = ad 0 0 ∧ ad1 9 0 = ad 9 0 ∧ ad1 24 0 = ad 24 0) ∧ ∃ (post2 : Int32 → k_T → Prop), Met l yX5_keeps wsX5_keeps rm_X5_keeps (va_Pc [.ref (ad1 9 0), .int z1] (k_I g (k_ct g ad1 t1) ad1)) (va_Qi post2 (fun w U => k_H g ad1 w U.heap) (k_A g)) 0 0 (k_A g) ∧ ∀ rv w, post2 rv w → m_l w = k ∧ (k = 0 → l_o w 0 = rv.toInt64) ∧ k_J w
set_option maxRecDepth 100000 in
set_option maxHeartbeats 4000000 in
theorem lw_b_keeps (C : lw_C p l s m args c g b L xs) (hi : i + 3 < L) (hc : cells + 20 ≤ 601024) (hs : slots + 200 ≤ 7293034) (hS : va_S (k_A g) s.heap H locs) (hW : k_H g ad t H) (hl : lv_has ls 7 (lw_lv ad b i)) (hp : pr_keeps l g ad t (xs (i + 1))) (kk : lw_K p l e s m args below meth c g b i cells slots Q) : W p l e room_1 s m args below meth c H locs cells slots Q (F0 m 708 ls []) := by
  obtain ⟨hx, hb, hml, hown, hts, hX, hbl, hlt, hK, hZ, hg, hL⟩ := id C
  have hN : g.2.2 ≤ s.heap.size := by omega
  obtain ⟨k, post, hM, hk, hP⟩ := hp
  refine lv_aload_n hx hb dL_law_708 rfl (lv_at hl 1 rfl) ?_
  refine lw_opnd C hS hl 0 4 rfl rfl 1 (by omega) (by decide) dL_law_709 dL_law_710 dL_law_712 dL_law_713 dL_law_714 ?_
  refine lv_aload_n hx hb dL_law_715 rfl (lv_at hl 3 rfl) ?_
  refine k_ciA (lw_va (vx_runSX (As := [.ref (ad 0 0), .int (xs (i + 1)), .ref (ad 24 0)]) (rest := []) ⟨hx, hb, hml, hown, hts⟩ hM (vx_cwSW 3 hts gL_law_L_keeps rfl rfl rfl (by decide +kernel) ⟨Nat.le_of_ble_eq_true rfl, Nat.le_of_ble_eq_true rfl⟩) ⟨k_blind, fun U hU hw => ⟨rfl, k_I.of hK hZ hN hS hW hU hw⟩⟩ rfl rfl hl.1 rfl (lv_room (Nat.le_of_ble_eq_true rfl)) dL_law_716 ⟨lw_cl (k := 0) hc (by decide), lw_sl (k := 0) hs (by decide)⟩)) hS (fun r u H locs hpo hW hS => ?_)
  obtain ⟨t1, ad1⟩ := u
  obtain ⟨rfl, ⟨a0, a9, a24⟩, post2, hM2, hP2⟩ := hP r t1 ad1 hpo
  have hW : k_H g ad1 t1 H := hW
  have hl := lw_lv_to a0 a9 a24 hl
  refine lv_istore (lv' := (5, .int (nI k)) :: lw_lv ad1 b i) hx hb dL_law_719 hl (by decide) rfl (fun ls hl => ?_)
  refine lv_aload_n hx hb dL_law_721 rfl (lv_at hl 3 rfl) ?_
  refine lw_opnd C hS hl 1 5 rfl rfl 1 (by omega) (by decide) dL_law_722 dL_law_723 dL_law_725 dL_law_726 dL_law_727 ?_
  refine k_ci (va_runV (As := [.int (xs (i + 1))]) (rest := []) ⟨hx, hb, hml, hown, hts⟩ hM2 (cwV 1 hts gL_law_X5_keeps rfl rfl rfl (by decide +kernel) ⟨Nat.le_of_ble_eq_true rfl, Nat.le_of_ble_eq_true rfl⟩) ⟨k_blind, k_recv hK hW (kc_9 g ad1 t1) rfl, fun U hU hw => ⟨rfl, k_I.of hK hZ hN hS hW hU hw⟩⟩ rfl rfl hl.1 rfl (lv_room (Nat.le_of_ble_eq_true rfl)) dL_law_728 ⟨lw_cl (mc := 0) hc (by decide), lw_sl (ms := 0) hs (by decide)⟩) hS (fun rv w H locs hpo2 hW hS => ?_)
  obtain ⟨hm, ho, hJ⟩ := hP2 rv w hpo2
  refine W.widen (k := cells + 20) (n := slots + 200) (by omega) (by omega) ?_
  exact lw_tail C hc hs hS hW hk hl hm ho dL_law_731 dL_law_733 dL_law_734 dL_law_737 dL_law_739 dL_law_744 dL_law_746 dL_law_749 dL_law_750 dL_law_751 dL_law_752 dL_law_754 dL_law_755 dL_law_756 dL_law_761 (by decide) (fun H locs ls hW hS hl => kk _ _ _ _ _ hW hJ hS hl)
/-- isPromised: the class and the model, one behind the other, say the same -/
def pr_isPromised (l : Launch) (g : k_g) (ad : k_AD) (t : k_T) (z1 : Int32) : Prop := ∃ (k : Nat) (post : Int32 → k_T × k_AD → Prop), vx_Met l yL_isPromised wsL_isPromised rm_L_isPromised (va_Pc [.ref (ad 0 0), .int z1, .ref (ad 24 0)] (k_I g (k_ct g ad t) ad)) (va_Qi (S := k_T × k_AD) post (fun u U => k_H g u.2 u.1 U.heap) (k_A g)) (fun _ _ _ => False) 1 6 (k_A g) ∧ k < 2 ^ 31 ∧ ∀ r t1 ad1, post r (t1, ad1) → r = nI k ∧ (ad1 0 0 = ad 0 0 ∧ ad1 9 0 = ad 9 0 ∧ ad1 24 0 = ad 24 0) ∧ ∃ (post2 : Int32 → k_T → Prop), Met l yX5_isPromised wsX5_isPromised rm_X5_isPromised (va_Pc [.ref (ad1 9 0), .int z1] (k_I g (k_ct g ad1 t1) ad1)) (va_Qi post2 (fun w U => k_H g ad1 w U.heap) (k_A g)) 0 0 (k_A g) ∧ ∀ rv w, post2 rv w → m_l w = k ∧ (k = 0 → ∃ q : Bool, rv = kb q ∧ l_o w 0 = k_bl q) ∧ k_J w
set_option maxRecDepth 100000 in
set_option maxHeartbeats 4000000 in
theorem lw_b_isPromised (C : lw_C p l s m args c g b L xs) (hi : i + 3 < L) (hc : cells + 20 ≤ 601024) (hs : slots + 200 ≤ 7293034) (hS : va_S (k_A g) s.heap H locs) (hW : k_H g ad t H) (hl : lv_has ls 7 (lw_lv ad b i)) (hp : pr_isPromised l g ad t (xs (i + 1))) (kk : lw_K p l e s m args below meth c g b i cells slots Q) : W p l e room_1 s m args below meth c H locs cells slots Q (F0 m 764 ls []) := by
  obtain ⟨hx, hb, hml, hown, hts, hX, hbl, hlt, hK, hZ, hg, hL⟩ := id C
  have hN : g.2.2 ≤ s.heap.size := by omega
  obtain ⟨k, post, hM, hk, hP⟩ := hp
  refine lv_aload_n hx hb dL_law_764 rfl (lv_at hl 1 rfl) ?_
  refine lw_opnd C hS hl 0 4 rfl rfl 1 (by omega) (by decide) dL_law_765 dL_law_766 dL_law_768 dL_law_769 dL_law_770 ?_
  refine lv_aload_n hx hb dL_law_771 rfl (lv_at hl 3 rfl) ?_
  refine k_ciA (lw_va (vx_runSX (As := [.ref (ad 0 0), .int (xs (i + 1)), .ref (ad 24 0)]) (rest := []) ⟨hx, hb, hml, hown, hts⟩ hM (vx_cwSW 3 hts gL_law_L_isPromised rfl rfl rfl (by decide +kernel) ⟨Nat.le_of_ble_eq_true rfl, Nat.le_of_ble_eq_true rfl⟩) ⟨k_blind, fun U hU hw => ⟨rfl, k_I.of hK hZ hN hS hW hU hw⟩⟩ rfl rfl hl.1 rfl (lv_room (Nat.le_of_ble_eq_true rfl)) dL_law_772 ⟨lw_cl (k := 0) hc (by decide), lw_sl (k := 0) hs (by decide)⟩)) hS (fun r u H locs hpo hW hS => ?_)
  obtain ⟨t1, ad1⟩ := u
  obtain ⟨rfl, ⟨a0, a9, a24⟩, post2, hM2, hP2⟩ := hP r t1 ad1 hpo
  have hW : k_H g ad1 t1 H := hW
  have hl := lw_lv_to a0 a9 a24 hl
  refine lv_istore (lv' := (5, .int (nI k)) :: lw_lv ad1 b i) hx hb dL_law_775 hl (by decide) rfl (fun ls hl => ?_)
  refine lv_aload_n hx hb dL_law_777 rfl (lv_at hl 3 rfl) ?_
  refine lw_opnd C hS hl 1 5 rfl rfl 1 (by omega) (by decide) dL_law_778 dL_law_779 dL_law_781 dL_law_782 dL_law_783 ?_
  refine k_ci (va_runV (As := [.int (xs (i + 1))]) (rest := []) ⟨hx, hb, hml, hown, hts⟩ hM2 (cwV 1 hts gL_law_X5_isPromised rfl rfl rfl (by decide +kernel) ⟨Nat.le_of_ble_eq_true rfl, Nat.le_of_ble_eq_true rfl⟩) ⟨k_blind, k_recv hK hW (kc_9 g ad1 t1) rfl, fun U hU hw => ⟨rfl, k_I.of hK hZ hN hS hW hU hw⟩⟩ rfl rfl hl.1 rfl (lv_room (Nat.le_of_ble_eq_true rfl)) dL_law_784 ⟨lw_cl (mc := 0) hc (by decide), lw_sl (ms := 0) hs (by decide)⟩) hS (fun rv w H locs hpo2 hW hS => ?_)
  obtain ⟨hm, ho, hJ⟩ := hP2 rv w hpo2
  refine W.widen (k := cells + 20) (n := slots + 200) (by omega) (by omega) ?_
  exact lw_tailz C hc hs hS hW hk hl hm ho dL_law_787 dL_law_789 dL_law_790 dL_law_793 dL_law_795 dL_law_800 dL_law_802 dL_law_805 dL_law_806 dL_law_807 dL_law_808 dL_law_810 dL_law_813 dL_law_814 dL_law_817 dL_law_818 dL_law_819 dL_law_824 (by decide) (fun H locs ls hW hS hl => kk _ _ _ _ _ hW hJ hS hl)
/-- isNeeded: the class and the model, one behind the other, say the same -/
def pr_isNeeded (l : Launch) (g : k_g) (ad : k_AD) (t : k_T) (z1 : Int32) : Prop := ∃ (k : Nat) (post : Int32 → k_T × k_AD → Prop), vx_Met l yL_isNeeded wsL_isNeeded rm_L_isNeeded (va_Pc [.ref (ad 0 0), .int z1, .ref (ad 24 0)] (k_I g (k_ct g ad t) ad)) (va_Qi (S := k_T × k_AD) post (fun u U => k_H g u.2 u.1 U.heap) (k_A g)) (fun _ _ _ => False) 1 6 (k_A g) ∧ k < 2 ^ 31 ∧ ∀ r t1 ad1, post r (t1, ad1) → r = nI k ∧ (ad1 0 0 = ad 0 0 ∧ ad1 9 0 = ad 9 0 ∧ ad1 24 0 = ad 24 0) ∧ ∃ (post2 : Int32 → k_T → Prop), Met l yX5_isNeeded wsX5_isNeeded rm_X5_isNeeded (va_Pc [.ref (ad1 9 0), .int z1] (k_I g (k_ct g ad1 t1) ad1)) (va_Qi post2 (fun w U => k_H g ad1 w U.heap) (k_A g)) 0 0 (k_A g) ∧ ∀ rv w, post2 rv w → m_l w = k ∧ (k = 0 → ∃ q : Bool, rv = kb q ∧ l_o w 0 = k_bl q) ∧ k_J w
set_option maxRecDepth 100000 in
set_option maxHeartbeats 4000000 in
theorem lw_b_isNeeded (C : lw_C p l s m args c g b L xs) (hi : i + 3 < L) (hc : cells + 20 ≤ 601024) (hs : slots + 200 ≤ 7293034) (hS : va_S (k_A g) s.heap H locs) (hW : k_H g ad t H) (hl : lv_has ls 7 (lw_lv ad b i)) (hp : pr_isNeeded l g ad t (xs (i + 1))) (kk : lw_K p l e s m args below meth c g b i cells slots Q) : W p l e room_1 s m args below meth c H locs cells slots Q (F0 m 827 ls []) := by
  obtain ⟨hx, hb, hml, hown, hts, hX, hbl, hlt, hK, hZ, hg, hL⟩ := id C
  have hN : g.2.2 ≤ s.heap.size := by omega
  obtain ⟨k, post, hM, hk, hP⟩ := hp
  refine lv_aload_n hx hb dL_law_827 rfl (lv_at hl 1 rfl) ?_
  refine lw_opnd C hS hl 0 4 rfl rfl 1 (by omega) (by decide) dL_law_828 dL_law_829 dL_law_831 dL_law_832 dL_law_833 ?_
  refine lv_aload_n hx hb dL_law_834 rfl (lv_at hl 3 rfl) ?_
  refine k_ciA (lw_va (vx_runSX (As := [.ref (ad 0 0), .int (xs (i + 1)), .ref (ad 24 0)]) (rest := []) ⟨hx, hb, hml, hown, hts⟩ hM (vx_cwSW 3 hts gL_law_L_isNeeded rfl rfl rfl (by decide +kernel) ⟨Nat.le_of_ble_eq_true rfl, Nat.le_of_ble_eq_true rfl⟩) ⟨k_blind, fun U hU hw => ⟨rfl, k_I.of hK hZ hN hS hW hU hw⟩⟩ rfl rfl hl.1 rfl (lv_room (Nat.le_of_ble_eq_true rfl)) dL_law_835 ⟨lw_cl (k := 0) hc (by decide), lw_sl (k := 0) hs (by decide)⟩)) hS (fun r u H locs hpo hW hS => ?_)
  obtain ⟨t1, ad1⟩ := u
  obtain ⟨rfl, ⟨a0, a9, a24⟩, post2, hM2, hP2⟩ := hP r t1 ad1 hpo
  have hW : k_H g ad1 t1 H := hW
  have hl := lw_lv_to a0 a9 a24 hl
  refine lv_istore (lv' := (5, .int (nI k)) :: lw_lv ad1 b i) hx hb dL_law_838 hl (by decide) rfl (fun ls hl => ?_)
  refine lv_aload_n hx hb dL_law_840 rfl (lv_at hl 3 rfl) ?_
  refine lw_opnd C hS hl 1 5 rfl rfl 1 (by omega) (by decide) dL_law_841 dL_law_842 dL_law_844 dL_law_845 dL_law_846 ?_
  refine k_ci (va_runV (As := [.int (xs (i + 1))]) (rest := []) ⟨hx, hb, hml, hown, hts⟩ hM2 (cwV 1 hts gL_law_X5_isNeeded rfl rfl rfl (by decide +kernel) ⟨Nat.le_of_ble_eq_true rfl, Nat.le_of_ble_eq_true rfl⟩) ⟨k_blind, k_recv hK hW (kc_9 g ad1 t1) rfl, fun U hU hw => ⟨rfl, k_I.of hK hZ hN hS hW hU hw⟩⟩ rfl rfl hl.1 rfl (lv_room (Nat.le_of_ble_eq_true rfl)) dL_law_847 ⟨lw_cl (mc := 0) hc (by decide), lw_sl (ms := 0) hs (by decide)⟩) hS (fun rv w H locs hpo2 hW hS => ?_)
  obtain ⟨hm, ho, hJ⟩ := hP2 rv w hpo2
  refine W.widen (k := cells + 20) (n := slots + 200) (by omega) (by omega) ?_
  exact lw_tailz C hc hs hS hW hk hl hm ho dL_law_850 dL_law_852 dL_law_853 dL_law_856 dL_law_858 dL_law_863 dL_law_865 dL_law_868 dL_law_869 dL_law_870 dL_law_871 dL_law_873 dL_law_876 dL_law_877 dL_law_880 dL_law_881 dL_law_882 dL_law_887 (by decide) (fun H locs ls hW hS hl => kk _ _ _ _ _ hW hJ hS hl)
/-- isProved: the class and the model, one behind the other, say the same -/
def pr_isProved (l : Launch) (g : k_g) (ad : k_AD) (t : k_T) (z1 : Int32) : Prop := ∃ (k : Nat) (post : Int32 → k_T × k_AD → Prop), vx_Met l yL_isProved wsL_isProved rm_L_isProved (va_Pc [.ref (ad 0 0), .int z1, .ref (ad 24 0)] (k_I g (k_ct g ad t) ad)) (va_Qi (S := k_T × k_AD) post (fun u U => k_H g u.2 u.1 U.heap) (k_A g)) (fun _ _ _ => False) 1 6 (k_A g) ∧ k < 2 ^ 31 ∧ ∀ r t1 ad1, post r (t1, ad1) → r = nI k ∧ (ad1 0 0 = ad 0 0 ∧ ad1 9 0 = ad 9 0 ∧ ad1 24 0 = ad 24 0) ∧ ∃ (post2 : Int32 → k_T → Prop), Met l yX5_isProved wsX5_isProved rm_X5_isProved (va_Pc [.ref (ad1 9 0), .int z1] (k_I g (k_ct g ad1 t1) ad1)) (va_Qi post2 (fun w U => k_H g ad1 w U.heap) (k_A g)) 0 0 (k_A g) ∧ ∀ rv w, post2 rv w → m_l w = k ∧ (k = 0 → ∃ q : Bool, rv = kb q ∧ l_o w 0 = k_bl q) ∧ k_J w
set_option maxRecDepth 100000 in
set_option maxHeartbeats 4000000 in
theorem lw_b_isProved (C : lw_C p l s m args c g b L xs) (hi : i + 3 < L) (hc : cells + 20 ≤ 601024) (hs : slots + 200 ≤ 7293034) (hS : va_S (k_A g) s.heap H locs) (hW : k_H g ad t H) (hl : lv_has ls 7 (lw_lv ad b i)) (hp : pr_isProved l g ad t (xs (i + 1))) (kk : lw_K p l e s m args below meth c g b i cells slots Q) : W p l e room_1 s m args below meth c H locs cells slots Q (F0 m 890 ls []) := by
  obtain ⟨hx, hb, hml, hown, hts, hX, hbl, hlt, hK, hZ, hg, hL⟩ := id C
  have hN : g.2.2 ≤ s.heap.size := by omega
  obtain ⟨k, post, hM, hk, hP⟩ := hp
  refine lv_aload_n hx hb dL_law_890 rfl (lv_at hl 1 rfl) ?_
  refine lw_opnd C hS hl 0 4 rfl rfl 1 (by omega) (by decide) dL_law_891 dL_law_892 dL_law_894 dL_law_895 dL_law_896 ?_
  refine lv_aload_n hx hb dL_law_897 rfl (lv_at hl 3 rfl) ?_
  refine k_ciA (lw_va (vx_runSX (As := [.ref (ad 0 0), .int (xs (i + 1)), .ref (ad 24 0)]) (rest := []) ⟨hx, hb, hml, hown, hts⟩ hM (vx_cwSW 3 hts gL_law_L_isProved rfl rfl rfl (by decide +kernel) ⟨Nat.le_of_ble_eq_true rfl, Nat.le_of_ble_eq_true rfl⟩) ⟨k_blind, fun U hU hw => ⟨rfl, k_I.of hK hZ hN hS hW hU hw⟩⟩ rfl rfl hl.1 rfl (lv_room (Nat.le_of_ble_eq_true rfl)) dL_law_898 ⟨lw_cl (k := 0) hc (by decide), lw_sl (k := 0) hs (by decide)⟩)) hS (fun r u H locs hpo hW hS => ?_)
  obtain ⟨t1, ad1⟩ := u
  obtain ⟨rfl, ⟨a0, a9, a24⟩, post2, hM2, hP2⟩ := hP r t1 ad1 hpo
  have hW : k_H g ad1 t1 H := hW
  have hl := lw_lv_to a0 a9 a24 hl
  refine lv_istore (lv' := (5, .int (nI k)) :: lw_lv ad1 b i) hx hb dL_law_901 hl (by decide) rfl (fun ls hl => ?_)
  refine lv_aload_n hx hb dL_law_903 rfl (lv_at hl 3 rfl) ?_
  refine lw_opnd C hS hl 1 5 rfl rfl 1 (by omega) (by decide) dL_law_904 dL_law_905 dL_law_907 dL_law_908 dL_law_909 ?_
  refine k_ci (va_runV (As := [.int (xs (i + 1))]) (rest := []) ⟨hx, hb, hml, hown, hts⟩ hM2 (cwV 1 hts gL_law_X5_isProved rfl rfl rfl (by decide +kernel) ⟨Nat.le_of_ble_eq_true rfl, Nat.le_of_ble_eq_true rfl⟩) ⟨k_blind, k_recv hK hW (kc_9 g ad1 t1) rfl, fun U hU hw => ⟨rfl, k_I.of hK hZ hN hS hW hU hw⟩⟩ rfl rfl hl.1 rfl (lv_room (Nat.le_of_ble_eq_true rfl)) dL_law_910 ⟨lw_cl (mc := 0) hc (by decide), lw_sl (ms := 0) hs (by decide)⟩) hS (fun rv w H locs hpo2 hW hS => ?_)
  obtain ⟨hm, ho, hJ⟩ := hP2 rv w hpo2
  refine W.widen (k := cells + 20) (n := slots + 200) (by omega) (by omega) ?_
  exact lw_tailz C hc hs hS hW hk hl hm ho dL_law_913 dL_law_915 dL_law_916 dL_law_919 dL_law_921 dL_law_926 dL_law_928 dL_law_931 dL_law_932 dL_law_933 dL_law_934 dL_law_936 dL_law_939 dL_law_940 dL_law_943 dL_law_944 dL_law_945 dL_law_950 (by decide) (fun H locs ls hW hS hl => kk _ _ _ _ _ hW hJ hS hl)
/-- restore: the class and the model, one behind the other, say the same -/
def pr_restore (l : Launch) (g : k_g) (ad : k_AD) (t : k_T) (z1 z2 : Int32) : Prop := ∃ (k : Nat) (post : Int32 → k_T × k_AD → Prop), vx_Met l yL_restore wsL_restore rm_L_restore (va_Pc [.ref (ad 0 0), .int z1, .int z2, .ref (ad 24 0)] (k_I g (k_ct g ad t) ad)) (va_Qi (S := k_T × k_AD) post (fun u U => k_H g u.2 u.1 U.heap) (k_A g)) (fun _ _ _ => False) 2 12 (k_A g) ∧ k < 2 ^ 31 ∧ ∀ r t1 ad1, post r (t1, ad1) → r = nI k ∧ (ad1 0 0 = ad 0 0 ∧ ad1 9 0 = ad 9 0 ∧ ad1 24 0 = ad 24 0) ∧ ∃ (post2 : Int32 → k_T → Prop), Met l yX5_restore wsX5_restore rm_X5_restore (va_Pc [.ref (ad1 9 0), .int z1, .int z2] (k_I g (k_ct g ad1 t1) ad1)) (va_Qi post2 (fun w U => k_H g ad1 w U.heap) (k_A g)) 0 0 (k_A g) ∧ ∀ rv w, post2 rv w → m_l w = k ∧ (k = 0 → l_o w 0 = rv.toInt64) ∧ k_J w
set_option maxRecDepth 100000 in
set_option maxHeartbeats 4000000 in
theorem lw_b_restore (C : lw_C p l s m args c g b L xs) (hi : i + 3 < L) (hc : cells + 20 ≤ 601024) (hs : slots + 200 ≤ 7293034) (hS : va_S (k_A g) s.heap H locs) (hW : k_H g ad t H) (hl : lv_has ls 7 (lw_lv ad b i)) (hp : pr_restore l g ad t (xs (i + 1)) (xs (i + 2))) (kk : lw_K p l e s m args below meth c g b i cells slots Q) : W p l e room_1 s m args below meth c H locs cells slots Q (F0 m 953 ls []) := by
  obtain ⟨hx, hb, hml, hown, hts, hX, hbl, hlt, hK, hZ, hg, hL⟩ := id C
  have hN : g.2.2 ≤ s.heap.size := by omega
  obtain ⟨k, post, hM, hk, hP⟩ := hp
  refine lv_aload_n hx hb dL_law_953 rfl (lv_at hl 1 rfl) ?_
  refine lw_opnd C hS hl 0 4 rfl rfl 1 (by omega) (by decide) dL_law_954 dL_law_955 dL_law_957 dL_law_958 dL_law_959 ?_
  refine lw_opnd C hS hl 0 4 rfl rfl 2 (by omega) (by decide) dL_law_960 dL_law_961 dL_law_963 dL_law_964 dL_law_965 ?_
  refine lv_aload_n hx hb dL_law_966 rfl (lv_at hl 3 rfl) ?_
  refine k_ciA (lw_va (vx_runSX (As := [.ref (ad 0 0), .int (xs (i + 1)), .int (xs (i + 2)), .ref (ad 24 0)]) (rest := []) ⟨hx, hb, hml, hown, hts⟩ hM (vx_cwSW 4 hts gL_law_L_restore rfl rfl rfl (by decide +kernel) ⟨Nat.le_of_ble_eq_true rfl, Nat.le_of_ble_eq_true rfl⟩) ⟨k_blind, fun U hU hw => ⟨rfl, k_I.of hK hZ hN hS hW hU hw⟩⟩ rfl rfl hl.1 rfl (lv_room (Nat.le_of_ble_eq_true rfl)) dL_law_967 ⟨lw_cl (k := 0) hc (by decide), lw_sl (k := 0) hs (by decide)⟩)) hS (fun r u H locs hpo hW hS => ?_)
  obtain ⟨t1, ad1⟩ := u
  obtain ⟨rfl, ⟨a0, a9, a24⟩, post2, hM2, hP2⟩ := hP r t1 ad1 hpo
  have hW : k_H g ad1 t1 H := hW
  have hl := lw_lv_to a0 a9 a24 hl
  refine lv_istore (lv' := (5, .int (nI k)) :: lw_lv ad1 b i) hx hb dL_law_970 hl (by decide) rfl (fun ls hl => ?_)
  refine lv_aload_n hx hb dL_law_972 rfl (lv_at hl 3 rfl) ?_
  refine lw_opnd C hS hl 1 5 rfl rfl 1 (by omega) (by decide) dL_law_973 dL_law_974 dL_law_976 dL_law_977 dL_law_978 ?_
  refine lw_opnd C hS hl 1 5 rfl rfl 2 (by omega) (by decide) dL_law_979 dL_law_980 dL_law_982 dL_law_983 dL_law_984 ?_
  refine k_ci (va_runV (As := [.int (xs (i + 1)), .int (xs (i + 2))]) (rest := []) ⟨hx, hb, hml, hown, hts⟩ hM2 (cwV 2 hts gL_law_X5_restore rfl rfl rfl (by decide +kernel) ⟨Nat.le_of_ble_eq_true rfl, Nat.le_of_ble_eq_true rfl⟩) ⟨k_blind, k_recv hK hW (kc_9 g ad1 t1) rfl, fun U hU hw => ⟨rfl, k_I.of hK hZ hN hS hW hU hw⟩⟩ rfl rfl hl.1 rfl (lv_room (Nat.le_of_ble_eq_true rfl)) dL_law_985 ⟨lw_cl (mc := 0) hc (by decide), lw_sl (ms := 0) hs (by decide)⟩) hS (fun rv w H locs hpo2 hW hS => ?_)
  obtain ⟨hm, ho, hJ⟩ := hP2 rv w hpo2
  refine W.widen (k := cells + 20) (n := slots + 200) (by omega) (by omega) ?_
  exact lw_tail C hc hs hS hW hk hl hm ho dL_law_988 dL_law_990 dL_law_991 dL_law_994 dL_law_996 dL_law_1001 dL_law_1003 dL_law_1006 dL_law_1007 dL_law_1008 dL_law_1009 dL_law_1011 dL_law_1012 dL_law_1013 dL_law_1018 (by decide) (fun H locs ls hW hS hl => kk _ _ _ _ _ hW hJ hS hl)
/-- restoreByChanges: the class and the model, one behind the other, say the same -/
def pr_restoreByChanges (l : Launch) (g : k_g) (ad : k_AD) (t : k_T) (z1 z2 : Int32) : Prop := ∃ (k : Nat) (post : Int32 → k_T × k_AD → Prop), vx_Met l yL_restoreByChanges wsL_restoreByChanges rm_L_restoreByChanges (va_Pc [.ref (ad 0 0), .int z1, .int z2, .ref (ad 24 0)] (k_I g (k_ct g ad t) ad)) (va_Qi (S := k_T × k_AD) post (fun u U => k_H g u.2 u.1 U.heap) (k_A g)) (fun _ _ _ => False) 2 12 (k_A g) ∧ k < 2 ^ 31 ∧ ∀ r t1 ad1, post r (t1, ad1) → r = nI k ∧ (ad1 0 0 = ad 0 0 ∧ ad1 9 0 = ad 9 0 ∧ ad1 24 0 = ad 24 0) ∧ ∃ (post2 : Int32 → k_T → Prop), Met l yX5_restoreByChanges wsX5_restoreByChanges rm_X5_restoreByChanges (va_Pc [.ref (ad1 9 0), .int z1, .int z2] (k_I g (k_ct g ad1 t1) ad1)) (va_Qi post2 (fun w U => k_H g ad1 w U.heap) (k_A g)) 0 0 (k_A g) ∧ ∀ rv w, post2 rv w → m_l w = k ∧ (k = 0 → l_o w 0 = rv.toInt64) ∧ k_J w
set_option maxRecDepth 100000 in
set_option maxHeartbeats 4000000 in
theorem lw_b_restoreByChanges (C : lw_C p l s m args c g b L xs) (hi : i + 3 < L) (hc : cells + 20 ≤ 601024) (hs : slots + 200 ≤ 7293034) (hS : va_S (k_A g) s.heap H locs) (hW : k_H g ad t H) (hl : lv_has ls 7 (lw_lv ad b i)) (hp : pr_restoreByChanges l g ad t (xs (i + 1)) (xs (i + 2))) (kk : lw_K p l e s m args below meth c g b i cells slots Q) : W p l e room_1 s m args below meth c H locs cells slots Q (F0 m 1021 ls []) := by
  obtain ⟨hx, hb, hml, hown, hts, hX, hbl, hlt, hK, hZ, hg, hL⟩ := id C
  have hN : g.2.2 ≤ s.heap.size := by omega
  obtain ⟨k, post, hM, hk, hP⟩ := hp
  refine lv_aload_n hx hb dL_law_1021 rfl (lv_at hl 1 rfl) ?_
  refine lw_opnd C hS hl 0 4 rfl rfl 1 (by omega) (by decide) dL_law_1022 dL_law_1023 dL_law_1025 dL_law_1026 dL_law_1027 ?_
  refine lw_opnd C hS hl 0 4 rfl rfl 2 (by omega) (by decide) dL_law_1028 dL_law_1029 dL_law_1031 dL_law_1032 dL_law_1033 ?_
  refine lv_aload_n hx hb dL_law_1034 rfl (lv_at hl 3 rfl) ?_
  refine k_ciA (lw_va (vx_runSX (As := [.ref (ad 0 0), .int (xs (i + 1)), .int (xs (i + 2)), .ref (ad 24 0)]) (rest := []) ⟨hx, hb, hml, hown, hts⟩ hM (vx_cwSW 4 hts gL_law_L_restoreByChanges rfl rfl rfl (by decide +kernel) ⟨Nat.le_of_ble_eq_true rfl, Nat.le_of_ble_eq_true rfl⟩) ⟨k_blind, fun U hU hw => ⟨rfl, k_I.of hK hZ hN hS hW hU hw⟩⟩ rfl rfl hl.1 rfl (lv_room (Nat.le_of_ble_eq_true rfl)) dL_law_1035 ⟨lw_cl (k := 0) hc (by decide), lw_sl (k := 0) hs (by decide)⟩)) hS (fun r u H locs hpo hW hS => ?_)
  obtain ⟨t1, ad1⟩ := u
  obtain ⟨rfl, ⟨a0, a9, a24⟩, post2, hM2, hP2⟩ := hP r t1 ad1 hpo
  have hW : k_H g ad1 t1 H := hW
  have hl := lw_lv_to a0 a9 a24 hl
  refine lv_istore (lv' := (5, .int (nI k)) :: lw_lv ad1 b i) hx hb dL_law_1038 hl (by decide) rfl (fun ls hl => ?_)
  refine lv_aload_n hx hb dL_law_1040 rfl (lv_at hl 3 rfl) ?_
  refine lw_opnd C hS hl 1 5 rfl rfl 1 (by omega) (by decide) dL_law_1041 dL_law_1042 dL_law_1044 dL_law_1045 dL_law_1046 ?_
  refine lw_opnd C hS hl 1 5 rfl rfl 2 (by omega) (by decide) dL_law_1047 dL_law_1048 dL_law_1050 dL_law_1051 dL_law_1052 ?_
  refine k_ci (va_runV (As := [.int (xs (i + 1)), .int (xs (i + 2))]) (rest := []) ⟨hx, hb, hml, hown, hts⟩ hM2 (cwV 2 hts gL_law_X5_restoreByChanges rfl rfl rfl (by decide +kernel) ⟨Nat.le_of_ble_eq_true rfl, Nat.le_of_ble_eq_true rfl⟩) ⟨k_blind, k_recv hK hW (kc_9 g ad1 t1) rfl, fun U hU hw => ⟨rfl, k_I.of hK hZ hN hS hW hU hw⟩⟩ rfl rfl hl.1 rfl (lv_room (Nat.le_of_ble_eq_true rfl)) dL_law_1053 ⟨lw_cl (mc := 0) hc (by decide), lw_sl (ms := 0) hs (by decide)⟩) hS (fun rv w H locs hpo2 hW hS => ?_)
  obtain ⟨hm, ho, hJ⟩ := hP2 rv w hpo2
  refine W.widen (k := cells + 20) (n := slots + 200) (by omega) (by omega) ?_
  exact lw_tail C hc hs hS hW hk hl hm ho dL_law_1056 dL_law_1058 dL_law_1059 dL_law_1062 dL_law_1064 dL_law_1069 dL_law_1071 dL_law_1074 dL_law_1075 dL_law_1076 dL_law_1077 dL_law_1079 dL_law_1080 dL_law_1081 dL_law_1086 (by decide) (fun H locs ls hW hS hl => kk _ _ _ _ _ hW hJ hS hl)
/-- onCall: the class and the model, one behind the other, say the same -/
def pr_onCall (l : Launch) (g : k_g) (ad : k_AD) (t : k_T) (z1 : Int32) : Prop := ∃ (k : Nat) (post : Int32 → k_T × k_AD → Prop), vx_Met l yL_onCall wsL_onCall rm_L_onCall (va_Pc [.ref (ad 0 0), .int z1, .ref (ad 24 0)] (k_I g (k_ct g ad t) ad)) (va_Qi (S := k_T × k_AD) post (fun u U => k_H g u.2 u.1 U.heap) (k_A g)) (fun _ _ _ => False) 1 6 (k_A g) ∧ k < 2 ^ 31 ∧ ∀ r t1 ad1, post r (t1, ad1) → r = nI k ∧ (ad1 0 0 = ad 0 0 ∧ ad1 9 0 = ad 9 0 ∧ ad1 24 0 = ad 24 0) ∧ ∃ (post2 : Int32 → k_T → Prop), Met l yX5_onCall wsX5_onCall rm_X5_onCall (va_Pc [.ref (ad1 9 0), .int z1] (k_I g (k_ct g ad1 t1) ad1)) (va_Qi post2 (fun w U => k_H g ad1 w U.heap) (k_A g)) 0 0 (k_A g) ∧ ∀ rv w, post2 rv w → m_l w = k ∧ (k = 0 → l_o w 0 = rv.toInt64) ∧ k_J w
set_option maxRecDepth 100000 in
set_option maxHeartbeats 4000000 in
theorem lw_b_onCall (C : lw_C p l s m args c g b L xs) (hi : i + 3 < L) (hc : cells + 20 ≤ 601024) (hs : slots + 200 ≤ 7293034) (hS : va_S (k_A g) s.heap H locs) (hW : k_H g ad t H) (hl : lv_has ls 7 (lw_lv ad b i)) (hp : pr_onCall l g ad t (xs (i + 1))) (kk : lw_K p l e s m args below meth c g b i cells slots Q) : W p l e room_1 s m args below meth c H locs cells slots Q (F0 m 1089 ls []) := by
  obtain ⟨hx, hb, hml, hown, hts, hX, hbl, hlt, hK, hZ, hg, hL⟩ := id C
  have hN : g.2.2 ≤ s.heap.size := by omega
  obtain ⟨k, post, hM, hk, hP⟩ := hp
  refine lv_aload_n hx hb dL_law_1089 rfl (lv_at hl 1 rfl) ?_
  refine lw_opnd C hS hl 0 4 rfl rfl 1 (by omega) (by decide) dL_law_1090 dL_law_1091 dL_law_1093 dL_law_1094 dL_law_1095 ?_
  refine lv_aload_n hx hb dL_law_1096 rfl (lv_at hl 3 rfl) ?_
  refine k_ciA (lw_va (vx_runSX (As := [.ref (ad 0 0), .int (xs (i + 1)), .ref (ad 24 0)]) (rest := []) ⟨hx, hb, hml, hown, hts⟩ hM (vx_cwSW 3 hts gL_law_L_onCall rfl rfl rfl (by decide +kernel) ⟨Nat.le_of_ble_eq_true rfl, Nat.le_of_ble_eq_true rfl⟩) ⟨k_blind, fun U hU hw => ⟨rfl, k_I.of hK hZ hN hS hW hU hw⟩⟩ rfl rfl hl.1 rfl (lv_room (Nat.le_of_ble_eq_true rfl)) dL_law_1097 ⟨lw_cl (k := 0) hc (by decide), lw_sl (k := 0) hs (by decide)⟩)) hS (fun r u H locs hpo hW hS => ?_)
  obtain ⟨t1, ad1⟩ := u
  obtain ⟨rfl, ⟨a0, a9, a24⟩, post2, hM2, hP2⟩ := hP r t1 ad1 hpo
  have hW : k_H g ad1 t1 H := hW
  have hl := lw_lv_to a0 a9 a24 hl
  refine lv_istore (lv' := (5, .int (nI k)) :: lw_lv ad1 b i) hx hb dL_law_1100 hl (by decide) rfl (fun ls hl => ?_)
  refine lv_aload_n hx hb dL_law_1102 rfl (lv_at hl 3 rfl) ?_
  refine lw_opnd C hS hl 1 5 rfl rfl 1 (by omega) (by decide) dL_law_1103 dL_law_1104 dL_law_1106 dL_law_1107 dL_law_1108 ?_
  refine k_ci (va_runV (As := [.int (xs (i + 1))]) (rest := []) ⟨hx, hb, hml, hown, hts⟩ hM2 (cwV 1 hts gL_law_X5_onCall rfl rfl rfl (by decide +kernel) ⟨Nat.le_of_ble_eq_true rfl, Nat.le_of_ble_eq_true rfl⟩) ⟨k_blind, k_recv hK hW (kc_9 g ad1 t1) rfl, fun U hU hw => ⟨rfl, k_I.of hK hZ hN hS hW hU hw⟩⟩ rfl rfl hl.1 rfl (lv_room (Nat.le_of_ble_eq_true rfl)) dL_law_1109 ⟨lw_cl (mc := 0) hc (by decide), lw_sl (ms := 0) hs (by decide)⟩) hS (fun rv w H locs hpo2 hW hS => ?_)
  obtain ⟨hm, ho, hJ⟩ := hP2 rv w hpo2
  refine W.widen (k := cells + 20) (n := slots + 200) (by omega) (by omega) ?_
  exact lw_tail C hc hs hS hW hk hl hm ho dL_law_1112 dL_law_1114 dL_law_1115 dL_law_1118 dL_law_1120 dL_law_1125 dL_law_1127 dL_law_1130 dL_law_1131 dL_law_1132 dL_law_1133 dL_law_1135 dL_law_1136 dL_law_1137 dL_law_1142 (by decide) (fun H locs ls hW hS hl => kk _ _ _ _ _ hW hJ hS hl)
/-- swap: the class and the model, one behind the other, say the same -/
def pr_swap (l : Launch) (g : k_g) (ad : k_AD) (t : k_T) (z1 z2 : Int32) : Prop := ∃ (k : Nat) (post : Int32 → k_T × k_AD → Prop), vx_Met l yL_swap wsL_swap rm_L_swap (va_Pc [.ref (ad 0 0), .int z1, .int z2, .ref (ad 24 0)] (k_I g (k_ct g ad t) ad)) (va_Qi (S := k_T × k_AD) post (fun u U => k_H g u.2 u.1 U.heap) (k_A g)) (fun _ _ _ => False) 2 12 (k_A g) ∧ k < 2 ^ 31 ∧ ∀ r t1 ad1, post r (t1, ad1) → r = nI k ∧ (ad1 0 0 = ad 0 0 ∧ ad1 9 0 = ad 9 0 ∧ ad1 24 0 = ad 24 0) ∧ ∃ (post2 : Int32 → k_T → Prop), Met l yX5_swap wsX5_swap rm_X5_swap (va_Pc [.ref (ad1 9 0), .int z1, .int z2] (k_I g (k_ct g ad1 t1) ad1)) (va_Qi post2 (fun w U => k_H g ad1 w U.heap) (k_A g)) 0 0 (k_A g) ∧ ∀ rv w, post2 rv w → m_l w = k ∧ (k = 0 → l_o w 0 = rv.toInt64) ∧ k_J w
set_option maxRecDepth 100000 in
set_option maxHeartbeats 4000000 in
theorem lw_b_swap (C : lw_C p l s m args c g b L xs) (hi : i + 3 < L) (hc : cells + 20 ≤ 601024) (hs : slots + 200 ≤ 7293034) (hS : va_S (k_A g) s.heap H locs) (hW : k_H g ad t H) (hl : lv_has ls 7 (lw_lv ad b i)) (hp : pr_swap l g ad t (xs (i + 1)) (xs (i + 2))) (kk : lw_K p l e s m args below meth c g b i cells slots Q) : W p l e room_1 s m args below meth c H locs cells slots Q (F0 m 1145 ls []) := by
  obtain ⟨hx, hb, hml, hown, hts, hX, hbl, hlt, hK, hZ, hg, hL⟩ := id C
  have hN : g.2.2 ≤ s.heap.size := by omega
  obtain ⟨k, post, hM, hk, hP⟩ := hp
  refine lv_aload_n hx hb dL_law_1145 rfl (lv_at hl 1 rfl) ?_
  refine lw_opnd C hS hl 0 4 rfl rfl 1 (by omega) (by decide) dL_law_1146 dL_law_1147 dL_law_1149 dL_law_1150 dL_law_1151 ?_
  refine lw_opnd C hS hl 0 4 rfl rfl 2 (by omega) (by decide) dL_law_1152 dL_law_1153 dL_law_1155 dL_law_1156 dL_law_1157 ?_
  refine lv_aload_n hx hb dL_law_1158 rfl (lv_at hl 3 rfl) ?_
  refine k_ciA (lw_va (vx_runSX (As := [.ref (ad 0 0), .int (xs (i + 1)), .int (xs (i + 2)), .ref (ad 24 0)]) (rest := []) ⟨hx, hb, hml, hown, hts⟩ hM (vx_cwSW 4 hts gL_law_L_swap rfl rfl rfl (by decide +kernel) ⟨Nat.le_of_ble_eq_true rfl, Nat.le_of_ble_eq_true rfl⟩) ⟨k_blind, fun U hU hw => ⟨rfl, k_I.of hK hZ hN hS hW hU hw⟩⟩ rfl rfl hl.1 rfl (lv_room (Nat.le_of_ble_eq_true rfl)) dL_law_1159 ⟨lw_cl (k := 0) hc (by decide), lw_sl (k := 0) hs (by decide)⟩)) hS (fun r u H locs hpo hW hS => ?_)
  obtain ⟨t1, ad1⟩ := u
  obtain ⟨rfl, ⟨a0, a9, a24⟩, post2, hM2, hP2⟩ := hP r t1 ad1 hpo
  have hW : k_H g ad1 t1 H := hW
  have hl := lw_lv_to a0 a9 a24 hl
  refine lv_istore (lv' := (5, .int (nI k)) :: lw_lv ad1 b i) hx hb dL_law_1162 hl (by decide) rfl (fun ls hl => ?_)
  refine lv_aload_n hx hb dL_law_1164 rfl (lv_at hl 3 rfl) ?_
  refine lw_opnd C hS hl 1 5 rfl rfl 1 (by omega) (by decide) dL_law_1165 dL_law_1166 dL_law_1168 dL_law_1169 dL_law_1170 ?_
  refine lw_opnd C hS hl 1 5 rfl rfl 2 (by omega) (by decide) dL_law_1171 dL_law_1172 dL_law_1174 dL_law_1175 dL_law_1176 ?_
  refine k_ci (va_runV (As := [.int (xs (i + 1)), .int (xs (i + 2))]) (rest := []) ⟨hx, hb, hml, hown, hts⟩ hM2 (cwV 2 hts gL_law_X5_swap rfl rfl rfl (by decide +kernel) ⟨Nat.le_of_ble_eq_true rfl, Nat.le_of_ble_eq_true rfl⟩) ⟨k_blind, k_recv hK hW (kc_9 g ad1 t1) rfl, fun U hU hw => ⟨rfl, k_I.of hK hZ hN hS hW hU hw⟩⟩ rfl rfl hl.1 rfl (lv_room (Nat.le_of_ble_eq_true rfl)) dL_law_1177 ⟨lw_cl (mc := 0) hc (by decide), lw_sl (ms := 0) hs (by decide)⟩) hS (fun rv w H locs hpo2 hW hS => ?_)
  obtain ⟨hm, ho, hJ⟩ := hP2 rv w hpo2
  refine W.widen (k := cells + 20) (n := slots + 200) (by omega) (by omega) ?_
  exact lw_tail C hc hs hS hW hk hl hm ho dL_law_1180 dL_law_1182 dL_law_1183 dL_law_1186 dL_law_1188 dL_law_1193 dL_law_1195 dL_law_1198 dL_law_1199 dL_law_1200 dL_law_1201 dL_law_1203 dL_law_1204 dL_law_1205 dL_law_1210 (by decide) (fun H locs ls hW hS hl => kk _ _ _ _ _ hW hJ hS hl)
/-- alarm: the class and the model, one behind the other, say the same -/
def pr_alarm (l : Launch) (g : k_g) (ad : k_AD) (t : k_T) (z1 : Int32) : Prop := ∃ (k : Nat) (post : Int32 → k_T × k_AD → Prop), vx_Met l yL_alarm wsL_alarm rm_L_alarm (va_Pc [.ref (ad 0 0), .int z1, .ref (ad 24 0)] (k_I g (k_ct g ad t) ad)) (va_Qi (S := k_T × k_AD) post (fun u U => k_H g u.2 u.1 U.heap) (k_A g)) (fun _ _ _ => False) 1 6 (k_A g) ∧ k < 2 ^ 31 ∧ ∀ r t1 ad1, post r (t1, ad1) → r = nI k ∧ (ad1 0 0 = ad 0 0 ∧ ad1 9 0 = ad 9 0 ∧ ad1 24 0 = ad 24 0) ∧ ∃ (post2 : Int32 → k_T → Prop), Met l yX5_alarm wsX5_alarm rm_X5_alarm (va_Pc [.ref (ad1 9 0), .int z1] (k_I g (k_ct g ad1 t1) ad1)) (va_Qi post2 (fun w U => k_H g ad1 w U.heap) (k_A g)) 0 0 (k_A g) ∧ ∀ rv w, post2 rv w → m_l w = k ∧ (k = 0 → l_o w 0 = rv.toInt64) ∧ k_J w
set_option maxRecDepth 100000 in
set_option maxHeartbeats 4000000 in
theorem lw_b_alarm (C : lw_C p l s m args c g b L xs) (hi : i + 3 < L) (hc : cells + 20 ≤ 601024) (hs : slots + 200 ≤ 7293034) (hS : va_S (k_A g) s.heap H locs) (hW : k_H g ad t H) (hl : lv_has ls 7 (lw_lv ad b i)) (hp : pr_alarm l g ad t (xs (i + 1))) (kk : lw_K p l e s m args below meth c g b i cells slots Q) : W p l e room_1 s m args below meth c H locs cells slots Q (F0 m 1213 ls []) := by
  obtain ⟨hx, hb, hml, hown, hts, hX, hbl, hlt, hK, hZ, hg, hL⟩ := id C
  have hN : g.2.2 ≤ s.heap.size := by omega
  obtain ⟨k, post, hM, hk, hP⟩ := hp
  refine lv_aload_n hx hb dL_law_1213 rfl (lv_at hl 1 rfl) ?_
  refine lw_opnd C hS hl 0 4 rfl rfl 1 (by omega) (by decide) dL_law_1214 dL_law_1215 dL_law_1217 dL_law_1218 dL_law_1219 ?_
  refine lv_aload_n hx hb dL_law_1220 rfl (lv_at hl 3 rfl) ?_
  refine k_ciA (lw_va (vx_runSX (As := [.ref (ad 0 0), .int (xs (i + 1)), .ref (ad 24 0)]) (rest := []) ⟨hx, hb, hml, hown, hts⟩ hM (vx_cwSW 3 hts gL_law_L_alarm rfl rfl rfl (by decide +kernel) ⟨Nat.le_of_ble_eq_true rfl, Nat.le_of_ble_eq_true rfl⟩) ⟨k_blind, fun U hU hw => ⟨rfl, k_I.of hK hZ hN hS hW hU hw⟩⟩ rfl rfl hl.1 rfl (lv_room (Nat.le_of_ble_eq_true rfl)) dL_law_1221 ⟨lw_cl (k := 0) hc (by decide), lw_sl (k := 0) hs (by decide)⟩)) hS (fun r u H locs hpo hW hS => ?_)
  obtain ⟨t1, ad1⟩ := u
  obtain ⟨rfl, ⟨a0, a9, a24⟩, post2, hM2, hP2⟩ := hP r t1 ad1 hpo
  have hW : k_H g ad1 t1 H := hW
  have hl := lw_lv_to a0 a9 a24 hl
  refine lv_istore (lv' := (5, .int (nI k)) :: lw_lv ad1 b i) hx hb dL_law_1224 hl (by decide) rfl (fun ls hl => ?_)
  refine lv_aload_n hx hb dL_law_1226 rfl (lv_at hl 3 rfl) ?_
  refine lw_opnd C hS hl 1 5 rfl rfl 1 (by omega) (by decide) dL_law_1227 dL_law_1228 dL_law_1230 dL_law_1231 dL_law_1232 ?_
  refine k_ci (va_runV (As := [.int (xs (i + 1))]) (rest := []) ⟨hx, hb, hml, hown, hts⟩ hM2 (cwV 1 hts gL_law_X5_alarm rfl rfl rfl (by decide +kernel) ⟨Nat.le_of_ble_eq_true rfl, Nat.le_of_ble_eq_true rfl⟩) ⟨k_blind, k_recv hK hW (kc_9 g ad1 t1) rfl, fun U hU hw => ⟨rfl, k_I.of hK hZ hN hS hW hU hw⟩⟩ rfl rfl hl.1 rfl (lv_room (Nat.le_of_ble_eq_true rfl)) dL_law_1233 ⟨lw_cl (mc := 0) hc (by decide), lw_sl (ms := 0) hs (by decide)⟩) hS (fun rv w H locs hpo2 hW hS => ?_)
  obtain ⟨hm, ho, hJ⟩ := hP2 rv w hpo2
  refine W.widen (k := cells + 20) (n := slots + 200) (by omega) (by omega) ?_
  exact lw_tail C hc hs hS hW hk hl hm ho dL_law_1236 dL_law_1238 dL_law_1239 dL_law_1242 dL_law_1244 dL_law_1249 dL_law_1251 dL_law_1254 dL_law_1255 dL_law_1256 dL_law_1257 dL_law_1259 dL_law_1260 dL_law_1261 dL_law_1266 (by decide) (fun H locs ls hW hS hl => kk _ _ _ _ _ hW hJ hS hl)
end LawBlocks
