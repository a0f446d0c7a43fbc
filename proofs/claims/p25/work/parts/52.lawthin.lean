abbrev rm_L_thin : Room := { frames := 2, cells := 0, slots := 0, locals := 54 }
set_option maxRecDepth 100000 in
set_option maxHeartbeats 4000000 in
theorem c_L_thin (l : Launch) (hlt : l.stackTraces = false) (g : k_g) (ad : k_AD) (t : k_T) (N : Nat) (th : Nat → Bool) (on : Nat → Nat) (bs : Nat → Option Nat) (r1 : Nat) (r2 : Nat) (r3 : Nat) (pv : Nat → Bool) (sz : Nat → Nat) (hA : q_A t N th on bs) (hR : q_R t r1 r2 r3) (h4 : w_m t 4 = kB pv) (hsz : ∀ k, k < N → w_x t (28 + k) = nI (sz k)) : Met l yL_thin wsL_thin rm_L_thin (va_Pc [.ref (ad 9 0), .ref (ad 12 0)] (k_I g (k_ct g ad t) ad)) (va_Qi (fun r u => r = nI (k_sm (fun q => th q && !((k_nd (fun _ => true) (q_ST th (k_nd th (k_P th on N r1 r2 r3) bs N) on (q_pf (fun q => th q && pv q) on N)) bs N) q)) (fun q => sz q + 1) N) ∧ u = set_w_m t (va_up (w_m t) 2 (kB (fun j => th j && (k_nd (fun _ => true) (q_ST th (k_nd th (k_P th on N r1 r2 r3) bs N) on (q_pf (fun q => th q && pv q) on N)) bs N) j)))) (fun u U => k_H g ad u U.heap) (k_A g)) 0 0 (k_A g) := by
  refine k_met (cc := cL_thin) (maxL := 7) (ret := (some .int)) (by decide) rfl (Nat.le_of_ble_eq_true rfl) (fun p e s m args below meth c Q ls hQ hx hb hr hml hts hown hlk hin hK hZ hN hW hS hl => ?_)
  have hown : s.vm.findClass RL = some m.cls := hown
  have hW : k_H g ad t s.heap := hW
  have hl : lv_has ls 7 [(0, .ref (ad 9 0)), (1, .ref (ad 12 0))] := hl
  have hN9 := hA.n14
  refine lv_iconst (v := (-1)) hx hb dL_thin_0 (by decide) ?_
  refine lv_istore_n (lv' := [(2, .int (-1)), (0, .ref (ad 9 0)), (1, .ref (ad 12 0))]) hx hb dL_thin_1 rfl hl (by decide) rfl (fun ls hl => ?_)
  refine lv_iconst (v := nI 0) hx hb dL_thin_2 (by decide) ?_
  refine lv_istore_n (lv' := [(3, .int (nI 0)), (2, .int (-1)), (0, .ref (ad 9 0)), (1, .ref (ad 12 0))]) hx hb dL_thin_3 rfl hl (by decide) rfl (fun ls hl => ?_)
  refine lv_aload_n hx hb dL_thin_4 rfl (lv_at hl 2 rfl) ?_
  refine lv_aload_n hx hb dL_thin_5 rfl (lv_at hl 3 rfl) ?_
  refine k_ci (va_runS (As := [.ref (ad 9 0), .ref (ad 12 0)]) (rest := []) ⟨hx, hb, hml, hown, hts⟩ (c_L_needed l hlt g ad t N th on bs r1 r2 r3 hA hR) (va_cwS 2 hts gL_thin_L_needed rfl rfl rfl (by decide +kernel) ⟨(Nat.le_of_ble_eq_true rfl), (Nat.le_of_ble_eq_true rfl)⟩) ⟨k_blind, fun U hU hw => ⟨rfl, k_I.of hK hZ hN hS hW hU hw⟩⟩ rfl rfl hl.1 rfl (lv_room (Nat.le_of_ble_eq_true rfl)) dL_thin_6 ⟨(Nat.le_of_ble_eq_true rfl), (Nat.le_of_ble_eq_true rfl)⟩) hS (fun r u H locs hpo hW hS => ?_)
  obtain ⟨hr9, hu9⟩ := hpo; replace hu9 := hu9.symm; subst hu9; replace hr9 := hr9.symm; subst hr9
  refine lv_istore (lv' := [(4, .int (kB (k_nd th (k_P th on N r1 r2 r3) bs N))), (3, .int (nI 0)), (2, .int (-1)), (0, .ref (ad 9 0)), (1, .ref (ad 12 0))]) hx hb dL_thin_9 hl (by decide) rfl (fun ls hl => ?_)
  refine lv_iconst (v := nI 0) hx hb dL_thin_11 (by decide) ?_
  refine lv_istore (lv' := [(5, .int (nI 0)), (4, .int (kB (k_nd th (k_P th on N r1 r2 r3) bs N))), (3, .int (nI 0)), (2, .int (-1)), (0, .ref (ad 9 0)), (1, .ref (ad 12 0))]) hx hb dL_thin_12 hl (by decide) rfl (fun ls hl => ?_)
  have hloop_14 : ∀ (n : Nat) (k : Nat) (z : Int32), (N < k + n) → (k ≤ N) → (z = q_pf (fun q => th q && pv q) on k) → ∀ (H : Heap) (locs : List Loc), k_H g ad t H → va_S (k_A g) s.heap H locs → ∀ (ls : Array Slot), lv_has ls 7 [(0, .ref (ad 9 0)), (1, .ref (ad 12 0)), (2, .int z), (3, .int (nI 0)), (4, .int (kB (k_nd th (k_P th on N r1 r2 r3) bs N))), (5, .int (nI k))] → W p l e rm_L_thin s m args below meth c H locs 0 0 Q (F0 m 14 ls []) := by
    intro n
    induction n with
    | zero =>
      intro k z hfu hk hz
      exact absurd hfu (by omega)
    | succ n ih =>
      intro k z hfu hk hz H locs hW hS ls hl
      refine lv_iload hx hb dL_thin_14 (lv_at hl 5 rfl) ?_
      refine lv_aload_n hx hb dL_thin_16 rfl (lv_at hl 1 rfl) ?_
      refine lv_iconst (v := nI 0) hx hb dL_thin_17 (by decide) ?_
      refine k_iald hx hb hK hW (kc_12 g ad t) 0 rfl (by omega) (by decide) dL_thin_18 ?_
      refine k_toi (y := nI N) hA.m0 ?_
      refine k_icmp_ge (tgt := 56) hx hb (a := k) (b := N) (by omega) (by omega) dL_thin_19 (by decide) (fun h_19 => ?_) (fun h_19 => ?_)
      · have hzN : z = q_pf (fun q => th q && pv q) on N := by rw [hz, show k = N by omega]
        clear hz
        refine lv_iconst (v := nI 0) hx hb dL_thin_56 (by decide) ?_
        refine lv_istore (lv' := [(5, .int (nI 0)), (0, .ref (ad 9 0)), (1, .ref (ad 12 0)), (2, .int z), (3, .int (nI 0)), (4, .int (kB (k_nd th (k_P th on N r1 r2 r3) bs N)))]) hx hb dL_thin_57 hl (by decide) rfl (fun ls hl => ?_)
        have hloop_59 : ∀ (n : Nat) (k : Nat) (Sm : Nat → Bool), (N < k + n) → (k ≤ N) → (∀ j, Sm j = ((k_nd th (k_P th on N r1 r2 r3) bs N) j || (decide (j < k) && (fun j => th j && !(th j && (!(k_nd th (k_P th on N r1 r2 r3) bs N) j && decide (nI (on j) < z)))) j))) → ∀ (H : Heap) (locs : List Loc), k_H g ad t H → va_S (k_A g) s.heap H locs → ∀ (ls : Array Slot), lv_has ls 7 [(0, .ref (ad 9 0)), (1, .ref (ad 12 0)), (2, .int z), (3, .int (nI 0)), (4, .int (kB Sm)), (5, .int (nI k))] → W p l e rm_L_thin s m args below meth c H locs 0 0 Q (F0 m 59 ls []) := by
          intro n
          induction n with
          | zero =>
            intro k Sm hfu hk hSm
            exact absurd hfu (by omega)
          | succ n ih_59 =>
            intro k Sm hfu hk hSm H locs hW hS ls hl
            have hSk : Sm k = (k_nd th (k_P th on N r1 r2 r3) bs N) k := by rw [hSm k]; simp
            refine lv_iload hx hb dL_thin_59 (lv_at hl 5 rfl) ?_
            refine lv_aload_n hx hb dL_thin_61 rfl (lv_at hl 1 rfl) ?_
            refine lv_iconst (v := nI 0) hx hb dL_thin_62 (by decide) ?_
            refine k_iald hx hb hK hW (kc_12 g ad t) 0 rfl (by omega) (by decide) dL_thin_63 ?_
            refine k_toi (y := nI N) hA.m0 ?_
            refine k_icmp_ge (tgt := 140) hx hb (a := k) (b := N) (by omega) (by omega) dL_thin_64 (by decide) (fun h_64 => ?_) (fun h_64 => ?_)
            · have hSe : Sm = (q_ST th (k_nd th (k_P th on N r1 r2 r3) bs N) on (q_pf (fun q => th q && pv q) on N)) := by
                rw [← hzN]; exact q_pk_end hSm (fun j hj => Nat.lt_of_lt_of_le (hA.th j (Bool.and_eq_true _ _ |>.mp hj).1) h_64)
              refine lv_iconst (v := nI 0) hx hb dL_thin_140 (by decide) ?_
              refine k_toi (y := kB (fun _ => false)) kB_0.symm ?_
              refine lv_istore (lv' := [(5, .int (kB (fun _ => false))), (0, .ref (ad 9 0)), (1, .ref (ad 12 0)), (2, .int z), (3, .int (nI 0)), (4, .int (kB Sm))]) hx hb dL_thin_141 hl (by decide) rfl (fun ls hl => ?_)
              refine lv_iconst (v := nI 0) hx hb dL_thin_143 (by decide) ?_
              refine lv_istore (lv' := [(6, .int (nI 0)), (5, .int (kB (fun _ => false))), (0, .ref (ad 9 0)), (1, .ref (ad 12 0)), (2, .int z), (3, .int (nI 0)), (4, .int (kB Sm))]) hx hb dL_thin_144 hl (by decide) rfl (fun ls hl => ?_)
              have hloop_146 : ∀ (n : Nat) (k : Nat) (Km : Nat → Bool), (N < k + n) → (k ≤ N) → (∀ j, Km j = k_nd (fun _ => true) Sm bs k j) → ∀ (H : Heap) (locs : List Loc), k_H g ad t H → va_S (k_A g) s.heap H locs → ∀ (ls : Array Slot), lv_has ls 7 [(0, .ref (ad 9 0)), (1, .ref (ad 12 0)), (3, .int (nI 0)), (4, .int (kB Sm)), (5, .int (kB Km)), (6, .int (nI k))] → W p l e rm_L_thin s m args below meth c H locs 0 0 Q (F0 m 146 ls []) := by
                intro n
                induction n with
                | zero =>
                  intro k Km hfu hk hKm
                  exact absurd hfu (by omega)
                | succ n ih_146 =>
                  intro k Km hfu hk hKm H locs hW hS ls hl
                  refine lv_iload hx hb dL_thin_146 (lv_at hl 5 rfl) ?_
                  refine lv_aload_n hx hb dL_thin_148 rfl (lv_at hl 1 rfl) ?_
                  refine lv_iconst (v := nI 0) hx hb dL_thin_149 (by decide) ?_
                  refine k_iald hx hb hK hW (kc_12 g ad t) 0 rfl (by omega) (by decide) dL_thin_150 ?_
                  refine k_toi (y := nI N) hA.m0 ?_
                  refine k_icmp_ge (tgt := 186) hx hb (a := k) (b := N) (by omega) (by omega) dL_thin_151 (by decide) (fun h_151 => ?_) (fun h_151 => ?_)
                  · have hKe : Km = (k_nd (fun _ => true) (q_ST th (k_nd th (k_P th on N r1 r2 r3) bs N) on (q_pf (fun q => th q && pv q) on N)) bs N) := funext fun j => by rw [hKm j, hSe, show k = N by omega]
                    refine lv_iconst (v := nI 0) hx hb dL_thin_186 (by decide) ?_
                    refine lv_istore (lv' := [(6, .int (nI 0)), (0, .ref (ad 9 0)), (1, .ref (ad 12 0)), (3, .int (nI 0)), (4, .int (kB Sm)), (5, .int (kB Km))]) hx hb dL_thin_187 hl (by decide) rfl (fun ls hl => ?_)
                    have hloop_189 : ∀ (n : Nat) (k : Nat) (sp : Nat), (N < k + n) → (k ≤ N) → (sp = k_sm (fun q => th q && !(Km q)) (fun q => sz q + 1) k) → ∀ (H : Heap) (locs : List Loc), k_H g ad t H → va_S (k_A g) s.heap H locs → ∀ (ls : Array Slot), lv_has ls 7 [(0, .ref (ad 9 0)), (1, .ref (ad 12 0)), (3, .int (nI sp)), (5, .int (kB Km)), (6, .int (nI k))] → W p l e rm_L_thin s m args below meth c H locs 0 0 Q (F0 m 189 ls []) := by
                      intro n
                      induction n with
                      | zero =>
                        intro k sp hfu hk hsp
                        exact absurd hfu (by omega)
                      | succ n ih_189 =>
                        intro k sp hfu hk hsp H locs hW hS ls hl
                        refine lv_iload hx hb dL_thin_189 (lv_at hl 4 rfl) ?_
                        refine lv_aload_n hx hb dL_thin_191 rfl (lv_at hl 1 rfl) ?_
                        refine lv_iconst (v := nI 0) hx hb dL_thin_192 (by decide) ?_
                        refine k_iald hx hb hK hW (kc_12 g ad t) 0 rfl (by omega) (by decide) dL_thin_193 ?_
                        refine k_toi (y := nI N) hA.m0 ?_
                        refine k_icmp_ge (tgt := 241) hx hb (a := k) (b := N) (by omega) (by omega) dL_thin_194 (by decide) (fun h_194 => ?_) (fun h_194 => ?_)
                        · refine lv_aload_n hx hb dL_thin_241 rfl (lv_at hl 1 rfl) ?_
                          refine lv_iconst (v := nI 2) hx hb dL_thin_242 (by decide) ?_
                          refine lv_dup2_11 hx hb dL_thin_243 rfl rfl ?_
                          refine k_iald hx hb hK hW (kc_12 g ad t) 2 rfl (by decide) (by decide) dL_thin_244 ?_
                          refine k_toi (y := kB th) hA.m2 ?_
                          refine lv_iload hx hb dL_thin_245 (lv_at hl 3 rfl) ?_
                          refine lv_iand hx hb dL_thin_247 ?_
                          refine k_toi (y := kB (fun j => th j && Km j)) (kB_and th Km) ?_
                          refine k_iast hx hb hK hW hS (kc_12 g ad t) 2 rfl (by omega) (by decide) dL_thin_248 (fun H locs hW hS => ?_)
                          have hW : k_H g ad (set_w_m t (va_up (w_m t) 2 (kB (fun j => th j && Km j)))) H := kt_w_m (t := t) 2 (kB (fun j => th j && Km j)) rfl hW
                          refine lv_iload_n hx hb dL_thin_249 rfl (lv_at hl 2 rfl) ?_
                          exact k_ri hQ hx hb hr hlk hS hW ⟨by rw [hsp, hKe, show k = N by omega], by rw [hKe]⟩ (Nat.le_of_ble_eq_true rfl) (Nat.le_of_ble_eq_true rfl) dL_thin_250
                        · refine lv_iload_n hx hb dL_thin_197 rfl (lv_at hl 2 rfl) ?_
                          refine lv_aload_n hx hb dL_thin_198 rfl (lv_at hl 1 rfl) ?_
                          refine lv_iconst (v := nI 2) hx hb dL_thin_199 (by decide) ?_
                          refine k_iald hx hb hK hW (kc_12 g ad t) 2 rfl (by omega) (by decide) dL_thin_200 ?_
                          refine k_toi (y := kB th) hA.m2 ?_
                          refine lv_iload hx hb dL_thin_201 (lv_at hl 4 rfl) ?_
                          refine lv_ishr hx hb dL_thin_203 ?_
                          refine lv_iconst (v := nI 1) hx hb dL_thin_204 (by decide) ?_
                          refine lv_iand hx hb dL_thin_205 ?_
                          refine k_toi (y := kb (th k)) (kB_bit th (by omega)) ?_
                          refine lv_iconst (v := nI 1) hx hb dL_thin_206 (by decide) ?_
                          refine k_b1_ne (tgt := 232) hx hb dL_thin_207 (by decide) (fun h_207 => ?_) (fun h_207 => ?_)
                          · refine lv_iconst (v := nI 0) hx hb dL_thin_232 (by decide) ?_
                            refine k_iadd hx hb dL_thin_233 ?_
                            refine lv_istore_n (lv' := [(3, .int (nI (sp + 0))), (0, .ref (ad 9 0)), (1, .ref (ad 12 0)), (5, .int (kB Km)), (6, .int (nI k))]) hx hb dL_thin_234 rfl hl (by decide) rfl (fun ls hl => ?_)
                            refine lv_iinc (v := nI (k + 1)) (lv' := [(6, .int (nI (k + 1))), (3, .int (nI (sp + 0))), (0, .ref (ad 9 0)), (1, .ref (ad 12 0)), (5, .int (kB Km))]) hx hb dL_thin_235 hl (k := 4) rfl (nI_add _ _) (by decide) rfl (fun ls hl => ?_)
                            refine lv_goto (tgt := 189) hx hb dL_thin_238 (by decide) ?_
                            exact ih_189 (k + 1) (sp + 0) (by omega) (by omega) (by rw [k_sm_n (p := fun q => th q && !(Km q)) (by simp [h_207])]; exact hsp) _ _ hW hS _ (lv_sub hl [2, 3, 1, 4, 0] rfl)
                          · refine lv_iload hx hb dL_thin_210 (lv_at hl 3 rfl) ?_
                            refine lv_iload hx hb dL_thin_212 (lv_at hl 4 rfl) ?_
                            refine lv_ishr hx hb dL_thin_214 ?_
                            refine lv_iconst (v := nI 1) hx hb dL_thin_215 (by decide) ?_
                            refine lv_iand hx hb dL_thin_216 ?_
                            refine k_toi (y := kb (Km k)) (kB_bit Km (by omega)) ?_
                            refine k_ifz_ne (tgt := 232) hx hb dL_thin_217 (by decide) (fun h_217 => ?_) (fun h_217 => ?_)
                            · refine lv_iconst (v := nI 0) hx hb dL_thin_232 (by decide) ?_
                              refine k_iadd hx hb dL_thin_233 ?_
                              refine lv_istore_n (lv' := [(3, .int (nI (sp + 0))), (0, .ref (ad 9 0)), (1, .ref (ad 12 0)), (5, .int (kB Km)), (6, .int (nI k))]) hx hb dL_thin_234 rfl hl (by decide) rfl (fun ls hl => ?_)
                              refine lv_iinc (v := nI (k + 1)) (lv' := [(6, .int (nI (k + 1))), (3, .int (nI (sp + 0))), (0, .ref (ad 9 0)), (1, .ref (ad 12 0)), (5, .int (kB Km))]) hx hb dL_thin_235 hl (k := 4) rfl (nI_add _ _) (by decide) rfl (fun ls hl => ?_)
                              refine lv_goto (tgt := 189) hx hb dL_thin_238 (by decide) ?_
                              exact ih_189 (k + 1) (sp + 0) (by omega) (by omega) (by rw [k_sm_n (p := fun q => th q && !(Km q)) (by simp [h_217])]; exact hsp) _ _ hW hS _ (lv_sub hl [2, 3, 1, 4, 0] rfl)
                            · refine lv_aload_n hx hb dL_thin_220 rfl (lv_at hl 0 rfl) ?_
                              refine lv_bipush (v := nI 28) hx hb dL_thin_221 (by decide) ?_
                              refine lv_iload hx hb dL_thin_223 (lv_at hl 4 rfl) ?_
                              refine k_iadd hx hb dL_thin_225 ?_
                              refine k_iald hx hb hK hW (kc_9 g ad t) (28 + k) rfl (by omega) (by decide) dL_thin_226 ?_
                              refine k_toi (y := nI (sz k)) (hsz k (by omega)) ?_
                              refine lv_iconst (v := nI 1) hx hb dL_thin_227 (by decide) ?_
                              refine k_iadd hx hb dL_thin_228 ?_
                              refine lv_goto (tgt := 233) hx hb dL_thin_229 (by decide) ?_
                              refine k_iadd hx hb dL_thin_233 ?_
                              refine lv_istore_n (lv' := [(3, .int (nI (sp + ((sz k) + 1)))), (0, .ref (ad 9 0)), (1, .ref (ad 12 0)), (5, .int (kB Km)), (6, .int (nI k))]) hx hb dL_thin_234 rfl hl (by decide) rfl (fun ls hl => ?_)
                              refine lv_iinc (v := nI (k + 1)) (lv' := [(6, .int (nI (k + 1))), (3, .int (nI (sp + ((sz k) + 1)))), (0, .ref (ad 9 0)), (1, .ref (ad 12 0)), (5, .int (kB Km))]) hx hb dL_thin_235 hl (k := 4) rfl (nI_add _ _) (by decide) rfl (fun ls hl => ?_)
                              refine lv_goto (tgt := 189) hx hb dL_thin_238 (by decide) ?_
                              exact ih_189 (k + 1) (sp + ((sz k) + 1)) (by omega) (by omega) (by rw [k_sm_y (p := fun q => th q && !(Km q)) (by simp [h_207, h_217]), hsp]) _ _ hW hS _ (lv_sub hl [2, 3, 1, 4, 0] rfl)
                    exact hloop_189 (N + 1) 0 0 (by omega) (Nat.zero_le _) rfl _ _ hW hS _ (lv_sub hl [1, 2, 3, 5, 0] rfl)
                  · refine lv_iload hx hb dL_thin_154 (lv_at hl 4 rfl) ?_
                    refine lv_iload hx hb dL_thin_156 (lv_at hl 3 rfl) ?_
                    refine lv_iload hx hb dL_thin_158 (lv_at hl 5 rfl) ?_
                    refine lv_ishr hx hb dL_thin_160 ?_
                    refine lv_iconst (v := nI 1) hx hb dL_thin_161 (by decide) ?_
                    refine lv_iand hx hb dL_thin_162 ?_
                    refine k_toi (y := kb (Sm k)) (kB_bit Sm (by omega)) ?_
                    refine lv_iconst (v := nI 1) hx hb dL_thin_163 (by decide) ?_
                    refine k_b1_ne (tgt := 176) hx hb dL_thin_164 (by decide) (fun h_164 => ?_) (fun h_164 => ?_)
                    · refine lv_iconst (v := nI 0) hx hb dL_thin_176 (by decide) ?_
                      refine lv_ior hx hb dL_thin_177 ?_
                      refine k_toi (y := kB Km) (kB_or0 Km) ?_
                      refine lv_istore (lv' := [(5, .int (kB Km)), (0, .ref (ad 9 0)), (1, .ref (ad 12 0)), (3, .int (nI 0)), (4, .int (kB Sm)), (6, .int (nI k))]) hx hb dL_thin_178 hl (by decide) rfl (fun ls hl => ?_)
                      refine lv_iinc (v := nI (k + 1)) (lv' := [(6, .int (nI (k + 1))), (5, .int (kB Km)), (0, .ref (ad 9 0)), (1, .ref (ad 12 0)), (3, .int (nI 0)), (4, .int (kB Sm))]) hx hb dL_thin_180 hl (k := 5) rfl (nI_add _ _) (by decide) rfl (fun ls hl => ?_)
                      refine lv_goto (tgt := 146) hx hb dL_thin_183 (by decide) ?_
                      exact ih_146 (k + 1) (Km) (by omega) (by omega) (fun j => by rw [hKm j, k_nd_n (by rw [h_164, Bool.and_false])]) _ _ hW hS _ (lv_sub hl [2, 3, 4, 5, 1, 0] rfl)
                    · refine lv_aload_n hx hb dL_thin_167 rfl (lv_at hl 0 rfl) ?_
                      refine lv_iload hx hb dL_thin_168 (lv_at hl 5 rfl) ?_
                      refine k_ci (va_runS (As := [.ref (ad 9 0), .int (nI k)]) (rest := [.int (kB Km)]) ⟨hx, hb, hml, hown, hts⟩ (c_L_chain l hlt g ad t k N bs (by omega) hN9 hA.x1 hA.bs) (va_cwS 2 hts gL_thin_L_chain rfl rfl rfl (by decide +kernel) ⟨(Nat.le_of_ble_eq_true rfl), (Nat.le_of_ble_eq_true rfl)⟩) ⟨k_blind, fun U hU hw => ⟨rfl, k_I.of hK hZ hN hS hW hU hw⟩⟩ rfl rfl hl.1 rfl (lv_room (Nat.le_of_ble_eq_true rfl)) dL_thin_170 ⟨(Nat.le_of_ble_eq_true rfl), (Nat.le_of_ble_eq_true rfl)⟩) hS (fun r u H locs hpo hW hS => ?_)
                      obtain ⟨hr9, hu9⟩ := hpo; replace hu9 := hu9.symm; subst hu9; replace hr9 := hr9.symm; subst hr9
                      refine lv_goto (tgt := 177) hx hb dL_thin_173 (by decide) ?_
                      refine lv_ior hx hb dL_thin_177 ?_
                      refine k_toi (y := kB (fun j => Km j || (fun j => (k_cl bs k).contains j) j)) (kB_or Km (fun j => (k_cl bs k).contains j)) ?_
                      refine lv_istore (lv' := [(5, .int (kB (fun j => Km j || (fun j => (k_cl bs k).contains j) j))), (0, .ref (ad 9 0)), (1, .ref (ad 12 0)), (3, .int (nI 0)), (4, .int (kB Sm)), (6, .int (nI k))]) hx hb dL_thin_178 hl (by decide) rfl (fun ls hl => ?_)
                      refine lv_iinc (v := nI (k + 1)) (lv' := [(6, .int (nI (k + 1))), (5, .int (kB (fun j => Km j || (fun j => (k_cl bs k).contains j) j))), (0, .ref (ad 9 0)), (1, .ref (ad 12 0)), (3, .int (nI 0)), (4, .int (kB Sm))]) hx hb dL_thin_180 hl (k := 5) rfl (nI_add _ _) (by decide) rfl (fun ls hl => ?_)
                      refine lv_goto (tgt := 146) hx hb dL_thin_183 (by decide) ?_
                      exact ih_146 (k + 1) (fun j => Km j || (fun j => (k_cl bs k).contains j) j) (by omega) (by omega) (fun j => by show (Km j || _) = _; rw [hKm j, k_nd_y rfl h_164]) _ _ hW hS _ (lv_sub hl [2, 3, 4, 5, 1, 0] rfl)
              exact hloop_146 (N + 1) 0 (fun _ => false) (by omega) (Nat.zero_le _) (fun j => rfl) _ _ hW hS _ (lv_sub hl [2, 3, 5, 6, 1, 0] rfl)
            · refine lv_aload_n hx hb dL_thin_67 rfl (lv_at hl 1 rfl) ?_
              refine lv_iconst (v := nI 2) hx hb dL_thin_68 (by decide) ?_
              refine k_iald hx hb hK hW (kc_12 g ad t) 2 rfl (by omega) (by decide) dL_thin_69 ?_
              refine k_toi (y := kB th) hA.m2 ?_
              refine lv_iload hx hb dL_thin_70 (lv_at hl 5 rfl) ?_
              refine lv_ishr hx hb dL_thin_72 ?_
              refine lv_iconst (v := nI 1) hx hb dL_thin_73 (by decide) ?_
              refine lv_iand hx hb dL_thin_74 ?_
              refine k_toi (y := kb (th k)) (kB_bit th (by omega)) ?_
              refine lv_iconst (v := nI 1) hx hb dL_thin_75 (by decide) ?_
              refine k_b1_ne (tgt := 101) hx hb dL_thin_76 (by decide) (fun h_76 => ?_) (fun h_76 => ?_)
              · refine lv_iconst (v := nI 0) hx hb dL_thin_101 (by decide) ?_
                refine lv_istore (lv' := [(6, .int (nI 0)), (0, .ref (ad 9 0)), (1, .ref (ad 12 0)), (2, .int z), (3, .int (nI 0)), (4, .int (kB Sm)), (5, .int (nI k))]) hx hb dL_thin_102 hl (by decide) rfl (fun ls hl => ?_)
                refine lv_iload hx hb dL_thin_104 (lv_at hl 5 rfl) ?_
                refine lv_aload_n hx hb dL_thin_106 rfl (lv_at hl 2 rfl) ?_
                refine lv_iconst (v := nI 2) hx hb dL_thin_107 (by decide) ?_
                refine k_iald hx hb hK hW (kc_12 g ad t) 2 rfl (by omega) (by decide) dL_thin_108 ?_
                refine k_toi (y := kB th) hA.m2 ?_
                refine lv_iload hx hb dL_thin_109 (lv_at hl 6 rfl) ?_
                refine lv_ishr hx hb dL_thin_111 ?_
                refine lv_iconst (v := nI 1) hx hb dL_thin_112 (by decide) ?_
                refine lv_iand hx hb dL_thin_113 ?_
                refine k_toi (y := kb (th k)) (kB_bit th (by omega)) ?_
                refine lv_iconst (v := nI 1) hx hb dL_thin_114 (by decide) ?_
                refine k_b1_ne (tgt := 130) hx hb dL_thin_115 (by decide) (fun h_115 => ?_) (fun h_115 => absurd h_115 (by rw [h_76]; decide))
                refine lv_iconst (v := nI 0) hx hb dL_thin_130 (by decide) ?_
                refine lv_ior hx hb dL_thin_131 ?_
                refine k_toi (y := kB Sm) (kB_or0 Sm) ?_
                refine lv_istore (lv' := [(4, .int (kB Sm)), (6, .int (nI 0)), (0, .ref (ad 9 0)), (1, .ref (ad 12 0)), (2, .int z), (3, .int (nI 0)), (5, .int (nI k))]) hx hb dL_thin_132 hl (by decide) rfl (fun ls hl => ?_)
                refine lv_iinc (v := nI (k + 1)) (lv' := [(5, .int (nI (k + 1))), (4, .int (kB Sm)), (6, .int (nI 0)), (0, .ref (ad 9 0)), (1, .ref (ad 12 0)), (2, .int z), (3, .int (nI 0))]) hx hb dL_thin_134 hl (k := 6) rfl (nI_add _ _) (by decide) rfl (fun ls hl => ?_)
                refine lv_goto (tgt := 59) hx hb dL_thin_137 (by decide) ?_
                exact ih_59 (k + 1) (Sm) (by omega) (by omega) (q_pk0 hSm (by simp [h_76])) _ _ hW hS _ (lv_sub hl [3, 4, 5, 6, 1, 0] rfl)
              · refine lv_iload hx hb dL_thin_79 (lv_at hl 4 rfl) ?_
                refine lv_iload hx hb dL_thin_81 (lv_at hl 5 rfl) ?_
                refine lv_ishr hx hb dL_thin_83 ?_
                refine lv_iconst (v := nI 1) hx hb dL_thin_84 (by decide) ?_
                refine lv_iand hx hb dL_thin_85 ?_
                refine k_toi (y := kb (Sm k)) (kB_bit Sm (by omega)) ?_
                refine k_ifz_ne (tgt := 101) hx hb dL_thin_86 (by decide) (fun h_86 => ?_) (fun h_86 => ?_)
                · refine lv_iconst (v := nI 0) hx hb dL_thin_101 (by decide) ?_
                  refine lv_istore (lv' := [(6, .int (nI 0)), (0, .ref (ad 9 0)), (1, .ref (ad 12 0)), (2, .int z), (3, .int (nI 0)), (4, .int (kB Sm)), (5, .int (nI k))]) hx hb dL_thin_102 hl (by decide) rfl (fun ls hl => ?_)
                  refine lv_iload hx hb dL_thin_104 (lv_at hl 5 rfl) ?_
                  refine lv_aload_n hx hb dL_thin_106 rfl (lv_at hl 2 rfl) ?_
                  refine lv_iconst (v := nI 2) hx hb dL_thin_107 (by decide) ?_
                  refine k_iald hx hb hK hW (kc_12 g ad t) 2 rfl (by omega) (by decide) dL_thin_108 ?_
                  refine k_toi (y := kB th) hA.m2 ?_
                  refine lv_iload hx hb dL_thin_109 (lv_at hl 6 rfl) ?_
                  refine lv_ishr hx hb dL_thin_111 ?_
                  refine lv_iconst (v := nI 1) hx hb dL_thin_112 (by decide) ?_
                  refine lv_iand hx hb dL_thin_113 ?_
                  refine k_toi (y := kb (th k)) (kB_bit th (by omega)) ?_
                  refine lv_iconst (v := nI 1) hx hb dL_thin_114 (by decide) ?_
                  refine k_b1_ne (tgt := 130) hx hb dL_thin_115 (by decide) (fun h_115 => absurd h_115 (by rw [h_76]; decide)) (fun h_115 => ?_)
                  refine lv_iload hx hb dL_thin_118 (lv_at hl 0 rfl) ?_
                  refine lv_if_ne (tgt := 130) hx hb dL_thin_120 (by decide) (fun h_120 => absurd h_120 (by decide)) (fun h_120 => ?_)
                  refine lv_iconst (v := nI 1) hx hb dL_thin_123 (by decide) ?_
                  refine lv_iload hx hb dL_thin_124 (lv_at hl 6 rfl) ?_
                  refine lv_ishl hx hb dL_thin_126 ?_
                  refine lv_goto (tgt := 131) hx hb dL_thin_127 (by decide) ?_
                  refine lv_ior hx hb dL_thin_131 ?_
                  refine k_toi (y := kB (va_up Sm k true)) (kB_set Sm (by omega)) ?_
                  refine lv_istore (lv' := [(4, .int (kB (va_up Sm k true))), (6, .int (nI 0)), (0, .ref (ad 9 0)), (1, .ref (ad 12 0)), (2, .int z), (3, .int (nI 0)), (5, .int (nI k))]) hx hb dL_thin_132 hl (by decide) rfl (fun ls hl => ?_)
                  refine lv_iinc (v := nI (k + 1)) (lv' := [(5, .int (nI (k + 1))), (4, .int (kB (va_up Sm k true))), (6, .int (nI 0)), (0, .ref (ad 9 0)), (1, .ref (ad 12 0)), (2, .int z), (3, .int (nI 0))]) hx hb dL_thin_134 hl (k := 6) rfl (nI_add _ _) (by decide) rfl (fun ls hl => ?_)
                  refine lv_goto (tgt := 59) hx hb dL_thin_137 (by decide) ?_
                  exact ih_59 (k + 1) (va_up Sm k true) (by omega) (by omega) (q_pk hSm (by simp [h_76, ← hSk, h_86])) _ _ hW hS _ (lv_sub hl [3, 4, 5, 6, 1, 0] rfl)
                · refine lv_aload_n hx hb dL_thin_89 rfl (lv_at hl 0 rfl) ?_
                  refine lv_iload hx hb dL_thin_90 (lv_at hl 5 rfl) ?_
                  refine k_iald hx hb hK hW (kc_9 g ad t) k rfl (by omega) (by decide) dL_thin_92 ?_
                  refine k_toi (y := nI (on k)) (hA.x0 k (by omega)) ?_
                  refine lv_iload_n hx hb dL_thin_93 rfl (lv_at hl 2 rfl) ?_
                  refine lv_icmp_ge (tgt := 101) hx hb dL_thin_94 (by decide) (fun h_94 => ?_) (fun h_94 => ?_)
                  · refine lv_iconst (v := nI 0) hx hb dL_thin_101 (by decide) ?_
                    refine lv_istore (lv' := [(6, .int (nI 0)), (0, .ref (ad 9 0)), (1, .ref (ad 12 0)), (2, .int z), (3, .int (nI 0)), (4, .int (kB Sm)), (5, .int (nI k))]) hx hb dL_thin_102 hl (by decide) rfl (fun ls hl => ?_)
                    refine lv_iload hx hb dL_thin_104 (lv_at hl 5 rfl) ?_
                    refine lv_aload_n hx hb dL_thin_106 rfl (lv_at hl 2 rfl) ?_
                    refine lv_iconst (v := nI 2) hx hb dL_thin_107 (by decide) ?_
                    refine k_iald hx hb hK hW (kc_12 g ad t) 2 rfl (by omega) (by decide) dL_thin_108 ?_
                    refine k_toi (y := kB th) hA.m2 ?_
                    refine lv_iload hx hb dL_thin_109 (lv_at hl 6 rfl) ?_
                    refine lv_ishr hx hb dL_thin_111 ?_
                    refine lv_iconst (v := nI 1) hx hb dL_thin_112 (by decide) ?_
                    refine lv_iand hx hb dL_thin_113 ?_
                    refine k_toi (y := kb (th k)) (kB_bit th (by omega)) ?_
                    refine lv_iconst (v := nI 1) hx hb dL_thin_114 (by decide) ?_
                    refine k_b1_ne (tgt := 130) hx hb dL_thin_115 (by decide) (fun h_115 => absurd h_115 (by rw [h_76]; decide)) (fun h_115 => ?_)
                    refine lv_iload hx hb dL_thin_118 (lv_at hl 0 rfl) ?_
                    refine lv_if_ne (tgt := 130) hx hb dL_thin_120 (by decide) (fun h_120 => absurd h_120 (by decide)) (fun h_120 => ?_)
                    refine lv_iconst (v := nI 1) hx hb dL_thin_123 (by decide) ?_
                    refine lv_iload hx hb dL_thin_124 (lv_at hl 6 rfl) ?_
                    refine lv_ishl hx hb dL_thin_126 ?_
                    refine lv_goto (tgt := 131) hx hb dL_thin_127 (by decide) ?_
                    refine lv_ior hx hb dL_thin_131 ?_
                    refine k_toi (y := kB (va_up Sm k true)) (kB_set Sm (by omega)) ?_
                    refine lv_istore (lv' := [(4, .int (kB (va_up Sm k true))), (6, .int (nI 0)), (0, .ref (ad 9 0)), (1, .ref (ad 12 0)), (2, .int z), (3, .int (nI 0)), (5, .int (nI k))]) hx hb dL_thin_132 hl (by decide) rfl (fun ls hl => ?_)
                    refine lv_iinc (v := nI (k + 1)) (lv' := [(5, .int (nI (k + 1))), (4, .int (kB (va_up Sm k true))), (6, .int (nI 0)), (0, .ref (ad 9 0)), (1, .ref (ad 12 0)), (2, .int z), (3, .int (nI 0))]) hx hb dL_thin_134 hl (k := 6) rfl (nI_add _ _) (by decide) rfl (fun ls hl => ?_)
                    refine lv_goto (tgt := 59) hx hb dL_thin_137 (by decide) ?_
                    exact ih_59 (k + 1) (va_up Sm k true) (by omega) (by omega) (q_pk hSm (by simp only [h_76, ← hSk, h_86, decide_eq_false (Int32.not_lt.mpr h_94)]; rfl)) _ _ hW hS _ (lv_sub hl [3, 4, 5, 6, 1, 0] rfl)
                  · refine lv_iconst (v := nI 1) hx hb dL_thin_97 (by decide) ?_
                    refine lv_goto (tgt := 102) hx hb dL_thin_98 (by decide) ?_
                    refine lv_istore (lv' := [(6, .int (nI 1)), (0, .ref (ad 9 0)), (1, .ref (ad 12 0)), (2, .int z), (3, .int (nI 0)), (4, .int (kB Sm)), (5, .int (nI k))]) hx hb dL_thin_102 hl (by decide) rfl (fun ls hl => ?_)
                    refine lv_iload hx hb dL_thin_104 (lv_at hl 5 rfl) ?_
                    refine lv_aload_n hx hb dL_thin_106 rfl (lv_at hl 2 rfl) ?_
                    refine lv_iconst (v := nI 2) hx hb dL_thin_107 (by decide) ?_
                    refine k_iald hx hb hK hW (kc_12 g ad t) 2 rfl (by omega) (by decide) dL_thin_108 ?_
                    refine k_toi (y := kB th) hA.m2 ?_
                    refine lv_iload hx hb dL_thin_109 (lv_at hl 6 rfl) ?_
                    refine lv_ishr hx hb dL_thin_111 ?_
                    refine lv_iconst (v := nI 1) hx hb dL_thin_112 (by decide) ?_
                    refine lv_iand hx hb dL_thin_113 ?_
                    refine k_toi (y := kb (th k)) (kB_bit th (by omega)) ?_
                    refine lv_iconst (v := nI 1) hx hb dL_thin_114 (by decide) ?_
                    refine k_b1_ne (tgt := 130) hx hb dL_thin_115 (by decide) (fun h_115 => absurd h_115 (by rw [h_76]; decide)) (fun h_115 => ?_)
                    refine lv_iload hx hb dL_thin_118 (lv_at hl 0 rfl) ?_
                    refine lv_if_ne (tgt := 130) hx hb dL_thin_120 (by decide) (fun h_120 => ?_) (fun h_120 => absurd h_120 (by decide))
                    refine lv_iconst (v := nI 0) hx hb dL_thin_130 (by decide) ?_
                    refine lv_ior hx hb dL_thin_131 ?_
                    refine k_toi (y := kB Sm) (kB_or0 Sm) ?_
                    refine lv_istore (lv' := [(4, .int (kB Sm)), (6, .int (nI 1)), (0, .ref (ad 9 0)), (1, .ref (ad 12 0)), (2, .int z), (3, .int (nI 0)), (5, .int (nI k))]) hx hb dL_thin_132 hl (by decide) rfl (fun ls hl => ?_)
                    refine lv_iinc (v := nI (k + 1)) (lv' := [(5, .int (nI (k + 1))), (4, .int (kB Sm)), (6, .int (nI 1)), (0, .ref (ad 9 0)), (1, .ref (ad 12 0)), (2, .int z), (3, .int (nI 0))]) hx hb dL_thin_134 hl (k := 6) rfl (nI_add _ _) (by decide) rfl (fun ls hl => ?_)
                    refine lv_goto (tgt := 59) hx hb dL_thin_137 (by decide) ?_
                    exact ih_59 (k + 1) (Sm) (by omega) (by omega) (q_pk0 hSm (by simp only [h_76, ← hSk, h_86, decide_eq_true (Int32.not_le.mp h_94)]; rfl)) _ _ hW hS _ (lv_sub hl [3, 4, 5, 6, 1, 0] rfl)
        exact hloop_59 (N + 1) 0 (k_nd th (k_P th on N r1 r2 r3) bs N) (by omega) (Nat.zero_le _) q_pk_in _ _ hW hS _ (lv_sub hl [1, 2, 3, 4, 5, 0] rfl)
      · refine lv_aload_n hx hb dL_thin_22 rfl (lv_at hl 1 rfl) ?_
        refine lv_iconst (v := nI 2) hx hb dL_thin_23 (by decide) ?_
        refine k_iald hx hb hK hW (kc_12 g ad t) 2 rfl (by omega) (by decide) dL_thin_24 ?_
        refine k_toi (y := kB th) hA.m2 ?_
        refine lv_iload hx hb dL_thin_25 (lv_at hl 5 rfl) ?_
        refine lv_ishr hx hb dL_thin_27 ?_
        refine lv_aload_n hx hb dL_thin_28 rfl (lv_at hl 1 rfl) ?_
        refine lv_iconst (v := nI 4) hx hb dL_thin_29 (by decide) ?_
        refine k_iald hx hb hK hW (kc_12 g ad t) 4 rfl (by omega) (by decide) dL_thin_30 ?_
        refine k_toi (y := kB pv) h4 ?_
        refine lv_iload hx hb dL_thin_31 (lv_at hl 5 rfl) ?_
        refine lv_ishr hx hb dL_thin_33 ?_
        refine lv_iand hx hb dL_thin_34 ?_
        refine lv_iconst (v := nI 1) hx hb dL_thin_35 (by decide) ?_
        refine lv_iand hx hb dL_thin_36 ?_
        refine k_toi (y := kb (th k && pv k)) (kB_bit2 th pv (by omega)) ?_
        refine lv_iconst (v := nI 1) hx hb dL_thin_37 (by decide) ?_
        refine k_b1_ne (tgt := 48) hx hb dL_thin_38 (by decide) (fun h_38 => ?_) (fun h_38 => ?_)
        · refine lv_iload_n hx hb dL_thin_48 rfl (lv_at hl 2 rfl) ?_
          refine lv_istore_n (lv' := [(2, .int z), (0, .ref (ad 9 0)), (1, .ref (ad 12 0)), (3, .int (nI 0)), (4, .int (kB (k_nd th (k_P th on N r1 r2 r3) bs N))), (5, .int (nI k))]) hx hb dL_thin_49 rfl hl (by decide) rfl (fun ls hl => ?_)
          refine lv_iinc (v := nI (k + 1)) (lv' := [(5, .int (nI (k + 1))), (2, .int z), (0, .ref (ad 9 0)), (1, .ref (ad 12 0)), (3, .int (nI 0)), (4, .int (kB (k_nd th (k_P th on N r1 r2 r3) bs N)))]) hx hb dL_thin_50 hl (k := 5) rfl (nI_add _ _) (by decide) rfl (fun ls hl => ?_)
          refine lv_goto (tgt := 14) hx hb dL_thin_53 (by decide) ?_
          exact ih (k + 1) (z) (by omega) (by omega) (by rw [hz, q_pf, if_neg (by rw [h_38]; decide)]) _ _ hW hS _ (lv_sub hl [2, 3, 1, 4, 5, 0] rfl)
        · refine lv_aload_n hx hb dL_thin_41 rfl (lv_at hl 0 rfl) ?_
          refine lv_iload hx hb dL_thin_42 (lv_at hl 5 rfl) ?_
          refine k_iald hx hb hK hW (kc_9 g ad t) k rfl (by omega) (by decide) dL_thin_44 ?_
          refine k_toi (y := nI (on k)) (hA.x0 k (by omega)) ?_
          refine lv_goto (tgt := 49) hx hb dL_thin_45 (by decide) ?_
          refine lv_istore_n (lv' := [(2, .int (nI (on k))), (0, .ref (ad 9 0)), (1, .ref (ad 12 0)), (3, .int (nI 0)), (4, .int (kB (k_nd th (k_P th on N r1 r2 r3) bs N))), (5, .int (nI k))]) hx hb dL_thin_49 rfl hl (by decide) rfl (fun ls hl => ?_)
          refine lv_iinc (v := nI (k + 1)) (lv' := [(5, .int (nI (k + 1))), (2, .int (nI (on k))), (0, .ref (ad 9 0)), (1, .ref (ad 12 0)), (3, .int (nI 0)), (4, .int (kB (k_nd th (k_P th on N r1 r2 r3) bs N)))]) hx hb dL_thin_50 hl (k := 5) rfl (nI_add _ _) (by decide) rfl (fun ls hl => ?_)
          refine lv_goto (tgt := 14) hx hb dL_thin_53 (by decide) ?_
          exact ih (k + 1) (nI (on k)) (by omega) (by omega) (by rw [q_pf, if_pos h_38]) _ _ hW hS _ (lv_sub hl [2, 3, 1, 4, 5, 0] rfl)
  exact hloop_14 (N + 1) 0 (-1) (by omega) (Nat.zero_le _) rfl _ _ hW hS _ (lv_sub hl [4, 5, 3, 2, 1, 0] rfl)
