set_option maxRecDepth 100000 in
set_option maxHeartbeats 4000000 in
theorem c_L_acts_drillno (l : Launch) (hlt : l.stackTraces = false) (g : k_g) (ad : k_AD) (t : k_T) (e9 : Nat) (wy : Nat) (z : Nat) (cp : Nat) (hJ : q_J e9 t) (he : e9 ≤ 190) (hw1 : 12 ≤ wy) (hw2 : wy < 14) (hzz : z < 10000000) (hcp : z % (s_md t + 1) = cp) (hs : s_th t cp = false) : Met l yL_acts wsL_acts rm_L_acts (va_Pc [.ref (ad 0 0), .ref (ad 9 0), .ref (ad 10 0), .ref (ad 11 0), .ref (ad 12 0), .ref (ad 13 0), .int (nI wy), .int (nI z)] (k_I g (k_ct g ad t) ad)) (va_Qi (S := k_T × k_AD) (fun r u => r = nI 1 ∧ q_J (e9 + 1) u.1 ∧ ∀ a b, a ≠ 25 → a ≠ 26 → u.2 a b = ad a b) (fun u U => k_H g u.2 u.1 U.heap) (k_A g)) 24 171 (k_A g) := by
  refine k_met (cc := cL_acts) (maxL := 15) (ret := (some .boolean)) (by decide) rfl (Nat.le_of_ble_eq_true rfl) (fun p e s m args below meth c Q ls hQ hx hb hr hml hts hown hlk hin hK hZ hN hW hS hl => ?_)
  have hown : s.vm.findClass RL = some m.cls := hown
  have hW : k_H g ad t s.heap := hW
  have hl : lv_has ls 15 [(0, .ref (ad 0 0)), (1, .ref (ad 9 0)), (2, .ref (ad 10 0)), (3, .ref (ad 11 0)), (4, .ref (ad 12 0)), (5, .ref (ad 13 0)), (6, .int (nI wy)), (7, .int (nI z))] := hl
  have hm14 := hJ.m14
  have hd58 := hJ.d58
  have hcl : cp ≤ s_md t := by rw [← hcp]; exact Nat.lt_succ_iff.mp (Nat.mod_lt _ (Nat.succ_pos _))
  refine lv_iload hx hb dL_acts_0 (lv_at hl 6 rfl) ?_
  refine lv_iconst (v := nI 5) hx hb dL_acts_2 (by decide) ?_
  refine k_icmp_ge (tgt := 97) hx hb (a := wy) (b := 5) (by omega) (by decide) dL_acts_3 (by decide) (fun h_3 => ?_) (fun h_3 => absurd h_3 (by omega))
  refine lv_iload hx hb dL_acts_97 (lv_at hl 6 rfl) ?_
  refine lv_bipush (v := nI 8) hx hb dL_acts_99 (by decide) ?_
  refine k_icmp_ge (tgt := 181) hx hb (a := wy) (b := 8) (by omega) (by decide) dL_acts_101 (by decide) (fun h_101 => ?_) (fun h_101 => absurd h_101 (by omega))
  refine lv_iload hx hb dL_acts_181 (lv_at hl 6 rfl) ?_
  refine lv_bipush (v := nI 12) hx hb dL_acts_183 (by decide) ?_
  refine k_icmp_ge (tgt := 227) hx hb (a := wy) (b := 12) (by omega) (by decide) dL_acts_185 (by decide) (fun h_185 => ?_) (fun h_185 => absurd h_185 (by omega))
  refine lv_iload hx hb dL_acts_227 (lv_at hl 7 rfl) ?_
  refine lv_aload hx hb dL_acts_229 (lv_at hl 4 rfl) ?_
  refine lv_iconst (v := nI 0) hx hb dL_acts_231 (by decide) ?_
  refine k_iald hx hb hK hW (kc_12 g ad t) 0 rfl (by omega) (by decide) dL_acts_232 ?_
  refine k_toi (y := nI (s_md t)) hJ.wm0 ?_
  refine lv_iconst (v := nI 1) hx hb dL_acts_233 (by decide) ?_
  refine k_iadd hx hb dL_acts_234 ?_
  refine lv_irem hx hb dL_acts_235 (fun q => by have := (nI_eq (a := (s_md t) + 1) (b := 0) (by omega) (by decide)).mp q; omega) ?_
  refine k_toi (pk_rem (by omega) (by omega) (by omega)) ?_
  refine k_toi (y := nI cp) (congrArg nI hcp) ?_
  refine lv_istore (lv' := [(8, .int (nI cp)), (0, .ref (ad 0 0)), (1, .ref (ad 9 0)), (2, .ref (ad 10 0)), (3, .ref (ad 11 0)), (4, .ref (ad 12 0)), (5, .ref (ad 13 0)), (6, .int (nI wy)), (7, .int (nI z))]) hx hb dL_acts_236 hl (by decide) rfl (fun ls hl => ?_)
  refine lv_iload hx hb dL_acts_238 (lv_at hl 0 rfl) ?_
  refine lv_aload hx hb dL_acts_240 (lv_at hl 5 rfl) ?_
  refine lv_iconst (v := nI 0) hx hb dL_acts_242 (by decide) ?_
  refine k_iald hx hb hK hW (kc_12 g ad t) 0 rfl (by omega) (by decide) dL_acts_243 ?_
  refine k_toi (y := nI (s_md t)) hJ.wm0 ?_
  refine k_icmp_ge (tgt := 264) hx hb (a := cp) (b := s_md t) (by omega) (by omega) dL_acts_244 (by decide) (fun h_244 => ?_) (fun h_244 => ?_)
  · refine lv_iconst (v := nI 0) hx hb dL_acts_264 (by decide) ?_
    refine lv_istore (lv' := [(9, .int (nI 0)), (8, .int (nI cp)), (0, .ref (ad 0 0)), (1, .ref (ad 9 0)), (2, .ref (ad 10 0)), (3, .ref (ad 11 0)), (4, .ref (ad 12 0)), (5, .ref (ad 13 0)), (6, .int (nI wy)), (7, .int (nI z))]) hx hb dL_acts_265 hl (by decide) rfl (fun ls hl => ?_)
    refine lv_iload hx hb dL_acts_267 (lv_at hl 8 rfl) ?_
    refine lv_bipush (v := nI 14) hx hb dL_acts_269 (by decide) ?_
    refine k_icmp_ge (tgt := 391) hx hb (a := wy) (b := 14) (by omega) (by decide) dL_acts_271 (by decide) (fun h_271 => absurd h_271 (by omega)) (fun h_271 => ?_)
    refine lv_iload hx hb dL_acts_274 (lv_at hl 0 rfl) ?_
    refine lv_if_eq (tgt := 297) hx hb dL_acts_276 (by decide) (fun h_276 => ?_) (fun h_276 => absurd h_276 (by decide))
    refine lv_iconst (v := nI 0) hx hb dL_acts_297 (by decide) ?_
    refine lv_istore (lv' := [(10, .int (nI 0)), (9, .int (nI 0)), (8, .int (nI cp)), (0, .ref (ad 0 0)), (1, .ref (ad 9 0)), (2, .ref (ad 10 0)), (3, .ref (ad 11 0)), (4, .ref (ad 12 0)), (5, .ref (ad 13 0)), (6, .int (nI wy)), (7, .int (nI z))]) hx hb dL_acts_298 hl (by decide) rfl (fun ls hl => ?_)
    refine lv_aload hx hb dL_acts_300 (lv_at hl 7 rfl) ?_
    refine lv_iconst (v := nI 4) hx hb dL_acts_302 (by decide) ?_
    refine lv_iload hx hb dL_acts_303 (lv_at hl 1 rfl) ?_
    refine lv_if_ne (tgt := 315) hx hb dL_acts_305 (by decide) (fun h_305 => absurd h_305 (by decide)) (fun h_305 => ?_)
    refine lv_aload hx hb dL_acts_308 (lv_at hl 7 rfl) ?_
    refine lv_iconst (v := nI 4) hx hb dL_acts_310 (by decide) ?_
    refine k_iald hx hb hK hW (kc_12 g ad t) 4 rfl (by omega) (by decide) dL_acts_311 ?_
    refine k_toi (y := kB (o_pv t)) hJ.wm4 ?_
    refine lv_goto (tgt := 347) hx hb dL_acts_312 (by decide) ?_
    refine k_iast hx hb hK hW hS (kc_12 g ad t) 4 rfl (by omega) (by decide) dL_acts_347 (fun H locs hW hS => ?_)
    have hW : k_H g ad (set_w_m t (va_up (w_m t) 4 (kB (o_pv t)))) H := kt_w_m (t := t) 4 (kB (o_pv t)) rfl hW
    refine lv_aload_n hx hb dL_acts_348 rfl (lv_at hl 3 rfl) ?_
    refine lv_iload hx hb dL_acts_349 (lv_at hl 2 rfl) ?_
    refine k_ci (lw_va (vx_runSX (As := [.ref (ad 0 0), .int (nI cp)]) (rest := []) ⟨hx, hb, hml, hown, hts⟩ (cw_drill_b l hlt g ad (set_w_m t (va_up (w_m t) 4 (kB (o_pv t)))) (nI cp) (Or.inr (Or.inr ⟨cp, by omega, rfl, hs⟩))) (vx_cwSW 2 hts gL_acts_L_drilled rfl rfl rfl (by decide +kernel) ⟨(Nat.le_of_ble_eq_true rfl), (Nat.le_of_ble_eq_true rfl)⟩) ⟨k_blind, fun U hU hw => ⟨rfl, k_I.of hK hZ hN hS hW hU hw⟩⟩ rfl rfl hl.1 rfl (lv_room (Nat.le_of_ble_eq_true rfl)) dL_acts_351 ⟨(Nat.le_of_ble_eq_true rfl), (Nat.le_of_ble_eq_true rfl)⟩)) hS (fun r u H locs hpo hW hS => ?_)
    obtain ⟨hr9, hu9⟩ := hpo; replace hu9 := hu9.symm; subst hu9; replace hr9 := hr9.symm; subst hr9
    refine lv_iload hx hb dL_acts_354 (lv_at hl 1 rfl) ?_
    refine lv_if_ne (tgt := 364) hx hb dL_acts_356 (by decide) (fun h_356 => absurd h_356 (by decide)) (fun h_356 => ?_)
    refine lv_bipush (v := (-5)) hx hb dL_acts_359 (by decide) ?_
    refine lv_goto (tgt := 382) hx hb dL_acts_361 (by decide) ?_
    refine lv_icmp_ne (tgt := 389) hx hb dL_acts_382 (by decide) (fun h_382 => absurd rfl h_382) (fun h_382 => ?_)
    refine lv_iconst (v := nI 1) hx hb dL_acts_385 (by decide) ?_
    refine lv_goto (tgt := 390) hx hb dL_acts_386 (by decide) ?_
    exact k_rzA hQ hx hb hr rfl hlk hS hW ⟨rfl, (hJ.wm (fun i _ => q_same hJ.wm4.symm i)).mono (Nat.le_succ _), (fun _ _ _ _ => rfl)⟩ (Nat.le_of_ble_eq_true rfl) (Nat.le_of_ble_eq_true rfl) dL_acts_390
  · refine lv_aload hx hb dL_acts_247 (lv_at hl 5 rfl) ?_
    refine lv_iconst (v := nI 2) hx hb dL_acts_249 (by decide) ?_
    refine k_iald hx hb hK hW (kc_12 g ad t) 2 rfl (by omega) (by decide) dL_acts_250 ?_
    refine k_toi (y := kB (s_th t)) hJ.wm2 ?_
    refine lv_iload hx hb dL_acts_251 (lv_at hl 0 rfl) ?_
    refine lv_ishr hx hb dL_acts_253 ?_
    refine lv_iconst (v := nI 1) hx hb dL_acts_254 (by decide) ?_
    refine lv_iand hx hb dL_acts_255 ?_
    refine k_toi (y := kb ((s_th t) cp)) (kB_bit (s_th t) (by omega)) ?_
    refine lv_iconst (v := nI 1) hx hb dL_acts_256 (by decide) ?_
    refine k_b1_ne (tgt := 264) hx hb dL_acts_257 (by decide) (fun h_257 => ?_) (fun h_257 => absurd h_257 (by rw [hs]; decide))
    refine lv_iconst (v := nI 0) hx hb dL_acts_264 (by decide) ?_
    refine lv_istore (lv' := [(9, .int (nI 0)), (8, .int (nI cp)), (0, .ref (ad 0 0)), (1, .ref (ad 9 0)), (2, .ref (ad 10 0)), (3, .ref (ad 11 0)), (4, .ref (ad 12 0)), (5, .ref (ad 13 0)), (6, .int (nI wy)), (7, .int (nI z))]) hx hb dL_acts_265 hl (by decide) rfl (fun ls hl => ?_)
    refine lv_iload hx hb dL_acts_267 (lv_at hl 8 rfl) ?_
    refine lv_bipush (v := nI 14) hx hb dL_acts_269 (by decide) ?_
    refine k_icmp_ge (tgt := 391) hx hb (a := wy) (b := 14) (by omega) (by decide) dL_acts_271 (by decide) (fun h_271 => absurd h_271 (by omega)) (fun h_271 => ?_)
    refine lv_iload hx hb dL_acts_274 (lv_at hl 0 rfl) ?_
    refine lv_if_eq (tgt := 297) hx hb dL_acts_276 (by decide) (fun h_276 => ?_) (fun h_276 => absurd h_276 (by decide))
    refine lv_iconst (v := nI 0) hx hb dL_acts_297 (by decide) ?_
    refine lv_istore (lv' := [(10, .int (nI 0)), (9, .int (nI 0)), (8, .int (nI cp)), (0, .ref (ad 0 0)), (1, .ref (ad 9 0)), (2, .ref (ad 10 0)), (3, .ref (ad 11 0)), (4, .ref (ad 12 0)), (5, .ref (ad 13 0)), (6, .int (nI wy)), (7, .int (nI z))]) hx hb dL_acts_298 hl (by decide) rfl (fun ls hl => ?_)
    refine lv_aload hx hb dL_acts_300 (lv_at hl 7 rfl) ?_
    refine lv_iconst (v := nI 4) hx hb dL_acts_302 (by decide) ?_
    refine lv_iload hx hb dL_acts_303 (lv_at hl 1 rfl) ?_
    refine lv_if_ne (tgt := 315) hx hb dL_acts_305 (by decide) (fun h_305 => absurd h_305 (by decide)) (fun h_305 => ?_)
    refine lv_aload hx hb dL_acts_308 (lv_at hl 7 rfl) ?_
    refine lv_iconst (v := nI 4) hx hb dL_acts_310 (by decide) ?_
    refine k_iald hx hb hK hW (kc_12 g ad t) 4 rfl (by omega) (by decide) dL_acts_311 ?_
    refine k_toi (y := kB (o_pv t)) hJ.wm4 ?_
    refine lv_goto (tgt := 347) hx hb dL_acts_312 (by decide) ?_
    refine k_iast hx hb hK hW hS (kc_12 g ad t) 4 rfl (by omega) (by decide) dL_acts_347 (fun H locs hW hS => ?_)
    have hW : k_H g ad (set_w_m t (va_up (w_m t) 4 (kB (o_pv t)))) H := kt_w_m (t := t) 4 (kB (o_pv t)) rfl hW
    refine lv_aload_n hx hb dL_acts_348 rfl (lv_at hl 3 rfl) ?_
    refine lv_iload hx hb dL_acts_349 (lv_at hl 2 rfl) ?_
    refine k_ci (lw_va (vx_runSX (As := [.ref (ad 0 0), .int (nI cp)]) (rest := []) ⟨hx, hb, hml, hown, hts⟩ (cw_drill_b l hlt g ad (set_w_m t (va_up (w_m t) 4 (kB (o_pv t)))) (nI cp) (Or.inr (Or.inr ⟨cp, by omega, rfl, hs⟩))) (vx_cwSW 2 hts gL_acts_L_drilled rfl rfl rfl (by decide +kernel) ⟨(Nat.le_of_ble_eq_true rfl), (Nat.le_of_ble_eq_true rfl)⟩) ⟨k_blind, fun U hU hw => ⟨rfl, k_I.of hK hZ hN hS hW hU hw⟩⟩ rfl rfl hl.1 rfl (lv_room (Nat.le_of_ble_eq_true rfl)) dL_acts_351 ⟨(Nat.le_of_ble_eq_true rfl), (Nat.le_of_ble_eq_true rfl)⟩)) hS (fun r u H locs hpo hW hS => ?_)
    obtain ⟨hr9, hu9⟩ := hpo; replace hu9 := hu9.symm; subst hu9; replace hr9 := hr9.symm; subst hr9
    refine lv_iload hx hb dL_acts_354 (lv_at hl 1 rfl) ?_
    refine lv_if_ne (tgt := 364) hx hb dL_acts_356 (by decide) (fun h_356 => absurd h_356 (by decide)) (fun h_356 => ?_)
    refine lv_bipush (v := (-5)) hx hb dL_acts_359 (by decide) ?_
    refine lv_goto (tgt := 382) hx hb dL_acts_361 (by decide) ?_
    refine lv_icmp_ne (tgt := 389) hx hb dL_acts_382 (by decide) (fun h_382 => absurd rfl h_382) (fun h_382 => ?_)
    refine lv_iconst (v := nI 1) hx hb dL_acts_385 (by decide) ?_
    refine lv_goto (tgt := 390) hx hb dL_acts_386 (by decide) ?_
    exact k_rzA hQ hx hb hr rfl hlk hS hW ⟨rfl, (hJ.wm (fun i _ => q_same hJ.wm4.symm i)).mono (Nat.le_succ _), (fun _ _ _ _ => rfl)⟩ (Nat.le_of_ble_eq_true rfl) (Nat.le_of_ble_eq_true rfl) dL_acts_390
set_option maxRecDepth 100000 in
set_option maxHeartbeats 4000000 in
theorem c_L_acts_drillbad (l : Launch) (hlt : l.stackTraces = false) (g : k_g) (ad : k_AD) (t : k_T) (e9 : Nat) (wy : Nat) (z : Nat) (cp : Nat) (hJ : q_J e9 t) (he : e9 ≤ 190) (hw1 : 12 ≤ wy) (hw2 : wy < 14) (hzz : z < 10000000) (hcp : z % (s_md t + 1) = cp) (hs : s_th t cp = true) (hany : (k_cl (o_b t) cp).any (o_dm t) = true) : Met l yL_acts wsL_acts rm_L_acts (va_Pc [.ref (ad 0 0), .ref (ad 9 0), .ref (ad 10 0), .ref (ad 11 0), .ref (ad 12 0), .ref (ad 13 0), .int (nI wy), .int (nI z)] (k_I g (k_ct g ad t) ad)) (va_Qi (S := k_T × k_AD) (fun r u => r = nI 1 ∧ q_J (e9 + 1) u.1 ∧ ∀ a b, a ≠ 25 → a ≠ 26 → u.2 a b = ad a b) (fun u U => k_H g u.2 u.1 U.heap) (k_A g)) 24 171 (k_A g) := by
  refine k_met (cc := cL_acts) (maxL := 15) (ret := (some .boolean)) (by decide) rfl (Nat.le_of_ble_eq_true rfl) (fun p e s m args below meth c Q ls hQ hx hb hr hml hts hown hlk hin hK hZ hN hW hS hl => ?_)
  have hown : s.vm.findClass RL = some m.cls := hown
  have hW : k_H g ad t s.heap := hW
  have hl : lv_has ls 15 [(0, .ref (ad 0 0)), (1, .ref (ad 9 0)), (2, .ref (ad 10 0)), (3, .ref (ad 11 0)), (4, .ref (ad 12 0)), (5, .ref (ad 13 0)), (6, .int (nI wy)), (7, .int (nI z))] := hl
  have hm14 := hJ.m14
  have hd58 := hJ.d58
  have hcl : cp ≤ s_md t := by rw [← hcp]; exact Nat.lt_succ_iff.mp (Nat.mod_lt _ (Nat.succ_pos _))
  have hcm := hJ.wf cp hs
  refine lv_iload hx hb dL_acts_0 (lv_at hl 6 rfl) ?_
  refine lv_iconst (v := nI 5) hx hb dL_acts_2 (by decide) ?_
  refine k_icmp_ge (tgt := 97) hx hb (a := wy) (b := 5) (by omega) (by decide) dL_acts_3 (by decide) (fun h_3 => ?_) (fun h_3 => absurd h_3 (by omega))
  refine lv_iload hx hb dL_acts_97 (lv_at hl 6 rfl) ?_
  refine lv_bipush (v := nI 8) hx hb dL_acts_99 (by decide) ?_
  refine k_icmp_ge (tgt := 181) hx hb (a := wy) (b := 8) (by omega) (by decide) dL_acts_101 (by decide) (fun h_101 => ?_) (fun h_101 => absurd h_101 (by omega))
  refine lv_iload hx hb dL_acts_181 (lv_at hl 6 rfl) ?_
  refine lv_bipush (v := nI 12) hx hb dL_acts_183 (by decide) ?_
  refine k_icmp_ge (tgt := 227) hx hb (a := wy) (b := 12) (by omega) (by decide) dL_acts_185 (by decide) (fun h_185 => ?_) (fun h_185 => absurd h_185 (by omega))
  refine lv_iload hx hb dL_acts_227 (lv_at hl 7 rfl) ?_
  refine lv_aload hx hb dL_acts_229 (lv_at hl 4 rfl) ?_
  refine lv_iconst (v := nI 0) hx hb dL_acts_231 (by decide) ?_
  refine k_iald hx hb hK hW (kc_12 g ad t) 0 rfl (by omega) (by decide) dL_acts_232 ?_
  refine k_toi (y := nI (s_md t)) hJ.wm0 ?_
  refine lv_iconst (v := nI 1) hx hb dL_acts_233 (by decide) ?_
  refine k_iadd hx hb dL_acts_234 ?_
  refine lv_irem hx hb dL_acts_235 (fun q => by have := (nI_eq (a := (s_md t) + 1) (b := 0) (by omega) (by decide)).mp q; omega) ?_
  refine k_toi (pk_rem (by omega) (by omega) (by omega)) ?_
  refine k_toi (y := nI cp) (congrArg nI hcp) ?_
  refine lv_istore (lv' := [(8, .int (nI cp)), (0, .ref (ad 0 0)), (1, .ref (ad 9 0)), (2, .ref (ad 10 0)), (3, .ref (ad 11 0)), (4, .ref (ad 12 0)), (5, .ref (ad 13 0)), (6, .int (nI wy)), (7, .int (nI z))]) hx hb dL_acts_236 hl (by decide) rfl (fun ls hl => ?_)
  refine lv_iload hx hb dL_acts_238 (lv_at hl 0 rfl) ?_
  refine lv_aload hx hb dL_acts_240 (lv_at hl 5 rfl) ?_
  refine lv_iconst (v := nI 0) hx hb dL_acts_242 (by decide) ?_
  refine k_iald hx hb hK hW (kc_12 g ad t) 0 rfl (by omega) (by decide) dL_acts_243 ?_
  refine k_toi (y := nI (s_md t)) hJ.wm0 ?_
  refine k_icmp_ge (tgt := 264) hx hb (a := cp) (b := s_md t) (by omega) (by omega) dL_acts_244 (by decide) (fun h_244 => absurd h_244 (by omega)) (fun h_244 => ?_)
  refine lv_aload hx hb dL_acts_247 (lv_at hl 5 rfl) ?_
  refine lv_iconst (v := nI 2) hx hb dL_acts_249 (by decide) ?_
  refine k_iald hx hb hK hW (kc_12 g ad t) 2 rfl (by omega) (by decide) dL_acts_250 ?_
  refine k_toi (y := kB (s_th t)) hJ.wm2 ?_
  refine lv_iload hx hb dL_acts_251 (lv_at hl 0 rfl) ?_
  refine lv_ishr hx hb dL_acts_253 ?_
  refine lv_iconst (v := nI 1) hx hb dL_acts_254 (by decide) ?_
  refine lv_iand hx hb dL_acts_255 ?_
  refine k_toi (y := kb ((s_th t) cp)) (kB_bit (s_th t) (by omega)) ?_
  refine lv_iconst (v := nI 1) hx hb dL_acts_256 (by decide) ?_
  refine k_b1_ne (tgt := 264) hx hb dL_acts_257 (by decide) (fun h_257 => absurd h_257 (by rw [hs]; decide)) (fun h_257 => ?_)
  refine lv_iconst (v := nI 1) hx hb dL_acts_260 (by decide) ?_
  refine lv_goto (tgt := 265) hx hb dL_acts_261 (by decide) ?_
  refine lv_istore (lv' := [(9, .int (nI 1)), (8, .int (nI cp)), (0, .ref (ad 0 0)), (1, .ref (ad 9 0)), (2, .ref (ad 10 0)), (3, .ref (ad 11 0)), (4, .ref (ad 12 0)), (5, .ref (ad 13 0)), (6, .int (nI wy)), (7, .int (nI z))]) hx hb dL_acts_265 hl (by decide) rfl (fun ls hl => ?_)
  refine lv_iload hx hb dL_acts_267 (lv_at hl 8 rfl) ?_
  refine lv_bipush (v := nI 14) hx hb dL_acts_269 (by decide) ?_
  refine k_icmp_ge (tgt := 391) hx hb (a := wy) (b := 14) (by omega) (by decide) dL_acts_271 (by decide) (fun h_271 => absurd h_271 (by omega)) (fun h_271 => ?_)
  refine lv_iload hx hb dL_acts_274 (lv_at hl 0 rfl) ?_
  refine lv_if_eq (tgt := 297) hx hb dL_acts_276 (by decide) (fun h_276 => absurd h_276 (by decide)) (fun h_276 => ?_)
  refine lv_aload_n hx hb dL_acts_279 rfl (lv_at hl 3 rfl) ?_
  refine lv_iload hx hb dL_acts_280 (lv_at hl 1 rfl) ?_
  refine k_ci (va_runS (As := [.ref (ad 9 0), .int (nI cp)]) (rest := []) ⟨hx, hb, hml, hown, hts⟩ (c_L_chain l hlt g ad t cp (s_md t) (o_b t) hcm hm14 hJ.wx1 hJ.blt) (va_cwS 2 hts gL_acts_L_chain rfl rfl rfl (by decide +kernel) ⟨(Nat.le_of_ble_eq_true rfl), (Nat.le_of_ble_eq_true rfl)⟩) ⟨k_blind, fun U hU hw => ⟨rfl, k_I.of hK hZ hN hS hW hU hw⟩⟩ rfl rfl hl.1 rfl (lv_room (Nat.le_of_ble_eq_true rfl)) dL_acts_282 ⟨(Nat.le_of_ble_eq_true rfl), (Nat.le_of_ble_eq_true rfl)⟩) hS (fun r u H locs hpo hW hS => ?_)
  obtain ⟨hr9, hu9⟩ := hpo; replace hu9 := hu9.symm; subst hu9; replace hr9 := hr9.symm; subst hr9
  refine lv_aload hx hb dL_acts_285 (lv_at hl 6 rfl) ?_
  refine lv_iconst (v := nI 3) hx hb dL_acts_287 (by decide) ?_
  refine k_iald hx hb hK hW (kc_12 g ad t) 3 rfl (by omega) (by decide) dL_acts_288 ?_
  refine k_toi (y := kB (o_dm t)) hJ.wm3 ?_
  refine lv_iand hx hb dL_acts_289 ?_
  refine k_toi (y := kB (fun j => (fun j => (k_cl (o_b t) cp).contains j) j && (o_dm t) j)) (kB_and (fun j => (k_cl (o_b t) cp).contains j) (o_dm t)) ?_
  refine lv_if_eq (tgt := 297) hx hb dL_acts_290 (by decide) (fun h_290 => absurd h_290 (q_any1 (by omega) hany)) (fun h_290 => ?_)
  refine lv_iconst (v := nI 1) hx hb dL_acts_293 (by decide) ?_
  refine lv_goto (tgt := 298) hx hb dL_acts_294 (by decide) ?_
  refine lv_istore (lv' := [(10, .int (nI 1)), (9, .int (nI 1)), (8, .int (nI cp)), (0, .ref (ad 0 0)), (1, .ref (ad 9 0)), (2, .ref (ad 10 0)), (3, .ref (ad 11 0)), (4, .ref (ad 12 0)), (5, .ref (ad 13 0)), (6, .int (nI wy)), (7, .int (nI z))]) hx hb dL_acts_298 hl (by decide) rfl (fun ls hl => ?_)
  refine lv_aload hx hb dL_acts_300 (lv_at hl 7 rfl) ?_
  refine lv_iconst (v := nI 4) hx hb dL_acts_302 (by decide) ?_
  refine lv_iload hx hb dL_acts_303 (lv_at hl 1 rfl) ?_
  refine lv_if_ne (tgt := 315) hx hb dL_acts_305 (by decide) (fun h_305 => ?_) (fun h_305 => absurd h_305 (by decide))
  refine lv_iload hx hb dL_acts_315 (lv_at hl 0 rfl) ?_
  refine lv_if_eq (tgt := 336) hx hb dL_acts_317 (by decide) (fun h_317 => absurd h_317 (by decide)) (fun h_317 => ?_)
  refine lv_aload hx hb dL_acts_320 (lv_at hl 7 rfl) ?_
  refine lv_iconst (v := nI 4) hx hb dL_acts_322 (by decide) ?_
  refine k_iald hx hb hK hW (kc_12 g ad t) 4 rfl (by omega) (by decide) dL_acts_323 ?_
  refine k_toi (y := kB (o_pv t)) hJ.wm4 ?_
  refine lv_aload_n hx hb dL_acts_324 rfl (lv_at hl 4 rfl) ?_
  refine lv_iload hx hb dL_acts_325 (lv_at hl 2 rfl) ?_
  refine k_ci (va_runS (As := [.ref (ad 9 0), .int (nI cp)]) (rest := [.int (kB (o_pv t)), .int (nI 4), .ref (ad 12 0)]) ⟨hx, hb, hml, hown, hts⟩ (c_L_chain l hlt g ad t cp (s_md t) (o_b t) hcm hm14 hJ.wx1 hJ.blt) (va_cwS 2 hts gL_acts_L_chain rfl rfl rfl (by decide +kernel) ⟨(Nat.le_of_ble_eq_true rfl), (Nat.le_of_ble_eq_true rfl)⟩) ⟨k_blind, fun U hU hw => ⟨rfl, k_I.of hK hZ hN hS hW hU hw⟩⟩ rfl rfl hl.1 rfl (lv_room (Nat.le_of_ble_eq_true rfl)) dL_acts_327 ⟨(Nat.le_of_ble_eq_true rfl), (Nat.le_of_ble_eq_true rfl)⟩) hS (fun r u H locs hpo hW hS => ?_)
  obtain ⟨hr9, hu9⟩ := hpo; replace hu9 := hu9.symm; subst hu9; replace hr9 := hr9.symm; subst hr9
  refine lv_iconst (v := (-1)) hx hb dL_acts_330 (by decide) ?_
  refine lv_ixor hx hb dL_acts_331 ?_
  refine lv_iand hx hb dL_acts_332 ?_
  refine k_toi (y := kB (fun j => (o_pv t) j && !(fun j => (k_cl (o_b t) cp).contains j) j)) (kB_andn (o_pv t) (fun j => (k_cl (o_b t) cp).contains j)) ?_
  refine lv_goto (tgt := 347) hx hb dL_acts_333 (by decide) ?_
  refine k_iast hx hb hK hW hS (kc_12 g ad t) 4 rfl (by omega) (by decide) dL_acts_347 (fun H locs hW hS => ?_)
  have hW : k_H g ad (set_w_m t (va_up (w_m t) 4 (kB (fun j => (o_pv t) j && !(fun j => (k_cl (o_b t) cp).contains j) j)))) H := kt_w_m (t := t) 4 (kB (fun j => (o_pv t) j && !(fun j => (k_cl (o_b t) cp).contains j) j)) rfl hW
  refine lv_aload_n hx hb dL_acts_348 rfl (lv_at hl 3 rfl) ?_
  refine lv_iload hx hb dL_acts_349 (lv_at hl 2 rfl) ?_
  refine k_ci (lw_va (vx_runSX (As := [.ref (ad 0 0), .int (nI cp)]) (rest := []) ⟨hx, hb, hml, hown, hts⟩ (cw_drill_no l hlt g ad (set_w_m t (va_up (w_m t) 4 (kB (fun j => (o_pv t) j && !(fun j => (k_cl (o_b t) cp).contains j) j)))) cp (by omega) hs hJ.hwf hJ.hbs hany) (vx_cwSW 2 hts gL_acts_L_drilled rfl rfl rfl (by decide +kernel) ⟨(Nat.le_of_ble_eq_true rfl), (Nat.le_of_ble_eq_true rfl)⟩) ⟨k_blind, fun U hU hw => ⟨rfl, k_I.of hK hZ hN hS hW hU hw⟩⟩ rfl rfl hl.1 rfl (lv_room (Nat.le_of_ble_eq_true rfl)) dL_acts_351 ⟨(Nat.le_of_ble_eq_true rfl), (Nat.le_of_ble_eq_true rfl)⟩)) hS (fun r u H locs hpo hW hS => ?_)
  obtain ⟨hr9, hu9⟩ := hpo; replace hu9 := hu9.symm; subst hu9; replace hr9 := hr9.symm; subst hr9
  have hW : k_H g ad (set_o_pv (set_w_m t (va_up (w_m t) 4 (kB (fun j => (o_pv t) j && !(fun j => (k_cl (o_b t) cp).contains j) j)))) (fun j9 => if (k_cl (o_b t) cp).contains j9 = true then false else (o_pv t) j9)) H := hW
  refine lv_iload hx hb dL_acts_354 (lv_at hl 1 rfl) ?_
  refine lv_if_ne (tgt := 364) hx hb dL_acts_356 (by decide) (fun h_356 => ?_) (fun h_356 => absurd h_356 (by decide))
  refine lv_iload hx hb dL_acts_364 (lv_at hl 0 rfl) ?_
  refine lv_if_eq (tgt := 373) hx hb dL_acts_366 (by decide) (fun h_366 => absurd h_366 (by decide)) (fun h_366 => ?_)
  refine lv_iconst (v := (-1)) hx hb dL_acts_369 (by decide) ?_
  refine lv_goto (tgt := 382) hx hb dL_acts_370 (by decide) ?_
  refine lv_icmp_ne (tgt := 389) hx hb dL_acts_382 (by decide) (fun h_382 => absurd rfl h_382) (fun h_382 => ?_)
  refine lv_iconst (v := nI 1) hx hb dL_acts_385 (by decide) ?_
  refine lv_goto (tgt := 390) hx hb dL_acts_386 (by decide) ?_
  exact k_rzA hQ hx hb hr rfl hlk hS hW ⟨rfl, (hJ.drill q_pvn (q_pv0 hcm hJ.pv0)).mono (Nat.le_succ _), (fun _ _ _ _ => rfl)⟩ (Nat.le_of_ble_eq_true rfl) (Nat.le_of_ble_eq_true rfl) dL_acts_390
set_option maxRecDepth 100000 in
set_option maxHeartbeats 4000000 in
theorem c_L_acts_drillok (l : Launch) (hlt : l.stackTraces = false) (g : k_g) (ad : k_AD) (t : k_T) (e9 : Nat) (wy : Nat) (z : Nat) (cp : Nat) (hJ : q_J e9 t) (he : e9 ≤ 190) (hw1 : 12 ≤ wy) (hw2 : wy < 14) (hzz : z < 10000000) (hcp : z % (s_md t + 1) = cp) (hs : s_th t cp = true) (hany : (k_cl (o_b t) cp).any (o_dm t) = false) : Met l yL_acts wsL_acts rm_L_acts (va_Pc [.ref (ad 0 0), .ref (ad 9 0), .ref (ad 10 0), .ref (ad 11 0), .ref (ad 12 0), .ref (ad 13 0), .int (nI wy), .int (nI z)] (k_I g (k_ct g ad t) ad)) (va_Qi (S := k_T × k_AD) (fun r u => r = nI 1 ∧ q_J (e9 + 1) u.1 ∧ ∀ a b, a ≠ 25 → a ≠ 26 → u.2 a b = ad a b) (fun u U => k_H g u.2 u.1 U.heap) (k_A g)) 24 171 (k_A g) := by
  refine k_met (cc := cL_acts) (maxL := 15) (ret := (some .boolean)) (by decide) rfl (Nat.le_of_ble_eq_true rfl) (fun p e s m args below meth c Q ls hQ hx hb hr hml hts hown hlk hin hK hZ hN hW hS hl => ?_)
  have hown : s.vm.findClass RL = some m.cls := hown
  have hW : k_H g ad t s.heap := hW
  have hl : lv_has ls 15 [(0, .ref (ad 0 0)), (1, .ref (ad 9 0)), (2, .ref (ad 10 0)), (3, .ref (ad 11 0)), (4, .ref (ad 12 0)), (5, .ref (ad 13 0)), (6, .int (nI wy)), (7, .int (nI z))] := hl
  have hm14 := hJ.m14
  have hd58 := hJ.d58
  have hcl : cp ≤ s_md t := by rw [← hcp]; exact Nat.lt_succ_iff.mp (Nat.mod_lt _ (Nat.succ_pos _))
  have hcm := hJ.wf cp hs
  refine lv_iload hx hb dL_acts_0 (lv_at hl 6 rfl) ?_
  refine lv_iconst (v := nI 5) hx hb dL_acts_2 (by decide) ?_
  refine k_icmp_ge (tgt := 97) hx hb (a := wy) (b := 5) (by omega) (by decide) dL_acts_3 (by decide) (fun h_3 => ?_) (fun h_3 => absurd h_3 (by omega))
  refine lv_iload hx hb dL_acts_97 (lv_at hl 6 rfl) ?_
  refine lv_bipush (v := nI 8) hx hb dL_acts_99 (by decide) ?_
  refine k_icmp_ge (tgt := 181) hx hb (a := wy) (b := 8) (by omega) (by decide) dL_acts_101 (by decide) (fun h_101 => ?_) (fun h_101 => absurd h_101 (by omega))
  refine lv_iload hx hb dL_acts_181 (lv_at hl 6 rfl) ?_
  refine lv_bipush (v := nI 12) hx hb dL_acts_183 (by decide) ?_
  refine k_icmp_ge (tgt := 227) hx hb (a := wy) (b := 12) (by omega) (by decide) dL_acts_185 (by decide) (fun h_185 => ?_) (fun h_185 => absurd h_185 (by omega))
  refine lv_iload hx hb dL_acts_227 (lv_at hl 7 rfl) ?_
  refine lv_aload hx hb dL_acts_229 (lv_at hl 4 rfl) ?_
  refine lv_iconst (v := nI 0) hx hb dL_acts_231 (by decide) ?_
  refine k_iald hx hb hK hW (kc_12 g ad t) 0 rfl (by omega) (by decide) dL_acts_232 ?_
  refine k_toi (y := nI (s_md t)) hJ.wm0 ?_
  refine lv_iconst (v := nI 1) hx hb dL_acts_233 (by decide) ?_
  refine k_iadd hx hb dL_acts_234 ?_
  refine lv_irem hx hb dL_acts_235 (fun q => by have := (nI_eq (a := (s_md t) + 1) (b := 0) (by omega) (by decide)).mp q; omega) ?_
  refine k_toi (pk_rem (by omega) (by omega) (by omega)) ?_
  refine k_toi (y := nI cp) (congrArg nI hcp) ?_
  refine lv_istore (lv' := [(8, .int (nI cp)), (0, .ref (ad 0 0)), (1, .ref (ad 9 0)), (2, .ref (ad 10 0)), (3, .ref (ad 11 0)), (4, .ref (ad 12 0)), (5, .ref (ad 13 0)), (6, .int (nI wy)), (7, .int (nI z))]) hx hb dL_acts_236 hl (by decide) rfl (fun ls hl => ?_)
  refine lv_iload hx hb dL_acts_238 (lv_at hl 0 rfl) ?_
  refine lv_aload hx hb dL_acts_240 (lv_at hl 5 rfl) ?_
  refine lv_iconst (v := nI 0) hx hb dL_acts_242 (by decide) ?_
  refine k_iald hx hb hK hW (kc_12 g ad t) 0 rfl (by omega) (by decide) dL_acts_243 ?_
  refine k_toi (y := nI (s_md t)) hJ.wm0 ?_
  refine k_icmp_ge (tgt := 264) hx hb (a := cp) (b := s_md t) (by omega) (by omega) dL_acts_244 (by decide) (fun h_244 => absurd h_244 (by omega)) (fun h_244 => ?_)
  refine lv_aload hx hb dL_acts_247 (lv_at hl 5 rfl) ?_
  refine lv_iconst (v := nI 2) hx hb dL_acts_249 (by decide) ?_
  refine k_iald hx hb hK hW (kc_12 g ad t) 2 rfl (by omega) (by decide) dL_acts_250 ?_
  refine k_toi (y := kB (s_th t)) hJ.wm2 ?_
  refine lv_iload hx hb dL_acts_251 (lv_at hl 0 rfl) ?_
  refine lv_ishr hx hb dL_acts_253 ?_
  refine lv_iconst (v := nI 1) hx hb dL_acts_254 (by decide) ?_
  refine lv_iand hx hb dL_acts_255 ?_
  refine k_toi (y := kb ((s_th t) cp)) (kB_bit (s_th t) (by omega)) ?_
  refine lv_iconst (v := nI 1) hx hb dL_acts_256 (by decide) ?_
  refine k_b1_ne (tgt := 264) hx hb dL_acts_257 (by decide) (fun h_257 => absurd h_257 (by rw [hs]; decide)) (fun h_257 => ?_)
  refine lv_iconst (v := nI 1) hx hb dL_acts_260 (by decide) ?_
  refine lv_goto (tgt := 265) hx hb dL_acts_261 (by decide) ?_
  refine lv_istore (lv' := [(9, .int (nI 1)), (8, .int (nI cp)), (0, .ref (ad 0 0)), (1, .ref (ad 9 0)), (2, .ref (ad 10 0)), (3, .ref (ad 11 0)), (4, .ref (ad 12 0)), (5, .ref (ad 13 0)), (6, .int (nI wy)), (7, .int (nI z))]) hx hb dL_acts_265 hl (by decide) rfl (fun ls hl => ?_)
  refine lv_iload hx hb dL_acts_267 (lv_at hl 8 rfl) ?_
  refine lv_bipush (v := nI 14) hx hb dL_acts_269 (by decide) ?_
  refine k_icmp_ge (tgt := 391) hx hb (a := wy) (b := 14) (by omega) (by decide) dL_acts_271 (by decide) (fun h_271 => absurd h_271 (by omega)) (fun h_271 => ?_)
  refine lv_iload hx hb dL_acts_274 (lv_at hl 0 rfl) ?_
  refine lv_if_eq (tgt := 297) hx hb dL_acts_276 (by decide) (fun h_276 => absurd h_276 (by decide)) (fun h_276 => ?_)
  refine lv_aload_n hx hb dL_acts_279 rfl (lv_at hl 3 rfl) ?_
  refine lv_iload hx hb dL_acts_280 (lv_at hl 1 rfl) ?_
  refine k_ci (va_runS (As := [.ref (ad 9 0), .int (nI cp)]) (rest := []) ⟨hx, hb, hml, hown, hts⟩ (c_L_chain l hlt g ad t cp (s_md t) (o_b t) hcm hm14 hJ.wx1 hJ.blt) (va_cwS 2 hts gL_acts_L_chain rfl rfl rfl (by decide +kernel) ⟨(Nat.le_of_ble_eq_true rfl), (Nat.le_of_ble_eq_true rfl)⟩) ⟨k_blind, fun U hU hw => ⟨rfl, k_I.of hK hZ hN hS hW hU hw⟩⟩ rfl rfl hl.1 rfl (lv_room (Nat.le_of_ble_eq_true rfl)) dL_acts_282 ⟨(Nat.le_of_ble_eq_true rfl), (Nat.le_of_ble_eq_true rfl)⟩) hS (fun r u H locs hpo hW hS => ?_)
  obtain ⟨hr9, hu9⟩ := hpo; replace hu9 := hu9.symm; subst hu9; replace hr9 := hr9.symm; subst hr9
  refine lv_aload hx hb dL_acts_285 (lv_at hl 6 rfl) ?_
  refine lv_iconst (v := nI 3) hx hb dL_acts_287 (by decide) ?_
  refine k_iald hx hb hK hW (kc_12 g ad t) 3 rfl (by omega) (by decide) dL_acts_288 ?_
  refine k_toi (y := kB (o_dm t)) hJ.wm3 ?_
  refine lv_iand hx hb dL_acts_289 ?_
  refine k_toi (y := kB (fun j => (fun j => (k_cl (o_b t) cp).contains j) j && (o_dm t) j)) (kB_and (fun j => (k_cl (o_b t) cp).contains j) (o_dm t)) ?_
  refine lv_if_eq (tgt := 297) hx hb dL_acts_290 (by decide) (fun h_290 => ?_) (fun h_290 => absurd h_290 (fun q => q (q_any0 hany)))
  refine lv_iconst (v := nI 0) hx hb dL_acts_297 (by decide) ?_
  refine lv_istore (lv' := [(10, .int (nI 0)), (9, .int (nI 1)), (8, .int (nI cp)), (0, .ref (ad 0 0)), (1, .ref (ad 9 0)), (2, .ref (ad 10 0)), (3, .ref (ad 11 0)), (4, .ref (ad 12 0)), (5, .ref (ad 13 0)), (6, .int (nI wy)), (7, .int (nI z))]) hx hb dL_acts_298 hl (by decide) rfl (fun ls hl => ?_)
  refine lv_aload hx hb dL_acts_300 (lv_at hl 7 rfl) ?_
  refine lv_iconst (v := nI 4) hx hb dL_acts_302 (by decide) ?_
  refine lv_iload hx hb dL_acts_303 (lv_at hl 1 rfl) ?_
  refine lv_if_ne (tgt := 315) hx hb dL_acts_305 (by decide) (fun h_305 => ?_) (fun h_305 => absurd h_305 (by decide))
  refine lv_iload hx hb dL_acts_315 (lv_at hl 0 rfl) ?_
  refine lv_if_eq (tgt := 336) hx hb dL_acts_317 (by decide) (fun h_317 => ?_) (fun h_317 => absurd h_317 (by decide))
  refine lv_aload hx hb dL_acts_336 (lv_at hl 7 rfl) ?_
  refine lv_iconst (v := nI 4) hx hb dL_acts_338 (by decide) ?_
  refine k_iald hx hb hK hW (kc_12 g ad t) 4 rfl (by omega) (by decide) dL_acts_339 ?_
  refine k_toi (y := kB (o_pv t)) hJ.wm4 ?_
  refine lv_aload_n hx hb dL_acts_340 rfl (lv_at hl 4 rfl) ?_
  refine lv_iload hx hb dL_acts_341 (lv_at hl 2 rfl) ?_
  refine k_ci (va_runS (As := [.ref (ad 9 0), .int (nI cp)]) (rest := [.int (kB (o_pv t)), .int (nI 4), .ref (ad 12 0)]) ⟨hx, hb, hml, hown, hts⟩ (c_L_chain l hlt g ad t cp (s_md t) (o_b t) hcm hm14 hJ.wx1 hJ.blt) (va_cwS 2 hts gL_acts_L_chain rfl rfl rfl (by decide +kernel) ⟨(Nat.le_of_ble_eq_true rfl), (Nat.le_of_ble_eq_true rfl)⟩) ⟨k_blind, fun U hU hw => ⟨rfl, k_I.of hK hZ hN hS hW hU hw⟩⟩ rfl rfl hl.1 rfl (lv_room (Nat.le_of_ble_eq_true rfl)) dL_acts_343 ⟨(Nat.le_of_ble_eq_true rfl), (Nat.le_of_ble_eq_true rfl)⟩) hS (fun r u H locs hpo hW hS => ?_)
  obtain ⟨hr9, hu9⟩ := hpo; replace hu9 := hu9.symm; subst hu9; replace hr9 := hr9.symm; subst hr9
  refine lv_ior hx hb dL_acts_346 ?_
  refine k_toi (y := kB (fun j => (o_pv t) j || (fun j => (k_cl (o_b t) cp).contains j) j)) (kB_or (o_pv t) (fun j => (k_cl (o_b t) cp).contains j)) ?_
  refine k_iast hx hb hK hW hS (kc_12 g ad t) 4 rfl (by omega) (by decide) dL_acts_347 (fun H locs hW hS => ?_)
  have hW : k_H g ad (set_w_m t (va_up (w_m t) 4 (kB (fun j => (o_pv t) j || (fun j => (k_cl (o_b t) cp).contains j) j)))) H := kt_w_m (t := t) 4 (kB (fun j => (o_pv t) j || (fun j => (k_cl (o_b t) cp).contains j) j)) rfl hW
  refine lv_aload_n hx hb dL_acts_348 rfl (lv_at hl 3 rfl) ?_
  refine lv_iload hx hb dL_acts_349 (lv_at hl 2 rfl) ?_
  refine k_ci (lw_va (vx_runSX (As := [.ref (ad 0 0), .int (nI cp)]) (rest := []) ⟨hx, hb, hml, hown, hts⟩ (cw_drill_ok l hlt g ad (set_w_m t (va_up (w_m t) 4 (kB (fun j => (o_pv t) j || (fun j => (k_cl (o_b t) cp).contains j) j)))) cp (by omega) hs hJ.hwf hJ.hbs hany) (vx_cwSW 2 hts gL_acts_L_drilled rfl rfl rfl (by decide +kernel) ⟨(Nat.le_of_ble_eq_true rfl), (Nat.le_of_ble_eq_true rfl)⟩) ⟨k_blind, fun U hU hw => ⟨rfl, k_I.of hK hZ hN hS hW hU hw⟩⟩ rfl rfl hl.1 rfl (lv_room (Nat.le_of_ble_eq_true rfl)) dL_acts_351 ⟨(Nat.le_of_ble_eq_true rfl), (Nat.le_of_ble_eq_true rfl)⟩)) hS (fun r u H locs hpo hW hS => ?_)
  obtain ⟨hr9, hu9⟩ := hpo; replace hu9 := hu9.symm; subst hu9; replace hr9 := hr9.symm; subst hr9
  have hW : k_H g ad (set_o_pv (set_w_m t (va_up (w_m t) 4 (kB (fun j => (o_pv t) j || (fun j => (k_cl (o_b t) cp).contains j) j)))) (fun j9 => if (k_cl (o_b t) cp).contains j9 = true then true else (o_pv t) j9)) H := hW
  refine lv_iload hx hb dL_acts_354 (lv_at hl 1 rfl) ?_
  refine lv_if_ne (tgt := 364) hx hb dL_acts_356 (by decide) (fun h_356 => ?_) (fun h_356 => absurd h_356 (by decide))
  refine lv_iload hx hb dL_acts_364 (lv_at hl 0 rfl) ?_
  refine lv_if_eq (tgt := 373) hx hb dL_acts_366 (by decide) (fun h_366 => ?_) (fun h_366 => absurd h_366 (by decide))
  refine lv_aload_n hx hb dL_acts_373 rfl (lv_at hl 4 rfl) ?_
  refine lv_iload hx hb dL_acts_374 (lv_at hl 2 rfl) ?_
  refine k_ci (va_runS (As := [.ref (ad 9 0), .int (nI cp)]) (rest := [.int (nI ((k_cl (o_b t) cp).length))]) ⟨hx, hb, hml, hown, hts⟩ (c_L_chain l hlt g ad (set_o_pv (set_w_m t (va_up (w_m t) 4 (kB (fun j => (o_pv t) j || (fun j => (k_cl (o_b t) cp).contains j) j)))) (fun j9 => if (k_cl (o_b t) cp).contains j9 = true then true else (o_pv t) j9)) cp (s_md t) (o_b t) hcm hm14 hJ.wx1 hJ.blt) (va_cwS 2 hts gL_acts_L_chain rfl rfl rfl (by decide +kernel) ⟨(Nat.le_of_ble_eq_true rfl), (Nat.le_of_ble_eq_true rfl)⟩) ⟨k_blind, fun U hU hw => ⟨rfl, k_I.of hK hZ hN hS hW hU hw⟩⟩ rfl rfl hl.1 rfl (lv_room (Nat.le_of_ble_eq_true rfl)) dL_acts_376 ⟨(Nat.le_of_ble_eq_true rfl), (Nat.le_of_ble_eq_true rfl)⟩) hS (fun r u H locs hpo hW hS => ?_)
  obtain ⟨hr9, hu9⟩ := hpo; replace hu9 := hu9.symm; subst hu9; replace hr9 := hr9.symm; subst hr9
  refine k_ci (va_runS (As := [.int (kB (fun j => (k_cl (o_b t) cp).contains j))]) (rest := [.int (nI ((k_cl (o_b t) cp).length))]) ⟨hx, hb, hml, hown, hts⟩ (c_L_ones l hlt g ad (set_o_pv (set_w_m t (va_up (w_m t) 4 (kB (fun j => (o_pv t) j || (fun j => (k_cl (o_b t) cp).contains j) j)))) (fun j9 => if (k_cl (o_b t) cp).contains j9 = true then true else (o_pv t) j9)) (fun j => (k_cl (o_b t) cp).contains j) ) (va_cwS 1 hts gL_acts_L_ones rfl rfl rfl (by decide +kernel) ⟨(Nat.le_of_ble_eq_true rfl), (Nat.le_of_ble_eq_true rfl)⟩) ⟨k_blind, fun U hU hw => ⟨rfl, k_I.of hK hZ hN hS hW hU hw⟩⟩ rfl rfl hl.1 rfl (lv_room (Nat.le_of_ble_eq_true rfl)) dL_acts_379 ⟨(Nat.le_of_ble_eq_true rfl), (Nat.le_of_ble_eq_true rfl)⟩) hS (fun r u H locs hpo hW hS => ?_)
  obtain ⟨hr9, hu9⟩ := hpo; replace hu9 := hu9.symm; subst hu9; replace hr9 := hr9.symm; subst hr9
  refine k_toi (y := nI ((k_cl (o_b t) cp).length)) (congrArg nI (q_len (by omega))) ?_
  refine lv_icmp_ne (tgt := 389) hx hb dL_acts_382 (by decide) (fun h_382 => absurd rfl h_382) (fun h_382 => ?_)
  refine lv_iconst (v := nI 1) hx hb dL_acts_385 (by decide) ?_
  refine lv_goto (tgt := 390) hx hb dL_acts_386 (by decide) ?_
  exact k_rzA hQ hx hb hr rfl hlk hS hW ⟨rfl, (hJ.drill q_pvy (q_pv0 hcm hJ.pv0)).mono (Nat.le_succ _), (fun _ _ _ _ => rfl)⟩ (Nat.le_of_ble_eq_true rfl) (Nat.le_of_ble_eq_true rfl) dL_acts_390
set_option maxRecDepth 100000 in
set_option maxHeartbeats 4000000 in
theorem c_L_acts_damage (l : Launch) (hlt : l.stackTraces = false) (g : k_g) (ad : k_AD) (t : k_T) (e9 : Nat) (wy : Nat) (z : Nat) (cp : Nat) (hJ : q_J e9 t) (he : e9 ≤ 190) (hw1 : 14 ≤ wy) (hw2 : wy < 15) (hzz : z < 10000000) (hcp : z % (s_md t + 1) = cp) (hs : s_th t cp = true) : Met l yL_acts wsL_acts rm_L_acts (va_Pc [.ref (ad 0 0), .ref (ad 9 0), .ref (ad 10 0), .ref (ad 11 0), .ref (ad 12 0), .ref (ad 13 0), .int (nI wy), .int (nI z)] (k_I g (k_ct g ad t) ad)) (va_Qi (S := k_T × k_AD) (fun r u => r = nI 1 ∧ q_J (e9 + 1) u.1 ∧ ∀ a b, a ≠ 25 → a ≠ 26 → u.2 a b = ad a b) (fun u U => k_H g u.2 u.1 U.heap) (k_A g)) 24 171 (k_A g) := by
  refine k_met (cc := cL_acts) (maxL := 15) (ret := (some .boolean)) (by decide) rfl (Nat.le_of_ble_eq_true rfl) (fun p e s m args below meth c Q ls hQ hx hb hr hml hts hown hlk hin hK hZ hN hW hS hl => ?_)
  have hown : s.vm.findClass RL = some m.cls := hown
  have hW : k_H g ad t s.heap := hW
  have hl : lv_has ls 15 [(0, .ref (ad 0 0)), (1, .ref (ad 9 0)), (2, .ref (ad 10 0)), (3, .ref (ad 11 0)), (4, .ref (ad 12 0)), (5, .ref (ad 13 0)), (6, .int (nI wy)), (7, .int (nI z))] := hl
  have hm14 := hJ.m14
  have hd58 := hJ.d58
  have hcl : cp ≤ s_md t := by rw [← hcp]; exact Nat.lt_succ_iff.mp (Nat.mod_lt _ (Nat.succ_pos _))
  have hcm := hJ.wf cp hs
  refine lv_iload hx hb dL_acts_0 (lv_at hl 6 rfl) ?_
  refine lv_iconst (v := nI 5) hx hb dL_acts_2 (by decide) ?_
  refine k_icmp_ge (tgt := 97) hx hb (a := wy) (b := 5) (by omega) (by decide) dL_acts_3 (by decide) (fun h_3 => ?_) (fun h_3 => absurd h_3 (by omega))
  refine lv_iload hx hb dL_acts_97 (lv_at hl 6 rfl) ?_
  refine lv_bipush (v := nI 8) hx hb dL_acts_99 (by decide) ?_
  refine k_icmp_ge (tgt := 181) hx hb (a := wy) (b := 8) (by omega) (by decide) dL_acts_101 (by decide) (fun h_101 => ?_) (fun h_101 => absurd h_101 (by omega))
  refine lv_iload hx hb dL_acts_181 (lv_at hl 6 rfl) ?_
  refine lv_bipush (v := nI 12) hx hb dL_acts_183 (by decide) ?_
  refine k_icmp_ge (tgt := 227) hx hb (a := wy) (b := 12) (by omega) (by decide) dL_acts_185 (by decide) (fun h_185 => ?_) (fun h_185 => absurd h_185 (by omega))
  refine lv_iload hx hb dL_acts_227 (lv_at hl 7 rfl) ?_
  refine lv_aload hx hb dL_acts_229 (lv_at hl 4 rfl) ?_
  refine lv_iconst (v := nI 0) hx hb dL_acts_231 (by decide) ?_
  refine k_iald hx hb hK hW (kc_12 g ad t) 0 rfl (by omega) (by decide) dL_acts_232 ?_
  refine k_toi (y := nI (s_md t)) hJ.wm0 ?_
  refine lv_iconst (v := nI 1) hx hb dL_acts_233 (by decide) ?_
  refine k_iadd hx hb dL_acts_234 ?_
  refine lv_irem hx hb dL_acts_235 (fun q => by have := (nI_eq (a := (s_md t) + 1) (b := 0) (by omega) (by decide)).mp q; omega) ?_
  refine k_toi (pk_rem (by omega) (by omega) (by omega)) ?_
  refine k_toi (y := nI cp) (congrArg nI hcp) ?_
  refine lv_istore (lv' := [(8, .int (nI cp)), (0, .ref (ad 0 0)), (1, .ref (ad 9 0)), (2, .ref (ad 10 0)), (3, .ref (ad 11 0)), (4, .ref (ad 12 0)), (5, .ref (ad 13 0)), (6, .int (nI wy)), (7, .int (nI z))]) hx hb dL_acts_236 hl (by decide) rfl (fun ls hl => ?_)
  refine lv_iload hx hb dL_acts_238 (lv_at hl 0 rfl) ?_
  refine lv_aload hx hb dL_acts_240 (lv_at hl 5 rfl) ?_
  refine lv_iconst (v := nI 0) hx hb dL_acts_242 (by decide) ?_
  refine k_iald hx hb hK hW (kc_12 g ad t) 0 rfl (by omega) (by decide) dL_acts_243 ?_
  refine k_toi (y := nI (s_md t)) hJ.wm0 ?_
  refine k_icmp_ge (tgt := 264) hx hb (a := cp) (b := s_md t) (by omega) (by omega) dL_acts_244 (by decide) (fun h_244 => absurd h_244 (by omega)) (fun h_244 => ?_)
  refine lv_aload hx hb dL_acts_247 (lv_at hl 5 rfl) ?_
  refine lv_iconst (v := nI 2) hx hb dL_acts_249 (by decide) ?_
  refine k_iald hx hb hK hW (kc_12 g ad t) 2 rfl (by omega) (by decide) dL_acts_250 ?_
  refine k_toi (y := kB (s_th t)) hJ.wm2 ?_
  refine lv_iload hx hb dL_acts_251 (lv_at hl 0 rfl) ?_
  refine lv_ishr hx hb dL_acts_253 ?_
  refine lv_iconst (v := nI 1) hx hb dL_acts_254 (by decide) ?_
  refine lv_iand hx hb dL_acts_255 ?_
  refine k_toi (y := kb ((s_th t) cp)) (kB_bit (s_th t) (by omega)) ?_
  refine lv_iconst (v := nI 1) hx hb dL_acts_256 (by decide) ?_
  refine k_b1_ne (tgt := 264) hx hb dL_acts_257 (by decide) (fun h_257 => absurd h_257 (by rw [hs]; decide)) (fun h_257 => ?_)
  refine lv_iconst (v := nI 1) hx hb dL_acts_260 (by decide) ?_
  refine lv_goto (tgt := 265) hx hb dL_acts_261 (by decide) ?_
  refine lv_istore (lv' := [(9, .int (nI 1)), (8, .int (nI cp)), (0, .ref (ad 0 0)), (1, .ref (ad 9 0)), (2, .ref (ad 10 0)), (3, .ref (ad 11 0)), (4, .ref (ad 12 0)), (5, .ref (ad 13 0)), (6, .int (nI wy)), (7, .int (nI z))]) hx hb dL_acts_265 hl (by decide) rfl (fun ls hl => ?_)
  refine lv_iload hx hb dL_acts_267 (lv_at hl 8 rfl) ?_
  refine lv_bipush (v := nI 14) hx hb dL_acts_269 (by decide) ?_
  refine k_icmp_ge (tgt := 391) hx hb (a := wy) (b := 14) (by omega) (by decide) dL_acts_271 (by decide) (fun h_271 => ?_) (fun h_271 => absurd h_271 (by omega))
  refine lv_iload hx hb dL_acts_391 (lv_at hl 8 rfl) ?_
  refine lv_bipush (v := nI 14) hx hb dL_acts_393 (by decide) ?_
  refine k_icmp_ne (tgt := 544) hx hb (a := wy) (b := 14) (by omega) (by decide) dL_acts_395 (by decide) (fun h_395 => absurd h_395 (by omega)) (fun h_395 => ?_)
  refine lv_iload hx hb dL_acts_398 (lv_at hl 0 rfl) ?_
  refine lv_if_eq (tgt := 415) hx hb dL_acts_400 (by decide) (fun h_400 => absurd h_400 (by decide)) (fun h_400 => ?_)
  refine lv_iload hx hb dL_acts_403 (lv_at hl 9 rfl) ?_
  refine lv_bipush (v := nI 16) hx hb dL_acts_405 (by decide) ?_
  refine lv_idiv hx hb dL_acts_407 (by decide) ?_
  refine k_toi (pk_div (by omega) (by decide) (by decide)) ?_
  refine lv_iconst (v := nI 3) hx hb dL_acts_408 (by decide) ?_
  refine lv_irem hx hb dL_acts_409 (by decide) ?_
  refine k_toi (pk_rem (by omega) (by decide) (by decide)) ?_
  refine k_if_le (tgt := 415) hx hb (by omega) dL_acts_410 (by decide) (fun h_410 => ?_) (fun h_410 => ?_)
  · refine lv_aload hx hb dL_acts_415 (lv_at hl 6 rfl) ?_
    refine lv_iconst (v := nI 3) hx hb dL_acts_417 (by decide) ?_
    refine lv_dup2_11 hx hb dL_acts_418 rfl rfl ?_
    refine k_iald hx hb hK hW (kc_12 g ad t) 3 rfl (by omega) (by decide) dL_acts_419 ?_
    refine k_toi (y := kB (o_dm t)) hJ.wm3 ?_
    refine lv_iload hx hb dL_acts_420 (lv_at hl 0 rfl) ?_
    refine lv_if_eq (tgt := 432) hx hb dL_acts_422 (by decide) (fun h_422 => absurd h_422 (by decide)) (fun h_422 => ?_)
    refine lv_iconst (v := nI 1) hx hb dL_acts_425 (by decide) ?_
    refine lv_iload hx hb dL_acts_426 (lv_at hl 1 rfl) ?_
    refine lv_ishl hx hb dL_acts_428 ?_
    refine lv_goto (tgt := 433) hx hb dL_acts_429 (by decide) ?_
    refine lv_ior hx hb dL_acts_433 ?_
    refine k_toi (y := kB (va_up (o_dm t) cp true)) (kB_set (o_dm t) (by omega)) ?_
    refine k_iast hx hb hK hW hS (kc_12 g ad t) 3 rfl (by omega) (by decide) dL_acts_434 (fun H locs hW hS => ?_)
    have hW : k_H g ad (set_w_m t (va_up (w_m t) 3 (kB (va_up (o_dm t) cp true)))) H := kt_w_m (t := t) 3 (kB (va_up (o_dm t) cp true)) rfl hW
    refine lv_aload hx hb dL_acts_435 (lv_at hl 6 rfl) ?_
    refine lv_iconst (v := nI 4) hx hb dL_acts_437 (by decide) ?_
    refine lv_dup2_11 hx hb dL_acts_438 rfl rfl ?_
    refine k_iald hx hb hK hW (kc_12 g ad (set_w_m t (va_up (w_m t) 3 (kB (va_up (o_dm t) cp true))))) 4 rfl (by omega) (by decide) dL_acts_439 ?_
    refine k_tov (y := .int ((va_up (w_m t) 3 (kB (va_up (o_dm t) cp true))) 4)) rfl ?_
    refine k_toi (y := kB (o_pv t)) (by rw [va_up_ne _ _ (by decide)]; exact hJ.wm4) ?_
    refine lv_iload hx hb dL_acts_440 (lv_at hl 0 rfl) ?_
    refine lv_if_eq (tgt := 454) hx hb dL_acts_442 (by decide) (fun h_442 => absurd h_442 (by decide)) (fun h_442 => ?_)
    refine lv_iconst (v := nI 1) hx hb dL_acts_445 (by decide) ?_
    refine lv_iload hx hb dL_acts_446 (lv_at hl 1 rfl) ?_
    refine lv_ishl hx hb dL_acts_448 ?_
    refine lv_iconst (v := (-1)) hx hb dL_acts_449 (by decide) ?_
    refine lv_ixor hx hb dL_acts_450 ?_
    refine lv_goto (tgt := 455) hx hb dL_acts_451 (by decide) ?_
    refine lv_iand hx hb dL_acts_455 ?_
    refine k_toi (y := kB (va_up (o_pv t) cp false)) (kB_clr (o_pv t) (by omega)) ?_
    refine k_iast hx hb hK hW hS (kc_12 g ad (set_w_m t (va_up (w_m t) 3 (kB (va_up (o_dm t) cp true))))) 4 rfl (by omega) (by decide) dL_acts_456 (fun H locs hW hS => ?_)
    have hW : k_H g ad (set_w_m t (va_up (va_up (w_m t) 3 (kB (va_up (o_dm t) cp true))) 4 (kB (va_up (o_pv t) cp false)))) H := kt_w_m (t := set_w_m t (va_up (w_m t) 3 (kB (va_up (o_dm t) cp true)))) 4 (kB (va_up (o_pv t) cp false)) rfl hW
    obtain ⟨M9, hM9⟩ : ∃ M9 : Nat → Int32, M9 = (va_up (va_up (w_m t) 3 (kB (va_up (o_dm t) cp true))) 4 (kB (va_up (o_pv t) cp false))) := ⟨_, rfl⟩
    have hW : k_H g ad (set_w_m t M9) H := by rw [hM9]; exact hW
    refine lv_iconst (v := nI 0) hx hb dL_acts_457 (by decide) ?_
    refine lv_istore (lv' := [(10, .int (nI 0)), (9, .int (nI 1)), (8, .int (nI cp)), (0, .ref (ad 0 0)), (1, .ref (ad 9 0)), (2, .ref (ad 10 0)), (3, .ref (ad 11 0)), (4, .ref (ad 12 0)), (5, .ref (ad 13 0)), (6, .int (nI wy)), (7, .int (nI z))]) hx hb dL_acts_458 hl (by decide) rfl (fun ls hl => ?_)
    refine lv_iconst (v := nI 0) hx hb dL_acts_460 (by decide) ?_
    refine lv_istore (lv' := [(11, .int (nI 0)), (10, .int (nI 0)), (9, .int (nI 1)), (8, .int (nI cp)), (0, .ref (ad 0 0)), (1, .ref (ad 9 0)), (2, .ref (ad 10 0)), (3, .ref (ad 11 0)), (4, .ref (ad 12 0)), (5, .ref (ad 13 0)), (6, .int (nI wy)), (7, .int (nI z))]) hx hb dL_acts_461 hl (by decide) rfl (fun ls hl => ?_)
    have hloop_463 : ∀ (n : Nat) (k : Nat) (cn : Nat), (s_md t < k + n) → (k ≤ s_md t) → (cn = k_cb (fun q => k_P (s_th t) (o_on t) (s_md t) (s_r1 t) (s_r2 t) (s_r3 t) q && (k_cl (o_b t) q).any (va_up (o_dm t) cp true)) k) → ∀ (H : Heap) (locs : List Loc), k_H g ad (set_w_m t M9) H → va_S (k_A g) s.heap H locs → ∀ (ls : Array Slot), lv_has ls 15 [(0, .ref (ad 0 0)), (1, .ref (ad 9 0)), (2, .ref (ad 10 0)), (3, .ref (ad 11 0)), (4, .ref (ad 12 0)), (5, .ref (ad 13 0)), (6, .int (nI wy)), (7, .int (nI z)), (8, .int (nI cp)), (9, .int (nI 1)), (10, .int (nI cn)), (11, .int (nI k))] → W p l e rm_L_acts s m args below meth c H locs 0 0 Q (F0 m 463 ls []) := by
      intro n
      induction n with
      | zero =>
        intro k cn hfu hk hcn
        exact absurd hfu (by omega)
      | succ n ih =>
        intro k cn hfu hk hcn H locs hW hS ls hl
        refine lv_iload hx hb dL_acts_463 (lv_at hl 11 rfl) ?_
        refine lv_aload hx hb dL_acts_465 (lv_at hl 4 rfl) ?_
        refine lv_iconst (v := nI 0) hx hb dL_acts_467 (by decide) ?_
        refine k_iald hx hb hK hW (kc_12 g ad (set_w_m t M9)) 0 rfl (by omega) (by decide) dL_acts_468 ?_
        refine k_tov (y := .int (M9 0)) rfl ?_
        refine k_toi (y := nI (s_md t)) ((show M9 0 = w_m t 0 by rw [hM9, va_up_ne _ _ (by decide), va_up_ne _ _ (by decide)]).trans hJ.wm0) ?_
        refine k_icmp_ge (tgt := 517) hx hb (a := k) (b := s_md t) (by omega) (by omega) dL_acts_469 (by decide) (fun h_469 => ?_) (fun h_469 => ?_)
        · refine lv_aload_n hx hb dL_acts_517 rfl (lv_at hl 0 rfl) ?_
          refine lv_iload hx hb dL_acts_518 (lv_at hl 8 rfl) ?_
          refine k_ci (lw_va (vx_runSX (As := [.ref (ad 0 0), .int (nI cp)]) (rest := []) ⟨hx, hb, hml, hown, hts⟩ (cw_damage_ok l hlt g ad (set_w_m t M9) cp (by omega) hs hJ.hwf hJ.hbs hJ.bth hJ.hn60 hJ.hon hJ.r1b hJ.r2b hJ.r3b) (vx_cwSW 2 hts gL_acts_L_damaged rfl rfl rfl (by decide +kernel) ⟨(Nat.le_of_ble_eq_true rfl), (Nat.le_of_ble_eq_true rfl)⟩) ⟨k_blind, fun U hU hw => ⟨rfl, k_I.of hK hZ hN hS hW hU hw⟩⟩ rfl rfl hl.1 rfl (lv_room (Nat.le_of_ble_eq_true rfl)) dL_acts_520 ⟨(Nat.le_of_ble_eq_true rfl), (Nat.le_of_ble_eq_true rfl)⟩)) hS (fun r u H locs hpo hW hS => ?_)
          obtain ⟨hr9, hu9⟩ := hpo; replace hu9 := hu9.symm; subst hu9; replace hr9 := hr9.symm; subst hr9
          have hW : k_H g ad (set_o_nd (set_o_pm (set_o_pv (set_o_dm (set_w_m t M9) (va_up (o_dm t) cp true)) (va_up (o_pv t) cp false)) (k_Pm (s_th t) (o_pm t) (o_on t) (s_r1 t) (s_r2 t) (s_r3 t))) (k_Nm (s_th t) (o_nd t) (k_Pm (s_th t) (o_pm t) (o_on t) (s_r1 t) (s_r2 t) (s_r3 t)) (o_b t))) H := hW
          refine lv_iload hx hb dL_acts_523 (lv_at hl 9 rfl) ?_
          refine lv_if_eq (tgt := 533) hx hb dL_acts_525 (by decide) (fun h_525 => absurd h_525 (by decide)) (fun h_525 => ?_)
          refine lv_iload hx hb dL_acts_528 (lv_at hl 10 rfl) ?_
          refine k_toi (y := nI (k_cb (fun k => ((s_th t) k && (k_Pm (s_th t) (o_pm t) (o_on t) (s_r1 t) (s_r2 t) (s_r3 t)) k) && (k_cl (o_b t) k).any (va_up (o_dm t) cp true)) 60)) (by rw [hcn, show k = s_md t by omega]; exact congrArg nI (q_cntD hJ.wf (by omega)).symm) ?_
          refine lv_goto (tgt := 535) hx hb dL_acts_530 (by decide) ?_
          refine lv_icmp_ne (tgt := 542) hx hb dL_acts_535 (by decide) (fun h_535 => absurd rfl h_535) (fun h_535 => ?_)
          refine lv_iconst (v := nI 1) hx hb dL_acts_538 (by decide) ?_
          refine lv_goto (tgt := 543) hx hb dL_acts_539 (by decide) ?_
          exact k_rzA hQ hx hb hr rfl hlk hS hW ⟨rfl, (hJ.damage (D := va_up (o_dm t) cp true) (V := va_up (o_pv t) cp false) (fun k hk => (va_up_ne _ _ (by omega)).trans (hJ.dm0 k hk)) (fun k hk => (va_up_ne _ _ (by omega)).trans (hJ.pv0 k hk)) (by rw [hM9, va_up_ne _ _ (by decide), va_up_self]) (by rw [hM9, va_up_self]) (fun i h3 h4 => by rw [hM9, va_up_ne _ _ h4, va_up_ne _ _ h3])).mono (Nat.le_succ _), (fun _ _ _ _ => rfl)⟩ (Nat.le_of_ble_eq_true rfl) (Nat.le_of_ble_eq_true rfl) dL_acts_543
        · refine lv_iload hx hb dL_acts_472 (lv_at hl 10 rfl) ?_
          refine lv_aload_n hx hb dL_acts_474 rfl (lv_at hl 1 rfl) ?_
          refine lv_aload hx hb dL_acts_475 (lv_at hl 4 rfl) ?_
          refine k_ci (va_runS (As := [.ref (ad 9 0), .ref (ad 12 0)]) (rest := [.int (nI cn)]) ⟨hx, hb, hml, hown, hts⟩ (c_L_promised l hlt g ad (set_w_m t M9) (s_md t) (s_th t) (o_on t) (o_b t) (s_r1 t) (s_r2 t) (s_r3 t) (hJ.A9 (M := M9) (by rw [hM9, va_up_ne _ _ (by decide), va_up_ne _ _ (by decide)]) (by rw [hM9, va_up_ne _ _ (by decide), va_up_ne _ _ (by decide)])) ⟨((show M9 5 = w_m t 5 by rw [hM9, va_up_ne _ _ (by decide), va_up_ne _ _ (by decide)]).trans hJ.wm5), ((show M9 6 = w_m t 6 by rw [hM9, va_up_ne _ _ (by decide), va_up_ne _ _ (by decide)]).trans hJ.wm6), ((show M9 7 = w_m t 7 by rw [hM9, va_up_ne _ _ (by decide), va_up_ne _ _ (by decide)]).trans hJ.wm7), hJ.r1b, hJ.r2b, hJ.r3b⟩) (va_cwS 2 hts gL_acts_L_promised rfl rfl rfl (by decide +kernel) ⟨(Nat.le_of_ble_eq_true rfl), (Nat.le_of_ble_eq_true rfl)⟩) ⟨k_blind, fun U hU hw => ⟨rfl, k_I.of hK hZ hN hS hW hU hw⟩⟩ rfl rfl hl.1 rfl (lv_room (Nat.le_of_ble_eq_true rfl)) dL_acts_477 ⟨(Nat.le_of_ble_eq_true rfl), (Nat.le_of_ble_eq_true rfl)⟩) hS (fun r u H locs hpo hW hS => ?_)
          obtain ⟨hr9, hu9⟩ := hpo; replace hu9 := hu9.symm; subst hu9; replace hr9 := hr9.symm; subst hr9
          refine lv_iload hx hb dL_acts_480 (lv_at hl 11 rfl) ?_
          refine lv_ishr hx hb dL_acts_482 ?_
          refine lv_iconst (v := nI 1) hx hb dL_acts_483 (by decide) ?_
          refine lv_iand hx hb dL_acts_484 ?_
          refine k_toi (y := kb ((k_P (s_th t) (o_on t) (s_md t) (s_r1 t) (s_r2 t) (s_r3 t)) k)) (kB_bit (k_P (s_th t) (o_on t) (s_md t) (s_r1 t) (s_r2 t) (s_r3 t)) (by omega)) ?_
          refine lv_iconst (v := nI 1) hx hb dL_acts_485 (by decide) ?_
          refine k_b1_ne (tgt := 507) hx hb dL_acts_486 (by decide) (fun h_486 => ?_) (fun h_486 => ?_)
          · refine lv_iconst (v := nI 0) hx hb dL_acts_507 (by decide) ?_
            refine k_iadd hx hb dL_acts_508 ?_
            refine lv_istore (lv' := [(10, .int (nI (cn + 0))), (0, .ref (ad 0 0)), (1, .ref (ad 9 0)), (2, .ref (ad 10 0)), (3, .ref (ad 11 0)), (4, .ref (ad 12 0)), (5, .ref (ad 13 0)), (6, .int (nI wy)), (7, .int (nI z)), (8, .int (nI cp)), (9, .int (nI 1)), (11, .int (nI k))]) hx hb dL_acts_509 hl (by decide) rfl (fun ls hl => ?_)
            refine lv_iinc (v := nI (k + 1)) (lv' := [(11, .int (nI (k + 1))), (10, .int (nI (cn + 0))), (0, .ref (ad 0 0)), (1, .ref (ad 9 0)), (2, .ref (ad 10 0)), (3, .ref (ad 11 0)), (4, .ref (ad 12 0)), (5, .ref (ad 13 0)), (6, .int (nI wy)), (7, .int (nI z)), (8, .int (nI cp)), (9, .int (nI 1))]) hx hb dL_acts_511 hl (k := 11) rfl (nI_add _ _) (by decide) rfl (fun ls hl => ?_)
            refine lv_goto (tgt := 463) hx hb dL_acts_514 (by decide) ?_
            exact ih (k + 1) (cn + 0) (by omega) (by omega) (by rw [k_cb_n (by rw [h_486, Bool.false_and])]; exact hcn) _ _ hW hS _ (lv_sub hl [2, 3, 4, 5, 6, 7, 8, 9, 10, 11, 1, 0] rfl)
          · refine lv_aload_n hx hb dL_acts_489 rfl (lv_at hl 1 rfl) ?_
            refine lv_iload hx hb dL_acts_490 (lv_at hl 11 rfl) ?_
            refine k_ci (va_runS (As := [.ref (ad 9 0), .int (nI k)]) (rest := [.int (nI cn)]) ⟨hx, hb, hml, hown, hts⟩ (c_L_chain l hlt g ad (set_w_m t M9) k (s_md t) (o_b t) h_469 hm14 hJ.wx1 hJ.blt) (va_cwS 2 hts gL_acts_L_chain rfl rfl rfl (by decide +kernel) ⟨(Nat.le_of_ble_eq_true rfl), (Nat.le_of_ble_eq_true rfl)⟩) ⟨k_blind, fun U hU hw => ⟨rfl, k_I.of hK hZ hN hS hW hU hw⟩⟩ rfl rfl hl.1 rfl (lv_room (Nat.le_of_ble_eq_true rfl)) dL_acts_492 ⟨(Nat.le_of_ble_eq_true rfl), (Nat.le_of_ble_eq_true rfl)⟩) hS (fun r u H locs hpo hW hS => ?_)
            obtain ⟨hr9, hu9⟩ := hpo; replace hu9 := hu9.symm; subst hu9; replace hr9 := hr9.symm; subst hr9
            refine lv_aload hx hb dL_acts_495 (lv_at hl 4 rfl) ?_
            refine lv_iconst (v := nI 3) hx hb dL_acts_497 (by decide) ?_
            refine k_iald hx hb hK hW (kc_12 g ad (set_w_m t M9)) 3 rfl (by omega) (by decide) dL_acts_498 ?_
            refine k_tov (y := .int (M9 3)) rfl ?_
            refine k_toi (y := kB (va_up (o_dm t) cp true)) (by rw [hM9, va_up_ne _ _ (by decide), va_up_self]) ?_
            refine lv_iand hx hb dL_acts_499 ?_
            refine k_toi (y := kB (fun j => (fun j => (k_cl (o_b t) k).contains j) j && (va_up (o_dm t) cp true) j)) (kB_and (fun j => (k_cl (o_b t) k).contains j) (va_up (o_dm t) cp true)) ?_
            refine lv_if_eq (tgt := 507) hx hb dL_acts_500 (by decide) (fun h_500 => ?_) (fun h_500 => ?_)
            · refine lv_iconst (v := nI 0) hx hb dL_acts_507 (by decide) ?_
              refine k_iadd hx hb dL_acts_508 ?_
              refine lv_istore (lv' := [(10, .int (nI (cn + 0))), (0, .ref (ad 0 0)), (1, .ref (ad 9 0)), (2, .ref (ad 10 0)), (3, .ref (ad 11 0)), (4, .ref (ad 12 0)), (5, .ref (ad 13 0)), (6, .int (nI wy)), (7, .int (nI z)), (8, .int (nI cp)), (9, .int (nI 1)), (11, .int (nI k))]) hx hb dL_acts_509 hl (by decide) rfl (fun ls hl => ?_)
              refine lv_iinc (v := nI (k + 1)) (lv' := [(11, .int (nI (k + 1))), (10, .int (nI (cn + 0))), (0, .ref (ad 0 0)), (1, .ref (ad 9 0)), (2, .ref (ad 10 0)), (3, .ref (ad 11 0)), (4, .ref (ad 12 0)), (5, .ref (ad 13 0)), (6, .int (nI wy)), (7, .int (nI z)), (8, .int (nI cp)), (9, .int (nI 1))]) hx hb dL_acts_511 hl (k := 11) rfl (nI_add _ _) (by decide) rfl (fun ls hl => ?_)
              refine lv_goto (tgt := 463) hx hb dL_acts_514 (by decide) ?_
              exact ih (k + 1) (cn + 0) (by omega) (by omega) (by rw [k_cb_n (by rw [q_any0' (by omega) h_500, Bool.and_false])]; exact hcn) _ _ hW hS _ (lv_sub hl [2, 3, 4, 5, 6, 7, 8, 9, 10, 11, 1, 0] rfl)
            · refine lv_iconst (v := nI 1) hx hb dL_acts_503 (by decide) ?_
              refine lv_goto (tgt := 508) hx hb dL_acts_504 (by decide) ?_
              refine k_iadd hx hb dL_acts_508 ?_
              refine lv_istore (lv' := [(10, .int (nI (cn + 1))), (0, .ref (ad 0 0)), (1, .ref (ad 9 0)), (2, .ref (ad 10 0)), (3, .ref (ad 11 0)), (4, .ref (ad 12 0)), (5, .ref (ad 13 0)), (6, .int (nI wy)), (7, .int (nI z)), (8, .int (nI cp)), (9, .int (nI 1)), (11, .int (nI k))]) hx hb dL_acts_509 hl (by decide) rfl (fun ls hl => ?_)
              refine lv_iinc (v := nI (k + 1)) (lv' := [(11, .int (nI (k + 1))), (10, .int (nI (cn + 1))), (0, .ref (ad 0 0)), (1, .ref (ad 9 0)), (2, .ref (ad 10 0)), (3, .ref (ad 11 0)), (4, .ref (ad 12 0)), (5, .ref (ad 13 0)), (6, .int (nI wy)), (7, .int (nI z)), (8, .int (nI cp)), (9, .int (nI 1))]) hx hb dL_acts_511 hl (k := 11) rfl (nI_add _ _) (by decide) rfl (fun ls hl => ?_)
              refine lv_goto (tgt := 463) hx hb dL_acts_514 (by decide) ?_
              exact ih (k + 1) (cn + 1) (by omega) (by omega) (by rw [k_cb_y (by rw [h_486, q_any1' h_500]; rfl), hcn]) _ _ hW hS _ (lv_sub hl [2, 3, 4, 5, 6, 7, 8, 9, 10, 11, 1, 0] rfl)
    exact hloop_463 (s_md t + 1) 0 0 (by omega) (by omega) rfl _ _ hW hS _ (lv_sub hl [4, 5, 6, 7, 8, 9, 10, 11, 3, 2, 1, 0] rfl)
  · refine lv_iconst (v := nI 1) hx hb dL_acts_413 (by decide) ?_
    exact k_rzA hQ hx hb hr rfl hlk hS hW ⟨rfl, hJ.mono (Nat.le_succ _), (fun _ _ _ _ => rfl)⟩ (Nat.le_of_ble_eq_true rfl) (Nat.le_of_ble_eq_true rfl) dL_acts_414
set_option maxRecDepth 100000 in
set_option maxHeartbeats 4000000 in
theorem c_L_acts_damageno (l : Launch) (hlt : l.stackTraces = false) (g : k_g) (ad : k_AD) (t : k_T) (e9 : Nat) (wy : Nat) (z : Nat) (cp : Nat) (hJ : q_J e9 t) (he : e9 ≤ 190) (hw1 : 14 ≤ wy) (hw2 : wy < 15) (hzz : z < 10000000) (hcp : z % (s_md t + 1) = cp) (hs : s_th t cp = false) : Met l yL_acts wsL_acts rm_L_acts (va_Pc [.ref (ad 0 0), .ref (ad 9 0), .ref (ad 10 0), .ref (ad 11 0), .ref (ad 12 0), .ref (ad 13 0), .int (nI wy), .int (nI z)] (k_I g (k_ct g ad t) ad)) (va_Qi (S := k_T × k_AD) (fun r u => r = nI 1 ∧ q_J (e9 + 1) u.1 ∧ ∀ a b, a ≠ 25 → a ≠ 26 → u.2 a b = ad a b) (fun u U => k_H g u.2 u.1 U.heap) (k_A g)) 24 171 (k_A g) := by
  refine k_met (cc := cL_acts) (maxL := 15) (ret := (some .boolean)) (by decide) rfl (Nat.le_of_ble_eq_true rfl) (fun p e s m args below meth c Q ls hQ hx hb hr hml hts hown hlk hin hK hZ hN hW hS hl => ?_)
  have hown : s.vm.findClass RL = some m.cls := hown
  have hW : k_H g ad t s.heap := hW
  have hl : lv_has ls 15 [(0, .ref (ad 0 0)), (1, .ref (ad 9 0)), (2, .ref (ad 10 0)), (3, .ref (ad 11 0)), (4, .ref (ad 12 0)), (5, .ref (ad 13 0)), (6, .int (nI wy)), (7, .int (nI z))] := hl
  have hm14 := hJ.m14
  have hd58 := hJ.d58
  have hcl : cp ≤ s_md t := by rw [← hcp]; exact Nat.lt_succ_iff.mp (Nat.mod_lt _ (Nat.succ_pos _))
  refine lv_iload hx hb dL_acts_0 (lv_at hl 6 rfl) ?_
  refine lv_iconst (v := nI 5) hx hb dL_acts_2 (by decide) ?_
  refine k_icmp_ge (tgt := 97) hx hb (a := wy) (b := 5) (by omega) (by decide) dL_acts_3 (by decide) (fun h_3 => ?_) (fun h_3 => absurd h_3 (by omega))
  refine lv_iload hx hb dL_acts_97 (lv_at hl 6 rfl) ?_
  refine lv_bipush (v := nI 8) hx hb dL_acts_99 (by decide) ?_
  refine k_icmp_ge (tgt := 181) hx hb (a := wy) (b := 8) (by omega) (by decide) dL_acts_101 (by decide) (fun h_101 => ?_) (fun h_101 => absurd h_101 (by omega))
  refine lv_iload hx hb dL_acts_181 (lv_at hl 6 rfl) ?_
  refine lv_bipush (v := nI 12) hx hb dL_acts_183 (by decide) ?_
  refine k_icmp_ge (tgt := 227) hx hb (a := wy) (b := 12) (by omega) (by decide) dL_acts_185 (by decide) (fun h_185 => ?_) (fun h_185 => absurd h_185 (by omega))
  refine lv_iload hx hb dL_acts_227 (lv_at hl 7 rfl) ?_
  refine lv_aload hx hb dL_acts_229 (lv_at hl 4 rfl) ?_
  refine lv_iconst (v := nI 0) hx hb dL_acts_231 (by decide) ?_
  refine k_iald hx hb hK hW (kc_12 g ad t) 0 rfl (by omega) (by decide) dL_acts_232 ?_
  refine k_toi (y := nI (s_md t)) hJ.wm0 ?_
  refine lv_iconst (v := nI 1) hx hb dL_acts_233 (by decide) ?_
  refine k_iadd hx hb dL_acts_234 ?_
  refine lv_irem hx hb dL_acts_235 (fun q => by have := (nI_eq (a := (s_md t) + 1) (b := 0) (by omega) (by decide)).mp q; omega) ?_
  refine k_toi (pk_rem (by omega) (by omega) (by omega)) ?_
  refine k_toi (y := nI cp) (congrArg nI hcp) ?_
  refine lv_istore (lv' := [(8, .int (nI cp)), (0, .ref (ad 0 0)), (1, .ref (ad 9 0)), (2, .ref (ad 10 0)), (3, .ref (ad 11 0)), (4, .ref (ad 12 0)), (5, .ref (ad 13 0)), (6, .int (nI wy)), (7, .int (nI z))]) hx hb dL_acts_236 hl (by decide) rfl (fun ls hl => ?_)
  refine lv_iload hx hb dL_acts_238 (lv_at hl 0 rfl) ?_
  refine lv_aload hx hb dL_acts_240 (lv_at hl 5 rfl) ?_
  refine lv_iconst (v := nI 0) hx hb dL_acts_242 (by decide) ?_
  refine k_iald hx hb hK hW (kc_12 g ad t) 0 rfl (by omega) (by decide) dL_acts_243 ?_
  refine k_toi (y := nI (s_md t)) hJ.wm0 ?_
  refine k_icmp_ge (tgt := 264) hx hb (a := cp) (b := s_md t) (by omega) (by omega) dL_acts_244 (by decide) (fun h_244 => ?_) (fun h_244 => ?_)
  · refine lv_iconst (v := nI 0) hx hb dL_acts_264 (by decide) ?_
    refine lv_istore (lv' := [(9, .int (nI 0)), (8, .int (nI cp)), (0, .ref (ad 0 0)), (1, .ref (ad 9 0)), (2, .ref (ad 10 0)), (3, .ref (ad 11 0)), (4, .ref (ad 12 0)), (5, .ref (ad 13 0)), (6, .int (nI wy)), (7, .int (nI z))]) hx hb dL_acts_265 hl (by decide) rfl (fun ls hl => ?_)
    refine lv_iload hx hb dL_acts_267 (lv_at hl 8 rfl) ?_
    refine lv_bipush (v := nI 14) hx hb dL_acts_269 (by decide) ?_
    refine k_icmp_ge (tgt := 391) hx hb (a := wy) (b := 14) (by omega) (by decide) dL_acts_271 (by decide) (fun h_271 => ?_) (fun h_271 => absurd h_271 (by omega))
    refine lv_iload hx hb dL_acts_391 (lv_at hl 8 rfl) ?_
    refine lv_bipush (v := nI 14) hx hb dL_acts_393 (by decide) ?_
    refine k_icmp_ne (tgt := 544) hx hb (a := wy) (b := 14) (by omega) (by decide) dL_acts_395 (by decide) (fun h_395 => absurd h_395 (by omega)) (fun h_395 => ?_)
    refine lv_iload hx hb dL_acts_398 (lv_at hl 0 rfl) ?_
    refine lv_if_eq (tgt := 415) hx hb dL_acts_400 (by decide) (fun h_400 => ?_) (fun h_400 => absurd h_400 (by decide))
    refine lv_aload hx hb dL_acts_415 (lv_at hl 6 rfl) ?_
    refine lv_iconst (v := nI 3) hx hb dL_acts_417 (by decide) ?_
    refine lv_dup2_11 hx hb dL_acts_418 rfl rfl ?_
    refine k_iald hx hb hK hW (kc_12 g ad t) 3 rfl (by omega) (by decide) dL_acts_419 ?_
    refine k_toi (y := kB (o_dm t)) hJ.wm3 ?_
    refine lv_iload hx hb dL_acts_420 (lv_at hl 0 rfl) ?_
    refine lv_if_eq (tgt := 432) hx hb dL_acts_422 (by decide) (fun h_422 => ?_) (fun h_422 => absurd h_422 (by decide))
    refine lv_iconst (v := nI 0) hx hb dL_acts_432 (by decide) ?_
    refine lv_ior hx hb dL_acts_433 ?_
    refine k_toi (y := kB (o_dm t)) (kB_or0 (o_dm t)) ?_
    refine k_iast hx hb hK hW hS (kc_12 g ad t) 3 rfl (by omega) (by decide) dL_acts_434 (fun H locs hW hS => ?_)
    have hW : k_H g ad (set_w_m t (va_up (w_m t) 3 (kB (o_dm t)))) H := kt_w_m (t := t) 3 (kB (o_dm t)) rfl hW
    refine lv_aload hx hb dL_acts_435 (lv_at hl 6 rfl) ?_
    refine lv_iconst (v := nI 4) hx hb dL_acts_437 (by decide) ?_
    refine lv_dup2_11 hx hb dL_acts_438 rfl rfl ?_
    refine k_iald hx hb hK hW (kc_12 g ad (set_w_m t (va_up (w_m t) 3 (kB (o_dm t))))) 4 rfl (by omega) (by decide) dL_acts_439 ?_
    refine k_tov (y := .int ((va_up (w_m t) 3 (kB (o_dm t))) 4)) rfl ?_
    refine k_toi (y := kB (o_pv t)) (by rw [va_up_ne _ _ (by decide)]; exact hJ.wm4) ?_
    refine lv_iload hx hb dL_acts_440 (lv_at hl 0 rfl) ?_
    refine lv_if_eq (tgt := 454) hx hb dL_acts_442 (by decide) (fun h_442 => ?_) (fun h_442 => absurd h_442 (by decide))
    refine lv_iconst (v := (-1)) hx hb dL_acts_454 (by decide) ?_
    refine lv_iand hx hb dL_acts_455 ?_
    refine k_toi (y := kB (o_pv t)) (kB_m1 (o_pv t)) ?_
    refine k_iast hx hb hK hW hS (kc_12 g ad (set_w_m t (va_up (w_m t) 3 (kB (o_dm t))))) 4 rfl (by omega) (by decide) dL_acts_456 (fun H locs hW hS => ?_)
    have hW : k_H g ad (set_w_m t (va_up (va_up (w_m t) 3 (kB (o_dm t))) 4 (kB (o_pv t)))) H := kt_w_m (t := set_w_m t (va_up (w_m t) 3 (kB (o_dm t)))) 4 (kB (o_pv t)) rfl hW
    obtain ⟨M9, hM9⟩ : ∃ M9 : Nat → Int32, M9 = (va_up (va_up (w_m t) 3 (kB (o_dm t))) 4 (kB (o_pv t))) := ⟨_, rfl⟩
    have hW : k_H g ad (set_w_m t M9) H := by rw [hM9]; exact hW
    refine lv_iconst (v := nI 0) hx hb dL_acts_457 (by decide) ?_
    refine lv_istore (lv' := [(10, .int (nI 0)), (9, .int (nI 0)), (8, .int (nI cp)), (0, .ref (ad 0 0)), (1, .ref (ad 9 0)), (2, .ref (ad 10 0)), (3, .ref (ad 11 0)), (4, .ref (ad 12 0)), (5, .ref (ad 13 0)), (6, .int (nI wy)), (7, .int (nI z))]) hx hb dL_acts_458 hl (by decide) rfl (fun ls hl => ?_)
    refine lv_iconst (v := nI 0) hx hb dL_acts_460 (by decide) ?_
    refine lv_istore (lv' := [(11, .int (nI 0)), (10, .int (nI 0)), (9, .int (nI 0)), (8, .int (nI cp)), (0, .ref (ad 0 0)), (1, .ref (ad 9 0)), (2, .ref (ad 10 0)), (3, .ref (ad 11 0)), (4, .ref (ad 12 0)), (5, .ref (ad 13 0)), (6, .int (nI wy)), (7, .int (nI z))]) hx hb dL_acts_461 hl (by decide) rfl (fun ls hl => ?_)
    have hloop_463 : ∀ (n : Nat) (k : Nat) (cn : Nat), (s_md t < k + n) → (k ≤ s_md t) → (cn = k_cb (fun q => k_P (s_th t) (o_on t) (s_md t) (s_r1 t) (s_r2 t) (s_r3 t) q && (k_cl (o_b t) q).any (o_dm t)) k) → ∀ (H : Heap) (locs : List Loc), k_H g ad (set_w_m t M9) H → va_S (k_A g) s.heap H locs → ∀ (ls : Array Slot), lv_has ls 15 [(0, .ref (ad 0 0)), (1, .ref (ad 9 0)), (2, .ref (ad 10 0)), (3, .ref (ad 11 0)), (4, .ref (ad 12 0)), (5, .ref (ad 13 0)), (6, .int (nI wy)), (7, .int (nI z)), (8, .int (nI cp)), (9, .int (nI 0)), (10, .int (nI cn)), (11, .int (nI k))] → W p l e rm_L_acts s m args below meth c H locs 0 0 Q (F0 m 463 ls []) := by
      intro n
      induction n with
      | zero =>
        intro k cn hfu hk hcn
        exact absurd hfu (by omega)
      | succ n ih =>
        intro k cn hfu hk hcn H locs hW hS ls hl
        refine lv_iload hx hb dL_acts_463 (lv_at hl 11 rfl) ?_
        refine lv_aload hx hb dL_acts_465 (lv_at hl 4 rfl) ?_
        refine lv_iconst (v := nI 0) hx hb dL_acts_467 (by decide) ?_
        refine k_iald hx hb hK hW (kc_12 g ad (set_w_m t M9)) 0 rfl (by omega) (by decide) dL_acts_468 ?_
        refine k_tov (y := .int (M9 0)) rfl ?_
        refine k_toi (y := nI (s_md t)) ((show M9 0 = w_m t 0 by rw [hM9, va_up_ne _ _ (by decide), va_up_ne _ _ (by decide)]).trans hJ.wm0) ?_
        refine k_icmp_ge (tgt := 517) hx hb (a := k) (b := s_md t) (by omega) (by omega) dL_acts_469 (by decide) (fun h_469 => ?_) (fun h_469 => ?_)
        · refine lv_aload_n hx hb dL_acts_517 rfl (lv_at hl 0 rfl) ?_
          refine lv_iload hx hb dL_acts_518 (lv_at hl 8 rfl) ?_
          refine k_ci (lw_va (vx_runSX (As := [.ref (ad 0 0), .int (nI cp)]) (rest := []) ⟨hx, hb, hml, hown, hts⟩ (cw_damage_b l hlt g ad (set_w_m t M9) (nI cp) (Or.inr (Or.inr ⟨cp, by omega, rfl, hs⟩))) (vx_cwSW 2 hts gL_acts_L_damaged rfl rfl rfl (by decide +kernel) ⟨(Nat.le_of_ble_eq_true rfl), (Nat.le_of_ble_eq_true rfl)⟩) ⟨k_blind, fun U hU hw => ⟨rfl, k_I.of hK hZ hN hS hW hU hw⟩⟩ rfl rfl hl.1 rfl (lv_room (Nat.le_of_ble_eq_true rfl)) dL_acts_520 ⟨(Nat.le_of_ble_eq_true rfl), (Nat.le_of_ble_eq_true rfl)⟩)) hS (fun r u H locs hpo hW hS => ?_)
          obtain ⟨hr9, hu9⟩ := hpo; replace hu9 := hu9.symm; subst hu9; replace hr9 := hr9.symm; subst hr9
          refine lv_iload hx hb dL_acts_523 (lv_at hl 9 rfl) ?_
          refine lv_if_eq (tgt := 533) hx hb dL_acts_525 (by decide) (fun h_525 => ?_) (fun h_525 => absurd h_525 (by decide))
          refine lv_bipush (v := (-5)) hx hb dL_acts_533 (by decide) ?_
          refine lv_icmp_ne (tgt := 542) hx hb dL_acts_535 (by decide) (fun h_535 => absurd rfl h_535) (fun h_535 => ?_)
          refine lv_iconst (v := nI 1) hx hb dL_acts_538 (by decide) ?_
          refine lv_goto (tgt := 543) hx hb dL_acts_539 (by decide) ?_
          exact k_rzA hQ hx hb hr rfl hlk hS hW ⟨rfl, (hJ.wm (fun i _ => by rw [hM9, q_same (by rw [va_up_ne _ _ (by decide)]; exact hJ.wm4.symm) i, q_same hJ.wm3.symm i])).mono (Nat.le_succ _), (fun _ _ _ _ => rfl)⟩ (Nat.le_of_ble_eq_true rfl) (Nat.le_of_ble_eq_true rfl) dL_acts_543
        · refine lv_iload hx hb dL_acts_472 (lv_at hl 10 rfl) ?_
          refine lv_aload_n hx hb dL_acts_474 rfl (lv_at hl 1 rfl) ?_
          refine lv_aload hx hb dL_acts_475 (lv_at hl 4 rfl) ?_
          refine k_ci (va_runS (As := [.ref (ad 9 0), .ref (ad 12 0)]) (rest := [.int (nI cn)]) ⟨hx, hb, hml, hown, hts⟩ (c_L_promised l hlt g ad (set_w_m t M9) (s_md t) (s_th t) (o_on t) (o_b t) (s_r1 t) (s_r2 t) (s_r3 t) (hJ.A9 (M := M9) (by rw [hM9, va_up_ne _ _ (by decide), va_up_ne _ _ (by decide)]) (by rw [hM9, va_up_ne _ _ (by decide), va_up_ne _ _ (by decide)])) ⟨((show M9 5 = w_m t 5 by rw [hM9, va_up_ne _ _ (by decide), va_up_ne _ _ (by decide)]).trans hJ.wm5), ((show M9 6 = w_m t 6 by rw [hM9, va_up_ne _ _ (by decide), va_up_ne _ _ (by decide)]).trans hJ.wm6), ((show M9 7 = w_m t 7 by rw [hM9, va_up_ne _ _ (by decide), va_up_ne _ _ (by decide)]).trans hJ.wm7), hJ.r1b, hJ.r2b, hJ.r3b⟩) (va_cwS 2 hts gL_acts_L_promised rfl rfl rfl (by decide +kernel) ⟨(Nat.le_of_ble_eq_true rfl), (Nat.le_of_ble_eq_true rfl)⟩) ⟨k_blind, fun U hU hw => ⟨rfl, k_I.of hK hZ hN hS hW hU hw⟩⟩ rfl rfl hl.1 rfl (lv_room (Nat.le_of_ble_eq_true rfl)) dL_acts_477 ⟨(Nat.le_of_ble_eq_true rfl), (Nat.le_of_ble_eq_true rfl)⟩) hS (fun r u H locs hpo hW hS => ?_)
          obtain ⟨hr9, hu9⟩ := hpo; replace hu9 := hu9.symm; subst hu9; replace hr9 := hr9.symm; subst hr9
          refine lv_iload hx hb dL_acts_480 (lv_at hl 11 rfl) ?_
          refine lv_ishr hx hb dL_acts_482 ?_
          refine lv_iconst (v := nI 1) hx hb dL_acts_483 (by decide) ?_
          refine lv_iand hx hb dL_acts_484 ?_
          refine k_toi (y := kb ((k_P (s_th t) (o_on t) (s_md t) (s_r1 t) (s_r2 t) (s_r3 t)) k)) (kB_bit (k_P (s_th t) (o_on t) (s_md t) (s_r1 t) (s_r2 t) (s_r3 t)) (by omega)) ?_
          refine lv_iconst (v := nI 1) hx hb dL_acts_485 (by decide) ?_
          refine k_b1_ne (tgt := 507) hx hb dL_acts_486 (by decide) (fun h_486 => ?_) (fun h_486 => ?_)
          · refine lv_iconst (v := nI 0) hx hb dL_acts_507 (by decide) ?_
            refine k_iadd hx hb dL_acts_508 ?_
            refine lv_istore (lv' := [(10, .int (nI (cn + 0))), (0, .ref (ad 0 0)), (1, .ref (ad 9 0)), (2, .ref (ad 10 0)), (3, .ref (ad 11 0)), (4, .ref (ad 12 0)), (5, .ref (ad 13 0)), (6, .int (nI wy)), (7, .int (nI z)), (8, .int (nI cp)), (9, .int (nI 0)), (11, .int (nI k))]) hx hb dL_acts_509 hl (by decide) rfl (fun ls hl => ?_)
            refine lv_iinc (v := nI (k + 1)) (lv' := [(11, .int (nI (k + 1))), (10, .int (nI (cn + 0))), (0, .ref (ad 0 0)), (1, .ref (ad 9 0)), (2, .ref (ad 10 0)), (3, .ref (ad 11 0)), (4, .ref (ad 12 0)), (5, .ref (ad 13 0)), (6, .int (nI wy)), (7, .int (nI z)), (8, .int (nI cp)), (9, .int (nI 0))]) hx hb dL_acts_511 hl (k := 11) rfl (nI_add _ _) (by decide) rfl (fun ls hl => ?_)
            refine lv_goto (tgt := 463) hx hb dL_acts_514 (by decide) ?_
            exact ih (k + 1) (cn + 0) (by omega) (by omega) (by rw [k_cb_n (by rw [h_486, Bool.false_and])]; exact hcn) _ _ hW hS _ (lv_sub hl [2, 3, 4, 5, 6, 7, 8, 9, 10, 11, 1, 0] rfl)
          · refine lv_aload_n hx hb dL_acts_489 rfl (lv_at hl 1 rfl) ?_
            refine lv_iload hx hb dL_acts_490 (lv_at hl 11 rfl) ?_
            refine k_ci (va_runS (As := [.ref (ad 9 0), .int (nI k)]) (rest := [.int (nI cn)]) ⟨hx, hb, hml, hown, hts⟩ (c_L_chain l hlt g ad (set_w_m t M9) k (s_md t) (o_b t) h_469 hm14 hJ.wx1 hJ.blt) (va_cwS 2 hts gL_acts_L_chain rfl rfl rfl (by decide +kernel) ⟨(Nat.le_of_ble_eq_true rfl), (Nat.le_of_ble_eq_true rfl)⟩) ⟨k_blind, fun U hU hw => ⟨rfl, k_I.of hK hZ hN hS hW hU hw⟩⟩ rfl rfl hl.1 rfl (lv_room (Nat.le_of_ble_eq_true rfl)) dL_acts_492 ⟨(Nat.le_of_ble_eq_true rfl), (Nat.le_of_ble_eq_true rfl)⟩) hS (fun r u H locs hpo hW hS => ?_)
            obtain ⟨hr9, hu9⟩ := hpo; replace hu9 := hu9.symm; subst hu9; replace hr9 := hr9.symm; subst hr9
            refine lv_aload hx hb dL_acts_495 (lv_at hl 4 rfl) ?_
            refine lv_iconst (v := nI 3) hx hb dL_acts_497 (by decide) ?_
            refine k_iald hx hb hK hW (kc_12 g ad (set_w_m t M9)) 3 rfl (by omega) (by decide) dL_acts_498 ?_
            refine k_tov (y := .int (M9 3)) rfl ?_
            refine k_toi (y := kB (o_dm t)) (by rw [hM9, va_up_ne _ _ (by decide), va_up_self]) ?_
            refine lv_iand hx hb dL_acts_499 ?_
            refine k_toi (y := kB (fun j => (fun j => (k_cl (o_b t) k).contains j) j && (o_dm t) j)) (kB_and (fun j => (k_cl (o_b t) k).contains j) (o_dm t)) ?_
            refine lv_if_eq (tgt := 507) hx hb dL_acts_500 (by decide) (fun h_500 => ?_) (fun h_500 => ?_)
            · refine lv_iconst (v := nI 0) hx hb dL_acts_507 (by decide) ?_
              refine k_iadd hx hb dL_acts_508 ?_
              refine lv_istore (lv' := [(10, .int (nI (cn + 0))), (0, .ref (ad 0 0)), (1, .ref (ad 9 0)), (2, .ref (ad 10 0)), (3, .ref (ad 11 0)), (4, .ref (ad 12 0)), (5, .ref (ad 13 0)), (6, .int (nI wy)), (7, .int (nI z)), (8, .int (nI cp)), (9, .int (nI 0)), (11, .int (nI k))]) hx hb dL_acts_509 hl (by decide) rfl (fun ls hl => ?_)
              refine lv_iinc (v := nI (k + 1)) (lv' := [(11, .int (nI (k + 1))), (10, .int (nI (cn + 0))), (0, .ref (ad 0 0)), (1, .ref (ad 9 0)), (2, .ref (ad 10 0)), (3, .ref (ad 11 0)), (4, .ref (ad 12 0)), (5, .ref (ad 13 0)), (6, .int (nI wy)), (7, .int (nI z)), (8, .int (nI cp)), (9, .int (nI 0))]) hx hb dL_acts_511 hl (k := 11) rfl (nI_add _ _) (by decide) rfl (fun ls hl => ?_)
              refine lv_goto (tgt := 463) hx hb dL_acts_514 (by decide) ?_
              exact ih (k + 1) (cn + 0) (by omega) (by omega) (by rw [k_cb_n (by rw [q_any0' (by omega) h_500, Bool.and_false])]; exact hcn) _ _ hW hS _ (lv_sub hl [2, 3, 4, 5, 6, 7, 8, 9, 10, 11, 1, 0] rfl)
            · refine lv_iconst (v := nI 1) hx hb dL_acts_503 (by decide) ?_
              refine lv_goto (tgt := 508) hx hb dL_acts_504 (by decide) ?_
              refine k_iadd hx hb dL_acts_508 ?_
              refine lv_istore (lv' := [(10, .int (nI (cn + 1))), (0, .ref (ad 0 0)), (1, .ref (ad 9 0)), (2, .ref (ad 10 0)), (3, .ref (ad 11 0)), (4, .ref (ad 12 0)), (5, .ref (ad 13 0)), (6, .int (nI wy)), (7, .int (nI z)), (8, .int (nI cp)), (9, .int (nI 0)), (11, .int (nI k))]) hx hb dL_acts_509 hl (by decide) rfl (fun ls hl => ?_)
              refine lv_iinc (v := nI (k + 1)) (lv' := [(11, .int (nI (k + 1))), (10, .int (nI (cn + 1))), (0, .ref (ad 0 0)), (1, .ref (ad 9 0)), (2, .ref (ad 10 0)), (3, .ref (ad 11 0)), (4, .ref (ad 12 0)), (5, .ref (ad 13 0)), (6, .int (nI wy)), (7, .int (nI z)), (8, .int (nI cp)), (9, .int (nI 0))]) hx hb dL_acts_511 hl (k := 11) rfl (nI_add _ _) (by decide) rfl (fun ls hl => ?_)
              refine lv_goto (tgt := 463) hx hb dL_acts_514 (by decide) ?_
              exact ih (k + 1) (cn + 1) (by omega) (by omega) (by rw [k_cb_y (by rw [h_486, q_any1' h_500]; rfl), hcn]) _ _ hW hS _ (lv_sub hl [2, 3, 4, 5, 6, 7, 8, 9, 10, 11, 1, 0] rfl)
    exact hloop_463 (s_md t + 1) 0 0 (by omega) (by omega) rfl _ _ hW hS _ (lv_sub hl [4, 5, 6, 7, 8, 9, 10, 11, 3, 2, 1, 0] rfl)
  · refine lv_aload hx hb dL_acts_247 (lv_at hl 5 rfl) ?_
    refine lv_iconst (v := nI 2) hx hb dL_acts_249 (by decide) ?_
    refine k_iald hx hb hK hW (kc_12 g ad t) 2 rfl (by omega) (by decide) dL_acts_250 ?_
    refine k_toi (y := kB (s_th t)) hJ.wm2 ?_
    refine lv_iload hx hb dL_acts_251 (lv_at hl 0 rfl) ?_
    refine lv_ishr hx hb dL_acts_253 ?_
    refine lv_iconst (v := nI 1) hx hb dL_acts_254 (by decide) ?_
    refine lv_iand hx hb dL_acts_255 ?_
    refine k_toi (y := kb ((s_th t) cp)) (kB_bit (s_th t) (by omega)) ?_
    refine lv_iconst (v := nI 1) hx hb dL_acts_256 (by decide) ?_
    refine k_b1_ne (tgt := 264) hx hb dL_acts_257 (by decide) (fun h_257 => ?_) (fun h_257 => absurd h_257 (by rw [hs]; decide))
    refine lv_iconst (v := nI 0) hx hb dL_acts_264 (by decide) ?_
    refine lv_istore (lv' := [(9, .int (nI 0)), (8, .int (nI cp)), (0, .ref (ad 0 0)), (1, .ref (ad 9 0)), (2, .ref (ad 10 0)), (3, .ref (ad 11 0)), (4, .ref (ad 12 0)), (5, .ref (ad 13 0)), (6, .int (nI wy)), (7, .int (nI z))]) hx hb dL_acts_265 hl (by decide) rfl (fun ls hl => ?_)
    refine lv_iload hx hb dL_acts_267 (lv_at hl 8 rfl) ?_
    refine lv_bipush (v := nI 14) hx hb dL_acts_269 (by decide) ?_
    refine k_icmp_ge (tgt := 391) hx hb (a := wy) (b := 14) (by omega) (by decide) dL_acts_271 (by decide) (fun h_271 => ?_) (fun h_271 => absurd h_271 (by omega))
    refine lv_iload hx hb dL_acts_391 (lv_at hl 8 rfl) ?_
    refine lv_bipush (v := nI 14) hx hb dL_acts_393 (by decide) ?_
    refine k_icmp_ne (tgt := 544) hx hb (a := wy) (b := 14) (by omega) (by decide) dL_acts_395 (by decide) (fun h_395 => absurd h_395 (by omega)) (fun h_395 => ?_)
    refine lv_iload hx hb dL_acts_398 (lv_at hl 0 rfl) ?_
    refine lv_if_eq (tgt := 415) hx hb dL_acts_400 (by decide) (fun h_400 => ?_) (fun h_400 => absurd h_400 (by decide))
    refine lv_aload hx hb dL_acts_415 (lv_at hl 6 rfl) ?_
    refine lv_iconst (v := nI 3) hx hb dL_acts_417 (by decide) ?_
    refine lv_dup2_11 hx hb dL_acts_418 rfl rfl ?_
    refine k_iald hx hb hK hW (kc_12 g ad t) 3 rfl (by omega) (by decide) dL_acts_419 ?_
    refine k_toi (y := kB (o_dm t)) hJ.wm3 ?_
    refine lv_iload hx hb dL_acts_420 (lv_at hl 0 rfl) ?_
    refine lv_if_eq (tgt := 432) hx hb dL_acts_422 (by decide) (fun h_422 => ?_) (fun h_422 => absurd h_422 (by decide))
    refine lv_iconst (v := nI 0) hx hb dL_acts_432 (by decide) ?_
    refine lv_ior hx hb dL_acts_433 ?_
    refine k_toi (y := kB (o_dm t)) (kB_or0 (o_dm t)) ?_
    refine k_iast hx hb hK hW hS (kc_12 g ad t) 3 rfl (by omega) (by decide) dL_acts_434 (fun H locs hW hS => ?_)
    have hW : k_H g ad (set_w_m t (va_up (w_m t) 3 (kB (o_dm t)))) H := kt_w_m (t := t) 3 (kB (o_dm t)) rfl hW
    refine lv_aload hx hb dL_acts_435 (lv_at hl 6 rfl) ?_
    refine lv_iconst (v := nI 4) hx hb dL_acts_437 (by decide) ?_
    refine lv_dup2_11 hx hb dL_acts_438 rfl rfl ?_
    refine k_iald hx hb hK hW (kc_12 g ad (set_w_m t (va_up (w_m t) 3 (kB (o_dm t))))) 4 rfl (by omega) (by decide) dL_acts_439 ?_
    refine k_tov (y := .int ((va_up (w_m t) 3 (kB (o_dm t))) 4)) rfl ?_
    refine k_toi (y := kB (o_pv t)) (by rw [va_up_ne _ _ (by decide)]; exact hJ.wm4) ?_
    refine lv_iload hx hb dL_acts_440 (lv_at hl 0 rfl) ?_
    refine lv_if_eq (tgt := 454) hx hb dL_acts_442 (by decide) (fun h_442 => ?_) (fun h_442 => absurd h_442 (by decide))
    refine lv_iconst (v := (-1)) hx hb dL_acts_454 (by decide) ?_
    refine lv_iand hx hb dL_acts_455 ?_
    refine k_toi (y := kB (o_pv t)) (kB_m1 (o_pv t)) ?_
    refine k_iast hx hb hK hW hS (kc_12 g ad (set_w_m t (va_up (w_m t) 3 (kB (o_dm t))))) 4 rfl (by omega) (by decide) dL_acts_456 (fun H locs hW hS => ?_)
    have hW : k_H g ad (set_w_m t (va_up (va_up (w_m t) 3 (kB (o_dm t))) 4 (kB (o_pv t)))) H := kt_w_m (t := set_w_m t (va_up (w_m t) 3 (kB (o_dm t)))) 4 (kB (o_pv t)) rfl hW
    obtain ⟨M9, hM9⟩ : ∃ M9 : Nat → Int32, M9 = (va_up (va_up (w_m t) 3 (kB (o_dm t))) 4 (kB (o_pv t))) := ⟨_, rfl⟩
    have hW : k_H g ad (set_w_m t M9) H := by rw [hM9]; exact hW
    refine lv_iconst (v := nI 0) hx hb dL_acts_457 (by decide) ?_
    refine lv_istore (lv' := [(10, .int (nI 0)), (9, .int (nI 0)), (8, .int (nI cp)), (0, .ref (ad 0 0)), (1, .ref (ad 9 0)), (2, .ref (ad 10 0)), (3, .ref (ad 11 0)), (4, .ref (ad 12 0)), (5, .ref (ad 13 0)), (6, .int (nI wy)), (7, .int (nI z))]) hx hb dL_acts_458 hl (by decide) rfl (fun ls hl => ?_)
    refine lv_iconst (v := nI 0) hx hb dL_acts_460 (by decide) ?_
    refine lv_istore (lv' := [(11, .int (nI 0)), (10, .int (nI 0)), (9, .int (nI 0)), (8, .int (nI cp)), (0, .ref (ad 0 0)), (1, .ref (ad 9 0)), (2, .ref (ad 10 0)), (3, .ref (ad 11 0)), (4, .ref (ad 12 0)), (5, .ref (ad 13 0)), (6, .int (nI wy)), (7, .int (nI z))]) hx hb dL_acts_461 hl (by decide) rfl (fun ls hl => ?_)
    have hloop_463 : ∀ (n : Nat) (k : Nat) (cn : Nat), (s_md t < k + n) → (k ≤ s_md t) → (cn = k_cb (fun q => k_P (s_th t) (o_on t) (s_md t) (s_r1 t) (s_r2 t) (s_r3 t) q && (k_cl (o_b t) q).any (o_dm t)) k) → ∀ (H : Heap) (locs : List Loc), k_H g ad (set_w_m t M9) H → va_S (k_A g) s.heap H locs → ∀ (ls : Array Slot), lv_has ls 15 [(0, .ref (ad 0 0)), (1, .ref (ad 9 0)), (2, .ref (ad 10 0)), (3, .ref (ad 11 0)), (4, .ref (ad 12 0)), (5, .ref (ad 13 0)), (6, .int (nI wy)), (7, .int (nI z)), (8, .int (nI cp)), (9, .int (nI 0)), (10, .int (nI cn)), (11, .int (nI k))] → W p l e rm_L_acts s m args below meth c H locs 0 0 Q (F0 m 463 ls []) := by
      intro n
      induction n with
      | zero =>
        intro k cn hfu hk hcn
        exact absurd hfu (by omega)
      | succ n ih =>
        intro k cn hfu hk hcn H locs hW hS ls hl
        refine lv_iload hx hb dL_acts_463 (lv_at hl 11 rfl) ?_
        refine lv_aload hx hb dL_acts_465 (lv_at hl 4 rfl) ?_
        refine lv_iconst (v := nI 0) hx hb dL_acts_467 (by decide) ?_
        refine k_iald hx hb hK hW (kc_12 g ad (set_w_m t M9)) 0 rfl (by omega) (by decide) dL_acts_468 ?_
        refine k_tov (y := .int (M9 0)) rfl ?_
        refine k_toi (y := nI (s_md t)) ((show M9 0 = w_m t 0 by rw [hM9, va_up_ne _ _ (by decide), va_up_ne _ _ (by decide)]).trans hJ.wm0) ?_
        refine k_icmp_ge (tgt := 517) hx hb (a := k) (b := s_md t) (by omega) (by omega) dL_acts_469 (by decide) (fun h_469 => ?_) (fun h_469 => ?_)
        · refine lv_aload_n hx hb dL_acts_517 rfl (lv_at hl 0 rfl) ?_
          refine lv_iload hx hb dL_acts_518 (lv_at hl 8 rfl) ?_
          refine k_ci (lw_va (vx_runSX (As := [.ref (ad 0 0), .int (nI cp)]) (rest := []) ⟨hx, hb, hml, hown, hts⟩ (cw_damage_b l hlt g ad (set_w_m t M9) (nI cp) (Or.inr (Or.inr ⟨cp, by omega, rfl, hs⟩))) (vx_cwSW 2 hts gL_acts_L_damaged rfl rfl rfl (by decide +kernel) ⟨(Nat.le_of_ble_eq_true rfl), (Nat.le_of_ble_eq_true rfl)⟩) ⟨k_blind, fun U hU hw => ⟨rfl, k_I.of hK hZ hN hS hW hU hw⟩⟩ rfl rfl hl.1 rfl (lv_room (Nat.le_of_ble_eq_true rfl)) dL_acts_520 ⟨(Nat.le_of_ble_eq_true rfl), (Nat.le_of_ble_eq_true rfl)⟩)) hS (fun r u H locs hpo hW hS => ?_)
          obtain ⟨hr9, hu9⟩ := hpo; replace hu9 := hu9.symm; subst hu9; replace hr9 := hr9.symm; subst hr9
          refine lv_iload hx hb dL_acts_523 (lv_at hl 9 rfl) ?_
          refine lv_if_eq (tgt := 533) hx hb dL_acts_525 (by decide) (fun h_525 => ?_) (fun h_525 => absurd h_525 (by decide))
          refine lv_bipush (v := (-5)) hx hb dL_acts_533 (by decide) ?_
          refine lv_icmp_ne (tgt := 542) hx hb dL_acts_535 (by decide) (fun h_535 => absurd rfl h_535) (fun h_535 => ?_)
          refine lv_iconst (v := nI 1) hx hb dL_acts_538 (by decide) ?_
          refine lv_goto (tgt := 543) hx hb dL_acts_539 (by decide) ?_
          exact k_rzA hQ hx hb hr rfl hlk hS hW ⟨rfl, (hJ.wm (fun i _ => by rw [hM9, q_same (by rw [va_up_ne _ _ (by decide)]; exact hJ.wm4.symm) i, q_same hJ.wm3.symm i])).mono (Nat.le_succ _), (fun _ _ _ _ => rfl)⟩ (Nat.le_of_ble_eq_true rfl) (Nat.le_of_ble_eq_true rfl) dL_acts_543
        · refine lv_iload hx hb dL_acts_472 (lv_at hl 10 rfl) ?_
          refine lv_aload_n hx hb dL_acts_474 rfl (lv_at hl 1 rfl) ?_
          refine lv_aload hx hb dL_acts_475 (lv_at hl 4 rfl) ?_
          refine k_ci (va_runS (As := [.ref (ad 9 0), .ref (ad 12 0)]) (rest := [.int (nI cn)]) ⟨hx, hb, hml, hown, hts⟩ (c_L_promised l hlt g ad (set_w_m t M9) (s_md t) (s_th t) (o_on t) (o_b t) (s_r1 t) (s_r2 t) (s_r3 t) (hJ.A9 (M := M9) (by rw [hM9, va_up_ne _ _ (by decide), va_up_ne _ _ (by decide)]) (by rw [hM9, va_up_ne _ _ (by decide), va_up_ne _ _ (by decide)])) ⟨((show M9 5 = w_m t 5 by rw [hM9, va_up_ne _ _ (by decide), va_up_ne _ _ (by decide)]).trans hJ.wm5), ((show M9 6 = w_m t 6 by rw [hM9, va_up_ne _ _ (by decide), va_up_ne _ _ (by decide)]).trans hJ.wm6), ((show M9 7 = w_m t 7 by rw [hM9, va_up_ne _ _ (by decide), va_up_ne _ _ (by decide)]).trans hJ.wm7), hJ.r1b, hJ.r2b, hJ.r3b⟩) (va_cwS 2 hts gL_acts_L_promised rfl rfl rfl (by decide +kernel) ⟨(Nat.le_of_ble_eq_true rfl), (Nat.le_of_ble_eq_true rfl)⟩) ⟨k_blind, fun U hU hw => ⟨rfl, k_I.of hK hZ hN hS hW hU hw⟩⟩ rfl rfl hl.1 rfl (lv_room (Nat.le_of_ble_eq_true rfl)) dL_acts_477 ⟨(Nat.le_of_ble_eq_true rfl), (Nat.le_of_ble_eq_true rfl)⟩) hS (fun r u H locs hpo hW hS => ?_)
          obtain ⟨hr9, hu9⟩ := hpo; replace hu9 := hu9.symm; subst hu9; replace hr9 := hr9.symm; subst hr9
          refine lv_iload hx hb dL_acts_480 (lv_at hl 11 rfl) ?_
          refine lv_ishr hx hb dL_acts_482 ?_
          refine lv_iconst (v := nI 1) hx hb dL_acts_483 (by decide) ?_
          refine lv_iand hx hb dL_acts_484 ?_
          refine k_toi (y := kb ((k_P (s_th t) (o_on t) (s_md t) (s_r1 t) (s_r2 t) (s_r3 t)) k)) (kB_bit (k_P (s_th t) (o_on t) (s_md t) (s_r1 t) (s_r2 t) (s_r3 t)) (by omega)) ?_
          refine lv_iconst (v := nI 1) hx hb dL_acts_485 (by decide) ?_
          refine k_b1_ne (tgt := 507) hx hb dL_acts_486 (by decide) (fun h_486 => ?_) (fun h_486 => ?_)
          · refine lv_iconst (v := nI 0) hx hb dL_acts_507 (by decide) ?_
            refine k_iadd hx hb dL_acts_508 ?_
            refine lv_istore (lv' := [(10, .int (nI (cn + 0))), (0, .ref (ad 0 0)), (1, .ref (ad 9 0)), (2, .ref (ad 10 0)), (3, .ref (ad 11 0)), (4, .ref (ad 12 0)), (5, .ref (ad 13 0)), (6, .int (nI wy)), (7, .int (nI z)), (8, .int (nI cp)), (9, .int (nI 0)), (11, .int (nI k))]) hx hb dL_acts_509 hl (by decide) rfl (fun ls hl => ?_)
            refine lv_iinc (v := nI (k + 1)) (lv' := [(11, .int (nI (k + 1))), (10, .int (nI (cn + 0))), (0, .ref (ad 0 0)), (1, .ref (ad 9 0)), (2, .ref (ad 10 0)), (3, .ref (ad 11 0)), (4, .ref (ad 12 0)), (5, .ref (ad 13 0)), (6, .int (nI wy)), (7, .int (nI z)), (8, .int (nI cp)), (9, .int (nI 0))]) hx hb dL_acts_511 hl (k := 11) rfl (nI_add _ _) (by decide) rfl (fun ls hl => ?_)
            refine lv_goto (tgt := 463) hx hb dL_acts_514 (by decide) ?_
            exact ih (k + 1) (cn + 0) (by omega) (by omega) (by rw [k_cb_n (by rw [h_486, Bool.false_and])]; exact hcn) _ _ hW hS _ (lv_sub hl [2, 3, 4, 5, 6, 7, 8, 9, 10, 11, 1, 0] rfl)
          · refine lv_aload_n hx hb dL_acts_489 rfl (lv_at hl 1 rfl) ?_
            refine lv_iload hx hb dL_acts_490 (lv_at hl 11 rfl) ?_
            refine k_ci (va_runS (As := [.ref (ad 9 0), .int (nI k)]) (rest := [.int (nI cn)]) ⟨hx, hb, hml, hown, hts⟩ (c_L_chain l hlt g ad (set_w_m t M9) k (s_md t) (o_b t) h_469 hm14 hJ.wx1 hJ.blt) (va_cwS 2 hts gL_acts_L_chain rfl rfl rfl (by decide +kernel) ⟨(Nat.le_of_ble_eq_true rfl), (Nat.le_of_ble_eq_true rfl)⟩) ⟨k_blind, fun U hU hw => ⟨rfl, k_I.of hK hZ hN hS hW hU hw⟩⟩ rfl rfl hl.1 rfl (lv_room (Nat.le_of_ble_eq_true rfl)) dL_acts_492 ⟨(Nat.le_of_ble_eq_true rfl), (Nat.le_of_ble_eq_true rfl)⟩) hS (fun r u H locs hpo hW hS => ?_)
            obtain ⟨hr9, hu9⟩ := hpo; replace hu9 := hu9.symm; subst hu9; replace hr9 := hr9.symm; subst hr9
            refine lv_aload hx hb dL_acts_495 (lv_at hl 4 rfl) ?_
            refine lv_iconst (v := nI 3) hx hb dL_acts_497 (by decide) ?_
            refine k_iald hx hb hK hW (kc_12 g ad (set_w_m t M9)) 3 rfl (by omega) (by decide) dL_acts_498 ?_
            refine k_tov (y := .int (M9 3)) rfl ?_
            refine k_toi (y := kB (o_dm t)) (by rw [hM9, va_up_ne _ _ (by decide), va_up_self]) ?_
            refine lv_iand hx hb dL_acts_499 ?_
            refine k_toi (y := kB (fun j => (fun j => (k_cl (o_b t) k).contains j) j && (o_dm t) j)) (kB_and (fun j => (k_cl (o_b t) k).contains j) (o_dm t)) ?_
            refine lv_if_eq (tgt := 507) hx hb dL_acts_500 (by decide) (fun h_500 => ?_) (fun h_500 => ?_)
            · refine lv_iconst (v := nI 0) hx hb dL_acts_507 (by decide) ?_
              refine k_iadd hx hb dL_acts_508 ?_
              refine lv_istore (lv' := [(10, .int (nI (cn + 0))), (0, .ref (ad 0 0)), (1, .ref (ad 9 0)), (2, .ref (ad 10 0)), (3, .ref (ad 11 0)), (4, .ref (ad 12 0)), (5, .ref (ad 13 0)), (6, .int (nI wy)), (7, .int (nI z)), (8, .int (nI cp)), (9, .int (nI 0)), (11, .int (nI k))]) hx hb dL_acts_509 hl (by decide) rfl (fun ls hl => ?_)
              refine lv_iinc (v := nI (k + 1)) (lv' := [(11, .int (nI (k + 1))), (10, .int (nI (cn + 0))), (0, .ref (ad 0 0)), (1, .ref (ad 9 0)), (2, .ref (ad 10 0)), (3, .ref (ad 11 0)), (4, .ref (ad 12 0)), (5, .ref (ad 13 0)), (6, .int (nI wy)), (7, .int (nI z)), (8, .int (nI cp)), (9, .int (nI 0))]) hx hb dL_acts_511 hl (k := 11) rfl (nI_add _ _) (by decide) rfl (fun ls hl => ?_)
              refine lv_goto (tgt := 463) hx hb dL_acts_514 (by decide) ?_
              exact ih (k + 1) (cn + 0) (by omega) (by omega) (by rw [k_cb_n (by rw [q_any0' (by omega) h_500, Bool.and_false])]; exact hcn) _ _ hW hS _ (lv_sub hl [2, 3, 4, 5, 6, 7, 8, 9, 10, 11, 1, 0] rfl)
            · refine lv_iconst (v := nI 1) hx hb dL_acts_503 (by decide) ?_
              refine lv_goto (tgt := 508) hx hb dL_acts_504 (by decide) ?_
              refine k_iadd hx hb dL_acts_508 ?_
              refine lv_istore (lv' := [(10, .int (nI (cn + 1))), (0, .ref (ad 0 0)), (1, .ref (ad 9 0)), (2, .ref (ad 10 0)), (3, .ref (ad 11 0)), (4, .ref (ad 12 0)), (5, .ref (ad 13 0)), (6, .int (nI wy)), (7, .int (nI z)), (8, .int (nI cp)), (9, .int (nI 0)), (11, .int (nI k))]) hx hb dL_acts_509 hl (by decide) rfl (fun ls hl => ?_)
              refine lv_iinc (v := nI (k + 1)) (lv' := [(11, .int (nI (k + 1))), (10, .int (nI (cn + 1))), (0, .ref (ad 0 0)), (1, .ref (ad 9 0)), (2, .ref (ad 10 0)), (3, .ref (ad 11 0)), (4, .ref (ad 12 0)), (5, .ref (ad 13 0)), (6, .int (nI wy)), (7, .int (nI z)), (8, .int (nI cp)), (9, .int (nI 0))]) hx hb dL_acts_511 hl (k := 11) rfl (nI_add _ _) (by decide) rfl (fun ls hl => ?_)
              refine lv_goto (tgt := 463) hx hb dL_acts_514 (by decide) ?_
              exact ih (k + 1) (cn + 1) (by omega) (by omega) (by rw [k_cb_y (by rw [h_486, q_any1' h_500]; rfl), hcn]) _ _ hW hS _ (lv_sub hl [2, 3, 4, 5, 6, 7, 8, 9, 10, 11, 1, 0] rfl)
    exact hloop_463 (s_md t + 1) 0 0 (by omega) (by omega) rfl _ _ hW hS _ (lv_sub hl [4, 5, 6, 7, 8, 9, 10, 11, 3, 2, 1, 0] rfl)
