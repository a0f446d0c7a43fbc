set_option maxRecDepth 100000 in
set_option maxHeartbeats 4000000 in
theorem c_L_acts_rules (l : Launch) (hlt : l.stackTraces = false) (g : k_g) (ad : k_AD) (t : k_T) (e9 : Nat) (wy : Nat) (z : Nat) (cp : Nat) (hJ : q_J e9 t) (he : e9 ≤ 190) (hw1 : 15 ≤ wy) (hw2 : wy < 16) (hzz : z < 10000000) (hcp : z % (s_md t + 1) = cp) : Met l yL_acts wsL_acts rm_L_acts (va_Pc [.ref (ad 0 0), .ref (ad 9 0), .ref (ad 10 0), .ref (ad 11 0), .ref (ad 12 0), .ref (ad 13 0), .int (nI wy), .int (nI z)] (k_I g (k_ct g ad t) ad)) (va_Qi (S := k_T × k_AD) (fun r u => r = nI 1 ∧ q_J (e9 + 1) u.1 ∧ ∀ a b, a ≠ 25 → a ≠ 26 → u.2 a b = ad a b) (fun u U => k_H g u.2 u.1 U.heap) (k_A g)) 24 171 (k_A g) := by
  refine k_met (cc := cL_acts) (maxL := 15) (ret := (some .boolean)) (by decide) rfl (Nat.le_of_ble_eq_true rfl) (fun p e s m args below meth c Q ls hQ hx hb hr hml hts hown hlk hin hK hZ hN hW hS hl => ?_)
  have hown : s.vm.findClass RL = some m.cls := hown
  have hW : k_H g ad t s.heap := hW
  have hl : lv_has ls 15 [(0, .ref (ad 0 0)), (1, .ref (ad 9 0)), (2, .ref (ad 10 0)), (3, .ref (ad 11 0)), (4, .ref (ad 12 0)), (5, .ref (ad 13 0)), (6, .int (nI wy)), (7, .int (nI z))] := hl
  have hm14 := hJ.m14
  have hd58 := hJ.d58
  have hcl : cp ≤ s_md t := by rw [← hcp]; exact Nat.lt_succ_iff.mp (Nat.mod_lt _ (Nat.succ_pos _))
  refine lv_iload hx hb dL_acts_0 (lv_at hl 6 rfl) ?_
  refine lv_iconst (v := nI 5) hx hb dL_acts_2 (by decide) ?_
  refine k_icmp_ge (tgt := 97) hx hb (a := wy) (b := 5) (by omega) (by decide) dL_acts_3 (by decide) (fun h_3 => ?_) (fun h_3 => absurd h_3 (by omega))
  refine lv_iload hx hb dL_acts_97 (lv_at hl 6 rfl) ?_
  refine lv_bipush (v := nI 8) hx hb dL_acts_99 (by decide) ?_
  refine k_icmp_ge (tgt := 181) hx hb (a := wy) (b := 8) (by omega) (by decide) dL_acts_101 (by decide) (fun h_101 => ?_) (fun h_101 => absurd h_101 (by omega))
  refine lv_iload hx hb dL_acts_181 (lv_at hl 6 rfl) ?_
  refine lv_bipush (v := nI 12) hx hb dL_acts_183 (by decide) ?_
  refine k_icmp_ge (tgt := 227) hx hb (a := wy) (b := 12) (by omega) (by decide) dL_acts_185 (by decide) (fun h_185 => ?_) (fun h_185 => absurd h_185 (by omega))
  have hcut_267 : ∀ (H : Heap) (locs : List Loc), k_H g ad t H → va_S (k_A g) s.heap H locs → ∀ (ls : Array Slot), lv_has ls 15 [(0, .ref (ad 0 0)), (1, .ref (ad 9 0)), (2, .ref (ad 10 0)), (3, .ref (ad 11 0)), (4, .ref (ad 12 0)), (5, .ref (ad 13 0)), (6, .int (nI wy)), (7, .int (nI z))] → W p l e rm_L_acts s m args below meth c H locs 0 0 Q (F0 m 267 ls []) := by
    intro   H locs hW hS ls hl
    refine lv_iload hx hb dL_acts_267 (lv_at hl 6 rfl) ?_
    refine lv_bipush (v := nI 14) hx hb dL_acts_269 (by decide) ?_
    refine k_icmp_ge (tgt := 391) hx hb (a := wy) (b := 14) (by omega) (by decide) dL_acts_271 (by decide) (fun h_271 => ?_) (fun h_271 => absurd h_271 (by omega))
    refine lv_iload hx hb dL_acts_391 (lv_at hl 6 rfl) ?_
    refine lv_bipush (v := nI 14) hx hb dL_acts_393 (by decide) ?_
    refine k_icmp_ne (tgt := 544) hx hb (a := wy) (b := 14) (by omega) (by decide) dL_acts_395 (by decide) (fun h_395 => ?_) (fun h_395 => absurd h_395 (by omega))
    refine lv_iload hx hb dL_acts_544 (lv_at hl 6 rfl) ?_
    refine lv_bipush (v := nI 15) hx hb dL_acts_546 (by decide) ?_
    refine k_icmp_ne (tgt := 618) hx hb (a := wy) (b := 15) (by omega) (by decide) dL_acts_548 (by decide) (fun h_548 => absurd h_548 (by omega)) (fun h_548 => ?_)
    refine lv_aload hx hb dL_acts_551 (lv_at hl 4 rfl) ?_
    refine lv_iconst (v := nI 5) hx hb dL_acts_553 (by decide) ?_
    refine lv_iload hx hb dL_acts_554 (lv_at hl 7 rfl) ?_
    refine lv_iconst (v := nI 5) hx hb dL_acts_556 (by decide) ?_
    refine lv_irem hx hb dL_acts_557 (by decide) ?_
    refine k_toi (pk_rem (by omega) (by decide) (by decide)) ?_
    refine k_iast hx hb hK hW hS (kc_12 g ad t) 5 rfl (by omega) (by decide) dL_acts_558 (fun H locs hW hS => ?_)
    have hW : k_H g ad (set_w_m t (va_up (w_m t) 5 (nI (z % 5)))) H := kt_w_m (t := t) 5 (nI (z % 5)) rfl hW
    refine lv_aload hx hb dL_acts_559 (lv_at hl 4 rfl) ?_
    refine lv_bipush (v := nI 6) hx hb dL_acts_561 (by decide) ?_
    refine lv_iload hx hb dL_acts_563 (lv_at hl 7 rfl) ?_
    refine lv_iconst (v := nI 5) hx hb dL_acts_565 (by decide) ?_
    refine lv_idiv hx hb dL_acts_566 (by decide) ?_
    refine k_toi (pk_div (by omega) (by decide) (by decide)) ?_
    refine lv_iconst (v := nI 4) hx hb dL_acts_567 (by decide) ?_
    refine lv_irem hx hb dL_acts_568 (by decide) ?_
    refine k_toi (pk_rem (by omega) (by decide) (by decide)) ?_
    refine k_iast hx hb hK hW hS (kc_12 g ad (set_w_m t (va_up (w_m t) 5 (nI (z % 5))))) 6 rfl (by omega) (by decide) dL_acts_569 (fun H locs hW hS => ?_)
    have hW : k_H g ad (set_w_m t (va_up (va_up (w_m t) 5 (nI (z % 5))) 6 (nI ((z / 5) % 4)))) H := kt_w_m (t := set_w_m t (va_up (w_m t) 5 (nI (z % 5)))) 6 (nI ((z / 5) % 4)) rfl hW
    refine lv_aload hx hb dL_acts_570 (lv_at hl 4 rfl) ?_
    refine lv_bipush (v := nI 7) hx hb dL_acts_572 (by decide) ?_
    refine lv_iload hx hb dL_acts_574 (lv_at hl 7 rfl) ?_
    refine lv_bipush (v := nI 20) hx hb dL_acts_576 (by decide) ?_
    refine lv_idiv hx hb dL_acts_578 (by decide) ?_
    refine k_toi (pk_div (by omega) (by decide) (by decide)) ?_
    refine lv_iconst (v := nI 3) hx hb dL_acts_579 (by decide) ?_
    refine lv_irem hx hb dL_acts_580 (by decide) ?_
    refine k_toi (pk_rem (by omega) (by decide) (by decide)) ?_
    refine k_iast hx hb hK hW hS (kc_12 g ad (set_w_m t (va_up (va_up (w_m t) 5 (nI (z % 5))) 6 (nI ((z / 5) % 4))))) 7 rfl (by omega) (by decide) dL_acts_581 (fun H locs hW hS => ?_)
    have hW : k_H g ad (set_w_m t (va_up (va_up (va_up (w_m t) 5 (nI (z % 5))) 6 (nI ((z / 5) % 4))) 7 (nI ((z / 20) % 3)))) H := kt_w_m (t := set_w_m t (va_up (va_up (w_m t) 5 (nI (z % 5))) 6 (nI ((z / 5) % 4)))) 7 (nI ((z / 20) % 3)) rfl hW
    obtain ⟨M9, hM9⟩ : ∃ M9 : Nat → Int32, M9 = (va_up (va_up (va_up (w_m t) 5 (nI (z % 5))) 6 (nI ((z / 5) % 4))) 7 (nI ((z / 20) % 3))) := ⟨_, rfl⟩
    have hW : k_H g ad (set_w_m t M9) H := by rw [hM9]; exact hW
    refine lv_aload_n hx hb dL_acts_582 rfl (lv_at hl 0 rfl) ?_
    refine lv_aload hx hb dL_acts_583 (lv_at hl 4 rfl) ?_
    refine lv_iconst (v := nI 5) hx hb dL_acts_585 (by decide) ?_
    refine k_iald hx hb hK hW (kc_12 g ad (set_w_m t M9)) 5 rfl (by omega) (by decide) dL_acts_586 ?_
    refine k_tov (y := .int (M9 5)) rfl ?_
    refine k_toi (y := nI (z % 5)) (by rw [hM9, va_up_ne _ _ (by decide), va_up_ne _ _ (by decide), va_up_self]) ?_
    refine lv_aload hx hb dL_acts_587 (lv_at hl 4 rfl) ?_
    refine lv_bipush (v := nI 6) hx hb dL_acts_589 (by decide) ?_
    refine k_iald hx hb hK hW (kc_12 g ad (set_w_m t M9)) 6 rfl (by omega) (by decide) dL_acts_591 ?_
    refine k_tov (y := .int (M9 6)) rfl ?_
    refine k_toi (y := nI ((z / 5) % 4)) (by rw [hM9, va_up_ne _ _ (by decide), va_up_self]) ?_
    refine lv_aload hx hb dL_acts_592 (lv_at hl 4 rfl) ?_
    refine lv_bipush (v := nI 7) hx hb dL_acts_594 (by decide) ?_
    refine k_iald hx hb hK hW (kc_12 g ad (set_w_m t M9)) 7 rfl (by omega) (by decide) dL_acts_596 ?_
    refine k_tov (y := .int (M9 7)) rfl ?_
    refine k_toi (y := nI ((z / 20) % 3)) (by rw [hM9, va_up_self]) ?_
    refine k_ci (va_runV (As := [.int (nI (z % 5)), .int (nI ((z / 5) % 4)), .int (nI ((z / 20) % 3))]) (rest := []) ⟨hx, hb, hml, hown, hts⟩ (c_X4_setRules_ok l hlt g ad (set_w_m t M9) (z % 5) ((z / 5) % 4) ((z / 20) % 3) (by omega) (by omega) (by omega) hJ.hwf hJ.hbs hJ.bth hJ.hn60 hJ.hon) (cwV 3 hts gL_acts_X4_setRules rfl rfl rfl (by decide +kernel) ⟨(Nat.le_of_ble_eq_true rfl), (Nat.le_of_ble_eq_true rfl)⟩) ⟨k_blind, k_recv hK hW (kc_0 g ad (set_w_m t M9)) rfl, fun U hU hw => ⟨rfl, k_I.of hK hZ hN hS hW hU hw⟩⟩ rfl rfl hl.1 rfl (lv_room (Nat.le_of_ble_eq_true rfl)) dL_acts_597 ⟨(Nat.le_of_ble_eq_true rfl), (Nat.le_of_ble_eq_true rfl)⟩) hS (fun r u H locs hpo hW hS => ?_)
    obtain ⟨hr9, hu9⟩ := hpo; replace hu9 := hu9.symm; subst hu9; replace hr9 := hr9.symm; subst hr9
    have hW : k_H g ad (set_o_nd (set_o_pm (set_s_r3 (set_s_r2 (set_s_r1 (set_w_m t M9) (z % 5)) ((z / 5) % 4)) ((z / 20) % 3)) (k_Pm (s_th t) (o_pm t) (o_on t) (z % 5) ((z / 5) % 4) ((z / 20) % 3))) (k_Nm (s_th t) (o_nd t) (k_Pm (s_th t) (o_pm t) (o_on t) (z % 5) ((z / 5) % 4) ((z / 20) % 3)) (o_b t))) H := hW
    obtain ⟨N9, hN9⟩ : ∃ N9 : Nat → Bool, N9 = (k_Nm (s_th t) (o_nd t) (k_Pm (s_th t) (o_pm t) (o_on t) (z % 5) ((z / 5) % 4) ((z / 20) % 3)) (o_b t)) := ⟨_, rfl⟩
    obtain ⟨P9, hP9⟩ : ∃ P9 : Nat → Bool, P9 = (k_Pm (s_th t) (o_pm t) (o_on t) (z % 5) ((z / 5) % 4) ((z / 20) % 3)) := ⟨_, rfl⟩
    have hW : k_H g ad (set_o_nd (set_o_pm (set_s_r3 (set_s_r2 (set_s_r1 (set_w_m t M9) (z % 5)) ((z / 5) % 4)) ((z / 20) % 3)) P9) N9) H := by rw [hN9, hP9]; exact hW
    refine lv_aload_n hx hb dL_acts_600 rfl (lv_at hl 1 rfl) ?_
    refine lv_aload hx hb dL_acts_601 (lv_at hl 4 rfl) ?_
    refine k_ci (va_runS (As := [.ref (ad 9 0), .ref (ad 12 0)]) (rest := [.int (nI (k_cb (fun k => (s_th t) k && (k_Pm (s_th t) (o_pm t) (o_on t) (z % 5) ((z / 5) % 4) ((z / 20) % 3)) k) 60))]) ⟨hx, hb, hml, hown, hts⟩ (c_L_promised l hlt g ad (set_o_nd (set_o_pm (set_s_r3 (set_s_r2 (set_s_r1 (set_w_m t M9) (z % 5)) ((z / 5) % 4)) ((z / 20) % 3)) P9) N9) (s_md t) (s_th t) (o_on t) (o_b t) (z % 5) ((z / 5) % 4) ((z / 20) % 3) (hJ.A9 (M := M9) (by rw [hM9, va_up_ne _ _ (by decide), va_up_ne _ _ (by decide), va_up_ne _ _ (by decide)]) (by rw [hM9, va_up_ne _ _ (by decide), va_up_ne _ _ (by decide), va_up_ne _ _ (by decide)])) ⟨(show M9 5 = nI (z % 5) from by rw [hM9, va_up_ne _ _ (by decide), va_up_ne _ _ (by decide), va_up_self]), (show M9 6 = nI ((z / 5) % 4) from by rw [hM9, va_up_ne _ _ (by decide), va_up_self]), (show M9 7 = nI ((z / 20) % 3) from by rw [hM9, va_up_self]), (by omega), (by omega), (by omega)⟩) (va_cwS 2 hts gL_acts_L_promised rfl rfl rfl (by decide +kernel) ⟨(Nat.le_of_ble_eq_true rfl), (Nat.le_of_ble_eq_true rfl)⟩) ⟨k_blind, fun U hU hw => ⟨rfl, k_I.of hK hZ hN hS hW hU hw⟩⟩ rfl rfl hl.1 rfl (lv_room (Nat.le_of_ble_eq_true rfl)) dL_acts_603 ⟨(Nat.le_of_ble_eq_true rfl), (Nat.le_of_ble_eq_true rfl)⟩) hS (fun r u H locs hpo hW hS => ?_)
    obtain ⟨hr9, hu9⟩ := hpo; replace hu9 := hu9.symm; subst hu9; replace hr9 := hr9.symm; subst hr9
    refine k_ci (va_runS (As := [.int (kB (k_P (s_th t) (o_on t) (s_md t) (z % 5) ((z / 5) % 4) ((z / 20) % 3)))]) (rest := [.int (nI (k_cb (fun k => (s_th t) k && (k_Pm (s_th t) (o_pm t) (o_on t) (z % 5) ((z / 5) % 4) ((z / 20) % 3)) k) 60))]) ⟨hx, hb, hml, hown, hts⟩ (c_L_ones l hlt g ad (set_o_nd (set_o_pm (set_s_r3 (set_s_r2 (set_s_r1 (set_w_m t M9) (z % 5)) ((z / 5) % 4)) ((z / 20) % 3)) P9) N9) (k_P (s_th t) (o_on t) (s_md t) (z % 5) ((z / 5) % 4) ((z / 20) % 3)) ) (va_cwS 1 hts gL_acts_L_ones rfl rfl rfl (by decide +kernel) ⟨(Nat.le_of_ble_eq_true rfl), (Nat.le_of_ble_eq_true rfl)⟩) ⟨k_blind, fun U hU hw => ⟨rfl, k_I.of hK hZ hN hS hW hU hw⟩⟩ rfl rfl hl.1 rfl (lv_room (Nat.le_of_ble_eq_true rfl)) dL_acts_606 ⟨(Nat.le_of_ble_eq_true rfl), (Nat.le_of_ble_eq_true rfl)⟩) hS (fun r u H locs hpo hW hS => ?_)
    obtain ⟨hr9, hu9⟩ := hpo; replace hu9 := hu9.symm; subst hu9; replace hr9 := hr9.symm; subst hr9
    refine k_toi (y := nI (k_cb (fun k => (s_th t) k && (k_Pm (s_th t) (o_pm t) (o_on t) (z % 5) ((z / 5) % 4) ((z / 20) % 3)) k) 60)) (congrArg nI (q_cntP hJ.wf hm14).symm) ?_
    refine lv_icmp_ne (tgt := 616) hx hb dL_acts_609 (by decide) (fun h_609 => absurd rfl h_609) (fun h_609 => ?_)
    refine lv_iconst (v := nI 1) hx hb dL_acts_612 (by decide) ?_
    refine lv_goto (tgt := 617) hx hb dL_acts_613 (by decide) ?_
    exact k_rzA hQ hx hb hr rfl hlk hS hW ⟨rfl, (hJ.rules (M := M9) (by omega) (by omega) (by omega) (fun i hi => by rw [hM9, va_up_ne _ _ (by omega), va_up_ne _ _ (by omega), va_up_ne _ _ (by omega)]) (show M9 5 = nI (z % 5) from by rw [hM9, va_up_ne _ _ (by decide), va_up_ne _ _ (by decide), va_up_self]) (show M9 6 = nI ((z / 5) % 4) from by rw [hM9, va_up_ne _ _ (by decide), va_up_self]) (show M9 7 = nI ((z / 20) % 3) from by rw [hM9, va_up_self])).mono (Nat.le_succ _), (fun _ _ _ _ => rfl)⟩ (Nat.le_of_ble_eq_true rfl) (Nat.le_of_ble_eq_true rfl) dL_acts_617
  refine lv_iload hx hb dL_acts_227 (lv_at hl 7 rfl) ?_
  refine lv_aload hx hb dL_acts_229 (lv_at hl 4 rfl) ?_
  refine lv_iconst (v := nI 0) hx hb dL_acts_231 (by decide) ?_
  refine k_iald hx hb hK hW (kc_12 g ad t) 0 rfl (by omega) (by decide) dL_acts_232 ?_
  refine k_toi (y := nI (s_md t)) hJ.wm0 ?_
  refine lv_iconst (v := nI 1) hx hb dL_acts_233 (by decide) ?_
  refine k_iadd hx hb dL_acts_234 ?_
  refine lv_irem hx hb dL_acts_235 (fun q => by have := (nI_eq (a := (s_md t) + 1) (b := 0) (by omega) (by decide)).mp q; omega) ?_
  refine k_toi (pk_rem (by omega) (by omega) (by omega)) ?_
  refine k_toi (y := nI cp) (congrArg nI hcp) ?_
  refine lv_istore (lv' := [(8, .int (nI cp)), (0, .ref (ad 0 0)), (1, .ref (ad 9 0)), (2, .ref (ad 10 0)), (3, .ref (ad 11 0)), (4, .ref (ad 12 0)), (5, .ref (ad 13 0)), (6, .int (nI wy)), (7, .int (nI z))]) hx hb dL_acts_236 hl (by decide) rfl (fun ls hl => ?_)
  refine lv_iload hx hb dL_acts_238 (lv_at hl 0 rfl) ?_
  refine lv_aload hx hb dL_acts_240 (lv_at hl 5 rfl) ?_
  refine lv_iconst (v := nI 0) hx hb dL_acts_242 (by decide) ?_
  refine k_iald hx hb hK hW (kc_12 g ad t) 0 rfl (by omega) (by decide) dL_acts_243 ?_
  refine k_toi (y := nI (s_md t)) hJ.wm0 ?_
  refine k_icmp_ge (tgt := 264) hx hb (a := cp) (b := s_md t) (by omega) (by omega) dL_acts_244 (by decide) (fun h_244 => ?_) (fun h_244 => ?_)
  · refine lv_iconst (v := nI 0) hx hb dL_acts_264 (by decide) ?_
    refine lv_istore (lv' := [(9, .int (nI 0)), (8, .int (nI cp)), (0, .ref (ad 0 0)), (1, .ref (ad 9 0)), (2, .ref (ad 10 0)), (3, .ref (ad 11 0)), (4, .ref (ad 12 0)), (5, .ref (ad 13 0)), (6, .int (nI wy)), (7, .int (nI z))]) hx hb dL_acts_265 hl (by decide) rfl (fun ls hl => ?_)
    exact hcut_267   _ _ hW hS _ (lv_sub hl [2, 3, 4, 5, 6, 7, 8, 9] rfl)
  · refine lv_aload hx hb dL_acts_247 (lv_at hl 5 rfl) ?_
    refine lv_iconst (v := nI 2) hx hb dL_acts_249 (by decide) ?_
    refine k_iald hx hb hK hW (kc_12 g ad t) 2 rfl (by omega) (by decide) dL_acts_250 ?_
    refine k_toi (y := kB (s_th t)) hJ.wm2 ?_
    refine lv_iload hx hb dL_acts_251 (lv_at hl 0 rfl) ?_
    refine lv_ishr hx hb dL_acts_253 ?_
    refine lv_iconst (v := nI 1) hx hb dL_acts_254 (by decide) ?_
    refine lv_iand hx hb dL_acts_255 ?_
    refine k_toi (y := kb ((s_th t) cp)) (kB_bit (s_th t) (by omega)) ?_
    refine lv_iconst (v := nI 1) hx hb dL_acts_256 (by decide) ?_
    refine k_b1_ne (tgt := 264) hx hb dL_acts_257 (by decide) (fun h_257 => ?_) (fun h_257 => ?_)
    · refine lv_iconst (v := nI 0) hx hb dL_acts_264 (by decide) ?_
      refine lv_istore (lv' := [(9, .int (nI 0)), (8, .int (nI cp)), (0, .ref (ad 0 0)), (1, .ref (ad 9 0)), (2, .ref (ad 10 0)), (3, .ref (ad 11 0)), (4, .ref (ad 12 0)), (5, .ref (ad 13 0)), (6, .int (nI wy)), (7, .int (nI z))]) hx hb dL_acts_265 hl (by decide) rfl (fun ls hl => ?_)
      exact hcut_267   _ _ hW hS _ (lv_sub hl [2, 3, 4, 5, 6, 7, 8, 9] rfl)
    · refine lv_iconst (v := nI 1) hx hb dL_acts_260 (by decide) ?_
      refine lv_goto (tgt := 265) hx hb dL_acts_261 (by decide) ?_
      refine lv_istore (lv' := [(9, .int (nI 1)), (8, .int (nI cp)), (0, .ref (ad 0 0)), (1, .ref (ad 9 0)), (2, .ref (ad 10 0)), (3, .ref (ad 11 0)), (4, .ref (ad 12 0)), (5, .ref (ad 13 0)), (6, .int (nI wy)), (7, .int (nI z))]) hx hb dL_acts_265 hl (by decide) rfl (fun ls hl => ?_)
      exact hcut_267   _ _ hW hS _ (lv_sub hl [2, 3, 4, 5, 6, 7, 8, 9] rfl)
set_option maxRecDepth 100000 in
set_option maxHeartbeats 4000000 in
theorem c_L_acts_thin (l : Launch) (hlt : l.stackTraces = false) (g : k_g) (ad : k_AD) (t : k_T) (e9 : Nat) (wy : Nat) (z : Nat) (cp : Nat) (hJ : q_J e9 t) (he : e9 ≤ 190) (hw1 : 16 ≤ wy) (hw2 : wy < 18) (hzz : z < 10000000) (hcp : z % (s_md t + 1) = cp) : Met l yL_acts wsL_acts rm_L_acts (va_Pc [.ref (ad 0 0), .ref (ad 9 0), .ref (ad 10 0), .ref (ad 11 0), .ref (ad 12 0), .ref (ad 13 0), .int (nI wy), .int (nI z)] (k_I g (k_ct g ad t) ad)) (va_Qi (S := k_T × k_AD) (fun r u => r = nI 1 ∧ q_J (e9 + 1) u.1 ∧ ∀ a b, a ≠ 25 → a ≠ 26 → u.2 a b = ad a b) (fun u U => k_H g u.2 u.1 U.heap) (k_A g)) 24 171 (k_A g) := by
  refine k_met (cc := cL_acts) (maxL := 15) (ret := (some .boolean)) (by decide) rfl (Nat.le_of_ble_eq_true rfl) (fun p e s m args below meth c Q ls hQ hx hb hr hml hts hown hlk hin hK hZ hN hW hS hl => ?_)
  have hown : s.vm.findClass RL = some m.cls := hown
  have hW : k_H g ad t s.heap := hW
  have hl : lv_has ls 15 [(0, .ref (ad 0 0)), (1, .ref (ad 9 0)), (2, .ref (ad 10 0)), (3, .ref (ad 11 0)), (4, .ref (ad 12 0)), (5, .ref (ad 13 0)), (6, .int (nI wy)), (7, .int (nI z))] := hl
  have hm14 := hJ.m14
  have hd58 := hJ.d58
  have hcl : cp ≤ s_md t := by rw [← hcp]; exact Nat.lt_succ_iff.mp (Nat.mod_lt _ (Nat.succ_pos _))
  refine lv_iload hx hb dL_acts_0 (lv_at hl 6 rfl) ?_
  refine lv_iconst (v := nI 5) hx hb dL_acts_2 (by decide) ?_
  refine k_icmp_ge (tgt := 97) hx hb (a := wy) (b := 5) (by omega) (by decide) dL_acts_3 (by decide) (fun h_3 => ?_) (fun h_3 => absurd h_3 (by omega))
  refine lv_iload hx hb dL_acts_97 (lv_at hl 6 rfl) ?_
  refine lv_bipush (v := nI 8) hx hb dL_acts_99 (by decide) ?_
  refine k_icmp_ge (tgt := 181) hx hb (a := wy) (b := 8) (by omega) (by decide) dL_acts_101 (by decide) (fun h_101 => ?_) (fun h_101 => absurd h_101 (by omega))
  refine lv_iload hx hb dL_acts_181 (lv_at hl 6 rfl) ?_
  refine lv_bipush (v := nI 12) hx hb dL_acts_183 (by decide) ?_
  refine k_icmp_ge (tgt := 227) hx hb (a := wy) (b := 12) (by omega) (by decide) dL_acts_185 (by decide) (fun h_185 => ?_) (fun h_185 => absurd h_185 (by omega))
  have hcut_267 : ∀ (H : Heap) (locs : List Loc), k_H g ad t H → va_S (k_A g) s.heap H locs → ∀ (ls : Array Slot), lv_has ls 15 [(0, .ref (ad 0 0)), (1, .ref (ad 9 0)), (2, .ref (ad 10 0)), (3, .ref (ad 11 0)), (4, .ref (ad 12 0)), (5, .ref (ad 13 0)), (6, .int (nI wy)), (7, .int (nI z))] → W p l e rm_L_acts s m args below meth c H locs 0 0 Q (F0 m 267 ls []) := by
    intro   H locs hW hS ls hl
    refine lv_iload hx hb dL_acts_267 (lv_at hl 6 rfl) ?_
    refine lv_bipush (v := nI 14) hx hb dL_acts_269 (by decide) ?_
    refine k_icmp_ge (tgt := 391) hx hb (a := wy) (b := 14) (by omega) (by decide) dL_acts_271 (by decide) (fun h_271 => ?_) (fun h_271 => absurd h_271 (by omega))
    refine lv_iload hx hb dL_acts_391 (lv_at hl 6 rfl) ?_
    refine lv_bipush (v := nI 14) hx hb dL_acts_393 (by decide) ?_
    refine k_icmp_ne (tgt := 544) hx hb (a := wy) (b := 14) (by omega) (by decide) dL_acts_395 (by decide) (fun h_395 => ?_) (fun h_395 => absurd h_395 (by omega))
    refine lv_iload hx hb dL_acts_544 (lv_at hl 6 rfl) ?_
    refine lv_bipush (v := nI 15) hx hb dL_acts_546 (by decide) ?_
    refine k_icmp_ne (tgt := 618) hx hb (a := wy) (b := 15) (by omega) (by decide) dL_acts_548 (by decide) (fun h_548 => ?_) (fun h_548 => absurd h_548 (by omega))
    refine lv_iload hx hb dL_acts_618 (lv_at hl 6 rfl) ?_
    refine lv_bipush (v := nI 18) hx hb dL_acts_620 (by decide) ?_
    refine k_icmp_ge (tgt := 644) hx hb (a := wy) (b := 18) (by omega) (by decide) dL_acts_622 (by decide) (fun h_622 => absurd h_622 (by omega)) (fun h_622 => ?_)
    refine lv_aload_n hx hb dL_acts_625 rfl (lv_at hl 0 rfl) ?_
    refine k_ci (va_runV (As := []) (rest := []) ⟨hx, hb, hml, hown, hts⟩ (c_X4_thin l hlt g ad t hJ.hwf hJ.hbs hJ.bth hJ.hn60 hJ.hon hJ.r1b hJ.r2b hJ.r3b) (cwV 0 hts gL_acts_X4_thin rfl rfl rfl (by decide +kernel) ⟨(Nat.le_of_ble_eq_true rfl), (Nat.le_of_ble_eq_true rfl)⟩) ⟨k_blind, k_recv hK hW (kc_0 g ad t) rfl, fun U hU hw => ⟨rfl, k_I.of hK hZ hN hS hW hU hw⟩⟩ rfl rfl hl.1 rfl (lv_room (Nat.le_of_ble_eq_true rfl)) dL_acts_626 ⟨(Nat.le_of_ble_eq_true rfl), (Nat.le_of_ble_eq_true rfl)⟩) hS (fun r u H locs hpo hW hS => ?_)
    obtain ⟨hr9, hu9⟩ := hpo; replace hu9 := hu9.symm; subst hu9; replace hr9 := hr9.symm; subst hr9
    have hW : k_H g ad (set_s_th (set_o_hd (set_o_nd (set_o_pm t (k_Pm (s_th t) (o_pm t) (o_on t) (s_r1 t) (s_r2 t) (s_r3 t))) (k_Nm (s_th t) (o_nd t) (k_Pm (s_th t) (o_pm t) (o_on t) (s_r1 t) (s_r2 t) (s_r3 t)) (o_b t))) (k_Hd (s_th t) (k_Nm (s_th t) (o_nd t) (k_Pm (s_th t) (o_pm t) (o_on t) (s_r1 t) (s_r2 t) (s_r3 t)) (o_b t)) (o_b t) (o_on t) (o_hd t) (k_lp (fun k => (s_th t) k && (o_pv t) k) (o_on t) 60))) (fun j => (s_th t) j && (k_Hd (s_th t) (k_Nm (s_th t) (o_nd t) (k_Pm (s_th t) (o_pm t) (o_on t) (s_r1 t) (s_r2 t) (s_r3 t)) (o_b t)) (o_b t) (o_on t) (o_hd t) (k_lp (fun k => (s_th t) k && (o_pv t) k) (o_on t) 60)) j)) H := hW
    obtain ⟨T9, hT9⟩ : ∃ T9 : Nat → Bool, T9 = (fun j => (s_th t) j && (k_Hd (s_th t) (k_Nm (s_th t) (o_nd t) (k_Pm (s_th t) (o_pm t) (o_on t) (s_r1 t) (s_r2 t) (s_r3 t)) (o_b t)) (o_b t) (o_on t) (o_hd t) (k_lp (fun k => (s_th t) k && (o_pv t) k) (o_on t) 60)) j) := ⟨_, rfl⟩
    obtain ⟨H9, hH9⟩ : ∃ H9 : Nat → Bool, H9 = (k_Hd (s_th t) (k_Nm (s_th t) (o_nd t) (k_Pm (s_th t) (o_pm t) (o_on t) (s_r1 t) (s_r2 t) (s_r3 t)) (o_b t)) (o_b t) (o_on t) (o_hd t) (k_lp (fun k => (s_th t) k && (o_pv t) k) (o_on t) 60)) := ⟨_, rfl⟩
    obtain ⟨N9, hN9⟩ : ∃ N9 : Nat → Bool, N9 = (k_Nm (s_th t) (o_nd t) (k_Pm (s_th t) (o_pm t) (o_on t) (s_r1 t) (s_r2 t) (s_r3 t)) (o_b t)) := ⟨_, rfl⟩
    obtain ⟨P9, hP9⟩ : ∃ P9 : Nat → Bool, P9 = (k_Pm (s_th t) (o_pm t) (o_on t) (s_r1 t) (s_r2 t) (s_r3 t)) := ⟨_, rfl⟩
    have hW : k_H g ad (set_s_th (set_o_hd (set_o_nd (set_o_pm t P9) N9) H9) T9) H := by rw [hT9, hH9, hN9, hP9]; exact hW
    refine lv_aload_n hx hb dL_acts_629 rfl (lv_at hl 1 rfl) ?_
    refine lv_aload hx hb dL_acts_630 (lv_at hl 4 rfl) ?_
    refine k_ci (va_runS (As := [.ref (ad 9 0), .ref (ad 12 0)]) (rest := [.int (nI (k_sm (fun k => (s_th t) k && !(k_Hd (s_th t) (k_Nm (s_th t) (o_nd t) (k_Pm (s_th t) (o_pm t) (o_on t) (s_r1 t) (s_r2 t) (s_r3 t)) (o_b t)) (o_b t) (o_on t) (o_hd t) (k_lp (fun k => (s_th t) k && (o_pv t) k) (o_on t) 60)) k) (fun k => (o_kc t) k + 1) 60))]) ⟨hx, hb, hml, hown, hts⟩ (c_L_thin l hlt g ad (set_s_th (set_o_hd (set_o_nd (set_o_pm t P9) N9) H9) T9) (s_md t) (s_th t) (o_on t) (o_b t) (s_r1 t) (s_r2 t) (s_r3 t) (o_pv t) (o_kc t) hJ.A hJ.R hJ.wm4 hJ.wx2) (va_cwS 2 hts gL_acts_L_thin rfl rfl rfl (by decide +kernel) ⟨(Nat.le_of_ble_eq_true rfl), (Nat.le_of_ble_eq_true rfl)⟩) ⟨k_blind, fun U hU hw => ⟨rfl, k_I.of hK hZ hN hS hW hU hw⟩⟩ rfl rfl hl.1 rfl (lv_room (Nat.le_of_ble_eq_true rfl)) dL_acts_632 ⟨(Nat.le_of_ble_eq_true rfl), (Nat.le_of_ble_eq_true rfl)⟩) hS (fun r u H locs hpo hW hS => ?_)
    obtain ⟨hr9, hu9⟩ := hpo; replace hu9 := hu9.symm; subst hu9; replace hr9 := hr9.symm; subst hr9
    have hW : k_H g ad (set_w_m (set_s_th (set_o_hd (set_o_nd (set_o_pm t P9) N9) H9) T9) (va_up (w_m t) 2 (kB (fun j => (s_th t) j && (k_nd (fun _ => true) (q_ST (s_th t) (k_nd (s_th t) (k_P (s_th t) (o_on t) (s_md t) (s_r1 t) (s_r2 t) (s_r3 t)) (o_b t) (s_md t)) (o_on t) (q_pf (fun q => (s_th t) q && (o_pv t) q) (o_on t) (s_md t))) (o_b t) (s_md t)) j)))) H := hW
    refine k_toi (y := nI (k_sm (fun k => (s_th t) k && !(k_Hd (s_th t) (k_Nm (s_th t) (o_nd t) (k_Pm (s_th t) (o_pm t) (o_on t) (s_r1 t) (s_r2 t) (s_r3 t)) (o_b t)) (o_b t) (o_on t) (o_hd t) (k_lp (fun k => (s_th t) k && (o_pv t) k) (o_on t) 60)) k) (fun k => (o_kc t) k + 1) 60)) (congrArg nI (k_sm_ext (M := s_md t) 60 (by omega) (fun k hk => by cases h9 : s_th t k with | false => rfl | true => show (true && !_) = (true && !_); rw [(q_thin hJ.wf (by omega) hJ.blt hJ.bth hJ.mo (fun k hk => by have := hJ.onb k hk; omega)) k h9]) (fun _ _ => rfl) (fun k hk => by rw [hJ.thf hk]; rfl)).symm) ?_
    refine lv_icmp_ne (tgt := 642) hx hb dL_acts_635 (by decide) (fun h_635 => absurd rfl h_635) (fun h_635 => ?_)
    refine lv_iconst (v := nI 1) hx hb dL_acts_638 (by decide) ?_
    refine lv_goto (tgt := 643) hx hb dL_acts_639 (by decide) ?_
    exact k_rzA hQ hx hb hr rfl hlk hS hW ⟨rfl, (hJ.thin (TH := T9) (by rw [hT9]; exact kB_ext fun i _ => by cases h9 : s_th t i with | false => rfl | true => show (true && _) = (true && _); rw [(q_thin hJ.wf (by omega) hJ.blt hJ.bth hJ.mo (fun k hk => by have := hJ.onb k hk; omega)) i h9]) (by rw [hT9]; exact fun j hj => (Bool.and_eq_true _ _ |>.mp hj).1) (by rw [hT9]; exact q_thcl (fun k b h1 h2 => hJ.blt k b (hJ.wf k h1) h2) hJ.bth (q_thin hJ.wf (by omega) hJ.blt hJ.bth hJ.mo (fun k hk => by have := hJ.onb k hk; omega)))).mono (Nat.le_succ _), (fun _ _ _ _ => rfl)⟩ (Nat.le_of_ble_eq_true rfl) (Nat.le_of_ble_eq_true rfl) dL_acts_643
  refine lv_iload hx hb dL_acts_227 (lv_at hl 7 rfl) ?_
  refine lv_aload hx hb dL_acts_229 (lv_at hl 4 rfl) ?_
  refine lv_iconst (v := nI 0) hx hb dL_acts_231 (by decide) ?_
  refine k_iald hx hb hK hW (kc_12 g ad t) 0 rfl (by omega) (by decide) dL_acts_232 ?_
  refine k_toi (y := nI (s_md t)) hJ.wm0 ?_
  refine lv_iconst (v := nI 1) hx hb dL_acts_233 (by decide) ?_
  refine k_iadd hx hb dL_acts_234 ?_
  refine lv_irem hx hb dL_acts_235 (fun q => by have := (nI_eq (a := (s_md t) + 1) (b := 0) (by omega) (by decide)).mp q; omega) ?_
  refine k_toi (pk_rem (by omega) (by omega) (by omega)) ?_
  refine k_toi (y := nI cp) (congrArg nI hcp) ?_
  refine lv_istore (lv' := [(8, .int (nI cp)), (0, .ref (ad 0 0)), (1, .ref (ad 9 0)), (2, .ref (ad 10 0)), (3, .ref (ad 11 0)), (4, .ref (ad 12 0)), (5, .ref (ad 13 0)), (6, .int (nI wy)), (7, .int (nI z))]) hx hb dL_acts_236 hl (by decide) rfl (fun ls hl => ?_)
  refine lv_iload hx hb dL_acts_238 (lv_at hl 0 rfl) ?_
  refine lv_aload hx hb dL_acts_240 (lv_at hl 5 rfl) ?_
  refine lv_iconst (v := nI 0) hx hb dL_acts_242 (by decide) ?_
  refine k_iald hx hb hK hW (kc_12 g ad t) 0 rfl (by omega) (by decide) dL_acts_243 ?_
  refine k_toi (y := nI (s_md t)) hJ.wm0 ?_
  refine k_icmp_ge (tgt := 264) hx hb (a := cp) (b := s_md t) (by omega) (by omega) dL_acts_244 (by decide) (fun h_244 => ?_) (fun h_244 => ?_)
  · refine lv_iconst (v := nI 0) hx hb dL_acts_264 (by decide) ?_
    refine lv_istore (lv' := [(9, .int (nI 0)), (8, .int (nI cp)), (0, .ref (ad 0 0)), (1, .ref (ad 9 0)), (2, .ref (ad 10 0)), (3, .ref (ad 11 0)), (4, .ref (ad 12 0)), (5, .ref (ad 13 0)), (6, .int (nI wy)), (7, .int (nI z))]) hx hb dL_acts_265 hl (by decide) rfl (fun ls hl => ?_)
    exact hcut_267   _ _ hW hS _ (lv_sub hl [2, 3, 4, 5, 6, 7, 8, 9] rfl)
  · refine lv_aload hx hb dL_acts_247 (lv_at hl 5 rfl) ?_
    refine lv_iconst (v := nI 2) hx hb dL_acts_249 (by decide) ?_
    refine k_iald hx hb hK hW (kc_12 g ad t) 2 rfl (by omega) (by decide) dL_acts_250 ?_
    refine k_toi (y := kB (s_th t)) hJ.wm2 ?_
    refine lv_iload hx hb dL_acts_251 (lv_at hl 0 rfl) ?_
    refine lv_ishr hx hb dL_acts_253 ?_
    refine lv_iconst (v := nI 1) hx hb dL_acts_254 (by decide) ?_
    refine lv_iand hx hb dL_acts_255 ?_
    refine k_toi (y := kb ((s_th t) cp)) (kB_bit (s_th t) (by omega)) ?_
    refine lv_iconst (v := nI 1) hx hb dL_acts_256 (by decide) ?_
    refine k_b1_ne (tgt := 264) hx hb dL_acts_257 (by decide) (fun h_257 => ?_) (fun h_257 => ?_)
    · refine lv_iconst (v := nI 0) hx hb dL_acts_264 (by decide) ?_
      refine lv_istore (lv' := [(9, .int (nI 0)), (8, .int (nI cp)), (0, .ref (ad 0 0)), (1, .ref (ad 9 0)), (2, .ref (ad 10 0)), (3, .ref (ad 11 0)), (4, .ref (ad 12 0)), (5, .ref (ad 13 0)), (6, .int (nI wy)), (7, .int (nI z))]) hx hb dL_acts_265 hl (by decide) rfl (fun ls hl => ?_)
      exact hcut_267   _ _ hW hS _ (lv_sub hl [2, 3, 4, 5, 6, 7, 8, 9] rfl)
    · refine lv_iconst (v := nI 1) hx hb dL_acts_260 (by decide) ?_
      refine lv_goto (tgt := 265) hx hb dL_acts_261 (by decide) ?_
      refine lv_istore (lv' := [(9, .int (nI 1)), (8, .int (nI cp)), (0, .ref (ad 0 0)), (1, .ref (ad 9 0)), (2, .ref (ad 10 0)), (3, .ref (ad 11 0)), (4, .ref (ad 12 0)), (5, .ref (ad 13 0)), (6, .int (nI wy)), (7, .int (nI z))]) hx hb dL_acts_265 hl (by decide) rfl (fun ls hl => ?_)
      exact hcut_267   _ _ hW hS _ (lv_sub hl [2, 3, 4, 5, 6, 7, 8, 9] rfl)
set_option maxRecDepth 100000 in
set_option maxHeartbeats 4000000 in
theorem c_L_acts_swap (l : Launch) (hlt : l.stackTraces = false) (g : k_g) (ad : k_AD) (t : k_T) (e9 : Nat) (wy : Nat) (z : Nat) (cp : Nat) (hJ : q_J e9 t) (he : e9 ≤ 190) (hw1 : 18 ≤ wy) (hw2 : wy < 21) (hzz : z < 10000000) (hcp : z % (s_md t + 1) = cp) : Met l yL_acts wsL_acts rm_L_acts (va_Pc [.ref (ad 0 0), .ref (ad 9 0), .ref (ad 10 0), .ref (ad 11 0), .ref (ad 12 0), .ref (ad 13 0), .int (nI wy), .int (nI z)] (k_I g (k_ct g ad t) ad)) (va_Qi (S := k_T × k_AD) (fun r u => r = nI 1 ∧ q_J (e9 + 1) u.1 ∧ ∀ a b, a ≠ 25 → a ≠ 26 → u.2 a b = ad a b) (fun u U => k_H g u.2 u.1 U.heap) (k_A g)) 24 171 (k_A g) := by
  refine k_met (cc := cL_acts) (maxL := 15) (ret := (some .boolean)) (by decide) rfl (Nat.le_of_ble_eq_true rfl) (fun p e s m args below meth c Q ls hQ hx hb hr hml hts hown hlk hin hK hZ hN hW hS hl => ?_)
  have hown : s.vm.findClass RL = some m.cls := hown
  have hW : k_H g ad t s.heap := hW
  have hl : lv_has ls 15 [(0, .ref (ad 0 0)), (1, .ref (ad 9 0)), (2, .ref (ad 10 0)), (3, .ref (ad 11 0)), (4, .ref (ad 12 0)), (5, .ref (ad 13 0)), (6, .int (nI wy)), (7, .int (nI z))] := hl
  have hm14 := hJ.m14
  have hd58 := hJ.d58
  have hcl : cp ≤ s_md t := by rw [← hcp]; exact Nat.lt_succ_iff.mp (Nat.mod_lt _ (Nat.succ_pos _))
  refine lv_iload hx hb dL_acts_0 (lv_at hl 6 rfl) ?_
  refine lv_iconst (v := nI 5) hx hb dL_acts_2 (by decide) ?_
  refine k_icmp_ge (tgt := 97) hx hb (a := wy) (b := 5) (by omega) (by decide) dL_acts_3 (by decide) (fun h_3 => ?_) (fun h_3 => absurd h_3 (by omega))
  refine lv_iload hx hb dL_acts_97 (lv_at hl 6 rfl) ?_
  refine lv_bipush (v := nI 8) hx hb dL_acts_99 (by decide) ?_
  refine k_icmp_ge (tgt := 181) hx hb (a := wy) (b := 8) (by omega) (by decide) dL_acts_101 (by decide) (fun h_101 => ?_) (fun h_101 => absurd h_101 (by omega))
  refine lv_iload hx hb dL_acts_181 (lv_at hl 6 rfl) ?_
  refine lv_bipush (v := nI 12) hx hb dL_acts_183 (by decide) ?_
  refine k_icmp_ge (tgt := 227) hx hb (a := wy) (b := 12) (by omega) (by decide) dL_acts_185 (by decide) (fun h_185 => ?_) (fun h_185 => absurd h_185 (by omega))
  have hcut_267 : ∀ (H : Heap) (locs : List Loc), k_H g ad t H → va_S (k_A g) s.heap H locs → ∀ (ls : Array Slot), lv_has ls 15 [(0, .ref (ad 0 0)), (1, .ref (ad 9 0)), (2, .ref (ad 10 0)), (3, .ref (ad 11 0)), (4, .ref (ad 12 0)), (5, .ref (ad 13 0)), (6, .int (nI wy)), (7, .int (nI z))] → W p l e rm_L_acts s m args below meth c H locs 0 0 Q (F0 m 267 ls []) := by
    intro   H locs hW hS ls hl
    refine lv_iload hx hb dL_acts_267 (lv_at hl 6 rfl) ?_
    refine lv_bipush (v := nI 14) hx hb dL_acts_269 (by decide) ?_
    refine k_icmp_ge (tgt := 391) hx hb (a := wy) (b := 14) (by omega) (by decide) dL_acts_271 (by decide) (fun h_271 => ?_) (fun h_271 => absurd h_271 (by omega))
    refine lv_iload hx hb dL_acts_391 (lv_at hl 6 rfl) ?_
    refine lv_bipush (v := nI 14) hx hb dL_acts_393 (by decide) ?_
    refine k_icmp_ne (tgt := 544) hx hb (a := wy) (b := 14) (by omega) (by decide) dL_acts_395 (by decide) (fun h_395 => ?_) (fun h_395 => absurd h_395 (by omega))
    refine lv_iload hx hb dL_acts_544 (lv_at hl 6 rfl) ?_
    refine lv_bipush (v := nI 15) hx hb dL_acts_546 (by decide) ?_
    refine k_icmp_ne (tgt := 618) hx hb (a := wy) (b := 15) (by omega) (by decide) dL_acts_548 (by decide) (fun h_548 => ?_) (fun h_548 => absurd h_548 (by omega))
    refine lv_iload hx hb dL_acts_618 (lv_at hl 6 rfl) ?_
    refine lv_bipush (v := nI 18) hx hb dL_acts_620 (by decide) ?_
    refine k_icmp_ge (tgt := 644) hx hb (a := wy) (b := 18) (by omega) (by decide) dL_acts_622 (by decide) (fun h_622 => ?_) (fun h_622 => absurd h_622 (by omega))
    refine lv_iload hx hb dL_acts_644 (lv_at hl 6 rfl) ?_
    refine lv_bipush (v := nI 21) hx hb dL_acts_646 (by decide) ?_
    refine k_icmp_ge (tgt := 882) hx hb (a := wy) (b := 21) (by omega) (by decide) dL_acts_648 (by decide) (fun h_648 => absurd h_648 (by omega)) (fun h_648 => ?_)
    have hcut_714 : ∀ (ot : Nat), (ot < 63) → ∀ (H : Heap) (locs : List Loc), k_H g ad t H → va_S (k_A g) s.heap H locs → ∀ (ls : Array Slot), lv_has ls 15 [(0, .ref (ad 0 0)), (1, .ref (ad 9 0)), (2, .ref (ad 10 0)), (3, .ref (ad 11 0)), (4, .ref (ad 12 0)), (5, .ref (ad 13 0)), (6, .int (nI wy)), (7, .int (nI z)), (10, .int (nI (z % 63))), (11, .int (nI ot))] → W p l e rm_L_acts s m args below meth c H locs 0 0 Q (F0 m 714 ls []) := by
      intro ot hot H locs hW hS ls hl
      refine lv_aload hx hb dL_acts_714 (lv_at hl 5 rfl) ?_
      refine lv_iload hx hb dL_acts_716 (lv_at hl 8 rfl) ?_
      refine k_iald hx hb hK hW (kc_13 g ad t) (z % 63) rfl (by omega) (by decide) dL_acts_718 ?_
      refine k_toi (y := nI (r_p t (z % 63))) (hJ.wr _ (by omega)) ?_
      refine lv_istore (lv' := [(12, .int (nI (r_p t (z % 63)))), (0, .ref (ad 0 0)), (1, .ref (ad 9 0)), (2, .ref (ad 10 0)), (3, .ref (ad 11 0)), (4, .ref (ad 12 0)), (5, .ref (ad 13 0)), (6, .int (nI wy)), (7, .int (nI z)), (10, .int (nI (z % 63))), (11, .int (nI ot))]) hx hb dL_acts_719 hl (by decide) rfl (fun ls hl => ?_)
      refine lv_iload hx hb dL_acts_721 (lv_at hl 9 rfl) ?_
      refine lv_aload hx hb dL_acts_723 (lv_at hl 5 rfl) ?_
      refine lv_iconst (v := nI 1) hx hb dL_acts_725 (by decide) ?_
      refine k_iald hx hb hK hW (kc_12 g ad t) 1 rfl (by omega) (by decide) dL_acts_726 ?_
      refine k_toi (y := nI (x_d t)) hJ.wm1 ?_
      refine k_icmp_lt (tgt := 746) hx hb (a := z % 63) (b := x_d t) (by omega) (by omega) dL_acts_727 (by decide) (fun h_727 => ?_) (fun h_727 => ?_)
      · refine lv_aload_n hx hb dL_acts_746 rfl (lv_at hl 1 rfl) ?_
        refine lv_iload hx hb dL_acts_747 (lv_at hl 9 rfl) ?_
        refine lv_iload hx hb dL_acts_749 (lv_at hl 10 rfl) ?_
        refine k_ci (lw_va (vx_runSX (As := [.ref (ad 0 0), .int (nI (z % 63)), .int (nI ot)]) (rest := []) ⟨hx, hb, hml, hown, hts⟩ (cw_swap_b1 l hlt g ad t (nI (z % 63)) (nI ot) hJ.hd (Or.inl (nI_lt h_727 (by omega)))) (vx_cwSW 3 hts gL_acts_L_swapped rfl rfl rfl (by decide +kernel) ⟨(Nat.le_of_ble_eq_true rfl), (Nat.le_of_ble_eq_true rfl)⟩) ⟨k_blind, fun U hU hw => ⟨rfl, k_I.of hK hZ hN hS hW hU hw⟩⟩ rfl rfl hl.1 rfl (lv_room (Nat.le_of_ble_eq_true rfl)) dL_acts_751 ⟨(Nat.le_of_ble_eq_true rfl), (Nat.le_of_ble_eq_true rfl)⟩)) hS (fun r u H locs hpo hW hS => ?_)
        obtain ⟨hr9, hu9⟩ := hpo; replace hu9 := hu9.symm; subst hu9; replace hr9 := hr9.symm; subst hr9
        refine lv_bipush (v := (-4)) hx hb dL_acts_754 (by decide) ?_
        refine lv_icmp_ne (tgt := 763) hx hb dL_acts_756 (by decide) (fun h_756 => absurd rfl h_756) (fun h_756 => ?_)
        refine lv_iconst (v := nI 1) hx hb dL_acts_759 (by decide) ?_
        refine lv_goto (tgt := 764) hx hb dL_acts_760 (by decide) ?_
        exact k_rzA hQ hx hb hr rfl hlk hS hW ⟨rfl, hJ.mono (Nat.le_succ _), (fun _ _ _ _ => rfl)⟩ (Nat.le_of_ble_eq_true rfl) (Nat.le_of_ble_eq_true rfl) dL_acts_764
      · refine lv_iload hx hb dL_acts_730 (lv_at hl 10 rfl) ?_
        refine lv_aload hx hb dL_acts_732 (lv_at hl 5 rfl) ?_
        refine lv_iconst (v := nI 1) hx hb dL_acts_734 (by decide) ?_
        refine k_iald hx hb hK hW (kc_12 g ad t) 1 rfl (by omega) (by decide) dL_acts_735 ?_
        refine k_toi (y := nI (x_d t)) hJ.wm1 ?_
        refine k_icmp_lt (tgt := 746) hx hb (a := ot) (b := x_d t) (by omega) (by omega) dL_acts_736 (by decide) (fun h_736 => ?_) (fun h_736 => ?_)
        · refine lv_aload_n hx hb dL_acts_746 rfl (lv_at hl 1 rfl) ?_
          refine lv_iload hx hb dL_acts_747 (lv_at hl 9 rfl) ?_
          refine lv_iload hx hb dL_acts_749 (lv_at hl 10 rfl) ?_
          refine k_ci (lw_va (vx_runSX (As := [.ref (ad 0 0), .int (nI (z % 63)), .int (nI ot)]) (rest := []) ⟨hx, hb, hml, hown, hts⟩ (cw_swap_b2 l hlt g ad t (z % 63) (nI ot) hJ.hd (by omega) (by omega) (Or.inl (nI_lt h_736 (by omega)))) (vx_cwSW 3 hts gL_acts_L_swapped rfl rfl rfl (by decide +kernel) ⟨(Nat.le_of_ble_eq_true rfl), (Nat.le_of_ble_eq_true rfl)⟩) ⟨k_blind, fun U hU hw => ⟨rfl, k_I.of hK hZ hN hS hW hU hw⟩⟩ rfl rfl hl.1 rfl (lv_room (Nat.le_of_ble_eq_true rfl)) dL_acts_751 ⟨(Nat.le_of_ble_eq_true rfl), (Nat.le_of_ble_eq_true rfl)⟩)) hS (fun r u H locs hpo hW hS => ?_)
          obtain ⟨hr9, hu9⟩ := hpo; replace hu9 := hu9.symm; subst hu9; replace hr9 := hr9.symm; subst hr9
          refine lv_bipush (v := (-4)) hx hb dL_acts_754 (by decide) ?_
          refine lv_icmp_ne (tgt := 763) hx hb dL_acts_756 (by decide) (fun h_756 => absurd rfl h_756) (fun h_756 => ?_)
          refine lv_iconst (v := nI 1) hx hb dL_acts_759 (by decide) ?_
          refine lv_goto (tgt := 764) hx hb dL_acts_760 (by decide) ?_
          exact k_rzA hQ hx hb hr rfl hlk hS hW ⟨rfl, hJ.mono (Nat.le_succ _), (fun _ _ _ _ => rfl)⟩ (Nat.le_of_ble_eq_true rfl) (Nat.le_of_ble_eq_true rfl) dL_acts_764
        · refine lv_iload hx hb dL_acts_739 (lv_at hl 9 rfl) ?_
          refine lv_iload hx hb dL_acts_741 (lv_at hl 10 rfl) ?_
          refine k_icmp_ne (tgt := 765) hx hb (a := z % 63) (b := ot) (by omega) (by omega) dL_acts_743 (by decide) (fun h_743 => ?_) (fun h_743 => ?_)
          · refine lv_aload hx hb dL_acts_765 (lv_at hl 6 rfl) ?_
            refine lv_iload hx hb dL_acts_767 (lv_at hl 9 rfl) ?_
            refine lv_aload hx hb dL_acts_769 (lv_at hl 6 rfl) ?_
            refine lv_iload hx hb dL_acts_771 (lv_at hl 10 rfl) ?_
            refine k_iald hx hb hK hW (kc_13 g ad t) ot rfl (by omega) (by decide) dL_acts_773 ?_
            refine k_toi (y := nI (r_p t ot)) (hJ.wr _ (by omega)) ?_
            refine k_iast hx hb hK hW hS (kc_13 g ad t) (z % 63) rfl (by omega) (by decide) dL_acts_774 (fun H locs hW hS => ?_)
            have hW : k_H g ad (set_w_r t (va_up (w_r t) (z % 63) (nI (r_p t ot)))) H := kt_w_r (t := t) (z % 63) (nI (r_p t ot)) rfl hW
            refine lv_aload hx hb dL_acts_775 (lv_at hl 6 rfl) ?_
            refine lv_iload hx hb dL_acts_777 (lv_at hl 10 rfl) ?_
            refine lv_iload hx hb dL_acts_779 (lv_at hl 0 rfl) ?_
            refine k_iast hx hb hK hW hS (kc_13 g ad (set_w_r t (va_up (w_r t) (z % 63) (nI (r_p t ot))))) ot rfl (by omega) (by decide) dL_acts_781 (fun H locs hW hS => ?_)
            have hW : k_H g ad (set_w_r t (va_up (va_up (w_r t) (z % 63) (nI (r_p t ot))) ot (nI (r_p t (z % 63))))) H := kt_w_r (t := set_w_r t (va_up (w_r t) (z % 63) (nI (r_p t ot)))) ot (nI (r_p t (z % 63))) rfl hW
            obtain ⟨R9, hR9⟩ : ∃ R9 : Nat → Int32, R9 = (va_up (va_up (w_r t) (z % 63) (nI (r_p t ot))) ot (nI (r_p t (z % 63)))) := ⟨_, rfl⟩
            have hW : k_H g ad (set_w_r t R9) H := by rw [hR9]; exact hW
            have hRx : ∀ k, k < 64 → R9 k = nI (k_ex (r_p t) (z % 63) ot k) := by rw [hR9]; exact q_ex hJ.wr
            have hEx : ∀ k, k < 365 → k_ex (r_p t) (z % 63) ot k < 5 := k_ex_lt hJ.rtb (by omega) (by omega)
            refine lv_iconst (v := nI 1) hx hb dL_acts_782 (by decide) ?_
            refine lv_istore (lv' := [(13, .int (nI 1)), (12, .int (nI (r_p t (z % 63)))), (0, .ref (ad 0 0)), (1, .ref (ad 9 0)), (2, .ref (ad 10 0)), (3, .ref (ad 11 0)), (4, .ref (ad 12 0)), (5, .ref (ad 13 0)), (6, .int (nI wy)), (7, .int (nI z)), (10, .int (nI (z % 63))), (11, .int (nI ot))]) hx hb dL_acts_783 hl (by decide) rfl (fun ls hl => ?_)
            refine lv_iconst (v := nI 0) hx hb dL_acts_785 (by decide) ?_
            refine lv_istore (lv' := [(14, .int (nI 0)), (13, .int (nI 1)), (12, .int (nI (r_p t (z % 63)))), (0, .ref (ad 0 0)), (1, .ref (ad 9 0)), (2, .ref (ad 10 0)), (3, .ref (ad 11 0)), (4, .ref (ad 12 0)), (5, .ref (ad 13 0)), (6, .int (nI wy)), (7, .int (nI z)), (10, .int (nI (z % 63))), (11, .int (nI ot))]) hx hb dL_acts_786 hl (by decide) rfl (fun ls hl => ?_)
            have hloop_788 : ∀ (n : Nat) (k : Nat) (rs : Bool), (63 < k + n) → (k ≤ 63) → (rs = q_ad (k_ex (r_p t) (z % 63) ot) k) → ∀ (H : Heap) (locs : List Loc), k_H g ad (set_w_r t R9) H → va_S (k_A g) s.heap H locs → ∀ (ls : Array Slot), lv_has ls 15 [(0, .ref (ad 0 0)), (1, .ref (ad 9 0)), (2, .ref (ad 10 0)), (3, .ref (ad 11 0)), (4, .ref (ad 12 0)), (5, .ref (ad 13 0)), (6, .int (nI wy)), (7, .int (nI z)), (10, .int (nI (z % 63))), (11, .int (nI ot)), (12, .int (nI (r_p t (z % 63)))), (13, .int (kb rs)), (14, .int (nI k))] → W p l e rm_L_acts s m args below meth c H locs 0 0 Q (F0 m 788 ls []) := by
              intro n
              induction n with
              | zero =>
                intro k rs hfu hk hrs
                exact absurd hfu (by omega)
              | succ n ih =>
                intro k rs hfu hk hrs H locs hW hS ls hl
                refine lv_iload hx hb dL_acts_788 (lv_at hl 12 rfl) ?_
                refine lv_bipush (v := nI 63) hx hb dL_acts_790 (by decide) ?_
                refine k_icmp_ge (tgt := 828) hx hb (a := k) (b := 63) (by omega) (by decide) dL_acts_792 (by decide) (fun h_792 => ?_) (fun h_792 => ?_)
                · have hrs2 : rs = q_ad (k_ex (r_p t) (z % 63) ot) 63 := by rw [hrs, show k = 63 by omega]
                  refine lv_iload hx hb dL_acts_828 (lv_at hl 11 rfl) ?_
                  refine k_ifz_ne (tgt := 850) hx hb dL_acts_830 (by decide) (fun h_830 => ?_) (fun h_830 => ?_)
                  · refine lv_aload_n hx hb dL_acts_850 rfl (lv_at hl 0 rfl) ?_
                    refine lv_iload hx hb dL_acts_851 (lv_at hl 8 rfl) ?_
                    refine lv_iload hx hb dL_acts_853 (lv_at hl 9 rfl) ?_
                    refine k_ci (lw_va (vx_runSX (As := [.ref (ad 0 0), .int (nI (z % 63)), .int (nI ot)]) (rest := []) ⟨hx, hb, hml, hown, hts⟩ (cw_swap_ok l hlt g ad (set_w_r t R9) (z % 63) ot hJ.hd (show x_d t ≤ z % 63 from by omega) (by omega) (show x_d t ≤ ot from by omega) (by omega) h_743 hJ.rtb (Bool.and_eq_true _ _ |>.mp (show (k_rest (k_ex (r_p t) (z % 63) ot) (z % 63) && k_rest (k_ex (r_p t) (z % 63) ot) ot) = true by rw [← q_rest hJ.rn (by omega) hot, ← hrs2]; exact h_830)).1 (Bool.and_eq_true _ _ |>.mp (show (k_rest (k_ex (r_p t) (z % 63) ot) (z % 63) && k_rest (k_ex (r_p t) (z % 63) ot) ot) = true by rw [← q_rest hJ.rn (by omega) hot, ← hrs2]; exact h_830)).2) (vx_cwSW 3 hts gL_acts_L_swapped rfl rfl rfl (by decide +kernel) ⟨(Nat.le_of_ble_eq_true rfl), (Nat.le_of_ble_eq_true rfl)⟩) ⟨k_blind, fun U hU hw => ⟨rfl, k_I.of hK hZ hN hS hW hU hw⟩⟩ rfl rfl hl.1 rfl (lv_room (Nat.le_of_ble_eq_true rfl)) dL_acts_855 ⟨(Nat.le_of_ble_eq_true rfl), (Nat.le_of_ble_eq_true rfl)⟩)) hS (fun r u H locs hpo hW hS => ?_)
                    obtain ⟨hr9, hu9⟩ := hpo; replace hu9 := hu9.symm; subst hu9; replace hr9 := hr9.symm; subst hr9
                    have hW : k_H g ad (set_r_p (set_w_r t R9) (k_ex (r_p t) (z % 63) ot)) H := hW
                    refine lv_iload hx hb dL_acts_858 (lv_at hl 11 rfl) ?_
                    refine k_ifz_eq (tgt := 871) hx hb dL_acts_860 (by decide) (fun h_860 => absurd h_860 (by rw [h_830]; decide)) (fun h_860 => ?_)
                    refine lv_aload hx hb dL_acts_863 (lv_at hl 5 rfl) ?_
                    refine lv_iload hx hb dL_acts_865 (lv_at hl 8 rfl) ?_
                    refine k_iald hx hb hK hW (kc_13 g ad (set_r_p (set_w_r t R9) (k_ex (r_p t) (z % 63) ot))) (z % 63) rfl (by omega) (by decide) dL_acts_867 ?_
                    refine k_tov (y := .int (R9 (z % 63))) rfl ?_
                    refine k_toi (y := nI (k_ex (r_p t) (z % 63) ot (z % 63))) (hRx _ (by omega)) ?_
                    refine lv_goto (tgt := 873) hx hb dL_acts_868 (by decide) ?_
                    refine lv_icmp_ne (tgt := 880) hx hb dL_acts_873 (by decide) (fun h_873 => absurd rfl h_873) (fun h_873 => ?_)
                    refine lv_iconst (v := nI 1) hx hb dL_acts_876 (by decide) ?_
                    refine lv_goto (tgt := 881) hx hb dL_acts_877 (by decide) ?_
                    exact k_rzA hQ hx hb hr rfl hlk hS hW ⟨rfl, (hJ.swap hEx ((q_adm 63).mp (by rw [← hrs2]; exact h_830)) hRx).mono (Nat.le_succ _), (fun _ _ _ _ => rfl)⟩ (Nat.le_of_ble_eq_true rfl) (Nat.le_of_ble_eq_true rfl) dL_acts_881
                  · refine lv_aload hx hb dL_acts_833 (lv_at hl 5 rfl) ?_
                    refine lv_iload hx hb dL_acts_835 (lv_at hl 9 rfl) ?_
                    refine lv_aload hx hb dL_acts_837 (lv_at hl 5 rfl) ?_
                    refine lv_iload hx hb dL_acts_839 (lv_at hl 8 rfl) ?_
                    refine k_iald hx hb hK hW (kc_13 g ad (set_w_r t R9)) (z % 63) rfl (by omega) (by decide) dL_acts_841 ?_
                    refine k_tov (y := .int (R9 (z % 63))) rfl ?_
                    refine k_toi (y := nI (r_p t ot)) ((hRx _ (by omega)).trans (congrArg nI (q_exat h_743))) ?_
                    refine k_iast hx hb hK hW hS (kc_13 g ad (set_w_r t R9)) ot rfl (by omega) (by decide) dL_acts_842 (fun H locs hW hS => ?_)
                    have hW : k_H g ad (set_w_r t (va_up R9 ot (nI (r_p t ot)))) H := kt_w_r (t := set_w_r t R9) ot (nI (r_p t ot)) rfl hW
                    refine lv_aload hx hb dL_acts_843 (lv_at hl 5 rfl) ?_
                    refine lv_iload hx hb dL_acts_845 (lv_at hl 8 rfl) ?_
                    refine lv_iload hx hb dL_acts_847 (lv_at hl 10 rfl) ?_
                    refine k_iast hx hb hK hW hS (kc_13 g ad (set_w_r t (va_up R9 ot (nI (r_p t ot))))) (z % 63) rfl (by omega) (by decide) dL_acts_849 (fun H locs hW hS => ?_)
                    have hW : k_H g ad (set_w_r t (va_up (va_up R9 ot (nI (r_p t ot))) (z % 63) (nI (r_p t (z % 63))))) H := kt_w_r (t := set_w_r t (va_up R9 ot (nI (r_p t ot)))) (z % 63) (nI (r_p t (z % 63))) rfl hW
                    refine lv_aload_n hx hb dL_acts_850 rfl (lv_at hl 0 rfl) ?_
                    refine lv_iload hx hb dL_acts_851 (lv_at hl 8 rfl) ?_
                    refine lv_iload hx hb dL_acts_853 (lv_at hl 9 rfl) ?_
                    refine k_ci (lw_va (vx_runSX (As := [.ref (ad 0 0), .int (nI (z % 63)), .int (nI ot)]) (rest := []) ⟨hx, hb, hml, hown, hts⟩ (cw_swap_is l hlt g ad (set_w_r t (va_up (va_up R9 ot (nI (r_p t ot))) (z % 63) (nI (r_p t (z % 63))))) (z % 63) ot hJ.hd (show x_d t ≤ z % 63 from by omega) (by omega) (show x_d t ≤ ot from by omega) (by omega) h_743 hJ.rtb (show (k_rest (k_ex (r_p t) (z % 63) ot) (z % 63) && k_rest (k_ex (r_p t) (z % 63) ot) ot) = false by rw [← q_rest hJ.rn (by omega) hot, ← hrs2]; exact h_830)) (vx_cwSW 3 hts gL_acts_L_swapped rfl rfl rfl (by decide +kernel) ⟨(Nat.le_of_ble_eq_true rfl), (Nat.le_of_ble_eq_true rfl)⟩) ⟨k_blind, fun U hU hw => ⟨rfl, k_I.of hK hZ hN hS hW hU hw⟩⟩ rfl rfl hl.1 rfl (lv_room (Nat.le_of_ble_eq_true rfl)) dL_acts_855 ⟨(Nat.le_of_ble_eq_true rfl), (Nat.le_of_ble_eq_true rfl)⟩)) hS (fun r u H locs hpo hW hS => ?_)
                    obtain ⟨hr9, hu9⟩ := hpo; replace hu9 := hu9.symm; subst hu9; replace hr9 := hr9.symm; subst hr9
                    refine lv_iload hx hb dL_acts_858 (lv_at hl 11 rfl) ?_
                    refine k_ifz_eq (tgt := 871) hx hb dL_acts_860 (by decide) (fun h_860 => ?_) (fun h_860 => absurd h_860 (by rw [h_830]; decide))
                    refine lv_bipush (v := (-5)) hx hb dL_acts_871 (by decide) ?_
                    refine lv_icmp_ne (tgt := 880) hx hb dL_acts_873 (by decide) (fun h_873 => absurd rfl h_873) (fun h_873 => ?_)
                    refine lv_iconst (v := nI 1) hx hb dL_acts_876 (by decide) ?_
                    refine lv_goto (tgt := 881) hx hb dL_acts_877 (by decide) ?_
                    exact k_rzA hQ hx hb hr rfl hlk hS hW ⟨rfl, (hJ.rr (fun i hi => by rw [hR9]; exact q_exb hJ.wr i hi)).mono (Nat.le_succ _), (fun _ _ _ _ => rfl)⟩ (Nat.le_of_ble_eq_true rfl) (Nat.le_of_ble_eq_true rfl) dL_acts_881
                · refine lv_iload hx hb dL_acts_795 (lv_at hl 11 rfl) ?_
                  refine k_ifz_eq (tgt := 819) hx hb dL_acts_797 (by decide) (fun h_797 => ?_) (fun h_797 => ?_)
                  · refine lv_iconst (v := nI 0) hx hb dL_acts_819 (by decide) ?_
                    refine lv_istore (lv' := [(13, .int (nI 0)), (0, .ref (ad 0 0)), (1, .ref (ad 9 0)), (2, .ref (ad 10 0)), (3, .ref (ad 11 0)), (4, .ref (ad 12 0)), (5, .ref (ad 13 0)), (6, .int (nI wy)), (7, .int (nI z)), (10, .int (nI (z % 63))), (11, .int (nI ot)), (12, .int (nI (r_p t (z % 63)))), (14, .int (nI k))]) hx hb dL_acts_820 hl (by decide) rfl (fun ls hl => ?_)
                    refine lv_iinc (v := nI (k + 1)) (lv' := [(14, .int (nI (k + 1))), (13, .int (nI 0)), (0, .ref (ad 0 0)), (1, .ref (ad 9 0)), (2, .ref (ad 10 0)), (3, .ref (ad 11 0)), (4, .ref (ad 12 0)), (5, .ref (ad 13 0)), (6, .int (nI wy)), (7, .int (nI z)), (10, .int (nI (z % 63))), (11, .int (nI ot)), (12, .int (nI (r_p t (z % 63))))]) hx hb dL_acts_822 hl (k := 12) rfl (nI_add _ _) (by decide) rfl (fun ls hl => ?_)
                    refine lv_goto (tgt := 788) hx hb dL_acts_825 (by decide) ?_
                    exact ih (k + 1) false (by omega) (by omega) (by rw [q_ad, ← hrs, h_797]; rfl) _ _ hW hS _ (lv_sub hl [2, 3, 4, 5, 6, 7, 8, 9, 10, 11, 12, 1, 0] rfl)
                  · refine lv_aload hx hb dL_acts_800 (lv_at hl 5 rfl) ?_
                    refine lv_iload hx hb dL_acts_802 (lv_at hl 12 rfl) ?_
                    refine k_iald hx hb hK hW (kc_13 g ad (set_w_r t R9)) k rfl (by omega) (by decide) dL_acts_804 ?_
                    refine k_tov (y := .int (R9 k)) rfl ?_
                    refine k_toi (y := nI (k_ex (r_p t) (z % 63) ot k)) (hRx k (by omega)) ?_
                    refine lv_aload hx hb dL_acts_805 (lv_at hl 5 rfl) ?_
                    refine lv_iload hx hb dL_acts_807 (lv_at hl 12 rfl) ?_
                    refine lv_iconst (v := nI 1) hx hb dL_acts_809 (by decide) ?_
                    refine k_iadd hx hb dL_acts_810 ?_
                    refine k_iald hx hb hK hW (kc_13 g ad (set_w_r t R9)) (k + 1) rfl (by omega) (by decide) dL_acts_811 ?_
                    refine k_tov (y := .int (R9 (k + 1))) rfl ?_
                    refine k_toi (y := nI (k_ex (r_p t) (z % 63) ot (k + 1))) (hRx (k + 1) (by omega)) ?_
                    refine k_icmp_eq (tgt := 819) hx hb (a := k_ex (r_p t) (z % 63) ot k) (b := k_ex (r_p t) (z % 63) ot (k + 1)) (by have := hEx (k) (by omega); omega) (by have := hEx ((k + 1)) (by omega); omega) dL_acts_812 (by decide) (fun h_812 => ?_) (fun h_812 => ?_)
                    · refine lv_iconst (v := nI 0) hx hb dL_acts_819 (by decide) ?_
                      refine lv_istore (lv' := [(13, .int (nI 0)), (0, .ref (ad 0 0)), (1, .ref (ad 9 0)), (2, .ref (ad 10 0)), (3, .ref (ad 11 0)), (4, .ref (ad 12 0)), (5, .ref (ad 13 0)), (6, .int (nI wy)), (7, .int (nI z)), (10, .int (nI (z % 63))), (11, .int (nI ot)), (12, .int (nI (r_p t (z % 63)))), (14, .int (nI k))]) hx hb dL_acts_820 hl (by decide) rfl (fun ls hl => ?_)
                      refine lv_iinc (v := nI (k + 1)) (lv' := [(14, .int (nI (k + 1))), (13, .int (nI 0)), (0, .ref (ad 0 0)), (1, .ref (ad 9 0)), (2, .ref (ad 10 0)), (3, .ref (ad 11 0)), (4, .ref (ad 12 0)), (5, .ref (ad 13 0)), (6, .int (nI wy)), (7, .int (nI z)), (10, .int (nI (z % 63))), (11, .int (nI ot)), (12, .int (nI (r_p t (z % 63))))]) hx hb dL_acts_822 hl (k := 12) rfl (nI_add _ _) (by decide) rfl (fun ls hl => ?_)
                      refine lv_goto (tgt := 788) hx hb dL_acts_825 (by decide) ?_
                      exact ih (k + 1) false (by omega) (by omega) (by rw [q_ad, ← hrs, h_797, decide_eq_false (fun q => q h_812)]; rfl) _ _ hW hS _ (lv_sub hl [2, 3, 4, 5, 6, 7, 8, 9, 10, 11, 12, 1, 0] rfl)
                    · refine lv_iconst (v := nI 1) hx hb dL_acts_815 (by decide) ?_
                      refine lv_goto (tgt := 820) hx hb dL_acts_816 (by decide) ?_
                      refine lv_istore (lv' := [(13, .int (nI 1)), (0, .ref (ad 0 0)), (1, .ref (ad 9 0)), (2, .ref (ad 10 0)), (3, .ref (ad 11 0)), (4, .ref (ad 12 0)), (5, .ref (ad 13 0)), (6, .int (nI wy)), (7, .int (nI z)), (10, .int (nI (z % 63))), (11, .int (nI ot)), (12, .int (nI (r_p t (z % 63)))), (14, .int (nI k))]) hx hb dL_acts_820 hl (by decide) rfl (fun ls hl => ?_)
                      refine lv_iinc (v := nI (k + 1)) (lv' := [(14, .int (nI (k + 1))), (13, .int (nI 1)), (0, .ref (ad 0 0)), (1, .ref (ad 9 0)), (2, .ref (ad 10 0)), (3, .ref (ad 11 0)), (4, .ref (ad 12 0)), (5, .ref (ad 13 0)), (6, .int (nI wy)), (7, .int (nI z)), (10, .int (nI (z % 63))), (11, .int (nI ot)), (12, .int (nI (r_p t (z % 63))))]) hx hb dL_acts_822 hl (k := 12) rfl (nI_add _ _) (by decide) rfl (fun ls hl => ?_)
                      refine lv_goto (tgt := 788) hx hb dL_acts_825 (by decide) ?_
                      exact ih (k + 1) true (by omega) (by omega) (by rw [q_ad, ← hrs, h_797, decide_eq_true h_812]; rfl) _ _ hW hS _ (lv_sub hl [2, 3, 4, 5, 6, 7, 8, 9, 10, 11, 12, 1, 0] rfl)
            exact hloop_788 64 0 true (by omega) (by omega) rfl _ _ hW hS _ (lv_sub hl [3, 4, 5, 6, 7, 8, 9, 10, 11, 12, 2, 1, 0] rfl)
          · subst h_743
            have hl : lv_has ls 15 [(12, .int (nI (r_p t (z % 63)))), (0, .ref (ad 0 0)), (1, .ref (ad 9 0)), (2, .ref (ad 10 0)), (3, .ref (ad 11 0)), (4, .ref (ad 12 0)), (5, .ref (ad 13 0)), (6, .int (nI wy)), (7, .int (nI z)), (10, .int (nI (z % 63))), (11, .int (nI (z % 63)))] := hl
            refine lv_aload_n hx hb dL_acts_746 rfl (lv_at hl 1 rfl) ?_
            refine lv_iload hx hb dL_acts_747 (lv_at hl 9 rfl) ?_
            refine lv_iload hx hb dL_acts_749 (lv_at hl 10 rfl) ?_
            refine k_ci (lw_va (vx_runSX (As := [.ref (ad 0 0), .int (nI (z % 63)), .int (nI (z % 63))]) (rest := []) ⟨hx, hb, hml, hown, hts⟩ (cw_swap_b3 l hlt g ad t (z % 63) hJ.hd (by omega) (by omega)) (vx_cwSW 3 hts gL_acts_L_swapped rfl rfl rfl (by decide +kernel) ⟨(Nat.le_of_ble_eq_true rfl), (Nat.le_of_ble_eq_true rfl)⟩) ⟨k_blind, fun U hU hw => ⟨rfl, k_I.of hK hZ hN hS hW hU hw⟩⟩ rfl rfl hl.1 rfl (lv_room (Nat.le_of_ble_eq_true rfl)) dL_acts_751 ⟨(Nat.le_of_ble_eq_true rfl), (Nat.le_of_ble_eq_true rfl)⟩)) hS (fun r u H locs hpo hW hS => ?_)
            obtain ⟨hr9, hu9⟩ := hpo; replace hu9 := hu9.symm; subst hu9; replace hr9 := hr9.symm; subst hr9
            refine lv_bipush (v := (-4)) hx hb dL_acts_754 (by decide) ?_
            refine lv_icmp_ne (tgt := 763) hx hb dL_acts_756 (by decide) (fun h_756 => absurd rfl h_756) (fun h_756 => ?_)
            refine lv_iconst (v := nI 1) hx hb dL_acts_759 (by decide) ?_
            refine lv_goto (tgt := 764) hx hb dL_acts_760 (by decide) ?_
            exact k_rzA hQ hx hb hr rfl hlk hS hW ⟨rfl, hJ.mono (Nat.le_succ _), (fun _ _ _ _ => rfl)⟩ (Nat.le_of_ble_eq_true rfl) (Nat.le_of_ble_eq_true rfl) dL_acts_764
    refine lv_iload hx hb dL_acts_651 (lv_at hl 7 rfl) ?_
    refine lv_bipush (v := nI 63) hx hb dL_acts_653 (by decide) ?_
    refine lv_irem hx hb dL_acts_655 (by decide) ?_
    refine k_toi (pk_rem (by omega) (by decide) (by decide)) ?_
    refine lv_istore (lv' := [(10, .int (nI (z % 63))), (0, .ref (ad 0 0)), (1, .ref (ad 9 0)), (2, .ref (ad 10 0)), (3, .ref (ad 11 0)), (4, .ref (ad 12 0)), (5, .ref (ad 13 0)), (6, .int (nI wy)), (7, .int (nI z))]) hx hb dL_acts_656 hl (by decide) rfl (fun ls hl => ?_)
    refine lv_iload hx hb dL_acts_658 (lv_at hl 8 rfl) ?_
    refine lv_bipush (v := nI 63) hx hb dL_acts_660 (by decide) ?_
    refine lv_idiv hx hb dL_acts_662 (by decide) ?_
    refine k_toi (pk_div (by omega) (by decide) (by decide)) ?_
    refine lv_iconst (v := nI 3) hx hb dL_acts_663 (by decide) ?_
    refine lv_irem hx hb dL_acts_664 (by decide) ?_
    refine k_toi (pk_rem (by omega) (by decide) (by decide)) ?_
    refine k_if_ne (tgt := 680) hx hb (by omega) dL_acts_665 (by decide) (fun h_665 => ?_) (fun h_665 => ?_)
    · refine lv_iload hx hb dL_acts_680 (lv_at hl 0 rfl) ?_
      refine lv_bipush (v := nI 6) hx hb dL_acts_682 (by decide) ?_
      refine k_iadd hx hb dL_acts_684 ?_
      refine lv_bipush (v := nI 63) hx hb dL_acts_685 (by decide) ?_
      refine k_icmp_ge (tgt := 708) hx hb (a := (z % 63) + 6) (b := 63) (by omega) (by decide) dL_acts_687 (by decide) (fun h_687 => ?_) (fun h_687 => ?_)
      · refine lv_iload hx hb dL_acts_708 (lv_at hl 0 rfl) ?_
        refine lv_iconst (v := nI 1) hx hb dL_acts_710 (by decide) ?_
        refine k_isub hx hb (by omega) dL_acts_711 ?_
        refine lv_istore (lv' := [(11, .int (nI ((z % 63) - 1))), (10, .int (nI (z % 63))), (0, .ref (ad 0 0)), (1, .ref (ad 9 0)), (2, .ref (ad 10 0)), (3, .ref (ad 11 0)), (4, .ref (ad 12 0)), (5, .ref (ad 13 0)), (6, .int (nI wy)), (7, .int (nI z))]) hx hb dL_acts_712 hl (by decide) rfl (fun ls hl => ?_)
        exact hcut_714 ((z % 63) - 1) (by omega) _ _ hW hS _ (lv_sub hl [2, 3, 4, 5, 6, 7, 8, 9, 1, 0] rfl)
      · refine lv_iload hx hb dL_acts_690 (lv_at hl 0 rfl) ?_
        refine lv_iconst (v := nI 5) hx hb dL_acts_692 (by decide) ?_
        refine lv_iload hx hb dL_acts_693 (lv_at hl 8 rfl) ?_
        refine lv_sipush (v := nI 189) hx hb dL_acts_695 (by decide) ?_
        refine lv_idiv hx hb dL_acts_698 (by decide) ?_
        refine k_toi (pk_div (by omega) (by decide) (by decide)) ?_
        refine lv_iconst (v := nI 2) hx hb dL_acts_699 (by decide) ?_
        refine lv_irem hx hb dL_acts_700 (by decide) ?_
        refine k_toi (pk_rem (by omega) (by decide) (by decide)) ?_
        refine k_imul hx hb dL_acts_701 ?_
        refine k_iadd hx hb dL_acts_702 ?_
        refine lv_iconst (v := nI 1) hx hb dL_acts_703 (by decide) ?_
        refine k_iadd hx hb dL_acts_704 ?_
        refine lv_goto (tgt := 712) hx hb dL_acts_705 (by decide) ?_
        refine lv_istore (lv' := [(11, .int (nI (((z % 63) + (5 * ((z / 189) % 2))) + 1))), (10, .int (nI (z % 63))), (0, .ref (ad 0 0)), (1, .ref (ad 9 0)), (2, .ref (ad 10 0)), (3, .ref (ad 11 0)), (4, .ref (ad 12 0)), (5, .ref (ad 13 0)), (6, .int (nI wy)), (7, .int (nI z))]) hx hb dL_acts_712 hl (by decide) rfl (fun ls hl => ?_)
        exact hcut_714 (((z % 63) + (5 * ((z / 189) % 2))) + 1) (by omega) _ _ hW hS _ (lv_sub hl [2, 3, 4, 5, 6, 7, 8, 9, 1, 0] rfl)
    · refine lv_iload hx hb dL_acts_668 (lv_at hl 8 rfl) ?_
      refine lv_sipush (v := nI 189) hx hb dL_acts_670 (by decide) ?_
      refine lv_idiv hx hb dL_acts_673 (by decide) ?_
      refine k_toi (pk_div (by omega) (by decide) (by decide)) ?_
      refine lv_bipush (v := nI 63) hx hb dL_acts_674 (by decide) ?_
      refine lv_irem hx hb dL_acts_676 (by decide) ?_
      refine k_toi (pk_rem (by omega) (by decide) (by decide)) ?_
      refine lv_goto (tgt := 712) hx hb dL_acts_677 (by decide) ?_
      refine lv_istore (lv' := [(11, .int (nI ((z / 189) % 63))), (10, .int (nI (z % 63))), (0, .ref (ad 0 0)), (1, .ref (ad 9 0)), (2, .ref (ad 10 0)), (3, .ref (ad 11 0)), (4, .ref (ad 12 0)), (5, .ref (ad 13 0)), (6, .int (nI wy)), (7, .int (nI z))]) hx hb dL_acts_712 hl (by decide) rfl (fun ls hl => ?_)
      exact hcut_714 ((z / 189) % 63) (by omega) _ _ hW hS _ (lv_sub hl [2, 3, 4, 5, 6, 7, 8, 9, 1, 0] rfl)
  refine lv_iload hx hb dL_acts_227 (lv_at hl 7 rfl) ?_
  refine lv_aload hx hb dL_acts_229 (lv_at hl 4 rfl) ?_
  refine lv_iconst (v := nI 0) hx hb dL_acts_231 (by decide) ?_
  refine k_iald hx hb hK hW (kc_12 g ad t) 0 rfl (by omega) (by decide) dL_acts_232 ?_
  refine k_toi (y := nI (s_md t)) hJ.wm0 ?_
  refine lv_iconst (v := nI 1) hx hb dL_acts_233 (by decide) ?_
  refine k_iadd hx hb dL_acts_234 ?_
  refine lv_irem hx hb dL_acts_235 (fun q => by have := (nI_eq (a := (s_md t) + 1) (b := 0) (by omega) (by decide)).mp q; omega) ?_
  refine k_toi (pk_rem (by omega) (by omega) (by omega)) ?_
  refine k_toi (y := nI cp) (congrArg nI hcp) ?_
  refine lv_istore (lv' := [(8, .int (nI cp)), (0, .ref (ad 0 0)), (1, .ref (ad 9 0)), (2, .ref (ad 10 0)), (3, .ref (ad 11 0)), (4, .ref (ad 12 0)), (5, .ref (ad 13 0)), (6, .int (nI wy)), (7, .int (nI z))]) hx hb dL_acts_236 hl (by decide) rfl (fun ls hl => ?_)
  refine lv_iload hx hb dL_acts_238 (lv_at hl 0 rfl) ?_
  refine lv_aload hx hb dL_acts_240 (lv_at hl 5 rfl) ?_
  refine lv_iconst (v := nI 0) hx hb dL_acts_242 (by decide) ?_
  refine k_iald hx hb hK hW (kc_12 g ad t) 0 rfl (by omega) (by decide) dL_acts_243 ?_
  refine k_toi (y := nI (s_md t)) hJ.wm0 ?_
  refine k_icmp_ge (tgt := 264) hx hb (a := cp) (b := s_md t) (by omega) (by omega) dL_acts_244 (by decide) (fun h_244 => ?_) (fun h_244 => ?_)
  · refine lv_iconst (v := nI 0) hx hb dL_acts_264 (by decide) ?_
    refine lv_istore (lv' := [(9, .int (nI 0)), (8, .int (nI cp)), (0, .ref (ad 0 0)), (1, .ref (ad 9 0)), (2, .ref (ad 10 0)), (3, .ref (ad 11 0)), (4, .ref (ad 12 0)), (5, .ref (ad 13 0)), (6, .int (nI wy)), (7, .int (nI z))]) hx hb dL_acts_265 hl (by decide) rfl (fun ls hl => ?_)
    exact hcut_267   _ _ hW hS _ (lv_sub hl [2, 3, 4, 5, 6, 7, 8, 9] rfl)
  · refine lv_aload hx hb dL_acts_247 (lv_at hl 5 rfl) ?_
    refine lv_iconst (v := nI 2) hx hb dL_acts_249 (by decide) ?_
    refine k_iald hx hb hK hW (kc_12 g ad t) 2 rfl (by omega) (by decide) dL_acts_250 ?_
    refine k_toi (y := kB (s_th t)) hJ.wm2 ?_
    refine lv_iload hx hb dL_acts_251 (lv_at hl 0 rfl) ?_
    refine lv_ishr hx hb dL_acts_253 ?_
    refine lv_iconst (v := nI 1) hx hb dL_acts_254 (by decide) ?_
    refine lv_iand hx hb dL_acts_255 ?_
    refine k_toi (y := kb ((s_th t) cp)) (kB_bit (s_th t) (by omega)) ?_
    refine lv_iconst (v := nI 1) hx hb dL_acts_256 (by decide) ?_
    refine k_b1_ne (tgt := 264) hx hb dL_acts_257 (by decide) (fun h_257 => ?_) (fun h_257 => ?_)
    · refine lv_iconst (v := nI 0) hx hb dL_acts_264 (by decide) ?_
      refine lv_istore (lv' := [(9, .int (nI 0)), (8, .int (nI cp)), (0, .ref (ad 0 0)), (1, .ref (ad 9 0)), (2, .ref (ad 10 0)), (3, .ref (ad 11 0)), (4, .ref (ad 12 0)), (5, .ref (ad 13 0)), (6, .int (nI wy)), (7, .int (nI z))]) hx hb dL_acts_265 hl (by decide) rfl (fun ls hl => ?_)
      exact hcut_267   _ _ hW hS _ (lv_sub hl [2, 3, 4, 5, 6, 7, 8, 9] rfl)
    · refine lv_iconst (v := nI 1) hx hb dL_acts_260 (by decide) ?_
      refine lv_goto (tgt := 265) hx hb dL_acts_261 (by decide) ?_
      refine lv_istore (lv' := [(9, .int (nI 1)), (8, .int (nI cp)), (0, .ref (ad 0 0)), (1, .ref (ad 9 0)), (2, .ref (ad 10 0)), (3, .ref (ad 11 0)), (4, .ref (ad 12 0)), (5, .ref (ad 13 0)), (6, .int (nI wy)), (7, .int (nI z))]) hx hb dL_acts_265 hl (by decide) rfl (fun ls hl => ?_)
      exact hcut_267   _ _ hW hS _ (lv_sub hl [2, 3, 4, 5, 6, 7, 8, 9] rfl)
set_option maxRecDepth 100000 in
set_option maxHeartbeats 4000000 in
theorem c_L_acts_alarm (l : Launch) (hlt : l.stackTraces = false) (g : k_g) (ad : k_AD) (t : k_T) (e9 : Nat) (wy : Nat) (z : Nat) (cp : Nat) (hJ : q_J e9 t) (he : e9 ≤ 190) (hw1 : 21 ≤ wy) (hw2 : wy < 23) (hzz : z < 10000000) (hcp : z % (s_md t + 1) = cp) : Met l yL_acts wsL_acts rm_L_acts (va_Pc [.ref (ad 0 0), .ref (ad 9 0), .ref (ad 10 0), .ref (ad 11 0), .ref (ad 12 0), .ref (ad 13 0), .int (nI wy), .int (nI z)] (k_I g (k_ct g ad t) ad)) (va_Qi (S := k_T × k_AD) (fun r u => r = nI 1 ∧ q_J (e9 + 1) u.1 ∧ ∀ a b, a ≠ 25 → a ≠ 26 → u.2 a b = ad a b) (fun u U => k_H g u.2 u.1 U.heap) (k_A g)) 24 171 (k_A g) := by
  refine k_met (cc := cL_acts) (maxL := 15) (ret := (some .boolean)) (by decide) rfl (Nat.le_of_ble_eq_true rfl) (fun p e s m args below meth c Q ls hQ hx hb hr hml hts hown hlk hin hK hZ hN hW hS hl => ?_)
  have hown : s.vm.findClass RL = some m.cls := hown
  have hW : k_H g ad t s.heap := hW
  have hl : lv_has ls 15 [(0, .ref (ad 0 0)), (1, .ref (ad 9 0)), (2, .ref (ad 10 0)), (3, .ref (ad 11 0)), (4, .ref (ad 12 0)), (5, .ref (ad 13 0)), (6, .int (nI wy)), (7, .int (nI z))] := hl
  have hm14 := hJ.m14
  have hd58 := hJ.d58
  have hcl : cp ≤ s_md t := by rw [← hcp]; exact Nat.lt_succ_iff.mp (Nat.mod_lt _ (Nat.succ_pos _))
  refine lv_iload hx hb dL_acts_0 (lv_at hl 6 rfl) ?_
  refine lv_iconst (v := nI 5) hx hb dL_acts_2 (by decide) ?_
  refine k_icmp_ge (tgt := 97) hx hb (a := wy) (b := 5) (by omega) (by decide) dL_acts_3 (by decide) (fun h_3 => ?_) (fun h_3 => absurd h_3 (by omega))
  refine lv_iload hx hb dL_acts_97 (lv_at hl 6 rfl) ?_
  refine lv_bipush (v := nI 8) hx hb dL_acts_99 (by decide) ?_
  refine k_icmp_ge (tgt := 181) hx hb (a := wy) (b := 8) (by omega) (by decide) dL_acts_101 (by decide) (fun h_101 => ?_) (fun h_101 => absurd h_101 (by omega))
  refine lv_iload hx hb dL_acts_181 (lv_at hl 6 rfl) ?_
  refine lv_bipush (v := nI 12) hx hb dL_acts_183 (by decide) ?_
  refine k_icmp_ge (tgt := 227) hx hb (a := wy) (b := 12) (by omega) (by decide) dL_acts_185 (by decide) (fun h_185 => ?_) (fun h_185 => absurd h_185 (by omega))
  have hcut_267 : ∀ (H : Heap) (locs : List Loc), k_H g ad t H → va_S (k_A g) s.heap H locs → ∀ (ls : Array Slot), lv_has ls 15 [(0, .ref (ad 0 0)), (1, .ref (ad 9 0)), (2, .ref (ad 10 0)), (3, .ref (ad 11 0)), (4, .ref (ad 12 0)), (5, .ref (ad 13 0)), (6, .int (nI wy)), (7, .int (nI z))] → W p l e rm_L_acts s m args below meth c H locs 0 0 Q (F0 m 267 ls []) := by
    intro   H locs hW hS ls hl
    refine lv_iload hx hb dL_acts_267 (lv_at hl 6 rfl) ?_
    refine lv_bipush (v := nI 14) hx hb dL_acts_269 (by decide) ?_
    refine k_icmp_ge (tgt := 391) hx hb (a := wy) (b := 14) (by omega) (by decide) dL_acts_271 (by decide) (fun h_271 => ?_) (fun h_271 => absurd h_271 (by omega))
    refine lv_iload hx hb dL_acts_391 (lv_at hl 6 rfl) ?_
    refine lv_bipush (v := nI 14) hx hb dL_acts_393 (by decide) ?_
    refine k_icmp_ne (tgt := 544) hx hb (a := wy) (b := 14) (by omega) (by decide) dL_acts_395 (by decide) (fun h_395 => ?_) (fun h_395 => absurd h_395 (by omega))
    refine lv_iload hx hb dL_acts_544 (lv_at hl 6 rfl) ?_
    refine lv_bipush (v := nI 15) hx hb dL_acts_546 (by decide) ?_
    refine k_icmp_ne (tgt := 618) hx hb (a := wy) (b := 15) (by omega) (by decide) dL_acts_548 (by decide) (fun h_548 => ?_) (fun h_548 => absurd h_548 (by omega))
    refine lv_iload hx hb dL_acts_618 (lv_at hl 6 rfl) ?_
    refine lv_bipush (v := nI 18) hx hb dL_acts_620 (by decide) ?_
    refine k_icmp_ge (tgt := 644) hx hb (a := wy) (b := 18) (by omega) (by decide) dL_acts_622 (by decide) (fun h_622 => ?_) (fun h_622 => absurd h_622 (by omega))
    refine lv_iload hx hb dL_acts_644 (lv_at hl 6 rfl) ?_
    refine lv_bipush (v := nI 21) hx hb dL_acts_646 (by decide) ?_
    refine k_icmp_ge (tgt := 882) hx hb (a := wy) (b := 21) (by omega) (by decide) dL_acts_648 (by decide) (fun h_648 => ?_) (fun h_648 => absurd h_648 (by omega))
    refine lv_iload hx hb dL_acts_882 (lv_at hl 7 rfl) ?_
    refine lv_bipush (v := nI 32) hx hb dL_acts_884 (by decide) ?_
    refine lv_irem hx hb dL_acts_886 (by decide) ?_
    refine k_toi (pk_rem (by omega) (by decide) (by decide)) ?_
    refine lv_istore (lv' := [(10, .int (nI (z % 32))), (0, .ref (ad 0 0)), (1, .ref (ad 9 0)), (2, .ref (ad 10 0)), (3, .ref (ad 11 0)), (4, .ref (ad 12 0)), (5, .ref (ad 13 0)), (6, .int (nI wy)), (7, .int (nI z))]) hx hb dL_acts_887 hl (by decide) rfl (fun ls hl => ?_)
    refine lv_iconst (v := (-1)) hx hb dL_acts_889 (by decide) ?_
    refine lv_istore (lv' := [(11, .int (-1)), (10, .int (nI (z % 32))), (0, .ref (ad 0 0)), (1, .ref (ad 9 0)), (2, .ref (ad 10 0)), (3, .ref (ad 11 0)), (4, .ref (ad 12 0)), (5, .ref (ad 13 0)), (6, .int (nI wy)), (7, .int (nI z))]) hx hb dL_acts_890 hl (by decide) rfl (fun ls hl => ?_)
    refine lv_iconst (v := nI 3) hx hb dL_acts_892 (by decide) ?_
    refine lv_istore (lv' := [(12, .int (nI 3)), (11, .int (-1)), (10, .int (nI (z % 32))), (0, .ref (ad 0 0)), (1, .ref (ad 9 0)), (2, .ref (ad 10 0)), (3, .ref (ad 11 0)), (4, .ref (ad 12 0)), (5, .ref (ad 13 0)), (6, .int (nI wy)), (7, .int (nI z))]) hx hb dL_acts_893 hl (by decide) rfl (fun ls hl => ?_)
    have hloop_895 : ∀ (r : Nat) (who : Int32), (r ≤ 4) → (who = k_al (r_p t) (z % 32) (4 - r) (x_d t + r)) → ∀ (H : Heap) (locs : List Loc), k_H g ad t H → va_S (k_A g) s.heap H locs → ∀ (ls : Array Slot), lv_has ls 15 [(0, .ref (ad 0 0)), (1, .ref (ad 9 0)), (2, .ref (ad 10 0)), (3, .ref (ad 11 0)), (4, .ref (ad 12 0)), (5, .ref (ad 13 0)), (6, .int (nI wy)), (7, .int (nI z)), (10, .int (nI (z % 32))), (11, .int who), (12, .int (nI r + (-1)))] → W p l e rm_L_acts s m args below meth c H locs 0 0 Q (F0 m 895 ls []) := by
      intro r
      induction r with
      | zero =>
        intro who hr4 hwho H locs hW hS ls hl
        refine lv_iload hx hb dL_acts_895 (lv_at hl 10 rfl) ?_
        refine lv_if_lt (tgt := 942) hx hb dL_acts_897 (by decide) (fun h_897 => ?_) (fun h_897 => absurd k_n0 h_897)
        refine lv_aload_n hx hb dL_acts_942 rfl (lv_at hl 0 rfl) ?_
        refine lv_iload hx hb dL_acts_943 (lv_at hl 8 rfl) ?_
        refine k_ci (va_runV (As := [.int (nI (z % 32))]) (rest := []) ⟨hx, hb, hml, hown, hts⟩ (c_X4_alarm_ok l hlt g ad t (z % 32) (by omega) hJ.hd hJ.rtb) (cwV 1 hts gL_acts_X4_alarm rfl rfl rfl (by decide +kernel) ⟨(Nat.le_of_ble_eq_true rfl), (Nat.le_of_ble_eq_true rfl)⟩) ⟨k_blind, k_recv hK hW (kc_0 g ad t) rfl, fun U hU hw => ⟨rfl, k_I.of hK hZ hN hS hW hU hw⟩⟩ rfl rfl hl.1 rfl (lv_room (Nat.le_of_ble_eq_true rfl)) dL_acts_945 ⟨(Nat.le_of_ble_eq_true rfl), (Nat.le_of_ble_eq_true rfl)⟩) hS (fun r u H locs hpo hW hS => ?_)
        obtain ⟨hr9, hu9⟩ := hpo; replace hu9 := hu9.symm; subst hu9; replace hr9 := hr9.symm; subst hr9
        refine lv_iload hx hb dL_acts_948 (lv_at hl 9 rfl) ?_
        refine k_toi (y := k_al (r_p t) (z % 32) 4 (x_d t)) hwho ?_
        refine lv_icmp_ne (tgt := 957) hx hb dL_acts_950 (by decide) (fun h_950 => absurd rfl h_950) (fun h_950 => ?_)
        refine lv_iconst (v := nI 1) hx hb dL_acts_953 (by decide) ?_
        refine lv_goto (tgt := 958) hx hb dL_acts_954 (by decide) ?_
        exact k_rzA hQ hx hb hr rfl hlk hS hW ⟨rfl, hJ.mono (Nat.le_succ _), (fun _ _ _ _ => rfl)⟩ (Nat.le_of_ble_eq_true rfl) (Nat.le_of_ble_eq_true rfl) dL_acts_958
      | succ r ih =>
        intro who hr4 hwho H locs hW hS ls hl
        rw [k_dec] at hl
        refine lv_iload hx hb dL_acts_895 (lv_at hl 10 rfl) ?_
        refine k_if_lt (tgt := 942) hx hb (by omega) dL_acts_897 (by decide) ?_
        refine lv_iload hx hb dL_acts_900 (lv_at hl 8 rfl) ?_
        refine lv_aload hx hb dL_acts_902 (lv_at hl 5 rfl) ?_
        refine lv_aload hx hb dL_acts_904 (lv_at hl 4 rfl) ?_
        refine lv_iconst (v := nI 1) hx hb dL_acts_906 (by decide) ?_
        refine k_iald hx hb hK hW (kc_12 g ad t) 1 rfl (by omega) (by decide) dL_acts_907 ?_
        refine k_toi (y := nI (x_d t)) hJ.wm1 ?_
        refine lv_iload hx hb dL_acts_908 (lv_at hl 10 rfl) ?_
        refine k_iadd hx hb dL_acts_910 ?_
        refine k_iald hx hb hK hW (kc_13 g ad t) ((x_d t) + r) rfl (by omega) (by decide) dL_acts_911 ?_
        refine k_toi (y := nI (r_p t (x_d t + r))) (hJ.wr _ (by omega)) ?_
        refine lv_ishr hx hb dL_acts_912 ?_
        refine lv_iconst (v := nI 1) hx hb dL_acts_913 (by decide) ?_
        refine lv_iand hx hb dL_acts_914 ?_
        refine lv_iconst (v := nI 1) hx hb dL_acts_915 (by decide) ?_
        refine lv_icmp_ne (tgt := 932) hx hb dL_acts_916 (by decide) (fun h_916 => ?_) (fun h_916 => ?_)
        · refine lv_iload hx hb dL_acts_932 (lv_at hl 9 rfl) ?_
          refine lv_istore (lv' := [(11, .int who), (0, .ref (ad 0 0)), (1, .ref (ad 9 0)), (2, .ref (ad 10 0)), (3, .ref (ad 11 0)), (4, .ref (ad 12 0)), (5, .ref (ad 13 0)), (6, .int (nI wy)), (7, .int (nI z)), (10, .int (nI (z % 32))), (12, .int (nI r))]) hx hb dL_acts_934 hl (by decide) rfl (fun ls hl => ?_)
          refine lv_iinc (v := nI r + (-1)) (lv' := [(12, .int (nI r + (-1))), (11, .int who), (0, .ref (ad 0 0)), (1, .ref (ad 9 0)), (2, .ref (ad 10 0)), (3, .ref (ad 11 0)), (4, .ref (ad 12 0)), (5, .ref (ad 13 0)), (6, .int (nI wy)), (7, .int (nI z)), (10, .int (nI (z % 32)))]) hx hb dL_acts_936 hl (k := 10) rfl rfl (by decide) rfl (fun ls hl => ?_)
          refine lv_goto (tgt := 895) hx hb dL_acts_939 (by decide) ?_
          exact ih (who) (by omega) (by rw [hwho, show 4 - r = (4 - (r + 1)) + 1 by omega, k_al, if_neg (fun q => h_916 ((k_shr (z % 32) (by omega) _ (hJ.rtb _ (by omega))).mpr q))]; rfl) _ _ hW hS _ (lv_sub hl [2, 3, 4, 5, 6, 7, 8, 9, 10, 1, 0] rfl)
        · refine lv_aload hx hb dL_acts_919 (lv_at hl 5 rfl) ?_
          refine lv_aload hx hb dL_acts_921 (lv_at hl 4 rfl) ?_
          refine lv_iconst (v := nI 1) hx hb dL_acts_923 (by decide) ?_
          refine k_iald hx hb hK hW (kc_12 g ad t) 1 rfl (by omega) (by decide) dL_acts_924 ?_
          refine k_toi (y := nI (x_d t)) hJ.wm1 ?_
          refine lv_iload hx hb dL_acts_925 (lv_at hl 10 rfl) ?_
          refine k_iadd hx hb dL_acts_927 ?_
          refine k_iald hx hb hK hW (kc_13 g ad t) ((x_d t) + r) rfl (by omega) (by decide) dL_acts_928 ?_
          refine k_toi (y := nI (r_p t (x_d t + r))) (hJ.wr _ (by omega)) ?_
          refine lv_goto (tgt := 934) hx hb dL_acts_929 (by decide) ?_
          refine lv_istore (lv' := [(11, .int (nI (r_p t (x_d t + r)))), (0, .ref (ad 0 0)), (1, .ref (ad 9 0)), (2, .ref (ad 10 0)), (3, .ref (ad 11 0)), (4, .ref (ad 12 0)), (5, .ref (ad 13 0)), (6, .int (nI wy)), (7, .int (nI z)), (10, .int (nI (z % 32))), (12, .int (nI r))]) hx hb dL_acts_934 hl (by decide) rfl (fun ls hl => ?_)
          refine lv_iinc (v := nI r + (-1)) (lv' := [(12, .int (nI r + (-1))), (11, .int (nI (r_p t (x_d t + r)))), (0, .ref (ad 0 0)), (1, .ref (ad 9 0)), (2, .ref (ad 10 0)), (3, .ref (ad 11 0)), (4, .ref (ad 12 0)), (5, .ref (ad 13 0)), (6, .int (nI wy)), (7, .int (nI z)), (10, .int (nI (z % 32)))]) hx hb dL_acts_936 hl (k := 10) rfl rfl (by decide) rfl (fun ls hl => ?_)
          refine lv_goto (tgt := 895) hx hb dL_acts_939 (by decide) ?_
          exact ih (nI (r_p t (x_d t + r))) (by omega) (by rw [show 4 - r = (4 - (r + 1)) + 1 by omega, k_al, if_pos ((k_shr (z % 32) (by omega) _ (hJ.rtb _ (by omega))).mp h_916)]) _ _ hW hS _ (lv_sub hl [2, 3, 4, 5, 6, 7, 8, 9, 10, 1, 0] rfl)
    exact hloop_895 4 (-1) (Nat.le_refl _) rfl _ _ hW hS _ (lv_sub hl [3, 4, 5, 6, 7, 8, 9, 10, 2, 1, 0] rfl)
  refine lv_iload hx hb dL_acts_227 (lv_at hl 7 rfl) ?_
  refine lv_aload hx hb dL_acts_229 (lv_at hl 4 rfl) ?_
  refine lv_iconst (v := nI 0) hx hb dL_acts_231 (by decide) ?_
  refine k_iald hx hb hK hW (kc_12 g ad t) 0 rfl (by omega) (by decide) dL_acts_232 ?_
  refine k_toi (y := nI (s_md t)) hJ.wm0 ?_
  refine lv_iconst (v := nI 1) hx hb dL_acts_233 (by decide) ?_
  refine k_iadd hx hb dL_acts_234 ?_
  refine lv_irem hx hb dL_acts_235 (fun q => by have := (nI_eq (a := (s_md t) + 1) (b := 0) (by omega) (by decide)).mp q; omega) ?_
  refine k_toi (pk_rem (by omega) (by omega) (by omega)) ?_
  refine k_toi (y := nI cp) (congrArg nI hcp) ?_
  refine lv_istore (lv' := [(8, .int (nI cp)), (0, .ref (ad 0 0)), (1, .ref (ad 9 0)), (2, .ref (ad 10 0)), (3, .ref (ad 11 0)), (4, .ref (ad 12 0)), (5, .ref (ad 13 0)), (6, .int (nI wy)), (7, .int (nI z))]) hx hb dL_acts_236 hl (by decide) rfl (fun ls hl => ?_)
  refine lv_iload hx hb dL_acts_238 (lv_at hl 0 rfl) ?_
  refine lv_aload hx hb dL_acts_240 (lv_at hl 5 rfl) ?_
  refine lv_iconst (v := nI 0) hx hb dL_acts_242 (by decide) ?_
  refine k_iald hx hb hK hW (kc_12 g ad t) 0 rfl (by omega) (by decide) dL_acts_243 ?_
  refine k_toi (y := nI (s_md t)) hJ.wm0 ?_
  refine k_icmp_ge (tgt := 264) hx hb (a := cp) (b := s_md t) (by omega) (by omega) dL_acts_244 (by decide) (fun h_244 => ?_) (fun h_244 => ?_)
  · refine lv_iconst (v := nI 0) hx hb dL_acts_264 (by decide) ?_
    refine lv_istore (lv' := [(9, .int (nI 0)), (8, .int (nI cp)), (0, .ref (ad 0 0)), (1, .ref (ad 9 0)), (2, .ref (ad 10 0)), (3, .ref (ad 11 0)), (4, .ref (ad 12 0)), (5, .ref (ad 13 0)), (6, .int (nI wy)), (7, .int (nI z))]) hx hb dL_acts_265 hl (by decide) rfl (fun ls hl => ?_)
    exact hcut_267   _ _ hW hS _ (lv_sub hl [2, 3, 4, 5, 6, 7, 8, 9] rfl)
  · refine lv_aload hx hb dL_acts_247 (lv_at hl 5 rfl) ?_
    refine lv_iconst (v := nI 2) hx hb dL_acts_249 (by decide) ?_
    refine k_iald hx hb hK hW (kc_12 g ad t) 2 rfl (by omega) (by decide) dL_acts_250 ?_
    refine k_toi (y := kB (s_th t)) hJ.wm2 ?_
    refine lv_iload hx hb dL_acts_251 (lv_at hl 0 rfl) ?_
    refine lv_ishr hx hb dL_acts_253 ?_
    refine lv_iconst (v := nI 1) hx hb dL_acts_254 (by decide) ?_
    refine lv_iand hx hb dL_acts_255 ?_
    refine k_toi (y := kb ((s_th t) cp)) (kB_bit (s_th t) (by omega)) ?_
    refine lv_iconst (v := nI 1) hx hb dL_acts_256 (by decide) ?_
    refine k_b1_ne (tgt := 264) hx hb dL_acts_257 (by decide) (fun h_257 => ?_) (fun h_257 => ?_)
    · refine lv_iconst (v := nI 0) hx hb dL_acts_264 (by decide) ?_
      refine lv_istore (lv' := [(9, .int (nI 0)), (8, .int (nI cp)), (0, .ref (ad 0 0)), (1, .ref (ad 9 0)), (2, .ref (ad 10 0)), (3, .ref (ad 11 0)), (4, .ref (ad 12 0)), (5, .ref (ad 13 0)), (6, .int (nI wy)), (7, .int (nI z))]) hx hb dL_acts_265 hl (by decide) rfl (fun ls hl => ?_)
      exact hcut_267   _ _ hW hS _ (lv_sub hl [2, 3, 4, 5, 6, 7, 8, 9] rfl)
    · refine lv_iconst (v := nI 1) hx hb dL_acts_260 (by decide) ?_
      refine lv_goto (tgt := 265) hx hb dL_acts_261 (by decide) ?_
      refine lv_istore (lv' := [(9, .int (nI 1)), (8, .int (nI cp)), (0, .ref (ad 0 0)), (1, .ref (ad 9 0)), (2, .ref (ad 10 0)), (3, .ref (ad 11 0)), (4, .ref (ad 12 0)), (5, .ref (ad 13 0)), (6, .int (nI wy)), (7, .int (nI z))]) hx hb dL_acts_265 hl (by decide) rfl (fun ls hl => ?_)
      exact hcut_267   _ _ hW hS _ (lv_sub hl [2, 3, 4, 5, 6, 7, 8, 9] rfl)
