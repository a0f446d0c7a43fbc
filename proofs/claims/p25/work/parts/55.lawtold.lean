abbrev rm_L_isTold : Room := { frames := 9, cells := 640, slots := 3840, locals := 158 }
set_option maxRecDepth 100000 in
set_option maxHeartbeats 4000000 in
theorem c_L_isTold (l : Launch) (hlt : l.stackTraces = false) (g : k_g) (ad : k_AD) (t : k_T) (e9 : Nat) (hJ : q_J e9 t) (he : e9 ≤ 200) : Met l yL_isTold wsL_isTold rm_L_isTold (va_Pc [.ref (ad 0 0), .ref (ad 9 0), .ref (ad 10 0), .ref (ad 12 0), .ref (ad 13 0)] (k_I g (k_ct g ad t) ad)) (va_Qi (fun r u => r = nI 1 ∧ ∃ P N : Nat → Bool, u = set_o_nd (set_o_pm t P) N) (fun u U => k_H g ad u U.heap) (k_A g)) 640 3840 (k_A g) := by
  refine k_met (cc := cL_isTold) (maxL := 13) (ret := (some .boolean)) (by decide) rfl (Nat.le_of_ble_eq_true rfl) (fun p e s m args below meth c Q ls hQ hx hb hr hml hts hown hlk hin hK hZ hN hW hS hl => ?_)
  have hown : s.vm.findClass RL = some m.cls := hown
  have hW : k_H g ad t s.heap := hW
  have hl : lv_has ls 13 [(0, .ref (ad 0 0)), (1, .ref (ad 9 0)), (2, .ref (ad 10 0)), (3, .ref (ad 12 0)), (4, .ref (ad 13 0))] := hl
  have hm14 := hJ.m14
  refine lv_aload_n hx hb dL_isTold_0 rfl (lv_at hl 1 rfl) ?_
  refine lv_aload_n hx hb dL_isTold_1 rfl (lv_at hl 3 rfl) ?_
  refine k_ci (va_runS (As := [.ref (ad 9 0), .ref (ad 12 0)]) (rest := []) ⟨hx, hb, hml, hown, hts⟩ (c_L_promised l hlt g ad t (s_md t) (s_th t) (o_on t) (o_b t) (s_r1 t) (s_r2 t) (s_r3 t) hJ.A hJ.R) (va_cwS 2 hts gL_isTold_L_promised rfl rfl rfl (by decide +kernel) ⟨(Nat.le_of_ble_eq_true rfl), (Nat.le_of_ble_eq_true rfl)⟩) ⟨k_blind, fun U hU hw => ⟨rfl, k_I.of hK hZ hN hS hW hU hw⟩⟩ rfl rfl hl.1 rfl (lv_room (Nat.le_of_ble_eq_true rfl)) dL_isTold_2 ⟨(Nat.le_of_ble_eq_true rfl), (Nat.le_of_ble_eq_true rfl)⟩) hS (fun r u H locs hpo hW hS => ?_)
  obtain ⟨hr9, hu9⟩ := hpo; replace hu9 := hu9.symm; subst hu9; replace hr9 := hr9.symm; subst hr9
  obtain ⟨PP, hPP⟩ : ∃ PP : Nat → Bool, PP = (k_P (s_th t) (o_on t) (s_md t) (s_r1 t) (s_r2 t) (s_r3 t)) := ⟨_, rfl⟩
  refine k_toi (y := kB PP) (by rw [hPP]) ?_
  refine lv_istore (lv' := [(5, .int (kB PP)), (0, .ref (ad 0 0)), (1, .ref (ad 9 0)), (2, .ref (ad 10 0)), (3, .ref (ad 12 0)), (4, .ref (ad 13 0))]) hx hb dL_isTold_5 hl (by decide) rfl (fun ls hl => ?_)
  refine lv_aload_n hx hb dL_isTold_7 rfl (lv_at hl 2 rfl) ?_
  refine lv_aload_n hx hb dL_isTold_8 rfl (lv_at hl 4 rfl) ?_
  refine k_ci (va_runS (As := [.ref (ad 9 0), .ref (ad 12 0)]) (rest := []) ⟨hx, hb, hml, hown, hts⟩ (c_L_needed l hlt g ad t (s_md t) (s_th t) (o_on t) (o_b t) (s_r1 t) (s_r2 t) (s_r3 t) hJ.A hJ.R) (va_cwS 2 hts gL_isTold_L_needed rfl rfl rfl (by decide +kernel) ⟨(Nat.le_of_ble_eq_true rfl), (Nat.le_of_ble_eq_true rfl)⟩) ⟨k_blind, fun U hU hw => ⟨rfl, k_I.of hK hZ hN hS hW hU hw⟩⟩ rfl rfl hl.1 rfl (lv_room (Nat.le_of_ble_eq_true rfl)) dL_isTold_9 ⟨(Nat.le_of_ble_eq_true rfl), (Nat.le_of_ble_eq_true rfl)⟩) hS (fun r u H locs hpo hW hS => ?_)
  obtain ⟨hr9, hu9⟩ := hpo; replace hu9 := hu9.symm; subst hu9; replace hr9 := hr9.symm; subst hr9
  obtain ⟨ND, hND⟩ : ∃ ND : Nat → Bool, ND = (k_nd (s_th t) (k_P (s_th t) (o_on t) (s_md t) (s_r1 t) (s_r2 t) (s_r3 t)) (o_b t) (s_md t)) := ⟨_, rfl⟩
  refine k_toi (y := kB ND) (by rw [hND]) ?_
  refine lv_istore (lv' := [(6, .int (kB ND)), (5, .int (kB PP)), (0, .ref (ad 0 0)), (1, .ref (ad 9 0)), (2, .ref (ad 10 0)), (3, .ref (ad 12 0)), (4, .ref (ad 13 0))]) hx hb dL_isTold_12 hl (by decide) rfl (fun ls hl => ?_)
  refine lv_iconst (v := nI 0) hx hb dL_isTold_14 (by decide) ?_
  refine lv_istore (lv' := [(7, .int (nI 0)), (6, .int (kB ND)), (5, .int (kB PP)), (0, .ref (ad 0 0)), (1, .ref (ad 9 0)), (2, .ref (ad 10 0)), (3, .ref (ad 12 0)), (4, .ref (ad 13 0))]) hx hb dL_isTold_15 hl (by decide) rfl (fun ls hl => ?_)
  refine lv_aload_n hx hb dL_isTold_17 rfl (lv_at hl 3 rfl) ?_
  refine k_ci (va_runV (As := []) (rest := []) ⟨hx, hb, hml, hown, hts⟩ (c_X4_day l hlt g ad t ) (cwV 0 hts gL_isTold_X4_day rfl rfl rfl (by decide +kernel) ⟨(Nat.le_of_ble_eq_true rfl), (Nat.le_of_ble_eq_true rfl)⟩) ⟨k_blind, k_recv hK hW (kc_0 g ad t) rfl, fun U hU hw => ⟨rfl, k_I.of hK hZ hN hS hW hU hw⟩⟩ rfl rfl hl.1 rfl (lv_room (Nat.le_of_ble_eq_true rfl)) dL_isTold_18 ⟨(Nat.le_of_ble_eq_true rfl), (Nat.le_of_ble_eq_true rfl)⟩) hS (fun r u H locs hpo hW hS => ?_)
  obtain ⟨hr9, hu9⟩ := hpo; replace hu9 := hu9.symm; subst hu9; replace hr9 := hr9.symm; subst hr9
  refine lv_aload_n hx hb dL_isTold_21 rfl (lv_at hl 6 rfl) ?_
  refine lv_iconst (v := nI 1) hx hb dL_isTold_22 (by decide) ?_
  refine k_iald hx hb hK hW (kc_12 g ad t) 1 rfl (by omega) (by decide) dL_isTold_23 ?_
  refine k_toi (y := nI (x_d t)) hJ.wm1 ?_
  refine lv_icmp_ne (tgt := 44) hx hb dL_isTold_24 (by decide) (fun h_24 => absurd rfl h_24) (fun h_24 => ?_)
  refine lv_aload_n hx hb dL_isTold_27 rfl (lv_at hl 3 rfl) ?_
  refine k_ci (va_runV (As := []) (rest := []) ⟨hx, hb, hml, hown, hts⟩ (c_X4_copies l hlt g ad t hJ.hwf) (cwV 0 hts gL_isTold_X4_copies rfl rfl rfl (by decide +kernel) ⟨(Nat.le_of_ble_eq_true rfl), (Nat.le_of_ble_eq_true rfl)⟩) ⟨k_blind, k_recv hK hW (kc_0 g ad t) rfl, fun U hU hw => ⟨rfl, k_I.of hK hZ hN hS hW hU hw⟩⟩ rfl rfl hl.1 rfl (lv_room (Nat.le_of_ble_eq_true rfl)) dL_isTold_28 ⟨(Nat.le_of_ble_eq_true rfl), (Nat.le_of_ble_eq_true rfl)⟩) hS (fun r u H locs hpo hW hS => ?_)
  obtain ⟨hr9, hu9⟩ := hpo; replace hu9 := hu9.symm; subst hu9; replace hr9 := hr9.symm; subst hr9
  refine lv_aload_n hx hb dL_isTold_31 rfl (lv_at hl 6 rfl) ?_
  refine lv_iconst (v := nI 2) hx hb dL_isTold_32 (by decide) ?_
  refine k_iald hx hb hK hW (kc_12 g ad t) 2 rfl (by omega) (by decide) dL_isTold_33 ?_
  refine k_toi (y := kB (s_th t)) hJ.wm2 ?_
  refine k_ci (va_runS (As := [.int (kB (s_th t))]) (rest := [.int (nI (k_cb (s_th t) 60))]) ⟨hx, hb, hml, hown, hts⟩ (c_L_ones l hlt g ad t (s_th t) ) (va_cwS 1 hts gL_isTold_L_ones rfl rfl rfl (by decide +kernel) ⟨(Nat.le_of_ble_eq_true rfl), (Nat.le_of_ble_eq_true rfl)⟩) ⟨k_blind, fun U hU hw => ⟨rfl, k_I.of hK hZ hN hS hW hU hw⟩⟩ rfl rfl hl.1 rfl (lv_room (Nat.le_of_ble_eq_true rfl)) dL_isTold_34 ⟨(Nat.le_of_ble_eq_true rfl), (Nat.le_of_ble_eq_true rfl)⟩) hS (fun r u H locs hpo hW hS => ?_)
  obtain ⟨hr9, hu9⟩ := hpo; replace hu9 := hu9.symm; subst hu9; replace hr9 := hr9.symm; subst hr9
  refine k_toi (y := nI (k_cb (s_th t) 60)) (congrArg nI (k_cb_ext (p := s_th t) (q := s_th t) (M := 14) 60 (by decide) (fun _ _ => rfl) (fun k hk => hJ.thf (by omega)))).symm ?_
  refine lv_icmp_ne (tgt := 44) hx hb dL_isTold_37 (by decide) (fun h_37 => absurd rfl h_37) (fun h_37 => ?_)
  refine lv_iconst (v := nI 1) hx hb dL_isTold_40 (by decide) ?_
  refine lv_goto (tgt := 45) hx hb dL_isTold_41 (by decide) ?_
  refine lv_istore (lv' := [(8, .int (nI 1)), (7, .int (nI 0)), (6, .int (kB ND)), (5, .int (kB PP)), (0, .ref (ad 0 0)), (1, .ref (ad 9 0)), (2, .ref (ad 10 0)), (3, .ref (ad 12 0)), (4, .ref (ad 13 0))]) hx hb dL_isTold_45 hl (by decide) rfl (fun ls hl => ?_)
  refine lv_iconst (v := nI 0) hx hb dL_isTold_47 (by decide) ?_
  refine lv_istore (lv' := [(9, .int (nI 0)), (8, .int (nI 1)), (7, .int (nI 0)), (6, .int (kB ND)), (5, .int (kB PP)), (0, .ref (ad 0 0)), (1, .ref (ad 9 0)), (2, .ref (ad 10 0)), (3, .ref (ad 12 0)), (4, .ref (ad 13 0))]) hx hb dL_isTold_48 hl (by decide) rfl (fun ls hl => ?_)
  have hloop_50 : ∀ (n : Nat) (k : Nat) (sp : Nat) (P1 : Nat → Bool) (N1 : Nat → Bool), (s_md t + 1 < k + n) → (k ≤ s_md t + 1) → (sp = k_sm (s_th t) (fun q => o_kc t q + 1) k) → ∀ (H : Heap) (locs : List Loc), k_H g ad (set_o_nd (set_o_pm t P1) N1) H → va_S (k_A g) s.heap H locs → ∀ (ls : Array Slot), lv_has ls 13 [(0, .ref (ad 0 0)), (1, .ref (ad 9 0)), (2, .ref (ad 10 0)), (3, .ref (ad 12 0)), (4, .ref (ad 13 0)), (5, .int (kB PP)), (6, .int (kB ND)), (7, .int (nI sp)), (8, .int (nI 1)), (9, .int (nI k))] → W p l e rm_L_isTold s m args below meth c H locs (36 * k) (216 * k) Q (F0 m 50 ls []) := by
    intro n
    induction n with
    | zero =>
      intro k sp P1 N1 hfu hk hsp
      exact absurd hfu (by omega)
    | succ n ih =>
      intro k sp P1 N1 hfu hk hsp H locs hW hS ls hl
      refine lv_iload hx hb dL_isTold_50 (lv_at hl 9 rfl) ?_
      refine lv_aload_n hx hb dL_isTold_52 rfl (lv_at hl 3 rfl) ?_
      refine lv_iconst (v := nI 0) hx hb dL_isTold_53 (by decide) ?_
      refine k_iald hx hb hK hW (kc_12 g ad (set_o_nd (set_o_pm t P1) N1)) 0 rfl (by omega) (by decide) dL_isTold_54 ?_
      refine k_toi (y := nI (s_md t)) hJ.wm0 ?_
      refine lv_iconst (v := nI 1) hx hb dL_isTold_55 (by decide) ?_
      refine k_iadd hx hb dL_isTold_56 ?_
      refine k_icmp_ge (tgt := 291) hx hb (a := k) (b := (s_md t) + 1) (by omega) (by omega) dL_isTold_57 (by decide) (fun h_57 => ?_) (fun h_57 => ?_)
      · refine lv_iconst (v := nI 0) hx hb dL_isTold_291 (by decide) ?_
        refine lv_istore (lv' := [(9, .int (nI 0)), (0, .ref (ad 0 0)), (1, .ref (ad 9 0)), (2, .ref (ad 10 0)), (3, .ref (ad 12 0)), (4, .ref (ad 13 0)), (5, .int (kB PP)), (6, .int (kB ND)), (7, .int (nI sp)), (8, .int (nI 1))]) hx hb dL_isTold_292 hl (by decide) rfl (fun ls hl => ?_)
        have hloop_294 : ∀ (n : Nat) (k2 : Nat), (64 < k2 + n) → (k2 ≤ 64) → ∀ (H : Heap) (locs : List Loc), k_H g ad (set_o_nd (set_o_pm t P1) N1) H → va_S (k_A g) s.heap H locs → ∀ (ls : Array Slot), lv_has ls 13 [(0, .ref (ad 0 0)), (4, .ref (ad 13 0)), (7, .int (nI sp)), (8, .int (nI 1)), (9, .int (nI k2))] → W p l e rm_L_isTold s m args below meth c H locs (560 + k2) (3360 + 6 * k2) Q (F0 m 294 ls []) := by
          intro n
          induction n with
          | zero =>
            intro k2 hfu4 hk2
            exact absurd hfu4 (by omega)
          | succ n ih_294 =>
            intro k2 hfu4 hk2 H locs hW hS ls hl
            refine lv_iload hx hb dL_isTold_294 (lv_at hl 4 rfl) ?_
            refine lv_bipush (v := nI 64) hx hb dL_isTold_296 (by decide) ?_
            refine k_icmp_ge (tgt := 333) hx hb (a := k2) (b := 64) (by omega) (by decide) dL_isTold_298 (by decide) (fun h_298 => ?_) (fun h_298 => ?_)
            · refine lv_iload hx hb dL_isTold_333 (lv_at hl 3 rfl) ?_
              refine lv_if_eq (tgt := 351) hx hb dL_isTold_335 (by decide) (fun h_335 => absurd h_335 (by decide)) (fun h_335 => ?_)
              refine lv_aload_n hx hb dL_isTold_338 rfl (lv_at hl 0 rfl) ?_
              refine k_ci (va_runV (As := []) (rest := []) ⟨hx, hb, hml, hown, hts⟩ (c_X4_space l hlt g ad (set_o_nd (set_o_pm t P1) N1) hJ.hwf) (cwV 0 hts gL_isTold_X4_space rfl rfl rfl (by decide +kernel) ⟨(Nat.le_of_ble_eq_true rfl), (Nat.le_of_ble_eq_true rfl)⟩) ⟨k_blind, k_recv hK hW (kc_0 g ad (set_o_nd (set_o_pm t P1) N1)) rfl, fun U hU hw => ⟨rfl, k_I.of hK hZ hN hS hW hU hw⟩⟩ rfl rfl hl.1 rfl (lv_room (Nat.le_of_ble_eq_true rfl)) dL_isTold_339 ⟨(by show (560 + k2 + 0) + 0 ≤ 640; omega), (by show (3360 + 6 * k2 + 0) + 0 ≤ 3840; omega)⟩) hS (fun r u H locs hpo hW hS => ?_)
              obtain ⟨hr9, hu9⟩ := hpo; replace hu9 := hu9.symm; subst hu9; replace hr9 := hr9.symm; subst hr9
              refine k_toi (y := nI sp) (congrArg nI ((k_sm_ext (p := s_th t) (q := s_th t) (v := fun k => o_kc t k + 1) (w := fun k => o_kc t k + 1) (M := s_md t + 1) 60 (by omega) (fun _ _ => rfl) (fun _ _ => rfl) (fun k hk => hJ.thf (by omega))).trans (by rw [hsp, show k = s_md t + 1 by omega]))) ?_
              refine lv_iload hx hb dL_isTold_342 (lv_at hl 2 rfl) ?_
              refine lv_icmp_ne (tgt := 351) hx hb dL_isTold_344 (by decide) (fun h_344 => absurd rfl h_344) (fun h_344 => ?_)
              refine lv_iconst (v := nI 1) hx hb dL_isTold_347 (by decide) ?_
              refine lv_goto (tgt := 352) hx hb dL_isTold_348 (by decide) ?_
              exact k_rz hQ hx hb hr rfl hlk hS hW ⟨rfl, P1, N1, rfl⟩ (by omega) (by omega) dL_isTold_352
            · refine lv_iload hx hb dL_isTold_301 (lv_at hl 3 rfl) ?_
              refine lv_if_eq (tgt := 333) hx hb dL_isTold_303 (by decide) (fun h_303 => absurd h_303 (by decide)) (fun h_303 => ?_)
              refine lv_aload_n hx hb dL_isTold_306 rfl (lv_at hl 0 rfl) ?_
              refine lv_iload hx hb dL_isTold_307 (lv_at hl 4 rfl) ?_
              refine k_ci (va_runV (As := [.int (nI k2)]) (rest := []) ⟨hx, hb, hml, hown, hts⟩ (c_X4_onCall_ok l hlt g ad (set_o_nd (set_o_pm t P1) N1) k2 (by omega)) (cwV 1 hts gL_isTold_X4_onCall rfl rfl rfl (by decide +kernel) ⟨(Nat.le_of_ble_eq_true rfl), (Nat.le_of_ble_eq_true rfl)⟩) ⟨k_blind, k_recv hK hW (kc_0 g ad (set_o_nd (set_o_pm t P1) N1)) rfl, fun U hU hw => ⟨rfl, k_I.of hK hZ hN hS hW hU hw⟩⟩ rfl rfl hl.1 rfl (lv_room (Nat.le_of_ble_eq_true rfl)) dL_isTold_309 ⟨(by show (560 + k2 + 0) + 1 ≤ 640; omega), (by show (3360 + 6 * k2 + 0) + 6 ≤ 3840; omega)⟩) hS (fun r u H locs hpo hW hS => ?_)
              obtain ⟨hr9, hu9⟩ := hpo; replace hu9 := hu9.symm; subst hu9; replace hr9 := hr9.symm; subst hr9
              refine lv_aload hx hb dL_isTold_312 (lv_at hl 1 rfl) ?_
              refine lv_iload hx hb dL_isTold_314 (lv_at hl 4 rfl) ?_
              refine k_iald hx hb hK hW (kc_13 g ad (set_o_nd (set_o_pm t P1) N1)) k2 rfl (by omega) (by decide) dL_isTold_316 ?_
              refine k_toi (y := nI (r_p t k2)) (hJ.wr k2 (by omega)) ?_
              refine lv_icmp_ne (tgt := 324) hx hb dL_isTold_317 (by decide) (fun h_317 => absurd rfl h_317) (fun h_317 => ?_)
              refine lv_iconst (v := nI 1) hx hb dL_isTold_320 (by decide) ?_
              refine lv_goto (tgt := 325) hx hb dL_isTold_321 (by decide) ?_
              refine lv_istore (lv' := [(8, .int (nI 1)), (0, .ref (ad 0 0)), (4, .ref (ad 13 0)), (7, .int (nI sp)), (9, .int (nI k2))]) hx hb dL_isTold_325 hl (by decide) rfl (fun ls hl => ?_)
              refine lv_iinc (v := nI (k2 + 1)) (lv' := [(9, .int (nI (k2 + 1))), (8, .int (nI 1)), (0, .ref (ad 0 0)), (4, .ref (ad 13 0)), (7, .int (nI sp))]) hx hb dL_isTold_327 hl (k := 4) rfl (nI_add _ _) (by decide) rfl (fun ls hl => ?_)
              refine lv_goto (tgt := 294) hx hb dL_isTold_330 (by decide) ?_
              refine W.widen (k := 560 + (k2 + 1)) (n := 3360 + 6 * (k2 + 1)) (by omega) (by omega) ?_
              exact ih_294 (k2 + 1) (by omega) (by omega) _ _ hW hS _ (lv_sub hl [2, 3, 4, 1, 0] rfl)
        refine W.widen (k := 560 + 0) (n := 3360 + 6 * 0) (by omega) (by omega) ?_
        exact hloop_294 65 0 (by omega) (by omega) _ _ hW hS _ (lv_sub hl [1, 5, 8, 9, 0] rfl)
      · refine lv_iload hx hb dL_isTold_60 (lv_at hl 8 rfl) ?_
        refine lv_if_eq (tgt := 291) hx hb dL_isTold_62 (by decide) (fun h_62 => absurd h_62 (by decide)) (fun h_62 => ?_)
        refine lv_iload hx hb dL_isTold_65 (lv_at hl 9 rfl) ?_
        refine lv_aload_n hx hb dL_isTold_67 rfl (lv_at hl 3 rfl) ?_
        refine lv_iconst (v := nI 0) hx hb dL_isTold_68 (by decide) ?_
        refine k_iald hx hb hK hW (kc_12 g ad (set_o_nd (set_o_pm t P1) N1)) 0 rfl (by omega) (by decide) dL_isTold_69 ?_
        refine k_toi (y := nI (s_md t)) hJ.wm0 ?_
        refine k_icmp_ge (tgt := 89) hx hb (a := k) (b := s_md t) (by omega) (by omega) dL_isTold_70 (by decide) (fun h_70 => ?_) (fun h_70 => ?_)
        · refine lv_iconst (v := nI 0) hx hb dL_isTold_89 (by decide) ?_
          refine lv_istore (lv' := [(10, .int (nI 0)), (0, .ref (ad 0 0)), (1, .ref (ad 9 0)), (2, .ref (ad 10 0)), (3, .ref (ad 12 0)), (4, .ref (ad 13 0)), (5, .int (kB PP)), (6, .int (kB ND)), (7, .int (nI sp)), (8, .int (nI 1)), (9, .int (nI k))]) hx hb dL_isTold_90 hl (by decide) rfl (fun ls hl => ?_)
          refine lv_iload hx hb dL_isTold_92 (lv_at hl 8 rfl) ?_
          refine lv_iload hx hb dL_isTold_94 (lv_at hl 0 rfl) ?_
          refine lv_if_eq (tgt := 111) hx hb dL_isTold_96 (by decide) (fun h_96 => ?_) (fun h_96 => absurd h_96 (by decide))
          refine lv_iconst (v := nI 0) hx hb dL_isTold_111 (by decide) ?_
          refine k_iadd hx hb dL_isTold_112 ?_
          refine lv_istore (lv' := [(7, .int (nI (sp + 0))), (10, .int (nI 0)), (0, .ref (ad 0 0)), (1, .ref (ad 9 0)), (2, .ref (ad 10 0)), (3, .ref (ad 12 0)), (4, .ref (ad 13 0)), (5, .int (kB PP)), (6, .int (kB ND)), (8, .int (nI 1)), (9, .int (nI k))]) hx hb dL_isTold_113 hl (by decide) rfl (fun ls hl => ?_)
          refine lv_iload hx hb dL_isTold_115 (lv_at hl 1 rfl) ?_
          refine lv_if_ne (tgt := 125) hx hb dL_isTold_117 (by decide) (fun h_117 => absurd h_117 (by decide)) (fun h_117 => ?_)
          refine lv_bipush (v := (-5)) hx hb dL_isTold_120 (by decide) ?_
          refine lv_goto (tgt := 153) hx hb dL_isTold_122 (by decide) ?_
          refine lv_istore (lv' := [(11, .int (-5)), (7, .int (nI (sp + 0))), (10, .int (nI 0)), (0, .ref (ad 0 0)), (1, .ref (ad 9 0)), (2, .ref (ad 10 0)), (3, .ref (ad 12 0)), (4, .ref (ad 13 0)), (5, .int (kB PP)), (6, .int (kB ND)), (8, .int (nI 1)), (9, .int (nI k))]) hx hb dL_isTold_153 hl (by decide) rfl (fun ls hl => ?_)
          refine lv_aload_n hx hb dL_isTold_155 rfl (lv_at hl 3 rfl) ?_
          refine lv_iload hx hb dL_isTold_156 (lv_at hl 11 rfl) ?_
          refine k_ci (lw_va (vx_runSX (As := [.ref (ad 0 0), .int (nI k)]) (rest := []) ⟨hx, hb, hml, hown, hts⟩ (cw_based_b l hlt g ad (set_o_nd (set_o_pm t P1) N1) k (by omega) (hJ.thf h_70)) (vx_cwSW 2 hts gL_isTold_L_based rfl rfl rfl (by decide +kernel) ⟨(Nat.le_of_ble_eq_true rfl), (Nat.le_of_ble_eq_true rfl)⟩) ⟨k_blind, fun U hU hw => ⟨rfl, k_I.of hK hZ hN hS hW hU hw⟩⟩ rfl rfl hl.1 rfl (lv_room (Nat.le_of_ble_eq_true rfl)) dL_isTold_158 ⟨(by show (36 * k + 0) + 3 ≤ 640; omega), (by show (216 * k + 0) + 18 ≤ 3840; omega)⟩)) hS (fun r u H locs hpo hW hS => ?_)
          obtain ⟨hr9, hu9⟩ := hpo; replace hu9 := hu9.symm; subst hu9; replace hr9 := hr9.symm; subst hr9
          refine lv_iload hx hb dL_isTold_161 (lv_at hl 2 rfl) ?_
          refine lv_if_eq (tgt := 195) hx hb dL_isTold_163 (by decide) (fun h_163 => ?_) (fun h_163 => absurd h_163 (by decide))
          refine lv_bipush (v := (-5)) hx hb dL_isTold_195 (by decide) ?_
          refine lv_icmp_ne (tgt := 215) hx hb dL_isTold_197 (by decide) (fun h_197 => absurd rfl h_197) (fun h_197 => ?_)
          refine lv_aload_n hx hb dL_isTold_200 rfl (lv_at hl 3 rfl) ?_
          refine lv_iload hx hb dL_isTold_201 (lv_at hl 11 rfl) ?_
          refine k_ci (lw_va (vx_runSX (As := [.ref (ad 0 0), .int (nI k)]) (rest := []) ⟨hx, hb, hml, hown, hts⟩ (cw_marked_b l hlt g ad (set_o_nd (set_o_pm t P1) N1) k (by omega) (hJ.thf h_70)) (vx_cwSW 2 hts gL_isTold_L_marked rfl rfl rfl (by decide +kernel) ⟨(Nat.le_of_ble_eq_true rfl), (Nat.le_of_ble_eq_true rfl)⟩) ⟨k_blind, fun U hU hw => ⟨rfl, k_I.of hK hZ hN hS hW hU hw⟩⟩ rfl rfl hl.1 rfl (lv_room (Nat.le_of_ble_eq_true rfl)) dL_isTold_203 ⟨(by show (36 * k + 3) + 3 ≤ 640; omega), (by show (216 * k + 18) + 18 ≤ 3840; omega)⟩)) hS (fun r u H locs hpo hW hS => ?_)
          obtain ⟨hr9, hu9⟩ := hpo; replace hu9 := hu9.symm; subst hu9; replace hr9 := hr9.symm; subst hr9
          refine lv_iload hx hb dL_isTold_206 (lv_at hl 0 rfl) ?_
          refine lv_icmp_ne (tgt := 215) hx hb dL_isTold_208 (by decide) (fun h_208 => absurd rfl h_208) (fun h_208 => ?_)
          refine lv_iconst (v := nI 1) hx hb dL_isTold_211 (by decide) ?_
          refine lv_goto (tgt := 216) hx hb dL_isTold_212 (by decide) ?_
          refine lv_istore (lv' := [(8, .int (nI 1)), (11, .int (-5)), (7, .int (nI (sp + 0))), (10, .int (nI 0)), (0, .ref (ad 0 0)), (1, .ref (ad 9 0)), (2, .ref (ad 10 0)), (3, .ref (ad 12 0)), (4, .ref (ad 13 0)), (5, .int (kB PP)), (6, .int (kB ND)), (9, .int (nI k))]) hx hb dL_isTold_216 hl (by decide) rfl (fun ls hl => ?_)
          refine lv_iconst (v := nI 0) hx hb dL_isTold_218 (by decide) ?_
          refine lv_istore (lv' := [(12, .int (nI 0)), (8, .int (nI 1)), (11, .int (-5)), (7, .int (nI (sp + 0))), (10, .int (nI 0)), (0, .ref (ad 0 0)), (1, .ref (ad 9 0)), (2, .ref (ad 10 0)), (3, .ref (ad 12 0)), (4, .ref (ad 13 0)), (5, .int (kB PP)), (6, .int (kB ND)), (9, .int (nI k))]) hx hb dL_isTold_219 hl (by decide) rfl (fun ls hl => ?_)
          have hloop_221 : ∀ (n : Nat) (f : Nat), (5 < f + n) → (f ≤ 5) → ∀ (H : Heap) (locs : List Loc), k_H g ad (set_o_nd (set_o_pm t P1) N1) H → va_S (k_A g) s.heap H locs → ∀ (ls : Array Slot), lv_has ls 13 [(0, .ref (ad 0 0)), (1, .ref (ad 9 0)), (2, .ref (ad 10 0)), (3, .ref (ad 12 0)), (4, .ref (ad 13 0)), (5, .int (kB PP)), (6, .int (kB ND)), (7, .int (nI (sp + 0))), (8, .int (nI 1)), (9, .int (nI k)), (10, .int (nI 0)), (12, .int (nI f))] → W p l e rm_L_isTold s m args below meth c H locs (36 * k + 6 + 6 * f) (216 * k + 36 + 36 * f) Q (F0 m 221 ls []) := by
            intro n
            induction n with
            | zero =>
              intro f hfu3 hf
              exact absurd hfu3 (by omega)
            | succ n ih_221 =>
              intro f hfu3 hf H locs hW hS ls hl
              refine lv_iload hx hb dL_isTold_221 (lv_at hl 11 rfl) ?_
              refine lv_iconst (v := nI 5) hx hb dL_isTold_223 (by decide) ?_
              refine k_icmp_ge (tgt := 285) hx hb (a := f) (b := 5) (by omega) (by decide) dL_isTold_224 (by decide) (fun h_224 => ?_) (fun h_224 => ?_)
              · refine lv_iinc (v := nI (k + 1)) (lv' := [(9, .int (nI (k + 1))), (0, .ref (ad 0 0)), (1, .ref (ad 9 0)), (2, .ref (ad 10 0)), (3, .ref (ad 12 0)), (4, .ref (ad 13 0)), (5, .int (kB PP)), (6, .int (kB ND)), (7, .int (nI (sp + 0))), (8, .int (nI 1)), (10, .int (nI 0)), (12, .int (nI f))]) hx hb dL_isTold_285 hl (k := 9) rfl (nI_add _ _) (by decide) rfl (fun ls hl => ?_)
                refine lv_goto (tgt := 50) hx hb dL_isTold_288 (by decide) ?_
                refine W.widen (k := 36 * (k + 1)) (n := 216 * (k + 1)) (by omega) (by omega) ?_
                exact ih (k + 1) (sp + 0) P1 N1 (by omega) (by omega) (by rw [k_sm_n (hJ.thf h_70)]; exact hsp) _ _ hW hS _ (lv_sub hl [1, 2, 3, 4, 5, 6, 7, 8, 9, 0] rfl)
              · refine lv_iload hx hb dL_isTold_227 (lv_at hl 8 rfl) ?_
                refine lv_if_eq (tgt := 285) hx hb dL_isTold_229 (by decide) (fun h_229 => absurd h_229 (by decide)) (fun h_229 => ?_)
                refine lv_aload_n hx hb dL_isTold_232 rfl (lv_at hl 0 rfl) ?_
                refine lv_iload hx hb dL_isTold_233 (lv_at hl 9 rfl) ?_
                refine lv_iload hx hb dL_isTold_235 (lv_at hl 11 rfl) ?_
                refine k_ci (lw_va (vx_runSX (As := [.ref (ad 0 0), .int (nI k), .int (nI f)]) (rest := []) ⟨hx, hb, hml, hown, hts⟩ (cw_restored_b l hlt g ad (set_o_nd (set_o_pm t P1) N1) k f (by omega) (hJ.thf h_70)) (vx_cwSW 3 hts gL_isTold_L_restored rfl rfl rfl (by decide +kernel) ⟨(Nat.le_of_ble_eq_true rfl), (Nat.le_of_ble_eq_true rfl)⟩) ⟨k_blind, fun U hU hw => ⟨rfl, k_I.of hK hZ hN hS hW hU hw⟩⟩ rfl rfl hl.1 rfl (lv_room (Nat.le_of_ble_eq_true rfl)) dL_isTold_237 ⟨(by show (36 * k + 6 + 6 * f + 0) + 6 ≤ 640; omega), (by show (216 * k + 36 + 36 * f + 0) + 36 ≤ 3840; omega)⟩)) hS (fun r u H locs hpo hW hS => ?_)
                obtain ⟨hr9, hu9⟩ := hpo; replace hu9 := hu9.symm; subst hu9; replace hr9 := hr9.symm; subst hr9
                refine lv_iload hx hb dL_isTold_240 (lv_at hl 10 rfl) ?_
                refine lv_if_ne (tgt := 250) hx hb dL_isTold_242 (by decide) (fun h_242 => absurd h_242 (by decide)) (fun h_242 => ?_)
                refine lv_bipush (v := (-5)) hx hb dL_isTold_245 (by decide) ?_
                refine lv_goto (tgt := 269) hx hb dL_isTold_247 (by decide) ?_
                refine lv_icmp_ne (tgt := 276) hx hb dL_isTold_269 (by decide) (fun h_269 => absurd rfl h_269) (fun h_269 => ?_)
                refine lv_iconst (v := nI 1) hx hb dL_isTold_272 (by decide) ?_
                refine lv_goto (tgt := 277) hx hb dL_isTold_273 (by decide) ?_
                refine lv_istore (lv' := [(8, .int (nI 1)), (0, .ref (ad 0 0)), (1, .ref (ad 9 0)), (2, .ref (ad 10 0)), (3, .ref (ad 12 0)), (4, .ref (ad 13 0)), (5, .int (kB PP)), (6, .int (kB ND)), (7, .int (nI (sp + 0))), (9, .int (nI k)), (10, .int (nI 0)), (12, .int (nI f))]) hx hb dL_isTold_277 hl (by decide) rfl (fun ls hl => ?_)
                refine lv_iinc (v := nI (f + 1)) (lv' := [(12, .int (nI (f + 1))), (8, .int (nI 1)), (0, .ref (ad 0 0)), (1, .ref (ad 9 0)), (2, .ref (ad 10 0)), (3, .ref (ad 12 0)), (4, .ref (ad 13 0)), (5, .int (kB PP)), (6, .int (kB ND)), (7, .int (nI (sp + 0))), (9, .int (nI k)), (10, .int (nI 0))]) hx hb dL_isTold_279 hl (k := 11) rfl (nI_add _ _) (by decide) rfl (fun ls hl => ?_)
                refine lv_goto (tgt := 221) hx hb dL_isTold_282 (by decide) ?_
                refine W.widen (k := 36 * k + 6 + 6 * (f + 1)) (n := 216 * k + 36 + 36 * (f + 1)) (by omega) (by omega) ?_
                exact ih_221 (f + 1) (by omega) (by omega) _ _ hW hS _ (lv_sub hl [2, 3, 4, 5, 6, 7, 8, 9, 1, 10, 11, 0] rfl)
          refine W.widen (k := 36 * k + 6 + 6 * 0) (n := 216 * k + 36 + 36 * 0) (by omega) (by omega) ?_
          exact hloop_221 6 0 (by omega) (by omega) _ _ hW hS _ (lv_sub hl [5, 6, 7, 8, 9, 10, 11, 3, 1, 12, 4, 0] rfl)
        · refine lv_aload_n hx hb dL_isTold_73 rfl (lv_at hl 3 rfl) ?_
          refine lv_iconst (v := nI 2) hx hb dL_isTold_74 (by decide) ?_
          refine k_iald hx hb hK hW (kc_12 g ad (set_o_nd (set_o_pm t P1) N1)) 2 rfl (by omega) (by decide) dL_isTold_75 ?_
          refine k_toi (y := kB (s_th t)) hJ.wm2 ?_
          refine lv_iload hx hb dL_isTold_76 (lv_at hl 9 rfl) ?_
          refine lv_ishr hx hb dL_isTold_78 ?_
          refine lv_iconst (v := nI 1) hx hb dL_isTold_79 (by decide) ?_
          refine lv_iand hx hb dL_isTold_80 ?_
          refine k_toi (y := kb ((s_th t) k)) (kB_bit (s_th t) (by omega)) ?_
          refine lv_iconst (v := nI 1) hx hb dL_isTold_81 (by decide) ?_
          refine k_b1_ne (tgt := 89) hx hb dL_isTold_82 (by decide) (fun h_82 => ?_) (fun h_82 => ?_)
          · refine lv_iconst (v := nI 0) hx hb dL_isTold_89 (by decide) ?_
            refine lv_istore (lv' := [(10, .int (nI 0)), (0, .ref (ad 0 0)), (1, .ref (ad 9 0)), (2, .ref (ad 10 0)), (3, .ref (ad 12 0)), (4, .ref (ad 13 0)), (5, .int (kB PP)), (6, .int (kB ND)), (7, .int (nI sp)), (8, .int (nI 1)), (9, .int (nI k))]) hx hb dL_isTold_90 hl (by decide) rfl (fun ls hl => ?_)
            refine lv_iload hx hb dL_isTold_92 (lv_at hl 8 rfl) ?_
            refine lv_iload hx hb dL_isTold_94 (lv_at hl 0 rfl) ?_
            refine lv_if_eq (tgt := 111) hx hb dL_isTold_96 (by decide) (fun h_96 => ?_) (fun h_96 => absurd h_96 (by decide))
            refine lv_iconst (v := nI 0) hx hb dL_isTold_111 (by decide) ?_
            refine k_iadd hx hb dL_isTold_112 ?_
            refine lv_istore (lv' := [(7, .int (nI (sp + 0))), (10, .int (nI 0)), (0, .ref (ad 0 0)), (1, .ref (ad 9 0)), (2, .ref (ad 10 0)), (3, .ref (ad 12 0)), (4, .ref (ad 13 0)), (5, .int (kB PP)), (6, .int (kB ND)), (8, .int (nI 1)), (9, .int (nI k))]) hx hb dL_isTold_113 hl (by decide) rfl (fun ls hl => ?_)
            refine lv_iload hx hb dL_isTold_115 (lv_at hl 1 rfl) ?_
            refine lv_if_ne (tgt := 125) hx hb dL_isTold_117 (by decide) (fun h_117 => absurd h_117 (by decide)) (fun h_117 => ?_)
            refine lv_bipush (v := (-5)) hx hb dL_isTold_120 (by decide) ?_
            refine lv_goto (tgt := 153) hx hb dL_isTold_122 (by decide) ?_
            refine lv_istore (lv' := [(11, .int (-5)), (7, .int (nI (sp + 0))), (10, .int (nI 0)), (0, .ref (ad 0 0)), (1, .ref (ad 9 0)), (2, .ref (ad 10 0)), (3, .ref (ad 12 0)), (4, .ref (ad 13 0)), (5, .int (kB PP)), (6, .int (kB ND)), (8, .int (nI 1)), (9, .int (nI k))]) hx hb dL_isTold_153 hl (by decide) rfl (fun ls hl => ?_)
            refine lv_aload_n hx hb dL_isTold_155 rfl (lv_at hl 3 rfl) ?_
            refine lv_iload hx hb dL_isTold_156 (lv_at hl 11 rfl) ?_
            refine k_ci (lw_va (vx_runSX (As := [.ref (ad 0 0), .int (nI k)]) (rest := []) ⟨hx, hb, hml, hown, hts⟩ (cw_based_b l hlt g ad (set_o_nd (set_o_pm t P1) N1) k (by omega) h_82) (vx_cwSW 2 hts gL_isTold_L_based rfl rfl rfl (by decide +kernel) ⟨(Nat.le_of_ble_eq_true rfl), (Nat.le_of_ble_eq_true rfl)⟩) ⟨k_blind, fun U hU hw => ⟨rfl, k_I.of hK hZ hN hS hW hU hw⟩⟩ rfl rfl hl.1 rfl (lv_room (Nat.le_of_ble_eq_true rfl)) dL_isTold_158 ⟨(by show (36 * k + 0) + 3 ≤ 640; omega), (by show (216 * k + 0) + 18 ≤ 3840; omega)⟩)) hS (fun r u H locs hpo hW hS => ?_)
            obtain ⟨hr9, hu9⟩ := hpo; replace hu9 := hu9.symm; subst hu9; replace hr9 := hr9.symm; subst hr9
            refine lv_iload hx hb dL_isTold_161 (lv_at hl 2 rfl) ?_
            refine lv_if_eq (tgt := 195) hx hb dL_isTold_163 (by decide) (fun h_163 => ?_) (fun h_163 => absurd h_163 (by decide))
            refine lv_bipush (v := (-5)) hx hb dL_isTold_195 (by decide) ?_
            refine lv_icmp_ne (tgt := 215) hx hb dL_isTold_197 (by decide) (fun h_197 => absurd rfl h_197) (fun h_197 => ?_)
            refine lv_aload_n hx hb dL_isTold_200 rfl (lv_at hl 3 rfl) ?_
            refine lv_iload hx hb dL_isTold_201 (lv_at hl 11 rfl) ?_
            refine k_ci (lw_va (vx_runSX (As := [.ref (ad 0 0), .int (nI k)]) (rest := []) ⟨hx, hb, hml, hown, hts⟩ (cw_marked_b l hlt g ad (set_o_nd (set_o_pm t P1) N1) k (by omega) h_82) (vx_cwSW 2 hts gL_isTold_L_marked rfl rfl rfl (by decide +kernel) ⟨(Nat.le_of_ble_eq_true rfl), (Nat.le_of_ble_eq_true rfl)⟩) ⟨k_blind, fun U hU hw => ⟨rfl, k_I.of hK hZ hN hS hW hU hw⟩⟩ rfl rfl hl.1 rfl (lv_room (Nat.le_of_ble_eq_true rfl)) dL_isTold_203 ⟨(by show (36 * k + 3) + 3 ≤ 640; omega), (by show (216 * k + 18) + 18 ≤ 3840; omega)⟩)) hS (fun r u H locs hpo hW hS => ?_)
            obtain ⟨hr9, hu9⟩ := hpo; replace hu9 := hu9.symm; subst hu9; replace hr9 := hr9.symm; subst hr9
            refine lv_iload hx hb dL_isTold_206 (lv_at hl 0 rfl) ?_
            refine lv_icmp_ne (tgt := 215) hx hb dL_isTold_208 (by decide) (fun h_208 => absurd rfl h_208) (fun h_208 => ?_)
            refine lv_iconst (v := nI 1) hx hb dL_isTold_211 (by decide) ?_
            refine lv_goto (tgt := 216) hx hb dL_isTold_212 (by decide) ?_
            refine lv_istore (lv' := [(8, .int (nI 1)), (11, .int (-5)), (7, .int (nI (sp + 0))), (10, .int (nI 0)), (0, .ref (ad 0 0)), (1, .ref (ad 9 0)), (2, .ref (ad 10 0)), (3, .ref (ad 12 0)), (4, .ref (ad 13 0)), (5, .int (kB PP)), (6, .int (kB ND)), (9, .int (nI k))]) hx hb dL_isTold_216 hl (by decide) rfl (fun ls hl => ?_)
            refine lv_iconst (v := nI 0) hx hb dL_isTold_218 (by decide) ?_
            refine lv_istore (lv' := [(12, .int (nI 0)), (8, .int (nI 1)), (11, .int (-5)), (7, .int (nI (sp + 0))), (10, .int (nI 0)), (0, .ref (ad 0 0)), (1, .ref (ad 9 0)), (2, .ref (ad 10 0)), (3, .ref (ad 12 0)), (4, .ref (ad 13 0)), (5, .int (kB PP)), (6, .int (kB ND)), (9, .int (nI k))]) hx hb dL_isTold_219 hl (by decide) rfl (fun ls hl => ?_)
            have hloop_221 : ∀ (n : Nat) (f : Nat), (5 < f + n) → (f ≤ 5) → ∀ (H : Heap) (locs : List Loc), k_H g ad (set_o_nd (set_o_pm t P1) N1) H → va_S (k_A g) s.heap H locs → ∀ (ls : Array Slot), lv_has ls 13 [(0, .ref (ad 0 0)), (1, .ref (ad 9 0)), (2, .ref (ad 10 0)), (3, .ref (ad 12 0)), (4, .ref (ad 13 0)), (5, .int (kB PP)), (6, .int (kB ND)), (7, .int (nI (sp + 0))), (8, .int (nI 1)), (9, .int (nI k)), (10, .int (nI 0)), (12, .int (nI f))] → W p l e rm_L_isTold s m args below meth c H locs (36 * k + 6 + 6 * f) (216 * k + 36 + 36 * f) Q (F0 m 221 ls []) := by
              intro n
              induction n with
              | zero =>
                intro f hfu3 hf
                exact absurd hfu3 (by omega)
              | succ n ih_221 =>
                intro f hfu3 hf H locs hW hS ls hl
                refine lv_iload hx hb dL_isTold_221 (lv_at hl 11 rfl) ?_
                refine lv_iconst (v := nI 5) hx hb dL_isTold_223 (by decide) ?_
                refine k_icmp_ge (tgt := 285) hx hb (a := f) (b := 5) (by omega) (by decide) dL_isTold_224 (by decide) (fun h_224 => ?_) (fun h_224 => ?_)
                · refine lv_iinc (v := nI (k + 1)) (lv' := [(9, .int (nI (k + 1))), (0, .ref (ad 0 0)), (1, .ref (ad 9 0)), (2, .ref (ad 10 0)), (3, .ref (ad 12 0)), (4, .ref (ad 13 0)), (5, .int (kB PP)), (6, .int (kB ND)), (7, .int (nI (sp + 0))), (8, .int (nI 1)), (10, .int (nI 0)), (12, .int (nI f))]) hx hb dL_isTold_285 hl (k := 9) rfl (nI_add _ _) (by decide) rfl (fun ls hl => ?_)
                  refine lv_goto (tgt := 50) hx hb dL_isTold_288 (by decide) ?_
                  refine W.widen (k := 36 * (k + 1)) (n := 216 * (k + 1)) (by omega) (by omega) ?_
                  exact ih (k + 1) (sp + 0) P1 N1 (by omega) (by omega) (by rw [k_sm_n h_82]; exact hsp) _ _ hW hS _ (lv_sub hl [1, 2, 3, 4, 5, 6, 7, 8, 9, 0] rfl)
                · refine lv_iload hx hb dL_isTold_227 (lv_at hl 8 rfl) ?_
                  refine lv_if_eq (tgt := 285) hx hb dL_isTold_229 (by decide) (fun h_229 => absurd h_229 (by decide)) (fun h_229 => ?_)
                  refine lv_aload_n hx hb dL_isTold_232 rfl (lv_at hl 0 rfl) ?_
                  refine lv_iload hx hb dL_isTold_233 (lv_at hl 9 rfl) ?_
                  refine lv_iload hx hb dL_isTold_235 (lv_at hl 11 rfl) ?_
                  refine k_ci (lw_va (vx_runSX (As := [.ref (ad 0 0), .int (nI k), .int (nI f)]) (rest := []) ⟨hx, hb, hml, hown, hts⟩ (cw_restored_b l hlt g ad (set_o_nd (set_o_pm t P1) N1) k f (by omega) h_82) (vx_cwSW 3 hts gL_isTold_L_restored rfl rfl rfl (by decide +kernel) ⟨(Nat.le_of_ble_eq_true rfl), (Nat.le_of_ble_eq_true rfl)⟩) ⟨k_blind, fun U hU hw => ⟨rfl, k_I.of hK hZ hN hS hW hU hw⟩⟩ rfl rfl hl.1 rfl (lv_room (Nat.le_of_ble_eq_true rfl)) dL_isTold_237 ⟨(by show (36 * k + 6 + 6 * f + 0) + 6 ≤ 640; omega), (by show (216 * k + 36 + 36 * f + 0) + 36 ≤ 3840; omega)⟩)) hS (fun r u H locs hpo hW hS => ?_)
                  obtain ⟨hr9, hu9⟩ := hpo; replace hu9 := hu9.symm; subst hu9; replace hr9 := hr9.symm; subst hr9
                  refine lv_iload hx hb dL_isTold_240 (lv_at hl 10 rfl) ?_
                  refine lv_if_ne (tgt := 250) hx hb dL_isTold_242 (by decide) (fun h_242 => absurd h_242 (by decide)) (fun h_242 => ?_)
                  refine lv_bipush (v := (-5)) hx hb dL_isTold_245 (by decide) ?_
                  refine lv_goto (tgt := 269) hx hb dL_isTold_247 (by decide) ?_
                  refine lv_icmp_ne (tgt := 276) hx hb dL_isTold_269 (by decide) (fun h_269 => absurd rfl h_269) (fun h_269 => ?_)
                  refine lv_iconst (v := nI 1) hx hb dL_isTold_272 (by decide) ?_
                  refine lv_goto (tgt := 277) hx hb dL_isTold_273 (by decide) ?_
                  refine lv_istore (lv' := [(8, .int (nI 1)), (0, .ref (ad 0 0)), (1, .ref (ad 9 0)), (2, .ref (ad 10 0)), (3, .ref (ad 12 0)), (4, .ref (ad 13 0)), (5, .int (kB PP)), (6, .int (kB ND)), (7, .int (nI (sp + 0))), (9, .int (nI k)), (10, .int (nI 0)), (12, .int (nI f))]) hx hb dL_isTold_277 hl (by decide) rfl (fun ls hl => ?_)
                  refine lv_iinc (v := nI (f + 1)) (lv' := [(12, .int (nI (f + 1))), (8, .int (nI 1)), (0, .ref (ad 0 0)), (1, .ref (ad 9 0)), (2, .ref (ad 10 0)), (3, .ref (ad 12 0)), (4, .ref (ad 13 0)), (5, .int (kB PP)), (6, .int (kB ND)), (7, .int (nI (sp + 0))), (9, .int (nI k)), (10, .int (nI 0))]) hx hb dL_isTold_279 hl (k := 11) rfl (nI_add _ _) (by decide) rfl (fun ls hl => ?_)
                  refine lv_goto (tgt := 221) hx hb dL_isTold_282 (by decide) ?_
                  refine W.widen (k := 36 * k + 6 + 6 * (f + 1)) (n := 216 * k + 36 + 36 * (f + 1)) (by omega) (by omega) ?_
                  exact ih_221 (f + 1) (by omega) (by omega) _ _ hW hS _ (lv_sub hl [2, 3, 4, 5, 6, 7, 8, 9, 1, 10, 11, 0] rfl)
            refine W.widen (k := 36 * k + 6 + 6 * 0) (n := 216 * k + 36 + 36 * 0) (by omega) (by omega) ?_
            exact hloop_221 6 0 (by omega) (by omega) _ _ hW hS _ (lv_sub hl [5, 6, 7, 8, 9, 10, 11, 3, 1, 12, 4, 0] rfl)
          · refine lv_iconst (v := nI 1) hx hb dL_isTold_85 (by decide) ?_
            refine lv_goto (tgt := 90) hx hb dL_isTold_86 (by decide) ?_
            refine lv_istore (lv' := [(10, .int (nI 1)), (0, .ref (ad 0 0)), (1, .ref (ad 9 0)), (2, .ref (ad 10 0)), (3, .ref (ad 12 0)), (4, .ref (ad 13 0)), (5, .int (kB PP)), (6, .int (kB ND)), (7, .int (nI sp)), (8, .int (nI 1)), (9, .int (nI k))]) hx hb dL_isTold_90 hl (by decide) rfl (fun ls hl => ?_)
            refine lv_iload hx hb dL_isTold_92 (lv_at hl 8 rfl) ?_
            refine lv_iload hx hb dL_isTold_94 (lv_at hl 0 rfl) ?_
            refine lv_if_eq (tgt := 111) hx hb dL_isTold_96 (by decide) (fun h_96 => absurd h_96 (by decide)) (fun h_96 => ?_)
            refine lv_aload_n hx hb dL_isTold_99 rfl (lv_at hl 2 rfl) ?_
            refine lv_bipush (v := nI 28) hx hb dL_isTold_100 (by decide) ?_
            refine lv_iload hx hb dL_isTold_102 (lv_at hl 10 rfl) ?_
            refine k_iadd hx hb dL_isTold_104 ?_
            refine k_iald hx hb hK hW (kc_9 g ad (set_o_nd (set_o_pm t P1) N1)) (28 + k) rfl (by omega) (by decide) dL_isTold_105 ?_
            refine k_toi (y := nI (o_kc t k)) (hJ.wx2 k h_70) ?_
            refine lv_iconst (v := nI 1) hx hb dL_isTold_106 (by decide) ?_
            refine k_iadd hx hb dL_isTold_107 ?_
            refine lv_goto (tgt := 112) hx hb dL_isTold_108 (by decide) ?_
            refine k_iadd hx hb dL_isTold_112 ?_
            refine lv_istore (lv' := [(7, .int (nI (sp + ((o_kc t k) + 1)))), (10, .int (nI 1)), (0, .ref (ad 0 0)), (1, .ref (ad 9 0)), (2, .ref (ad 10 0)), (3, .ref (ad 12 0)), (4, .ref (ad 13 0)), (5, .int (kB PP)), (6, .int (kB ND)), (8, .int (nI 1)), (9, .int (nI k))]) hx hb dL_isTold_113 hl (by decide) rfl (fun ls hl => ?_)
            refine lv_iload hx hb dL_isTold_115 (lv_at hl 1 rfl) ?_
            refine lv_if_ne (tgt := 125) hx hb dL_isTold_117 (by decide) (fun h_117 => ?_) (fun h_117 => absurd h_117 (by decide))
            refine lv_iload hx hb dL_isTold_125 (lv_at hl 7 rfl) ?_
            refine lv_iload hx hb dL_isTold_127 (lv_at hl 10 rfl) ?_
            refine lv_ishr hx hb dL_isTold_129 ?_
            refine lv_iconst (v := nI 1) hx hb dL_isTold_130 (by decide) ?_
            refine lv_iand hx hb dL_isTold_131 ?_
            refine k_toi (y := kb (PP k)) (kB_bit PP (by omega)) ?_
            refine lv_iconst (v := nI 2) hx hb dL_isTold_132 (by decide) ?_
            refine lv_iload hx hb dL_isTold_133 (lv_at hl 8 rfl) ?_
            refine lv_iload hx hb dL_isTold_135 (lv_at hl 10 rfl) ?_
            refine lv_ishr hx hb dL_isTold_137 ?_
            refine lv_iconst (v := nI 1) hx hb dL_isTold_138 (by decide) ?_
            refine lv_iand hx hb dL_isTold_139 ?_
            refine k_toi (y := kb (ND k)) (kB_bit ND (by omega)) ?_
            refine lv_imul hx hb dL_isTold_140 ?_
            refine lv_iadd hx hb dL_isTold_141 ?_
            refine lv_iconst (v := nI 4) hx hb dL_isTold_142 (by decide) ?_
            refine lv_aload_n hx hb dL_isTold_143 rfl (lv_at hl 5 rfl) ?_
            refine lv_iconst (v := nI 4) hx hb dL_isTold_144 (by decide) ?_
            refine k_iald hx hb hK hW (kc_12 g ad (set_o_nd (set_o_pm t P1) N1)) 4 rfl (by omega) (by decide) dL_isTold_145 ?_
            refine k_toi (y := kB (o_pv t)) hJ.wm4 ?_
            refine lv_iload hx hb dL_isTold_146 (lv_at hl 10 rfl) ?_
            refine lv_ishr hx hb dL_isTold_148 ?_
            refine lv_iconst (v := nI 1) hx hb dL_isTold_149 (by decide) ?_
            refine lv_iand hx hb dL_isTold_150 ?_
            refine k_toi (y := kb ((o_pv t) k)) (kB_bit (o_pv t) (by omega)) ?_
            refine lv_imul hx hb dL_isTold_151 ?_
            refine lv_iadd hx hb dL_isTold_152 ?_
            refine lv_istore (lv' := [(11, .int (((kb (PP k)) + ((nI 2) * (kb (ND k)))) + ((nI 4) * (kb ((o_pv t) k))))), (7, .int (nI (sp + ((o_kc t k) + 1)))), (10, .int (nI 1)), (0, .ref (ad 0 0)), (1, .ref (ad 9 0)), (2, .ref (ad 10 0)), (3, .ref (ad 12 0)), (4, .ref (ad 13 0)), (5, .int (kB PP)), (6, .int (kB ND)), (8, .int (nI 1)), (9, .int (nI k))]) hx hb dL_isTold_153 hl (by decide) rfl (fun ls hl => ?_)
            refine lv_aload_n hx hb dL_isTold_155 rfl (lv_at hl 3 rfl) ?_
            refine lv_iload hx hb dL_isTold_156 (lv_at hl 11 rfl) ?_
            refine k_ci (lw_va (vx_runSX (As := [.ref (ad 0 0), .int (nI k)]) (rest := []) ⟨hx, hb, hml, hown, hts⟩ (cw_based_ok l hlt g ad (set_o_nd (set_o_pm t P1) N1) k (by omega) h_82 hJ.hwf hJ.hbs) (vx_cwSW 2 hts gL_isTold_L_based rfl rfl rfl (by decide +kernel) ⟨(Nat.le_of_ble_eq_true rfl), (Nat.le_of_ble_eq_true rfl)⟩) ⟨k_blind, fun U hU hw => ⟨rfl, k_I.of hK hZ hN hS hW hU hw⟩⟩ rfl rfl hl.1 rfl (lv_room (Nat.le_of_ble_eq_true rfl)) dL_isTold_158 ⟨(by show (36 * k + 0) + 3 ≤ 640; omega), (by show (216 * k + 0) + 18 ≤ 3840; omega)⟩)) hS (fun r u H locs hpo hW hS => ?_)
            obtain ⟨hr9, hu9⟩ := hpo; replace hu9 := hu9.symm; subst hu9; replace hr9 := hr9.symm; subst hr9
            refine lv_iload hx hb dL_isTold_161 (lv_at hl 2 rfl) ?_
            refine lv_if_eq (tgt := 195) hx hb dL_isTold_163 (by decide) (fun h_163 => absurd h_163 (by decide)) (fun h_163 => ?_)
            refine lv_aload_n hx hb dL_isTold_166 rfl (lv_at hl 4 rfl) ?_
            refine lv_bipush (v := nI 14) hx hb dL_isTold_167 (by decide) ?_
            refine lv_iload hx hb dL_isTold_169 (lv_at hl 11 rfl) ?_
            refine k_iadd hx hb dL_isTold_171 ?_
            refine k_iald hx hb hK hW (kc_9 g ad (set_o_nd (set_o_pm t P1) N1)) (14 + k) rfl (by omega) (by decide) dL_isTold_172 ?_
            refine k_toi (y := kO (o_b t k)) (hJ.wx1 k h_70) ?_
            refine lv_bipush (v := nI 100) hx hb dL_isTold_173 (by decide) ?_
            refine lv_aload_n hx hb dL_isTold_175 rfl (lv_at hl 4 rfl) ?_
            refine lv_iload hx hb dL_isTold_176 (lv_at hl 11 rfl) ?_
            refine k_iald hx hb hK hW (kc_9 g ad (set_o_nd (set_o_pm t P1) N1)) k rfl (by omega) (by decide) dL_isTold_178 ?_
            refine k_toi (y := nI (o_on t k)) (hJ.wx0 k h_70) ?_
            refine k_imul hx hb dL_isTold_179 ?_
            refine lv_iadd hx hb dL_isTold_180 ?_
            refine lv_ldc (own := RL) (v := nI 100000) hx hb hown (hts (.constant RL 31 (nI 100000)) (by decide +kernel)) dL_isTold_181 ?_
            refine lv_aload_n hx hb dL_isTold_183 rfl (lv_at hl 4 rfl) ?_
            refine lv_bipush (v := nI 28) hx hb dL_isTold_184 (by decide) ?_
            refine lv_iload hx hb dL_isTold_186 (lv_at hl 11 rfl) ?_
            refine k_iadd hx hb dL_isTold_188 ?_
            refine k_iald hx hb hK hW (kc_9 g ad (set_o_nd (set_o_pm t P1) N1)) (28 + k) rfl (by omega) (by decide) dL_isTold_189 ?_
            refine k_toi (y := nI (o_kc t k)) (hJ.wx2 k h_70) ?_
            refine k_imul hx hb dL_isTold_190 ?_
            refine lv_iadd hx hb dL_isTold_191 ?_
            refine lv_goto (tgt := 197) hx hb dL_isTold_192 (by decide) ?_
            refine lv_icmp_ne (tgt := 215) hx hb dL_isTold_197 (by decide) (fun h_197 => absurd rfl h_197) (fun h_197 => ?_)
            refine lv_aload_n hx hb dL_isTold_200 rfl (lv_at hl 3 rfl) ?_
            refine lv_iload hx hb dL_isTold_201 (lv_at hl 11 rfl) ?_
            refine k_ci (lw_va (vx_runSX (As := [.ref (ad 0 0), .int (nI k)]) (rest := []) ⟨hx, hb, hml, hown, hts⟩ (cw_marked_ok l hlt g ad (set_o_nd (set_o_pm t P1) N1) k (s_md t) (by omega) h_82 hJ.hwf hJ.hbs hJ.bth hJ.hn60 hJ.hon hJ.r1b hJ.r2b hJ.r3b hJ.wf (by omega)) (vx_cwSW 2 hts gL_isTold_L_marked rfl rfl rfl (by decide +kernel) ⟨(Nat.le_of_ble_eq_true rfl), (Nat.le_of_ble_eq_true rfl)⟩) ⟨k_blind, fun U hU hw => ⟨rfl, k_I.of hK hZ hN hS hW hU hw⟩⟩ rfl rfl hl.1 rfl (lv_room (Nat.le_of_ble_eq_true rfl)) dL_isTold_203 ⟨(by show (36 * k + 3) + 3 ≤ 640; omega), (by show (216 * k + 18) + 18 ≤ 3840; omega)⟩)) hS (fun r u H locs hpo hW hS => ?_)
            obtain ⟨hr9, P203, N203, hu9⟩ := hpo; replace hu9 := hu9.symm; subst hu9; replace hr9 := hr9.symm; subst hr9
            have hW : k_H g ad (set_o_nd (set_o_pm t P203) N203) H := hW
            refine lv_iload hx hb dL_isTold_206 (lv_at hl 0 rfl) ?_
            refine lv_icmp_ne (tgt := 215) hx hb dL_isTold_208 (by decide) (fun h_208 => absurd h_208 (fun q => q (by rw [hPP, hND]))) (fun h_208 => ?_)
            refine lv_iconst (v := nI 1) hx hb dL_isTold_211 (by decide) ?_
            refine lv_goto (tgt := 216) hx hb dL_isTold_212 (by decide) ?_
            refine lv_istore (lv' := [(8, .int (nI 1)), (11, .int (((kb (PP k)) + ((nI 2) * (kb (ND k)))) + ((nI 4) * (kb ((o_pv t) k))))), (7, .int (nI (sp + ((o_kc t k) + 1)))), (10, .int (nI 1)), (0, .ref (ad 0 0)), (1, .ref (ad 9 0)), (2, .ref (ad 10 0)), (3, .ref (ad 12 0)), (4, .ref (ad 13 0)), (5, .int (kB PP)), (6, .int (kB ND)), (9, .int (nI k))]) hx hb dL_isTold_216 hl (by decide) rfl (fun ls hl => ?_)
            refine lv_iconst (v := nI 0) hx hb dL_isTold_218 (by decide) ?_
            refine lv_istore (lv' := [(12, .int (nI 0)), (8, .int (nI 1)), (11, .int (((kb (PP k)) + ((nI 2) * (kb (ND k)))) + ((nI 4) * (kb ((o_pv t) k))))), (7, .int (nI (sp + ((o_kc t k) + 1)))), (10, .int (nI 1)), (0, .ref (ad 0 0)), (1, .ref (ad 9 0)), (2, .ref (ad 10 0)), (3, .ref (ad 12 0)), (4, .ref (ad 13 0)), (5, .int (kB PP)), (6, .int (kB ND)), (9, .int (nI k))]) hx hb dL_isTold_219 hl (by decide) rfl (fun ls hl => ?_)
            have hloop_221 : ∀ (n : Nat) (f : Nat), (5 < f + n) → (f ≤ 5) → ∀ (H : Heap) (locs : List Loc), k_H g ad (set_o_nd (set_o_pm t P203) N203) H → va_S (k_A g) s.heap H locs → ∀ (ls : Array Slot), lv_has ls 13 [(0, .ref (ad 0 0)), (1, .ref (ad 9 0)), (2, .ref (ad 10 0)), (3, .ref (ad 12 0)), (4, .ref (ad 13 0)), (5, .int (kB PP)), (6, .int (kB ND)), (7, .int (nI (sp + ((o_kc t k) + 1)))), (8, .int (nI 1)), (9, .int (nI k)), (10, .int (nI 1)), (12, .int (nI f))] → W p l e rm_L_isTold s m args below meth c H locs (36 * k + 6 + 6 * f) (216 * k + 36 + 36 * f) Q (F0 m 221 ls []) := by
              intro n
              induction n with
              | zero =>
                intro f hfu3 hf
                exact absurd hfu3 (by omega)
              | succ n ih_221 =>
                intro f hfu3 hf H locs hW hS ls hl
                refine lv_iload hx hb dL_isTold_221 (lv_at hl 11 rfl) ?_
                refine lv_iconst (v := nI 5) hx hb dL_isTold_223 (by decide) ?_
                refine k_icmp_ge (tgt := 285) hx hb (a := f) (b := 5) (by omega) (by decide) dL_isTold_224 (by decide) (fun h_224 => ?_) (fun h_224 => ?_)
                · refine lv_iinc (v := nI (k + 1)) (lv' := [(9, .int (nI (k + 1))), (0, .ref (ad 0 0)), (1, .ref (ad 9 0)), (2, .ref (ad 10 0)), (3, .ref (ad 12 0)), (4, .ref (ad 13 0)), (5, .int (kB PP)), (6, .int (kB ND)), (7, .int (nI (sp + ((o_kc t k) + 1)))), (8, .int (nI 1)), (10, .int (nI 1)), (12, .int (nI f))]) hx hb dL_isTold_285 hl (k := 9) rfl (nI_add _ _) (by decide) rfl (fun ls hl => ?_)
                  refine lv_goto (tgt := 50) hx hb dL_isTold_288 (by decide) ?_
                  refine W.widen (k := 36 * (k + 1)) (n := 216 * (k + 1)) (by omega) (by omega) ?_
                  exact ih (k + 1) (sp + ((o_kc t k) + 1)) P203 N203 (by omega) (by omega) (by rw [k_sm_y h_82, hsp]) _ _ hW hS _ (lv_sub hl [1, 2, 3, 4, 5, 6, 7, 8, 9, 0] rfl)
                · refine lv_iload hx hb dL_isTold_227 (lv_at hl 8 rfl) ?_
                  refine lv_if_eq (tgt := 285) hx hb dL_isTold_229 (by decide) (fun h_229 => absurd h_229 (by decide)) (fun h_229 => ?_)
                  refine lv_aload_n hx hb dL_isTold_232 rfl (lv_at hl 0 rfl) ?_
                  refine lv_iload hx hb dL_isTold_233 (lv_at hl 9 rfl) ?_
                  refine lv_iload hx hb dL_isTold_235 (lv_at hl 11 rfl) ?_
                  refine k_ci (lw_va (vx_runSX (As := [.ref (ad 0 0), .int (nI k), .int (nI f)]) (rest := []) ⟨hx, hb, hml, hown, hts⟩ (cw_restored_ok l hlt g ad (set_o_nd (set_o_pm t P203) N203) k f (by omega) h_82 (by omega) hJ.hwf hJ.hbs (Nat.le_trans (hJ.cab k h_70) (Nat.le_trans hJ.fn (Nat.le_trans he (by decide)))) (fun i hi => Nat.lt_trans (hJ.flf i (Nat.lt_of_lt_of_le hi (hJ.cab k h_70))) (by decide)) (hJ.fk k h_70 f (by omega))) (vx_cwSW 3 hts gL_isTold_L_restored rfl rfl rfl (by decide +kernel) ⟨(Nat.le_of_ble_eq_true rfl), (Nat.le_of_ble_eq_true rfl)⟩) ⟨k_blind, fun U hU hw => ⟨rfl, k_I.of hK hZ hN hS hW hU hw⟩⟩ rfl rfl hl.1 rfl (lv_room (Nat.le_of_ble_eq_true rfl)) dL_isTold_237 ⟨(by show (36 * k + 6 + 6 * f + 0) + 6 ≤ 640; omega), (by show (216 * k + 36 + 36 * f + 0) + 36 ≤ 3840; omega)⟩)) hS (fun r u H locs hpo hW hS => ?_)
                  obtain ⟨hr9, hu9⟩ := hpo; replace hu9 := hu9.symm; subst hu9; replace hr9 := hr9.symm; subst hr9
                  refine lv_iload hx hb dL_isTold_240 (lv_at hl 10 rfl) ?_
                  refine lv_if_ne (tgt := 250) hx hb dL_isTold_242 (by decide) (fun h_242 => ?_) (fun h_242 => absurd h_242 (by decide))
                  refine lv_iload hx hb dL_isTold_250 (lv_at hl 11 rfl) ?_
                  refine lv_iconst (v := nI 4) hx hb dL_isTold_252 (by decide) ?_
                  refine k_icmp_ne (tgt := 260) hx hb (a := f) (b := 4) (by omega) (by decide) dL_isTold_253 (by decide) (fun h_253 => ?_) (fun h_253 => ?_)
                  · refine lv_aload_n hx hb dL_isTold_260 rfl (lv_at hl 2 rfl) ?_
                    refine lv_iconst (v := nI 4) hx hb dL_isTold_261 (by decide) ?_
                    refine lv_iload hx hb dL_isTold_262 (lv_at hl 9 rfl) ?_
                    refine k_imul hx hb dL_isTold_264 ?_
                    refine lv_iload hx hb dL_isTold_265 (lv_at hl 11 rfl) ?_
                    refine k_iadd hx hb dL_isTold_267 ?_
                    refine k_iald hx hb hK hW (kc_10 g ad (set_o_nd (set_o_pm t P203) N203)) ((4 * k) + f) rfl (by omega) (by decide) dL_isTold_268 ?_
                    refine k_toi (y := k_log (f_lf t) (f_lt t) (o_ca t k) f) (hJ.ww k h_70 f (by omega)) ?_
                    refine lv_icmp_ne (tgt := 276) hx hb dL_isTold_269 (by decide) (fun h_269 => absurd rfl h_269) (fun h_269 => ?_)
                    refine lv_iconst (v := nI 1) hx hb dL_isTold_272 (by decide) ?_
                    refine lv_goto (tgt := 277) hx hb dL_isTold_273 (by decide) ?_
                    refine lv_istore (lv' := [(8, .int (nI 1)), (0, .ref (ad 0 0)), (1, .ref (ad 9 0)), (2, .ref (ad 10 0)), (3, .ref (ad 12 0)), (4, .ref (ad 13 0)), (5, .int (kB PP)), (6, .int (kB ND)), (7, .int (nI (sp + ((o_kc t k) + 1)))), (9, .int (nI k)), (10, .int (nI 1)), (12, .int (nI f))]) hx hb dL_isTold_277 hl (by decide) rfl (fun ls hl => ?_)
                    refine lv_iinc (v := nI (f + 1)) (lv' := [(12, .int (nI (f + 1))), (8, .int (nI 1)), (0, .ref (ad 0 0)), (1, .ref (ad 9 0)), (2, .ref (ad 10 0)), (3, .ref (ad 12 0)), (4, .ref (ad 13 0)), (5, .int (kB PP)), (6, .int (kB ND)), (7, .int (nI (sp + ((o_kc t k) + 1)))), (9, .int (nI k)), (10, .int (nI 1))]) hx hb dL_isTold_279 hl (k := 11) rfl (nI_add _ _) (by decide) rfl (fun ls hl => ?_)
                    refine lv_goto (tgt := 221) hx hb dL_isTold_282 (by decide) ?_
                    refine W.widen (k := 36 * k + 6 + 6 * (f + 1)) (n := 216 * k + 36 + 36 * (f + 1)) (by omega) (by omega) ?_
                    exact ih_221 (f + 1) (by omega) (by omega) _ _ hW hS _ (lv_sub hl [2, 3, 4, 5, 6, 7, 8, 9, 1, 10, 11, 0] rfl)
                  · refine lv_iconst (v := nI 0) hx hb dL_isTold_256 (by decide) ?_
                    refine lv_goto (tgt := 269) hx hb dL_isTold_257 (by decide) ?_
                    refine lv_icmp_ne (tgt := 276) hx hb dL_isTold_269 (by decide) (fun h_269 => absurd h_269 (fun q => q (k_log_ge (m := 4) (by omega) _ (fun i hi => hJ.flf i (Nat.lt_of_lt_of_le hi (hJ.cab k h_70)))))) (fun h_269 => ?_)
                    refine lv_iconst (v := nI 1) hx hb dL_isTold_272 (by decide) ?_
                    refine lv_goto (tgt := 277) hx hb dL_isTold_273 (by decide) ?_
                    refine lv_istore (lv' := [(8, .int (nI 1)), (0, .ref (ad 0 0)), (1, .ref (ad 9 0)), (2, .ref (ad 10 0)), (3, .ref (ad 12 0)), (4, .ref (ad 13 0)), (5, .int (kB PP)), (6, .int (kB ND)), (7, .int (nI (sp + ((o_kc t k) + 1)))), (9, .int (nI k)), (10, .int (nI 1)), (12, .int (nI f))]) hx hb dL_isTold_277 hl (by decide) rfl (fun ls hl => ?_)
                    refine lv_iinc (v := nI (f + 1)) (lv' := [(12, .int (nI (f + 1))), (8, .int (nI 1)), (0, .ref (ad 0 0)), (1, .ref (ad 9 0)), (2, .ref (ad 10 0)), (3, .ref (ad 12 0)), (4, .ref (ad 13 0)), (5, .int (kB PP)), (6, .int (kB ND)), (7, .int (nI (sp + ((o_kc t k) + 1)))), (9, .int (nI k)), (10, .int (nI 1))]) hx hb dL_isTold_279 hl (k := 11) rfl (nI_add _ _) (by decide) rfl (fun ls hl => ?_)
                    refine lv_goto (tgt := 221) hx hb dL_isTold_282 (by decide) ?_
                    refine W.widen (k := 36 * k + 6 + 6 * (f + 1)) (n := 216 * k + 36 + 36 * (f + 1)) (by omega) (by omega) ?_
                    exact ih_221 (f + 1) (by omega) (by omega) _ _ hW hS _ (lv_sub hl [2, 3, 4, 5, 6, 7, 8, 9, 1, 10, 11, 0] rfl)
            refine W.widen (k := 36 * k + 6 + 6 * 0) (n := 216 * k + 36 + 36 * 0) (by omega) (by omega) ?_
            exact hloop_221 6 0 (by omega) (by omega) _ _ hW hS _ (lv_sub hl [5, 6, 7, 8, 9, 10, 11, 3, 1, 12, 4, 0] rfl)
  have hW : k_H g ad (set_o_nd (set_o_pm t (o_pm t)) (o_nd t)) H := hW
  refine W.widen (k := 36 * 0) (n := 216 * 0) (by omega) (by omega) ?_
  exact hloop_50 (s_md t + 2) 0 0 (o_pm t) (o_nd t) (by omega) (by omega) rfl _ _ hW hS _ (lv_sub hl [5, 6, 7, 8, 9, 4, 3, 2, 1, 0] rfl)
