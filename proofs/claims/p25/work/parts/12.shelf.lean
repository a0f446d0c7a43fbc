abbrev rm_X2_isRestedAround : Room := { frames := 1, cells := 0, slots := 0, locals := 21 }
set_option maxRecDepth 100000 in
set_option maxHeartbeats 4000000 in
theorem c_X2_isRestedAround_0 (l : Launch) (hlt : l.stackTraces = false) (g : k_g) (ad : k_AD) (t : k_T) (hp : ∀ i, i < 365 → r_p t i < 5) : Met l yX2_isRestedAround wsX2_isRestedAround rm_X2_isRestedAround (va_Pc [.ref (ad 7 0), .int (nI 0)] (k_I g (k_ct g ad t) ad)) (va_Qi (fun r u => r = kb (k_rest (r_p t) 0) ∧ u = t) (fun u U => k_H g ad u U.heap) (k_A g)) 0 0 (k_A g) := by
  refine k_met (cc := cX2_isRestedAround) (maxL := 3) (ret := (some .boolean)) (by decide) rfl (Nat.le_of_ble_eq_true rfl) (fun p e s m args below meth c Q ls hQ hx hb hr hml hts hown hlk hin hK hZ hN hW hS hl => ?_)
  have hown : s.vm.findClass RX2 = some m.cls := hown
  have hW : k_H g ad t s.heap := hW
  have hl : lv_has ls 3 [(0, .ref (ad 7 0)), (1, .int (nI 0))] := hl
  refine lv_aload_n hx hb dX2_isRestedAround_0 rfl (lv_at hl 0 rfl) ?_
  refine lv_iload_n hx hb dX2_isRestedAround_1 rfl (lv_at hl 1 rfl) ?_
  refine k_ci (va_runV (As := [.int (nI 0)]) (rest := []) ⟨hx, hb, hml, hown, hts⟩ (c_X2_personOn l hlt g ad t 0 (by omega)) (cwV 1 hts gX2_isRestedAround_X2_personOn rfl rfl rfl (by decide +kernel) ⟨(Nat.le_of_ble_eq_true rfl), (Nat.le_of_ble_eq_true rfl)⟩) ⟨k_blind, k_recv hK hW (kc_7 g ad t) rfl, fun U hU hw => ⟨rfl, k_I.of hK hZ hN hS hW hU hw⟩⟩ rfl rfl hl.1 rfl (lv_room (Nat.le_of_ble_eq_true rfl)) dX2_isRestedAround_2 ⟨(Nat.le_of_ble_eq_true rfl), (Nat.le_of_ble_eq_true rfl)⟩) hS (fun r u H locs hpo hW hS => ?_)
  obtain ⟨hr9, hu9⟩ := hpo; replace hu9 := hu9.symm; subst hu9; replace hr9 := hr9.symm; subst hr9
  refine lv_istore_n (lv' := [(2, .int (nI (r_p t 0))), (0, .ref (ad 7 0)), (1, .int (nI 0))]) hx hb dX2_isRestedAround_5 rfl hl (by decide) rfl (fun ls hl => ?_)
  refine lv_iload_n hx hb dX2_isRestedAround_6 rfl (lv_at hl 0 rfl) ?_
  refine lv_aload_n hx hb dX2_isRestedAround_7 rfl (lv_at hl 1 rfl) ?_
  refine lv_iload_n hx hb dX2_isRestedAround_8 rfl (lv_at hl 2 rfl) ?_
  refine lv_iconst (v := nI 1) hx hb dX2_isRestedAround_9 (by decide) ?_
  refine lv_isub hx hb dX2_isRestedAround_10 ?_
  refine k_toi (k_m1 _) ?_
  refine k_ci (va_runV (As := [.int (nI 0 + (-1))]) (rest := [.int (nI (r_p t 0))]) ⟨hx, hb, hml, hown, hts⟩ (c_X2_personOn_lo l hlt g ad t (nI 0 + (-1)) k_n0) (cwV 1 hts gX2_isRestedAround_X2_personOn rfl rfl rfl (by decide +kernel) ⟨(Nat.le_of_ble_eq_true rfl), (Nat.le_of_ble_eq_true rfl)⟩) ⟨k_blind, k_recv hK hW (kc_7 g ad t) rfl, fun U hU hw => ⟨rfl, k_I.of hK hZ hN hS hW hU hw⟩⟩ rfl rfl hl.1 rfl (lv_room (Nat.le_of_ble_eq_true rfl)) dX2_isRestedAround_11 ⟨(Nat.le_of_ble_eq_true rfl), (Nat.le_of_ble_eq_true rfl)⟩) hS (fun r u H locs hpo hW hS => ?_)
  obtain ⟨hr9, hu9⟩ := hpo; replace hu9 := hu9.symm; subst hu9; replace hr9 := hr9.symm; subst hr9
  refine lv_icmp_eq (tgt := 32) hx hb dX2_isRestedAround_14 (by decide) (fun h_14 => absurd h_14 (k_nm1 (by have := hp 0 (by decide); omega))) (fun h_14 => ?_)
  refine lv_iload_n hx hb dX2_isRestedAround_17 rfl (lv_at hl 0 rfl) ?_
  refine lv_aload_n hx hb dX2_isRestedAround_18 rfl (lv_at hl 1 rfl) ?_
  refine lv_iload_n hx hb dX2_isRestedAround_19 rfl (lv_at hl 2 rfl) ?_
  refine lv_iconst (v := nI 1) hx hb dX2_isRestedAround_20 (by decide) ?_
  refine k_iadd hx hb dX2_isRestedAround_21 ?_
  refine k_ci (va_runV (As := [.int (nI (0 + 1))]) (rest := [.int (nI (r_p t 0))]) ⟨hx, hb, hml, hown, hts⟩ (c_X2_personOn l hlt g ad t (0 + 1) (by omega)) (cwV 1 hts gX2_isRestedAround_X2_personOn rfl rfl rfl (by decide +kernel) ⟨(Nat.le_of_ble_eq_true rfl), (Nat.le_of_ble_eq_true rfl)⟩) ⟨k_blind, k_recv hK hW (kc_7 g ad t) rfl, fun U hU hw => ⟨rfl, k_I.of hK hZ hN hS hW hU hw⟩⟩ rfl rfl hl.1 rfl (lv_room (Nat.le_of_ble_eq_true rfl)) dX2_isRestedAround_22 ⟨(Nat.le_of_ble_eq_true rfl), (Nat.le_of_ble_eq_true rfl)⟩) hS (fun r u H locs hpo hW hS => ?_)
  obtain ⟨hr9, hu9⟩ := hpo; replace hu9 := hu9.symm; subst hu9; replace hr9 := hr9.symm; subst hr9
  refine k_icmp_eq (tgt := 32) hx hb (a := r_p t 0) (b := r_p t (0 + 1)) (by have := hp 0 (by decide); omega) (by have := hp (0 + 1) (by decide); omega) dX2_isRestedAround_25 (by decide) (fun h_25 => ?_) (fun h_25 => ?_)
  · refine lv_iconst (v := nI 0) hx hb dX2_isRestedAround_32 (by decide) ?_
    exact k_rz hQ hx hb hr rfl hlk hS hW ⟨by rw [k_rest_0, decide_eq_false (fun q => q h_25)]; rfl, rfl⟩ (Nat.le_of_ble_eq_true rfl) (Nat.le_of_ble_eq_true rfl) dX2_isRestedAround_33
  · refine lv_iconst (v := nI 1) hx hb dX2_isRestedAround_28 (by decide) ?_
    refine lv_goto (tgt := 33) hx hb dX2_isRestedAround_29 (by decide) ?_
    exact k_rz hQ hx hb hr rfl hlk hS hW ⟨by rw [k_rest_0, decide_eq_true h_25]; rfl, rfl⟩ (Nat.le_of_ble_eq_true rfl) (Nat.le_of_ble_eq_true rfl) dX2_isRestedAround_33
set_option maxRecDepth 100000 in
set_option maxHeartbeats 4000000 in
theorem c_X2_isRestedAround_m (l : Launch) (hlt : l.stackTraces = false) (g : k_g) (ad : k_AD) (t : k_T) (e0 : Nat) (he : e0 + 1 < 364) (hp : ∀ i, i < 365 → r_p t i < 5) : Met l yX2_isRestedAround wsX2_isRestedAround rm_X2_isRestedAround (va_Pc [.ref (ad 7 0), .int (nI (e0 + 1))] (k_I g (k_ct g ad t) ad)) (va_Qi (fun r u => r = kb (k_rest (r_p t) (e0 + 1)) ∧ u = t) (fun u U => k_H g ad u U.heap) (k_A g)) 0 0 (k_A g) := by
  refine k_met (cc := cX2_isRestedAround) (maxL := 3) (ret := (some .boolean)) (by decide) rfl (Nat.le_of_ble_eq_true rfl) (fun p e s m args below meth c Q ls hQ hx hb hr hml hts hown hlk hin hK hZ hN hW hS hl => ?_)
  have hown : s.vm.findClass RX2 = some m.cls := hown
  have hW : k_H g ad t s.heap := hW
  have hl : lv_has ls 3 [(0, .ref (ad 7 0)), (1, .int (nI (e0 + 1)))] := hl
  refine lv_aload_n hx hb dX2_isRestedAround_0 rfl (lv_at hl 0 rfl) ?_
  refine lv_iload_n hx hb dX2_isRestedAround_1 rfl (lv_at hl 1 rfl) ?_
  refine k_ci (va_runV (As := [.int (nI (e0 + 1))]) (rest := []) ⟨hx, hb, hml, hown, hts⟩ (c_X2_personOn l hlt g ad t (e0 + 1) (by omega)) (cwV 1 hts gX2_isRestedAround_X2_personOn rfl rfl rfl (by decide +kernel) ⟨(Nat.le_of_ble_eq_true rfl), (Nat.le_of_ble_eq_true rfl)⟩) ⟨k_blind, k_recv hK hW (kc_7 g ad t) rfl, fun U hU hw => ⟨rfl, k_I.of hK hZ hN hS hW hU hw⟩⟩ rfl rfl hl.1 rfl (lv_room (Nat.le_of_ble_eq_true rfl)) dX2_isRestedAround_2 ⟨(Nat.le_of_ble_eq_true rfl), (Nat.le_of_ble_eq_true rfl)⟩) hS (fun r u H locs hpo hW hS => ?_)
  obtain ⟨hr9, hu9⟩ := hpo; replace hu9 := hu9.symm; subst hu9; replace hr9 := hr9.symm; subst hr9
  refine lv_istore_n (lv' := [(2, .int (nI (r_p t (e0 + 1)))), (0, .ref (ad 7 0)), (1, .int (nI (e0 + 1)))]) hx hb dX2_isRestedAround_5 rfl hl (by decide) rfl (fun ls hl => ?_)
  refine lv_iload_n hx hb dX2_isRestedAround_6 rfl (lv_at hl 0 rfl) ?_
  refine lv_aload_n hx hb dX2_isRestedAround_7 rfl (lv_at hl 1 rfl) ?_
  refine lv_iload_n hx hb dX2_isRestedAround_8 rfl (lv_at hl 2 rfl) ?_
  refine lv_iconst (v := nI 1) hx hb dX2_isRestedAround_9 (by decide) ?_
  refine k_isub hx hb (by omega) dX2_isRestedAround_10 ?_
  refine k_ci (va_runV (As := [.int (nI ((e0 + 1) - 1))]) (rest := [.int (nI (r_p t (e0 + 1)))]) ⟨hx, hb, hml, hown, hts⟩ (c_X2_personOn l hlt g ad t ((e0 + 1) - 1) (by omega)) (cwV 1 hts gX2_isRestedAround_X2_personOn rfl rfl rfl (by decide +kernel) ⟨(Nat.le_of_ble_eq_true rfl), (Nat.le_of_ble_eq_true rfl)⟩) ⟨k_blind, k_recv hK hW (kc_7 g ad t) rfl, fun U hU hw => ⟨rfl, k_I.of hK hZ hN hS hW hU hw⟩⟩ rfl rfl hl.1 rfl (lv_room (Nat.le_of_ble_eq_true rfl)) dX2_isRestedAround_11 ⟨(Nat.le_of_ble_eq_true rfl), (Nat.le_of_ble_eq_true rfl)⟩) hS (fun r u H locs hpo hW hS => ?_)
  obtain ⟨hr9, hu9⟩ := hpo; replace hu9 := hu9.symm; subst hu9; replace hr9 := hr9.symm; subst hr9
  refine k_icmp_eq (tgt := 32) hx hb (a := r_p t (e0 + 1)) (b := r_p t ((e0 + 1) - 1)) (by have := hp (e0 + 1) (by omega); omega) (by have := hp (e0 + 1 - 1) (by omega); omega) dX2_isRestedAround_14 (by decide) (fun h_14 => ?_) (fun h_14 => ?_)
  · refine lv_iconst (v := nI 0) hx hb dX2_isRestedAround_32 (by decide) ?_
    exact k_rz hQ hx hb hr rfl hlk hS hW ⟨by rw [k_rest_m _ he, decide_eq_false (show ¬ (r_p t (e0 + 1) ≠ r_p t (e0 + 1 - 1)) from fun q => q h_14)]; rfl, rfl⟩ (Nat.le_of_ble_eq_true rfl) (Nat.le_of_ble_eq_true rfl) dX2_isRestedAround_33
  · refine lv_iload_n hx hb dX2_isRestedAround_17 rfl (lv_at hl 0 rfl) ?_
    refine lv_aload_n hx hb dX2_isRestedAround_18 rfl (lv_at hl 1 rfl) ?_
    refine lv_iload_n hx hb dX2_isRestedAround_19 rfl (lv_at hl 2 rfl) ?_
    refine lv_iconst (v := nI 1) hx hb dX2_isRestedAround_20 (by decide) ?_
    refine k_iadd hx hb dX2_isRestedAround_21 ?_
    refine k_ci (va_runV (As := [.int (nI ((e0 + 1) + 1))]) (rest := [.int (nI (r_p t (e0 + 1)))]) ⟨hx, hb, hml, hown, hts⟩ (c_X2_personOn l hlt g ad t ((e0 + 1) + 1) (by omega)) (cwV 1 hts gX2_isRestedAround_X2_personOn rfl rfl rfl (by decide +kernel) ⟨(Nat.le_of_ble_eq_true rfl), (Nat.le_of_ble_eq_true rfl)⟩) ⟨k_blind, k_recv hK hW (kc_7 g ad t) rfl, fun U hU hw => ⟨rfl, k_I.of hK hZ hN hS hW hU hw⟩⟩ rfl rfl hl.1 rfl (lv_room (Nat.le_of_ble_eq_true rfl)) dX2_isRestedAround_22 ⟨(Nat.le_of_ble_eq_true rfl), (Nat.le_of_ble_eq_true rfl)⟩) hS (fun r u H locs hpo hW hS => ?_)
    obtain ⟨hr9, hu9⟩ := hpo; replace hu9 := hu9.symm; subst hu9; replace hr9 := hr9.symm; subst hr9
    refine k_icmp_eq (tgt := 32) hx hb (a := r_p t (e0 + 1)) (b := r_p t ((e0 + 1) + 1)) (by have := hp (e0 + 1) (by omega); omega) (by have := hp (e0 + 1 + 1) (by omega); omega) dX2_isRestedAround_25 (by decide) (fun h_25 => ?_) (fun h_25 => ?_)
    · refine lv_iconst (v := nI 0) hx hb dX2_isRestedAround_32 (by decide) ?_
      exact k_rz hQ hx hb hr rfl hlk hS hW ⟨by rw [k_rest_m _ he, decide_eq_false (show ¬ (r_p t (e0 + 1) ≠ r_p t (e0 + 1 + 1)) from fun q => q h_25), Bool.and_false]; rfl, rfl⟩ (Nat.le_of_ble_eq_true rfl) (Nat.le_of_ble_eq_true rfl) dX2_isRestedAround_33
    · refine lv_iconst (v := nI 1) hx hb dX2_isRestedAround_28 (by decide) ?_
      refine lv_goto (tgt := 33) hx hb dX2_isRestedAround_29 (by decide) ?_
      exact k_rz hQ hx hb hr rfl hlk hS hW ⟨by rw [k_rest_m _ he, decide_eq_true h_14, decide_eq_true h_25]; rfl, rfl⟩ (Nat.le_of_ble_eq_true rfl) (Nat.le_of_ble_eq_true rfl) dX2_isRestedAround_33
set_option maxRecDepth 100000 in
set_option maxHeartbeats 4000000 in
theorem c_X2_isRestedAround_h (l : Launch) (hlt : l.stackTraces = false) (g : k_g) (ad : k_AD) (t : k_T) (hp : ∀ i, i < 365 → r_p t i < 5) : Met l yX2_isRestedAround wsX2_isRestedAround rm_X2_isRestedAround (va_Pc [.ref (ad 7 0), .int (nI 364)] (k_I g (k_ct g ad t) ad)) (va_Qi (fun r u => r = kb (k_rest (r_p t) 364) ∧ u = t) (fun u U => k_H g ad u U.heap) (k_A g)) 0 0 (k_A g) := by
  refine k_met (cc := cX2_isRestedAround) (maxL := 3) (ret := (some .boolean)) (by decide) rfl (Nat.le_of_ble_eq_true rfl) (fun p e s m args below meth c Q ls hQ hx hb hr hml hts hown hlk hin hK hZ hN hW hS hl => ?_)
  have hown : s.vm.findClass RX2 = some m.cls := hown
  have hW : k_H g ad t s.heap := hW
  have hl : lv_has ls 3 [(0, .ref (ad 7 0)), (1, .int (nI 364))] := hl
  refine lv_aload_n hx hb dX2_isRestedAround_0 rfl (lv_at hl 0 rfl) ?_
  refine lv_iload_n hx hb dX2_isRestedAround_1 rfl (lv_at hl 1 rfl) ?_
  refine k_ci (va_runV (As := [.int (nI 364)]) (rest := []) ⟨hx, hb, hml, hown, hts⟩ (c_X2_personOn l hlt g ad t 364 (by omega)) (cwV 1 hts gX2_isRestedAround_X2_personOn rfl rfl rfl (by decide +kernel) ⟨(Nat.le_of_ble_eq_true rfl), (Nat.le_of_ble_eq_true rfl)⟩) ⟨k_blind, k_recv hK hW (kc_7 g ad t) rfl, fun U hU hw => ⟨rfl, k_I.of hK hZ hN hS hW hU hw⟩⟩ rfl rfl hl.1 rfl (lv_room (Nat.le_of_ble_eq_true rfl)) dX2_isRestedAround_2 ⟨(Nat.le_of_ble_eq_true rfl), (Nat.le_of_ble_eq_true rfl)⟩) hS (fun r u H locs hpo hW hS => ?_)
  obtain ⟨hr9, hu9⟩ := hpo; replace hu9 := hu9.symm; subst hu9; replace hr9 := hr9.symm; subst hr9
  refine lv_istore_n (lv' := [(2, .int (nI (r_p t 364))), (0, .ref (ad 7 0)), (1, .int (nI 364))]) hx hb dX2_isRestedAround_5 rfl hl (by decide) rfl (fun ls hl => ?_)
  refine lv_iload_n hx hb dX2_isRestedAround_6 rfl (lv_at hl 0 rfl) ?_
  refine lv_aload_n hx hb dX2_isRestedAround_7 rfl (lv_at hl 1 rfl) ?_
  refine lv_iload_n hx hb dX2_isRestedAround_8 rfl (lv_at hl 2 rfl) ?_
  refine lv_iconst (v := nI 1) hx hb dX2_isRestedAround_9 (by decide) ?_
  refine k_isub hx hb (by decide) dX2_isRestedAround_10 ?_
  refine k_ci (va_runV (As := [.int (nI (364 - 1))]) (rest := [.int (nI (r_p t 364))]) ⟨hx, hb, hml, hown, hts⟩ (c_X2_personOn l hlt g ad t (364 - 1) (by decide)) (cwV 1 hts gX2_isRestedAround_X2_personOn rfl rfl rfl (by decide +kernel) ⟨(Nat.le_of_ble_eq_true rfl), (Nat.le_of_ble_eq_true rfl)⟩) ⟨k_blind, k_recv hK hW (kc_7 g ad t) rfl, fun U hU hw => ⟨rfl, k_I.of hK hZ hN hS hW hU hw⟩⟩ rfl rfl hl.1 rfl (lv_room (Nat.le_of_ble_eq_true rfl)) dX2_isRestedAround_11 ⟨(Nat.le_of_ble_eq_true rfl), (Nat.le_of_ble_eq_true rfl)⟩) hS (fun r u H locs hpo hW hS => ?_)
  obtain ⟨hr9, hu9⟩ := hpo; replace hu9 := hu9.symm; subst hu9; replace hr9 := hr9.symm; subst hr9
  refine k_icmp_eq (tgt := 32) hx hb (a := r_p t 364) (b := r_p t (364 - 1)) (by have := hp 364 (by decide); omega) (by have := hp (364 - 1) (by decide); omega) dX2_isRestedAround_14 (by decide) (fun h_14 => ?_) (fun h_14 => ?_)
  · refine lv_iconst (v := nI 0) hx hb dX2_isRestedAround_32 (by decide) ?_
    exact k_rz hQ hx hb hr rfl hlk hS hW ⟨by rw [k_rest_h, decide_eq_false (fun q => q h_14)]; rfl, rfl⟩ (Nat.le_of_ble_eq_true rfl) (Nat.le_of_ble_eq_true rfl) dX2_isRestedAround_33
  · refine lv_iload_n hx hb dX2_isRestedAround_17 rfl (lv_at hl 0 rfl) ?_
    refine lv_aload_n hx hb dX2_isRestedAround_18 rfl (lv_at hl 1 rfl) ?_
    refine lv_iload_n hx hb dX2_isRestedAround_19 rfl (lv_at hl 2 rfl) ?_
    refine lv_iconst (v := nI 1) hx hb dX2_isRestedAround_20 (by decide) ?_
    refine k_iadd hx hb dX2_isRestedAround_21 ?_
    refine k_ci (va_runV (As := [.int (nI (364 + 1))]) (rest := [.int (nI (r_p t 364))]) ⟨hx, hb, hml, hown, hts⟩ (c_X2_personOn_hi l hlt g ad t (364 + 1) (by decide) (by decide)) (cwV 1 hts gX2_isRestedAround_X2_personOn rfl rfl rfl (by decide +kernel) ⟨(Nat.le_of_ble_eq_true rfl), (Nat.le_of_ble_eq_true rfl)⟩) ⟨k_blind, k_recv hK hW (kc_7 g ad t) rfl, fun U hU hw => ⟨rfl, k_I.of hK hZ hN hS hW hU hw⟩⟩ rfl rfl hl.1 rfl (lv_room (Nat.le_of_ble_eq_true rfl)) dX2_isRestedAround_22 ⟨(Nat.le_of_ble_eq_true rfl), (Nat.le_of_ble_eq_true rfl)⟩) hS (fun r u H locs hpo hW hS => ?_)
    obtain ⟨hr9, hu9⟩ := hpo; replace hu9 := hu9.symm; subst hu9; replace hr9 := hr9.symm; subst hr9
    refine lv_icmp_eq (tgt := 32) hx hb dX2_isRestedAround_25 (by decide) (fun h_25 => absurd h_25 (k_nm1 (by have := hp 364 (by decide); omega))) (fun h_25 => ?_)
    refine lv_iconst (v := nI 1) hx hb dX2_isRestedAround_28 (by decide) ?_
    refine lv_goto (tgt := 33) hx hb dX2_isRestedAround_29 (by decide) ?_
    exact k_rz hQ hx hb hr rfl hlk hS hW ⟨by rw [k_rest_h, decide_eq_true h_14]; rfl, rfl⟩ (Nat.le_of_ble_eq_true rfl) (Nat.le_of_ble_eq_true rfl) dX2_isRestedAround_33
set_option maxRecDepth 100000 in
set_option maxHeartbeats 4000000 in
theorem c_X2_isRestedAround (l : Launch) (hlt : l.stackTraces = false) (g : k_g) (ad : k_AD) (t : k_T) (j : Nat) (hj : j < 365) (hp : ∀ i, i < 365 → r_p t i < 5) : Met l yX2_isRestedAround wsX2_isRestedAround rm_X2_isRestedAround (va_Pc [.ref (ad 7 0), .int (nI j)] (k_I g (k_ct g ad t) ad)) (va_Qi (fun r u => r = kb (k_rest (r_p t) j) ∧ u = t) (fun u U => k_H g ad u U.heap) (k_A g)) 0 0 (k_A g) := by
  rcases Nat.eq_zero_or_pos j with h | h
  · subst h; exact c_X2_isRestedAround_0 l hlt g ad t hp
  · rcases Nat.lt_or_ge j 364 with h2 | h2
    · obtain ⟨e0, rfl⟩ : ∃ e0, j = e0 + 1 := ⟨j - 1, by omega⟩
      exact c_X2_isRestedAround_m l hlt g ad t e0 h2 hp
    · obtain rfl : j = 364 := by omega
      exact c_X2_isRestedAround_h l hlt g ad t hp
abbrev rm_X2_exchangeIfRested : Room := { frames := 2, cells := 0, slots := 0, locals := 43 }
set_option maxRecDepth 100000 in
set_option maxHeartbeats 4000000 in
theorem c_X2_exchangeIfRested_ok (l : Launch) (hlt : l.stackTraces = false) (g : k_g) (ad : k_AD) (t : k_T) (j : Nat) (k : Nat) (hj : j < 365) (hk : k < 365) (hp : ∀ i, i < 365 → r_p t i < 5) (h1 : k_rest (k_ex (r_p t) j k) j = true) (h2 : k_rest (k_ex (r_p t) j k) k = true) : Met l yX2_exchangeIfRested wsX2_exchangeIfRested rm_X2_exchangeIfRested (va_Pc [.ref (ad 7 0), .int (nI j), .int (nI k)] (k_I g (k_ct g ad t) ad)) (va_Qi (fun r u => r = nI 1 ∧ u = set_r_p t (k_ex (r_p t) j k)) (fun u U => k_H g ad u U.heap) (k_A g)) 0 0 (k_A g) := by
  refine k_met (cc := cX2_exchangeIfRested) (maxL := 3) (ret := (some .boolean)) (by decide) rfl (Nat.le_of_ble_eq_true rfl) (fun p e s m args below meth c Q ls hQ hx hb hr hml hts hown hlk hin hK hZ hN hW hS hl => ?_)
  have hown : s.vm.findClass RX2 = some m.cls := hown
  have hW : k_H g ad t s.heap := hW
  have hl : lv_has ls 3 [(0, .ref (ad 7 0)), (1, .int (nI j)), (2, .int (nI k))] := hl
  refine lv_aload_n hx hb dX2_exchangeIfRested_0 rfl (lv_at hl 0 rfl) ?_
  refine lv_iload_n hx hb dX2_exchangeIfRested_1 rfl (lv_at hl 1 rfl) ?_
  refine lv_iload_n hx hb dX2_exchangeIfRested_2 rfl (lv_at hl 2 rfl) ?_
  refine k_cv (va_runV (As := [.int (nI j), .int (nI k)]) (rest := []) ⟨hx, hb, hml, hown, hts⟩ (c_X2_exchange l hlt g ad t j k (by omega) (by omega)) (cwV 2 hts gX2_exchangeIfRested_X2_exchange rfl rfl rfl (by decide +kernel) ⟨(Nat.le_of_ble_eq_true rfl), (Nat.le_of_ble_eq_true rfl)⟩) ⟨k_blind, k_recv hK hW (kc_7 g ad t) rfl, fun U hU hw => ⟨rfl, k_I.of hK hZ hN hS hW hU hw⟩⟩ rfl rfl hl.1 rfl (lv_room (Nat.le_of_ble_eq_true rfl)) dX2_exchangeIfRested_3 ⟨(Nat.le_of_ble_eq_true rfl), (Nat.le_of_ble_eq_true rfl)⟩) hS (fun u H locs hpo hW hS => ?_)
  have hu9 := hpo.symm; subst hu9
  have hW : k_H g ad (set_r_p t (va_up (va_up (r_p t) j (r_p t k)) k (r_p t j))) H := hW
  refine lv_aload_n hx hb dX2_exchangeIfRested_6 rfl (lv_at hl 0 rfl) ?_
  refine lv_iload_n hx hb dX2_exchangeIfRested_7 rfl (lv_at hl 1 rfl) ?_
  refine k_ci (va_runV (As := [.int (nI j)]) (rest := []) ⟨hx, hb, hml, hown, hts⟩ (c_X2_isRestedAround l hlt g ad (set_r_p t (va_up (va_up (r_p t) j (r_p t k)) k (r_p t j))) j (by omega) (k_ex_lt hp hj hk)) (cwV 1 hts gX2_exchangeIfRested_X2_isRestedAround rfl rfl rfl (by decide +kernel) ⟨(Nat.le_of_ble_eq_true rfl), (Nat.le_of_ble_eq_true rfl)⟩) ⟨k_blind, k_recv hK hW (kc_7 g ad (set_r_p t (va_up (va_up (r_p t) j (r_p t k)) k (r_p t j)))) rfl, fun U hU hw => ⟨rfl, k_I.of hK hZ hN hS hW hU hw⟩⟩ rfl rfl hl.1 rfl (lv_room (Nat.le_of_ble_eq_true rfl)) dX2_exchangeIfRested_8 ⟨(Nat.le_of_ble_eq_true rfl), (Nat.le_of_ble_eq_true rfl)⟩) hS (fun r u H locs hpo hW hS => ?_)
  obtain ⟨hr9, hu9⟩ := hpo; replace hu9 := hu9.symm; subst hu9; replace hr9 := hr9.symm; subst hr9
  refine k_ifz_eq (tgt := 24) hx hb dX2_exchangeIfRested_11 (by decide) (fun h_11 => absurd h_11 (fun q => by have h9 := h1.symm.trans q; cases h9)) (fun h_11 => ?_)
  refine lv_aload_n hx hb dX2_exchangeIfRested_14 rfl (lv_at hl 0 rfl) ?_
  refine lv_iload_n hx hb dX2_exchangeIfRested_15 rfl (lv_at hl 2 rfl) ?_
  refine k_ci (va_runV (As := [.int (nI k)]) (rest := []) ⟨hx, hb, hml, hown, hts⟩ (c_X2_isRestedAround l hlt g ad (set_r_p t (va_up (va_up (r_p t) j (r_p t k)) k (r_p t j))) k (by omega) (k_ex_lt hp hj hk)) (cwV 1 hts gX2_exchangeIfRested_X2_isRestedAround rfl rfl rfl (by decide +kernel) ⟨(Nat.le_of_ble_eq_true rfl), (Nat.le_of_ble_eq_true rfl)⟩) ⟨k_blind, k_recv hK hW (kc_7 g ad (set_r_p t (va_up (va_up (r_p t) j (r_p t k)) k (r_p t j)))) rfl, fun U hU hw => ⟨rfl, k_I.of hK hZ hN hS hW hU hw⟩⟩ rfl rfl hl.1 rfl (lv_room (Nat.le_of_ble_eq_true rfl)) dX2_exchangeIfRested_16 ⟨(Nat.le_of_ble_eq_true rfl), (Nat.le_of_ble_eq_true rfl)⟩) hS (fun r u H locs hpo hW hS => ?_)
  obtain ⟨hr9, hu9⟩ := hpo; replace hu9 := hu9.symm; subst hu9; replace hr9 := hr9.symm; subst hr9
  refine k_ifz_eq (tgt := 24) hx hb dX2_exchangeIfRested_19 (by decide) (fun h_19 => absurd h_19 (fun q => by have h9 := h2.symm.trans q; cases h9)) (fun h_19 => ?_)
  refine lv_iconst (v := nI 1) hx hb dX2_exchangeIfRested_22 (by decide) ?_
  exact k_rz hQ hx hb hr rfl hlk hS hW ⟨rfl, rfl⟩ (Nat.le_of_ble_eq_true rfl) (Nat.le_of_ble_eq_true rfl) dX2_exchangeIfRested_23
set_option maxRecDepth 100000 in
set_option maxHeartbeats 4000000 in
theorem c_X2_exchangeIfRested_no (l : Launch) (hlt : l.stackTraces = false) (g : k_g) (ad : k_AD) (t : k_T) (j : Nat) (k : Nat) (hj : j < 365) (hk : k < 365) (hp : ∀ i, i < 365 → r_p t i < 5) (hno : (k_rest (k_ex (r_p t) j k) j && k_rest (k_ex (r_p t) j k) k) = false) : Met l yX2_exchangeIfRested wsX2_exchangeIfRested rm_X2_exchangeIfRested (va_Pc [.ref (ad 7 0), .int (nI j), .int (nI k)] (k_I g (k_ct g ad t) ad)) (va_Qi (fun r u => r = nI 0 ∧ u = t) (fun u U => k_H g ad u U.heap) (k_A g)) 0 0 (k_A g) := by
  refine k_met (cc := cX2_exchangeIfRested) (maxL := 3) (ret := (some .boolean)) (by decide) rfl (Nat.le_of_ble_eq_true rfl) (fun p e s m args below meth c Q ls hQ hx hb hr hml hts hown hlk hin hK hZ hN hW hS hl => ?_)
  have hown : s.vm.findClass RX2 = some m.cls := hown
  have hW : k_H g ad t s.heap := hW
  have hl : lv_has ls 3 [(0, .ref (ad 7 0)), (1, .int (nI j)), (2, .int (nI k))] := hl
  refine lv_aload_n hx hb dX2_exchangeIfRested_0 rfl (lv_at hl 0 rfl) ?_
  refine lv_iload_n hx hb dX2_exchangeIfRested_1 rfl (lv_at hl 1 rfl) ?_
  refine lv_iload_n hx hb dX2_exchangeIfRested_2 rfl (lv_at hl 2 rfl) ?_
  refine k_cv (va_runV (As := [.int (nI j), .int (nI k)]) (rest := []) ⟨hx, hb, hml, hown, hts⟩ (c_X2_exchange l hlt g ad t j k (by omega) (by omega)) (cwV 2 hts gX2_exchangeIfRested_X2_exchange rfl rfl rfl (by decide +kernel) ⟨(Nat.le_of_ble_eq_true rfl), (Nat.le_of_ble_eq_true rfl)⟩) ⟨k_blind, k_recv hK hW (kc_7 g ad t) rfl, fun U hU hw => ⟨rfl, k_I.of hK hZ hN hS hW hU hw⟩⟩ rfl rfl hl.1 rfl (lv_room (Nat.le_of_ble_eq_true rfl)) dX2_exchangeIfRested_3 ⟨(Nat.le_of_ble_eq_true rfl), (Nat.le_of_ble_eq_true rfl)⟩) hS (fun u H locs hpo hW hS => ?_)
  have hu9 := hpo.symm; subst hu9
  have hW : k_H g ad (set_r_p t (va_up (va_up (r_p t) j (r_p t k)) k (r_p t j))) H := hW
  refine lv_aload_n hx hb dX2_exchangeIfRested_6 rfl (lv_at hl 0 rfl) ?_
  refine lv_iload_n hx hb dX2_exchangeIfRested_7 rfl (lv_at hl 1 rfl) ?_
  refine k_ci (va_runV (As := [.int (nI j)]) (rest := []) ⟨hx, hb, hml, hown, hts⟩ (c_X2_isRestedAround l hlt g ad (set_r_p t (va_up (va_up (r_p t) j (r_p t k)) k (r_p t j))) j (by omega) (k_ex_lt hp hj hk)) (cwV 1 hts gX2_exchangeIfRested_X2_isRestedAround rfl rfl rfl (by decide +kernel) ⟨(Nat.le_of_ble_eq_true rfl), (Nat.le_of_ble_eq_true rfl)⟩) ⟨k_blind, k_recv hK hW (kc_7 g ad (set_r_p t (va_up (va_up (r_p t) j (r_p t k)) k (r_p t j)))) rfl, fun U hU hw => ⟨rfl, k_I.of hK hZ hN hS hW hU hw⟩⟩ rfl rfl hl.1 rfl (lv_room (Nat.le_of_ble_eq_true rfl)) dX2_exchangeIfRested_8 ⟨(Nat.le_of_ble_eq_true rfl), (Nat.le_of_ble_eq_true rfl)⟩) hS (fun r u H locs hpo hW hS => ?_)
  obtain ⟨hr9, hu9⟩ := hpo; replace hu9 := hu9.symm; subst hu9; replace hr9 := hr9.symm; subst hr9
  refine k_ifz_eq (tgt := 24) hx hb dX2_exchangeIfRested_11 (by decide) (fun h_11 => ?_) (fun h_11 => ?_)
  · refine lv_aload_n hx hb dX2_exchangeIfRested_24 rfl (lv_at hl 0 rfl) ?_
    refine lv_iload_n hx hb dX2_exchangeIfRested_25 rfl (lv_at hl 1 rfl) ?_
    refine lv_iload_n hx hb dX2_exchangeIfRested_26 rfl (lv_at hl 2 rfl) ?_
    refine k_cv (va_runV (As := [.int (nI j), .int (nI k)]) (rest := []) ⟨hx, hb, hml, hown, hts⟩ (c_X2_exchange l hlt g ad (set_r_p t (va_up (va_up (r_p t) j (r_p t k)) k (r_p t j))) j k (by omega) (by omega)) (cwV 2 hts gX2_exchangeIfRested_X2_exchange rfl rfl rfl (by decide +kernel) ⟨(Nat.le_of_ble_eq_true rfl), (Nat.le_of_ble_eq_true rfl)⟩) ⟨k_blind, k_recv hK hW (kc_7 g ad (set_r_p t (va_up (va_up (r_p t) j (r_p t k)) k (r_p t j)))) rfl, fun U hU hw => ⟨rfl, k_I.of hK hZ hN hS hW hU hw⟩⟩ rfl rfl hl.1 rfl (lv_room (Nat.le_of_ble_eq_true rfl)) dX2_exchangeIfRested_27 ⟨(Nat.le_of_ble_eq_true rfl), (Nat.le_of_ble_eq_true rfl)⟩) hS (fun u H locs hpo hW hS => ?_)
    have hu9 := hpo.symm; subst hu9
    have hW : k_H g ad (set_r_p t (va_up (va_up (va_up (va_up (r_p t) j (r_p t k)) k (r_p t j)) j ((va_up (va_up (r_p t) j (r_p t k)) k (r_p t j)) k)) k ((va_up (va_up (r_p t) j (r_p t k)) k (r_p t j)) j))) H := hW
    refine lv_iconst (v := nI 0) hx hb dX2_exchangeIfRested_30 (by decide) ?_
    exact k_rz hQ hx hb hr rfl hlk hS hW ⟨rfl, by rw [k_ex_back]⟩ (Nat.le_of_ble_eq_true rfl) (Nat.le_of_ble_eq_true rfl) dX2_exchangeIfRested_31
  · refine lv_aload_n hx hb dX2_exchangeIfRested_14 rfl (lv_at hl 0 rfl) ?_
    refine lv_iload_n hx hb dX2_exchangeIfRested_15 rfl (lv_at hl 2 rfl) ?_
    refine k_ci (va_runV (As := [.int (nI k)]) (rest := []) ⟨hx, hb, hml, hown, hts⟩ (c_X2_isRestedAround l hlt g ad (set_r_p t (va_up (va_up (r_p t) j (r_p t k)) k (r_p t j))) k (by omega) (k_ex_lt hp hj hk)) (cwV 1 hts gX2_exchangeIfRested_X2_isRestedAround rfl rfl rfl (by decide +kernel) ⟨(Nat.le_of_ble_eq_true rfl), (Nat.le_of_ble_eq_true rfl)⟩) ⟨k_blind, k_recv hK hW (kc_7 g ad (set_r_p t (va_up (va_up (r_p t) j (r_p t k)) k (r_p t j)))) rfl, fun U hU hw => ⟨rfl, k_I.of hK hZ hN hS hW hU hw⟩⟩ rfl rfl hl.1 rfl (lv_room (Nat.le_of_ble_eq_true rfl)) dX2_exchangeIfRested_16 ⟨(Nat.le_of_ble_eq_true rfl), (Nat.le_of_ble_eq_true rfl)⟩) hS (fun r u H locs hpo hW hS => ?_)
    obtain ⟨hr9, hu9⟩ := hpo; replace hu9 := hu9.symm; subst hu9; replace hr9 := hr9.symm; subst hr9
    refine k_ifz_eq (tgt := 24) hx hb dX2_exchangeIfRested_19 (by decide) (fun h_19 => ?_) (fun h_19 => absurd h_19 (fun q => absurd (hno.symm.trans (show (k_rest (k_ex (r_p t) j k) j && k_rest (k_ex (r_p t) j k) k) = true from by rw [Bool.and_eq_true]; exact ⟨h_11, q⟩)) (by decide)))
    refine lv_aload_n hx hb dX2_exchangeIfRested_24 rfl (lv_at hl 0 rfl) ?_
    refine lv_iload_n hx hb dX2_exchangeIfRested_25 rfl (lv_at hl 1 rfl) ?_
    refine lv_iload_n hx hb dX2_exchangeIfRested_26 rfl (lv_at hl 2 rfl) ?_
    refine k_cv (va_runV (As := [.int (nI j), .int (nI k)]) (rest := []) ⟨hx, hb, hml, hown, hts⟩ (c_X2_exchange l hlt g ad (set_r_p t (va_up (va_up (r_p t) j (r_p t k)) k (r_p t j))) j k (by omega) (by omega)) (cwV 2 hts gX2_exchangeIfRested_X2_exchange rfl rfl rfl (by decide +kernel) ⟨(Nat.le_of_ble_eq_true rfl), (Nat.le_of_ble_eq_true rfl)⟩) ⟨k_blind, k_recv hK hW (kc_7 g ad (set_r_p t (va_up (va_up (r_p t) j (r_p t k)) k (r_p t j)))) rfl, fun U hU hw => ⟨rfl, k_I.of hK hZ hN hS hW hU hw⟩⟩ rfl rfl hl.1 rfl (lv_room (Nat.le_of_ble_eq_true rfl)) dX2_exchangeIfRested_27 ⟨(Nat.le_of_ble_eq_true rfl), (Nat.le_of_ble_eq_true rfl)⟩) hS (fun u H locs hpo hW hS => ?_)
    have hu9 := hpo.symm; subst hu9
    have hW : k_H g ad (set_r_p t (va_up (va_up (va_up (va_up (r_p t) j (r_p t k)) k (r_p t j)) j ((va_up (va_up (r_p t) j (r_p t k)) k (r_p t j)) k)) k ((va_up (va_up (r_p t) j (r_p t k)) k (r_p t j)) j))) H := hW
    refine lv_iconst (v := nI 0) hx hb dX2_exchangeIfRested_30 (by decide) ?_
    exact k_rz hQ hx hb hr rfl hlk hS hW ⟨rfl, by rw [k_ex_back]⟩ (Nat.le_of_ble_eq_true rfl) (Nat.le_of_ble_eq_true rfl) dX2_exchangeIfRested_31
abbrev rm_X2_firstToAnswer : Room := { frames := 1, cells := 0, slots := 0, locals := 21 }
set_option maxRecDepth 100000 in
set_option maxHeartbeats 4000000 in
theorem c_X2_firstToAnswer (l : Launch) (hlt : l.stackTraces = false) (g : k_g) (ad : k_AD) (t : k_T) (d : Nat) (an : Nat) (hd : d ≤ 360) (han : an < 32) (hp : ∀ i, i < 365 → r_p t i < 5) : Met l yX2_firstToAnswer wsX2_firstToAnswer rm_X2_firstToAnswer (va_Pc [.ref (ad 7 0), .int (nI d), .int (nI an)] (k_I g (k_ct g ad t) ad)) (va_Qi (fun r u => r = k_al (r_p t) an 4 d ∧ u = t) (fun u U => k_H g ad u U.heap) (k_A g)) 0 0 (k_A g) := by
  refine k_met (cc := cX2_firstToAnswer) (maxL := 5) (ret := (some .int)) (by decide) rfl (Nat.le_of_ble_eq_true rfl) (fun p e s m args below meth c Q ls hQ hx hb hr hml hts hown hlk hin hK hZ hN hW hS hl => ?_)
  have hown : s.vm.findClass RX2 = some m.cls := hown
  have hW : k_H g ad t s.heap := hW
  have hl : lv_has ls 5 [(0, .ref (ad 7 0)), (1, .int (nI d)), (2, .int (nI an))] := hl
  refine lv_iconst (v := nI 0) hx hb dX2_firstToAnswer_0 (by decide) ?_
  refine lv_istore_n (lv' := [(3, .int (nI 0)), (0, .ref (ad 7 0)), (1, .int (nI d)), (2, .int (nI an))]) hx hb dX2_firstToAnswer_1 rfl hl (by decide) rfl (fun ls hl => ?_)
  have hloop_2 : ∀ (n : Nat) (i : Nat), (4 < i + n) → (i ≤ 4) → (k_al (r_p t) an 4 d = k_al (r_p t) an (4 - i) (d + i)) → ∀ (H : Heap) (locs : List Loc), k_H g ad t H → va_S (k_A g) s.heap H locs → ∀ (ls : Array Slot), lv_has ls 5 [(0, .ref (ad 7 0)), (1, .int (nI d)), (2, .int (nI an)), (3, .int (nI i))] → W p l e rm_X2_firstToAnswer s m args below meth c H locs 0 0 Q (F0 m 2 ls []) := by
    intro n
    induction n with
    | zero =>
      intro i hfu hi hz
      exact absurd hfu (by omega)
    | succ n ih =>
      intro i hfu hi hz H locs hW hS ls hl
      refine lv_iload_n hx hb dX2_firstToAnswer_2 rfl (lv_at hl 3 rfl) ?_
      refine lv_iconst (v := nI 3) hx hb dX2_firstToAnswer_3 (by decide) ?_
      refine k_icmp_gt (tgt := 45) hx hb (a := i) (b := 3) (by omega) (by decide) dX2_firstToAnswer_4 (by decide) (fun h_4 => ?_) (fun h_4 => ?_)
      · refine lv_iconst (v := (-1)) hx hb dX2_firstToAnswer_45 (by decide) ?_
        exact k_ri hQ hx hb hr hlk hS hW ⟨by rw [hz, show 4 - i = 0 by omega]; rfl, rfl⟩ (Nat.le_of_ble_eq_true rfl) (Nat.le_of_ble_eq_true rfl) dX2_firstToAnswer_46
      · refine lv_aload_n hx hb dX2_firstToAnswer_7 rfl (lv_at hl 0 rfl) ?_
        refine lv_iload_n hx hb dX2_firstToAnswer_8 rfl (lv_at hl 1 rfl) ?_
        refine lv_iload_n hx hb dX2_firstToAnswer_9 rfl (lv_at hl 3 rfl) ?_
        refine k_iadd hx hb dX2_firstToAnswer_10 ?_
        refine k_ci (va_runV (As := [.int (nI (d + i))]) (rest := []) ⟨hx, hb, hml, hown, hts⟩ (c_X2_personOn l hlt g ad t (d + i) (by omega)) (cwV 1 hts gX2_firstToAnswer_X2_personOn rfl rfl rfl (by decide +kernel) ⟨(Nat.le_of_ble_eq_true rfl), (Nat.le_of_ble_eq_true rfl)⟩) ⟨k_blind, k_recv hK hW (kc_7 g ad t) rfl, fun U hU hw => ⟨rfl, k_I.of hK hZ hN hS hW hU hw⟩⟩ rfl rfl hl.1 rfl (lv_room (Nat.le_of_ble_eq_true rfl)) dX2_firstToAnswer_11 ⟨(Nat.le_of_ble_eq_true rfl), (Nat.le_of_ble_eq_true rfl)⟩) hS (fun r u H locs hpo hW hS => ?_)
        obtain ⟨hr9, hu9⟩ := hpo; replace hu9 := hu9.symm; subst hu9; replace hr9 := hr9.symm; subst hr9
        refine lv_istore (lv' := [(4, .int (nI (r_p t (d + i)))), (0, .ref (ad 7 0)), (1, .int (nI d)), (2, .int (nI an)), (3, .int (nI i))]) hx hb dX2_firstToAnswer_14 hl (by decide) rfl (fun ls hl => ?_)
        refine lv_iload hx hb dX2_firstToAnswer_16 (lv_at hl 0 rfl) ?_
        refine k_if_lt (tgt := 39) hx hb (by have := hp (d + i) (by omega); omega) dX2_firstToAnswer_18 (by decide) ?_
        refine lv_iload hx hb dX2_firstToAnswer_21 (lv_at hl 0 rfl) ?_
        refine lv_iconst (v := nI 5) hx hb dX2_firstToAnswer_23 (by decide) ?_
        refine k_icmp_ge (tgt := 39) hx hb (a := r_p t (d + i)) (b := 5) (by have := hp (d + i) (by omega); omega) (by decide) dX2_firstToAnswer_24 (by decide) (fun h_24 => absurd h_24 (by have := hp (d + i) (by omega); omega)) (fun h_24 => ?_)
        refine lv_iload_n hx hb dX2_firstToAnswer_27 rfl (lv_at hl 3 rfl) ?_
        refine lv_iconst (v := nI 1) hx hb dX2_firstToAnswer_28 (by decide) ?_
        refine lv_iload hx hb dX2_firstToAnswer_29 (lv_at hl 0 rfl) ?_
        refine lv_ishl hx hb dX2_firstToAnswer_31 ?_
        refine lv_iand hx hb dX2_firstToAnswer_32 ?_
        refine lv_if_eq (tgt := 39) hx hb dX2_firstToAnswer_33 (by decide) (fun h_33 => ?_) (fun h_33 => ?_)
        · refine lv_iinc (v := nI (i + 1)) (lv' := [(3, .int (nI (i + 1))), (4, .int (nI (r_p t (d + i)))), (0, .ref (ad 7 0)), (1, .int (nI d)), (2, .int (nI an))]) hx hb dX2_firstToAnswer_39 hl (k := 4) rfl (nI_add _ _) (by decide) rfl (fun ls hl => ?_)
          refine lv_goto (tgt := 2) hx hb dX2_firstToAnswer_42 (by decide) ?_
          exact ih (i + 1) (by omega) (by omega) (by rw [hz, show 4 - i = (4 - (i + 1)) + 1 by omega, k_al, if_neg (by rw [(k_and an han _ (hp (d + i) (by omega))).mp h_33]; decide)]; rfl) _ _ hW hS _ (lv_sub hl [2, 3, 4, 0] rfl)
        · refine lv_iload hx hb dX2_firstToAnswer_36 (lv_at hl 0 rfl) ?_
          exact k_ri hQ hx hb hr hlk hS hW ⟨by rw [hz, show 4 - i = (4 - (i + 1)) + 1 by omega, k_al, if_pos (by cases h9 : an.testBit (r_p t (d + i)) with | true => rfl | false => exact absurd ((k_and an han _ (hp (d + i) (by omega))).mpr h9) h_33)], rfl⟩ (Nat.le_of_ble_eq_true rfl) (Nat.le_of_ble_eq_true rfl) dX2_firstToAnswer_38
  exact hloop_2 5 0 (by omega) (by omega) rfl _ _ hW hS _ (lv_sub hl [1, 2, 3, 0] rfl)
abbrev rm_X3_find : Room := { frames := 0, cells := 0, slots := 0, locals := 0 }
set_option maxRecDepth 100000 in
set_option maxHeartbeats 4000000 in
theorem c_X3_find (l : Launch) (hlt : l.stackTraces = false) (g : k_g) (ad : k_AD) (t : k_T) (j : Nat) (hj : j < 60) (hs : s_th t j = true) : Met l yX3_find wsX3_find rm_X3_find (va_Pc [.ref (ad 5 0), .int (nI j)] (k_I g (k_ct g ad t) ad)) (va_Qq (fun r u => r = some (ad 25 j) ∧ u = t) (fun u U => k_H g ad u U.heap) (k_A g)) 0 0 (k_A g) := by
  refine k_met (cc := cX3_find) (maxL := 2) (ret := (some (.object "DrillVault$Copy"))) (by decide) rfl (Nat.le_of_ble_eq_true rfl) (fun p e s m args below meth c Q ls hQ hx hb hr hml hts hown hlk hin hK hZ hN hW hS hl => ?_)
  have hown : s.vm.findClass RX3 = some m.cls := hown
  have hW : k_H g ad t s.heap := hW
  have hl : lv_has ls 2 [(0, .ref (ad 5 0)), (1, .int (nI j))] := hl
  have hinX3 : ∀ w ∈ wsX30, w ∈ wsX3_find := by decide +kernel
  refine lv_iload_n hx hb dX3_find_0 rfl (lv_at hl 1 rfl) ?_
  refine k_if_lt (tgt := 22) hx hb (by omega) dX3_find_1 (by decide) ?_
  refine lv_iload_n hx hb dX3_find_4 rfl (lv_at hl 1 rfl) ?_
  refine lv_aload_n hx hb dX3_find_5 rfl (lv_at hl 0 rfl) ?_
  refine k_get (own := RX3) (C := RX3) (T := TX3) (N := 5) hx hb hts hinX3 hown hK hW (kc_5 g ad t) rfl 0 (by decide) (hts (.fieldLink RX3 11 "DrillVault$Shelf" "rows" "[LDrillVault$Copy;") (by decide +kernel)) rfl (v := .ref (ad 6 0)) rfl dX3_find_6 ?_
  refine k_alen hx hb hK hW 3 rfl (kc_6 g ad t) (v := nI 60) rfl dX3_find_9 ?_
  refine k_icmp_ge (tgt := 22) hx hb (a := j) (b := 60) (by omega) (by decide) dX3_find_10 (by decide) (fun h_10 => absurd h_10 (by omega)) (fun h_10 => ?_)
  refine lv_aload_n hx hb dX3_find_13 rfl (lv_at hl 0 rfl) ?_
  refine k_get (own := RX3) (C := RX3) (T := TX3) (N := 5) hx hb hts hinX3 hown hK hW (kc_5 g ad t) rfl 0 (by decide) (hts (.fieldLink RX3 11 "DrillVault$Shelf" "rows" "[LDrillVault$Copy;") (by decide +kernel)) rfl (v := .ref (ad 6 0)) rfl dX3_find_14 ?_
  refine lv_iload_n hx hb dX3_find_17 rfl (lv_at hl 1 rfl) ?_
  refine k_aald hx hb hK hW (kc_6 g ad t) j rfl (by omega) (by decide) dX3_find_18 ?_
  refine k_tov (y := .ref (ad 25 j)) (congrArg va_rf (if_pos hs)) ?_
  refine lv_goto (tgt := 23) hx hb dX3_find_19 (by decide) ?_
  refine k_tov (y := va_rf (some (ad 25 j))) rfl ?_
  exact k_rq hQ hx hb hr hlk hS hW ⟨rfl, rfl⟩ (Nat.le_of_ble_eq_true rfl) (Nat.le_of_ble_eq_true rfl) dX3_find_23
set_option maxRecDepth 100000 in
set_option maxHeartbeats 4000000 in
theorem c_X3_find_ab (l : Launch) (hlt : l.stackTraces = false) (g : k_g) (ad : k_AD) (t : k_T) (j : Nat) (hj : j < 60) (hs : s_th t j = false) : Met l yX3_find wsX3_find rm_X3_find (va_Pc [.ref (ad 5 0), .int (nI j)] (k_I g (k_ct g ad t) ad)) (va_Qq (fun r u => r = none ∧ u = t) (fun u U => k_H g ad u U.heap) (k_A g)) 0 0 (k_A g) := by
  refine k_met (cc := cX3_find) (maxL := 2) (ret := (some (.object "DrillVault$Copy"))) (by decide) rfl (Nat.le_of_ble_eq_true rfl) (fun p e s m args below meth c Q ls hQ hx hb hr hml hts hown hlk hin hK hZ hN hW hS hl => ?_)
  have hown : s.vm.findClass RX3 = some m.cls := hown
  have hW : k_H g ad t s.heap := hW
  have hl : lv_has ls 2 [(0, .ref (ad 5 0)), (1, .int (nI j))] := hl
  have hinX3 : ∀ w ∈ wsX30, w ∈ wsX3_find := by decide +kernel
  refine lv_iload_n hx hb dX3_find_0 rfl (lv_at hl 1 rfl) ?_
  refine k_if_lt (tgt := 22) hx hb (by omega) dX3_find_1 (by decide) ?_
  refine lv_iload_n hx hb dX3_find_4 rfl (lv_at hl 1 rfl) ?_
  refine lv_aload_n hx hb dX3_find_5 rfl (lv_at hl 0 rfl) ?_
  refine k_get (own := RX3) (C := RX3) (T := TX3) (N := 5) hx hb hts hinX3 hown hK hW (kc_5 g ad t) rfl 0 (by decide) (hts (.fieldLink RX3 11 "DrillVault$Shelf" "rows" "[LDrillVault$Copy;") (by decide +kernel)) rfl (v := .ref (ad 6 0)) rfl dX3_find_6 ?_
  refine k_alen hx hb hK hW 3 rfl (kc_6 g ad t) (v := nI 60) rfl dX3_find_9 ?_
  refine k_icmp_ge (tgt := 22) hx hb (a := j) (b := 60) (by omega) (by decide) dX3_find_10 (by decide) (fun h_10 => absurd h_10 (by omega)) (fun h_10 => ?_)
  refine lv_aload_n hx hb dX3_find_13 rfl (lv_at hl 0 rfl) ?_
  refine k_get (own := RX3) (C := RX3) (T := TX3) (N := 5) hx hb hts hinX3 hown hK hW (kc_5 g ad t) rfl 0 (by decide) (hts (.fieldLink RX3 11 "DrillVault$Shelf" "rows" "[LDrillVault$Copy;") (by decide +kernel)) rfl (v := .ref (ad 6 0)) rfl dX3_find_14 ?_
  refine lv_iload_n hx hb dX3_find_17 rfl (lv_at hl 1 rfl) ?_
  refine k_aald hx hb hK hW (kc_6 g ad t) j rfl (by omega) (by decide) dX3_find_18 ?_
  refine k_tov (y := .null) (congrArg va_rf (if_neg (fun q => absurd (hs.symm.trans q) (by decide)))) ?_
  refine lv_goto (tgt := 23) hx hb dX3_find_19 (by decide) ?_
  refine k_tov (y := va_rf none) rfl ?_
  exact k_rq hQ hx hb hr hlk hS hW ⟨rfl, rfl⟩ (Nat.le_of_ble_eq_true rfl) (Nat.le_of_ble_eq_true rfl) dX3_find_23
set_option maxRecDepth 100000 in
set_option maxHeartbeats 4000000 in
theorem c_X3_find_lo (l : Launch) (hlt : l.stackTraces = false) (g : k_g) (ad : k_AD) (t : k_T) (z : Int32) (hz : z < 0) : Met l yX3_find wsX3_find rm_X3_find (va_Pc [.ref (ad 5 0), .int z] (k_I g (k_ct g ad t) ad)) (va_Qq (fun r u => r = none ∧ u = t) (fun u U => k_H g ad u U.heap) (k_A g)) 0 0 (k_A g) := by
  refine k_met (cc := cX3_find) (maxL := 2) (ret := (some (.object "DrillVault$Copy"))) (by decide) rfl (Nat.le_of_ble_eq_true rfl) (fun p e s m args below meth c Q ls hQ hx hb hr hml hts hown hlk hin hK hZ hN hW hS hl => ?_)
  have hown : s.vm.findClass RX3 = some m.cls := hown
  have hW : k_H g ad t s.heap := hW
  have hl : lv_has ls 2 [(0, .ref (ad 5 0)), (1, .int z)] := hl
  refine lv_iload_n hx hb dX3_find_0 rfl (lv_at hl 1 rfl) ?_
  refine lv_if_lt (tgt := 22) hx hb dX3_find_1 (by decide) (fun h_1 => ?_) (fun h_1 => absurd h_1 (fun q => q hz))
  refine lv_null hx hb dX3_find_22 ?_
  refine k_tov (y := va_rf none) rfl ?_
  exact k_rq hQ hx hb hr hlk hS hW ⟨rfl, rfl⟩ (Nat.le_of_ble_eq_true rfl) (Nat.le_of_ble_eq_true rfl) dX3_find_23
set_option maxRecDepth 100000 in
set_option maxHeartbeats 4000000 in
theorem c_X3_find_hi (l : Launch) (hlt : l.stackTraces = false) (g : k_g) (ad : k_AD) (t : k_T) (z : Int32) (hz : nI 60 ≤ z) : Met l yX3_find wsX3_find rm_X3_find (va_Pc [.ref (ad 5 0), .int z] (k_I g (k_ct g ad t) ad)) (va_Qq (fun r u => r = none ∧ u = t) (fun u U => k_H g ad u U.heap) (k_A g)) 0 0 (k_A g) := by
  refine k_met (cc := cX3_find) (maxL := 2) (ret := (some (.object "DrillVault$Copy"))) (by decide) rfl (Nat.le_of_ble_eq_true rfl) (fun p e s m args below meth c Q ls hQ hx hb hr hml hts hown hlk hin hK hZ hN hW hS hl => ?_)
  have hown : s.vm.findClass RX3 = some m.cls := hown
  have hW : k_H g ad t s.heap := hW
  have hl : lv_has ls 2 [(0, .ref (ad 5 0)), (1, .int z)] := hl
  have hinX3 : ∀ w ∈ wsX30, w ∈ wsX3_find := by decide +kernel
  refine lv_iload_n hx hb dX3_find_0 rfl (lv_at hl 1 rfl) ?_
  refine lv_if_lt (tgt := 22) hx hb dX3_find_1 (by decide) (fun h_1 => absurd h_1 (k_ge_nneg hz (by decide))) (fun h_1 => ?_)
  refine lv_iload_n hx hb dX3_find_4 rfl (lv_at hl 1 rfl) ?_
  refine lv_aload_n hx hb dX3_find_5 rfl (lv_at hl 0 rfl) ?_
  refine k_get (own := RX3) (C := RX3) (T := TX3) (N := 5) hx hb hts hinX3 hown hK hW (kc_5 g ad t) rfl 0 (by decide) (hts (.fieldLink RX3 11 "DrillVault$Shelf" "rows" "[LDrillVault$Copy;") (by decide +kernel)) rfl (v := .ref (ad 6 0)) rfl dX3_find_6 ?_
  refine k_alen hx hb hK hW 3 rfl (kc_6 g ad t) (v := nI 60) rfl dX3_find_9 ?_
  refine lv_icmp_ge (tgt := 22) hx hb dX3_find_10 (by decide) (fun h_10 => ?_) (fun h_10 => absurd h_10 (fun q => q hz))
  refine lv_null hx hb dX3_find_22 ?_
  refine k_tov (y := va_rf none) rfl ?_
  exact k_rq hQ hx hb hr hlk hS hW ⟨rfl, rfl⟩ (Nat.le_of_ble_eq_true rfl) (Nat.le_of_ble_eq_true rfl) dX3_find_23
abbrev rm_X3_latest : Room := { frames := 0, cells := 0, slots := 0, locals := 0 }
set_option maxRecDepth 100000 in
set_option maxHeartbeats 4000000 in
theorem c_X3_latest (l : Launch) (hlt : l.stackTraces = false) (g : k_g) (ad : k_AD) (t : k_T)  : Met l yX3_latest wsX3_latest rm_X3_latest (va_Pc [.ref (ad 5 0)] (k_I g (k_ct g ad t) ad)) (va_Qq (fun r u => r = (k_la (s_th t) 60).map (ad 25) ∧ u = t) (fun u U => k_H g ad u U.heap) (k_A g)) 0 0 (k_A g) := by
  refine k_met (cc := cX3_latest) (maxL := 2) (ret := (some (.object "DrillVault$Copy"))) (by decide) rfl (Nat.le_of_ble_eq_true rfl) (fun p e s m args below meth c Q ls hQ hx hb hr hml hts hown hlk hin hK hZ hN hW hS hl => ?_)
  have hown : s.vm.findClass RX3 = some m.cls := hown
  have hW : k_H g ad t s.heap := hW
  have hl : lv_has ls 2 [(0, .ref (ad 5 0))] := hl
  have hinX3 : ∀ w ∈ wsX30, w ∈ wsX3_latest := by decide +kernel
  refine lv_aload_n hx hb dX3_latest_0 rfl (lv_at hl 0 rfl) ?_
  refine k_get (own := RX3) (C := RX3) (T := TX3) (N := 5) hx hb hts hinX3 hown hK hW (kc_5 g ad t) rfl 0 (by decide) (hts (.fieldLink RX3 11 "DrillVault$Shelf" "rows" "[LDrillVault$Copy;") (by decide +kernel)) rfl (v := .ref (ad 6 0)) rfl dX3_latest_1 ?_
  refine k_alen hx hb hK hW 3 rfl (kc_6 g ad t) (v := nI 60) rfl dX3_latest_4 ?_
  refine lv_iconst (v := nI 1) hx hb dX3_latest_5 (by decide) ?_
  refine lv_isub hx hb dX3_latest_6 ?_
  refine k_toi (k_m1 _) ?_
  refine lv_istore_n (lv' := [(1, .int (nI 60 + (-1))), (0, .ref (ad 5 0))]) hx hb dX3_latest_7 rfl hl (by decide) rfl (fun ls hl => ?_)
  have hloop_8 : ∀ (r : Nat) , (r ≤ 60) → (k_la (s_th t) 60 = k_la (s_th t) r) → ∀ (H : Heap) (locs : List Loc), k_H g ad t H → va_S (k_A g) s.heap H locs → ∀ (ls : Array Slot), lv_has ls 2 [(0, .ref (ad 5 0)), (1, .int (nI r + (-1)))] → W p l e rm_X3_latest s m args below meth c H locs 0 0 Q (F0 m 8 ls []) := by
    intro r
    induction r with
    | zero =>
      intro  hr60 hz H locs hW hS ls hl
      refine lv_iload_n hx hb dX3_latest_8 rfl (lv_at hl 1 rfl) ?_
      refine lv_if_lt (tgt := 34) hx hb dX3_latest_9 (by decide) (fun h_9 => ?_) (fun h_9 => absurd k_n0 h_9)
      refine lv_null hx hb dX3_latest_34 ?_
      refine k_tov (y := va_rf none) rfl ?_
      exact k_rq hQ hx hb hr hlk hS hW ⟨by rw [hz]; rfl, rfl⟩ (Nat.le_of_ble_eq_true rfl) (Nat.le_of_ble_eq_true rfl) dX3_latest_35
    | succ r ih =>
      intro  hr60 hz H locs hW hS ls hl
      rw [k_dec] at hl
      refine lv_iload_n hx hb dX3_latest_8 rfl (lv_at hl 1 rfl) ?_
      refine k_if_lt (tgt := 34) hx hb (by omega) dX3_latest_9 (by decide) ?_
      refine lv_aload_n hx hb dX3_latest_12 rfl (lv_at hl 0 rfl) ?_
      refine k_get (own := RX3) (C := RX3) (T := TX3) (N := 5) hx hb hts hinX3 hown hK hW (kc_5 g ad t) rfl 0 (by decide) (hts (.fieldLink RX3 11 "DrillVault$Shelf" "rows" "[LDrillVault$Copy;") (by decide +kernel)) rfl (v := .ref (ad 6 0)) rfl dX3_latest_13 ?_
      refine lv_iload_n hx hb dX3_latest_16 rfl (lv_at hl 1 rfl) ?_
      refine k_aald hx hb hK hW (kc_6 g ad t) r rfl (by omega) (by decide) dX3_latest_17 ?_
      rcases Bool.eq_false_or_eq_true (s_th t r) with hb_18 | hb_18
      · refine k_tov (y := .ref (ad 25 r)) (congrArg va_rf (if_pos hb_18)) ?_
        refine lv_ifnull hx hb dX3_latest_18 ?_
        refine lv_aload_n hx hb dX3_latest_21 rfl (lv_at hl 0 rfl) ?_
        refine k_get (own := RX3) (C := RX3) (T := TX3) (N := 5) hx hb hts hinX3 hown hK hW (kc_5 g ad t) rfl 0 (by decide) (hts (.fieldLink RX3 11 "DrillVault$Shelf" "rows" "[LDrillVault$Copy;") (by decide +kernel)) rfl (v := .ref (ad 6 0)) rfl dX3_latest_22 ?_
        refine lv_iload_n hx hb dX3_latest_25 rfl (lv_at hl 1 rfl) ?_
        refine k_aald hx hb hK hW (kc_6 g ad t) r rfl (by omega) (by decide) dX3_latest_26 ?_
        refine k_tov (y := .ref (ad 25 r)) (congrArg va_rf (if_pos hb_18)) ?_
        refine k_tov (y := va_rf (some (ad 25 r))) rfl ?_
        exact k_rq hQ hx hb hr hlk hS hW ⟨by rw [hz, k_la, if_pos hb_18]; rfl, rfl⟩ (Nat.le_of_ble_eq_true rfl) (Nat.le_of_ble_eq_true rfl) dX3_latest_27
      · refine k_tov (y := .null) (congrArg va_rf (if_neg (fun q => absurd (hb_18.symm.trans q) (by decide)))) ?_
        refine lv_ifnullN (tgt := 28) hx hb dX3_latest_18 (by decide) ?_
        refine lv_iinc (v := nI r + (-1)) (lv' := [(1, .int (nI r + (-1))), (0, .ref (ad 5 0))]) hx hb dX3_latest_28 hl (k := 1) rfl rfl (by decide) rfl (fun ls hl => ?_)
        refine lv_goto (tgt := 8) hx hb dX3_latest_31 (by decide) ?_
        exact ih  (by omega) (by rw [hz, k_la, if_neg (by rw [hb_18]; decide)]) _ _ hW hS _ (lv_sub hl [1, 0] rfl)
  exact hloop_8 60 (Nat.le_refl _) rfl _ _ hW hS _ (lv_sub hl [1, 0] rfl)
abbrev rm_X3_put : Room := { frames := 0, cells := 0, slots := 0, locals := 0 }
set_option maxRecDepth 100000 in
set_option maxHeartbeats 4000000 in
theorem c_X3_put (l : Launch) (hlt : l.stackTraces = false) (g : k_g) (ad : k_AD) (t : k_T) (hm : s_md t < 60) (hk : s_md t < o_n t) : Met l yX3_put wsX3_put rm_X3_put (va_Pc [.ref (ad 5 0), .ref (ad 25 (s_md t))] (k_I g (k_ct g ad t) ad)) (va_Qv (fun u => u = set_s_md (set_s_th t (va_up (s_th t) (s_md t) true)) (s_md t + 1)) (fun u U => k_H g ad u U.heap) (k_A g)) 0 0 (k_A g) := by
  refine k_met (cc := cX3_put) (maxL := 2) (ret := none) (by decide) rfl (Nat.le_of_ble_eq_true rfl) (fun p e s m args below meth c Q ls hQ hx hb hr hml hts hown hlk hin hK hZ hN hW hS hl => ?_)
  have hown : s.vm.findClass RX3 = some m.cls := hown
  have hW : k_H g ad t s.heap := hW
  have hl : lv_has ls 2 [(0, .ref (ad 5 0)), (1, .ref (ad 25 (s_md t)))] := hl
  have hinX3 : ∀ w ∈ wsX30, w ∈ wsX3_put := by decide +kernel
  refine lv_aload_n hx hb dX3_put_0 rfl (lv_at hl 0 rfl) ?_
  refine k_get (own := RX3) (C := RX3) (T := TX3) (N := 5) hx hb hts hinX3 hown hK hW (kc_5 g ad t) rfl 1 (by decide) (hts (.fieldLink RX3 27 "DrillVault$Shelf" "made" "I") (by decide +kernel)) rfl (v := .int (nI (s_md t))) rfl dX3_put_1 ?_
  refine k_if_lt (tgt := 39) hx hb (by omega) dX3_put_4 (by decide) ?_
  refine lv_aload_n hx hb dX3_put_7 rfl (lv_at hl 0 rfl) ?_
  refine k_get (own := RX3) (C := RX3) (T := TX3) (N := 5) hx hb hts hinX3 hown hK hW (kc_5 g ad t) rfl 1 (by decide) (hts (.fieldLink RX3 27 "DrillVault$Shelf" "made" "I") (by decide +kernel)) rfl (v := .int (nI (s_md t))) rfl dX3_put_8 ?_
  refine lv_aload_n hx hb dX3_put_11 rfl (lv_at hl 0 rfl) ?_
  refine k_get (own := RX3) (C := RX3) (T := TX3) (N := 5) hx hb hts hinX3 hown hK hW (kc_5 g ad t) rfl 0 (by decide) (hts (.fieldLink RX3 11 "DrillVault$Shelf" "rows" "[LDrillVault$Copy;") (by decide +kernel)) rfl (v := .ref (ad 6 0)) rfl dX3_put_12 ?_
  refine k_alen hx hb hK hW 3 rfl (kc_6 g ad t) (v := nI 60) rfl dX3_put_15 ?_
  refine k_icmp_ge (tgt := 39) hx hb (a := s_md t) (b := 60) (by omega) (by decide) dX3_put_16 (by decide) (fun h_16 => absurd h_16 (by omega)) (fun h_16 => ?_)
  refine lv_aload_n hx hb dX3_put_19 rfl (lv_at hl 0 rfl) ?_
  refine k_get (own := RX3) (C := RX3) (T := TX3) (N := 5) hx hb hts hinX3 hown hK hW (kc_5 g ad t) rfl 0 (by decide) (hts (.fieldLink RX3 11 "DrillVault$Shelf" "rows" "[LDrillVault$Copy;") (by decide +kernel)) rfl (v := .ref (ad 6 0)) rfl dX3_put_20 ?_
  refine lv_aload_n hx hb dX3_put_23 rfl (lv_at hl 0 rfl) ?_
  refine k_get (own := RX3) (C := RX3) (T := TX3) (N := 5) hx hb hts hinX3 hown hK hW (kc_5 g ad t) rfl 1 (by decide) (hts (.fieldLink RX3 27 "DrillVault$Shelf" "made" "I") (by decide +kernel)) rfl (v := .int (nI (s_md t))) rfl dX3_put_24 ?_
  refine lv_aload_n hx hb dX3_put_27 rfl (lv_at hl 1 rfl) ?_
  refine k_aast hx hb hK hW hS (kc_6 g ad t) (kc_25 g ad t hk) (s_md t) rfl (by omega) (by decide) dX3_put_28 (fun H locs hW hS => ?_)
  have hW : k_H g ad (set_s_th t (va_up (s_th t) (s_md t) true)) H := kt_s_th (t := t) (s_md t) hW
  refine lv_aload_n hx hb dX3_put_29 rfl (lv_at hl 0 rfl) ?_
  refine lv_dup hx hb dX3_put_30 rfl ?_
  refine k_get (own := RX3) (C := RX3) (T := TX3) (N := 5) hx hb hts hinX3 hown hK hW (kc_5 g ad (set_s_th t (va_up (s_th t) (s_md t) true))) rfl 1 (by decide) (hts (.fieldLink RX3 27 "DrillVault$Shelf" "made" "I") (by decide +kernel)) rfl (v := .int (nI (s_md t))) rfl dX3_put_31 ?_
  refine lv_iconst (v := nI 1) hx hb dX3_put_34 (by decide) ?_
  refine k_iadd hx hb dX3_put_35 ?_
  refine k_put (own := RX3) (C := RX3) (T := TX3) (N := 5) hx hb hts hinX3 tyX3 tyX3_ok nmX3 hown hK hW hS (kc_5 g ad (set_s_th t (va_up (s_th t) (s_md t) true))) rfl 1 (by decide) (hts (.fieldLink RX3 27 "DrillVault$Shelf" "made" "I") (by decide +kernel)) rfl rfl (ty := tyX3 1) (v := .int (nI ((s_md t) + 1))) (tyX3_ok 1 (by decide)) rfl rfl (Nat.le_of_ble_eq_true rfl) dX3_put_36 (fun H locs hW hS => ?_)
  have hW : k_H g ad (set_s_md (set_s_th t (va_up (s_th t) (s_md t) true)) ((s_md t) + 1)) H := kt_s_md (t := set_s_th t (va_up (s_th t) (s_md t) true)) ((s_md t) + 1) rfl hW
  exact k_rv hQ hx hb hr hlk hS hW rfl (Nat.le_of_ble_eq_true rfl) (Nat.le_of_ble_eq_true rfl) dX3_put_39
abbrev rm_X3_countThere : Room := { frames := 0, cells := 0, slots := 0, locals := 0 }
set_option maxRecDepth 100000 in
set_option maxHeartbeats 4000000 in
theorem c_X3_countThere (l : Launch) (hlt : l.stackTraces = false) (g : k_g) (ad : k_AD) (t : k_T) (hwf : ∀ j, s_th t j = true → j < o_n t) : Met l yX3_countThere wsX3_countThere rm_X3_countThere (va_Pc [.ref (ad 5 0)] (k_I g (k_ct g ad t) ad)) (va_Qi (fun r u => r = nI (k_cb (s_th t) 60) ∧ u = t) (fun u U => k_H g ad u U.heap) (k_A g)) 0 0 (k_A g) := by
  refine k_met (cc := cX3_countThere) (maxL := 6) (ret := (some .int)) (by decide) rfl (Nat.le_of_ble_eq_true rfl) (fun p e s m args below meth c Q ls hQ hx hb hr hml hts hown hlk hin hK hZ hN hW hS hl => ?_)
  have hown : s.vm.findClass RX3 = some m.cls := hown
  have hW : k_H g ad t s.heap := hW
  have hl : lv_has ls 6 [(0, .ref (ad 5 0))] := hl
  have hinX3 : ∀ w ∈ wsX30, w ∈ wsX3_countThere := by decide +kernel
  refine lv_iconst (v := nI 0) hx hb dX3_countThere_0 (by decide) ?_
  refine lv_istore_n (lv' := [(1, .int (nI 0)), (0, .ref (ad 5 0))]) hx hb dX3_countThere_1 rfl hl (by decide) rfl (fun ls hl => ?_)
  refine lv_aload_n hx hb dX3_countThere_2 rfl (lv_at hl 1 rfl) ?_
  refine k_get (own := RX3) (C := RX3) (T := TX3) (N := 5) hx hb hts hinX3 hown hK hW (kc_5 g ad t) rfl 0 (by decide) (hts (.fieldLink RX3 11 "DrillVault$Shelf" "rows" "[LDrillVault$Copy;") (by decide +kernel)) rfl (v := .ref (ad 6 0)) rfl dX3_countThere_3 ?_
  refine lv_astore_n (lv' := [(2, .ref (ad 6 0)), (1, .int (nI 0)), (0, .ref (ad 5 0))]) hx hb dX3_countThere_6 rfl hl (by decide) rfl (fun ls hl => ?_)
  refine lv_aload_n hx hb dX3_countThere_7 rfl (lv_at hl 0 rfl) ?_
  refine k_alen hx hb hK hW 3 rfl (kc_6 g ad t) (v := nI 60) rfl dX3_countThere_8 ?_
  refine lv_istore_n (lv' := [(3, .int (nI 60)), (2, .ref (ad 6 0)), (1, .int (nI 0)), (0, .ref (ad 5 0))]) hx hb dX3_countThere_9 rfl hl (by decide) rfl (fun ls hl => ?_)
  refine lv_iconst (v := nI 0) hx hb dX3_countThere_10 (by decide) ?_
  refine lv_istore (lv' := [(4, .int (nI 0)), (3, .int (nI 60)), (2, .ref (ad 6 0)), (1, .int (nI 0)), (0, .ref (ad 5 0))]) hx hb dX3_countThere_11 hl (by decide) rfl (fun ls hl => ?_)
  have hloop_13 : ∀ (n : Nat) (i : Nat) (cn : Nat), (60 < i + n) → (i ≤ 60) → (cn = k_cb (s_th t) i) → ∀ (H : Heap) (locs : List Loc), k_H g ad t H → va_S (k_A g) s.heap H locs → ∀ (ls : Array Slot), lv_has ls 6 [(0, .ref (ad 5 0)), (2, .ref (ad 6 0)), (3, .int (nI 60)), (4, .int (nI i)), (1, .int (nI cn))] → W p l e rm_X3_countThere s m args below meth c H locs 0 0 Q (F0 m 13 ls []) := by
    intro n
    induction n with
    | zero =>
      intro i cn hfu hi hcn
      exact absurd hfu (by omega)
    | succ n ih =>
      intro i cn hfu hi hcn H locs hW hS ls hl
      refine lv_iload hx hb dX3_countThere_13 (lv_at hl 3 rfl) ?_
      refine lv_iload_n hx hb dX3_countThere_15 rfl (lv_at hl 2 rfl) ?_
      refine k_icmp_ge (tgt := 39) hx hb (a := i) (b := 60) (by omega) (by decide) dX3_countThere_16 (by decide) (fun h_16 => ?_) (fun h_16 => ?_)
      · refine lv_iload_n hx hb dX3_countThere_39 rfl (lv_at hl 4 rfl) ?_
        exact k_ri hQ hx hb hr hlk hS hW ⟨by rw [hcn, show i = 60 by omega], rfl⟩ (Nat.le_of_ble_eq_true rfl) (Nat.le_of_ble_eq_true rfl) dX3_countThere_40
      · refine lv_aload_n hx hb dX3_countThere_19 rfl (lv_at hl 1 rfl) ?_
        refine lv_iload hx hb dX3_countThere_20 (lv_at hl 3 rfl) ?_
        refine k_aald hx hb hK hW (kc_6 g ad t) i rfl (by omega) (by decide) dX3_countThere_22 ?_
        rcases Bool.eq_false_or_eq_true (s_th t i) with hb_23 | hb_23
        · refine k_tov (y := .ref (ad 25 i)) (congrArg va_rf (if_pos hb_23)) ?_
          refine lv_astore (lv' := [(5, .ref (ad 25 i)), (0, .ref (ad 5 0)), (2, .ref (ad 6 0)), (3, .int (nI 60)), (4, .int (nI i)), (1, .int (nI cn))]) hx hb dX3_countThere_23 hl (by decide) rfl (fun ls hl => ?_)
          refine lv_aload hx hb dX3_countThere_25 (lv_at hl 0 rfl) ?_
          refine lv_ifnull hx hb dX3_countThere_27 ?_
          refine lv_iinc (v := nI (cn + 1)) (lv' := [(1, .int (nI (cn + 1))), (5, .ref (ad 25 i)), (0, .ref (ad 5 0)), (2, .ref (ad 6 0)), (3, .int (nI 60)), (4, .int (nI i))]) hx hb dX3_countThere_30 hl (k := 5) rfl (nI_add _ _) (by decide) rfl (fun ls hl => ?_)
          refine lv_iinc (v := nI (i + 1)) (lv' := [(4, .int (nI (i + 1))), (1, .int (nI (cn + 1))), (5, .ref (ad 25 i)), (0, .ref (ad 5 0)), (2, .ref (ad 6 0)), (3, .int (nI 60))]) hx hb dX3_countThere_33 hl (k := 5) rfl (nI_add _ _) (by decide) rfl (fun ls hl => ?_)
          refine lv_goto (tgt := 13) hx hb dX3_countThere_36 (by decide) ?_
          exact ih (i + 1) (cn + 1) (by omega) (by omega) (by rw [k_cb, if_pos hb_23, hcn]) _ _ hW hS _ (lv_sub hl [3, 4, 5, 0, 1] rfl)
        · refine k_tov (y := .null) (congrArg va_rf (if_neg (fun q => absurd (hb_23.symm.trans q) (by decide)))) ?_
          refine lv_astoreN (lv' := [(5, .null), (0, .ref (ad 5 0)), (2, .ref (ad 6 0)), (3, .int (nI 60)), (4, .int (nI i)), (1, .int (nI cn))]) hx hb dX3_countThere_23 hl (by decide) rfl (fun ls hl => ?_)
          refine lv_aloadN hx hb dX3_countThere_25 (lv_at hl 0 rfl) ?_
          refine lv_ifnullN (tgt := 33) hx hb dX3_countThere_27 (by decide) ?_
          refine lv_iinc (v := nI (i + 1)) (lv' := [(4, .int (nI (i + 1))), (5, .null), (0, .ref (ad 5 0)), (2, .ref (ad 6 0)), (3, .int (nI 60)), (1, .int (nI cn))]) hx hb dX3_countThere_33 hl (k := 4) rfl (nI_add _ _) (by decide) rfl (fun ls hl => ?_)
          refine lv_goto (tgt := 13) hx hb dX3_countThere_36 (by decide) ?_
          exact ih (i + 1) cn (by omega) (by omega) (by rw [k_cb, if_neg (by rw [hb_23]; decide), hcn]) _ _ hW hS _ (lv_sub hl [2, 3, 4, 0, 5] rfl)
  exact hloop_13 61 0 0 (by omega) (by omega) rfl _ _ hW hS _ (lv_sub hl [4, 2, 1, 0, 3] rfl)
abbrev rm_X3_spaceTaken : Room := { frames := 1, cells := 0, slots := 0, locals := 20 }
set_option maxRecDepth 100000 in
set_option maxHeartbeats 4000000 in
theorem c_X3_spaceTaken (l : Launch) (hlt : l.stackTraces = false) (g : k_g) (ad : k_AD) (t : k_T) (hwf : ∀ j, s_th t j = true → j < o_n t) : Met l yX3_spaceTaken wsX3_spaceTaken rm_X3_spaceTaken (va_Pc [.ref (ad 5 0)] (k_I g (k_ct g ad t) ad)) (va_Qi (fun r u => r = nI (k_sm (s_th t) (fun k => (o_kc t) k + 1) 60) ∧ u = t) (fun u U => k_H g ad u U.heap) (k_A g)) 0 0 (k_A g) := by
  refine k_met (cc := cX3_spaceTaken) (maxL := 6) (ret := (some .int)) (by decide) rfl (Nat.le_of_ble_eq_true rfl) (fun p e s m args below meth c Q ls hQ hx hb hr hml hts hown hlk hin hK hZ hN hW hS hl => ?_)
  have hown : s.vm.findClass RX3 = some m.cls := hown
  have hW : k_H g ad t s.heap := hW
  have hl : lv_has ls 6 [(0, .ref (ad 5 0))] := hl
  have hinX3 : ∀ w ∈ wsX30, w ∈ wsX3_spaceTaken := by decide +kernel
  refine lv_iconst (v := nI 0) hx hb dX3_spaceTaken_0 (by decide) ?_
  refine lv_istore_n (lv' := [(1, .int (nI 0)), (0, .ref (ad 5 0))]) hx hb dX3_spaceTaken_1 rfl hl (by decide) rfl (fun ls hl => ?_)
  refine lv_aload_n hx hb dX3_spaceTaken_2 rfl (lv_at hl 1 rfl) ?_
  refine k_get (own := RX3) (C := RX3) (T := TX3) (N := 5) hx hb hts hinX3 hown hK hW (kc_5 g ad t) rfl 0 (by decide) (hts (.fieldLink RX3 11 "DrillVault$Shelf" "rows" "[LDrillVault$Copy;") (by decide +kernel)) rfl (v := .ref (ad 6 0)) rfl dX3_spaceTaken_3 ?_
  refine lv_astore_n (lv' := [(2, .ref (ad 6 0)), (1, .int (nI 0)), (0, .ref (ad 5 0))]) hx hb dX3_spaceTaken_6 rfl hl (by decide) rfl (fun ls hl => ?_)
  refine lv_aload_n hx hb dX3_spaceTaken_7 rfl (lv_at hl 0 rfl) ?_
  refine k_alen hx hb hK hW 3 rfl (kc_6 g ad t) (v := nI 60) rfl dX3_spaceTaken_8 ?_
  refine lv_istore_n (lv' := [(3, .int (nI 60)), (2, .ref (ad 6 0)), (1, .int (nI 0)), (0, .ref (ad 5 0))]) hx hb dX3_spaceTaken_9 rfl hl (by decide) rfl (fun ls hl => ?_)
  refine lv_iconst (v := nI 0) hx hb dX3_spaceTaken_10 (by decide) ?_
  refine lv_istore (lv' := [(4, .int (nI 0)), (3, .int (nI 60)), (2, .ref (ad 6 0)), (1, .int (nI 0)), (0, .ref (ad 5 0))]) hx hb dX3_spaceTaken_11 hl (by decide) rfl (fun ls hl => ?_)
  have hloop_13 : ∀ (n : Nat) (i : Nat) (cn : Nat), (60 < i + n) → (i ≤ 60) → (cn = k_sm (s_th t) (fun k => o_kc t k + 1) i) → ∀ (H : Heap) (locs : List Loc), k_H g ad t H → va_S (k_A g) s.heap H locs → ∀ (ls : Array Slot), lv_has ls 6 [(0, .ref (ad 5 0)), (2, .ref (ad 6 0)), (3, .int (nI 60)), (4, .int (nI i)), (1, .int (nI cn))] → W p l e rm_X3_spaceTaken s m args below meth c H locs 0 0 Q (F0 m 13 ls []) := by
    intro n
    induction n with
    | zero =>
      intro i cn hfu hi hcn
      exact absurd hfu (by omega)
    | succ n ih =>
      intro i cn hfu hi hcn H locs hW hS ls hl
      refine lv_iload hx hb dX3_spaceTaken_13 (lv_at hl 3 rfl) ?_
      refine lv_iload_n hx hb dX3_spaceTaken_15 rfl (lv_at hl 2 rfl) ?_
      refine k_icmp_ge (tgt := 44) hx hb (a := i) (b := 60) (by omega) (by decide) dX3_spaceTaken_16 (by decide) (fun h_16 => ?_) (fun h_16 => ?_)
      · refine lv_iload_n hx hb dX3_spaceTaken_44 rfl (lv_at hl 4 rfl) ?_
        exact k_ri hQ hx hb hr hlk hS hW ⟨by rw [hcn, show i = 60 by omega], rfl⟩ (Nat.le_of_ble_eq_true rfl) (Nat.le_of_ble_eq_true rfl) dX3_spaceTaken_45
      · refine lv_aload_n hx hb dX3_spaceTaken_19 rfl (lv_at hl 1 rfl) ?_
        refine lv_iload hx hb dX3_spaceTaken_20 (lv_at hl 3 rfl) ?_
        refine k_aald hx hb hK hW (kc_6 g ad t) i rfl (by omega) (by decide) dX3_spaceTaken_22 ?_
        rcases Bool.eq_false_or_eq_true (s_th t i) with hb_23 | hb_23
        · refine k_tov (y := .ref (ad 25 i)) (congrArg va_rf (if_pos hb_23)) ?_
          refine lv_astore (lv' := [(5, .ref (ad 25 i)), (0, .ref (ad 5 0)), (2, .ref (ad 6 0)), (3, .int (nI 60)), (4, .int (nI i)), (1, .int (nI cn))]) hx hb dX3_spaceTaken_23 hl (by decide) rfl (fun ls hl => ?_)
          refine lv_aload hx hb dX3_spaceTaken_25 (lv_at hl 0 rfl) ?_
          refine lv_ifnull hx hb dX3_spaceTaken_27 ?_
          refine lv_iload_n hx hb dX3_spaceTaken_30 rfl (lv_at hl 5 rfl) ?_
          refine lv_aload hx hb dX3_spaceTaken_31 (lv_at hl 0 rfl) ?_
          refine k_ci (va_runV (As := []) (rest := [.int (nI cn)]) ⟨hx, hb, hml, hown, hts⟩ (c_X0_spaceTaken l hlt g ad t i (hwf _ hb_23)) (cwV 0 hts gX3_spaceTaken_X0_spaceTaken rfl rfl rfl (by decide +kernel) ⟨(Nat.le_of_ble_eq_true rfl), (Nat.le_of_ble_eq_true rfl)⟩) ⟨k_blind, k_recv hK hW (kc_25 g ad t (hwf _ hb_23)) rfl, fun U hU hw => ⟨rfl, k_I.of hK hZ hN hS hW hU hw⟩⟩ rfl rfl hl.1 rfl (lv_room (Nat.le_of_ble_eq_true rfl)) dX3_spaceTaken_33 ⟨(Nat.le_of_ble_eq_true rfl), (Nat.le_of_ble_eq_true rfl)⟩) hS (fun r u H locs hpo hW hS => ?_)
          obtain ⟨hr9, hu9⟩ := hpo; replace hu9 := hu9.symm; subst hu9; replace hr9 := hr9.symm; subst hr9
          refine k_iadd hx hb dX3_spaceTaken_36 ?_
          refine lv_istore_n (lv' := [(1, .int (nI (cn + (o_kc t i + 1)))), (5, .ref (ad 25 i)), (0, .ref (ad 5 0)), (2, .ref (ad 6 0)), (3, .int (nI 60)), (4, .int (nI i))]) hx hb dX3_spaceTaken_37 rfl hl (by decide) rfl (fun ls hl => ?_)
          refine lv_iinc (v := nI (i + 1)) (lv' := [(4, .int (nI (i + 1))), (1, .int (nI (cn + (o_kc t i + 1)))), (5, .ref (ad 25 i)), (0, .ref (ad 5 0)), (2, .ref (ad 6 0)), (3, .int (nI 60))]) hx hb dX3_spaceTaken_38 hl (k := 5) rfl (nI_add _ _) (by decide) rfl (fun ls hl => ?_)
          refine lv_goto (tgt := 13) hx hb dX3_spaceTaken_41 (by decide) ?_
          exact ih (i + 1) (cn + (o_kc t i + 1)) (by omega) (by omega) (by rw [k_sm, if_pos hb_23, hcn]) _ _ hW hS _ (lv_sub hl [3, 4, 5, 0, 1] rfl)
        · refine k_tov (y := .null) (congrArg va_rf (if_neg (fun q => absurd (hb_23.symm.trans q) (by decide)))) ?_
          refine lv_astoreN (lv' := [(5, .null), (0, .ref (ad 5 0)), (2, .ref (ad 6 0)), (3, .int (nI 60)), (4, .int (nI i)), (1, .int (nI cn))]) hx hb dX3_spaceTaken_23 hl (by decide) rfl (fun ls hl => ?_)
          refine lv_aloadN hx hb dX3_spaceTaken_25 (lv_at hl 0 rfl) ?_
          refine lv_ifnullN (tgt := 38) hx hb dX3_spaceTaken_27 (by decide) ?_
          refine lv_iinc (v := nI (i + 1)) (lv' := [(4, .int (nI (i + 1))), (5, .null), (0, .ref (ad 5 0)), (2, .ref (ad 6 0)), (3, .int (nI 60)), (1, .int (nI cn))]) hx hb dX3_spaceTaken_38 hl (k := 4) rfl (nI_add _ _) (by decide) rfl (fun ls hl => ?_)
          refine lv_goto (tgt := 13) hx hb dX3_spaceTaken_41 (by decide) ?_
          exact ih (i + 1) cn (by omega) (by omega) (by rw [k_sm, if_neg (by rw [hb_23]; decide), hcn]) _ _ hW hS _ (lv_sub hl [2, 3, 4, 0, 5] rfl)
  exact hloop_13 61 0 0 (by omega) (by omega) rfl _ _ hW hS _ (lv_sub hl [4, 2, 1, 0, 3] rfl)
