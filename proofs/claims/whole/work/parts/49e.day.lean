abbrev rm_X5_day : Room := { frames := 0, cells := 0, slots := 0, locals := 0 }
set_option maxRecDepth 100000 in
set_option maxHeartbeats 4000000 in
theorem c_X5_day (l : Launch) (hlt : l.stackTraces = false) (g : k_g) (ad : k_AD) (t : k_T)  : Met l yX5_day wsX5_day rm_X5_day (va_Pc [.ref (ad 9 0)] (k_I g (k_ct g ad t) ad)) (va_Qi (fun r u => r = nI (m_d t) ∧ u = set_m_l t 0) (fun u U => k_H g ad u U.heap) (k_A g)) 0 0 (k_A g) := by
  refine k_met (cc := cX5_day) (maxL := 1) (ret := (some .int)) (by decide) rfl (Nat.le_of_ble_eq_true rfl) (fun p e s m args below meth c Q ls hQ hx hb hr hml hts hown hlk hin hK hZ hN hW hS hl => ?_)
  have hown : s.vm.findClass RX5 = some m.cls := hown
  have hW : k_H g ad t s.heap := hW
  have hl : lv_has ls 1 [(0, .ref (ad 9 0))] := hl
  have hinX5 : ∀ w ∈ wsX50, w ∈ wsX5_day := by decide +kernel
  refine lv_aload_n hx hb dX5_day_0 rfl (lv_at hl 0 rfl) ?_
  refine lv_iconst (v := nI 0) hx hb dX5_day_1 (by decide) ?_
  refine k_put (own := RX5) (C := RX5) (T := TX5) (N := 21) hx hb hts hinX5 tyX5 tyX5_ok nmX5 hown hK hW hS (kc_9 g ad t) rfl 20 (by decide) (hts (.fieldLink RX5 63 "DrillVaultModel" "last" "I") (by decide +kernel)) rfl rfl (ty := tyX5 20) (v := .int (nI 0)) (tyX5_ok 20 (by decide)) rfl rfl (Nat.le_of_ble_eq_true rfl) dX5_day_2 (fun H locs hW hS => ?_)
  have hW : k_H g ad (set_m_l t 0) H := kt_m_l (t := t) 0 rfl hW
  refine lv_aload_n hx hb dX5_day_5 rfl (lv_at hl 0 rfl) ?_
  refine k_get (own := RX5) (C := RX5) (T := TX5) (N := 21) hx hb hts hinX5 hown hK hW (kc_9 g ad (set_m_l t 0)) rfl 3 (by decide) (hts (.fieldLink RX5 84 "DrillVaultModel" "day" "I") (by decide +kernel)) rfl (v := .int (nI (m_d t))) rfl dX5_day_6 ?_
  exact k_ri hQ hx hb hr hlk hS hW ⟨rfl, rfl⟩ (Nat.le_of_ble_eq_true rfl) (Nat.le_of_ble_eq_true rfl) dX5_day_9
