abbrev rm_X5_in : Room := { frames := 0, cells := 0, slots := 0, locals := 0 }
set_option maxRecDepth 100000 in
set_option maxHeartbeats 4000000 in
theorem c_X5_in (l : Launch) (hlt : l.stackTraces = false) (g : k_g) (ad : k_AD) (t : k_T) (z : Int32) (lo : Int32) (hi : Int32) : Met l yX5_in wsX5_in rm_X5_in (va_Pc [.int z, .int lo, .int hi] (k_I g (k_ct g ad t) ad)) (va_Qi (fun r u => r = kb (k_in z lo hi) ∧ u = t) (fun u U => k_H g ad u U.heap) (k_A g)) 0 0 (k_A g) := by
  refine k_met (cc := cX5_in) (maxL := 3) (ret := (some .boolean)) (by decide) rfl (Nat.le_of_ble_eq_true rfl) (fun p e s m args below meth c Q ls hQ hx hb hr hml hts hown hlk hin hK hZ hN hW hS hl => ?_)
  have hown : s.vm.findClass RX5 = some m.cls := hown
  have hW : k_H g ad t s.heap := hW
  have hl : lv_has ls 3 [(0, .int z), (1, .int lo), (2, .int hi)] := hl
  refine lv_iload_n hx hb dX5_in_0 rfl (lv_at hl 0 rfl) ?_
  refine lv_iload_n hx hb dX5_in_1 rfl (lv_at hl 1 rfl) ?_
  refine lv_icmp_lt (tgt := 14) hx hb dX5_in_2 (by decide) (fun h_2 => ?_) (fun h_2 => ?_)
  · refine lv_iconst (v := nI 0) hx hb dX5_in_14 (by decide) ?_
    exact k_rz hQ hx hb hr rfl hlk hS hW ⟨by rw [k_in_f (Or.inl h_2)]; rfl, rfl⟩ (Nat.le_of_ble_eq_true rfl) (Nat.le_of_ble_eq_true rfl) dX5_in_15
  · refine lv_iload_n hx hb dX5_in_5 rfl (lv_at hl 0 rfl) ?_
    refine lv_iload_n hx hb dX5_in_6 rfl (lv_at hl 2 rfl) ?_
    refine lv_icmp_gt (tgt := 14) hx hb dX5_in_7 (by decide) (fun h_7 => ?_) (fun h_7 => ?_)
    · refine lv_iconst (v := nI 0) hx hb dX5_in_14 (by decide) ?_
      exact k_rz hQ hx hb hr rfl hlk hS hW ⟨by rw [k_in_f (Or.inr h_7)]; rfl, rfl⟩ (Nat.le_of_ble_eq_true rfl) (Nat.le_of_ble_eq_true rfl) dX5_in_15
    · refine lv_iconst (v := nI 1) hx hb dX5_in_10 (by decide) ?_
      refine lv_goto (tgt := 15) hx hb dX5_in_11 (by decide) ?_
      exact k_rz hQ hx hb hr rfl hlk hS hW ⟨by rw [k_in_t h_2 h_7]; rfl, rfl⟩ (Nat.le_of_ble_eq_true rfl) (Nat.le_of_ble_eq_true rfl) dX5_in_15
set_option maxRecDepth 100000 in
set_option maxHeartbeats 4000000 in
theorem c_X5_in_t (l : Launch) (hlt : l.stackTraces = false) (g : k_g) (ad : k_AD) (t : k_T) (z : Int32) (lo : Int32) (hi : Int32) (hc : k_in z lo hi = true) : Met l yX5_in wsX5_in rm_X5_in (va_Pc [.int z, .int lo, .int hi] (k_I g (k_ct g ad t) ad)) (va_Qi (fun r u => r = nI 1 ∧ u = t) (fun u U => k_H g ad u U.heap) (k_A g)) 0 0 (k_A g) := by
  have h9 := c_X5_in l hlt g ad t z lo hi
  rw [hc] at h9
  exact h9
set_option maxRecDepth 100000 in
set_option maxHeartbeats 4000000 in
theorem c_X5_in_f (l : Launch) (hlt : l.stackTraces = false) (g : k_g) (ad : k_AD) (t : k_T) (z : Int32) (lo : Int32) (hi : Int32) (hc : k_in z lo hi = false) : Met l yX5_in wsX5_in rm_X5_in (va_Pc [.int z, .int lo, .int hi] (k_I g (k_ct g ad t) ad)) (va_Qi (fun r u => r = nI 0 ∧ u = t) (fun u U => k_H g ad u U.heap) (k_A g)) 0 0 (k_A g) := by
  have h9 := c_X5_in l hlt g ad t z lo hi
  rw [hc] at h9
  exact h9
abbrev rm_X5_goes : Room := { frames := 0, cells := 0, slots := 0, locals := 0 }
set_option maxRecDepth 100000 in
set_option maxHeartbeats 4000000 in
theorem c_X5_goes_0 (l : Launch) (hlt : l.stackTraces = false) (g : k_g) (ad : k_AD) (t : k_T)  : Met l yX5_goes wsX5_goes rm_X5_goes (va_Pc [.ref (ad 9 0), .int (nI 1), .int (nI 1), .int (nI 1)] (k_I g (k_ct g ad t) ad)) (va_Qi (fun r u => r = nI 1 ∧ u = set_m_l t 0) (fun u U => k_H g ad u U.heap) (k_A g)) 0 0 (k_A g) := by
  refine k_met (cc := cX5_goes) (maxL := 4) (ret := (some .boolean)) (by decide) rfl (Nat.le_of_ble_eq_true rfl) (fun p e s m args below meth c Q ls hQ hx hb hr hml hts hown hlk hin hK hZ hN hW hS hl => ?_)
  have hown : s.vm.findClass RX5 = some m.cls := hown
  have hW : k_H g ad t s.heap := hW
  have hl : lv_has ls 4 [(0, .ref (ad 9 0)), (1, .int (nI 1)), (2, .int (nI 1)), (3, .int (nI 1))] := hl
  have hinX5 : ∀ w ∈ wsX50, w ∈ wsX5_goes := by decide +kernel
  refine lv_aload_n hx hb dX5_goes_0 rfl (lv_at hl 0 rfl) ?_
  refine lv_iload_n hx hb dX5_goes_1 rfl (lv_at hl 1 rfl) ?_
  refine lv_if_ne (tgt := 9) hx hb dX5_goes_2 (by decide) (fun h_2 => ?_) (fun h_2 => absurd h_2 (by decide))
  refine lv_iload_n hx hb dX5_goes_9 rfl (lv_at hl 2 rfl) ?_
  refine lv_if_ne (tgt := 17) hx hb dX5_goes_10 (by decide) (fun h_10 => ?_) (fun h_10 => absurd h_10 (by decide))
  refine lv_iload_n hx hb dX5_goes_17 rfl (lv_at hl 3 rfl) ?_
  refine lv_if_eq (tgt := 25) hx hb dX5_goes_18 (by decide) (fun h_18 => absurd h_18 (by decide)) (fun h_18 => ?_)
  refine lv_iconst (v := nI 0) hx hb dX5_goes_21 (by decide) ?_
  refine lv_goto (tgt := 26) hx hb dX5_goes_22 (by decide) ?_
  refine k_put (own := RX5) (C := RX5) (T := TX5) (N := 21) hx hb hts hinX5 tyX5 tyX5_ok nmX5 hown hK hW hS (kc_9 g ad t) rfl 20 (by decide) (hts (.fieldLink RX5 63 "DrillVaultModel" "last" "I") (by decide +kernel)) rfl rfl (ty := tyX5 20) (v := .int (nI 0)) (tyX5_ok 20 (by decide)) rfl rfl (Nat.le_of_ble_eq_true rfl) dX5_goes_26 (fun H locs hW hS => ?_)
  have hW : k_H g ad (set_m_l t 0) H := kt_m_l (t := t) 0 rfl hW
  refine lv_aload_n hx hb dX5_goes_29 rfl (lv_at hl 0 rfl) ?_
  refine k_get (own := RX5) (C := RX5) (T := TX5) (N := 21) hx hb hts hinX5 hown hK hW (kc_9 g ad (set_m_l t 0)) rfl 20 (by decide) (hts (.fieldLink RX5 63 "DrillVaultModel" "last" "I") (by decide +kernel)) rfl (v := .int (nI 0)) rfl dX5_goes_30 ?_
  refine lv_if_ne (tgt := 40) hx hb dX5_goes_33 (by decide) (fun h_33 => absurd h_33 (by decide)) (fun h_33 => ?_)
  refine lv_iconst (v := nI 1) hx hb dX5_goes_36 (by decide) ?_
  refine lv_goto (tgt := 41) hx hb dX5_goes_37 (by decide) ?_
  exact k_rz hQ hx hb hr rfl hlk hS hW ⟨rfl, rfl⟩ (Nat.le_of_ble_eq_true rfl) (Nat.le_of_ble_eq_true rfl) dX5_goes_41
set_option maxRecDepth 100000 in
set_option maxHeartbeats 4000000 in
theorem c_X5_goes_1 (l : Launch) (hlt : l.stackTraces = false) (g : k_g) (ad : k_AD) (t : k_T) (y1 : Int32) (y2 : Int32) : Met l yX5_goes wsX5_goes rm_X5_goes (va_Pc [.ref (ad 9 0), .int (nI 0), .int y1, .int y2] (k_I g (k_ct g ad t) ad)) (va_Qi (fun r u => r = nI 0 ∧ u = set_m_l t 1) (fun u U => k_H g ad u U.heap) (k_A g)) 0 0 (k_A g) := by
  refine k_met (cc := cX5_goes) (maxL := 4) (ret := (some .boolean)) (by decide) rfl (Nat.le_of_ble_eq_true rfl) (fun p e s m args below meth c Q ls hQ hx hb hr hml hts hown hlk hin hK hZ hN hW hS hl => ?_)
  have hown : s.vm.findClass RX5 = some m.cls := hown
  have hW : k_H g ad t s.heap := hW
  have hl : lv_has ls 4 [(0, .ref (ad 9 0)), (1, .int (nI 0)), (2, .int y1), (3, .int y2)] := hl
  have hinX5 : ∀ w ∈ wsX50, w ∈ wsX5_goes := by decide +kernel
  refine lv_aload_n hx hb dX5_goes_0 rfl (lv_at hl 0 rfl) ?_
  refine lv_iload_n hx hb dX5_goes_1 rfl (lv_at hl 1 rfl) ?_
  refine lv_if_ne (tgt := 9) hx hb dX5_goes_2 (by decide) (fun h_2 => absurd h_2 (by decide)) (fun h_2 => ?_)
  refine lv_iconst (v := nI 1) hx hb dX5_goes_5 (by decide) ?_
  refine lv_goto (tgt := 26) hx hb dX5_goes_6 (by decide) ?_
  refine k_put (own := RX5) (C := RX5) (T := TX5) (N := 21) hx hb hts hinX5 tyX5 tyX5_ok nmX5 hown hK hW hS (kc_9 g ad t) rfl 20 (by decide) (hts (.fieldLink RX5 63 "DrillVaultModel" "last" "I") (by decide +kernel)) rfl rfl (ty := tyX5 20) (v := .int (nI 1)) (tyX5_ok 20 (by decide)) rfl rfl (Nat.le_of_ble_eq_true rfl) dX5_goes_26 (fun H locs hW hS => ?_)
  have hW : k_H g ad (set_m_l t 1) H := kt_m_l (t := t) 1 rfl hW
  refine lv_aload_n hx hb dX5_goes_29 rfl (lv_at hl 0 rfl) ?_
  refine k_get (own := RX5) (C := RX5) (T := TX5) (N := 21) hx hb hts hinX5 hown hK hW (kc_9 g ad (set_m_l t 1)) rfl 20 (by decide) (hts (.fieldLink RX5 63 "DrillVaultModel" "last" "I") (by decide +kernel)) rfl (v := .int (nI 1)) rfl dX5_goes_30 ?_
  refine lv_if_ne (tgt := 40) hx hb dX5_goes_33 (by decide) (fun h_33 => ?_) (fun h_33 => absurd h_33 (by decide))
  refine lv_iconst (v := nI 0) hx hb dX5_goes_40 (by decide) ?_
  exact k_rz hQ hx hb hr rfl hlk hS hW ⟨rfl, rfl⟩ (Nat.le_of_ble_eq_true rfl) (Nat.le_of_ble_eq_true rfl) dX5_goes_41
set_option maxRecDepth 100000 in
set_option maxHeartbeats 4000000 in
theorem c_X5_goes_2 (l : Launch) (hlt : l.stackTraces = false) (g : k_g) (ad : k_AD) (t : k_T) (y2 : Int32) : Met l yX5_goes wsX5_goes rm_X5_goes (va_Pc [.ref (ad 9 0), .int (nI 1), .int (nI 0), .int y2] (k_I g (k_ct g ad t) ad)) (va_Qi (fun r u => r = nI 0 ∧ u = set_m_l t 2) (fun u U => k_H g ad u U.heap) (k_A g)) 0 0 (k_A g) := by
  refine k_met (cc := cX5_goes) (maxL := 4) (ret := (some .boolean)) (by decide) rfl (Nat.le_of_ble_eq_true rfl) (fun p e s m args below meth c Q ls hQ hx hb hr hml hts hown hlk hin hK hZ hN hW hS hl => ?_)
  have hown : s.vm.findClass RX5 = some m.cls := hown
  have hW : k_H g ad t s.heap := hW
  have hl : lv_has ls 4 [(0, .ref (ad 9 0)), (1, .int (nI 1)), (2, .int (nI 0)), (3, .int y2)] := hl
  have hinX5 : ∀ w ∈ wsX50, w ∈ wsX5_goes := by decide +kernel
  refine lv_aload_n hx hb dX5_goes_0 rfl (lv_at hl 0 rfl) ?_
  refine lv_iload_n hx hb dX5_goes_1 rfl (lv_at hl 1 rfl) ?_
  refine lv_if_ne (tgt := 9) hx hb dX5_goes_2 (by decide) (fun h_2 => ?_) (fun h_2 => absurd h_2 (by decide))
  refine lv_iload_n hx hb dX5_goes_9 rfl (lv_at hl 2 rfl) ?_
  refine lv_if_ne (tgt := 17) hx hb dX5_goes_10 (by decide) (fun h_10 => absurd h_10 (by decide)) (fun h_10 => ?_)
  refine lv_iconst (v := nI 2) hx hb dX5_goes_13 (by decide) ?_
  refine lv_goto (tgt := 26) hx hb dX5_goes_14 (by decide) ?_
  refine k_put (own := RX5) (C := RX5) (T := TX5) (N := 21) hx hb hts hinX5 tyX5 tyX5_ok nmX5 hown hK hW hS (kc_9 g ad t) rfl 20 (by decide) (hts (.fieldLink RX5 63 "DrillVaultModel" "last" "I") (by decide +kernel)) rfl rfl (ty := tyX5 20) (v := .int (nI 2)) (tyX5_ok 20 (by decide)) rfl rfl (Nat.le_of_ble_eq_true rfl) dX5_goes_26 (fun H locs hW hS => ?_)
  have hW : k_H g ad (set_m_l t 2) H := kt_m_l (t := t) 2 rfl hW
  refine lv_aload_n hx hb dX5_goes_29 rfl (lv_at hl 0 rfl) ?_
  refine k_get (own := RX5) (C := RX5) (T := TX5) (N := 21) hx hb hts hinX5 hown hK hW (kc_9 g ad (set_m_l t 2)) rfl 20 (by decide) (hts (.fieldLink RX5 63 "DrillVaultModel" "last" "I") (by decide +kernel)) rfl (v := .int (nI 2)) rfl dX5_goes_30 ?_
  refine lv_if_ne (tgt := 40) hx hb dX5_goes_33 (by decide) (fun h_33 => ?_) (fun h_33 => absurd h_33 (by decide))
  refine lv_iconst (v := nI 0) hx hb dX5_goes_40 (by decide) ?_
  exact k_rz hQ hx hb hr rfl hlk hS hW ⟨rfl, rfl⟩ (Nat.le_of_ble_eq_true rfl) (Nat.le_of_ble_eq_true rfl) dX5_goes_41
set_option maxRecDepth 100000 in
set_option maxHeartbeats 4000000 in
theorem c_X5_goes_3 (l : Launch) (hlt : l.stackTraces = false) (g : k_g) (ad : k_AD) (t : k_T)  : Met l yX5_goes wsX5_goes rm_X5_goes (va_Pc [.ref (ad 9 0), .int (nI 1), .int (nI 1), .int (nI 0)] (k_I g (k_ct g ad t) ad)) (va_Qi (fun r u => r = nI 0 ∧ u = set_m_l t 3) (fun u U => k_H g ad u U.heap) (k_A g)) 0 0 (k_A g) := by
  refine k_met (cc := cX5_goes) (maxL := 4) (ret := (some .boolean)) (by decide) rfl (Nat.le_of_ble_eq_true rfl) (fun p e s m args below meth c Q ls hQ hx hb hr hml hts hown hlk hin hK hZ hN hW hS hl => ?_)
  have hown : s.vm.findClass RX5 = some m.cls := hown
  have hW : k_H g ad t s.heap := hW
  have hl : lv_has ls 4 [(0, .ref (ad 9 0)), (1, .int (nI 1)), (2, .int (nI 1)), (3, .int (nI 0))] := hl
  have hinX5 : ∀ w ∈ wsX50, w ∈ wsX5_goes := by decide +kernel
  refine lv_aload_n hx hb dX5_goes_0 rfl (lv_at hl 0 rfl) ?_
  refine lv_iload_n hx hb dX5_goes_1 rfl (lv_at hl 1 rfl) ?_
  refine lv_if_ne (tgt := 9) hx hb dX5_goes_2 (by decide) (fun h_2 => ?_) (fun h_2 => absurd h_2 (by decide))
  refine lv_iload_n hx hb dX5_goes_9 rfl (lv_at hl 2 rfl) ?_
  refine lv_if_ne (tgt := 17) hx hb dX5_goes_10 (by decide) (fun h_10 => ?_) (fun h_10 => absurd h_10 (by decide))
  refine lv_iload_n hx hb dX5_goes_17 rfl (lv_at hl 3 rfl) ?_
  refine lv_if_eq (tgt := 25) hx hb dX5_goes_18 (by decide) (fun h_18 => ?_) (fun h_18 => absurd h_18 (by decide))
  refine lv_iconst (v := nI 3) hx hb dX5_goes_25 (by decide) ?_
  refine k_put (own := RX5) (C := RX5) (T := TX5) (N := 21) hx hb hts hinX5 tyX5 tyX5_ok nmX5 hown hK hW hS (kc_9 g ad t) rfl 20 (by decide) (hts (.fieldLink RX5 63 "DrillVaultModel" "last" "I") (by decide +kernel)) rfl rfl (ty := tyX5 20) (v := .int (nI 3)) (tyX5_ok 20 (by decide)) rfl rfl (Nat.le_of_ble_eq_true rfl) dX5_goes_26 (fun H locs hW hS => ?_)
  have hW : k_H g ad (set_m_l t 3) H := kt_m_l (t := t) 3 rfl hW
  refine lv_aload_n hx hb dX5_goes_29 rfl (lv_at hl 0 rfl) ?_
  refine k_get (own := RX5) (C := RX5) (T := TX5) (N := 21) hx hb hts hinX5 hown hK hW (kc_9 g ad (set_m_l t 3)) rfl 20 (by decide) (hts (.fieldLink RX5 63 "DrillVaultModel" "last" "I") (by decide +kernel)) rfl (v := .int (nI 3)) rfl dX5_goes_30 ?_
  refine lv_if_ne (tgt := 40) hx hb dX5_goes_33 (by decide) (fun h_33 => ?_) (fun h_33 => absurd h_33 (by decide))
  refine lv_iconst (v := nI 0) hx hb dX5_goes_40 (by decide) ?_
  exact k_rz hQ hx hb hr rfl hlk hS hW ⟨rfl, rfl⟩ (Nat.le_of_ble_eq_true rfl) (Nat.le_of_ble_eq_true rfl) dX5_goes_41
abbrev rm_X5_thrown : Room := { frames := 0, cells := 0, slots := 0, locals := 0 }
set_option maxRecDepth 100000 in
set_option maxHeartbeats 4000000 in
theorem c_X5_thrown (l : Launch) (hlt : l.stackTraces = false) (g : k_g) (ad : k_AD) (t : k_T)  : Met l yX5_thrown wsX5_thrown rm_X5_thrown (va_Pc [.ref (ad 9 0)] (k_I g (k_ct g ad t) ad)) (va_Qi (fun r u => r = nI (m_l t) ∧ u = t) (fun u U => k_H g ad u U.heap) (k_A g)) 0 0 (k_A g) := by
  refine k_met (cc := cX5_thrown) (maxL := 1) (ret := (some .int)) (by decide) rfl (Nat.le_of_ble_eq_true rfl) (fun p e s m args below meth c Q ls hQ hx hb hr hml hts hown hlk hin hK hZ hN hW hS hl => ?_)
  have hown : s.vm.findClass RX5 = some m.cls := hown
  have hW : k_H g ad t s.heap := hW
  have hl : lv_has ls 1 [(0, .ref (ad 9 0))] := hl
  have hinX5 : ∀ w ∈ wsX50, w ∈ wsX5_thrown := by decide +kernel
  refine lv_aload_n hx hb dX5_thrown_0 rfl (lv_at hl 0 rfl) ?_
  refine k_get (own := RX5) (C := RX5) (T := TX5) (N := 21) hx hb hts hinX5 hown hK hW (kc_9 g ad t) rfl 20 (by decide) (hts (.fieldLink RX5 63 "DrillVaultModel" "last" "I") (by decide +kernel)) rfl (v := .int (nI (m_l t))) rfl dX5_thrown_1 ?_
  exact k_ri hQ hx hb hr hlk hS hW ⟨rfl, rfl⟩ (Nat.le_of_ble_eq_true rfl) (Nat.le_of_ble_eq_true rfl) dX5_thrown_4
abbrev rm_X5_isCopy : Room := { frames := 1, cells := 0, slots := 0, locals := 22 }
set_option maxRecDepth 100000 in
set_option maxHeartbeats 4000000 in
theorem c_X5_isCopy (l : Launch) (hlt : l.stackTraces = false) (g : k_g) (ad : k_AD) (t : k_T) (j : Nat) (hs : m_th t j = true) (hmt : ∀ j, m_th t j = true → j < m_md t) (hm60 : m_md t ≤ 60) : Met l yX5_isCopy wsX5_isCopy rm_X5_isCopy (va_Pc [.ref (ad 9 0), .int (nI j)] (k_I g (k_ct g ad t) ad)) (va_Qi (fun r u => r = nI 1 ∧ u = t) (fun u U => k_H g ad u U.heap) (k_A g)) 0 0 (k_A g) := by
  refine k_met (cc := cX5_isCopy) (maxL := 2) (ret := (some .boolean)) (by decide) rfl (Nat.le_of_ble_eq_true rfl) (fun p e s m args below meth c Q ls hQ hx hb hr hml hts hown hlk hin hK hZ hN hW hS hl => ?_)
  have hown : s.vm.findClass RX5 = some m.cls := hown
  have hW : k_H g ad t s.heap := hW
  have hl : lv_has ls 2 [(0, .ref (ad 9 0)), (1, .int (nI j))] := hl
  have hinX5 : ∀ w ∈ wsX50, w ∈ wsX5_isCopy := by decide +kernel
  refine lv_iload_n hx hb dX5_isCopy_0 rfl (lv_at hl 1 rfl) ?_
  refine lv_iconst (v := nI 0) hx hb dX5_isCopy_1 (by decide) ?_
  refine lv_aload_n hx hb dX5_isCopy_2 rfl (lv_at hl 0 rfl) ?_
  refine k_get (own := RX5) (C := RX5) (T := TX5) (N := 21) hx hb hts hinX5 hown hK hW (kc_9 g ad t) rfl 12 (by decide) (hts (.fieldLink RX5 66 "DrillVaultModel" "made" "I") (by decide +kernel)) rfl (v := .int (nI (m_md t))) rfl dX5_isCopy_3 ?_
  refine lv_iconst (v := nI 1) hx hb dX5_isCopy_6 (by decide) ?_
  refine lv_isub hx hb dX5_isCopy_7 ?_
  refine k_toi (k_m1 _) ?_
  refine k_ci (va_runS (As := [.int (nI j), .int (nI 0), .int (nI (m_md t) + (-1))]) (rest := []) ⟨hx, hb, hml, hown, hts⟩ (c_X5_in_t l hlt g ad t (nI j) (nI 0) (nI (m_md t) + (-1)) (k_in_md (hmt _ hs) (by omega))) (va_cwS 3 hts gX5_isCopy_X5_in rfl rfl rfl (by decide +kernel) ⟨(Nat.le_of_ble_eq_true rfl), (Nat.le_of_ble_eq_true rfl)⟩) ⟨k_blind, fun U hU hw => ⟨rfl, k_I.of hK hZ hN hS hW hU hw⟩⟩ rfl rfl hl.1 rfl (lv_room (Nat.le_of_ble_eq_true rfl)) dX5_isCopy_8 ⟨(Nat.le_of_ble_eq_true rfl), (Nat.le_of_ble_eq_true rfl)⟩) hS (fun r u H locs hpo hW hS => ?_)
  obtain ⟨hr9, hu9⟩ := hpo; replace hu9 := hu9.symm; subst hu9; replace hr9 := hr9.symm; subst hr9
  refine lv_if_eq (tgt := 27) hx hb dX5_isCopy_11 (by decide) (fun h_11 => absurd h_11 (by decide)) (fun h_11 => ?_)
  refine lv_aload_n hx hb dX5_isCopy_14 rfl (lv_at hl 0 rfl) ?_
  refine k_get (own := RX5) (C := RX5) (T := TX5) (N := 21) hx hb hts hinX5 hown hK hW (kc_9 g ad t) rfl 9 (by decide) (hts (.fieldLink RX5 31 "DrillVaultModel" "there" "[Z") (by decide +kernel)) rfl (v := .ref (ad 17 0)) rfl dX5_isCopy_15 ?_
  refine lv_iload_n hx hb dX5_isCopy_18 rfl (lv_at hl 1 rfl) ?_
  refine k_zald hx hb hK hW (kc_17 g ad t) j rfl (by have := hmt _ hs; omega) (by decide) dX5_isCopy_19 ?_
  refine k_ifz_eq (tgt := 27) hx hb dX5_isCopy_20 (by decide) (fun h_20 => absurd h_20 (fun q => absurd (hs.symm.trans q) (by decide))) (fun h_20 => ?_)
  refine lv_iconst (v := nI 1) hx hb dX5_isCopy_23 (by decide) ?_
  refine lv_goto (tgt := 28) hx hb dX5_isCopy_24 (by decide) ?_
  exact k_rz hQ hx hb hr rfl hlk hS hW ⟨rfl, rfl⟩ (Nat.le_of_ble_eq_true rfl) (Nat.le_of_ble_eq_true rfl) dX5_isCopy_28
set_option maxRecDepth 100000 in
set_option maxHeartbeats 4000000 in
theorem c_X5_isCopy_lo (l : Launch) (hlt : l.stackTraces = false) (g : k_g) (ad : k_AD) (t : k_T) (z : Int32) (hz : z < 0) : Met l yX5_isCopy wsX5_isCopy rm_X5_isCopy (va_Pc [.ref (ad 9 0), .int z] (k_I g (k_ct g ad t) ad)) (va_Qi (fun r u => r = nI 0 ∧ u = t) (fun u U => k_H g ad u U.heap) (k_A g)) 0 0 (k_A g) := by
  refine k_met (cc := cX5_isCopy) (maxL := 2) (ret := (some .boolean)) (by decide) rfl (Nat.le_of_ble_eq_true rfl) (fun p e s m args below meth c Q ls hQ hx hb hr hml hts hown hlk hin hK hZ hN hW hS hl => ?_)
  have hown : s.vm.findClass RX5 = some m.cls := hown
  have hW : k_H g ad t s.heap := hW
  have hl : lv_has ls 2 [(0, .ref (ad 9 0)), (1, .int z)] := hl
  have hinX5 : ∀ w ∈ wsX50, w ∈ wsX5_isCopy := by decide +kernel
  refine lv_iload_n hx hb dX5_isCopy_0 rfl (lv_at hl 1 rfl) ?_
  refine lv_iconst (v := nI 0) hx hb dX5_isCopy_1 (by decide) ?_
  refine lv_aload_n hx hb dX5_isCopy_2 rfl (lv_at hl 0 rfl) ?_
  refine k_get (own := RX5) (C := RX5) (T := TX5) (N := 21) hx hb hts hinX5 hown hK hW (kc_9 g ad t) rfl 12 (by decide) (hts (.fieldLink RX5 66 "DrillVaultModel" "made" "I") (by decide +kernel)) rfl (v := .int (nI (m_md t))) rfl dX5_isCopy_3 ?_
  refine lv_iconst (v := nI 1) hx hb dX5_isCopy_6 (by decide) ?_
  refine lv_isub hx hb dX5_isCopy_7 ?_
  refine k_toi (k_m1 _) ?_
  refine k_ci (va_runS (As := [.int z, .int (nI 0), .int (nI (m_md t) + (-1))]) (rest := []) ⟨hx, hb, hml, hown, hts⟩ (c_X5_in_f l hlt g ad t z (nI 0) (nI (m_md t) + (-1)) (k_in_f (Or.inl hz))) (va_cwS 3 hts gX5_isCopy_X5_in rfl rfl rfl (by decide +kernel) ⟨(Nat.le_of_ble_eq_true rfl), (Nat.le_of_ble_eq_true rfl)⟩) ⟨k_blind, fun U hU hw => ⟨rfl, k_I.of hK hZ hN hS hW hU hw⟩⟩ rfl rfl hl.1 rfl (lv_room (Nat.le_of_ble_eq_true rfl)) dX5_isCopy_8 ⟨(Nat.le_of_ble_eq_true rfl), (Nat.le_of_ble_eq_true rfl)⟩) hS (fun r u H locs hpo hW hS => ?_)
  obtain ⟨hr9, hu9⟩ := hpo; replace hu9 := hu9.symm; subst hu9; replace hr9 := hr9.symm; subst hr9
  refine lv_if_eq (tgt := 27) hx hb dX5_isCopy_11 (by decide) (fun h_11 => ?_) (fun h_11 => absurd h_11 (by decide))
  refine lv_iconst (v := nI 0) hx hb dX5_isCopy_27 (by decide) ?_
  exact k_rz hQ hx hb hr rfl hlk hS hW ⟨rfl, rfl⟩ (Nat.le_of_ble_eq_true rfl) (Nat.le_of_ble_eq_true rfl) dX5_isCopy_28
set_option maxRecDepth 100000 in
set_option maxHeartbeats 4000000 in
theorem c_X5_isCopy_hi (l : Launch) (hlt : l.stackTraces = false) (g : k_g) (ad : k_AD) (t : k_T) (z : Int32) (hz : nI 60 ≤ z) (hm60 : m_md t ≤ 60) : Met l yX5_isCopy wsX5_isCopy rm_X5_isCopy (va_Pc [.ref (ad 9 0), .int z] (k_I g (k_ct g ad t) ad)) (va_Qi (fun r u => r = nI 0 ∧ u = t) (fun u U => k_H g ad u U.heap) (k_A g)) 0 0 (k_A g) := by
  refine k_met (cc := cX5_isCopy) (maxL := 2) (ret := (some .boolean)) (by decide) rfl (Nat.le_of_ble_eq_true rfl) (fun p e s m args below meth c Q ls hQ hx hb hr hml hts hown hlk hin hK hZ hN hW hS hl => ?_)
  have hown : s.vm.findClass RX5 = some m.cls := hown
  have hW : k_H g ad t s.heap := hW
  have hl : lv_has ls 2 [(0, .ref (ad 9 0)), (1, .int z)] := hl
  have hinX5 : ∀ w ∈ wsX50, w ∈ wsX5_isCopy := by decide +kernel
  refine lv_iload_n hx hb dX5_isCopy_0 rfl (lv_at hl 1 rfl) ?_
  refine lv_iconst (v := nI 0) hx hb dX5_isCopy_1 (by decide) ?_
  refine lv_aload_n hx hb dX5_isCopy_2 rfl (lv_at hl 0 rfl) ?_
  refine k_get (own := RX5) (C := RX5) (T := TX5) (N := 21) hx hb hts hinX5 hown hK hW (kc_9 g ad t) rfl 12 (by decide) (hts (.fieldLink RX5 66 "DrillVaultModel" "made" "I") (by decide +kernel)) rfl (v := .int (nI (m_md t))) rfl dX5_isCopy_3 ?_
  refine lv_iconst (v := nI 1) hx hb dX5_isCopy_6 (by decide) ?_
  refine lv_isub hx hb dX5_isCopy_7 ?_
  refine k_toi (k_m1 _) ?_
  refine k_ci (va_runS (As := [.int z, .int (nI 0), .int (nI (m_md t) + (-1))]) (rest := []) ⟨hx, hb, hml, hown, hts⟩ (c_X5_in_f l hlt g ad t z (nI 0) (nI (m_md t) + (-1)) (k_in_md_hi hz (by decide) hm60 (by omega))) (va_cwS 3 hts gX5_isCopy_X5_in rfl rfl rfl (by decide +kernel) ⟨(Nat.le_of_ble_eq_true rfl), (Nat.le_of_ble_eq_true rfl)⟩) ⟨k_blind, fun U hU hw => ⟨rfl, k_I.of hK hZ hN hS hW hU hw⟩⟩ rfl rfl hl.1 rfl (lv_room (Nat.le_of_ble_eq_true rfl)) dX5_isCopy_8 ⟨(Nat.le_of_ble_eq_true rfl), (Nat.le_of_ble_eq_true rfl)⟩) hS (fun r u H locs hpo hW hS => ?_)
  obtain ⟨hr9, hu9⟩ := hpo; replace hu9 := hu9.symm; subst hu9; replace hr9 := hr9.symm; subst hr9
  refine lv_if_eq (tgt := 27) hx hb dX5_isCopy_11 (by decide) (fun h_11 => ?_) (fun h_11 => absurd h_11 (by decide))
  refine lv_iconst (v := nI 0) hx hb dX5_isCopy_27 (by decide) ?_
  exact k_rz hQ hx hb hr rfl hlk hS hW ⟨rfl, rfl⟩ (Nat.le_of_ble_eq_true rfl) (Nat.le_of_ble_eq_true rfl) dX5_isCopy_28
set_option maxRecDepth 100000 in
set_option maxHeartbeats 4000000 in
theorem c_X5_isCopy_a1 (l : Launch) (hlt : l.stackTraces = false) (g : k_g) (ad : k_AD) (t : k_T) (j : Nat) (hj : j < 60) (hge : m_md t ≤ j) : Met l yX5_isCopy wsX5_isCopy rm_X5_isCopy (va_Pc [.ref (ad 9 0), .int (nI j)] (k_I g (k_ct g ad t) ad)) (va_Qi (fun r u => r = nI 0 ∧ u = t) (fun u U => k_H g ad u U.heap) (k_A g)) 0 0 (k_A g) := by
  refine k_met (cc := cX5_isCopy) (maxL := 2) (ret := (some .boolean)) (by decide) rfl (Nat.le_of_ble_eq_true rfl) (fun p e s m args below meth c Q ls hQ hx hb hr hml hts hown hlk hin hK hZ hN hW hS hl => ?_)
  have hown : s.vm.findClass RX5 = some m.cls := hown
  have hW : k_H g ad t s.heap := hW
  have hl : lv_has ls 2 [(0, .ref (ad 9 0)), (1, .int (nI j))] := hl
  have hinX5 : ∀ w ∈ wsX50, w ∈ wsX5_isCopy := by decide +kernel
  refine lv_iload_n hx hb dX5_isCopy_0 rfl (lv_at hl 1 rfl) ?_
  refine lv_iconst (v := nI 0) hx hb dX5_isCopy_1 (by decide) ?_
  refine lv_aload_n hx hb dX5_isCopy_2 rfl (lv_at hl 0 rfl) ?_
  refine k_get (own := RX5) (C := RX5) (T := TX5) (N := 21) hx hb hts hinX5 hown hK hW (kc_9 g ad t) rfl 12 (by decide) (hts (.fieldLink RX5 66 "DrillVaultModel" "made" "I") (by decide +kernel)) rfl (v := .int (nI (m_md t))) rfl dX5_isCopy_3 ?_
  refine lv_iconst (v := nI 1) hx hb dX5_isCopy_6 (by decide) ?_
  refine lv_isub hx hb dX5_isCopy_7 ?_
  refine k_toi (k_m1 _) ?_
  refine k_ci (va_runS (As := [.int (nI j), .int (nI 0), .int (nI (m_md t) + (-1))]) (rest := []) ⟨hx, hb, hml, hown, hts⟩ (c_X5_in_f l hlt g ad t (nI j) (nI 0) (nI (m_md t) + (-1)) (k_in_md_ge hge (by omega) (by omega))) (va_cwS 3 hts gX5_isCopy_X5_in rfl rfl rfl (by decide +kernel) ⟨(Nat.le_of_ble_eq_true rfl), (Nat.le_of_ble_eq_true rfl)⟩) ⟨k_blind, fun U hU hw => ⟨rfl, k_I.of hK hZ hN hS hW hU hw⟩⟩ rfl rfl hl.1 rfl (lv_room (Nat.le_of_ble_eq_true rfl)) dX5_isCopy_8 ⟨(Nat.le_of_ble_eq_true rfl), (Nat.le_of_ble_eq_true rfl)⟩) hS (fun r u H locs hpo hW hS => ?_)
  obtain ⟨hr9, hu9⟩ := hpo; replace hu9 := hu9.symm; subst hu9; replace hr9 := hr9.symm; subst hr9
  refine lv_if_eq (tgt := 27) hx hb dX5_isCopy_11 (by decide) (fun h_11 => ?_) (fun h_11 => absurd h_11 (by decide))
  refine lv_iconst (v := nI 0) hx hb dX5_isCopy_27 (by decide) ?_
  exact k_rz hQ hx hb hr rfl hlk hS hW ⟨rfl, rfl⟩ (Nat.le_of_ble_eq_true rfl) (Nat.le_of_ble_eq_true rfl) dX5_isCopy_28
set_option maxRecDepth 100000 in
set_option maxHeartbeats 4000000 in
theorem c_X5_isCopy_a2 (l : Launch) (hlt : l.stackTraces = false) (g : k_g) (ad : k_AD) (t : k_T) (j : Nat) (hj : j < 60) (hlt2 : j < m_md t) (hs : m_th t j = false) (hm60 : m_md t ≤ 60) : Met l yX5_isCopy wsX5_isCopy rm_X5_isCopy (va_Pc [.ref (ad 9 0), .int (nI j)] (k_I g (k_ct g ad t) ad)) (va_Qi (fun r u => r = nI 0 ∧ u = t) (fun u U => k_H g ad u U.heap) (k_A g)) 0 0 (k_A g) := by
  refine k_met (cc := cX5_isCopy) (maxL := 2) (ret := (some .boolean)) (by decide) rfl (Nat.le_of_ble_eq_true rfl) (fun p e s m args below meth c Q ls hQ hx hb hr hml hts hown hlk hin hK hZ hN hW hS hl => ?_)
  have hown : s.vm.findClass RX5 = some m.cls := hown
  have hW : k_H g ad t s.heap := hW
  have hl : lv_has ls 2 [(0, .ref (ad 9 0)), (1, .int (nI j))] := hl
  have hinX5 : ∀ w ∈ wsX50, w ∈ wsX5_isCopy := by decide +kernel
  refine lv_iload_n hx hb dX5_isCopy_0 rfl (lv_at hl 1 rfl) ?_
  refine lv_iconst (v := nI 0) hx hb dX5_isCopy_1 (by decide) ?_
  refine lv_aload_n hx hb dX5_isCopy_2 rfl (lv_at hl 0 rfl) ?_
  refine k_get (own := RX5) (C := RX5) (T := TX5) (N := 21) hx hb hts hinX5 hown hK hW (kc_9 g ad t) rfl 12 (by decide) (hts (.fieldLink RX5 66 "DrillVaultModel" "made" "I") (by decide +kernel)) rfl (v := .int (nI (m_md t))) rfl dX5_isCopy_3 ?_
  refine lv_iconst (v := nI 1) hx hb dX5_isCopy_6 (by decide) ?_
  refine lv_isub hx hb dX5_isCopy_7 ?_
  refine k_toi (k_m1 _) ?_
  refine k_ci (va_runS (As := [.int (nI j), .int (nI 0), .int (nI (m_md t) + (-1))]) (rest := []) ⟨hx, hb, hml, hown, hts⟩ (c_X5_in_t l hlt g ad t (nI j) (nI 0) (nI (m_md t) + (-1)) (k_in_md hlt2 (by omega))) (va_cwS 3 hts gX5_isCopy_X5_in rfl rfl rfl (by decide +kernel) ⟨(Nat.le_of_ble_eq_true rfl), (Nat.le_of_ble_eq_true rfl)⟩) ⟨k_blind, fun U hU hw => ⟨rfl, k_I.of hK hZ hN hS hW hU hw⟩⟩ rfl rfl hl.1 rfl (lv_room (Nat.le_of_ble_eq_true rfl)) dX5_isCopy_8 ⟨(Nat.le_of_ble_eq_true rfl), (Nat.le_of_ble_eq_true rfl)⟩) hS (fun r u H locs hpo hW hS => ?_)
  obtain ⟨hr9, hu9⟩ := hpo; replace hu9 := hu9.symm; subst hu9; replace hr9 := hr9.symm; subst hr9
  refine lv_if_eq (tgt := 27) hx hb dX5_isCopy_11 (by decide) (fun h_11 => absurd h_11 (by decide)) (fun h_11 => ?_)
  refine lv_aload_n hx hb dX5_isCopy_14 rfl (lv_at hl 0 rfl) ?_
  refine k_get (own := RX5) (C := RX5) (T := TX5) (N := 21) hx hb hts hinX5 hown hK hW (kc_9 g ad t) rfl 9 (by decide) (hts (.fieldLink RX5 31 "DrillVaultModel" "there" "[Z") (by decide +kernel)) rfl (v := .ref (ad 17 0)) rfl dX5_isCopy_15 ?_
  refine lv_iload_n hx hb dX5_isCopy_18 rfl (lv_at hl 1 rfl) ?_
  refine k_zald hx hb hK hW (kc_17 g ad t) j rfl (by omega) (by decide) dX5_isCopy_19 ?_
  refine k_ifz_eq (tgt := 27) hx hb dX5_isCopy_20 (by decide) (fun h_20 => ?_) (fun h_20 => absurd h_20 (fun q => absurd (hs.symm.trans q) (by decide)))
  refine lv_iconst (v := nI 0) hx hb dX5_isCopy_27 (by decide) ?_
  exact k_rz hQ hx hb hr rfl hlk hS hW ⟨rfl, rfl⟩ (Nat.le_of_ble_eq_true rfl) (Nat.le_of_ble_eq_true rfl) dX5_isCopy_28
set_option maxRecDepth 100000 in
set_option maxHeartbeats 4000000 in
theorem c_X5_isCopy_b (l : Launch) (hlt : l.stackTraces = false) (g : k_g) (ad : k_AD) (t : k_T) (z : Int32) (hz : z < 0 ∨ nI 60 ≤ z ∨ ∃ j, j < 60 ∧ z = nI j ∧ m_th t j = false) (hm60 : m_md t ≤ 60) : Met l yX5_isCopy wsX5_isCopy rm_X5_isCopy (va_Pc [.ref (ad 9 0), .int z] (k_I g (k_ct g ad t) ad)) (va_Qi (fun r u => r = nI 0 ∧ u = t) (fun u U => k_H g ad u U.heap) (k_A g)) 0 0 (k_A g) := by
  rcases hz with h | h | ⟨j, h1, h2, h3⟩
  · exact c_X5_isCopy_lo l hlt g ad t z h
  · exact c_X5_isCopy_hi l hlt g ad t z h hm60
  · subst h2
    rcases Nat.lt_or_ge j (m_md t) with h4 | h4
    · exact c_X5_isCopy_a2 l hlt g ad t j h1 h4 h3 hm60
    · exact c_X5_isCopy_a1 l hlt g ad t j h1 h4
abbrev rm_X5_isFile : Room := { frames := 1, cells := 0, slots := 0, locals := 22 }
set_option maxRecDepth 100000 in
set_option maxHeartbeats 4000000 in
theorem c_X5_isFile (l : Launch) (hlt : l.stackTraces = false) (g : k_g) (ad : k_AD) (t : k_T) (j : Nat) (hj : j < 10) : Met l yX5_isFile wsX5_isFile rm_X5_isFile (va_Pc [.int (nI j)] (k_I g (k_ct g ad t) ad)) (va_Qi (fun r u => r = nI 1 ∧ u = t) (fun u U => k_H g ad u U.heap) (k_A g)) 0 0 (k_A g) := by
  refine k_met (cc := cX5_isFile) (maxL := 1) (ret := (some .boolean)) (by decide) rfl (Nat.le_of_ble_eq_true rfl) (fun p e s m args below meth c Q ls hQ hx hb hr hml hts hown hlk hin hK hZ hN hW hS hl => ?_)
  have hown : s.vm.findClass RX5 = some m.cls := hown
  have hW : k_H g ad t s.heap := hW
  have hl : lv_has ls 1 [(0, .int (nI j))] := hl
  refine lv_iload_n hx hb dX5_isFile_0 rfl (lv_at hl 0 rfl) ?_
  refine lv_iconst (v := nI 0) hx hb dX5_isFile_1 (by decide) ?_
  refine lv_bipush (v := nI 9) hx hb dX5_isFile_2 (by decide) ?_
  refine k_ci (va_runS (As := [.int (nI j), .int (nI 0), .int (nI 9)]) (rest := []) ⟨hx, hb, hml, hown, hts⟩ (c_X5_in_t l hlt g ad t (nI j) (nI 0) (nI 9) (k_in_n (Nat.zero_le _) (by omega) (by decide))) (va_cwS 3 hts gX5_isFile_X5_in rfl rfl rfl (by decide +kernel) ⟨(Nat.le_of_ble_eq_true rfl), (Nat.le_of_ble_eq_true rfl)⟩) ⟨k_blind, fun U hU hw => ⟨rfl, k_I.of hK hZ hN hS hW hU hw⟩⟩ rfl rfl hl.1 rfl (lv_room (Nat.le_of_ble_eq_true rfl)) dX5_isFile_4 ⟨(Nat.le_of_ble_eq_true rfl), (Nat.le_of_ble_eq_true rfl)⟩) hS (fun r u H locs hpo hW hS => ?_)
  obtain ⟨hr9, hu9⟩ := hpo; replace hu9 := hu9.symm; subst hu9; replace hr9 := hr9.symm; subst hr9
  exact k_rz hQ hx hb hr rfl hlk hS hW ⟨rfl, rfl⟩ (Nat.le_of_ble_eq_true rfl) (Nat.le_of_ble_eq_true rfl) dX5_isFile_7
set_option maxRecDepth 100000 in
set_option maxHeartbeats 4000000 in
theorem c_X5_isFile_b (l : Launch) (hlt : l.stackTraces = false) (g : k_g) (ad : k_AD) (t : k_T) (z : Int32) (hz : z < 0 ∨ nI 10 ≤ z) : Met l yX5_isFile wsX5_isFile rm_X5_isFile (va_Pc [.int z] (k_I g (k_ct g ad t) ad)) (va_Qi (fun r u => r = nI 0 ∧ u = t) (fun u U => k_H g ad u U.heap) (k_A g)) 0 0 (k_A g) := by
  refine k_met (cc := cX5_isFile) (maxL := 1) (ret := (some .boolean)) (by decide) rfl (Nat.le_of_ble_eq_true rfl) (fun p e s m args below meth c Q ls hQ hx hb hr hml hts hown hlk hin hK hZ hN hW hS hl => ?_)
  have hown : s.vm.findClass RX5 = some m.cls := hown
  have hW : k_H g ad t s.heap := hW
  have hl : lv_has ls 1 [(0, .int z)] := hl
  refine lv_iload_n hx hb dX5_isFile_0 rfl (lv_at hl 0 rfl) ?_
  refine lv_iconst (v := nI 0) hx hb dX5_isFile_1 (by decide) ?_
  refine lv_bipush (v := nI 9) hx hb dX5_isFile_2 (by decide) ?_
  refine k_ci (va_runS (As := [.int z, .int (nI 0), .int (nI 9)]) (rest := []) ⟨hx, hb, hml, hown, hts⟩ (c_X5_in_f l hlt g ad t z (nI 0) (nI 9) (k_in_f (hz.imp id (fun h => k_ge_gt h (by decide) (by decide))))) (va_cwS 3 hts gX5_isFile_X5_in rfl rfl rfl (by decide +kernel) ⟨(Nat.le_of_ble_eq_true rfl), (Nat.le_of_ble_eq_true rfl)⟩) ⟨k_blind, fun U hU hw => ⟨rfl, k_I.of hK hZ hN hS hW hU hw⟩⟩ rfl rfl hl.1 rfl (lv_room (Nat.le_of_ble_eq_true rfl)) dX5_isFile_4 ⟨(Nat.le_of_ble_eq_true rfl), (Nat.le_of_ble_eq_true rfl)⟩) hS (fun r u H locs hpo hW hS => ?_)
  obtain ⟨hr9, hu9⟩ := hpo; replace hu9 := hu9.symm; subst hu9; replace hr9 := hr9.symm; subst hr9
  exact k_rz hQ hx hb hr rfl hlk hS hW ⟨rfl, rfl⟩ (Nat.le_of_ble_eq_true rfl) (Nat.le_of_ble_eq_true rfl) dX5_isFile_7
abbrev rm_X5_isDay : Room := { frames := 1, cells := 0, slots := 0, locals := 22 }
set_option maxRecDepth 100000 in
set_option maxHeartbeats 4000000 in
theorem c_X5_isDay (l : Launch) (hlt : l.stackTraces = false) (g : k_g) (ad : k_AD) (t : k_T) (j : Nat) (hj : j ≤ 364) : Met l yX5_isDay wsX5_isDay rm_X5_isDay (va_Pc [.int (nI j)] (k_I g (k_ct g ad t) ad)) (va_Qi (fun r u => r = nI 1 ∧ u = t) (fun u U => k_H g ad u U.heap) (k_A g)) 0 0 (k_A g) := by
  refine k_met (cc := cX5_isDay) (maxL := 1) (ret := (some .boolean)) (by decide) rfl (Nat.le_of_ble_eq_true rfl) (fun p e s m args below meth c Q ls hQ hx hb hr hml hts hown hlk hin hK hZ hN hW hS hl => ?_)
  have hown : s.vm.findClass RX5 = some m.cls := hown
  have hW : k_H g ad t s.heap := hW
  have hl : lv_has ls 1 [(0, .int (nI j))] := hl
  refine lv_iload_n hx hb dX5_isDay_0 rfl (lv_at hl 0 rfl) ?_
  refine lv_iconst (v := nI 0) hx hb dX5_isDay_1 (by decide) ?_
  refine lv_sipush (v := nI 364) hx hb dX5_isDay_2 (by decide) ?_
  refine k_ci (va_runS (As := [.int (nI j), .int (nI 0), .int (nI 364)]) (rest := []) ⟨hx, hb, hml, hown, hts⟩ (c_X5_in_t l hlt g ad t (nI j) (nI 0) (nI 364) (k_in_n (Nat.zero_le _) hj (by decide))) (va_cwS 3 hts gX5_isDay_X5_in rfl rfl rfl (by decide +kernel) ⟨(Nat.le_of_ble_eq_true rfl), (Nat.le_of_ble_eq_true rfl)⟩) ⟨k_blind, fun U hU hw => ⟨rfl, k_I.of hK hZ hN hS hW hU hw⟩⟩ rfl rfl hl.1 rfl (lv_room (Nat.le_of_ble_eq_true rfl)) dX5_isDay_5 ⟨(Nat.le_of_ble_eq_true rfl), (Nat.le_of_ble_eq_true rfl)⟩) hS (fun r u H locs hpo hW hS => ?_)
  obtain ⟨hr9, hu9⟩ := hpo; replace hu9 := hu9.symm; subst hu9; replace hr9 := hr9.symm; subst hr9
  exact k_rz hQ hx hb hr rfl hlk hS hW ⟨rfl, rfl⟩ (Nat.le_of_ble_eq_true rfl) (Nat.le_of_ble_eq_true rfl) dX5_isDay_8
set_option maxRecDepth 100000 in
set_option maxHeartbeats 4000000 in
theorem c_X5_isDay_b (l : Launch) (hlt : l.stackTraces = false) (g : k_g) (ad : k_AD) (t : k_T) (z : Int32) (hz : z < 0 ∨ nI 364 < z) : Met l yX5_isDay wsX5_isDay rm_X5_isDay (va_Pc [.int z] (k_I g (k_ct g ad t) ad)) (va_Qi (fun r u => r = nI 0 ∧ u = t) (fun u U => k_H g ad u U.heap) (k_A g)) 0 0 (k_A g) := by
  refine k_met (cc := cX5_isDay) (maxL := 1) (ret := (some .boolean)) (by decide) rfl (Nat.le_of_ble_eq_true rfl) (fun p e s m args below meth c Q ls hQ hx hb hr hml hts hown hlk hin hK hZ hN hW hS hl => ?_)
  have hown : s.vm.findClass RX5 = some m.cls := hown
  have hW : k_H g ad t s.heap := hW
  have hl : lv_has ls 1 [(0, .int z)] := hl
  refine lv_iload_n hx hb dX5_isDay_0 rfl (lv_at hl 0 rfl) ?_
  refine lv_iconst (v := nI 0) hx hb dX5_isDay_1 (by decide) ?_
  refine lv_sipush (v := nI 364) hx hb dX5_isDay_2 (by decide) ?_
  refine k_ci (va_runS (As := [.int z, .int (nI 0), .int (nI 364)]) (rest := []) ⟨hx, hb, hml, hown, hts⟩ (c_X5_in_f l hlt g ad t z (nI 0) (nI 364) (k_in_f hz)) (va_cwS 3 hts gX5_isDay_X5_in rfl rfl rfl (by decide +kernel) ⟨(Nat.le_of_ble_eq_true rfl), (Nat.le_of_ble_eq_true rfl)⟩) ⟨k_blind, fun U hU hw => ⟨rfl, k_I.of hK hZ hN hS hW hU hw⟩⟩ rfl rfl hl.1 rfl (lv_room (Nat.le_of_ble_eq_true rfl)) dX5_isDay_5 ⟨(Nat.le_of_ble_eq_true rfl), (Nat.le_of_ble_eq_true rfl)⟩) hS (fun r u H locs hpo hW hS => ?_)
  obtain ⟨hr9, hu9⟩ := hpo; replace hu9 := hu9.symm; subst hu9; replace hr9 := hr9.symm; subst hr9
  exact k_rz hQ hx hb hr rfl hlk hS hW ⟨rfl, rfl⟩ (Nat.le_of_ble_eq_true rfl) (Nat.le_of_ble_eq_true rfl) dX5_isDay_8
abbrev rm_X5_change : Room := { frames := 2, cells := 0, slots := 0, locals := 42 }
set_option maxRecDepth 100000 in
set_option maxHeartbeats 4000000 in
theorem c_X5_change_bf (l : Launch) (hlt : l.stackTraces = false) (g : k_g) (ad : k_AD) (t : k_T) (z : Int32) (v : Int32) (hz : z < 0 ∨ nI 10 ≤ z) (hn : m_n t ≤ 300) : Met l yX5_change wsX5_change rm_X5_change (va_Pc [.ref (ad 9 0), .int z, .int v] (k_I g (k_ct g ad t) ad)) (va_Qi (fun r u => r = nI 0 ∧ u = set_m_l t 1) (fun u U => k_H g ad u U.heap) (k_A g)) 0 0 (k_A g) := by
  refine k_met (cc := cX5_change) (maxL := 4) (ret := (some .int)) (by decide) rfl (Nat.le_of_ble_eq_true rfl) (fun p e s m args below meth c Q ls hQ hx hb hr hml hts hown hlk hin hK hZ hN hW hS hl => ?_)
  have hown : s.vm.findClass RX5 = some m.cls := hown
  have hW : k_H g ad t s.heap := hW
  have hl : lv_has ls 4 [(0, .ref (ad 9 0)), (1, .int z), (2, .int v)] := hl
  have hinX5 : ∀ w ∈ wsX50, w ∈ wsX5_change := by decide +kernel
  refine lv_aload_n hx hb dX5_change_0 rfl (lv_at hl 0 rfl) ?_
  refine lv_iload_n hx hb dX5_change_1 rfl (lv_at hl 1 rfl) ?_
  refine k_ci (va_runS (As := [.int z]) (rest := [.ref (ad 9 0)]) ⟨hx, hb, hml, hown, hts⟩ (c_X5_isFile_b l hlt g ad t z hz) (va_cwS 1 hts gX5_change_X5_isFile rfl rfl rfl (by decide +kernel) ⟨(Nat.le_of_ble_eq_true rfl), (Nat.le_of_ble_eq_true rfl)⟩) ⟨k_blind, fun U hU hw => ⟨rfl, k_I.of hK hZ hN hS hW hU hw⟩⟩ rfl rfl hl.1 rfl (lv_room (Nat.le_of_ble_eq_true rfl)) dX5_change_2 ⟨(Nat.le_of_ble_eq_true rfl), (Nat.le_of_ble_eq_true rfl)⟩) hS (fun r u H locs hpo hW hS => ?_)
  obtain ⟨hr9, hu9⟩ := hpo; replace hu9 := hu9.symm; subst hu9; replace hr9 := hr9.symm; subst hr9
  refine lv_iload_n hx hb dX5_change_5 rfl (lv_at hl 2 rfl) ?_
  refine lv_iconst (v := nI 0) hx hb dX5_change_6 (by decide) ?_
  refine lv_bipush (v := nI 99) hx hb dX5_change_7 (by decide) ?_
  refine k_ci (va_runS (As := [.int v, .int (nI 0), .int (nI 99)]) (rest := [.int (nI 0), .ref (ad 9 0)]) ⟨hx, hb, hml, hown, hts⟩ (c_X5_in l hlt g ad t v (nI 0) (nI 99) ) (va_cwS 3 hts gX5_change_X5_in rfl rfl rfl (by decide +kernel) ⟨(Nat.le_of_ble_eq_true rfl), (Nat.le_of_ble_eq_true rfl)⟩) ⟨k_blind, fun U hU hw => ⟨rfl, k_I.of hK hZ hN hS hW hU hw⟩⟩ rfl rfl hl.1 rfl (lv_room (Nat.le_of_ble_eq_true rfl)) dX5_change_9 ⟨(Nat.le_of_ble_eq_true rfl), (Nat.le_of_ble_eq_true rfl)⟩) hS (fun r u H locs hpo hW hS => ?_)
  obtain ⟨hr9, hu9⟩ := hpo; replace hu9 := hu9.symm; subst hu9; replace hr9 := hr9.symm; subst hr9
  refine lv_aload_n hx hb dX5_change_12 rfl (lv_at hl 0 rfl) ?_
  refine k_get (own := RX5) (C := RX5) (T := TX5) (N := 21) hx hb hts hinX5 hown hK hW (kc_9 g ad t) rfl 2 (by decide) (hts (.fieldLink RX5 77 "DrillVaultModel" "changes" "I") (by decide +kernel)) rfl (v := .int (nI (m_n t))) rfl dX5_change_13 ?_
  refine lv_sipush (v := nI 300) hx hb dX5_change_16 (by decide) ?_
  refine k_icmp_ge (tgt := 26) hx hb (a := m_n t) (b := 300) (by omega) (by decide) dX5_change_19 (by decide) (fun h_19 => ?_) (fun h_19 => ?_)
  · refine lv_iconst (v := nI 0) hx hb dX5_change_26 (by decide) ?_
    refine k_ci (va_runV (As := [.int (nI 0), .int (kb (k_in v (nI 0) (nI 99))), .int (nI 0)]) (rest := []) ⟨hx, hb, hml, hown, hts⟩ (c_X5_goes_1 l hlt g ad t (kb (k_in v (nI 0) (nI 99))) (nI 0) ) (cwV 3 hts gX5_change_X5_goes rfl rfl rfl (by decide +kernel) ⟨(Nat.le_of_ble_eq_true rfl), (Nat.le_of_ble_eq_true rfl)⟩) ⟨k_blind, k_recv hK hW (kc_9 g ad t) rfl, fun U hU hw => ⟨rfl, k_I.of hK hZ hN hS hW hU hw⟩⟩ rfl rfl hl.1 rfl (lv_room (Nat.le_of_ble_eq_true rfl)) dX5_change_27 ⟨(Nat.le_of_ble_eq_true rfl), (Nat.le_of_ble_eq_true rfl)⟩) hS (fun r u H locs hpo hW hS => ?_)
    obtain ⟨hr9, hu9⟩ := hpo; replace hu9 := hu9.symm; subst hu9; replace hr9 := hr9.symm; subst hr9
    have hW : k_H g ad (set_m_l t 1) H := hW
    refine lv_if_ne (tgt := 35) hx hb dX5_change_30 (by decide) (fun h_30 => absurd h_30 (by decide)) (fun h_30 => ?_)
    refine lv_iconst (v := nI 0) hx hb dX5_change_33 (by decide) ?_
    exact k_ri hQ hx hb hr hlk hS hW ⟨rfl, rfl⟩ (Nat.le_of_ble_eq_true rfl) (Nat.le_of_ble_eq_true rfl) dX5_change_34
  · refine lv_iconst (v := nI 1) hx hb dX5_change_22 (by decide) ?_
    refine lv_goto (tgt := 27) hx hb dX5_change_23 (by decide) ?_
    refine k_ci (va_runV (As := [.int (nI 0), .int (kb (k_in v (nI 0) (nI 99))), .int (nI 1)]) (rest := []) ⟨hx, hb, hml, hown, hts⟩ (c_X5_goes_1 l hlt g ad t (kb (k_in v (nI 0) (nI 99))) (nI 1) ) (cwV 3 hts gX5_change_X5_goes rfl rfl rfl (by decide +kernel) ⟨(Nat.le_of_ble_eq_true rfl), (Nat.le_of_ble_eq_true rfl)⟩) ⟨k_blind, k_recv hK hW (kc_9 g ad t) rfl, fun U hU hw => ⟨rfl, k_I.of hK hZ hN hS hW hU hw⟩⟩ rfl rfl hl.1 rfl (lv_room (Nat.le_of_ble_eq_true rfl)) dX5_change_27 ⟨(Nat.le_of_ble_eq_true rfl), (Nat.le_of_ble_eq_true rfl)⟩) hS (fun r u H locs hpo hW hS => ?_)
    obtain ⟨hr9, hu9⟩ := hpo; replace hu9 := hu9.symm; subst hu9; replace hr9 := hr9.symm; subst hr9
    have hW : k_H g ad (set_m_l t 1) H := hW
    refine lv_if_ne (tgt := 35) hx hb dX5_change_30 (by decide) (fun h_30 => absurd h_30 (by decide)) (fun h_30 => ?_)
    refine lv_iconst (v := nI 0) hx hb dX5_change_33 (by decide) ?_
    exact k_ri hQ hx hb hr hlk hS hW ⟨rfl, rfl⟩ (Nat.le_of_ble_eq_true rfl) (Nat.le_of_ble_eq_true rfl) dX5_change_34
set_option maxRecDepth 100000 in
set_option maxHeartbeats 4000000 in
theorem c_X5_change_bc (l : Launch) (hlt : l.stackTraces = false) (g : k_g) (ad : k_AD) (t : k_T) (j : Nat) (z : Int32) (hj : j < 10) (hz : z < 0 ∨ nI 99 < z) (hn : m_n t ≤ 300) : Met l yX5_change wsX5_change rm_X5_change (va_Pc [.ref (ad 9 0), .int (nI j), .int z] (k_I g (k_ct g ad t) ad)) (va_Qi (fun r u => r = nI 0 ∧ u = set_m_l t 2) (fun u U => k_H g ad u U.heap) (k_A g)) 0 0 (k_A g) := by
  refine k_met (cc := cX5_change) (maxL := 4) (ret := (some .int)) (by decide) rfl (Nat.le_of_ble_eq_true rfl) (fun p e s m args below meth c Q ls hQ hx hb hr hml hts hown hlk hin hK hZ hN hW hS hl => ?_)
  have hown : s.vm.findClass RX5 = some m.cls := hown
  have hW : k_H g ad t s.heap := hW
  have hl : lv_has ls 4 [(0, .ref (ad 9 0)), (1, .int (nI j)), (2, .int z)] := hl
  have hinX5 : ∀ w ∈ wsX50, w ∈ wsX5_change := by decide +kernel
  refine lv_aload_n hx hb dX5_change_0 rfl (lv_at hl 0 rfl) ?_
  refine lv_iload_n hx hb dX5_change_1 rfl (lv_at hl 1 rfl) ?_
  refine k_ci (va_runS (As := [.int (nI j)]) (rest := [.ref (ad 9 0)]) ⟨hx, hb, hml, hown, hts⟩ (c_X5_isFile l hlt g ad t j (by omega)) (va_cwS 1 hts gX5_change_X5_isFile rfl rfl rfl (by decide +kernel) ⟨(Nat.le_of_ble_eq_true rfl), (Nat.le_of_ble_eq_true rfl)⟩) ⟨k_blind, fun U hU hw => ⟨rfl, k_I.of hK hZ hN hS hW hU hw⟩⟩ rfl rfl hl.1 rfl (lv_room (Nat.le_of_ble_eq_true rfl)) dX5_change_2 ⟨(Nat.le_of_ble_eq_true rfl), (Nat.le_of_ble_eq_true rfl)⟩) hS (fun r u H locs hpo hW hS => ?_)
  obtain ⟨hr9, hu9⟩ := hpo; replace hu9 := hu9.symm; subst hu9; replace hr9 := hr9.symm; subst hr9
  refine lv_iload_n hx hb dX5_change_5 rfl (lv_at hl 2 rfl) ?_
  refine lv_iconst (v := nI 0) hx hb dX5_change_6 (by decide) ?_
  refine lv_bipush (v := nI 99) hx hb dX5_change_7 (by decide) ?_
  refine k_ci (va_runS (As := [.int z, .int (nI 0), .int (nI 99)]) (rest := [.int (nI 1), .ref (ad 9 0)]) ⟨hx, hb, hml, hown, hts⟩ (c_X5_in_f l hlt g ad t z (nI 0) (nI 99) (k_in_f hz)) (va_cwS 3 hts gX5_change_X5_in rfl rfl rfl (by decide +kernel) ⟨(Nat.le_of_ble_eq_true rfl), (Nat.le_of_ble_eq_true rfl)⟩) ⟨k_blind, fun U hU hw => ⟨rfl, k_I.of hK hZ hN hS hW hU hw⟩⟩ rfl rfl hl.1 rfl (lv_room (Nat.le_of_ble_eq_true rfl)) dX5_change_9 ⟨(Nat.le_of_ble_eq_true rfl), (Nat.le_of_ble_eq_true rfl)⟩) hS (fun r u H locs hpo hW hS => ?_)
  obtain ⟨hr9, hu9⟩ := hpo; replace hu9 := hu9.symm; subst hu9; replace hr9 := hr9.symm; subst hr9
  refine lv_aload_n hx hb dX5_change_12 rfl (lv_at hl 0 rfl) ?_
  refine k_get (own := RX5) (C := RX5) (T := TX5) (N := 21) hx hb hts hinX5 hown hK hW (kc_9 g ad t) rfl 2 (by decide) (hts (.fieldLink RX5 77 "DrillVaultModel" "changes" "I") (by decide +kernel)) rfl (v := .int (nI (m_n t))) rfl dX5_change_13 ?_
  refine lv_sipush (v := nI 300) hx hb dX5_change_16 (by decide) ?_
  refine k_icmp_ge (tgt := 26) hx hb (a := m_n t) (b := 300) (by omega) (by decide) dX5_change_19 (by decide) (fun h_19 => ?_) (fun h_19 => ?_)
  · refine lv_iconst (v := nI 0) hx hb dX5_change_26 (by decide) ?_
    refine k_ci (va_runV (As := [.int (nI 1), .int (nI 0), .int (nI 0)]) (rest := []) ⟨hx, hb, hml, hown, hts⟩ (c_X5_goes_2 l hlt g ad t (nI 0) ) (cwV 3 hts gX5_change_X5_goes rfl rfl rfl (by decide +kernel) ⟨(Nat.le_of_ble_eq_true rfl), (Nat.le_of_ble_eq_true rfl)⟩) ⟨k_blind, k_recv hK hW (kc_9 g ad t) rfl, fun U hU hw => ⟨rfl, k_I.of hK hZ hN hS hW hU hw⟩⟩ rfl rfl hl.1 rfl (lv_room (Nat.le_of_ble_eq_true rfl)) dX5_change_27 ⟨(Nat.le_of_ble_eq_true rfl), (Nat.le_of_ble_eq_true rfl)⟩) hS (fun r u H locs hpo hW hS => ?_)
    obtain ⟨hr9, hu9⟩ := hpo; replace hu9 := hu9.symm; subst hu9; replace hr9 := hr9.symm; subst hr9
    have hW : k_H g ad (set_m_l t 2) H := hW
    refine lv_if_ne (tgt := 35) hx hb dX5_change_30 (by decide) (fun h_30 => absurd h_30 (by decide)) (fun h_30 => ?_)
    refine lv_iconst (v := nI 0) hx hb dX5_change_33 (by decide) ?_
    exact k_ri hQ hx hb hr hlk hS hW ⟨rfl, rfl⟩ (Nat.le_of_ble_eq_true rfl) (Nat.le_of_ble_eq_true rfl) dX5_change_34
  · refine lv_iconst (v := nI 1) hx hb dX5_change_22 (by decide) ?_
    refine lv_goto (tgt := 27) hx hb dX5_change_23 (by decide) ?_
    refine k_ci (va_runV (As := [.int (nI 1), .int (nI 0), .int (nI 1)]) (rest := []) ⟨hx, hb, hml, hown, hts⟩ (c_X5_goes_2 l hlt g ad t (nI 1) ) (cwV 3 hts gX5_change_X5_goes rfl rfl rfl (by decide +kernel) ⟨(Nat.le_of_ble_eq_true rfl), (Nat.le_of_ble_eq_true rfl)⟩) ⟨k_blind, k_recv hK hW (kc_9 g ad t) rfl, fun U hU hw => ⟨rfl, k_I.of hK hZ hN hS hW hU hw⟩⟩ rfl rfl hl.1 rfl (lv_room (Nat.le_of_ble_eq_true rfl)) dX5_change_27 ⟨(Nat.le_of_ble_eq_true rfl), (Nat.le_of_ble_eq_true rfl)⟩) hS (fun r u H locs hpo hW hS => ?_)
    obtain ⟨hr9, hu9⟩ := hpo; replace hu9 := hu9.symm; subst hu9; replace hr9 := hr9.symm; subst hr9
    have hW : k_H g ad (set_m_l t 2) H := hW
    refine lv_if_ne (tgt := 35) hx hb dX5_change_30 (by decide) (fun h_30 => absurd h_30 (by decide)) (fun h_30 => ?_)
    refine lv_iconst (v := nI 0) hx hb dX5_change_33 (by decide) ?_
    exact k_ri hQ hx hb hr hlk hS hW ⟨rfl, rfl⟩ (Nat.le_of_ble_eq_true rfl) (Nat.le_of_ble_eq_true rfl) dX5_change_34
set_option maxRecDepth 100000 in
set_option maxHeartbeats 4000000 in
theorem c_X5_change_fu (l : Launch) (hlt : l.stackTraces = false) (g : k_g) (ad : k_AD) (t : k_T) (j : Nat) (v : Int32) (hj : j < 10) (hv1 : ¬ v < 0) (hv2 : v ≤ nI 99) (hn : m_n t ≤ 300) (hfull : 300 ≤ m_n t) : Met l yX5_change wsX5_change rm_X5_change (va_Pc [.ref (ad 9 0), .int (nI j), .int v] (k_I g (k_ct g ad t) ad)) (va_Qi (fun r u => r = nI 0 ∧ u = set_m_l t 3) (fun u U => k_H g ad u U.heap) (k_A g)) 0 0 (k_A g) := by
  refine k_met (cc := cX5_change) (maxL := 4) (ret := (some .int)) (by decide) rfl (Nat.le_of_ble_eq_true rfl) (fun p e s m args below meth c Q ls hQ hx hb hr hml hts hown hlk hin hK hZ hN hW hS hl => ?_)
  have hown : s.vm.findClass RX5 = some m.cls := hown
  have hW : k_H g ad t s.heap := hW
  have hl : lv_has ls 4 [(0, .ref (ad 9 0)), (1, .int (nI j)), (2, .int v)] := hl
  have hinX5 : ∀ w ∈ wsX50, w ∈ wsX5_change := by decide +kernel
  refine lv_aload_n hx hb dX5_change_0 rfl (lv_at hl 0 rfl) ?_
  refine lv_iload_n hx hb dX5_change_1 rfl (lv_at hl 1 rfl) ?_
  refine k_ci (va_runS (As := [.int (nI j)]) (rest := [.ref (ad 9 0)]) ⟨hx, hb, hml, hown, hts⟩ (c_X5_isFile l hlt g ad t j (by omega)) (va_cwS 1 hts gX5_change_X5_isFile rfl rfl rfl (by decide +kernel) ⟨(Nat.le_of_ble_eq_true rfl), (Nat.le_of_ble_eq_true rfl)⟩) ⟨k_blind, fun U hU hw => ⟨rfl, k_I.of hK hZ hN hS hW hU hw⟩⟩ rfl rfl hl.1 rfl (lv_room (Nat.le_of_ble_eq_true rfl)) dX5_change_2 ⟨(Nat.le_of_ble_eq_true rfl), (Nat.le_of_ble_eq_true rfl)⟩) hS (fun r u H locs hpo hW hS => ?_)
  obtain ⟨hr9, hu9⟩ := hpo; replace hu9 := hu9.symm; subst hu9; replace hr9 := hr9.symm; subst hr9
  refine lv_iload_n hx hb dX5_change_5 rfl (lv_at hl 2 rfl) ?_
  refine lv_iconst (v := nI 0) hx hb dX5_change_6 (by decide) ?_
  refine lv_bipush (v := nI 99) hx hb dX5_change_7 (by decide) ?_
  refine k_ci (va_runS (As := [.int v, .int (nI 0), .int (nI 99)]) (rest := [.int (nI 1), .ref (ad 9 0)]) ⟨hx, hb, hml, hown, hts⟩ (c_X5_in_t l hlt g ad t v (nI 0) (nI 99) (k_in_t hv1 (Int32.not_lt.mpr hv2))) (va_cwS 3 hts gX5_change_X5_in rfl rfl rfl (by decide +kernel) ⟨(Nat.le_of_ble_eq_true rfl), (Nat.le_of_ble_eq_true rfl)⟩) ⟨k_blind, fun U hU hw => ⟨rfl, k_I.of hK hZ hN hS hW hU hw⟩⟩ rfl rfl hl.1 rfl (lv_room (Nat.le_of_ble_eq_true rfl)) dX5_change_9 ⟨(Nat.le_of_ble_eq_true rfl), (Nat.le_of_ble_eq_true rfl)⟩) hS (fun r u H locs hpo hW hS => ?_)
  obtain ⟨hr9, hu9⟩ := hpo; replace hu9 := hu9.symm; subst hu9; replace hr9 := hr9.symm; subst hr9
  refine lv_aload_n hx hb dX5_change_12 rfl (lv_at hl 0 rfl) ?_
  refine k_get (own := RX5) (C := RX5) (T := TX5) (N := 21) hx hb hts hinX5 hown hK hW (kc_9 g ad t) rfl 2 (by decide) (hts (.fieldLink RX5 77 "DrillVaultModel" "changes" "I") (by decide +kernel)) rfl (v := .int (nI (m_n t))) rfl dX5_change_13 ?_
  refine lv_sipush (v := nI 300) hx hb dX5_change_16 (by decide) ?_
  refine k_icmp_ge (tgt := 26) hx hb (a := m_n t) (b := 300) (by omega) (by decide) dX5_change_19 (by decide) (fun h_19 => ?_) (fun h_19 => absurd h_19 (by omega))
  refine lv_iconst (v := nI 0) hx hb dX5_change_26 (by decide) ?_
  refine k_ci (va_runV (As := [.int (nI 1), .int (nI 1), .int (nI 0)]) (rest := []) ⟨hx, hb, hml, hown, hts⟩ (c_X5_goes_3 l hlt g ad t ) (cwV 3 hts gX5_change_X5_goes rfl rfl rfl (by decide +kernel) ⟨(Nat.le_of_ble_eq_true rfl), (Nat.le_of_ble_eq_true rfl)⟩) ⟨k_blind, k_recv hK hW (kc_9 g ad t) rfl, fun U hU hw => ⟨rfl, k_I.of hK hZ hN hS hW hU hw⟩⟩ rfl rfl hl.1 rfl (lv_room (Nat.le_of_ble_eq_true rfl)) dX5_change_27 ⟨(Nat.le_of_ble_eq_true rfl), (Nat.le_of_ble_eq_true rfl)⟩) hS (fun r u H locs hpo hW hS => ?_)
  obtain ⟨hr9, hu9⟩ := hpo; replace hu9 := hu9.symm; subst hu9; replace hr9 := hr9.symm; subst hr9
  have hW : k_H g ad (set_m_l t 3) H := hW
  refine lv_if_ne (tgt := 35) hx hb dX5_change_30 (by decide) (fun h_30 => absurd h_30 (by decide)) (fun h_30 => ?_)
  refine lv_iconst (v := nI 0) hx hb dX5_change_33 (by decide) ?_
  exact k_ri hQ hx hb hr hlk hS hW ⟨rfl, rfl⟩ (Nat.le_of_ble_eq_true rfl) (Nat.le_of_ble_eq_true rfl) dX5_change_34
set_option maxRecDepth 100000 in
set_option maxHeartbeats 4000000 in
theorem c_X5_change_ok (l : Launch) (hlt : l.stackTraces = false) (g : k_g) (ad : k_AD) (t : k_T) (j : Nat) (v : Int32) (hj : j < 10) (hv1 : ¬ v < 0) (hv2 : v ≤ nI 99) (hfr : m_n t < 300) : Met l yX5_change wsX5_change rm_X5_change (va_Pc [.ref (ad 9 0), .int (nI j), .int v] (k_I g (k_ct g ad t) ad)) (va_Qi (fun r u => r = m_c t j ∧ u = set_m_ch (set_m_n (set_m_c (set_m_l t 0) (va_up (m_c t) j v)) (m_n t + 1)) (va_up (m_ch t) j (m_n t + 1))) (fun u U => k_H g ad u U.heap) (k_A g)) 0 0 (k_A g) := by
  refine k_met (cc := cX5_change) (maxL := 4) (ret := (some .int)) (by decide) rfl (Nat.le_of_ble_eq_true rfl) (fun p e s m args below meth c Q ls hQ hx hb hr hml hts hown hlk hin hK hZ hN hW hS hl => ?_)
  have hown : s.vm.findClass RX5 = some m.cls := hown
  have hW : k_H g ad t s.heap := hW
  have hl : lv_has ls 4 [(0, .ref (ad 9 0)), (1, .int (nI j)), (2, .int v)] := hl
  have hinX5 : ∀ w ∈ wsX50, w ∈ wsX5_change := by decide +kernel
  refine lv_aload_n hx hb dX5_change_0 rfl (lv_at hl 0 rfl) ?_
  refine lv_iload_n hx hb dX5_change_1 rfl (lv_at hl 1 rfl) ?_
  refine k_ci (va_runS (As := [.int (nI j)]) (rest := [.ref (ad 9 0)]) ⟨hx, hb, hml, hown, hts⟩ (c_X5_isFile l hlt g ad t j (by omega)) (va_cwS 1 hts gX5_change_X5_isFile rfl rfl rfl (by decide +kernel) ⟨(Nat.le_of_ble_eq_true rfl), (Nat.le_of_ble_eq_true rfl)⟩) ⟨k_blind, fun U hU hw => ⟨rfl, k_I.of hK hZ hN hS hW hU hw⟩⟩ rfl rfl hl.1 rfl (lv_room (Nat.le_of_ble_eq_true rfl)) dX5_change_2 ⟨(Nat.le_of_ble_eq_true rfl), (Nat.le_of_ble_eq_true rfl)⟩) hS (fun r u H locs hpo hW hS => ?_)
  obtain ⟨hr9, hu9⟩ := hpo; replace hu9 := hu9.symm; subst hu9; replace hr9 := hr9.symm; subst hr9
  refine lv_iload_n hx hb dX5_change_5 rfl (lv_at hl 2 rfl) ?_
  refine lv_iconst (v := nI 0) hx hb dX5_change_6 (by decide) ?_
  refine lv_bipush (v := nI 99) hx hb dX5_change_7 (by decide) ?_
  refine k_ci (va_runS (As := [.int v, .int (nI 0), .int (nI 99)]) (rest := [.int (nI 1), .ref (ad 9 0)]) ⟨hx, hb, hml, hown, hts⟩ (c_X5_in_t l hlt g ad t v (nI 0) (nI 99) (k_in_t hv1 (Int32.not_lt.mpr hv2))) (va_cwS 3 hts gX5_change_X5_in rfl rfl rfl (by decide +kernel) ⟨(Nat.le_of_ble_eq_true rfl), (Nat.le_of_ble_eq_true rfl)⟩) ⟨k_blind, fun U hU hw => ⟨rfl, k_I.of hK hZ hN hS hW hU hw⟩⟩ rfl rfl hl.1 rfl (lv_room (Nat.le_of_ble_eq_true rfl)) dX5_change_9 ⟨(Nat.le_of_ble_eq_true rfl), (Nat.le_of_ble_eq_true rfl)⟩) hS (fun r u H locs hpo hW hS => ?_)
  obtain ⟨hr9, hu9⟩ := hpo; replace hu9 := hu9.symm; subst hu9; replace hr9 := hr9.symm; subst hr9
  refine lv_aload_n hx hb dX5_change_12 rfl (lv_at hl 0 rfl) ?_
  refine k_get (own := RX5) (C := RX5) (T := TX5) (N := 21) hx hb hts hinX5 hown hK hW (kc_9 g ad t) rfl 2 (by decide) (hts (.fieldLink RX5 77 "DrillVaultModel" "changes" "I") (by decide +kernel)) rfl (v := .int (nI (m_n t))) rfl dX5_change_13 ?_
  refine lv_sipush (v := nI 300) hx hb dX5_change_16 (by decide) ?_
  refine k_icmp_ge (tgt := 26) hx hb (a := m_n t) (b := 300) (by omega) (by decide) dX5_change_19 (by decide) (fun h_19 => absurd h_19 (by omega)) (fun h_19 => ?_)
  refine lv_iconst (v := nI 1) hx hb dX5_change_22 (by decide) ?_
  refine lv_goto (tgt := 27) hx hb dX5_change_23 (by decide) ?_
  refine k_ci (va_runV (As := [.int (nI 1), .int (nI 1), .int (nI 1)]) (rest := []) ⟨hx, hb, hml, hown, hts⟩ (c_X5_goes_0 l hlt g ad t ) (cwV 3 hts gX5_change_X5_goes rfl rfl rfl (by decide +kernel) ⟨(Nat.le_of_ble_eq_true rfl), (Nat.le_of_ble_eq_true rfl)⟩) ⟨k_blind, k_recv hK hW (kc_9 g ad t) rfl, fun U hU hw => ⟨rfl, k_I.of hK hZ hN hS hW hU hw⟩⟩ rfl rfl hl.1 rfl (lv_room (Nat.le_of_ble_eq_true rfl)) dX5_change_27 ⟨(Nat.le_of_ble_eq_true rfl), (Nat.le_of_ble_eq_true rfl)⟩) hS (fun r u H locs hpo hW hS => ?_)
  obtain ⟨hr9, hu9⟩ := hpo; replace hu9 := hu9.symm; subst hu9; replace hr9 := hr9.symm; subst hr9
  have hW : k_H g ad (set_m_l t 0) H := hW
  refine lv_if_ne (tgt := 35) hx hb dX5_change_30 (by decide) (fun h_30 => ?_) (fun h_30 => absurd h_30 (by decide))
  refine lv_aload_n hx hb dX5_change_35 rfl (lv_at hl 0 rfl) ?_
  refine k_get (own := RX5) (C := RX5) (T := TX5) (N := 21) hx hb hts hinX5 hown hK hW (kc_9 g ad (set_m_l t 0)) rfl 0 (by decide) (hts (.fieldLink RX5 7 "DrillVaultModel" "contents" "[I") (by decide +kernel)) rfl (v := .ref (ad 10 0)) rfl dX5_change_36 ?_
  refine lv_iload_n hx hb dX5_change_39 rfl (lv_at hl 1 rfl) ?_
  refine k_iald hx hb hK hW (kc_10 g ad (set_m_l t 0)) j rfl (by omega) (by decide) dX5_change_40 ?_
  refine lv_istore_n (lv' := [(3, .int (m_c t j)), (0, .ref (ad 9 0)), (1, .int (nI j)), (2, .int v)]) hx hb dX5_change_41 rfl hl (by decide) rfl (fun ls hl => ?_)
  refine lv_aload_n hx hb dX5_change_42 rfl (lv_at hl 1 rfl) ?_
  refine k_get (own := RX5) (C := RX5) (T := TX5) (N := 21) hx hb hts hinX5 hown hK hW (kc_9 g ad (set_m_l t 0)) rfl 0 (by decide) (hts (.fieldLink RX5 7 "DrillVaultModel" "contents" "[I") (by decide +kernel)) rfl (v := .ref (ad 10 0)) rfl dX5_change_43 ?_
  refine lv_iload_n hx hb dX5_change_46 rfl (lv_at hl 2 rfl) ?_
  refine lv_iload_n hx hb dX5_change_47 rfl (lv_at hl 3 rfl) ?_
  refine k_iast hx hb hK hW hS (kc_10 g ad (set_m_l t 0)) j rfl (by omega) (by decide) dX5_change_48 (fun H locs hW hS => ?_)
  have hW : k_H g ad (set_m_c (set_m_l t 0) (va_up (m_c t) j v)) H := kt_m_c (t := set_m_l t 0) j v rfl hW
  refine lv_aload_n hx hb dX5_change_49 rfl (lv_at hl 1 rfl) ?_
  refine lv_dup hx hb dX5_change_50 rfl ?_
  refine k_get (own := RX5) (C := RX5) (T := TX5) (N := 21) hx hb hts hinX5 hown hK hW (kc_9 g ad (set_m_c (set_m_l t 0) (va_up (m_c t) j v))) rfl 2 (by decide) (hts (.fieldLink RX5 77 "DrillVaultModel" "changes" "I") (by decide +kernel)) rfl (v := .int (nI (m_n t))) rfl dX5_change_51 ?_
  refine lv_iconst (v := nI 1) hx hb dX5_change_54 (by decide) ?_
  refine k_iadd hx hb dX5_change_55 ?_
  refine k_put (own := RX5) (C := RX5) (T := TX5) (N := 21) hx hb hts hinX5 tyX5 tyX5_ok nmX5 hown hK hW hS (kc_9 g ad (set_m_c (set_m_l t 0) (va_up (m_c t) j v))) rfl 2 (by decide) (hts (.fieldLink RX5 77 "DrillVaultModel" "changes" "I") (by decide +kernel)) rfl rfl (ty := tyX5 2) (v := .int (nI ((m_n t) + 1))) (tyX5_ok 2 (by decide)) rfl rfl (Nat.le_of_ble_eq_true rfl) dX5_change_56 (fun H locs hW hS => ?_)
  have hW : k_H g ad (set_m_n (set_m_c (set_m_l t 0) (va_up (m_c t) j v)) ((m_n t) + 1)) H := kt_m_n (t := set_m_c (set_m_l t 0) (va_up (m_c t) j v)) ((m_n t) + 1) rfl hW
  refine lv_aload_n hx hb dX5_change_59 rfl (lv_at hl 1 rfl) ?_
  refine k_get (own := RX5) (C := RX5) (T := TX5) (N := 21) hx hb hts hinX5 hown hK hW (kc_9 g ad (set_m_n (set_m_c (set_m_l t 0) (va_up (m_c t) j v)) ((m_n t) + 1))) rfl 1 (by decide) (hts (.fieldLink RX5 13 "DrillVaultModel" "changed" "[I") (by decide +kernel)) rfl (v := .ref (ad 11 0)) rfl dX5_change_60 ?_
  refine lv_iload_n hx hb dX5_change_63 rfl (lv_at hl 2 rfl) ?_
  refine lv_aload_n hx hb dX5_change_64 rfl (lv_at hl 1 rfl) ?_
  refine k_get (own := RX5) (C := RX5) (T := TX5) (N := 21) hx hb hts hinX5 hown hK hW (kc_9 g ad (set_m_n (set_m_c (set_m_l t 0) (va_up (m_c t) j v)) ((m_n t) + 1))) rfl 2 (by decide) (hts (.fieldLink RX5 77 "DrillVaultModel" "changes" "I") (by decide +kernel)) rfl (v := .int (nI ((m_n t) + 1))) rfl dX5_change_65 ?_
  refine k_iast hx hb hK hW hS (kc_11 g ad (set_m_n (set_m_c (set_m_l t 0) (va_up (m_c t) j v)) ((m_n t) + 1))) j rfl (by omega) (by decide) dX5_change_68 (fun H locs hW hS => ?_)
  have hW : k_H g ad (set_m_ch (set_m_n (set_m_c (set_m_l t 0) (va_up (m_c t) j v)) ((m_n t) + 1)) (va_up (m_ch t) j ((m_n t) + 1))) H := kt_m_ch (t := set_m_n (set_m_c (set_m_l t 0) (va_up (m_c t) j v)) ((m_n t) + 1)) j ((m_n t) + 1) rfl hW
  refine lv_iload_n hx hb dX5_change_69 rfl (lv_at hl 0 rfl) ?_
  exact k_ri hQ hx hb hr hlk hS hW ⟨rfl, rfl⟩ (Nat.le_of_ble_eq_true rfl) (Nat.le_of_ble_eq_true rfl) dX5_change_70
abbrev rm_X5_pass : Room := { frames := 1, cells := 0, slots := 0, locals := 23 }
set_option maxRecDepth 100000 in
set_option maxHeartbeats 4000000 in
theorem c_X5_pass_b (l : Launch) (hlt : l.stackTraces = false) (g : k_g) (ad : k_AD) (t : k_T) (z : Int32) (hz : z < nI 1 ∨ nI 30 < z) : Met l yX5_pass wsX5_pass rm_X5_pass (va_Pc [.ref (ad 9 0), .int z] (k_I g (k_ct g ad t) ad)) (va_Qi (fun r u => r = nI 0 ∧ u = set_m_l t 1) (fun u U => k_H g ad u U.heap) (k_A g)) 0 0 (k_A g) := by
  refine k_met (cc := cX5_pass) (maxL := 3) (ret := (some .int)) (by decide) rfl (Nat.le_of_ble_eq_true rfl) (fun p e s m args below meth c Q ls hQ hx hb hr hml hts hown hlk hin hK hZ hN hW hS hl => ?_)
  have hown : s.vm.findClass RX5 = some m.cls := hown
  have hW : k_H g ad t s.heap := hW
  have hl : lv_has ls 3 [(0, .ref (ad 9 0)), (1, .int z)] := hl
  refine lv_iload_n hx hb dX5_pass_0 rfl (lv_at hl 1 rfl) ?_
  refine lv_iconst (v := nI 1) hx hb dX5_pass_1 (by decide) ?_
  refine lv_bipush (v := nI 30) hx hb dX5_pass_2 (by decide) ?_
  refine k_ci (va_runS (As := [.int z, .int (nI 1), .int (nI 30)]) (rest := []) ⟨hx, hb, hml, hown, hts⟩ (c_X5_in_f l hlt g ad t z (nI 1) (nI 30) (k_in_f hz)) (va_cwS 3 hts gX5_pass_X5_in rfl rfl rfl (by decide +kernel) ⟨(Nat.le_of_ble_eq_true rfl), (Nat.le_of_ble_eq_true rfl)⟩) ⟨k_blind, fun U hU hw => ⟨rfl, k_I.of hK hZ hN hS hW hU hw⟩⟩ rfl rfl hl.1 rfl (lv_room (Nat.le_of_ble_eq_true rfl)) dX5_pass_4 ⟨(Nat.le_of_ble_eq_true rfl), (Nat.le_of_ble_eq_true rfl)⟩) hS (fun r u H locs hpo hW hS => ?_)
  obtain ⟨hr9, hu9⟩ := hpo; replace hu9 := hu9.symm; subst hu9; replace hr9 := hr9.symm; subst hr9
  refine lv_istore_n (lv' := [(2, .int (nI 0)), (0, .ref (ad 9 0)), (1, .int z)]) hx hb dX5_pass_7 rfl hl (by decide) rfl (fun ls hl => ?_)
  refine lv_aload_n hx hb dX5_pass_8 rfl (lv_at hl 1 rfl) ?_
  refine lv_iload_n hx hb dX5_pass_9 rfl (lv_at hl 0 rfl) ?_
  refine lv_iload_n hx hb dX5_pass_10 rfl (lv_at hl 0 rfl) ?_
  refine lv_if_eq (tgt := 30) hx hb dX5_pass_11 (by decide) (fun h_11 => ?_) (fun h_11 => absurd h_11 (by decide))
  refine lv_iconst (v := nI 0) hx hb dX5_pass_30 (by decide) ?_
  refine lv_iconst (v := nI 1) hx hb dX5_pass_31 (by decide) ?_
  refine k_ci (va_runV (As := [.int (nI 0), .int (nI 0), .int (nI 1)]) (rest := []) ⟨hx, hb, hml, hown, hts⟩ (c_X5_goes_1 l hlt g ad t (nI 0) (nI 1) ) (cwV 3 hts gX5_pass_X5_goes rfl rfl rfl (by decide +kernel) ⟨(Nat.le_of_ble_eq_true rfl), (Nat.le_of_ble_eq_true rfl)⟩) ⟨k_blind, k_recv hK hW (kc_9 g ad t) rfl, fun U hU hw => ⟨rfl, k_I.of hK hZ hN hS hW hU hw⟩⟩ rfl rfl hl.1 rfl (lv_room (Nat.le_of_ble_eq_true rfl)) dX5_pass_32 ⟨(Nat.le_of_ble_eq_true rfl), (Nat.le_of_ble_eq_true rfl)⟩) hS (fun r u H locs hpo hW hS => ?_)
  obtain ⟨hr9, hu9⟩ := hpo; replace hu9 := hu9.symm; subst hu9; replace hr9 := hr9.symm; subst hr9
  have hW : k_H g ad (set_m_l t 1) H := hW
  refine lv_if_ne (tgt := 40) hx hb dX5_pass_35 (by decide) (fun h_35 => absurd h_35 (by decide)) (fun h_35 => ?_)
  refine lv_iconst (v := nI 0) hx hb dX5_pass_38 (by decide) ?_
  exact k_ri hQ hx hb hr hlk hS hW ⟨rfl, rfl⟩ (Nat.le_of_ble_eq_true rfl) (Nat.le_of_ble_eq_true rfl) dX5_pass_39
set_option maxRecDepth 100000 in
set_option maxHeartbeats 4000000 in
theorem c_X5_pass_is (l : Launch) (hlt : l.stackTraces = false) (g : k_g) (ad : k_AD) (t : k_T) (w : Nat) (hd : m_d t ≤ 360) (h1 : 1 ≤ w) (h2 : w ≤ 30) (h3 : 360 < m_d t + w) : Met l yX5_pass wsX5_pass rm_X5_pass (va_Pc [.ref (ad 9 0), .int (nI w)] (k_I g (k_ct g ad t) ad)) (va_Qi (fun r u => r = nI 0 ∧ u = set_m_l t 2) (fun u U => k_H g ad u U.heap) (k_A g)) 0 0 (k_A g) := by
  refine k_met (cc := cX5_pass) (maxL := 3) (ret := (some .int)) (by decide) rfl (Nat.le_of_ble_eq_true rfl) (fun p e s m args below meth c Q ls hQ hx hb hr hml hts hown hlk hin hK hZ hN hW hS hl => ?_)
  have hown : s.vm.findClass RX5 = some m.cls := hown
  have hW : k_H g ad t s.heap := hW
  have hl : lv_has ls 3 [(0, .ref (ad 9 0)), (1, .int (nI w))] := hl
  have hinX5 : ∀ w ∈ wsX50, w ∈ wsX5_pass := by decide +kernel
  refine lv_iload_n hx hb dX5_pass_0 rfl (lv_at hl 1 rfl) ?_
  refine lv_iconst (v := nI 1) hx hb dX5_pass_1 (by decide) ?_
  refine lv_bipush (v := nI 30) hx hb dX5_pass_2 (by decide) ?_
  refine k_ci (va_runS (As := [.int (nI w), .int (nI 1), .int (nI 30)]) (rest := []) ⟨hx, hb, hml, hown, hts⟩ (c_X5_in_t l hlt g ad t (nI w) (nI 1) (nI 30) (k_in_n h1 h2 (by decide))) (va_cwS 3 hts gX5_pass_X5_in rfl rfl rfl (by decide +kernel) ⟨(Nat.le_of_ble_eq_true rfl), (Nat.le_of_ble_eq_true rfl)⟩) ⟨k_blind, fun U hU hw => ⟨rfl, k_I.of hK hZ hN hS hW hU hw⟩⟩ rfl rfl hl.1 rfl (lv_room (Nat.le_of_ble_eq_true rfl)) dX5_pass_4 ⟨(Nat.le_of_ble_eq_true rfl), (Nat.le_of_ble_eq_true rfl)⟩) hS (fun r u H locs hpo hW hS => ?_)
  obtain ⟨hr9, hu9⟩ := hpo; replace hu9 := hu9.symm; subst hu9; replace hr9 := hr9.symm; subst hr9
  refine lv_istore_n (lv' := [(2, .int (nI 1)), (0, .ref (ad 9 0)), (1, .int (nI w))]) hx hb dX5_pass_7 rfl hl (by decide) rfl (fun ls hl => ?_)
  refine lv_aload_n hx hb dX5_pass_8 rfl (lv_at hl 1 rfl) ?_
  refine lv_iload_n hx hb dX5_pass_9 rfl (lv_at hl 0 rfl) ?_
  refine lv_iload_n hx hb dX5_pass_10 rfl (lv_at hl 0 rfl) ?_
  refine lv_if_eq (tgt := 30) hx hb dX5_pass_11 (by decide) (fun h_11 => absurd h_11 (by decide)) (fun h_11 => ?_)
  refine lv_aload_n hx hb dX5_pass_14 rfl (lv_at hl 1 rfl) ?_
  refine k_get (own := RX5) (C := RX5) (T := TX5) (N := 21) hx hb hts hinX5 hown hK hW (kc_9 g ad t) rfl 3 (by decide) (hts (.fieldLink RX5 84 "DrillVaultModel" "day" "I") (by decide +kernel)) rfl (v := .int (nI (m_d t))) rfl dX5_pass_15 ?_
  refine lv_iload_n hx hb dX5_pass_18 rfl (lv_at hl 2 rfl) ?_
  refine k_iadd hx hb dX5_pass_19 ?_
  refine lv_sipush (v := nI 360) hx hb dX5_pass_20 (by decide) ?_
  refine k_icmp_gt (tgt := 30) hx hb (a := (m_d t) + w) (b := 360) (by omega) (by decide) dX5_pass_23 (by decide) (fun h_23 => ?_) (fun h_23 => absurd h_23 (by omega))
  refine lv_iconst (v := nI 0) hx hb dX5_pass_30 (by decide) ?_
  refine lv_iconst (v := nI 1) hx hb dX5_pass_31 (by decide) ?_
  refine k_ci (va_runV (As := [.int (nI 1), .int (nI 0), .int (nI 1)]) (rest := []) ⟨hx, hb, hml, hown, hts⟩ (c_X5_goes_2 l hlt g ad t (nI 1) ) (cwV 3 hts gX5_pass_X5_goes rfl rfl rfl (by decide +kernel) ⟨(Nat.le_of_ble_eq_true rfl), (Nat.le_of_ble_eq_true rfl)⟩) ⟨k_blind, k_recv hK hW (kc_9 g ad t) rfl, fun U hU hw => ⟨rfl, k_I.of hK hZ hN hS hW hU hw⟩⟩ rfl rfl hl.1 rfl (lv_room (Nat.le_of_ble_eq_true rfl)) dX5_pass_32 ⟨(Nat.le_of_ble_eq_true rfl), (Nat.le_of_ble_eq_true rfl)⟩) hS (fun r u H locs hpo hW hS => ?_)
  obtain ⟨hr9, hu9⟩ := hpo; replace hu9 := hu9.symm; subst hu9; replace hr9 := hr9.symm; subst hr9
  have hW : k_H g ad (set_m_l t 2) H := hW
  refine lv_if_ne (tgt := 40) hx hb dX5_pass_35 (by decide) (fun h_35 => absurd h_35 (by decide)) (fun h_35 => ?_)
  refine lv_iconst (v := nI 0) hx hb dX5_pass_38 (by decide) ?_
  exact k_ri hQ hx hb hr hlk hS hW ⟨rfl, rfl⟩ (Nat.le_of_ble_eq_true rfl) (Nat.le_of_ble_eq_true rfl) dX5_pass_39
set_option maxRecDepth 100000 in
set_option maxHeartbeats 4000000 in
theorem c_X5_pass_ok (l : Launch) (hlt : l.stackTraces = false) (g : k_g) (ad : k_AD) (t : k_T) (w : Nat) (hd : m_d t ≤ 360) (h1 : 1 ≤ w) (h2 : w ≤ 30) (h3 : m_d t + w ≤ 360) : Met l yX5_pass wsX5_pass rm_X5_pass (va_Pc [.ref (ad 9 0), .int (nI w)] (k_I g (k_ct g ad t) ad)) (va_Qi (fun r u => r = nI (m_d t + w) ∧ u = set_m_d (set_m_l t 0) (m_d t + w)) (fun u U => k_H g ad u U.heap) (k_A g)) 0 0 (k_A g) := by
  refine k_met (cc := cX5_pass) (maxL := 3) (ret := (some .int)) (by decide) rfl (Nat.le_of_ble_eq_true rfl) (fun p e s m args below meth c Q ls hQ hx hb hr hml hts hown hlk hin hK hZ hN hW hS hl => ?_)
  have hown : s.vm.findClass RX5 = some m.cls := hown
  have hW : k_H g ad t s.heap := hW
  have hl : lv_has ls 3 [(0, .ref (ad 9 0)), (1, .int (nI w))] := hl
  have hinX5 : ∀ w ∈ wsX50, w ∈ wsX5_pass := by decide +kernel
  refine lv_iload_n hx hb dX5_pass_0 rfl (lv_at hl 1 rfl) ?_
  refine lv_iconst (v := nI 1) hx hb dX5_pass_1 (by decide) ?_
  refine lv_bipush (v := nI 30) hx hb dX5_pass_2 (by decide) ?_
  refine k_ci (va_runS (As := [.int (nI w), .int (nI 1), .int (nI 30)]) (rest := []) ⟨hx, hb, hml, hown, hts⟩ (c_X5_in_t l hlt g ad t (nI w) (nI 1) (nI 30) (k_in_n h1 h2 (by decide))) (va_cwS 3 hts gX5_pass_X5_in rfl rfl rfl (by decide +kernel) ⟨(Nat.le_of_ble_eq_true rfl), (Nat.le_of_ble_eq_true rfl)⟩) ⟨k_blind, fun U hU hw => ⟨rfl, k_I.of hK hZ hN hS hW hU hw⟩⟩ rfl rfl hl.1 rfl (lv_room (Nat.le_of_ble_eq_true rfl)) dX5_pass_4 ⟨(Nat.le_of_ble_eq_true rfl), (Nat.le_of_ble_eq_true rfl)⟩) hS (fun r u H locs hpo hW hS => ?_)
  obtain ⟨hr9, hu9⟩ := hpo; replace hu9 := hu9.symm; subst hu9; replace hr9 := hr9.symm; subst hr9
  refine lv_istore_n (lv' := [(2, .int (nI 1)), (0, .ref (ad 9 0)), (1, .int (nI w))]) hx hb dX5_pass_7 rfl hl (by decide) rfl (fun ls hl => ?_)
  refine lv_aload_n hx hb dX5_pass_8 rfl (lv_at hl 1 rfl) ?_
  refine lv_iload_n hx hb dX5_pass_9 rfl (lv_at hl 0 rfl) ?_
  refine lv_iload_n hx hb dX5_pass_10 rfl (lv_at hl 0 rfl) ?_
  refine lv_if_eq (tgt := 30) hx hb dX5_pass_11 (by decide) (fun h_11 => absurd h_11 (by decide)) (fun h_11 => ?_)
  refine lv_aload_n hx hb dX5_pass_14 rfl (lv_at hl 1 rfl) ?_
  refine k_get (own := RX5) (C := RX5) (T := TX5) (N := 21) hx hb hts hinX5 hown hK hW (kc_9 g ad t) rfl 3 (by decide) (hts (.fieldLink RX5 84 "DrillVaultModel" "day" "I") (by decide +kernel)) rfl (v := .int (nI (m_d t))) rfl dX5_pass_15 ?_
  refine lv_iload_n hx hb dX5_pass_18 rfl (lv_at hl 2 rfl) ?_
  refine k_iadd hx hb dX5_pass_19 ?_
  refine lv_sipush (v := nI 360) hx hb dX5_pass_20 (by decide) ?_
  refine k_icmp_gt (tgt := 30) hx hb (a := (m_d t) + w) (b := 360) (by omega) (by decide) dX5_pass_23 (by decide) (fun h_23 => absurd h_23 (by omega)) (fun h_23 => ?_)
  refine lv_iconst (v := nI 1) hx hb dX5_pass_26 (by decide) ?_
  refine lv_goto (tgt := 31) hx hb dX5_pass_27 (by decide) ?_
  refine lv_iconst (v := nI 1) hx hb dX5_pass_31 (by decide) ?_
  refine k_ci (va_runV (As := [.int (nI 1), .int (nI 1), .int (nI 1)]) (rest := []) ⟨hx, hb, hml, hown, hts⟩ (c_X5_goes_0 l hlt g ad t ) (cwV 3 hts gX5_pass_X5_goes rfl rfl rfl (by decide +kernel) ⟨(Nat.le_of_ble_eq_true rfl), (Nat.le_of_ble_eq_true rfl)⟩) ⟨k_blind, k_recv hK hW (kc_9 g ad t) rfl, fun U hU hw => ⟨rfl, k_I.of hK hZ hN hS hW hU hw⟩⟩ rfl rfl hl.1 rfl (lv_room (Nat.le_of_ble_eq_true rfl)) dX5_pass_32 ⟨(Nat.le_of_ble_eq_true rfl), (Nat.le_of_ble_eq_true rfl)⟩) hS (fun r u H locs hpo hW hS => ?_)
  obtain ⟨hr9, hu9⟩ := hpo; replace hu9 := hu9.symm; subst hu9; replace hr9 := hr9.symm; subst hr9
  have hW : k_H g ad (set_m_l t 0) H := hW
  refine lv_if_ne (tgt := 40) hx hb dX5_pass_35 (by decide) (fun h_35 => ?_) (fun h_35 => absurd h_35 (by decide))
  refine lv_aload_n hx hb dX5_pass_40 rfl (lv_at hl 1 rfl) ?_
  refine lv_dup hx hb dX5_pass_41 rfl ?_
  refine k_get (own := RX5) (C := RX5) (T := TX5) (N := 21) hx hb hts hinX5 hown hK hW (kc_9 g ad (set_m_l t 0)) rfl 3 (by decide) (hts (.fieldLink RX5 84 "DrillVaultModel" "day" "I") (by decide +kernel)) rfl (v := .int (nI (m_d t))) rfl dX5_pass_42 ?_
  refine lv_iload_n hx hb dX5_pass_45 rfl (lv_at hl 2 rfl) ?_
  refine k_iadd hx hb dX5_pass_46 ?_
  refine k_put (own := RX5) (C := RX5) (T := TX5) (N := 21) hx hb hts hinX5 tyX5 tyX5_ok nmX5 hown hK hW hS (kc_9 g ad (set_m_l t 0)) rfl 3 (by decide) (hts (.fieldLink RX5 84 "DrillVaultModel" "day" "I") (by decide +kernel)) rfl rfl (ty := tyX5 3) (v := .int (nI ((m_d t) + w))) (tyX5_ok 3 (by decide)) rfl rfl (Nat.le_of_ble_eq_true rfl) dX5_pass_47 (fun H locs hW hS => ?_)
  have hW : k_H g ad (set_m_d (set_m_l t 0) ((m_d t) + w)) H := kt_m_d (t := set_m_l t 0) ((m_d t) + w) rfl hW
  refine lv_aload_n hx hb dX5_pass_50 rfl (lv_at hl 1 rfl) ?_
  refine k_get (own := RX5) (C := RX5) (T := TX5) (N := 21) hx hb hts hinX5 hown hK hW (kc_9 g ad (set_m_d (set_m_l t 0) ((m_d t) + w))) rfl 3 (by decide) (hts (.fieldLink RX5 84 "DrillVaultModel" "day" "I") (by decide +kernel)) rfl (v := .int (nI ((m_d t) + w))) rfl dX5_pass_51 ?_
  exact k_ri hQ hx hb hr hlk hS hW ⟨rfl, rfl⟩ (Nat.le_of_ble_eq_true rfl) (Nat.le_of_ble_eq_true rfl) dX5_pass_54
abbrev rm_X5_latest : Room := { frames := 0, cells := 0, slots := 0, locals := 0 }
set_option maxRecDepth 100000 in
set_option maxHeartbeats 4000000 in
theorem c_X5_latest (l : Launch) (hlt : l.stackTraces = false) (g : k_g) (ad : k_AD) (t : k_T) (hm60 : m_md t ≤ 60) : Met l yX5_latest wsX5_latest rm_X5_latest (va_Pc [.ref (ad 9 0)] (k_I g (k_ct g ad t) ad)) (va_Qi (fun r u => r = kO (k_la (m_th t) (m_md t)) ∧ u = t) (fun u U => k_H g ad u U.heap) (k_A g)) 0 0 (k_A g) := by
  refine k_met (cc := cX5_latest) (maxL := 3) (ret := (some .int)) (by decide) rfl (Nat.le_of_ble_eq_true rfl) (fun p e s m args below meth c Q ls hQ hx hb hr hml hts hown hlk hin hK hZ hN hW hS hl => ?_)
  have hown : s.vm.findClass RX5 = some m.cls := hown
  have hW : k_H g ad t s.heap := hW
  have hl : lv_has ls 3 [(0, .ref (ad 9 0))] := hl
  have hinX5 : ∀ w ∈ wsX50, w ∈ wsX5_latest := by decide +kernel
  refine lv_iconst (v := (-1)) hx hb dX5_latest_0 (by decide) ?_
  refine lv_istore_n (lv' := [(1, .int (-1)), (0, .ref (ad 9 0))]) hx hb dX5_latest_1 rfl hl (by decide) rfl (fun ls hl => ?_)
  refine lv_iconst (v := nI 0) hx hb dX5_latest_2 (by decide) ?_
  refine lv_istore_n (lv' := [(2, .int (nI 0)), (1, .int (-1)), (0, .ref (ad 9 0))]) hx hb dX5_latest_3 rfl hl (by decide) rfl (fun ls hl => ?_)
  have hloop_4 : ∀ (n : Nat) (i : Nat) (z : Int32), (m_md t < i + n) → (i ≤ m_md t) → (z = kO (k_la (m_th t) i)) → ∀ (H : Heap) (locs : List Loc), k_H g ad t H → va_S (k_A g) s.heap H locs → ∀ (ls : Array Slot), lv_has ls 3 [(0, .ref (ad 9 0)), (1, .int z), (2, .int (nI i))] → W p l e rm_X5_latest s m args below meth c H locs 0 0 Q (F0 m 4 ls []) := by
    intro n
    induction n with
    | zero =>
      intro i z hfu hi hz
      exact absurd hfu (by omega)
    | succ n ih =>
      intro i z hfu hi hz H locs hW hS ls hl
      refine lv_iload_n hx hb dX5_latest_4 rfl (lv_at hl 2 rfl) ?_
      refine lv_aload_n hx hb dX5_latest_5 rfl (lv_at hl 0 rfl) ?_
      refine k_get (own := RX5) (C := RX5) (T := TX5) (N := 21) hx hb hts hinX5 hown hK hW (kc_9 g ad t) rfl 12 (by decide) (hts (.fieldLink RX5 66 "DrillVaultModel" "made" "I") (by decide +kernel)) rfl (v := .int (nI (m_md t))) rfl dX5_latest_6 ?_
      refine k_icmp_ge (tgt := 33) hx hb (a := i) (b := m_md t) (by omega) (by omega) dX5_latest_9 (by decide) (fun h_9 => ?_) (fun h_9 => ?_)
      · refine lv_iload_n hx hb dX5_latest_33 rfl (lv_at hl 1 rfl) ?_
        exact k_ri hQ hx hb hr hlk hS hW ⟨by rw [hz, show i = m_md t by omega], rfl⟩ (Nat.le_of_ble_eq_true rfl) (Nat.le_of_ble_eq_true rfl) dX5_latest_34
      · refine lv_aload_n hx hb dX5_latest_12 rfl (lv_at hl 0 rfl) ?_
        refine k_get (own := RX5) (C := RX5) (T := TX5) (N := 21) hx hb hts hinX5 hown hK hW (kc_9 g ad t) rfl 9 (by decide) (hts (.fieldLink RX5 31 "DrillVaultModel" "there" "[Z") (by decide +kernel)) rfl (v := .ref (ad 17 0)) rfl dX5_latest_13 ?_
        refine lv_iload_n hx hb dX5_latest_16 rfl (lv_at hl 2 rfl) ?_
        refine k_zald hx hb hK hW (kc_17 g ad t) i rfl (by omega) (by decide) dX5_latest_17 ?_
        refine k_ifz_eq (tgt := 25) hx hb dX5_latest_18 (by decide) (fun h_18 => ?_) (fun h_18 => ?_)
        · refine lv_iload_n hx hb dX5_latest_25 rfl (lv_at hl 1 rfl) ?_
          refine lv_istore_n (lv' := [(1, .int z), (0, .ref (ad 9 0)), (2, .int (nI i))]) hx hb dX5_latest_26 rfl hl (by decide) rfl (fun ls hl => ?_)
          refine lv_iinc (v := nI (i + 1)) (lv' := [(2, .int (nI (i + 1))), (1, .int z), (0, .ref (ad 9 0))]) hx hb dX5_latest_27 hl (k := 2) rfl (nI_add _ _) (by decide) rfl (fun ls hl => ?_)
          refine lv_goto (tgt := 4) hx hb dX5_latest_30 (by decide) ?_
          exact ih (i + 1) z (by omega) (by omega) (by rw [k_la, if_neg (by rw [h_18]; decide)]; exact hz) _ _ hW hS _ (lv_sub hl [2, 1, 0] rfl)
        · refine lv_iload_n hx hb dX5_latest_21 rfl (lv_at hl 2 rfl) ?_
          refine lv_goto (tgt := 26) hx hb dX5_latest_22 (by decide) ?_
          refine lv_istore_n (lv' := [(1, .int (nI i)), (0, .ref (ad 9 0)), (2, .int (nI i))]) hx hb dX5_latest_26 rfl hl (by decide) rfl (fun ls hl => ?_)
          refine lv_iinc (v := nI (i + 1)) (lv' := [(2, .int (nI (i + 1))), (1, .int (nI i)), (0, .ref (ad 9 0))]) hx hb dX5_latest_27 hl (k := 2) rfl (nI_add _ _) (by decide) rfl (fun ls hl => ?_)
          refine lv_goto (tgt := 4) hx hb dX5_latest_30 (by decide) ?_
          exact ih (i + 1) (nI i) (by omega) (by omega) (by rw [k_la, if_pos h_18]; rfl) _ _ hW hS _ (lv_sub hl [2, 1, 0] rfl)
  exact hloop_4 (m_md t + 1) 0 (-1) (by omega) (by omega) rfl _ _ hW hS _ (lv_sub hl [2, 1, 0] rfl)
abbrev rm_X5_promises : Room := { frames := 0, cells := 0, slots := 0, locals := 0 }
set_option maxRecDepth 100000 in
set_option maxHeartbeats 4000000 in
theorem c_X5_promises_0 (l : Launch) (hlt : l.stackTraces = false) (g : k_g) (ad : k_AD) (t : k_T) (w : Nat) (hw : w ≤ 30) (hm60 : m_md t ≤ 60) (hmo : ∀ j, j < m_md t → m_on t j ≤ 360) : Met l yX5_promises wsX5_promises rm_X5_promises (va_Pc [.ref (ad 9 0), .int (nI 1), .int (nI w)] (k_I g (k_ct g ad t) ad)) (va_Qv (fun u => u = set_m_pm t (fun j9 => (m_pm t) j9 || k_sel (m_th t) (fun j => k_pd 0 (m_on t j)) (m_md t) w (-1) j9)) (fun u U => k_H g ad u U.heap) (k_A g)) 0 0 (k_A g) := by
  refine k_met (cc := cX5_promises) (maxL := 6) (ret := none) (by decide) rfl (Nat.le_of_ble_eq_true rfl) (fun p e s m args below meth c Q ls hQ hx hb hr hml hts hown hlk hin hK hZ hN hW hS hl => ?_)
  have hown : s.vm.findClass RX5 = some m.cls := hown
  have hW : k_H g ad t s.heap := hW
  have hl : lv_has ls 6 [(0, .ref (ad 9 0)), (1, .int (nI 1)), (2, .int (nI w))] := hl
  have hinX5 : ∀ w ∈ wsX50, w ∈ wsX5_promises := by decide +kernel
  refine lv_iload_n hx hb dX5_promises_0 rfl (lv_at hl 2 rfl) ?_
  refine lv_istore_n (lv' := [(3, .int (nI w)), (0, .ref (ad 9 0)), (1, .int (nI 1)), (2, .int (nI w))]) hx hb dX5_promises_1 rfl hl (by decide) rfl (fun ls hl => ?_)
  refine lv_iconst (v := (-1)) hx hb dX5_promises_2 (by decide) ?_
  refine lv_istore (lv' := [(4, .int (-1)), (3, .int (nI w)), (0, .ref (ad 9 0)), (1, .int (nI 1)), (2, .int (nI w))]) hx hb dX5_promises_3 hl (by decide) rfl (fun ls hl => ?_)
  refine lv_aload_n hx hb dX5_promises_5 rfl (lv_at hl 2 rfl) ?_
  refine k_get (own := RX5) (C := RX5) (T := TX5) (N := 21) hx hb hts hinX5 hown hK hW (kc_9 g ad t) rfl 12 (by decide) (hts (.fieldLink RX5 66 "DrillVaultModel" "made" "I") (by decide +kernel)) rfl (v := .int (nI (m_md t))) rfl dX5_promises_6 ?_
  refine lv_iconst (v := nI 1) hx hb dX5_promises_9 (by decide) ?_
  refine lv_isub hx hb dX5_promises_10 ?_
  refine k_toi (k_m1 _) ?_
  refine lv_istore (lv' := [(5, .int (nI (m_md t) + (-1))), (4, .int (-1)), (3, .int (nI w)), (0, .ref (ad 9 0)), (1, .int (nI 1)), (2, .int (nI w))]) hx hb dX5_promises_11 hl (by decide) rfl (fun ls hl => ?_)
  have hloop_13 : ∀ (r : Nat) (y : Int32) (lf : Nat) (z : Int32) (Pm : Nat → Bool), (r ≤ m_md t) → (y = nI lf) → (lf ≤ 30) → (∀ j, (fun j => m_pm t j || k_sel (m_th t) (fun j => k_pd 0 (m_on t j)) (m_md t) w (-1) j) j = (Pm j || k_sel (m_th t) (fun j => k_pd 0 (m_on t j)) r lf z j)) → ∀ (H : Heap) (locs : List Loc), k_H g ad (set_m_pm t Pm) H → va_S (k_A g) s.heap H locs → ∀ (ls : Array Slot), lv_has ls 6 [(0, .ref (ad 9 0)), (1, .int (nI 1)), (3, .int y), (4, .int z), (5, .int (nI r + (-1)))] → W p l e rm_X5_promises s m args below meth c H locs 0 0 Q (F0 m 13 ls []) := by
    intro r
    induction r with
    | zero =>
      intro y lf z Pm hr60 hy hlf hP H locs hW hS ls hl
      refine lv_iload hx hb dX5_promises_13 (lv_at hl 4 rfl) ?_
      refine lv_if_lt (tgt := 74) hx hb dX5_promises_15 (by decide) (fun h_15 => ?_) (fun h_15 => absurd k_n0 h_15)
      exact k_rv hQ hx hb hr hlk hS hW (by rw [show Pm = (fun j => m_pm t j || k_sel (m_th t) (fun j => k_pd 0 (m_on t j)) (m_md t) w (-1) j) from funext fun j => ((hP j).trans (Bool.or_false _)).symm]) (Nat.le_of_ble_eq_true rfl) (Nat.le_of_ble_eq_true rfl) dX5_promises_74
    | succ r ih =>
      intro y lf z Pm hr60 hy hlf hP H locs hW hS ls hl
      rw [k_dec] at hl
      subst hy
      refine lv_iload hx hb dX5_promises_13 (lv_at hl 4 rfl) ?_
      refine k_if_lt (tgt := 74) hx hb (by omega) dX5_promises_15 (by decide) ?_
      refine lv_iload_n hx hb dX5_promises_18 rfl (lv_at hl 2 rfl) ?_
      refine k_if_le (tgt := 74) hx hb (by omega) dX5_promises_19 (by decide) (fun h_19 => ?_) (fun h_19 => ?_)
      · exact k_rv hQ hx hb hr hlk hS hW (by rw [show Pm = (fun j => m_pm t j || k_sel (m_th t) (fun j => k_pd 0 (m_on t j)) (m_md t) w (-1) j) from funext fun j => ((hP j).trans (by rw [h_19, k_sel_0, Bool.or_false])).symm]) (Nat.le_of_ble_eq_true rfl) (Nat.le_of_ble_eq_true rfl) dX5_promises_74
      · refine lv_aload_n hx hb dX5_promises_22 rfl (lv_at hl 0 rfl) ?_
        refine k_get (own := RX5) (C := RX5) (T := TX5) (N := 21) hx hb hts hinX5 hown hK hW (kc_9 g ad (set_m_pm t Pm)) rfl 9 (by decide) (hts (.fieldLink RX5 31 "DrillVaultModel" "there" "[Z") (by decide +kernel)) rfl (v := .ref (ad 17 0)) rfl dX5_promises_23 ?_
        refine lv_iload hx hb dX5_promises_26 (lv_at hl 4 rfl) ?_
        refine k_zald hx hb hK hW (kc_17 g ad (set_m_pm t Pm)) r rfl (by omega) (by decide) dX5_promises_28 ?_
        refine k_ifz_eq (tgt := 68) hx hb dX5_promises_29 (by decide) (fun h_29 => ?_) (fun h_29 => ?_)
        · refine lv_iinc (v := nI r + (-1)) (lv' := [(5, .int (nI r + (-1))), (0, .ref (ad 9 0)), (1, .int (nI 1)), (3, .int (nI lf)), (4, .int z)]) hx hb dX5_promises_68 hl (k := 4) rfl rfl (by decide) rfl (fun ls hl => ?_)
          refine lv_goto (tgt := 13) hx hb dX5_promises_71 (by decide) ?_
          exact ih (nI lf) lf z Pm (by omega) rfl (by omega) (fun j => (hP j).trans (by rw [k_sel_n (th := m_th t) (pd := (fun j => k_pd 0 (m_on t j))) (i := r) (fun q => by have h9 := h_29.symm.trans q.1; cases h9)])) _ _ hW hS _ (lv_sub hl [1, 2, 3, 4, 0] rfl)
        · refine lv_aload_n hx hb dX5_promises_32 rfl (lv_at hl 0 rfl) ?_
          refine k_get (own := RX5) (C := RX5) (T := TX5) (N := 21) hx hb hts hinX5 hown hK hW (kc_9 g ad (set_m_pm t Pm)) rfl 4 (by decide) (hts (.fieldLink RX5 16 "DrillVaultModel" "days" "[I") (by decide +kernel)) rfl (v := .ref (ad 12 0)) rfl dX5_promises_33 ?_
          refine lv_iload hx hb dX5_promises_36 (lv_at hl 4 rfl) ?_
          refine k_iald hx hb hK hW (kc_12 g ad (set_m_pm t Pm)) r rfl (by omega) (by decide) dX5_promises_38 ?_
          refine lv_iload_n hx hb dX5_promises_39 rfl (lv_at hl 1 rfl) ?_
          refine lv_idiv hx hb dX5_promises_40 (by decide) ?_
          refine k_toi (pk_div (Nat.lt_of_le_of_lt (hmo r (by omega)) (by decide)) (by decide) (by decide)) ?_
          refine k_toi (y := nI (k_pd 0 (m_on t r))) (by rw [Nat.div_one]; rfl) ?_
          refine lv_iload hx hb dX5_promises_41 (lv_at hl 3 rfl) ?_
          refine lv_icmp_eq (tgt := 68) hx hb dX5_promises_43 (by decide) (fun h_43 => ?_) (fun h_43 => ?_)
          · refine lv_iinc (v := nI r + (-1)) (lv' := [(5, .int (nI r + (-1))), (0, .ref (ad 9 0)), (1, .int (nI 1)), (3, .int (nI lf)), (4, .int z)]) hx hb dX5_promises_68 hl (k := 4) rfl rfl (by decide) rfl (fun ls hl => ?_)
            refine lv_goto (tgt := 13) hx hb dX5_promises_71 (by decide) ?_
            exact ih (nI lf) lf z Pm (by omega) rfl (by omega) (fun j => (hP j).trans (by rw [k_sel_n (th := m_th t) (pd := (fun j => k_pd 0 (m_on t j))) (i := r) (fun q => q.2 h_43)])) _ _ hW hS _ (lv_sub hl [1, 2, 3, 4, 0] rfl)
          · refine lv_aload_n hx hb dX5_promises_46 rfl (lv_at hl 0 rfl) ?_
            refine k_get (own := RX5) (C := RX5) (T := TX5) (N := 21) hx hb hts hinX5 hown hK hW (kc_9 g ad (set_m_pm t Pm)) rfl 4 (by decide) (hts (.fieldLink RX5 16 "DrillVaultModel" "days" "[I") (by decide +kernel)) rfl (v := .ref (ad 12 0)) rfl dX5_promises_47 ?_
            refine lv_iload hx hb dX5_promises_50 (lv_at hl 4 rfl) ?_
            refine k_iald hx hb hK hW (kc_12 g ad (set_m_pm t Pm)) r rfl (by omega) (by decide) dX5_promises_52 ?_
            refine lv_iload_n hx hb dX5_promises_53 rfl (lv_at hl 1 rfl) ?_
            refine lv_idiv hx hb dX5_promises_54 (by decide) ?_
            refine k_toi (pk_div (Nat.lt_of_le_of_lt (hmo r (by omega)) (by decide)) (by decide) (by decide)) ?_
            refine k_toi (y := nI (k_pd 0 (m_on t r))) (by rw [Nat.div_one]; rfl) ?_
            refine lv_istore (lv' := [(4, .int (nI (k_pd 0 (m_on t r)))), (0, .ref (ad 9 0)), (1, .int (nI 1)), (3, .int (nI lf)), (5, .int (nI r))]) hx hb dX5_promises_55 hl (by decide) rfl (fun ls hl => ?_)
            refine lv_aload_n hx hb dX5_promises_57 rfl (lv_at hl 1 rfl) ?_
            refine k_get (own := RX5) (C := RX5) (T := TX5) (N := 21) hx hb hts hinX5 hown hK hW (kc_9 g ad (set_m_pm t Pm)) rfl 16 (by decide) (hts (.fieldLink RX5 51 "DrillVaultModel" "promised" "[Z") (by decide +kernel)) rfl (v := .ref (ad 20 0)) rfl dX5_promises_58 ?_
            refine lv_iload hx hb dX5_promises_61 (lv_at hl 4 rfl) ?_
            refine lv_iconst (v := nI 1) hx hb dX5_promises_63 (by decide) ?_
            refine k_zast hx hb hK hW hS (kc_20 g ad (set_m_pm t Pm)) rfl r rfl (by omega) (by decide) dX5_promises_64 (fun H locs hW hS => ?_)
            have hW : k_H g ad (set_m_pm t (va_up Pm r true)) H := kt_m_pm (t := set_m_pm t Pm) r true rfl hW
            refine lv_iinc (v := nI lf + (-1)) (lv' := [(3, .int (nI lf + (-1))), (4, .int (nI (k_pd 0 (m_on t r)))), (0, .ref (ad 9 0)), (1, .int (nI 1)), (5, .int (nI r))]) hx hb dX5_promises_65 hl (k := 3) rfl rfl (by decide) rfl (fun ls hl => ?_)
            refine lv_iinc (v := nI r + (-1)) (lv' := [(5, .int (nI r + (-1))), (3, .int (nI lf + (-1))), (4, .int (nI (k_pd 0 (m_on t r)))), (0, .ref (ad 9 0)), (1, .int (nI 1))]) hx hb dX5_promises_68 hl (k := 4) rfl rfl (by decide) rfl (fun ls hl => ?_)
            refine lv_goto (tgt := 13) hx hb dX5_promises_71 (by decide) ?_
            exact ih (nI lf + (-1)) (lf - 1) (nI (k_pd 0 (m_on t r))) (va_up Pm r true) (by omega) (sb_m1 h_19) (by omega) (k_sel_by hP h_19 h_29 (fun q => h_43 q)) _ _ hW hS _ (lv_sub hl [3, 4, 1, 2, 0] rfl)
  exact hloop_13 (m_md t) (nI w) w (-1) (m_pm t) (Nat.le_refl _) rfl hw (fun j => rfl) _ _ hW hS _ (lv_sub hl [3, 4, 2, 1, 0] rfl)
set_option maxRecDepth 100000 in
set_option maxHeartbeats 4000000 in
theorem c_X5_promises_1 (l : Launch) (hlt : l.stackTraces = false) (g : k_g) (ad : k_AD) (t : k_T) (w : Nat) (hw : w ≤ 30) (hm60 : m_md t ≤ 60) (hmo : ∀ j, j < m_md t → m_on t j ≤ 360) : Met l yX5_promises wsX5_promises rm_X5_promises (va_Pc [.ref (ad 9 0), .int (nI 7), .int (nI w)] (k_I g (k_ct g ad t) ad)) (va_Qv (fun u => u = set_m_pm t (fun j9 => (m_pm t) j9 || k_sel (m_th t) (fun j => k_pd 1 (m_on t j)) (m_md t) w (-1) j9)) (fun u U => k_H g ad u U.heap) (k_A g)) 0 0 (k_A g) := by
  refine k_met (cc := cX5_promises) (maxL := 6) (ret := none) (by decide) rfl (Nat.le_of_ble_eq_true rfl) (fun p e s m args below meth c Q ls hQ hx hb hr hml hts hown hlk hin hK hZ hN hW hS hl => ?_)
  have hown : s.vm.findClass RX5 = some m.cls := hown
  have hW : k_H g ad t s.heap := hW
  have hl : lv_has ls 6 [(0, .ref (ad 9 0)), (1, .int (nI 7)), (2, .int (nI w))] := hl
  have hinX5 : ∀ w ∈ wsX50, w ∈ wsX5_promises := by decide +kernel
  refine lv_iload_n hx hb dX5_promises_0 rfl (lv_at hl 2 rfl) ?_
  refine lv_istore_n (lv' := [(3, .int (nI w)), (0, .ref (ad 9 0)), (1, .int (nI 7)), (2, .int (nI w))]) hx hb dX5_promises_1 rfl hl (by decide) rfl (fun ls hl => ?_)
  refine lv_iconst (v := (-1)) hx hb dX5_promises_2 (by decide) ?_
  refine lv_istore (lv' := [(4, .int (-1)), (3, .int (nI w)), (0, .ref (ad 9 0)), (1, .int (nI 7)), (2, .int (nI w))]) hx hb dX5_promises_3 hl (by decide) rfl (fun ls hl => ?_)
  refine lv_aload_n hx hb dX5_promises_5 rfl (lv_at hl 2 rfl) ?_
  refine k_get (own := RX5) (C := RX5) (T := TX5) (N := 21) hx hb hts hinX5 hown hK hW (kc_9 g ad t) rfl 12 (by decide) (hts (.fieldLink RX5 66 "DrillVaultModel" "made" "I") (by decide +kernel)) rfl (v := .int (nI (m_md t))) rfl dX5_promises_6 ?_
  refine lv_iconst (v := nI 1) hx hb dX5_promises_9 (by decide) ?_
  refine lv_isub hx hb dX5_promises_10 ?_
  refine k_toi (k_m1 _) ?_
  refine lv_istore (lv' := [(5, .int (nI (m_md t) + (-1))), (4, .int (-1)), (3, .int (nI w)), (0, .ref (ad 9 0)), (1, .int (nI 7)), (2, .int (nI w))]) hx hb dX5_promises_11 hl (by decide) rfl (fun ls hl => ?_)
  have hloop_13 : ∀ (r : Nat) (y : Int32) (lf : Nat) (z : Int32) (Pm : Nat → Bool), (r ≤ m_md t) → (y = nI lf) → (lf ≤ 30) → (∀ j, (fun j => m_pm t j || k_sel (m_th t) (fun j => k_pd 1 (m_on t j)) (m_md t) w (-1) j) j = (Pm j || k_sel (m_th t) (fun j => k_pd 1 (m_on t j)) r lf z j)) → ∀ (H : Heap) (locs : List Loc), k_H g ad (set_m_pm t Pm) H → va_S (k_A g) s.heap H locs → ∀ (ls : Array Slot), lv_has ls 6 [(0, .ref (ad 9 0)), (1, .int (nI 7)), (3, .int y), (4, .int z), (5, .int (nI r + (-1)))] → W p l e rm_X5_promises s m args below meth c H locs 0 0 Q (F0 m 13 ls []) := by
    intro r
    induction r with
    | zero =>
      intro y lf z Pm hr60 hy hlf hP H locs hW hS ls hl
      refine lv_iload hx hb dX5_promises_13 (lv_at hl 4 rfl) ?_
      refine lv_if_lt (tgt := 74) hx hb dX5_promises_15 (by decide) (fun h_15 => ?_) (fun h_15 => absurd k_n0 h_15)
      exact k_rv hQ hx hb hr hlk hS hW (by rw [show Pm = (fun j => m_pm t j || k_sel (m_th t) (fun j => k_pd 1 (m_on t j)) (m_md t) w (-1) j) from funext fun j => ((hP j).trans (Bool.or_false _)).symm]) (Nat.le_of_ble_eq_true rfl) (Nat.le_of_ble_eq_true rfl) dX5_promises_74
    | succ r ih =>
      intro y lf z Pm hr60 hy hlf hP H locs hW hS ls hl
      rw [k_dec] at hl
      subst hy
      refine lv_iload hx hb dX5_promises_13 (lv_at hl 4 rfl) ?_
      refine k_if_lt (tgt := 74) hx hb (by omega) dX5_promises_15 (by decide) ?_
      refine lv_iload_n hx hb dX5_promises_18 rfl (lv_at hl 2 rfl) ?_
      refine k_if_le (tgt := 74) hx hb (by omega) dX5_promises_19 (by decide) (fun h_19 => ?_) (fun h_19 => ?_)
      · exact k_rv hQ hx hb hr hlk hS hW (by rw [show Pm = (fun j => m_pm t j || k_sel (m_th t) (fun j => k_pd 1 (m_on t j)) (m_md t) w (-1) j) from funext fun j => ((hP j).trans (by rw [h_19, k_sel_0, Bool.or_false])).symm]) (Nat.le_of_ble_eq_true rfl) (Nat.le_of_ble_eq_true rfl) dX5_promises_74
      · refine lv_aload_n hx hb dX5_promises_22 rfl (lv_at hl 0 rfl) ?_
        refine k_get (own := RX5) (C := RX5) (T := TX5) (N := 21) hx hb hts hinX5 hown hK hW (kc_9 g ad (set_m_pm t Pm)) rfl 9 (by decide) (hts (.fieldLink RX5 31 "DrillVaultModel" "there" "[Z") (by decide +kernel)) rfl (v := .ref (ad 17 0)) rfl dX5_promises_23 ?_
        refine lv_iload hx hb dX5_promises_26 (lv_at hl 4 rfl) ?_
        refine k_zald hx hb hK hW (kc_17 g ad (set_m_pm t Pm)) r rfl (by omega) (by decide) dX5_promises_28 ?_
        refine k_ifz_eq (tgt := 68) hx hb dX5_promises_29 (by decide) (fun h_29 => ?_) (fun h_29 => ?_)
        · refine lv_iinc (v := nI r + (-1)) (lv' := [(5, .int (nI r + (-1))), (0, .ref (ad 9 0)), (1, .int (nI 7)), (3, .int (nI lf)), (4, .int z)]) hx hb dX5_promises_68 hl (k := 4) rfl rfl (by decide) rfl (fun ls hl => ?_)
          refine lv_goto (tgt := 13) hx hb dX5_promises_71 (by decide) ?_
          exact ih (nI lf) lf z Pm (by omega) rfl (by omega) (fun j => (hP j).trans (by rw [k_sel_n (th := m_th t) (pd := (fun j => k_pd 1 (m_on t j))) (i := r) (fun q => by have h9 := h_29.symm.trans q.1; cases h9)])) _ _ hW hS _ (lv_sub hl [1, 2, 3, 4, 0] rfl)
        · refine lv_aload_n hx hb dX5_promises_32 rfl (lv_at hl 0 rfl) ?_
          refine k_get (own := RX5) (C := RX5) (T := TX5) (N := 21) hx hb hts hinX5 hown hK hW (kc_9 g ad (set_m_pm t Pm)) rfl 4 (by decide) (hts (.fieldLink RX5 16 "DrillVaultModel" "days" "[I") (by decide +kernel)) rfl (v := .ref (ad 12 0)) rfl dX5_promises_33 ?_
          refine lv_iload hx hb dX5_promises_36 (lv_at hl 4 rfl) ?_
          refine k_iald hx hb hK hW (kc_12 g ad (set_m_pm t Pm)) r rfl (by omega) (by decide) dX5_promises_38 ?_
          refine lv_iload_n hx hb dX5_promises_39 rfl (lv_at hl 1 rfl) ?_
          refine lv_idiv hx hb dX5_promises_40 (by decide) ?_
          refine k_toi (pk_div (Nat.lt_of_le_of_lt (hmo r (by omega)) (by decide)) (by decide) (by decide)) ?_
          refine k_toi (y := nI (k_pd 1 (m_on t r))) rfl ?_
          refine lv_iload hx hb dX5_promises_41 (lv_at hl 3 rfl) ?_
          refine lv_icmp_eq (tgt := 68) hx hb dX5_promises_43 (by decide) (fun h_43 => ?_) (fun h_43 => ?_)
          · refine lv_iinc (v := nI r + (-1)) (lv' := [(5, .int (nI r + (-1))), (0, .ref (ad 9 0)), (1, .int (nI 7)), (3, .int (nI lf)), (4, .int z)]) hx hb dX5_promises_68 hl (k := 4) rfl rfl (by decide) rfl (fun ls hl => ?_)
            refine lv_goto (tgt := 13) hx hb dX5_promises_71 (by decide) ?_
            exact ih (nI lf) lf z Pm (by omega) rfl (by omega) (fun j => (hP j).trans (by rw [k_sel_n (th := m_th t) (pd := (fun j => k_pd 1 (m_on t j))) (i := r) (fun q => q.2 h_43)])) _ _ hW hS _ (lv_sub hl [1, 2, 3, 4, 0] rfl)
          · refine lv_aload_n hx hb dX5_promises_46 rfl (lv_at hl 0 rfl) ?_
            refine k_get (own := RX5) (C := RX5) (T := TX5) (N := 21) hx hb hts hinX5 hown hK hW (kc_9 g ad (set_m_pm t Pm)) rfl 4 (by decide) (hts (.fieldLink RX5 16 "DrillVaultModel" "days" "[I") (by decide +kernel)) rfl (v := .ref (ad 12 0)) rfl dX5_promises_47 ?_
            refine lv_iload hx hb dX5_promises_50 (lv_at hl 4 rfl) ?_
            refine k_iald hx hb hK hW (kc_12 g ad (set_m_pm t Pm)) r rfl (by omega) (by decide) dX5_promises_52 ?_
            refine lv_iload_n hx hb dX5_promises_53 rfl (lv_at hl 1 rfl) ?_
            refine lv_idiv hx hb dX5_promises_54 (by decide) ?_
            refine k_toi (pk_div (Nat.lt_of_le_of_lt (hmo r (by omega)) (by decide)) (by decide) (by decide)) ?_
            refine k_toi (y := nI (k_pd 1 (m_on t r))) rfl ?_
            refine lv_istore (lv' := [(4, .int (nI (k_pd 1 (m_on t r)))), (0, .ref (ad 9 0)), (1, .int (nI 7)), (3, .int (nI lf)), (5, .int (nI r))]) hx hb dX5_promises_55 hl (by decide) rfl (fun ls hl => ?_)
            refine lv_aload_n hx hb dX5_promises_57 rfl (lv_at hl 1 rfl) ?_
            refine k_get (own := RX5) (C := RX5) (T := TX5) (N := 21) hx hb hts hinX5 hown hK hW (kc_9 g ad (set_m_pm t Pm)) rfl 16 (by decide) (hts (.fieldLink RX5 51 "DrillVaultModel" "promised" "[Z") (by decide +kernel)) rfl (v := .ref (ad 20 0)) rfl dX5_promises_58 ?_
            refine lv_iload hx hb dX5_promises_61 (lv_at hl 4 rfl) ?_
            refine lv_iconst (v := nI 1) hx hb dX5_promises_63 (by decide) ?_
            refine k_zast hx hb hK hW hS (kc_20 g ad (set_m_pm t Pm)) rfl r rfl (by omega) (by decide) dX5_promises_64 (fun H locs hW hS => ?_)
            have hW : k_H g ad (set_m_pm t (va_up Pm r true)) H := kt_m_pm (t := set_m_pm t Pm) r true rfl hW
            refine lv_iinc (v := nI lf + (-1)) (lv' := [(3, .int (nI lf + (-1))), (4, .int (nI (k_pd 1 (m_on t r)))), (0, .ref (ad 9 0)), (1, .int (nI 7)), (5, .int (nI r))]) hx hb dX5_promises_65 hl (k := 3) rfl rfl (by decide) rfl (fun ls hl => ?_)
            refine lv_iinc (v := nI r + (-1)) (lv' := [(5, .int (nI r + (-1))), (3, .int (nI lf + (-1))), (4, .int (nI (k_pd 1 (m_on t r)))), (0, .ref (ad 9 0)), (1, .int (nI 7))]) hx hb dX5_promises_68 hl (k := 4) rfl rfl (by decide) rfl (fun ls hl => ?_)
            refine lv_goto (tgt := 13) hx hb dX5_promises_71 (by decide) ?_
            exact ih (nI lf + (-1)) (lf - 1) (nI (k_pd 1 (m_on t r))) (va_up Pm r true) (by omega) (sb_m1 h_19) (by omega) (k_sel_by hP h_19 h_29 (fun q => h_43 q)) _ _ hW hS _ (lv_sub hl [3, 4, 1, 2, 0] rfl)
  exact hloop_13 (m_md t) (nI w) w (-1) (m_pm t) (Nat.le_refl _) rfl hw (fun j => rfl) _ _ hW hS _ (lv_sub hl [3, 4, 2, 1, 0] rfl)
set_option maxRecDepth 100000 in
set_option maxHeartbeats 4000000 in
theorem c_X5_promises_2 (l : Launch) (hlt : l.stackTraces = false) (g : k_g) (ad : k_AD) (t : k_T) (w : Nat) (hw : w ≤ 30) (hm60 : m_md t ≤ 60) (hmo : ∀ j, j < m_md t → m_on t j ≤ 360) : Met l yX5_promises wsX5_promises rm_X5_promises (va_Pc [.ref (ad 9 0), .int (nI 28), .int (nI w)] (k_I g (k_ct g ad t) ad)) (va_Qv (fun u => u = set_m_pm t (fun j9 => (m_pm t) j9 || k_sel (m_th t) (fun j => k_pd 2 (m_on t j)) (m_md t) w (-1) j9)) (fun u U => k_H g ad u U.heap) (k_A g)) 0 0 (k_A g) := by
  refine k_met (cc := cX5_promises) (maxL := 6) (ret := none) (by decide) rfl (Nat.le_of_ble_eq_true rfl) (fun p e s m args below meth c Q ls hQ hx hb hr hml hts hown hlk hin hK hZ hN hW hS hl => ?_)
  have hown : s.vm.findClass RX5 = some m.cls := hown
  have hW : k_H g ad t s.heap := hW
  have hl : lv_has ls 6 [(0, .ref (ad 9 0)), (1, .int (nI 28)), (2, .int (nI w))] := hl
  have hinX5 : ∀ w ∈ wsX50, w ∈ wsX5_promises := by decide +kernel
  refine lv_iload_n hx hb dX5_promises_0 rfl (lv_at hl 2 rfl) ?_
  refine lv_istore_n (lv' := [(3, .int (nI w)), (0, .ref (ad 9 0)), (1, .int (nI 28)), (2, .int (nI w))]) hx hb dX5_promises_1 rfl hl (by decide) rfl (fun ls hl => ?_)
  refine lv_iconst (v := (-1)) hx hb dX5_promises_2 (by decide) ?_
  refine lv_istore (lv' := [(4, .int (-1)), (3, .int (nI w)), (0, .ref (ad 9 0)), (1, .int (nI 28)), (2, .int (nI w))]) hx hb dX5_promises_3 hl (by decide) rfl (fun ls hl => ?_)
  refine lv_aload_n hx hb dX5_promises_5 rfl (lv_at hl 2 rfl) ?_
  refine k_get (own := RX5) (C := RX5) (T := TX5) (N := 21) hx hb hts hinX5 hown hK hW (kc_9 g ad t) rfl 12 (by decide) (hts (.fieldLink RX5 66 "DrillVaultModel" "made" "I") (by decide +kernel)) rfl (v := .int (nI (m_md t))) rfl dX5_promises_6 ?_
  refine lv_iconst (v := nI 1) hx hb dX5_promises_9 (by decide) ?_
  refine lv_isub hx hb dX5_promises_10 ?_
  refine k_toi (k_m1 _) ?_
  refine lv_istore (lv' := [(5, .int (nI (m_md t) + (-1))), (4, .int (-1)), (3, .int (nI w)), (0, .ref (ad 9 0)), (1, .int (nI 28)), (2, .int (nI w))]) hx hb dX5_promises_11 hl (by decide) rfl (fun ls hl => ?_)
  have hloop_13 : ∀ (r : Nat) (y : Int32) (lf : Nat) (z : Int32) (Pm : Nat → Bool), (r ≤ m_md t) → (y = nI lf) → (lf ≤ 30) → (∀ j, (fun j => m_pm t j || k_sel (m_th t) (fun j => k_pd 2 (m_on t j)) (m_md t) w (-1) j) j = (Pm j || k_sel (m_th t) (fun j => k_pd 2 (m_on t j)) r lf z j)) → ∀ (H : Heap) (locs : List Loc), k_H g ad (set_m_pm t Pm) H → va_S (k_A g) s.heap H locs → ∀ (ls : Array Slot), lv_has ls 6 [(0, .ref (ad 9 0)), (1, .int (nI 28)), (3, .int y), (4, .int z), (5, .int (nI r + (-1)))] → W p l e rm_X5_promises s m args below meth c H locs 0 0 Q (F0 m 13 ls []) := by
    intro r
    induction r with
    | zero =>
      intro y lf z Pm hr60 hy hlf hP H locs hW hS ls hl
      refine lv_iload hx hb dX5_promises_13 (lv_at hl 4 rfl) ?_
      refine lv_if_lt (tgt := 74) hx hb dX5_promises_15 (by decide) (fun h_15 => ?_) (fun h_15 => absurd k_n0 h_15)
      exact k_rv hQ hx hb hr hlk hS hW (by rw [show Pm = (fun j => m_pm t j || k_sel (m_th t) (fun j => k_pd 2 (m_on t j)) (m_md t) w (-1) j) from funext fun j => ((hP j).trans (Bool.or_false _)).symm]) (Nat.le_of_ble_eq_true rfl) (Nat.le_of_ble_eq_true rfl) dX5_promises_74
    | succ r ih =>
      intro y lf z Pm hr60 hy hlf hP H locs hW hS ls hl
      rw [k_dec] at hl
      subst hy
      refine lv_iload hx hb dX5_promises_13 (lv_at hl 4 rfl) ?_
      refine k_if_lt (tgt := 74) hx hb (by omega) dX5_promises_15 (by decide) ?_
      refine lv_iload_n hx hb dX5_promises_18 rfl (lv_at hl 2 rfl) ?_
      refine k_if_le (tgt := 74) hx hb (by omega) dX5_promises_19 (by decide) (fun h_19 => ?_) (fun h_19 => ?_)
      · exact k_rv hQ hx hb hr hlk hS hW (by rw [show Pm = (fun j => m_pm t j || k_sel (m_th t) (fun j => k_pd 2 (m_on t j)) (m_md t) w (-1) j) from funext fun j => ((hP j).trans (by rw [h_19, k_sel_0, Bool.or_false])).symm]) (Nat.le_of_ble_eq_true rfl) (Nat.le_of_ble_eq_true rfl) dX5_promises_74
      · refine lv_aload_n hx hb dX5_promises_22 rfl (lv_at hl 0 rfl) ?_
        refine k_get (own := RX5) (C := RX5) (T := TX5) (N := 21) hx hb hts hinX5 hown hK hW (kc_9 g ad (set_m_pm t Pm)) rfl 9 (by decide) (hts (.fieldLink RX5 31 "DrillVaultModel" "there" "[Z") (by decide +kernel)) rfl (v := .ref (ad 17 0)) rfl dX5_promises_23 ?_
        refine lv_iload hx hb dX5_promises_26 (lv_at hl 4 rfl) ?_
        refine k_zald hx hb hK hW (kc_17 g ad (set_m_pm t Pm)) r rfl (by omega) (by decide) dX5_promises_28 ?_
        refine k_ifz_eq (tgt := 68) hx hb dX5_promises_29 (by decide) (fun h_29 => ?_) (fun h_29 => ?_)
        · refine lv_iinc (v := nI r + (-1)) (lv' := [(5, .int (nI r + (-1))), (0, .ref (ad 9 0)), (1, .int (nI 28)), (3, .int (nI lf)), (4, .int z)]) hx hb dX5_promises_68 hl (k := 4) rfl rfl (by decide) rfl (fun ls hl => ?_)
          refine lv_goto (tgt := 13) hx hb dX5_promises_71 (by decide) ?_
          exact ih (nI lf) lf z Pm (by omega) rfl (by omega) (fun j => (hP j).trans (by rw [k_sel_n (th := m_th t) (pd := (fun j => k_pd 2 (m_on t j))) (i := r) (fun q => by have h9 := h_29.symm.trans q.1; cases h9)])) _ _ hW hS _ (lv_sub hl [1, 2, 3, 4, 0] rfl)
        · refine lv_aload_n hx hb dX5_promises_32 rfl (lv_at hl 0 rfl) ?_
          refine k_get (own := RX5) (C := RX5) (T := TX5) (N := 21) hx hb hts hinX5 hown hK hW (kc_9 g ad (set_m_pm t Pm)) rfl 4 (by decide) (hts (.fieldLink RX5 16 "DrillVaultModel" "days" "[I") (by decide +kernel)) rfl (v := .ref (ad 12 0)) rfl dX5_promises_33 ?_
          refine lv_iload hx hb dX5_promises_36 (lv_at hl 4 rfl) ?_
          refine k_iald hx hb hK hW (kc_12 g ad (set_m_pm t Pm)) r rfl (by omega) (by decide) dX5_promises_38 ?_
          refine lv_iload_n hx hb dX5_promises_39 rfl (lv_at hl 1 rfl) ?_
          refine lv_idiv hx hb dX5_promises_40 (by decide) ?_
          refine k_toi (pk_div (Nat.lt_of_le_of_lt (hmo r (by omega)) (by decide)) (by decide) (by decide)) ?_
          refine k_toi (y := nI (k_pd 2 (m_on t r))) rfl ?_
          refine lv_iload hx hb dX5_promises_41 (lv_at hl 3 rfl) ?_
          refine lv_icmp_eq (tgt := 68) hx hb dX5_promises_43 (by decide) (fun h_43 => ?_) (fun h_43 => ?_)
          · refine lv_iinc (v := nI r + (-1)) (lv' := [(5, .int (nI r + (-1))), (0, .ref (ad 9 0)), (1, .int (nI 28)), (3, .int (nI lf)), (4, .int z)]) hx hb dX5_promises_68 hl (k := 4) rfl rfl (by decide) rfl (fun ls hl => ?_)
            refine lv_goto (tgt := 13) hx hb dX5_promises_71 (by decide) ?_
            exact ih (nI lf) lf z Pm (by omega) rfl (by omega) (fun j => (hP j).trans (by rw [k_sel_n (th := m_th t) (pd := (fun j => k_pd 2 (m_on t j))) (i := r) (fun q => q.2 h_43)])) _ _ hW hS _ (lv_sub hl [1, 2, 3, 4, 0] rfl)
          · refine lv_aload_n hx hb dX5_promises_46 rfl (lv_at hl 0 rfl) ?_
            refine k_get (own := RX5) (C := RX5) (T := TX5) (N := 21) hx hb hts hinX5 hown hK hW (kc_9 g ad (set_m_pm t Pm)) rfl 4 (by decide) (hts (.fieldLink RX5 16 "DrillVaultModel" "days" "[I") (by decide +kernel)) rfl (v := .ref (ad 12 0)) rfl dX5_promises_47 ?_
            refine lv_iload hx hb dX5_promises_50 (lv_at hl 4 rfl) ?_
            refine k_iald hx hb hK hW (kc_12 g ad (set_m_pm t Pm)) r rfl (by omega) (by decide) dX5_promises_52 ?_
            refine lv_iload_n hx hb dX5_promises_53 rfl (lv_at hl 1 rfl) ?_
            refine lv_idiv hx hb dX5_promises_54 (by decide) ?_
            refine k_toi (pk_div (Nat.lt_of_le_of_lt (hmo r (by omega)) (by decide)) (by decide) (by decide)) ?_
            refine k_toi (y := nI (k_pd 2 (m_on t r))) rfl ?_
            refine lv_istore (lv' := [(4, .int (nI (k_pd 2 (m_on t r)))), (0, .ref (ad 9 0)), (1, .int (nI 28)), (3, .int (nI lf)), (5, .int (nI r))]) hx hb dX5_promises_55 hl (by decide) rfl (fun ls hl => ?_)
            refine lv_aload_n hx hb dX5_promises_57 rfl (lv_at hl 1 rfl) ?_
            refine k_get (own := RX5) (C := RX5) (T := TX5) (N := 21) hx hb hts hinX5 hown hK hW (kc_9 g ad (set_m_pm t Pm)) rfl 16 (by decide) (hts (.fieldLink RX5 51 "DrillVaultModel" "promised" "[Z") (by decide +kernel)) rfl (v := .ref (ad 20 0)) rfl dX5_promises_58 ?_
            refine lv_iload hx hb dX5_promises_61 (lv_at hl 4 rfl) ?_
            refine lv_iconst (v := nI 1) hx hb dX5_promises_63 (by decide) ?_
            refine k_zast hx hb hK hW hS (kc_20 g ad (set_m_pm t Pm)) rfl r rfl (by omega) (by decide) dX5_promises_64 (fun H locs hW hS => ?_)
            have hW : k_H g ad (set_m_pm t (va_up Pm r true)) H := kt_m_pm (t := set_m_pm t Pm) r true rfl hW
            refine lv_iinc (v := nI lf + (-1)) (lv' := [(3, .int (nI lf + (-1))), (4, .int (nI (k_pd 2 (m_on t r)))), (0, .ref (ad 9 0)), (1, .int (nI 28)), (5, .int (nI r))]) hx hb dX5_promises_65 hl (k := 3) rfl rfl (by decide) rfl (fun ls hl => ?_)
            refine lv_iinc (v := nI r + (-1)) (lv' := [(5, .int (nI r + (-1))), (3, .int (nI lf + (-1))), (4, .int (nI (k_pd 2 (m_on t r)))), (0, .ref (ad 9 0)), (1, .int (nI 28))]) hx hb dX5_promises_68 hl (k := 4) rfl rfl (by decide) rfl (fun ls hl => ?_)
            refine lv_goto (tgt := 13) hx hb dX5_promises_71 (by decide) ?_
            exact ih (nI lf + (-1)) (lf - 1) (nI (k_pd 2 (m_on t r))) (va_up Pm r true) (by omega) (sb_m1 h_19) (by omega) (k_sel_by hP h_19 h_29 (fun q => h_43 q)) _ _ hW hS _ (lv_sub hl [3, 4, 1, 2, 0] rfl)
  exact hloop_13 (m_md t) (nI w) w (-1) (m_pm t) (Nat.le_refl _) rfl hw (fun j => rfl) _ _ hW hS _ (lv_sub hl [3, 4, 2, 1, 0] rfl)
