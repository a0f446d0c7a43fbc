abbrev rm_X1_contentNow : Room := { frames := 0, cells := 0, slots := 0, locals := 0 }
set_option maxRecDepth 100000 in
set_option maxHeartbeats 4000000 in
/-- the content of a file that is there -/
theorem c_X1_contentNow (l : Launch) (hlt : l.stackTraces = false) (g : k_g) (ad : k_AD) (t : k_T) (j : Nat) (hj : j < 10) : Met l yX1_contentNow wsX1_contentNow rm_X1_contentNow (va_Pc [.ref (ad 1 0), .int (nI j)] (k_I g (k_ct g ad t) ad)) (va_Qi (fun r u => r = f_c t j ∧ u = t) (fun u U => k_H g ad u U.heap) (k_A g)) 0 0 (k_A g) := by
  refine k_met (cc := cX1_contentNow) (maxL := 2) (ret := (some .int)) (by decide) rfl (Nat.le_of_ble_eq_true rfl) (fun p e s m args below meth c Q ls hQ hx hb hr hml hts hown hlk hin hK hZ hN hW hS hl => ?_)
  have hown : s.vm.findClass RX1 = some m.cls := hown
  have hW : k_H g ad t s.heap := hW
  have hl : lv_has ls 2 [(0, .ref (ad 1 0)), (1, .int (nI j))] := hl
  have hinX1 : ∀ w ∈ wsX10, w ∈ wsX1_contentNow := by decide +kernel
  refine lv_iload_n hx hb dX1_contentNow_0 rfl (lv_at hl 1 rfl) ?_
  refine k_if_lt (tgt := 22) hx hb (by omega) dX1_contentNow_1 (by decide) ?_
  refine lv_iload_n hx hb dX1_contentNow_4 rfl (lv_at hl 1 rfl) ?_
  refine lv_aload_n hx hb dX1_contentNow_5 rfl (lv_at hl 0 rfl) ?_
  refine k_get (own := RX1) (C := RX1) (T := TX1) (N := 4) hx hb hts hinX1 hown hK hW (kc_1 g ad t) rfl 0 (by decide) (hts (.fieldLink RX1 9 "DrillVault$Files" "contents" "[I") (by decide +kernel)) rfl (v := .ref (ad 2 0)) rfl dX1_contentNow_6 ?_
  refine k_alen hx hb hK hW 0 rfl (kc_2 g ad t) (v := nI 10) rfl dX1_contentNow_9 ?_
  refine k_icmp_ge (tgt := 22) hx hb (a := j) (b := 10) (by omega) (by decide) dX1_contentNow_10 (by decide) (fun h_10 => absurd h_10 (by omega)) (fun h_10 => ?_)
  refine lv_aload_n hx hb dX1_contentNow_13 rfl (lv_at hl 0 rfl) ?_
  refine k_get (own := RX1) (C := RX1) (T := TX1) (N := 4) hx hb hts hinX1 hown hK hW (kc_1 g ad t) rfl 0 (by decide) (hts (.fieldLink RX1 9 "DrillVault$Files" "contents" "[I") (by decide +kernel)) rfl (v := .ref (ad 2 0)) rfl dX1_contentNow_14 ?_
  refine lv_iload_n hx hb dX1_contentNow_17 rfl (lv_at hl 1 rfl) ?_
  refine k_iald hx hb hK hW (kc_2 g ad t) j rfl (by omega) (by decide) dX1_contentNow_18 ?_
  refine lv_goto (tgt := 23) hx hb dX1_contentNow_19 (by decide) ?_
  exact k_ri hQ hx hb hr hlk hS hW ⟨rfl, rfl⟩ (Nat.le_of_ble_eq_true rfl) (Nat.le_of_ble_eq_true rfl) dX1_contentNow_23
abbrev rm_X1_write : Room := { frames := 0, cells := 0, slots := 0, locals := 0 }
set_option maxRecDepth 100000 in
set_option maxHeartbeats 4000000 in
theorem c_X1_write (l : Launch) (hlt : l.stackTraces = false) (g : k_g) (ad : k_AD) (t : k_T) (j : Nat) (v : Int32) (hj : j < 10) (hn : f_n t < 300) : Met l yX1_write wsX1_write rm_X1_write (va_Pc [.ref (ad 1 0), .int (nI j), .int v] (k_I g (k_ct g ad t) ad)) (va_Qv (fun u => u = set_f_n (set_f_lt (set_f_lf (set_f_c t (va_up (f_c t) j v)) (va_up (f_lf t) (f_n t) j)) (va_up (f_lt t) (f_n t) v)) (f_n t + 1)) (fun u U => k_H g ad u U.heap) (k_A g)) 0 0 (k_A g) := by
  refine k_met (cc := cX1_write) (maxL := 3) (ret := none) (by decide) rfl (Nat.le_of_ble_eq_true rfl) (fun p e s m args below meth c Q ls hQ hx hb hr hml hts hown hlk hin hK hZ hN hW hS hl => ?_)
  have hown : s.vm.findClass RX1 = some m.cls := hown
  have hW : k_H g ad t s.heap := hW
  have hl : lv_has ls 3 [(0, .ref (ad 1 0)), (1, .int (nI j)), (2, .int v)] := hl
  have hinX1 : ∀ w ∈ wsX10, w ∈ wsX1_write := by decide +kernel
  refine lv_iload_n hx hb dX1_write_0 rfl (lv_at hl 1 rfl) ?_
  refine k_if_lt (tgt := 13) hx hb (by omega) dX1_write_1 (by decide) ?_
  refine lv_iload_n hx hb dX1_write_4 rfl (lv_at hl 1 rfl) ?_
  refine lv_aload_n hx hb dX1_write_5 rfl (lv_at hl 0 rfl) ?_
  refine k_get (own := RX1) (C := RX1) (T := TX1) (N := 4) hx hb hts hinX1 hown hK hW (kc_1 g ad t) rfl 0 (by decide) (hts (.fieldLink RX1 9 "DrillVault$Files" "contents" "[I") (by decide +kernel)) rfl (v := .ref (ad 2 0)) rfl dX1_write_6 ?_
  refine k_alen hx hb hK hW 0 rfl (kc_2 g ad t) (v := nI 10) rfl dX1_write_9 ?_
  refine k_icmp_lt (tgt := 14) hx hb (a := j) (b := 10) (by omega) (by decide) dX1_write_10 (by decide) (fun h_10 => ?_) (fun h_10 => absurd h_10 (by omega))
  refine lv_aload_n hx hb dX1_write_14 rfl (lv_at hl 0 rfl) ?_
  refine k_get (own := RX1) (C := RX1) (T := TX1) (N := 4) hx hb hts hinX1 hown hK hW (kc_1 g ad t) rfl 3 (by decide) (hts (.fieldLink RX1 21 "DrillVault$Files" "changes" "I") (by decide +kernel)) rfl (v := .int (nI (f_n t))) rfl dX1_write_15 ?_
  refine k_if_lt (tgt := 45) hx hb (by omega) dX1_write_18 (by decide) ?_
  refine lv_aload_n hx hb dX1_write_21 rfl (lv_at hl 0 rfl) ?_
  refine k_get (own := RX1) (C := RX1) (T := TX1) (N := 4) hx hb hts hinX1 hown hK hW (kc_1 g ad t) rfl 3 (by decide) (hts (.fieldLink RX1 21 "DrillVault$Files" "changes" "I") (by decide +kernel)) rfl (v := .int (nI (f_n t))) rfl dX1_write_22 ?_
  refine lv_aload_n hx hb dX1_write_25 rfl (lv_at hl 0 rfl) ?_
  refine k_get (own := RX1) (C := RX1) (T := TX1) (N := 4) hx hb hts hinX1 hown hK hW (kc_1 g ad t) rfl 1 (by decide) (hts (.fieldLink RX1 15 "DrillVault$Files" "changedFiles" "[I") (by decide +kernel)) rfl (v := .ref (ad 3 0)) rfl dX1_write_26 ?_
  refine k_alen hx hb hK hW 0 rfl (kc_3 g ad t) (v := nI 300) rfl dX1_write_29 ?_
  refine k_icmp_ge (tgt := 45) hx hb (a := f_n t) (b := 300) (by omega) (by decide) dX1_write_30 (by decide) (fun h_30 => absurd h_30 (by omega)) (fun h_30 => ?_)
  refine lv_aload_n hx hb dX1_write_33 rfl (lv_at hl 0 rfl) ?_
  refine k_get (own := RX1) (C := RX1) (T := TX1) (N := 4) hx hb hts hinX1 hown hK hW (kc_1 g ad t) rfl 3 (by decide) (hts (.fieldLink RX1 21 "DrillVault$Files" "changes" "I") (by decide +kernel)) rfl (v := .int (nI (f_n t))) rfl dX1_write_34 ?_
  refine lv_aload_n hx hb dX1_write_37 rfl (lv_at hl 0 rfl) ?_
  refine k_get (own := RX1) (C := RX1) (T := TX1) (N := 4) hx hb hts hinX1 hown hK hW (kc_1 g ad t) rfl 2 (by decide) (hts (.fieldLink RX1 18 "DrillVault$Files" "changedTo" "[I") (by decide +kernel)) rfl (v := .ref (ad 4 0)) rfl dX1_write_38 ?_
  refine k_alen hx hb hK hW 0 rfl (kc_4 g ad t) (v := nI 300) rfl dX1_write_41 ?_
  refine k_icmp_lt (tgt := 46) hx hb (a := f_n t) (b := 300) (by omega) (by decide) dX1_write_42 (by decide) (fun h_42 => ?_) (fun h_42 => absurd h_42 (by omega))
  refine lv_aload_n hx hb dX1_write_46 rfl (lv_at hl 0 rfl) ?_
  refine k_get (own := RX1) (C := RX1) (T := TX1) (N := 4) hx hb hts hinX1 hown hK hW (kc_1 g ad t) rfl 0 (by decide) (hts (.fieldLink RX1 9 "DrillVault$Files" "contents" "[I") (by decide +kernel)) rfl (v := .ref (ad 2 0)) rfl dX1_write_47 ?_
  refine lv_iload_n hx hb dX1_write_50 rfl (lv_at hl 1 rfl) ?_
  refine lv_iload_n hx hb dX1_write_51 rfl (lv_at hl 2 rfl) ?_
  refine k_iast hx hb hK hW hS (kc_2 g ad t) j rfl (by omega) (by decide) dX1_write_52 (fun H locs hW hS => ?_)
  have hW : k_H g ad (set_f_c t (va_up (f_c t) j v)) H := kt_f_c (t := t) j v rfl hW
  refine lv_aload_n hx hb dX1_write_53 rfl (lv_at hl 0 rfl) ?_
  refine k_get (own := RX1) (C := RX1) (T := TX1) (N := 4) hx hb hts hinX1 hown hK hW (kc_1 g ad (set_f_c t (va_up (f_c t) j v))) rfl 1 (by decide) (hts (.fieldLink RX1 15 "DrillVault$Files" "changedFiles" "[I") (by decide +kernel)) rfl (v := .ref (ad 3 0)) rfl dX1_write_54 ?_
  refine lv_aload_n hx hb dX1_write_57 rfl (lv_at hl 0 rfl) ?_
  refine k_get (own := RX1) (C := RX1) (T := TX1) (N := 4) hx hb hts hinX1 hown hK hW (kc_1 g ad (set_f_c t (va_up (f_c t) j v))) rfl 3 (by decide) (hts (.fieldLink RX1 21 "DrillVault$Files" "changes" "I") (by decide +kernel)) rfl (v := .int (nI (f_n t))) rfl dX1_write_58 ?_
  refine lv_iload_n hx hb dX1_write_61 rfl (lv_at hl 1 rfl) ?_
  refine k_iast hx hb hK hW hS (kc_3 g ad (set_f_c t (va_up (f_c t) j v))) (f_n t) rfl (by omega) (by decide) dX1_write_62 (fun H locs hW hS => ?_)
  have hW : k_H g ad (set_f_lf (set_f_c t (va_up (f_c t) j v)) (va_up (f_lf t) (f_n t) j)) H := kt_f_lf (t := set_f_c t (va_up (f_c t) j v)) (f_n t) j rfl hW
  refine lv_aload_n hx hb dX1_write_63 rfl (lv_at hl 0 rfl) ?_
  refine k_get (own := RX1) (C := RX1) (T := TX1) (N := 4) hx hb hts hinX1 hown hK hW (kc_1 g ad (set_f_lf (set_f_c t (va_up (f_c t) j v)) (va_up (f_lf t) (f_n t) j))) rfl 2 (by decide) (hts (.fieldLink RX1 18 "DrillVault$Files" "changedTo" "[I") (by decide +kernel)) rfl (v := .ref (ad 4 0)) rfl dX1_write_64 ?_
  refine lv_aload_n hx hb dX1_write_67 rfl (lv_at hl 0 rfl) ?_
  refine k_get (own := RX1) (C := RX1) (T := TX1) (N := 4) hx hb hts hinX1 hown hK hW (kc_1 g ad (set_f_lf (set_f_c t (va_up (f_c t) j v)) (va_up (f_lf t) (f_n t) j))) rfl 3 (by decide) (hts (.fieldLink RX1 21 "DrillVault$Files" "changes" "I") (by decide +kernel)) rfl (v := .int (nI (f_n t))) rfl dX1_write_68 ?_
  refine lv_iload_n hx hb dX1_write_71 rfl (lv_at hl 2 rfl) ?_
  refine k_iast hx hb hK hW hS (kc_4 g ad (set_f_lf (set_f_c t (va_up (f_c t) j v)) (va_up (f_lf t) (f_n t) j))) (f_n t) rfl (by omega) (by decide) dX1_write_72 (fun H locs hW hS => ?_)
  have hW : k_H g ad (set_f_lt (set_f_lf (set_f_c t (va_up (f_c t) j v)) (va_up (f_lf t) (f_n t) j)) (va_up (f_lt t) (f_n t) v)) H := kt_f_lt (t := set_f_lf (set_f_c t (va_up (f_c t) j v)) (va_up (f_lf t) (f_n t) j)) (f_n t) v rfl hW
  refine lv_aload_n hx hb dX1_write_73 rfl (lv_at hl 0 rfl) ?_
  refine lv_dup hx hb dX1_write_74 rfl ?_
  refine k_get (own := RX1) (C := RX1) (T := TX1) (N := 4) hx hb hts hinX1 hown hK hW (kc_1 g ad (set_f_lt (set_f_lf (set_f_c t (va_up (f_c t) j v)) (va_up (f_lf t) (f_n t) j)) (va_up (f_lt t) (f_n t) v))) rfl 3 (by decide) (hts (.fieldLink RX1 21 "DrillVault$Files" "changes" "I") (by decide +kernel)) rfl (v := .int (nI (f_n t))) rfl dX1_write_75 ?_
  refine lv_iconst (v := nI 1) hx hb dX1_write_78 (by decide) ?_
  refine k_iadd hx hb dX1_write_79 ?_
  refine k_put (own := RX1) (C := RX1) (T := TX1) (N := 4) hx hb hts hinX1 tyX1 tyX1_ok nmX1 hown hK hW hS (kc_1 g ad (set_f_lt (set_f_lf (set_f_c t (va_up (f_c t) j v)) (va_up (f_lf t) (f_n t) j)) (va_up (f_lt t) (f_n t) v))) rfl 3 (by decide) (hts (.fieldLink RX1 21 "DrillVault$Files" "changes" "I") (by decide +kernel)) rfl rfl (ty := tyX1 3) (v := .int (nI ((f_n t) + 1))) (tyX1_ok 3 (by decide)) rfl rfl (Nat.le_of_ble_eq_true rfl) dX1_write_80 (fun H locs hW hS => ?_)
  have hW : k_H g ad (set_f_n (set_f_lt (set_f_lf (set_f_c t (va_up (f_c t) j v)) (va_up (f_lf t) (f_n t) j)) (va_up (f_lt t) (f_n t) v)) ((f_n t) + 1)) H := kt_f_n (t := set_f_lt (set_f_lf (set_f_c t (va_up (f_c t) j v)) (va_up (f_lf t) (f_n t) j)) (va_up (f_lt t) (f_n t) v)) ((f_n t) + 1) rfl hW
  exact k_rv hQ hx hb hr hlk hS hW rfl (Nat.le_of_ble_eq_true rfl) (Nat.le_of_ble_eq_true rfl) dX1_write_83
abbrev rm_X0_keep : Room := { frames := 0, cells := 0, slots := 0, locals := 0 }
set_option maxRecDepth 100000 in
set_option maxHeartbeats 4000000 in
theorem c_X0_keep (l : Launch) (hlt : l.stackTraces = false) (g : k_g) (ad : k_AD) (t : k_T) (k : Nat) (j : Nat) (v : Int32) (hk : k < o_n t) (hj : j < 10) (hv : v ≠ -1) (hc : o_kc t k = k_cnt (o_k t k)) : Met l yX0_keep wsX0_keep rm_X0_keep (va_Pc [.ref (ad 25 k), .int (nI j), .int v] (k_I g (k_ct g ad t) ad)) (va_Qv (fun u => u = set_o_k (set_o_kc t (va_up (o_kc t) k (k_cnt (va_up (o_k t k) j v)))) (va_up (o_k t) k (va_up (o_k t k) j v))) (fun u U => k_H g ad u U.heap) (k_A g)) 0 0 (k_A g) := by
  refine k_met (cc := cX0_keep) (maxL := 3) (ret := none) (by decide) rfl (Nat.le_of_ble_eq_true rfl) (fun p e s m args below meth c Q ls hQ hx hb hr hml hts hown hlk hin hK hZ hN hW hS hl => ?_)
  have hown : s.vm.findClass RX0 = some m.cls := hown
  have hW : k_H g ad t s.heap := hW
  have hl : lv_has ls 3 [(0, .ref (ad 25 k)), (1, .int (nI j)), (2, .int v)] := hl
  have hinX0 : ∀ w ∈ wsX00, w ∈ wsX0_keep := by decide +kernel
  refine lv_iload_n hx hb dX0_keep_0 rfl (lv_at hl 1 rfl) ?_
  refine k_if_lt (tgt := 13) hx hb (by omega) dX0_keep_1 (by decide) ?_
  refine lv_iload_n hx hb dX0_keep_4 rfl (lv_at hl 1 rfl) ?_
  refine lv_aload_n hx hb dX0_keep_5 rfl (lv_at hl 0 rfl) ?_
  refine k_get (own := RX0) (C := RX0) (T := TX0) (N := 11) hx hb hts hinX0 hown hK hW (kc_25 g ad t hk) rfl 4 (by decide) (hts (.fieldLink RX0 9 "DrillVault$Copy" "kept" "[I") (by decide +kernel)) rfl (v := .ref (ad 26 k)) rfl dX0_keep_6 ?_
  refine k_alen hx hb hK hW 0 rfl (kc_26 g ad t hk) (v := nI 10) rfl dX0_keep_9 ?_
  refine k_icmp_lt (tgt := 14) hx hb (a := j) (b := 10) (by omega) (by decide) dX0_keep_10 (by decide) (fun h_10 => ?_) (fun h_10 => absurd h_10 (by omega))
  refine lv_aload_n hx hb dX0_keep_14 rfl (lv_at hl 0 rfl) ?_
  refine k_get (own := RX0) (C := RX0) (T := TX0) (N := 11) hx hb hts hinX0 hown hK hW (kc_25 g ad t hk) rfl 4 (by decide) (hts (.fieldLink RX0 9 "DrillVault$Copy" "kept" "[I") (by decide +kernel)) rfl (v := .ref (ad 26 k)) rfl dX0_keep_15 ?_
  refine lv_iload_n hx hb dX0_keep_18 rfl (lv_at hl 1 rfl) ?_
  refine k_iald hx hb hK hW (kc_26 g ad t hk) j rfl (by omega) (by decide) dX0_keep_19 ?_
  refine lv_iconst (v := (-1)) hx hb dX0_keep_20 (by decide) ?_
  refine lv_icmp_ne (tgt := 34) hx hb dX0_keep_21 (by decide) (fun h_21 => ?_) (fun h_21 => ?_)
  · refine lv_aload_n hx hb dX0_keep_34 rfl (lv_at hl 0 rfl) ?_
    refine k_get (own := RX0) (C := RX0) (T := TX0) (N := 11) hx hb hts hinX0 hown hK hW (kc_25 g ad t hk) rfl 4 (by decide) (hts (.fieldLink RX0 9 "DrillVault$Copy" "kept" "[I") (by decide +kernel)) rfl (v := .ref (ad 26 k)) rfl dX0_keep_35 ?_
    refine lv_iload_n hx hb dX0_keep_38 rfl (lv_at hl 1 rfl) ?_
    refine lv_iload_n hx hb dX0_keep_39 rfl (lv_at hl 2 rfl) ?_
    refine k_iast hx hb hK hW hS (kc_26 g ad t hk) j rfl (by omega) (by decide) dX0_keep_40 (fun H locs hW hS => ?_)
    have hW : k_H g ad (set_o_k t (va_up (o_k t) k (va_up (o_k t k) j v))) H := kt_o_k (t := t) k hk j v hW
    exact k_rv hQ hx hb hr hlk hS hW (by rw [k_cnt_old hv h_21, ← hc, k_up_id]) (Nat.le_of_ble_eq_true rfl) (Nat.le_of_ble_eq_true rfl) dX0_keep_41
  · refine lv_aload_n hx hb dX0_keep_24 rfl (lv_at hl 0 rfl) ?_
    refine lv_dup hx hb dX0_keep_25 rfl ?_
    refine k_get (own := RX0) (C := RX0) (T := TX0) (N := 11) hx hb hts hinX0 hown hK hW (kc_25 g ad t hk) rfl 5 (by decide) (hts (.fieldLink RX0 29 "DrillVault$Copy" "keptContents" "I") (by decide +kernel)) rfl (v := .int (nI (o_kc t k))) rfl dX0_keep_26 ?_
    refine lv_iconst (v := nI 1) hx hb dX0_keep_29 (by decide) ?_
    refine k_iadd hx hb dX0_keep_30 ?_
    refine k_put (own := RX0) (C := RX0) (T := TX0) (N := 11) hx hb hts hinX0 tyX0 tyX0_ok nmX0 hown hK hW hS (kc_25 g ad t hk) rfl 5 (by decide) (hts (.fieldLink RX0 29 "DrillVault$Copy" "keptContents" "I") (by decide +kernel)) rfl rfl (ty := tyX0 5) (v := .int (nI ((o_kc t k) + 1))) (tyX0_ok 5 (by decide)) rfl rfl (Nat.le_of_ble_eq_true rfl) dX0_keep_31 (fun H locs hW hS => ?_)
    have hW : k_H g ad (set_o_kc t (va_up (o_kc t) k ((o_kc t k) + 1))) H := kt_o_kc (t := t) k hk ((o_kc t k) + 1) rfl hW
    refine lv_aload_n hx hb dX0_keep_34 rfl (lv_at hl 0 rfl) ?_
    refine k_get (own := RX0) (C := RX0) (T := TX0) (N := 11) hx hb hts hinX0 hown hK hW (kc_25 g ad (set_o_kc t (va_up (o_kc t) k ((o_kc t k) + 1))) hk) rfl 4 (by decide) (hts (.fieldLink RX0 9 "DrillVault$Copy" "kept" "[I") (by decide +kernel)) rfl (v := .ref (ad 26 k)) rfl dX0_keep_35 ?_
    refine lv_iload_n hx hb dX0_keep_38 rfl (lv_at hl 1 rfl) ?_
    refine lv_iload_n hx hb dX0_keep_39 rfl (lv_at hl 2 rfl) ?_
    refine k_iast hx hb hK hW hS (kc_26 g ad (set_o_kc t (va_up (o_kc t) k ((o_kc t k) + 1))) hk) j rfl (by omega) (by decide) dX0_keep_40 (fun H locs hW hS => ?_)
    have hW : k_H g ad (set_o_k (set_o_kc t (va_up (o_kc t) k ((o_kc t k) + 1))) (va_up (o_k t) k (va_up (o_k t k) j v))) H := kt_o_k (t := set_o_kc t (va_up (o_kc t) k ((o_kc t k) + 1))) k hk j v hW
    exact k_rv hQ hx hb hr hlk hS hW (by rw [k_cnt_new hj hv h_21, ← hc]) (Nat.le_of_ble_eq_true rfl) (Nat.le_of_ble_eq_true rfl) dX0_keep_41
abbrev rm_X0_spaceTaken : Room := { frames := 0, cells := 0, slots := 0, locals := 0 }
set_option maxRecDepth 100000 in
set_option maxHeartbeats 4000000 in
theorem c_X0_spaceTaken (l : Launch) (hlt : l.stackTraces = false) (g : k_g) (ad : k_AD) (t : k_T) (k : Nat) (hk : k < o_n t) : Met l yX0_spaceTaken wsX0_spaceTaken rm_X0_spaceTaken (va_Pc [.ref (ad 25 k)] (k_I g (k_ct g ad t) ad)) (va_Qi (fun r u => r = nI (o_kc t k + 1) ∧ u = t) (fun u U => k_H g ad u U.heap) (k_A g)) 0 0 (k_A g) := by
  refine k_met (cc := cX0_spaceTaken) (maxL := 1) (ret := (some .int)) (by decide) rfl (Nat.le_of_ble_eq_true rfl) (fun p e s m args below meth c Q ls hQ hx hb hr hml hts hown hlk hin hK hZ hN hW hS hl => ?_)
  have hown : s.vm.findClass RX0 = some m.cls := hown
  have hW : k_H g ad t s.heap := hW
  have hl : lv_has ls 1 [(0, .ref (ad 25 k))] := hl
  have hinX0 : ∀ w ∈ wsX00, w ∈ wsX0_spaceTaken := by decide +kernel
  refine lv_aload_n hx hb dX0_spaceTaken_0 rfl (lv_at hl 0 rfl) ?_
  refine k_get (own := RX0) (C := RX0) (T := TX0) (N := 11) hx hb hts hinX0 hown hK hW (kc_25 g ad t hk) rfl 5 (by decide) (hts (.fieldLink RX0 29 "DrillVault$Copy" "keptContents" "I") (by decide +kernel)) rfl (v := .int (nI (o_kc t k))) rfl dX0_spaceTaken_1 ?_
  refine lv_iconst (v := nI 1) hx hb dX0_spaceTaken_4 (by decide) ?_
  refine k_iadd hx hb dX0_spaceTaken_5 ?_
  exact k_ri hQ hx hb hr hlk hS hW ⟨rfl, rfl⟩ (Nat.le_of_ble_eq_true rfl) (Nat.le_of_ble_eq_true rfl) dX0_spaceTaken_6
abbrev rm_X1_contentAfter : Room := { frames := 0, cells := 0, slots := 0, locals := 0 }
set_option maxRecDepth 100000 in
set_option maxHeartbeats 4000000 in
theorem c_X1_contentAfter (l : Launch) (hlt : l.stackTraces = false) (g : k_g) (ad : k_AD) (t : k_T) (w : Nat) (j : Nat) (hm : w ≤ 300) (hj : j < 10) (hlf : ∀ i, i < w → f_lf t i < 10) : Met l yX1_contentAfter wsX1_contentAfter rm_X1_contentAfter (va_Pc [.ref (ad 1 0), .int (nI w), .int (nI j)] (k_I g (k_ct g ad t) ad)) (va_Qi (fun r u => r = k_log (f_lf t) (f_lt t) w j ∧ u = t) (fun u U => k_H g ad u U.heap) (k_A g)) 0 0 (k_A g) := by
  refine k_met (cc := cX1_contentAfter) (maxL := 5) (ret := (some .int)) (by decide) rfl (Nat.le_of_ble_eq_true rfl) (fun p e s m args below meth c Q ls hQ hx hb hr hml hts hown hlk hin hK hZ hN hW hS hl => ?_)
  have hown : s.vm.findClass RX1 = some m.cls := hown
  have hW : k_H g ad t s.heap := hW
  have hl : lv_has ls 5 [(0, .ref (ad 1 0)), (1, .int (nI w)), (2, .int (nI j))] := hl
  have hinX1 : ∀ w ∈ wsX10, w ∈ wsX1_contentAfter := by decide +kernel
  refine lv_iconst (v := nI 0) hx hb dX1_contentAfter_0 (by decide) ?_
  refine lv_istore_n (lv' := [(3, .int (nI 0)), (0, .ref (ad 1 0)), (1, .int (nI w)), (2, .int (nI j))]) hx hb dX1_contentAfter_1 rfl hl (by decide) rfl (fun ls hl => ?_)
  refine lv_iconst (v := nI 0) hx hb dX1_contentAfter_2 (by decide) ?_
  refine lv_istore (lv' := [(4, .int (nI 0)), (3, .int (nI 0)), (0, .ref (ad 1 0)), (1, .int (nI w)), (2, .int (nI j))]) hx hb dX1_contentAfter_3 hl (by decide) rfl (fun ls hl => ?_)
  have hloop_5 : ∀ (n : Nat) (i : Nat) (z : Int32), (w < i + n) → (i ≤ w) → (z = k_log (f_lf t) (f_lt t) i j) → ∀ (H : Heap) (locs : List Loc), k_H g ad t H → va_S (k_A g) s.heap H locs → ∀ (ls : Array Slot), lv_has ls 5 [(0, .ref (ad 1 0)), (1, .int (nI w)), (2, .int (nI j)), (3, .int z), (4, .int (nI i))] → W p l e rm_X1_contentAfter s m args below meth c H locs 0 0 Q (F0 m 5 ls []) := by
    intro n
    induction n with
    | zero =>
      intro i z hfu hi hz
      exact absurd hfu (by omega)
    | succ n ih =>
      intro i z hfu hi hz H locs hW hS ls hl
      refine lv_iload hx hb dX1_contentAfter_5 (lv_at hl 4 rfl) ?_
      refine lv_iload_n hx hb dX1_contentAfter_7 rfl (lv_at hl 1 rfl) ?_
      refine k_icmp_ge (tgt := 56) hx hb (a := i) (b := w) (by omega) (by omega) dX1_contentAfter_8 (by decide) (fun h_8 => ?_) (fun h_8 => ?_)
      · refine lv_iload_n hx hb dX1_contentAfter_56 rfl (lv_at hl 3 rfl) ?_
        exact k_ri hQ hx hb hr hlk hS hW ⟨by rw [hz, show i = w by omega], rfl⟩ (Nat.le_of_ble_eq_true rfl) (Nat.le_of_ble_eq_true rfl) dX1_contentAfter_57
      · refine lv_iload hx hb dX1_contentAfter_11 (lv_at hl 4 rfl) ?_
        refine lv_aload_n hx hb dX1_contentAfter_13 rfl (lv_at hl 0 rfl) ?_
        refine k_get (own := RX1) (C := RX1) (T := TX1) (N := 4) hx hb hts hinX1 hown hK hW (kc_1 g ad t) rfl 1 (by decide) (hts (.fieldLink RX1 15 "DrillVault$Files" "changedFiles" "[I") (by decide +kernel)) rfl (v := .ref (ad 3 0)) rfl dX1_contentAfter_14 ?_
        refine k_alen hx hb hK hW 0 rfl (kc_3 g ad t) (v := nI 300) rfl dX1_contentAfter_17 ?_
        refine k_icmp_ge (tgt := 56) hx hb (a := i) (b := 300) (by omega) (by decide) dX1_contentAfter_18 (by decide) (fun h_18 => absurd h_18 (by omega)) (fun h_18 => ?_)
        refine lv_iload hx hb dX1_contentAfter_21 (lv_at hl 4 rfl) ?_
        refine lv_aload_n hx hb dX1_contentAfter_23 rfl (lv_at hl 0 rfl) ?_
        refine k_get (own := RX1) (C := RX1) (T := TX1) (N := 4) hx hb hts hinX1 hown hK hW (kc_1 g ad t) rfl 2 (by decide) (hts (.fieldLink RX1 18 "DrillVault$Files" "changedTo" "[I") (by decide +kernel)) rfl (v := .ref (ad 4 0)) rfl dX1_contentAfter_24 ?_
        refine k_alen hx hb hK hW 0 rfl (kc_4 g ad t) (v := nI 300) rfl dX1_contentAfter_27 ?_
        refine k_icmp_ge (tgt := 56) hx hb (a := i) (b := 300) (by omega) (by decide) dX1_contentAfter_28 (by decide) (fun h_28 => absurd h_28 (by omega)) (fun h_28 => ?_)
        refine lv_aload_n hx hb dX1_contentAfter_31 rfl (lv_at hl 0 rfl) ?_
        refine k_get (own := RX1) (C := RX1) (T := TX1) (N := 4) hx hb hts hinX1 hown hK hW (kc_1 g ad t) rfl 1 (by decide) (hts (.fieldLink RX1 15 "DrillVault$Files" "changedFiles" "[I") (by decide +kernel)) rfl (v := .ref (ad 3 0)) rfl dX1_contentAfter_32 ?_
        refine lv_iload hx hb dX1_contentAfter_35 (lv_at hl 4 rfl) ?_
        refine k_iald hx hb hK hW (kc_3 g ad t) i rfl (by omega) (by decide) dX1_contentAfter_37 ?_
        refine lv_iload_n hx hb dX1_contentAfter_38 rfl (lv_at hl 2 rfl) ?_
        refine k_icmp_ne (tgt := 50) hx hb (a := f_lf t i) (b := j) (by have := hlf i (by omega); omega) (by omega) dX1_contentAfter_39 (by decide) (fun h_39 => ?_) (fun h_39 => ?_)
        · refine lv_iinc (v := nI (i + 1)) (lv' := [(4, .int (nI (i + 1))), (0, .ref (ad 1 0)), (1, .int (nI w)), (2, .int (nI j)), (3, .int z)]) hx hb dX1_contentAfter_50 hl (k := 4) rfl (nI_add _ _) (by decide) rfl (fun ls hl => ?_)
          refine lv_goto (tgt := 5) hx hb dX1_contentAfter_53 (by decide) ?_
          exact ih (i + 1) z (by omega) (by omega) (by rw [hz, k_log, if_neg h_39]) _ _ hW hS _ (lv_sub hl [1, 2, 3, 4, 0] rfl)
        · refine lv_aload_n hx hb dX1_contentAfter_42 rfl (lv_at hl 0 rfl) ?_
          refine k_get (own := RX1) (C := RX1) (T := TX1) (N := 4) hx hb hts hinX1 hown hK hW (kc_1 g ad t) rfl 2 (by decide) (hts (.fieldLink RX1 18 "DrillVault$Files" "changedTo" "[I") (by decide +kernel)) rfl (v := .ref (ad 4 0)) rfl dX1_contentAfter_43 ?_
          refine lv_iload hx hb dX1_contentAfter_46 (lv_at hl 4 rfl) ?_
          refine k_iald hx hb hK hW (kc_4 g ad t) i rfl (by omega) (by decide) dX1_contentAfter_48 ?_
          refine lv_istore_n (lv' := [(3, .int (f_lt t i)), (0, .ref (ad 1 0)), (1, .int (nI w)), (2, .int (nI j)), (4, .int (nI i))]) hx hb dX1_contentAfter_49 rfl hl (by decide) rfl (fun ls hl => ?_)
          refine lv_iinc (v := nI (i + 1)) (lv' := [(4, .int (nI (i + 1))), (3, .int (f_lt t i)), (0, .ref (ad 1 0)), (1, .int (nI w)), (2, .int (nI j))]) hx hb dX1_contentAfter_50 hl (k := 4) rfl (nI_add _ _) (by decide) rfl (fun ls hl => ?_)
          refine lv_goto (tgt := 5) hx hb dX1_contentAfter_53 (by decide) ?_
          exact ih (i + 1) (f_lt t i) (by omega) (by omega) (by rw [k_log, if_pos h_39]) _ _ hW hS _ (lv_sub hl [2, 3, 4, 1, 0] rfl)
  exact hloop_5 (w + 1) 0 (nI 0) (by omega) (by omega) rfl _ _ hW hS _ (lv_sub hl [2, 3, 4, 1, 0] rfl)
abbrev rm_X1_keepAll : Room := { frames := 1, cells := 0, slots := 0, locals := 22 }
set_option maxRecDepth 100000 in
set_option maxHeartbeats 4000000 in
theorem c_X1_keepAll (l : Launch) (hlt : l.stackTraces = false) (g : k_g) (ad : k_AD) (t : k_T) (k : Nat) (hk : k < o_n t) (hfc : ∀ j, j < 10 → f_c t j ≠ -1) (hc : o_kc t k = k_cnt (o_k t k)) : Met l yX1_keepAll wsX1_keepAll rm_X1_keepAll (va_Pc [.ref (ad 1 0), .ref (ad 25 k)] (k_I g (k_ct g ad t) ad)) (va_Qv (fun u => u = set_o_k (set_o_kc t (va_up (o_kc t) k (k_cnt (fun j => if j < 10 then (f_c t) j else o_k t k j)))) (va_up (o_k t) k (fun j => if j < 10 then (f_c t) j else o_k t k j))) (fun u U => k_H g ad u U.heap) (k_A g)) 0 0 (k_A g) := by
  refine k_met (cc := cX1_keepAll) (maxL := 3) (ret := none) (by decide) rfl (Nat.le_of_ble_eq_true rfl) (fun p e s m args below meth c Q ls hQ hx hb hr hml hts hown hlk hin hK hZ hN hW hS hl => ?_)
  have hown : s.vm.findClass RX1 = some m.cls := hown
  have hW : k_H g ad t s.heap := hW
  have hl : lv_has ls 3 [(0, .ref (ad 1 0)), (1, .ref (ad 25 k))] := hl
  have hinX1 : ∀ w ∈ wsX10, w ∈ wsX1_keepAll := by decide +kernel
  refine lv_iconst (v := nI 0) hx hb dX1_keepAll_0 (by decide) ?_
  refine lv_istore_n (lv' := [(2, .int (nI 0)), (0, .ref (ad 1 0)), (1, .ref (ad 25 k))]) hx hb dX1_keepAll_1 rfl hl (by decide) rfl (fun ls hl => ?_)
  have hloop_2 : ∀ (n : Nat) (i : Nat) (K : Nat → Int32), (10 < i + n) → (i ≤ 10) → (∀ f, K f = if f < i then f_c t f else o_k t k f) → ∀ (H : Heap) (locs : List Loc), k_H g ad (set_o_k (set_o_kc t (va_up (o_kc t) k (k_cnt K))) (va_up (o_k t) k K)) H → va_S (k_A g) s.heap H locs → ∀ (ls : Array Slot), lv_has ls 3 [(0, .ref (ad 1 0)), (1, .ref (ad 25 k)), (2, .int (nI i))] → W p l e rm_X1_keepAll s m args below meth c H locs 0 0 Q (F0 m 2 ls []) := by
    intro n
    induction n with
    | zero =>
      intro i K hfu hi hKf
      exact absurd hfu (by omega)
    | succ n ih =>
      intro i K hfu hi hKf H locs hW hS ls hl
      refine lv_iload_n hx hb dX1_keepAll_2 rfl (lv_at hl 2 rfl) ?_
      refine lv_aload_n hx hb dX1_keepAll_3 rfl (lv_at hl 0 rfl) ?_
      refine k_get (own := RX1) (C := RX1) (T := TX1) (N := 4) hx hb hts hinX1 hown hK hW (kc_1 g ad (set_o_k (set_o_kc t (va_up (o_kc t) k (k_cnt K))) (va_up (o_k t) k K))) rfl 0 (by decide) (hts (.fieldLink RX1 9 "DrillVault$Files" "contents" "[I") (by decide +kernel)) rfl (v := .ref (ad 2 0)) rfl dX1_keepAll_4 ?_
      refine k_alen hx hb hK hW 0 rfl (kc_2 g ad (set_o_k (set_o_kc t (va_up (o_kc t) k (k_cnt K))) (va_up (o_k t) k K))) (v := nI 10) rfl dX1_keepAll_7 ?_
      refine k_icmp_ge (tgt := 28) hx hb (a := i) (b := 10) (by omega) (by decide) dX1_keepAll_8 (by decide) (fun h_8 => ?_) (fun h_8 => ?_)
      · exact k_rv hQ hx hb hr hlk hS hW (by rw [show K = (fun j => if j < 10 then f_c t j else o_k t k j) from funext fun f => by rw [hKf, show i = 10 by omega]]) (Nat.le_of_ble_eq_true rfl) (Nat.le_of_ble_eq_true rfl) dX1_keepAll_28
      · refine lv_aload_n hx hb dX1_keepAll_11 rfl (lv_at hl 1 rfl) ?_
        refine lv_iload_n hx hb dX1_keepAll_12 rfl (lv_at hl 2 rfl) ?_
        refine lv_aload_n hx hb dX1_keepAll_13 rfl (lv_at hl 0 rfl) ?_
        refine k_get (own := RX1) (C := RX1) (T := TX1) (N := 4) hx hb hts hinX1 hown hK hW (kc_1 g ad (set_o_k (set_o_kc t (va_up (o_kc t) k (k_cnt K))) (va_up (o_k t) k K))) rfl 0 (by decide) (hts (.fieldLink RX1 9 "DrillVault$Files" "contents" "[I") (by decide +kernel)) rfl (v := .ref (ad 2 0)) rfl dX1_keepAll_14 ?_
        refine lv_iload_n hx hb dX1_keepAll_17 rfl (lv_at hl 2 rfl) ?_
        refine k_iald hx hb hK hW (kc_2 g ad (set_o_k (set_o_kc t (va_up (o_kc t) k (k_cnt K))) (va_up (o_k t) k K))) i rfl (by omega) (by decide) dX1_keepAll_18 ?_
        refine k_cv (va_runV (As := [.int (nI i), .int (f_c t i)]) (rest := []) ⟨hx, hb, hml, hown, hts⟩ (c_X0_keep l hlt g ad (set_o_k (set_o_kc t (va_up (o_kc t) k (k_cnt K))) (va_up (o_k t) k K)) k i (f_c t i) hk (by omega) (hfc i (by omega)) (by show va_up (o_kc t) k (k_cnt K) k = k_cnt (va_up (o_k t) k K k); rw [va_up_self, va_up_self])) (cwV 2 hts gX1_keepAll_X0_keep rfl rfl rfl (by decide +kernel) ⟨(Nat.le_of_ble_eq_true rfl), (Nat.le_of_ble_eq_true rfl)⟩) ⟨k_blind, k_recv hK hW (kc_25 g ad (set_o_k (set_o_kc t (va_up (o_kc t) k (k_cnt K))) (va_up (o_k t) k K)) hk) rfl, fun U hU hw => ⟨rfl, k_I.of hK hZ hN hS hW hU hw⟩⟩ rfl rfl hl.1 rfl (lv_room (Nat.le_of_ble_eq_true rfl)) dX1_keepAll_19 ⟨(Nat.le_of_ble_eq_true rfl), (Nat.le_of_ble_eq_true rfl)⟩) hS (fun u H locs hpo hW hS => ?_)
        have hu9 := hpo.symm; subst hu9
        have hW : k_H g ad (set_o_k (set_o_kc t (va_up (va_up (o_kc t) k (k_cnt K)) k (k_cnt (va_up ((va_up (o_k t) k K) k) i (f_c t i))))) (va_up (va_up (o_k t) k K) k (va_up ((va_up (o_k t) k K) k) i (f_c t i)))) H := hW
        simp only [bx_uu, va_up_self] at hW
        have hW : k_H g ad (set_o_k (set_o_kc t (va_up (o_kc t) k (k_cnt (va_up K i (f_c t i))))) (va_up (o_k t) k (va_up K i (f_c t i)))) H := hW
        refine lv_iinc (v := nI (i + 1)) (lv' := [(2, .int (nI (i + 1))), (0, .ref (ad 1 0)), (1, .ref (ad 25 k))]) hx hb dX1_keepAll_22 hl (k := 2) rfl (nI_add _ _) (by decide) rfl (fun ls hl => ?_)
        refine lv_goto (tgt := 2) hx hb dX1_keepAll_25 (by decide) ?_
        exact ih (i + 1) (va_up K i (f_c t i)) (by omega) (by omega) (k_ka_step hKf) _ _ hW hS _ (lv_sub hl [1, 2, 0] rfl)
  have hW : k_H g ad (set_o_k (set_o_kc t (va_up (o_kc t) k (k_cnt (o_k t k)))) (va_up (o_k t) k (o_k t k))) s.heap := by rw [← hc, k_up_id, k_up_id]; exact hW
  exact hloop_2 11 0 (o_k t k) (by omega) (by omega) (fun f => by simp) _ _ hW hS _ (lv_sub hl [1, 2, 0] rfl)
abbrev rm_X1_keepChanged : Room := { frames := 1, cells := 0, slots := 0, locals := 22 }
set_option maxRecDepth 100000 in
set_option maxHeartbeats 4000000 in
theorem c_X1_keepChanged (l : Launch) (hlt : l.stackTraces = false) (g : k_g) (ad : k_AD) (t : k_T) (k : Nat) (a : Nat) (hk : k < o_n t) (hn : f_n t ≤ 300) (ha : a ≤ f_n t) (hfc : ∀ j, j < 10 → f_c t j ≠ -1) (hlf : ∀ i, i < f_n t → f_lf t i < 10) (hc : o_kc t k = k_cnt (o_k t k)) : Met l yX1_keepChanged wsX1_keepChanged rm_X1_keepChanged (va_Pc [.ref (ad 1 0), .ref (ad 25 k), .int (nI a)] (k_I g (k_ct g ad t) ad)) (va_Qv (fun u => u = set_o_k (set_o_kc t (va_up (o_kc t) k (k_cnt (fun j => if k_chd (f_lf t) a (f_n t) j = true then (f_c t) j else o_k t k j)))) (va_up (o_k t) k (fun j => if k_chd (f_lf t) a (f_n t) j = true then (f_c t) j else o_k t k j))) (fun u U => k_H g ad u U.heap) (k_A g)) 0 0 (k_A g) := by
  refine k_met (cc := cX1_keepChanged) (maxL := 4) (ret := none) (by decide) rfl (Nat.le_of_ble_eq_true rfl) (fun p e s m args below meth c Q ls hQ hx hb hr hml hts hown hlk hin hK hZ hN hW hS hl => ?_)
  have hown : s.vm.findClass RX1 = some m.cls := hown
  have hW : k_H g ad t s.heap := hW
  have hl : lv_has ls 4 [(0, .ref (ad 1 0)), (1, .ref (ad 25 k)), (2, .int (nI a))] := hl
  have hinX1 : ∀ w ∈ wsX10, w ∈ wsX1_keepChanged := by decide +kernel
  refine lv_iload_n hx hb dX1_keepChanged_0 rfl (lv_at hl 2 rfl) ?_
  refine lv_iconst (v := nI 0) hx hb dX1_keepChanged_1 (by decide) ?_
  refine va_mmax hx hb (hml.trans hl.1.symm) hown (hts (.methodLink RX1 31 Lib.Math.max.name) (by decide +kernel)) (hts (.static Lib.Math.max.name) (by decide +kernel)) (hts (.initialized "java/lang/Math") (by decide +kernel)) (hts (.code Lib.Math.max.name Lib.Math.max.code 2 (some .int)) (by decide +kernel)) (Nat.le_of_ble_eq_true rfl) (Nat.le_of_ble_eq_true rfl) (Nat.le_of_ble_eq_true rfl) (Nat.le_of_ble_eq_true rfl) dX1_keepChanged_2 ?_
  refine k_toi (y := nI a) (if_neg (nI_nlt (Nat.zero_le _) (by omega))) ?_
  refine lv_istore_n (lv' := [(3, .int (nI a)), (0, .ref (ad 1 0)), (1, .ref (ad 25 k)), (2, .int (nI a))]) hx hb dX1_keepChanged_5 rfl hl (by decide) rfl (fun ls hl => ?_)
  have hloop_6 : ∀ (n : Nat) (i : Nat) (K : Nat → Int32), (f_n t < i + n) → (i ≤ f_n t) → (a ≤ i) → (∀ f, K f = if k_chd (f_lf t) a i f = true then f_c t f else o_k t k f) → ∀ (H : Heap) (locs : List Loc), k_H g ad (set_o_k (set_o_kc t (va_up (o_kc t) k (k_cnt K))) (va_up (o_k t) k K)) H → va_S (k_A g) s.heap H locs → ∀ (ls : Array Slot), lv_has ls 4 [(0, .ref (ad 1 0)), (1, .ref (ad 25 k)), (3, .int (nI i))] → W p l e rm_X1_keepChanged s m args below meth c H locs 0 0 Q (F0 m 6 ls []) := by
    intro n
    induction n with
    | zero =>
      intro i K hfu hi hai hKf
      exact absurd hfu (by omega)
    | succ n ih =>
      intro i K hfu hi hai hKf H locs hW hS ls hl
      refine lv_iload_n hx hb dX1_keepChanged_6 rfl (lv_at hl 2 rfl) ?_
      refine lv_aload_n hx hb dX1_keepChanged_7 rfl (lv_at hl 0 rfl) ?_
      refine k_get (own := RX1) (C := RX1) (T := TX1) (N := 4) hx hb hts hinX1 hown hK hW (kc_1 g ad (set_o_k (set_o_kc t (va_up (o_kc t) k (k_cnt K))) (va_up (o_k t) k K))) rfl 3 (by decide) (hts (.fieldLink RX1 21 "DrillVault$Files" "changes" "I") (by decide +kernel)) rfl (v := .int (nI (f_n t))) rfl dX1_keepChanged_8 ?_
      refine k_icmp_ge (tgt := 49) hx hb (a := i) (b := f_n t) (by omega) (by omega) dX1_keepChanged_11 (by decide) (fun h_11 => ?_) (fun h_11 => ?_)
      · exact k_rv hQ hx hb hr hlk hS hW (by rw [show K = (fun j => if k_chd (f_lf t) a (f_n t) j = true then f_c t j else o_k t k j) from funext fun f => by rw [hKf, show i = f_n t by omega]]) (Nat.le_of_ble_eq_true rfl) (Nat.le_of_ble_eq_true rfl) dX1_keepChanged_49
      · refine lv_iload_n hx hb dX1_keepChanged_14 rfl (lv_at hl 2 rfl) ?_
        refine lv_aload_n hx hb dX1_keepChanged_15 rfl (lv_at hl 0 rfl) ?_
        refine k_get (own := RX1) (C := RX1) (T := TX1) (N := 4) hx hb hts hinX1 hown hK hW (kc_1 g ad (set_o_k (set_o_kc t (va_up (o_kc t) k (k_cnt K))) (va_up (o_k t) k K))) rfl 1 (by decide) (hts (.fieldLink RX1 15 "DrillVault$Files" "changedFiles" "[I") (by decide +kernel)) rfl (v := .ref (ad 3 0)) rfl dX1_keepChanged_16 ?_
        refine k_alen hx hb hK hW 0 rfl (kc_3 g ad (set_o_k (set_o_kc t (va_up (o_kc t) k (k_cnt K))) (va_up (o_k t) k K))) (v := nI 300) rfl dX1_keepChanged_19 ?_
        refine k_icmp_ge (tgt := 49) hx hb (a := i) (b := 300) (by omega) (by decide) dX1_keepChanged_20 (by decide) (fun h_20 => absurd h_20 (by omega)) (fun h_20 => ?_)
        refine lv_aload_n hx hb dX1_keepChanged_23 rfl (lv_at hl 1 rfl) ?_
        refine lv_aload_n hx hb dX1_keepChanged_24 rfl (lv_at hl 0 rfl) ?_
        refine k_get (own := RX1) (C := RX1) (T := TX1) (N := 4) hx hb hts hinX1 hown hK hW (kc_1 g ad (set_o_k (set_o_kc t (va_up (o_kc t) k (k_cnt K))) (va_up (o_k t) k K))) rfl 1 (by decide) (hts (.fieldLink RX1 15 "DrillVault$Files" "changedFiles" "[I") (by decide +kernel)) rfl (v := .ref (ad 3 0)) rfl dX1_keepChanged_25 ?_
        refine lv_iload_n hx hb dX1_keepChanged_28 rfl (lv_at hl 2 rfl) ?_
        refine k_iald hx hb hK hW (kc_3 g ad (set_o_k (set_o_kc t (va_up (o_kc t) k (k_cnt K))) (va_up (o_k t) k K))) i rfl (by omega) (by decide) dX1_keepChanged_29 ?_
        refine lv_aload_n hx hb dX1_keepChanged_30 rfl (lv_at hl 0 rfl) ?_
        refine lv_aload_n hx hb dX1_keepChanged_31 rfl (lv_at hl 0 rfl) ?_
        refine k_get (own := RX1) (C := RX1) (T := TX1) (N := 4) hx hb hts hinX1 hown hK hW (kc_1 g ad (set_o_k (set_o_kc t (va_up (o_kc t) k (k_cnt K))) (va_up (o_k t) k K))) rfl 1 (by decide) (hts (.fieldLink RX1 15 "DrillVault$Files" "changedFiles" "[I") (by decide +kernel)) rfl (v := .ref (ad 3 0)) rfl dX1_keepChanged_32 ?_
        refine lv_iload_n hx hb dX1_keepChanged_35 rfl (lv_at hl 2 rfl) ?_
        refine k_iald hx hb hK hW (kc_3 g ad (set_o_k (set_o_kc t (va_up (o_kc t) k (k_cnt K))) (va_up (o_k t) k K))) i rfl (by omega) (by decide) dX1_keepChanged_36 ?_
        refine k_ci (va_runV (As := [.int (nI (f_lf t i))]) (rest := [.int (nI (f_lf t i)), .ref (ad 25 k)]) ⟨hx, hb, hml, hown, hts⟩ (c_X1_contentNow l hlt g ad (set_o_k (set_o_kc t (va_up (o_kc t) k (k_cnt K))) (va_up (o_k t) k K)) (f_lf t i) (hlf i (by omega))) (cwV 1 hts gX1_keepChanged_X1_contentNow rfl rfl rfl (by decide +kernel) ⟨(Nat.le_of_ble_eq_true rfl), (Nat.le_of_ble_eq_true rfl)⟩) ⟨k_blind, k_recv hK hW (kc_1 g ad (set_o_k (set_o_kc t (va_up (o_kc t) k (k_cnt K))) (va_up (o_k t) k K))) rfl, fun U hU hw => ⟨rfl, k_I.of hK hZ hN hS hW hU hw⟩⟩ rfl rfl hl.1 rfl (lv_room (Nat.le_of_ble_eq_true rfl)) dX1_keepChanged_37 ⟨(Nat.le_of_ble_eq_true rfl), (Nat.le_of_ble_eq_true rfl)⟩) hS (fun r u H locs hpo hW hS => ?_)
        obtain ⟨hr9, hu9⟩ := hpo; replace hu9 := hu9.symm; subst hu9; replace hr9 := hr9.symm; subst hr9
        refine k_cv (va_runV (As := [.int (nI (f_lf t i)), .int (f_c t (f_lf t i))]) (rest := []) ⟨hx, hb, hml, hown, hts⟩ (c_X0_keep l hlt g ad (set_o_k (set_o_kc t (va_up (o_kc t) k (k_cnt K))) (va_up (o_k t) k K)) k (f_lf t i) (f_c t (f_lf t i)) hk (hlf i (by omega)) (hfc _ (hlf i (by omega))) (by show va_up (o_kc t) k (k_cnt K) k = k_cnt (va_up (o_k t) k K k); rw [va_up_self, va_up_self])) (cwV 2 hts gX1_keepChanged_X0_keep rfl rfl rfl (by decide +kernel) ⟨(Nat.le_of_ble_eq_true rfl), (Nat.le_of_ble_eq_true rfl)⟩) ⟨k_blind, k_recv hK hW (kc_25 g ad (set_o_k (set_o_kc t (va_up (o_kc t) k (k_cnt K))) (va_up (o_k t) k K)) hk) rfl, fun U hU hw => ⟨rfl, k_I.of hK hZ hN hS hW hU hw⟩⟩ rfl rfl hl.1 rfl (lv_room (Nat.le_of_ble_eq_true rfl)) dX1_keepChanged_40 ⟨(Nat.le_of_ble_eq_true rfl), (Nat.le_of_ble_eq_true rfl)⟩) hS (fun u H locs hpo hW hS => ?_)
        have hu9 := hpo.symm; subst hu9
        have hW : k_H g ad (set_o_k (set_o_kc t (va_up (va_up (o_kc t) k (k_cnt K)) k (k_cnt (va_up ((va_up (o_k t) k K) k) (f_lf t i) (f_c t (f_lf t i)))))) (va_up (va_up (o_k t) k K) k (va_up ((va_up (o_k t) k K) k) (f_lf t i) (f_c t (f_lf t i))))) H := hW
        simp only [bx_uu, va_up_self] at hW
        have hW : k_H g ad (set_o_k (set_o_kc t (va_up (o_kc t) k (k_cnt (va_up K (f_lf t i) (f_c t (f_lf t i)))))) (va_up (o_k t) k (va_up K (f_lf t i) (f_c t (f_lf t i))))) H := hW
        refine lv_iinc (v := nI (i + 1)) (lv' := [(3, .int (nI (i + 1))), (0, .ref (ad 1 0)), (1, .ref (ad 25 k))]) hx hb dX1_keepChanged_43 hl (k := 2) rfl (nI_add _ _) (by decide) rfl (fun ls hl => ?_)
        refine lv_goto (tgt := 6) hx hb dX1_keepChanged_46 (by decide) ?_
        exact ih (i + 1) (va_up K (f_lf t i) (f_c t (f_lf t i))) (by omega) (by omega) (by omega) (k_kc_step hai hKf) _ _ hW hS _ (lv_sub hl [1, 2, 0] rfl)
  have hW : k_H g ad (set_o_k (set_o_kc t (va_up (o_kc t) k (k_cnt (o_k t k)))) (va_up (o_k t) k (o_k t k))) s.heap := by rw [← hc, k_up_id, k_up_id]; exact hW
  exact hloop_6 (f_n t + 1) a (o_k t k) (by omega) (by omega) (by omega) (fun f => by rw [k_chd_0 (Nat.le_refl _)]; rfl) _ _ hW hS _ (lv_sub hl [1, 2, 0] rfl)
